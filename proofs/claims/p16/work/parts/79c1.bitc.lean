
def us (x y : Int32) : Int32 := (x.toUInt32 >>> (y.toUInt32 &&& Int32.toUInt32 31)).toInt32
def bc1 (x : Int32) : Int32 := x - (us x 1 &&& 1431655765)
def bc2 (x : Int32) : Int32 := (x &&& 858993459) + (us x 2 &&& 858993459)
def bc3 (x : Int32) : Int32 := (x + us x 4) &&& 252645135
def bc4 (x : Int32) : Int32 := x + us x 8
def bc5 (x : Int32) : Int32 := x + us x 16
def bcF (x : Int32) : Int32 := bc5 (bc4 (bc3 (bc2 (bc1 x)))) &&& 63
theorem bc_6 : ∀ x : Fin 64, (bcF (Int32.ofNat x.val)).toInt = 0 + bi (Int32.ofNat x.val) 0 + bi (Int32.ofNat x.val) 1 + bi (Int32.ofNat x.val) 2 + bi (Int32.ofNat x.val) 3 + bi (Int32.ofNat x.val) 4 + bi (Int32.ofNat x.val) 5 := by decide +kernel
theorem bc_n {x : Int32} (h : ok6 x) : (bcF x).toInt = cN (bi x) 6 := by
  have z := t_nn h.1
  have l := h.2
  have k := bc_6 ⟨x.toNatClampNeg, by omega⟩
  have e := ofn h.1
  have k2 : (bcF (Int32.ofNat x.toNatClampNeg)).toInt = cN (bi (Int32.ofNat x.toNatClampNeg)) 6 := k
  rw [← e] at k2
  exact k2

set_option maxHeartbeats 4000000 in
set_option maxRecDepth 100000 in
theorem e_bitCount (l : Launch) (x0 : Int32) : Met l yJ6_bitCount_0f7a4 wsJ6_bitCount_0f7a4 ({ frames := 0, cells := 0, slots := 0, locals := 0 }) (va_Pc [.int x0] (fun _ => True)) (va_Qi (fun (r : Int32) (_ : Unit) => r = bcF x0) (fun _ _ => True) (fun _ => False)) 0 0 (fun _ => False) := by
  refine Met.ofW (cc := cJ6_bitCount_0f7a4) (maxL := 1) (ret := (some .int)) (by decide) rfl ?_
  intro p e s m args below meth c s₁ B hml hv
  obtain ⟨rfl, -⟩ := hv
  have hx := B.exec
  have hb := B.bytes
  have hr := B.returns
  have hts := atoms_spec (ws := wsJ6_bitCount_0f7a4) B.pre
  have hown : s.vm.findClass RJ6 = some m.cls := findClass_of_methodNamed B.named
  have hlocks := B.notSynchronized
  have hl := lv_entry ([.int x0]) (n := 1) (Nat.le_of_ble_eq_true rfl)
  rw [lg_entry_eq]
  generalize (lg_sl ([.int x0]) ++ List.replicate (1 - (lg_sl ([.int x0])).length) Slot.unset).toArray = ls at hl ⊢
  have hl : lv_has ls 1 [(0, .int x0)] := hl
  have hS : va_S (fun _ => False) s.heap s.heap [] := va_S.rf
  refine lv_iload_n hx hb dJ6_bitCount_0f7a4_0 rfl (lv_at hl 0 rfl) ?_
  refine lv_iload_n hx hb dJ6_bitCount_0f7a4_1 rfl (lv_at hl 0 rfl) ?_
  refine lv_iconst (v := 1) hx hb dJ6_bitCount_0f7a4_2 (by decide) ?_
  refine lv_iushr (v := _) hx hb dJ6_bitCount_0f7a4_3 rfl ?_
  refine lv_topi (fun x_1 ex_1 => ?_)
  refine lv_ldcw hx hb hown (hts (.constant RJ6 265 (1431655765)) (by decide +kernel)) dJ6_bitCount_0f7a4_4 ?_
  refine lv_iand hx hb dJ6_bitCount_0f7a4_7 ?_
  refine lv_topi (fun x_2 ex_2 => ?_)
  refine lv_isub hx hb dJ6_bitCount_0f7a4_8 ?_
  refine lv_topi (fun x_3 ex_3 => ?_)
  refine lv_istore_n (lv' := [(0, .int x_3)]) hx hb dJ6_bitCount_0f7a4_9 rfl hl (by decide) rfl (fun ls hl => ?_)
  refine lv_iload_n hx hb dJ6_bitCount_0f7a4_10 rfl (lv_at hl 0 rfl) ?_
  refine lv_ldcw hx hb hown (hts (.constant RJ6 266 (858993459)) (by decide +kernel)) dJ6_bitCount_0f7a4_11 ?_
  refine lv_iand hx hb dJ6_bitCount_0f7a4_14 ?_
  refine lv_topi (fun x_4 ex_4 => ?_)
  refine lv_iload_n hx hb dJ6_bitCount_0f7a4_15 rfl (lv_at hl 0 rfl) ?_
  refine lv_iconst (v := 2) hx hb dJ6_bitCount_0f7a4_16 (by decide) ?_
  refine lv_iushr (v := _) hx hb dJ6_bitCount_0f7a4_17 rfl ?_
  refine lv_topi (fun x_5 ex_5 => ?_)
  refine lv_ldcw hx hb hown (hts (.constant RJ6 266 (858993459)) (by decide +kernel)) dJ6_bitCount_0f7a4_18 ?_
  refine lv_iand hx hb dJ6_bitCount_0f7a4_21 ?_
  refine lv_topi (fun x_6 ex_6 => ?_)
  refine lv_iadd hx hb dJ6_bitCount_0f7a4_22 ?_
  refine lv_topi (fun x_7 ex_7 => ?_)
  refine lv_istore_n (lv' := [(0, .int x_7)]) hx hb dJ6_bitCount_0f7a4_23 rfl hl (by decide) rfl (fun ls hl => ?_)
  refine lv_iload_n hx hb dJ6_bitCount_0f7a4_24 rfl (lv_at hl 0 rfl) ?_
  refine lv_iload_n hx hb dJ6_bitCount_0f7a4_25 rfl (lv_at hl 0 rfl) ?_
  refine lv_iconst (v := 4) hx hb dJ6_bitCount_0f7a4_26 (by decide) ?_
  refine lv_iushr (v := _) hx hb dJ6_bitCount_0f7a4_27 rfl ?_
  refine lv_topi (fun x_8 ex_8 => ?_)
  refine lv_iadd hx hb dJ6_bitCount_0f7a4_28 ?_
  refine lv_topi (fun x_9 ex_9 => ?_)
  refine lv_ldcw hx hb hown (hts (.constant RJ6 267 (252645135)) (by decide +kernel)) dJ6_bitCount_0f7a4_29 ?_
  refine lv_iand hx hb dJ6_bitCount_0f7a4_32 ?_
  refine lv_topi (fun x_10 ex_10 => ?_)
  refine lv_istore_n (lv' := [(0, .int x_10)]) hx hb dJ6_bitCount_0f7a4_33 rfl hl (by decide) rfl (fun ls hl => ?_)
  refine lv_iload_n hx hb dJ6_bitCount_0f7a4_34 rfl (lv_at hl 0 rfl) ?_
  refine lv_iload_n hx hb dJ6_bitCount_0f7a4_35 rfl (lv_at hl 0 rfl) ?_
  refine lv_bipush (v := 8) hx hb dJ6_bitCount_0f7a4_36 (by decide) ?_
  refine lv_iushr (v := _) hx hb dJ6_bitCount_0f7a4_38 rfl ?_
  refine lv_topi (fun x_11 ex_11 => ?_)
  refine lv_iadd hx hb dJ6_bitCount_0f7a4_39 ?_
  refine lv_topi (fun x_12 ex_12 => ?_)
  refine lv_istore_n (lv' := [(0, .int x_12)]) hx hb dJ6_bitCount_0f7a4_40 rfl hl (by decide) rfl (fun ls hl => ?_)
  refine lv_iload_n hx hb dJ6_bitCount_0f7a4_41 rfl (lv_at hl 0 rfl) ?_
  refine lv_iload_n hx hb dJ6_bitCount_0f7a4_42 rfl (lv_at hl 0 rfl) ?_
  refine lv_bipush (v := 16) hx hb dJ6_bitCount_0f7a4_43 (by decide) ?_
  refine lv_iushr (v := _) hx hb dJ6_bitCount_0f7a4_45 rfl ?_
  refine lv_topi (fun x_13 ex_13 => ?_)
  refine lv_iadd hx hb dJ6_bitCount_0f7a4_46 ?_
  refine lv_topi (fun x_14 ex_14 => ?_)
  refine lv_istore_n (lv' := [(0, .int x_14)]) hx hb dJ6_bitCount_0f7a4_47 rfl hl (by decide) rfl (fun ls hl => ?_)
  refine lv_iload_n hx hb dJ6_bitCount_0f7a4_48 rfl (lv_at hl 0 rfl) ?_
  refine lv_bipush (v := 63) hx hb dJ6_bitCount_0f7a4_49 (by decide) ?_
  refine lv_iand hx hb dJ6_bitCount_0f7a4_51 ?_
  refine lv_topi (fun x_15 ex_15 => ?_)
  exact W.iret (v := x_15) hx hb hr (fun t ht hW => ⟨⟨x_15, (), rfl, by rw [ex_15, ex_14, ex_13, ex_12, ex_11, ex_10, ex_9, ex_8, ex_7, ex_6, ex_5, ex_4, ex_3, ex_2, ex_1]; rfl, trivial⟩, hS.F ht⟩) hS.2.2 dJ6_bitCount_0f7a4_52
