
/-- any bit of any number -/
theorem bt_g (x : Int32) {d : Nat} (hd : d < 32) : bt x d ↔ x.toBitVec.getLsbD d = true := by
  have h : ∀ d : Fin 32, ((Int32.ofNat d.val &&& 31).toBitVec.smod 32).toNat = d.val := by decide +kernel
  have e : (x >>> (Int32.ofNat d &&& 31)).toBitVec = x.toBitVec.sshiftRight d := by
    show x.toBitVec.sshiftRight ((Int32.ofNat d &&& 31).toBitVec.smod 32).toNat = _
    rw [h ⟨d, hd⟩]
  have g : (btx x (Int32.ofNat d)).toBitVec = BitVec.setWidth 32 (BitVec.ofBool (x.toBitVec.getLsbD d)) := by
    show (x >>> (Int32.ofNat d &&& 31)).toBitVec &&& 1#32 = _
    rw [e, BitVec.and_one_eq_setWidth_ofBool_getLsbD, BitVec.getLsbD_sshiftRight]
    simp [hd]
  have t : (btx x (Int32.ofNat d)).toInt = (BitVec.setWidth 32 (BitVec.ofBool (x.toBitVec.getLsbD d))).toInt := by
    rw [← g]
    rfl
  unfold bt
  rw [t]
  cases x.toBitVec.getLsbD d <;> decide
theorem bt_or (x y : Int32) {d : Nat} (hd : d < 32) : bt (x ||| y) d ↔ (bt x d ∨ bt y d) := by
  rw [bt_g _ hd, bt_g _ hd, bt_g _ hd]
  show (x.toBitVec ||| y.toBitVec).getLsbD d = true ↔ _
  rw [BitVec.getLsbD_or, Bool.or_eq_true]
theorem bt_and (x y : Int32) {d : Nat} (hd : d < 32) : bt (x &&& y) d ↔ (bt x d ∧ bt y d) := by
  rw [bt_g _ hd, bt_g _ hd, bt_g _ hd]
  show (x.toBitVec &&& y.toBitVec).getLsbD d = true ↔ _
  rw [BitVec.getLsbD_and, Bool.and_eq_true]
theorem bt_not (x : Int32) {d : Nat} (hd : d < 32) : bt (x ^^^ -1) d ↔ ¬ bt x d := by
  rw [bt_g _ hd, bt_g _ hd]
  show (x.toBitVec ^^^ BitVec.allOnes 32).getLsbD d = true ↔ _
  rw [BitVec.getLsbD_xor, BitVec.getLsbD_allOnes]
  cases x.toBitVec.getLsbD d <;> simp [hd]
/-- numbers of 24 bits -/
def ok24 (x : Int32) : Prop := 0 ≤ x.toInt ∧ x.toInt < 16777216
theorem bt_t (x : Int32) {d : Nat} (hd : d < 32) : bt x d ↔ x.toBitVec.toNat.testBit d = true := by
  rw [bt_g x hd]
  rfl
theorem ti_n {x : Int32} (h : x.toBitVec.toNat < 2147483648) : x.toInt = (x.toBitVec.toNat : Int) := by
  have q : x.toInt = x.toBitVec.toInt := rfl
  rw [q, BitVec.toInt_eq_toNat_cond, if_pos (by omega)]
theorem bv_n {x : Int32} (h : 0 ≤ x.toInt) : x.toBitVec.toNat = x.toNatClampNeg := by
  have z := t_nn h
  have q : x.toInt = x.toBitVec.toInt := rfl
  have c := BitVec.toInt_eq_toNat_cond x.toBitVec
  rw [← q] at c
  have b := x.toBitVec.isLt
  split at c <;> omega
theorem ok24_or {x y : Int32} (hx : ok24 x) (hy : ok24 y) : ok24 (x ||| y) := by
  have zx := bv_n hx.1
  have zy := bv_n hy.1
  have ax := t_nn hx.1
  have ay := t_nn hy.1
  have lx := hx.2
  have ly := hy.2
  have b : x.toBitVec.toNat ||| y.toBitVec.toNat < 2 ^ 24 := Nat.or_lt_two_pow (by omega) (by omega)
  have e : (x ||| y).toBitVec.toNat = x.toBitVec.toNat ||| y.toBitVec.toNat := BitVec.toNat_or ..
  have i := ti_n (x := x ||| y) (by omega)
  exact ⟨by omega, by omega⟩
theorem ok24_and {x y : Int32} (hx : ok24 x) : ok24 (x &&& y) := by
  have zx := bv_n hx.1
  have ax := t_nn hx.1
  have lx := hx.2
  have b : x.toBitVec.toNat &&& y.toBitVec.toNat ≤ x.toBitVec.toNat := Nat.and_le_left
  have e : (x &&& y).toBitVec.toNat = x.toBitVec.toNat &&& y.toBitVec.toNat := BitVec.toNat_and ..
  have i := ti_n (x := x &&& y) (by omega)
  exact ⟨by omega, by omega⟩
