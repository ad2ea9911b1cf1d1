
/-- counting bits by halves, byte by byte -/
def n1 (x M : Nat) : Nat := x - ((x >>> 1) &&& M)
def n2 (x M : Nat) : Nat := (x &&& M) + ((x >>> 2) &&& M)
def n3 (x M : Nat) : Nat := (x + (x >>> 4)) &&& M
def tb (a d : Nat) : Nat := if a.testBit d = true then 1 else 0
def p8 (a : Nat) : Nat := tb a 0 + tb a 1 + tb a 2 + tb a 3 + tb a 4 + tb a 5 + tb a 6 + tb a 7
theorem land_sp {p q r s : Nat} (hp : p < 256) (hr : r < 256) : (p + 256 * q) &&& (r + 256 * s) = (p &&& r) + 256 * (q &&& s) := by
  have hpr : p &&& r < 2 ^ 8 := Nat.and_lt_two_pow p (by omega)
  refine Nat.eq_of_testBit_eq (fun i => ?_)
  rw [Nat.testBit_and, show p + 256 * q = 2 ^ 8 * q + p from by omega, show r + 256 * s = 2 ^ 8 * s + r from by omega, show (p &&& r) + 256 * (q &&& s) = 2 ^ 8 * (q &&& s) + (p &&& r) from by omega, Nat.testBit_two_pow_mul_add q (by omega), Nat.testBit_two_pow_mul_add s (by omega), Nat.testBit_two_pow_mul_add (q &&& s) hpr]
  by_cases h : i < 8
  · rw [if_pos h, if_pos h, if_pos h, Nat.testBit_and]
  · rw [if_neg h, if_neg h, if_neg h, Nat.testBit_and]
theorem sh_d (x k : Nat) : x >>> k = x / 2 ^ k := Nat.shiftRight_eq_div_pow x k
theorem tb_1 : ∀ a : Fin 256, ∀ e : Fin 2, (a.val / 2 + 128 * e.val) &&& 85 = (a.val / 2) &&& 85 ∧ (a.val / 2) &&& 85 ≤ a.val := by decide +kernel
theorem tb_2 : ∀ a : Fin 256, ∀ e : Fin 4, (a.val / 4 + 64 * e.val) &&& 51 = (a.val / 4) &&& 51 := by decide +kernel
theorem tb_3 : ∀ a : Fin 256, ∀ e : Fin 16, (a.val + a.val / 16 + 16 * e.val) &&& 15 = (a.val + a.val / 16) &&& 15 := by decide +kernel
theorem tb_8 : ∀ a : Fin 256, (n1 a.val 85 < 256 ∧ n2 (n1 a.val 85) 51 % 16 ≤ 4 ∧ n2 (n1 a.val 85) 51 / 16 ≤ 4) ∧ n3 (n2 (n1 a.val 85) 51) 15 = p8 a.val ∧ p8 a.val ≤ 8 := by decide +kernel
theorem n1_sp {a y M : Nat} (ha : a < 256) : n1 (a + 256 * y) (85 + 256 * M) = n1 a 85 + 256 * n1 y M := by
  unfold n1
  obtain ⟨t1, t2⟩ := tb_1 ⟨a, ha⟩ ⟨y % 2, by omega⟩
  have t1 : (a / 2 + 128 * (y % 2)) &&& 85 = (a / 2) &&& 85 := t1
  have t2 : (a / 2) &&& 85 ≤ a := t2
  have e : (a + 256 * y) >>> 1 = (a / 2 + 128 * (y % 2)) + 256 * (y / 2) := by
    rw [sh_d]
    omega
  have ea : a >>> 1 = a / 2 := by
    rw [sh_d]
  have ey : y >>> 1 = y / 2 := by
    rw [sh_d]
  rw [e, land_sp (by omega) (by decide), t1, ea, ey]
  have q : (y / 2) &&& M ≤ y / 2 := Nat.and_le_left
  omega
theorem n2_sp {a y M : Nat} (ha : a < 256) : n2 (a + 256 * y) (51 + 256 * M) = n2 a 51 + 256 * n2 y M := by
  unfold n2
  have t1 : (a / 4 + 64 * (y % 4)) &&& 51 = (a / 4) &&& 51 := tb_2 ⟨a, ha⟩ ⟨y % 4, by omega⟩
  have e : (a + 256 * y) >>> 2 = (a / 4 + 64 * (y % 4)) + 256 * (y / 4) := by
    rw [sh_d]
    omega
  have ea : a >>> 2 = a / 4 := by
    rw [sh_d]
  have ey : y >>> 2 = y / 4 := by
    rw [sh_d]
  rw [e, land_sp (p := a) (q := y) (r := 51) (s := M) ha (by decide), land_sp (p := a / 4 + 64 * (y % 4)) (q := y / 4) (r := 51) (s := M) (by omega) (by decide), t1, ea, ey]
  omega
theorem n3_sp {a y M : Nat} (ha : a % 16 ≤ 4 ∧ a / 16 ≤ 4) (hy : y % 16 ≤ 4) : n3 (a + 256 * y) (15 + 256 * M) = n3 a 15 + 256 * n3 y M := by
  unfold n3
  have t1 : (a + a / 16 + 16 * (y % 16)) &&& 15 = (a + a / 16) &&& 15 := tb_3 ⟨a, by omega⟩ ⟨y % 16, by omega⟩
  have e : a + 256 * y + (a + 256 * y) >>> 4 = (a + a / 16 + 16 * (y % 16)) + 256 * (y + y / 16) := by
    rw [sh_d]
    omega
  have ea : a >>> 4 = a / 16 := by
    rw [sh_d]
  have ey : y >>> 4 = y / 16 := by
    rw [sh_d]
  rw [e, land_sp (by omega) (by decide), t1, ea, ey]
/-- three bytes -/
theorem n_sp {a b c : Nat} (ha : a < 256) (hb : b < 256) (hc : c < 256) : n3 (n2 (n1 (a + 256 * (b + 256 * c)) 1431655765) 858993459) 252645135 = p8 a + 256 * (p8 b + 256 * p8 c) := by
  obtain ⟨⟨a1, a2, a3⟩, a4, a5⟩ := tb_8 ⟨a, ha⟩
  obtain ⟨⟨b1, b2, b3⟩, b4, b5⟩ := tb_8 ⟨b, hb⟩
  obtain ⟨⟨c1, c2, c3⟩, c4, c5⟩ := tb_8 ⟨c, hc⟩
  have a1 : n1 a 85 < 256 := a1
  have b1 : n1 b 85 < 256 := b1
  have c1 : n1 c 85 < 256 := c1
  have a2 : n2 (n1 a 85) 51 % 16 ≤ 4 := a2
  have b2 : n2 (n1 b 85) 51 % 16 ≤ 4 := b2
  have c2 : n2 (n1 c 85) 51 % 16 ≤ 4 := c2
  have z1 : n1 c 21845 = n1 c 85 := by
    have q := n1_sp (a := c) (y := 0) (M := 85) hc
    rw [show n1 0 85 = 0 from rfl] at q
    exact q
  have z2 : n2 (n1 c 85) 13107 = n2 (n1 c 85) 51 := by
    have q := n2_sp (a := n1 c 85) (y := 0) (M := 51) c1
    rw [show n2 0 51 = 0 from rfl] at q
    exact q
  have z3 : n3 (n2 (n1 c 85) 51) 3855 = n3 (n2 (n1 c 85) 51) 15 := by
    have q := n3_sp (a := n2 (n1 c 85) 51) (y := 0) (M := 15) ⟨c2, c3⟩ (by decide)
    rw [show n3 0 15 = 0 from rfl] at q
    exact q
  have x1 : n1 (a + 256 * (b + 256 * c)) 1431655765 = n1 a 85 + 256 * (n1 b 85 + 256 * n1 c 85) := by
    have q := n1_sp (a := a) (y := b + 256 * c) (M := 5592405) ha
    have r := n1_sp (a := b) (y := c) (M := 21845) hb
    rw [z1] at r
    have r2 : n1 (b + 256 * c) 5592405 = n1 b 85 + 256 * n1 c 85 := r
    rw [r2] at q
    exact q
  have x2 : n2 (n1 a 85 + 256 * (n1 b 85 + 256 * n1 c 85)) 858993459 = n2 (n1 a 85) 51 + 256 * (n2 (n1 b 85) 51 + 256 * n2 (n1 c 85) 51) := by
    have q := n2_sp (a := n1 a 85) (y := n1 b 85 + 256 * n1 c 85) (M := 3355443) a1
    have r := n2_sp (a := n1 b 85) (y := n1 c 85) (M := 13107) b1
    rw [z2] at r
    have r2 : n2 (n1 b 85 + 256 * n1 c 85) 3355443 = n2 (n1 b 85) 51 + 256 * n2 (n1 c 85) 51 := r
    rw [r2] at q
    exact q
  have x3 : n3 (n2 (n1 a 85) 51 + 256 * (n2 (n1 b 85) 51 + 256 * n2 (n1 c 85) 51)) 252645135 = n3 (n2 (n1 a 85) 51) 15 + 256 * (n3 (n2 (n1 b 85) 51) 15 + 256 * n3 (n2 (n1 c 85) 51) 15) := by
    have q := n3_sp (a := n2 (n1 a 85) 51) (y := n2 (n1 b 85) 51 + 256 * n2 (n1 c 85) 51) (M := 986895) ⟨a2, a3⟩ (by omega)
    have r := n3_sp (a := n2 (n1 b 85) 51) (y := n2 (n1 c 85) 51) (M := 3855) ⟨b2, b3⟩ c2
    rw [z3] at r
    have r2 : n3 (n2 (n1 b 85) 51 + 256 * n2 (n1 c 85) 51) 986895 = n3 (n2 (n1 b 85) 51) 15 + 256 * n3 (n2 (n1 c 85) 51) 15 := r
    rw [r2] at q
    exact q
  have a4 : n3 (n2 (n1 a 85) 51) 15 = p8 a := a4
  have b4 : n3 (n2 (n1 b 85) 51) 15 = p8 b := b4
  have c4 : n3 (n2 (n1 c 85) 51) 15 = p8 c := c4
  rw [x1, x2, x3, a4, b4, c4]
theorem us_n (x : Int32) : (us x 1).toBitVec.toNat = x.toBitVec.toNat >>> 1 ∧ (us x 2).toBitVec.toNat = x.toBitVec.toNat >>> 2 ∧ (us x 4).toBitVec.toNat = x.toBitVec.toNat >>> 4 ∧ (us x 8).toBitVec.toNat = x.toBitVec.toNat >>> 8 ∧ (us x 16).toBitVec.toNat = x.toBitVec.toNat >>> 16 := ⟨rfl, rfl, rfl, rfl, rfl⟩
theorem an_n (x y : Int32) : (x &&& y).toBitVec.toNat = x.toBitVec.toNat &&& y.toBitVec.toNat := BitVec.toNat_and ..
theorem ad_n (x y : Int32) : (x + y).toBitVec.toNat = (x.toBitVec.toNat + y.toBitVec.toNat) % 2 ^ 32 := BitVec.toNat_add ..
theorem su_n (x y : Int32) : (x - y).toBitVec.toNat = (2 ^ 32 - y.toBitVec.toNat + x.toBitVec.toNat) % 2 ^ 32 := BitVec.toNat_sub ..
theorem bc_s {x : Int32} {X : Nat} (hx : x.toBitVec.toNat = X) (hX : X < 16777216) : (bcF x).toInt = ((p8 (X % 256) + p8 (X / 256 % 256) + p8 (X / 65536) : Nat) : Int) := by
  have c1 : (1431655765 : Int32).toBitVec.toNat = 1431655765 := rfl
  have c2 : (858993459 : Int32).toBitVec.toNat = 858993459 := rfl
  have c3 : (252645135 : Int32).toBitVec.toNat = 252645135 := rfl
  have c4 : (63 : Int32).toBitVec.toNat = 63 := rfl
  have sp := n_sp (a := X % 256) (b := X / 256 % 256) (c := X / 65536) (by omega) (by omega) (by omega)
  rw [show X % 256 + 256 * (X / 256 % 256 + 256 * (X / 65536)) = X from by omega] at sp
  have l1 : (X >>> 1) &&& 1431655765 ≤ X >>> 1 := Nat.and_le_left
  have d1 : X >>> 1 = X / 2 := by rw [sh_d]
  have h1 : (bc1 x).toBitVec.toNat = n1 X 1431655765 := by
    unfold bc1 n1
    rw [su_n, an_n, (us_n x).1, c1, hx]
    omega
  have b1 : n1 X 1431655765 ≤ X := Nat.sub_le _ _
  obtain ⟨Y, hY⟩ : ∃ Y : Nat, Y = n1 X 1431655765 := ⟨_, rfl⟩
  rw [← hY] at h1 b1 sp
  have l2 : Y &&& 858993459 ≤ Y := Nat.and_le_left
  have l3 : (Y >>> 2) &&& 858993459 ≤ Y >>> 2 := Nat.and_le_left
  have d2 : Y >>> 2 = Y / 4 := by rw [sh_d]
  have h2 : (bc2 (bc1 x)).toBitVec.toNat = n2 Y 858993459 := by
    unfold bc2 n2
    rw [ad_n, an_n, an_n, (us_n _).2.1, c2, h1]
    omega
  have b2 : n2 Y 858993459 < 33554432 := by
    unfold n2
    omega
  obtain ⟨Z, hZ⟩ : ∃ Z : Nat, Z = n2 Y 858993459 := ⟨_, rfl⟩
  rw [← hZ] at h2 b2 sp
  have d3 : Z >>> 4 = Z / 16 := by rw [sh_d]
  have h3 : (bc3 (bc2 (bc1 x))).toBitVec.toNat = n3 Z 252645135 := by
    unfold bc3 n3
    rw [an_n, ad_n, (us_n _).2.2.1, c3, h2, show (Z + Z >>> 4) % 2 ^ 32 = Z + Z >>> 4 from by omega]
  rw [sp] at h3
  have q1 := (tb_8 ⟨X % 256, by omega⟩).2.2
  have q2 := (tb_8 ⟨X / 256 % 256, by omega⟩).2.2
  have q3 := (tb_8 ⟨X / 65536, by omega⟩).2.2
  obtain ⟨A, hA⟩ : ∃ A : Nat, A = p8 (X % 256) := ⟨_, rfl⟩
  obtain ⟨B, hB⟩ : ∃ B : Nat, B = p8 (X / 256 % 256) := ⟨_, rfl⟩
  obtain ⟨C, hC⟩ : ∃ C : Nat, C = p8 (X / 65536) := ⟨_, rfl⟩
  have q1 : A ≤ 8 := by rw [hA]; exact q1
  have q2 : B ≤ 8 := by rw [hB]; exact q2
  have q3 : C ≤ 8 := by rw [hC]; exact q3
  rw [← hA, ← hB, ← hC] at h3 ⊢
  obtain ⟨w, hw⟩ : ∃ w : Int32, w = bc3 (bc2 (bc1 x)) := ⟨_, rfl⟩
  rw [← hw] at h3
  have h4 : (bc4 w).toBitVec.toNat = (A + B) + 256 * (B + C) + 65536 * C := by
    unfold bc4
    rw [ad_n, (us_n _).2.2.2.1, h3, sh_d]
    omega
  have h5 : (bc5 (bc4 w)).toBitVec.toNat = (A + B + C) + 256 * (B + C) + 65536 * C := by
    have d5 : (A + B + 256 * (B + C) + 65536 * C) >>> 16 = C := by
      rw [sh_d]
      omega
    unfold bc5
    rw [ad_n, (us_n _).2.2.2.2, h4, d5]
    omega
  have h6 : (bcF x).toBitVec.toNat = A + B + C := by
    unfold bcF
    rw [← hw, an_n, h5, c4, show 63 = 2 ^ 6 - 1 from rfl, Nat.and_two_pow_sub_one_eq_mod]
    omega
  rw [ti_n (by omega), h6]
theorem bi_t (x : Int32) {d : Nat} (hd : d < 32) : bi x d = ((tb x.toBitVec.toNat d : Nat) : Int) := by
  by_cases h : bt x d
  · rw [bi_1 h]
    unfold tb
    rw [if_pos ((bt_t x hd).mp h)]
    rfl
  · rw [bi_0 h]
    unfold tb
    rw [if_neg (fun q => h ((bt_t x hd).mpr q))]
    rfl
theorem tb_lo {X d : Nat} (hd : d < 8) : tb X d = tb (X % 256) d := by
  unfold tb
  rw [show X % 256 = X % 2 ^ 8 from rfl, Nat.testBit_mod_two_pow]
  simp [hd]
theorem tb_hi {X d k : Nat} : tb X (k + d) = tb (X / 2 ^ k) d := by
  unfold tb
  rw [← Nat.shiftRight_eq_div_pow, Nat.testBit_shiftRight]
theorem bc_24 {x : Int32} (h : ok24 x) : (bcF x).toInt = cN (bi x) 24 := by
  have z := bv_n h.1
  have a := t_nn h.1
  have l := h.2
  rw [bc_s z (by omega)]
  show _ = 0 + bi x 0 + bi x 1 + bi x 2 + bi x 3 + bi x 4 + bi x 5 + bi x 6 + bi x 7 + bi x 8 + bi x 9 + bi x 10 + bi x 11 + bi x 12 + bi x 13 + bi x 14 + bi x 15 + bi x 16 + bi x 17 + bi x 18 + bi x 19 + bi x 20 + bi x 21 + bi x 22 + bi x 23
  have lo : ∀ d : Nat, d < 8 → bi x d = ((tb (x.toNatClampNeg % 256) d : Nat) : Int) := fun d hd => by
    rw [bi_t x (by omega), z, tb_lo hd]
  have mi : ∀ d : Nat, d < 8 → bi x (8 + d) = ((tb (x.toNatClampNeg / 256 % 256) d : Nat) : Int) := fun d hd => by
    rw [bi_t x (by omega), z, tb_hi (k := 8), tb_lo hd]
  have hi : ∀ d : Nat, d < 8 → bi x (16 + d) = ((tb (x.toNatClampNeg / 65536) d : Nat) : Int) := fun d hd => by
    rw [bi_t x (by omega), z, tb_hi (k := 16)]
  have k0 := lo 0 (by decide)
  have k1 := lo 1 (by decide)
  have k2 := lo 2 (by decide)
  have k3 := lo 3 (by decide)
  have k4 := lo 4 (by decide)
  have k5 := lo 5 (by decide)
  have k6 := lo 6 (by decide)
  have k7 := lo 7 (by decide)
  have k8 := mi 0 (by decide)
  have k9 := mi 1 (by decide)
  have k10 := mi 2 (by decide)
  have k11 := mi 3 (by decide)
  have k12 := mi 4 (by decide)
  have k13 := mi 5 (by decide)
  have k14 := mi 6 (by decide)
  have k15 := mi 7 (by decide)
  have k16 := hi 0 (by decide)
  have k17 := hi 1 (by decide)
  have k18 := hi 2 (by decide)
  have k19 := hi 3 (by decide)
  have k20 := hi 4 (by decide)
  have k21 := hi 5 (by decide)
  have k22 := hi 6 (by decide)
  have k23 := hi 7 (by decide)
  rw [k0, k1, k2, k3, k4, k5, k6, k7, show bi x 8 = _ from k8, show bi x 9 = _ from k9, show bi x 10 = _ from k10, show bi x 11 = _ from k11, show bi x 12 = _ from k12, show bi x 13 = _ from k13, show bi x 14 = _ from k14, show bi x 15 = _ from k15, show bi x 16 = _ from k16, show bi x 17 = _ from k17, show bi x 18 = _ from k18, show bi x 19 = _ from k19, show bi x 20 = _ from k20, show bi x 21 = _ from k21, show bi x 22 = _ from k22, show bi x 23 = _ from k23]
  unfold p8
  omega
