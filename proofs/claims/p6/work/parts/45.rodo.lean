
/-- a sum of heads -/
def hs (r : Nat → Int32) : Int := (r 0).toInt + (r 1).toInt + (r 2).toInt + (r 3).toInt + (r 4).toInt + (r 5).toInt
theorem hs_nn {v : Nat → Nat → Int32} (hv : Ir v) : 0 ≤ hs (v 3) := by
  have h0 := hv 3 0 5 rfl
  have h1 := hv 3 1 5 rfl
  have h2 := hv 3 2 5 rfl
  have h3 := hv 3 3 5 rfl
  have h4 := hv 3 4 5 rfl
  have h5 := hv 3 5 5 rfl
  unfold hs
  omega
theorem hs_1 {r : Nat → Int32} {a : Nat} {x : Int32} (ha : a < 6) : hs (upd r a x) = hs r - (r a).toInt + x.toInt := by
  unfold hs
  rcases (show a = 0 ∨ a = 1 ∨ a = 2 ∨ a = 3 ∨ a = 4 ∨ a = 5 by omega) with rfl | rfl | rfl | rfl | rfl | rfl
  · rw [show upd r 0 x 0 = x from pk_us, show upd r 0 x 1 = r 1 from pk_un (by decide), show upd r 0 x 2 = r 2 from pk_un (by decide), show upd r 0 x 3 = r 3 from pk_un (by decide), show upd r 0 x 4 = r 4 from pk_un (by decide), show upd r 0 x 5 = r 5 from pk_un (by decide)]
    omega
  · rw [show upd r 1 x 0 = r 0 from pk_un (by decide), show upd r 1 x 1 = x from pk_us, show upd r 1 x 2 = r 2 from pk_un (by decide), show upd r 1 x 3 = r 3 from pk_un (by decide), show upd r 1 x 4 = r 4 from pk_un (by decide), show upd r 1 x 5 = r 5 from pk_un (by decide)]
    omega
  · rw [show upd r 2 x 0 = r 0 from pk_un (by decide), show upd r 2 x 1 = r 1 from pk_un (by decide), show upd r 2 x 2 = x from pk_us, show upd r 2 x 3 = r 3 from pk_un (by decide), show upd r 2 x 4 = r 4 from pk_un (by decide), show upd r 2 x 5 = r 5 from pk_un (by decide)]
    omega
  · rw [show upd r 3 x 0 = r 0 from pk_un (by decide), show upd r 3 x 1 = r 1 from pk_un (by decide), show upd r 3 x 2 = r 2 from pk_un (by decide), show upd r 3 x 3 = x from pk_us, show upd r 3 x 4 = r 4 from pk_un (by decide), show upd r 3 x 5 = r 5 from pk_un (by decide)]
    omega
  · rw [show upd r 4 x 0 = r 0 from pk_un (by decide), show upd r 4 x 1 = r 1 from pk_un (by decide), show upd r 4 x 2 = r 2 from pk_un (by decide), show upd r 4 x 3 = r 3 from pk_un (by decide), show upd r 4 x 4 = x from pk_us, show upd r 4 x 5 = r 5 from pk_un (by decide)]
    omega
  · rw [show upd r 5 x 0 = r 0 from pk_un (by decide), show upd r 5 x 1 = r 1 from pk_un (by decide), show upd r 5 x 2 = r 2 from pk_un (by decide), show upd r 5 x 3 = r 3 from pk_un (by decide), show upd r 5 x 4 = r 4 from pk_un (by decide), show upd r 5 x 5 = x from pk_us]
    omega
theorem hs_2 {v : Nat → Nat → Int32} {a b x p q : Int32} (ha : 0 ≤ a.toInt ∧ a.toInt ≤ 5) (hb : 0 ≤ b.toInt ∧ b.toInt ≤ 5) (hp : p = v 3 a.toNatClampNeg) (hq : q = v 3 b.toNatClampNeg) (hn : p.toInt ≠ q.toInt) (h1 : x.toInt ≤ p.toInt) (h2 : x.toInt ≤ q.toInt) : hs (upd (upd (v 3) a.toNatClampNeg x) b.toNatClampNeg x) < hs (v 3) := by
  have na := t_nn ha.1
  have nb := t_nn hb.1
  have hab : b.toNatClampNeg ≠ a.toNatClampNeg := fun e => hn (by rw [hp, hq, e])
  rw [hs_1 (by omega), hs_1 (by omega), pk_un hab, ← hp, ← hq]
  omega
/-- the odometer of the plan -/
def pq (k a b c d e : Int) : Prop := (0 ≤ k → 0 ≤ a ∧ a ≤ 19) ∧ (1 ≤ k → 0 ≤ b ∧ b ≤ 19 ∧ a ≤ 18) ∧ (2 ≤ k → 0 ≤ c ∧ c ≤ 19 ∧ b ≤ 18) ∧ (3 ≤ k → 0 ≤ d ∧ d ≤ 19 ∧ c ≤ 18) ∧ (4 ≤ k → 0 ≤ e ∧ e ≤ 19 ∧ d ≤ 18)
def mq (k a b c d e : Int) : Int := if k < 0 then 0 else if k = 0 then (20 - a) * 194481 else if k = 1 then (19 - a) * 194481 + (20 - b) * 9261 else if k = 2 then (19 - a) * 194481 + (19 - b) * 9261 + (20 - c) * 441 else if k = 3 then (19 - a) * 194481 + (19 - b) * 9261 + (19 - c) * 441 + (20 - d) * 21 else (19 - a) * 194481 + (19 - b) * 9261 + (19 - c) * 441 + (19 - d) * 21 + (20 - e)
def pl (k : Int) (r : Nat → Int32) : Prop := pq k (r 0).toInt (r 1).toInt (r 2).toInt (r 3).toInt (r 4).toInt
def mp (k : Int) (r : Nat → Int32) : Int := mq k (r 0).toInt (r 1).toInt (r 2).toInt (r 3).toInt (r 4).toInt
theorem mq_m (a b c d e : Int) : mq (-1) a b c d e = 0 := rfl
theorem mq_0 (a b c d e : Int) : mq 0 a b c d e = (20 - a) * 194481 := rfl
theorem mq_1 (a b c d e : Int) : mq 1 a b c d e = (19 - a) * 194481 + (20 - b) * 9261 := rfl
theorem mq_2 (a b c d e : Int) : mq 2 a b c d e = (19 - a) * 194481 + (19 - b) * 9261 + (20 - c) * 441 := rfl
theorem mq_3 (a b c d e : Int) : mq 3 a b c d e = (19 - a) * 194481 + (19 - b) * 9261 + (19 - c) * 441 + (20 - d) * 21 := rfl
theorem mq_4 (a b c d e : Int) : mq 4 a b c d e = (19 - a) * 194481 + (19 - b) * 9261 + (19 - c) * 441 + (19 - d) * 21 + (20 - e) := rfl
theorem pl_up {r : Nat → Int32} {k k' x : Int32} (h : pl k.toInt r) (hk : 0 ≤ k.toInt ∧ k.toInt ≤ 3) (ht : (r k.toNatClampNeg).toInt ≤ 18) (e : k'.toInt = k.toInt + 1) (hx : x.toInt = 0) : pl k'.toInt (upd r k'.toNatClampNeg x) ∧ 0 < mp k.toInt r ∧ mp k'.toInt (upd r k'.toNatClampNeg x) < mp k.toInt r := by
  rcases (show k.toInt = 0 ∨ k.toInt = 1 ∨ k.toInt = 2 ∨ k.toInt = 3 by omega) with q | q | q | q
  · have n0 : k.toNatClampNeg = 0 := nt (by omega)
    have n1 : k'.toNatClampNeg = 1 := nt (by omega)
    have q1 : k'.toInt = 1 := by omega
    rw [n0] at ht
    unfold pl at h ⊢
    unfold mp
    rw [n1, show upd r 1 x 0 = r 0 from pk_un (by decide), show upd r 1 x 1 = x from pk_us, show upd r 1 x 2 = r 2 from pk_un (by decide), show upd r 1 x 3 = r 3 from pk_un (by decide), show upd r 1 x 4 = r 4 from pk_un (by decide)]
    rw [q] at h
    rw [q, q1]
    simp only [mq_1, mq_0]
    unfold pq at h ⊢
    omega
  · have n0 : k.toNatClampNeg = 1 := nt (by omega)
    have n1 : k'.toNatClampNeg = 2 := nt (by omega)
    have q1 : k'.toInt = 2 := by omega
    rw [n0] at ht
    unfold pl at h ⊢
    unfold mp
    rw [n1, show upd r 2 x 0 = r 0 from pk_un (by decide), show upd r 2 x 1 = r 1 from pk_un (by decide), show upd r 2 x 2 = x from pk_us, show upd r 2 x 3 = r 3 from pk_un (by decide), show upd r 2 x 4 = r 4 from pk_un (by decide)]
    rw [q] at h
    rw [q, q1]
    simp only [mq_2, mq_1]
    unfold pq at h ⊢
    omega
  · have n0 : k.toNatClampNeg = 2 := nt (by omega)
    have n1 : k'.toNatClampNeg = 3 := nt (by omega)
    have q1 : k'.toInt = 3 := by omega
    rw [n0] at ht
    unfold pl at h ⊢
    unfold mp
    rw [n1, show upd r 3 x 0 = r 0 from pk_un (by decide), show upd r 3 x 1 = r 1 from pk_un (by decide), show upd r 3 x 2 = r 2 from pk_un (by decide), show upd r 3 x 3 = x from pk_us, show upd r 3 x 4 = r 4 from pk_un (by decide)]
    rw [q] at h
    rw [q, q1]
    simp only [mq_3, mq_2]
    unfold pq at h ⊢
    omega
  · have n0 : k.toNatClampNeg = 3 := nt (by omega)
    have n1 : k'.toNatClampNeg = 4 := nt (by omega)
    have q1 : k'.toInt = 4 := by omega
    rw [n0] at ht
    unfold pl at h ⊢
    unfold mp
    rw [n1, show upd r 4 x 0 = r 0 from pk_un (by decide), show upd r 4 x 1 = r 1 from pk_un (by decide), show upd r 4 x 2 = r 2 from pk_un (by decide), show upd r 4 x 3 = r 3 from pk_un (by decide), show upd r 4 x 4 = x from pk_us]
    rw [q] at h
    rw [q, q1]
    simp only [mq_4, mq_3]
    unfold pq at h ⊢
    omega
theorem pl_dn {r : Nat → Int32} {k k' x y : Int32} (h : pl k.toInt r) (hk : 1 ≤ k.toInt ∧ k.toInt ≤ 4) (e : k'.toInt = k.toInt - 1) (ex : y = r k'.toNatClampNeg) (hx : x.toInt = y.toInt + 1) : pl k'.toInt (upd r k'.toNatClampNeg x) ∧ 0 < mp k.toInt r ∧ mp k'.toInt (upd r k'.toNatClampNeg x) < mp k.toInt r := by
  rcases (show k.toInt = 1 ∨ k.toInt = 2 ∨ k.toInt = 3 ∨ k.toInt = 4 by omega) with q | q | q | q
  · have n1 : k'.toNatClampNeg = 0 := nt (by omega)
    have q1 : k'.toInt = 0 := by omega
    rw [n1] at ex
    unfold pl at h ⊢
    unfold mp
    rw [n1, show upd r 0 x 0 = x from pk_us, show upd r 0 x 1 = r 1 from pk_un (by decide), show upd r 0 x 2 = r 2 from pk_un (by decide), show upd r 0 x 3 = r 3 from pk_un (by decide), show upd r 0 x 4 = r 4 from pk_un (by decide)]
    rw [q] at h
    rw [q, q1]
    rw [ex] at hx
    simp only [mq_0, mq_1]
    unfold pq at h ⊢
    omega
  · have n1 : k'.toNatClampNeg = 1 := nt (by omega)
    have q1 : k'.toInt = 1 := by omega
    rw [n1] at ex
    unfold pl at h ⊢
    unfold mp
    rw [n1, show upd r 1 x 0 = r 0 from pk_un (by decide), show upd r 1 x 1 = x from pk_us, show upd r 1 x 2 = r 2 from pk_un (by decide), show upd r 1 x 3 = r 3 from pk_un (by decide), show upd r 1 x 4 = r 4 from pk_un (by decide)]
    rw [q] at h
    rw [q, q1]
    rw [ex] at hx
    simp only [mq_1, mq_2]
    unfold pq at h ⊢
    omega
  · have n1 : k'.toNatClampNeg = 2 := nt (by omega)
    have q1 : k'.toInt = 2 := by omega
    rw [n1] at ex
    unfold pl at h ⊢
    unfold mp
    rw [n1, show upd r 2 x 0 = r 0 from pk_un (by decide), show upd r 2 x 1 = r 1 from pk_un (by decide), show upd r 2 x 2 = x from pk_us, show upd r 2 x 3 = r 3 from pk_un (by decide), show upd r 2 x 4 = r 4 from pk_un (by decide)]
    rw [q] at h
    rw [q, q1]
    rw [ex] at hx
    simp only [mq_2, mq_3]
    unfold pq at h ⊢
    omega
  · have n1 : k'.toNatClampNeg = 3 := nt (by omega)
    have q1 : k'.toInt = 3 := by omega
    rw [n1] at ex
    unfold pl at h ⊢
    unfold mp
    rw [n1, show upd r 3 x 0 = r 0 from pk_un (by decide), show upd r 3 x 1 = r 1 from pk_un (by decide), show upd r 3 x 2 = r 2 from pk_un (by decide), show upd r 3 x 3 = x from pk_us, show upd r 3 x 4 = r 4 from pk_un (by decide)]
    rw [q] at h
    rw [q, q1]
    rw [ex] at hx
    simp only [mq_3, mq_4]
    unfold pq at h ⊢
    omega
theorem pl_in {r : Nat → Int32} {k k' x y : Int32} (h : pl k.toInt r) (hk : 0 ≤ k.toInt ∧ k.toInt ≤ 4) (e : k'.toInt = k.toInt) (ex : y = r k'.toNatClampNeg) (ht : y.toInt ≤ 18) (hx : x.toInt = y.toInt + 1) : pl k'.toInt (upd r k'.toNatClampNeg x) ∧ 0 < mp k.toInt r ∧ mp k'.toInt (upd r k'.toNatClampNeg x) < mp k.toInt r := by
  rcases (show k.toInt = 0 ∨ k.toInt = 1 ∨ k.toInt = 2 ∨ k.toInt = 3 ∨ k.toInt = 4 by omega) with q | q | q | q | q
  · have n1 : k'.toNatClampNeg = 0 := nt (by omega)
    have q1 : k'.toInt = 0 := by omega
    rw [n1] at ex
    unfold pl at h ⊢
    unfold mp
    rw [n1, show upd r 0 x 0 = x from pk_us, show upd r 0 x 1 = r 1 from pk_un (by decide), show upd r 0 x 2 = r 2 from pk_un (by decide), show upd r 0 x 3 = r 3 from pk_un (by decide), show upd r 0 x 4 = r 4 from pk_un (by decide)]
    rw [q] at h
    rw [q, q1]
    rw [ex] at hx ht
    simp only [mq_0]
    unfold pq at h ⊢
    omega
  · have n1 : k'.toNatClampNeg = 1 := nt (by omega)
    have q1 : k'.toInt = 1 := by omega
    rw [n1] at ex
    unfold pl at h ⊢
    unfold mp
    rw [n1, show upd r 1 x 0 = r 0 from pk_un (by decide), show upd r 1 x 1 = x from pk_us, show upd r 1 x 2 = r 2 from pk_un (by decide), show upd r 1 x 3 = r 3 from pk_un (by decide), show upd r 1 x 4 = r 4 from pk_un (by decide)]
    rw [q] at h
    rw [q, q1]
    rw [ex] at hx ht
    simp only [mq_1]
    unfold pq at h ⊢
    omega
  · have n1 : k'.toNatClampNeg = 2 := nt (by omega)
    have q1 : k'.toInt = 2 := by omega
    rw [n1] at ex
    unfold pl at h ⊢
    unfold mp
    rw [n1, show upd r 2 x 0 = r 0 from pk_un (by decide), show upd r 2 x 1 = r 1 from pk_un (by decide), show upd r 2 x 2 = x from pk_us, show upd r 2 x 3 = r 3 from pk_un (by decide), show upd r 2 x 4 = r 4 from pk_un (by decide)]
    rw [q] at h
    rw [q, q1]
    rw [ex] at hx ht
    simp only [mq_2]
    unfold pq at h ⊢
    omega
  · have n1 : k'.toNatClampNeg = 3 := nt (by omega)
    have q1 : k'.toInt = 3 := by omega
    rw [n1] at ex
    unfold pl at h ⊢
    unfold mp
    rw [n1, show upd r 3 x 0 = r 0 from pk_un (by decide), show upd r 3 x 1 = r 1 from pk_un (by decide), show upd r 3 x 2 = r 2 from pk_un (by decide), show upd r 3 x 3 = x from pk_us, show upd r 3 x 4 = r 4 from pk_un (by decide)]
    rw [q] at h
    rw [q, q1]
    rw [ex] at hx ht
    simp only [mq_3]
    unfold pq at h ⊢
    omega
  · have n1 : k'.toNatClampNeg = 4 := nt (by omega)
    have q1 : k'.toInt = 4 := by omega
    rw [n1] at ex
    unfold pl at h ⊢
    unfold mp
    rw [n1, show upd r 4 x 0 = r 0 from pk_un (by decide), show upd r 4 x 1 = r 1 from pk_un (by decide), show upd r 4 x 2 = r 2 from pk_un (by decide), show upd r 4 x 3 = r 3 from pk_un (by decide), show upd r 4 x 4 = x from pk_us]
    rw [q] at h
    rw [q, q1]
    rw [ex] at hx ht
    simp only [mq_4]
    unfold pq at h ⊢
    omega
theorem pl_ex {r : Nat → Int32} {k k' : Int32} (r' : Nat → Int32) (h : pl k.toInt r) (hk : k.toInt = 0) (e : k'.toInt = -1) : pl k'.toInt r' ∧ 0 < mp k.toInt r ∧ mp k'.toInt r' < mp k.toInt r := by
  unfold pl at h ⊢
  unfold mp
  rw [hk] at h
  rw [hk, e, mq_0, mq_m]
  unfold pq at h ⊢
  omega
theorem pl_z {r : Nat → Int32} {k : Int32} (hk : k.toInt = 0) : pl k.toInt (upd r 0 0) := by
  have k0 : (0 : Int32).toInt = 0 := by decide
  unfold pl pq
  rw [hk, pk_us, k0]
  omega
/-- a digit of the odometer below the last one, and the last one -/
theorem pl_b {r : Nat → Int32} {k k' : Int32} (h : pl k.toInt r) (hk : k.toInt ≤ 4) (hk' : 0 ≤ k'.toInt ∧ k'.toInt < k.toInt) : 0 ≤ (r k'.toNatClampNeg).toInt ∧ (r k'.toNatClampNeg).toInt ≤ 18 := by
  unfold pl pq at h
  rcases (show k'.toInt = 0 ∨ k'.toInt = 1 ∨ k'.toInt = 2 ∨ k'.toInt = 3 by omega) with q | q | q | q
  · rw [nt (n := 0) q]
    omega
  · rw [nt (n := 1) q]
    omega
  · rw [nt (n := 2) q]
    omega
  · rw [nt (n := 3) q]
    omega
theorem pl_c {r : Nat → Int32} {k : Int32} (h : pl k.toInt r) (hk : 0 ≤ k.toInt ∧ k.toInt ≤ 4) : 0 ≤ (r k.toNatClampNeg).toInt ∧ (r k.toNatClampNeg).toInt ≤ 19 := by
  unfold pl pq at h
  rcases (show k.toInt = 0 ∨ k.toInt = 1 ∨ k.toInt = 2 ∨ k.toInt = 3 ∨ k.toInt = 4 by omega) with q | q | q | q | q
  · rw [nt (n := 0) q]
    omega
  · rw [nt (n := 1) q]
    omega
  · rw [nt (n := 2) q]
    omega
  · rw [nt (n := 3) q]
    omega
  · rw [nt (n := 4) q]
    omega
/-- a must of a side -/
abbrev ow (s : Nat → Int32) (B : Nat) (sd : Int32) (t : Nat) : Prop := s (B + 5 * t) = sd ∧ s (B + 5 * t + 1) = 1
theorem ow_ix {x0 x2 i : Int32} (h0 : 0 ≤ x0.toInt ∧ x0.toInt ≤ 5) (h2 : 0 ≤ x2.toInt ∧ x2.toInt ≤ 4) (hi : i.toInt = 158 + 25 * x0.toInt + 5 * x2.toInt) : i.toNatClampNeg = 158 + 25 * x0.toNatClampNeg + 5 * x2.toNatClampNeg := by
  have a := t_nn h0.1
  have b := t_nn h2.1
  have c := t_nn (x := i) (by omega)
  omega
theorem ow_jx {x0 x2 i j : Int32} (h0 : 0 ≤ x0.toInt ∧ x0.toInt ≤ 5) (h2 : 0 ≤ x2.toInt ∧ x2.toInt ≤ 4) (hi : i.toInt = 158 + 25 * x0.toInt + 5 * x2.toInt) (hj : j.toInt = i.toInt + 1) : j.toNatClampNeg = 158 + 25 * x0.toNatClampNeg + 5 * x2.toNatClampNeg + 1 := by
  have a := t_nn h0.1
  have b := t_nn h2.1
  have c := t_nn (x := j) (by omega)
  omega
theorem ow_y {s : Nat → Int32} {x0 x1 x2 i j a b : Int32} (h0 : 0 ≤ x0.toInt ∧ x0.toInt ≤ 5) (h2 : 0 ≤ x2.toInt ∧ x2.toInt ≤ 4) (hi : i.toInt = 158 + 25 * x0.toInt + 5 * x2.toInt) (hj : j.toInt = i.toInt + 1) (ea : a = s i.toNatClampNeg) (eb : b = s j.toNatClampNeg) (ca : a.toInt = x1.toInt) (cb : b.toInt = 1) : ow s (158 + 25 * x0.toNatClampNeg) x1 x2.toNatClampNeg := by
  rw [ow_ix h0 h2 hi] at ea
  rw [ow_jx h0 h2 hi hj] at eb
  exact ⟨ea.symm.trans (Int32.toInt_inj.mp ca), eb.symm.trans (Int32.toInt_inj.mp (cb.trans (by decide)))⟩
theorem ow_n {s : Nat → Int32} {x0 x1 x2 i a : Int32} (h0 : 0 ≤ x0.toInt ∧ x0.toInt ≤ 5) (h2 : 0 ≤ x2.toInt ∧ x2.toInt ≤ 4) (hi : i.toInt = 158 + 25 * x0.toInt + 5 * x2.toInt) (ea : a = s i.toNatClampNeg) (ca : a.toInt ≠ x1.toInt) : ¬ ow s (158 + 25 * x0.toNatClampNeg) x1 x2.toNatClampNeg := by
  rw [ow_ix h0 h2 hi] at ea
  intro q
  exact ca (by rw [ea, q.1])
theorem ow_m {s : Nat → Int32} {x0 x1 x2 i j b : Int32} (h0 : 0 ≤ x0.toInt ∧ x0.toInt ≤ 5) (h2 : 0 ≤ x2.toInt ∧ x2.toInt ≤ 4) (hi : i.toInt = 158 + 25 * x0.toInt + 5 * x2.toInt) (hj : j.toInt = i.toInt + 1) (eb : b = s j.toNatClampNeg) (cb : b.toInt ≠ 1) : ¬ ow s (158 + 25 * x0.toNatClampNeg) x1 x2.toNatClampNeg := by
  rw [ow_jx h0 h2 hi hj] at eb
  intro q
  exact cb (by rw [eb, q.2]; decide)
/-- the odometer of the table -/
def dg (s : Nat → Int32) (B : Nat) (sd : Int32) (h : Nat → Int32) (i : Nat) : Int := if ow s B sd i then 24 - (h i).toInt else 0
def ct (t : Int) : Int := if t = 0 then 11881376 else if t = 1 then 456976 else if t = 2 then 17576 else if t = 3 then 676 else if t = 4 then 26 else 1
def mt (d : Nat → Int) (t f : Int) : Int := (if 0 < t then d 0 * 11881376 else 0) + (if 1 < t then d 1 * 456976 else 0) + (if 2 < t then d 2 * 17576 else 0) + (if 3 < t then d 3 * 676 else 0) + (if 4 < t then d 4 * 26 else 0) + (25 - f) * ct t
theorem mt_m (d : Nat → Int) (f : Int) : mt d (-1) f = 0 + 0 + 0 + 0 + 0 + (25 - f) * 1 := rfl
theorem mt_0 (d : Nat → Int) (f : Int) : mt d 0 f = 0 + 0 + 0 + 0 + 0 + (25 - f) * 11881376 := rfl
theorem mt_1 (d : Nat → Int) (f : Int) : mt d 1 f = d 0 * 11881376 + 0 + 0 + 0 + 0 + (25 - f) * 456976 := rfl
theorem mt_2 (d : Nat → Int) (f : Int) : mt d 2 f = d 0 * 11881376 + d 1 * 456976 + 0 + 0 + 0 + (25 - f) * 17576 := rfl
theorem mt_3 (d : Nat → Int) (f : Int) : mt d 3 f = d 0 * 11881376 + d 1 * 456976 + d 2 * 17576 + 0 + 0 + (25 - f) * 676 := rfl
theorem mt_4 (d : Nat → Int) (f : Int) : mt d 4 f = d 0 * 11881376 + d 1 * 456976 + d 2 * 17576 + d 3 * 676 + 0 + (25 - f) * 26 := rfl
theorem mt_5 (d : Nat → Int) (f : Int) : mt d 5 f = d 0 * 11881376 + d 1 * 456976 + d 2 * 17576 + d 3 * 676 + d 4 * 26 + (25 - f) * 1 := rfl
theorem mt_f {s : Nat → Int32} {B : Nat} {sd : Int32} {h h' : Nat → Int32} {t t' f f' r : Int32} (ht : 0 ≤ t.toInt ∧ t.toInt ≤ 4) (ht' : t.toInt < t'.toInt ∧ t'.toInt ≤ 5) (hf : 0 ≤ f.toInt ∧ f.toInt ≤ 24) (hf' : 0 ≤ f'.toInt) (hr : f.toInt ≤ r.toInt ∧ r.toInt ≤ 23) (e1 : ∀ i : Nat, i ≠ t.toNatClampNeg → h' i = h i) (e2 : (h' t.toNatClampNeg).toInt = r.toInt) (hn : ∀ i : Nat, t.toInt < i → (i : Int) < t'.toInt → ¬ ow s B sd i) (hi : ∀ i : Nat, (i : Int) < t.toInt → ow s B sd i → 0 ≤ (h i).toInt ∧ (h i).toInt ≤ 23) : (∀ i : Nat, (i : Int) < t'.toInt → ow s B sd i → 0 ≤ (h' i).toInt ∧ (h' i).toInt ≤ 23) ∧ 0 < mt (dg s B sd h) t.toInt f.toInt ∧ mt (dg s B sd h') t'.toInt f'.toInt < mt (dg s B sd h) t.toInt f.toInt := by
  have n0 := t_nn ht.1
  refine ⟨?_, ?_⟩
  · intro i h1 ho
    by_cases hi0 : i = t.toNatClampNeg
    · rw [hi0, e2]
      omega
    · rw [e1 i hi0]
      by_cases h2 : (i : Int) < t.toInt
      · exact hi i h2 ho
      · exact absurd ho (hn i (by omega) h1)
  · have D0 : ∀ i : Nat, (i : Int) < t.toInt → 0 ≤ dg s B sd h i ∧ dg s B sd h' i = dg s B sd h i := by
      intro i q
      unfold dg
      rw [e1 i (by omega)]
      refine ⟨?_, rfl⟩
      split
      · next ho =>
        have z := hi i q ho
        omega
      · exact Int.le_refl 0
    have D1 : dg s B sd h' t.toNatClampNeg ≤ 24 - r.toInt := by
      unfold dg
      rw [e2]
      split
      · exact Int.le_refl _
      · omega
    have D2 : ∀ i : Nat, t.toInt < i → (i : Int) < t'.toInt → dg s B sd h' i = 0 := fun i a b => if_neg (hn i a b)
    clear hi hn e1 e2
    generalize dg s B sd h = d at D0 ⊢
    generalize dg s B sd h' = d' at D0 D1 D2 ⊢
    have a0 := D0 0
    have a1 := D0 1
    have a2 := D0 2
    have a3 := D0 3
    have b1 := D2 1
    have b2 := D2 2
    have b3 := D2 3
    have b4 := D2 4
    clear D0 D2
    rcases (show t.toInt = 0 ∨ t.toInt = 1 ∨ t.toInt = 2 ∨ t.toInt = 3 ∨ t.toInt = 4 by omega) with q | q | q | q | q
    · rw [nt (n := 0) q] at D1
      rcases (show t'.toInt = 1 ∨ t'.toInt = 2 ∨ t'.toInt = 3 ∨ t'.toInt = 4 ∨ t'.toInt = 5 by omega) with q' | q' | q' | q' | q'
      · rw [q, q', mt_0, mt_1]
        omega
      · rw [q, q', mt_0, mt_2]
        omega
      · rw [q, q', mt_0, mt_3]
        omega
      · rw [q, q', mt_0, mt_4]
        omega
      · rw [q, q', mt_0, mt_5]
        omega
    · rw [nt (n := 1) q] at D1
      rcases (show t'.toInt = 2 ∨ t'.toInt = 3 ∨ t'.toInt = 4 ∨ t'.toInt = 5 by omega) with q' | q' | q' | q'
      · rw [q, q', mt_1, mt_2]
        omega
      · rw [q, q', mt_1, mt_3]
        omega
      · rw [q, q', mt_1, mt_4]
        omega
      · rw [q, q', mt_1, mt_5]
        omega
    · rw [nt (n := 2) q] at D1
      rcases (show t'.toInt = 3 ∨ t'.toInt = 4 ∨ t'.toInt = 5 by omega) with q' | q' | q'
      · rw [q, q', mt_2, mt_3]
        omega
      · rw [q, q', mt_2, mt_4]
        omega
      · rw [q, q', mt_2, mt_5]
        omega
    · rw [nt (n := 3) q] at D1
      rcases (show t'.toInt = 4 ∨ t'.toInt = 5 by omega) with q' | q'
      · rw [q, q', mt_3, mt_4]
        omega
      · rw [q, q', mt_3, mt_5]
        omega
    · rw [nt (n := 4) q] at D1
      have q' : t'.toInt = 5 := by omega
      rw [q, q', mt_4, mt_5]
      omega
theorem mt_b {s : Nat → Int32} {B : Nat} {sd : Int32} {h h' : Nat → Int32} {t t' f f' : Int32} (ht : 0 ≤ t.toInt ∧ t.toInt ≤ 4) (ht' : -1 ≤ t'.toInt ∧ t'.toInt < t.toInt) (hf : 0 ≤ f.toInt ∧ f.toInt ≤ 24) (e1 : ∀ i : Nat, i ≠ t.toNatClampNeg → h' i = h i) (ho : 0 ≤ t'.toInt → ow s B sd t'.toNatClampNeg) (hf' : (t'.toInt < 0 ∧ f'.toInt = 0) ∨ (0 ≤ t'.toInt ∧ f'.toInt = (h' t'.toNatClampNeg).toInt + 1)) (hi : ∀ i : Nat, (i : Int) < t.toInt → ow s B sd i → 0 ≤ (h i).toInt ∧ (h i).toInt ≤ 23) : (∀ i : Nat, (i : Int) < t'.toInt → ow s B sd i → 0 ≤ (h' i).toInt ∧ (h' i).toInt ≤ 23) ∧ 0 < mt (dg s B sd h) t.toInt f.toInt ∧ mt (dg s B sd h') t'.toInt f'.toInt < mt (dg s B sd h) t.toInt f.toInt := by
  have n0 := t_nn ht.1
  refine ⟨?_, ?_⟩
  · intro i h1 ho
    rw [e1 i (by omega)]
    exact hi i (by omega) ho
  · have D0 : ∀ i : Nat, (i : Int) < t.toInt → 0 ≤ dg s B sd h i ∧ dg s B sd h' i = dg s B sd h i := by
      intro i q
      unfold dg
      rw [e1 i (by omega)]
      refine ⟨?_, rfl⟩
      split
      · next ho =>
        have z := hi i q ho
        omega
      · exact Int.le_refl 0
    have D3 : 0 ≤ t'.toInt → dg s B sd h' t'.toNatClampNeg = 24 - (h' t'.toNatClampNeg).toInt := fun q => if_pos (ho q)
    clear hi ho e1
    generalize dg s B sd h = d at D0 ⊢
    generalize dg s B sd h' = d' at D0 D3 ⊢
    have a0 := D0 0
    have a1 := D0 1
    have a2 := D0 2
    have a3 := D0 3
    clear D0
    rcases (show t.toInt = 0 ∨ t.toInt = 1 ∨ t.toInt = 2 ∨ t.toInt = 3 ∨ t.toInt = 4 by omega) with q | q | q | q | q
    · have q' : t'.toInt = -1 := by omega
      rw [q, q', mt_0, mt_m]
      omega
    · rcases (show t'.toInt = -1 ∨ t'.toInt = 0 by omega) with q' | q'
      · rw [q, q', mt_1, mt_m]
        omega
      · rw [nt (n := 0) q'] at D3 hf'; rw [q, q', mt_1, mt_0]
        omega
    · rcases (show t'.toInt = -1 ∨ t'.toInt = 0 ∨ t'.toInt = 1 by omega) with q' | q' | q'
      · rw [q, q', mt_2, mt_m]
        omega
      · rw [nt (n := 0) q'] at D3 hf'; rw [q, q', mt_2, mt_0]
        omega
      · rw [nt (n := 1) q'] at D3 hf'; rw [q, q', mt_2, mt_1]
        omega
    · rcases (show t'.toInt = -1 ∨ t'.toInt = 0 ∨ t'.toInt = 1 ∨ t'.toInt = 2 by omega) with q' | q' | q' | q'
      · rw [q, q', mt_3, mt_m]
        omega
      · rw [nt (n := 0) q'] at D3 hf'; rw [q, q', mt_3, mt_0]
        omega
      · rw [nt (n := 1) q'] at D3 hf'; rw [q, q', mt_3, mt_1]
        omega
      · rw [nt (n := 2) q'] at D3 hf'; rw [q, q', mt_3, mt_2]
        omega
    · rcases (show t'.toInt = -1 ∨ t'.toInt = 0 ∨ t'.toInt = 1 ∨ t'.toInt = 2 ∨ t'.toInt = 3 by omega) with q' | q' | q' | q' | q'
      · rw [q, q', mt_4, mt_m]
        omega
      · rw [nt (n := 0) q'] at D3 hf'; rw [q, q', mt_4, mt_0]
        omega
      · rw [nt (n := 1) q'] at D3 hf'; rw [q, q', mt_4, mt_1]
        omega
      · rw [nt (n := 2) q'] at D3 hf'; rw [q, q', mt_4, mt_2]
        omega
      · rw [nt (n := 3) q'] at D3 hf'; rw [q, q', mt_4, mt_3]
        omega