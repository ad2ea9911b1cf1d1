/-- the reference's cells: 0 the object, 1 s, 2 kept, 3 headOf, 4 planned, 5 tried, 6 best, 7 hours -/
def rc (ad : Nat → Nat) (cy : Nat → ClassId) (k : Nat) (r : Nat → Int32) : va_E := match k with
  | 0 => .inr (8, [.ref (ad 1), .ref (ad 2), .int (r 2), .int (r 3), .ref (ad 3), .int (r 5), .ref (ad 4), .ref (ad 5), .ref (ad 6), .int (r 9), .ref (ad 7)])
  | 1 => .inl (cy 0, 596, .inl r)
  | 2 => .inl (cy 0, 596, .inl r)
  | 3 => .inl (cy 0, 6, .inl r)
  | 4 => .inl (cy 0, 4, .inl r)
  | 5 => .inl (cy 0, 5, .inl r)
  | 6 => .inl (cy 0, 4, .inl r)
  | _ => .inl (cy 0, 6, .inl r)
def wm (ad : Nat → Nat) (cy : Nat → ClassId) (v : Nat → Nat → Int32) : va_W := (List.range 8).map (fun k => (ad k, rc ad cy k (v k)))
theorem wm_at {ad : Nat → Nat} {cy : Nat → ClassId} {v : Nat → Nat → Int32} {k : Nat} {e : va_E} (hk : k < 8) (h : rc ad cy k (v k) = e) : (wm ad cy v)[k]? = some (ad k, e) := by
  unfold wm
  rw [List.getElem?_map, List.getElem?_range hk, ← h]
  rfl
theorem wm_put {ad : Nat → Nat} {cy : Nat → ClassId} {v : Nat → Nat → Int32} {k : Nat} {e : va_E} {r : Nat → Int32} (h : rc ad cy k r = e) : (wm ad cy v).set k (ad k, e) = wm ad cy (upr v k r) := by
  apply List.ext_getElem?
  intro i
  unfold wm
  rw [List.getElem?_set]
  by_cases hi : i < 8
  · by_cases hk : k = i
    · subst hk
      rw [if_pos rfl, List.getElem?_map, List.getElem?_range hi, if_pos (by rw [List.length_map, List.length_range]; exact hi), ← h]
      show _ = some (ad k, rc ad cy k (upr v k r k))
      rw [upr_s]
    · rw [if_neg hk, List.getElem?_map, List.getElem?_map, List.getElem?_range hi]
      show some (ad i, rc ad cy i (v i)) = some (ad i, rc ad cy i (upr v k r i))
      rw [upr_n (fun q => hk q.symm)]
  · have e1 : (List.range 8)[i]? = none := List.getElem?_eq_none (by rw [List.length_range]; omega)
    rw [List.getElem?_map, List.getElem?_map, e1]
    by_cases hk : k = i
    · subst hk
      rw [if_pos rfl, if_neg (by rw [List.length_map, List.length_range]; exact hi)]
      rfl
    · rw [if_neg hk]
      rfl
/-- the numbers that a place of s may hold: 0 to this one -/
def bS (j : Nat) : Option Int := if j = 0 then some 8 else if j = 1 then some 4 else if j = 2 then some 6 else if j = 3 then some 6 else if 32 ≤ j ∧ j < 74 then (if (j - 32) % 7 = 0 ∨ (j - 32) % 7 = 1 then some 7 else if (j - 32) % 7 = 4 ∨ (j - 32) % 7 = 6 then some 5 else none) else if 146 ≤ j ∧ j < 158 then some 5 else if 158 ≤ j ∧ j < 308 then (if (j - 158) % 5 = 0 ∨ (j - 158) % 5 = 1 then some 1 else if (j - 158) % 5 = 3 ∨ (j - 158) % 5 = 4 then some 23 else none) else none
def br (k j : Nat) : Option Int := match k with
  | 0 => if j = 2 then some 1 else if j = 5 then some 4 else none
  | 1 => bS j
  | 2 => bS j
  | 3 => some 5
  | 4 => some 5
  | _ => none
def Ir (v : Nat → Nat → Int32) : Prop := ∀ (k j : Nat) (h : Int), br k j = some h → 0 ≤ (v k j).toInt ∧ (v k j).toInt ≤ h
theorem Ir.put {v : Nat → Nat → Int32} (hv : Ir v) {k j : Nat} {x : Int32} (hx : ∀ h : Int, br k j = some h → 0 ≤ x.toInt ∧ x.toInt ≤ h) : Ir (upr v k (upd (v k) j x)) := by
  intro a b h q
  by_cases ha : a = k
  · subst ha
    rw [upr_s]
    by_cases hb : b = j
    · subst hb
      rw [pk_us]
      exact hx h q
    · rw [pk_un hb]
      exact hv a b h q
  · rw [upr_n ha]
    exact hv a b h q
section RC
variable {ad : Nat → Nat} {cy : Nat → ClassId} {r : Nat → Int32}
theorem rc_0 : rc ad cy 0 r = .inr (8, [.ref (ad 1), .ref (ad 2), .int (r 2), .int (r 3), .ref (ad 3), .int (r 5), .ref (ad 4), .ref (ad 5), .ref (ad 6), .int (r 9), .ref (ad 7)]) := rfl
theorem rc_1 : rc ad cy 1 r = .inl (cy 0, 596, .inl r) := rfl
theorem rc_2 : rc ad cy 2 r = .inl (cy 0, 596, .inl r) := rfl
theorem rc_3 : rc ad cy 3 r = .inl (cy 0, 6, .inl r) := rfl
theorem rc_4 : rc ad cy 4 r = .inl (cy 0, 4, .inl r) := rfl
theorem rc_5 : rc ad cy 5 r = .inl (cy 0, 5, .inl r) := rfl
theorem rc_6 : rc ad cy 6 r = .inl (cy 0, 4, .inl r) := rfl
theorem rc_7 : rc ad cy 7 r = .inl (cy 0, 6, .inl r) := rfl
end RC
theorem t_mul {x y : Int32} (h : -2147483648 ≤ x.toInt * y.toInt ∧ x.toInt * y.toInt < 2147483648) : (x * y).toInt = x.toInt * y.toInt := by
  rw [Int32.toInt_mul]
  exact Int.bmod_eq_of_le (by omega) (by omega)
/-- at, termAt as ints -/
theorem t_at {r x y : Int32} (h : r = 32 + 7 * x + y) (hx : 0 ≤ x.toInt ∧ x.toInt ≤ 5) (hy : 0 ≤ y.toInt ∧ y.toInt ≤ 7) : r.toInt = 32 + 7 * x.toInt + y.toInt := by
  have k7 : (7 : Int32).toInt = 7 := by decide
  have k32 : (32 : Int32).toInt = 32 := by decide
  have e1 : (7 * x : Int32).toInt = 7 * x.toInt := by rw [t_mul (by rw [k7]; omega), k7]
  have e2 : (32 + 7 * x : Int32).toInt = 32 + 7 * x.toInt := by rw [t_add (by rw [e1, k32]; omega), e1, k32]
  rw [h, t_add (by rw [e2]; omega), e2]
theorem t_tm {r x y : Int32} (h : r = 158 + 25 * x + 5 * y) (hx : 0 ≤ x.toInt ∧ x.toInt ≤ 5) (hy : 0 ≤ y.toInt ∧ y.toInt ≤ 5) : r.toInt = 158 + 25 * x.toInt + 5 * y.toInt := by
  have k25 : (25 : Int32).toInt = 25 := by decide
  have k5 : (5 : Int32).toInt = 5 := by decide
  have k158 : (158 : Int32).toInt = 158 := by decide
  have e1 : (25 * x : Int32).toInt = 25 * x.toInt := by rw [t_mul (by rw [k25]; omega), k25]
  have e3 : (5 * y : Int32).toInt = 5 * y.toInt := by rw [t_mul (by rw [k5]; omega), k5]
  have e2 : (158 + 25 * x : Int32).toInt = 158 + 25 * x.toInt := by rw [t_add (by rw [e1, k158]; omega), e1, k158]
  rw [h, t_add (by rw [e2, e3]; omega), e2, e3]
theorem t_nn {x : Int32} (h : 0 ≤ x.toInt) : (x.toNatClampNeg : Int) = x.toInt := by
  show ((x.toInt.toNat : Nat) : Int) = x.toInt
  omega
/-- bounds of s by an index's number -/
theorem bx_0 {x : Int32} {i s : Int} (h : x.toInt = 32 + 7 * i + s) (hi : 0 ≤ i ∧ i ≤ 5) (hs : 0 ≤ s ∧ s ≤ 1) : bS x.toNatClampNeg = some 7 := by
  have e := t_nn (x := x) (by omega)
  unfold bS
  repeat' split
  all_goals first | rfl | (exfalso; omega)
theorem bx_2 {x : Int32} {i s : Int} (h : x.toInt = 32 + 7 * i + s) (hi : 0 ≤ i ∧ i ≤ 5) (hs : s = 2 ∨ s = 3 ∨ s = 5) : bS x.toNatClampNeg = none := by
  have e := t_nn (x := x) (by omega)
  unfold bS
  repeat' split
  all_goals first | rfl | (exfalso; omega)
theorem bx_4 {x : Int32} {i s : Int} (h : x.toInt = 32 + 7 * i + s) (hi : 0 ≤ i ∧ i ≤ 5) (hs : s = 4 ∨ s = 6) : bS x.toNatClampNeg = some 5 := by
  have e := t_nn (x := x) (by omega)
  unfold bS
  repeat' split
  all_goals first | rfl | (exfalso; omega)
theorem bx_m {x : Int32} (h : 146 ≤ x.toInt ∧ x.toInt ≤ 157) : bS x.toNatClampNeg = some 5 := by
  have e := t_nn (x := x) (by omega)
  unfold bS
  repeat' split
  all_goals first | rfl | (exfalso; omega)
theorem bx_t0 {x : Int32} {i s : Int} (h : x.toInt = 158 + 5 * i + s) (hi : 0 ≤ i ∧ i ≤ 29) (hs : s = 0 ∨ s = 1) : bS x.toNatClampNeg = some 1 := by
  have e := t_nn (x := x) (by omega)
  unfold bS
  repeat' split
  all_goals first | rfl | (exfalso; omega)
theorem bx_t2 {x : Int32} {i s : Int} (h : x.toInt = 158 + 5 * i + s) (hi : 0 ≤ i ∧ i ≤ 29) (hs : s = 2) : bS x.toNatClampNeg = none := by
  have e := t_nn (x := x) (by omega)
  unfold bS
  repeat' split
  all_goals first | rfl | (exfalso; omega)
theorem bx_t3 {x : Int32} {i s : Int} (h : x.toInt = 158 + 5 * i + s) (hi : 0 ≤ i ∧ i ≤ 29) (hs : s = 3 ∨ s = 4) : bS x.toNatClampNeg = some 23 := by
  have e := t_nn (x := x) (by omega)
  unfold bS
  repeat' split
  all_goals first | rfl | (exfalso; omega)
theorem bx_n {x : Int32} (h : (4 ≤ x.toInt ∧ x.toInt < 32) ∨ (74 ≤ x.toInt ∧ x.toInt < 146) ∨ 308 ≤ x.toInt) : bS x.toNatClampNeg = none := by
  have e := t_nn (x := x) (by omega)
  unfold bS
  repeat' split
  all_goals first | rfl | (exfalso; omega)
/-- s, kept, isKept and rooms stay -/
def Fq (v u : Nat → Nat → Int32) : Prop := u 1 = v 1 ∧ u 2 = v 2 ∧ u 0 2 = v 0 2 ∧ u 0 3 = v 0 3
theorem Fq.rf {v : Nat → Nat → Int32} : Fq v v := ⟨rfl, rfl, rfl, rfl⟩
theorem Fq.trans {v u w : Nat → Nat → Int32} (h : Fq v u) (g : Fq u w) : Fq v w := ⟨g.1.trans h.1, g.2.1.trans h.2.1, g.2.2.1.trans h.2.2.1, g.2.2.2.trans h.2.2.2⟩
theorem Fq.row {v u : Nat → Nat → Int32} {k : Nat} {r : Nat → Int32} (h : Fq v u) (hk : 3 ≤ k) : Fq v (upr u k r) := by
  unfold Fq
  rw [upr_n (show (1 : Nat) ≠ k by omega), upr_n (show (2 : Nat) ≠ k by omega), upr_n (show (0 : Nat) ≠ k by omega)]
  exact h
theorem Fq.fld {v u : Nat → Nat → Int32} {j : Nat} {x : Int32} (h : Fq v u) (hj : 5 ≤ j) : Fq v (upr u 0 (upd (u 0) j x)) := by
  unfold Fq
  rw [upr_n (show (1 : Nat) ≠ 0 by decide), upr_n (show (2 : Nat) ≠ 0 by decide), upr_s, pk_un (show (2 : Nat) ≠ j by omega), pk_un (show (3 : Nat) ≠ j by omega)]
  exact h
/-- the counts of parties and mediators, kept, isKept and rooms stay -/
def Fk (v u : Nat → Nat → Int32) : Prop := u 1 0 = v 1 0 ∧ u 1 1 = v 1 1 ∧ u 2 = v 2 ∧ u 0 2 = v 0 2 ∧ u 0 3 = v 0 3
theorem Fk.rf {v : Nat → Nat → Int32} : Fk v v := ⟨rfl, rfl, rfl, rfl, rfl⟩
theorem Fk.trans {v u w : Nat → Nat → Int32} (h : Fk v u) (g : Fk u w) : Fk v w := ⟨g.1.trans h.1, g.2.1.trans h.2.1, g.2.2.1.trans h.2.2.1, g.2.2.2.1.trans h.2.2.2.1, g.2.2.2.2.trans h.2.2.2.2⟩
theorem Fq.k {v u : Nat → Nat → Int32} (h : Fq v u) : Fk v u := ⟨congrFun h.1 0, congrFun h.1 1, h.2.1, h.2.2.1, h.2.2.2⟩
theorem Fk.put {v u : Nat → Nat → Int32} {n : Nat} {x : Int32} (h : Fk v u) (hn : 2 ≤ n) : Fk v (upr u 1 (upd (u 1) n x)) := by
  unfold Fk
  rw [upr_n (show (2 : Nat) ≠ 1 by decide), upr_n (show (0 : Nat) ≠ 1 by decide), upr_s, pk_un (show (0 : Nat) ≠ n by omega), pk_un (show (1 : Nat) ≠ n by omega)]
  exact h
