/-- the reference's cells: 0 the object, 1 s, 2 kept, 3 headOf, 4 planned, 5 tried, 6 best, 7 hours -/
def rc (ad : Nat → Nat) (cy : Nat → ClassId) (k : Nat) (r : Nat → Int32) : va_E := match k with
  | 0 => .inr (8, [.ref (ad 1), .ref (ad 2), .int (r 2), .int (r 3), .ref (ad 3), .int (r 5), .ref (ad 4), .ref (ad 5), .ref (ad 6), .int (r 9), .ref (ad 7)])
  | 1 => .inl (cy 0, 596, .inl r)
  | 2 => .inl (cy 0, 596, .inl r)
  | 3 => .inl (cy 0, 6, .inl r)
  | 4 => .inl (cy 0, 4, .inl r)
  | 5 => .inl (cy 0, 5, .inl r)
  | 6 => .inl (cy 0, 4, .inl r)
  | _ => .inl (cy 0, 6, .inl r)
def wm (ad : Nat → Nat) (cy : Nat → ClassId) (v : Nat → Nat → Int32) : va_W := (List.range 8).map (fun k => (ad k, rc ad cy k (v k)))
theorem wm_at {ad : Nat → Nat} {cy : Nat → ClassId} {v : Nat → Nat → Int32} {k : Nat} {e : va_E} (hk : k < 8) (h : rc ad cy k (v k) = e) : (wm ad cy v)[k]? = some (ad k, e) := by
  unfold wm
  rw [List.getElem?_map, List.getElem?_range hk, ← h]
  rfl
theorem wm_put {ad : Nat → Nat} {cy : Nat → ClassId} {v : Nat → Nat → Int32} {k : Nat} {e : va_E} {r : Nat → Int32} (h : rc ad cy k r = e) : (wm ad cy v).set k (ad k, e) = wm ad cy (upr v k r) := by
  apply List.ext_getElem?
  intro i
  unfold wm
  rw [List.getElem?_set]
  by_cases hi : i < 8
  · by_cases hk : k = i
    · subst hk
      rw [if_pos rfl, List.getElem?_map, List.getElem?_range hi, if_pos (by rw [List.length_map, List.length_range]; exact hi), ← h]
      show _ = some (ad k, rc ad cy k (upr v k r k))
      rw [upr_s]
    · rw [if_neg hk, List.getElem?_map, List.getElem?_map, List.getElem?_range hi]
      show some (ad i, rc ad cy i (v i)) = some (ad i, rc ad cy i (upr v k r i))
      rw [upr_n (fun q => hk q.symm)]
  · have e1 : (List.range 8)[i]? = none := List.getElem?_eq_none (by rw [List.length_range]; omega)
    rw [List.getElem?_map, List.getElem?_map, e1]
    by_cases hk : k = i
    · subst hk
      rw [if_pos rfl, if_neg (by rw [List.length_map, List.length_range]; exact hi)]
      rfl
    · rw [if_neg hk]
      rfl
/-- the numbers that a place of s may hold: 0 to this one -/
def bS (j : Nat) : Option Int := if j = 0 then some 8 else if j = 1 then some 4 else if j = 2 then some 6 else if j = 3 then some 6 else if 32 ≤ j ∧ j < 74 then (if (j - 32) % 7 = 0 ∨ (j - 32) % 7 = 1 then some 7 else if (j - 32) % 7 = 4 ∨ (j - 32) % 7 = 6 then some 5 else none) else if 146 ≤ j ∧ j < 158 then some 5 else if 158 ≤ j ∧ j < 308 then (if (j - 158) % 5 = 0 ∨ (j - 158) % 5 = 1 then some 1 else if (j - 158) % 5 = 3 ∨ (j - 158) % 5 = 4 then some 23 else none) else none
def br (k j : Nat) : Option Int := match k with
  | 0 => if j = 2 then some 1 else none
  | 1 => bS j
  | 2 => bS j
  | 4 => some 5
  | 5 => some 19
  | _ => none
def Ir (v : Nat → Nat → Int32) : Prop := ∀ (k j : Nat) (h : Int), br k j = some h → 0 ≤ (v k j).toInt ∧ (v k j).toInt ≤ h
theorem Ir.put {v : Nat → Nat → Int32} (hv : Ir v) {k j : Nat} {x : Int32} (hx : ∀ h : Int, br k j = some h → 0 ≤ x.toInt ∧ x.toInt ≤ h) : Ir (upr v k (upd (v k) j x)) := by
  intro a b h q
  by_cases ha : a = k
  · subst ha
    rw [upr_s]
    by_cases hb : b = j
    · subst hb
      rw [pk_us]
      exact hx h q
    · rw [pk_un hb]
      exact hv a b h q
  · rw [upr_n ha]
    exact hv a b h q
theorem bS_c : ∀ i, i < 6 → bS (32 + 7 * i) = some 7 ∧ bS (33 + 7 * i) = some 7 ∧ bS (34 + 7 * i) = none ∧ bS (35 + 7 * i) = none ∧ bS (36 + 7 * i) = some 5 ∧ bS (37 + 7 * i) = none ∧ bS (38 + 7 * i) = some 5 := by decide
theorem bS_m : ∀ i, i < 12 → bS (146 + i) = some 5 := by decide
theorem bS_t : ∀ i, i < 6 → ∀ j, j < 5 → bS (158 + 25 * i + 5 * j) = some 1 ∧ bS (159 + 25 * i + 5 * j) = some 1 ∧ bS (160 + 25 * i + 5 * j) = none ∧ bS (161 + 25 * i + 5 * j) = some 23 ∧ bS (162 + 25 * i + 5 * j) = some 23 := by decide
