/-- the kinds of a House's cells, and of all cells of the class -/
def kd_H : List Nat := [3, 4, 5, 6, 7, 7, 7, 7, 7, 7, 7, 7, 8, 8, 8, 8, 9, 10, 20, 11, 12, 12, 13, 14, 14, 15, 16, 16, 16, 16, 16, 9, 10, 20, 11, 12, 12, 13, 14, 14, 15, 16, 16, 16, 16, 16, 9, 10, 20, 11, 12, 12, 13, 14, 14, 15, 16, 16, 16, 16, 16, 9, 10, 20, 11, 12, 12, 13, 14, 14, 15, 16, 16, 16, 16, 16, 9, 10, 20, 11, 12, 12, 13, 14, 14, 15, 16, 16, 16, 16, 16, 9, 10, 20, 11, 12, 12, 13, 14, 14, 15, 16, 16, 16, 16, 16]
def kd_L : List Nat := [0, 1, 17, 17, 17, 21, 17, 17, 18, 18, 2, 19, 19] ++ (kd_H ++ kd_H)
def kd (k : Nat) : Nat := kd_L.getD k 99
/-- what a place holds: its ints are r -/
def ce (ad : Nat → Nat) (kv : Value) (cy : Nat → ClassId) (k : Nat) (r : Nat → Int32) : va_E := match kd k with
  | 0 => .inr (7, [.ref (ad 13), .ref (ad 1), .ref (ad 10), kv, .int (r 4)])
  | 1 => .inr (4, [.int (r 0), .int (r 1), .int (r 2), .ref (ad 2), .ref (ad 3), .ref (ad 4), .ref (ad 5), .ref (ad 6), .ref (ad 7), .ref (ad 8), .ref (ad 9)])
  | 2 => .inr (5, [.int (r 0), .ref (ad 11), .ref (ad 12)])
  | 3 => .inr (1, [.int (r 0), .int (r 1), .int (r 2), .int (r 3), .ref (ad (k + 1)), .ref (ad (k + 2)), .ref (ad (k + 3))])
  | 4 => .inl (cy 1, 8, .inr (.inr (.inr (.inr (fun i => if i < 8 then some (ad (k + 3 + i)) else none)))))
  | 5 => .inl (cy 2, 4, .inr (.inr (.inr (.inr (fun i => if i < 4 then some (ad (k + 10 + i)) else none)))))
  | 6 => .inl (cy 3, 6, .inr (.inr (.inr (.inr (fun i => if i < 6 then some (ad (k + 13 + 15 * i)) else none)))))
  | 7 => .inr (3, [.int (r 0), .int (r 1)])
  | 8 => .inr (2, [.int (r 0), .int (r 1), .int (r 2)])
  | 9 => .inr (0, [.int (r 0), .int (r 1), .int (r 2), .int (r 3), .int (r 4), .int (r 5), .ref (ad (k + 1)), .ref (ad (k + 2)), .ref (ad (k + 3)), .ref (ad (k + 6)), .ref (ad (k + 9))])
  | 10 => .inl (cy 0, 2, .inl r)
  | 11 => .inl (cy 5, 2, .inr (.inr (.inr (.inr (fun i => if i < 2 then some (ad (k + 1 + i)) else none)))))
  | 12 => .inl (cy 0, 5, .inl r)
  | 13 => .inl (cy 5, 2, .inr (.inr (.inr (.inr (fun i => if i < 2 then some (ad (k + 1 + i)) else none)))))
  | 14 => .inl (cy 0, 24, .inl r)
  | 15 => .inl (cy 4, 5, .inr (.inr (.inr (.inr (fun i => if i < 5 then some (ad (k + 1 + i)) else none)))))
  | 16 => .inr (6, [.int (r 0), .int (r 1), .int (r 2), .int (r 3), .int (r 4)])
  | 17 => .inl (cy 0, 4, .inl r)
  | 18 => .inl (cy 0, 3, .inl r)
  | 19 => .inl (cy 0, 5, .inl r)
  | 20 => .inl (cy 0, 2, .inl r)
  | 21 => .inl (cy 0, 4, .inl r)
  | _ => .inl (cy 0, 0, .inl r)
theorem ce_0 {ad : Nat → Nat} {kv : Value} {cy : Nat → ClassId} {k : Nat} {r : Nat → Int32} (h : kd k = 0) : ce ad kv cy k r = .inr (7, [.ref (ad 13), .ref (ad 1), .ref (ad 10), kv, .int (r 4)]) := by
  unfold ce
  rw [h]
  rfl
theorem ce_1 {ad : Nat → Nat} {kv : Value} {cy : Nat → ClassId} {k : Nat} {r : Nat → Int32} (h : kd k = 1) : ce ad kv cy k r = .inr (4, [.int (r 0), .int (r 1), .int (r 2), .ref (ad 2), .ref (ad 3), .ref (ad 4), .ref (ad 5), .ref (ad 6), .ref (ad 7), .ref (ad 8), .ref (ad 9)]) := by
  unfold ce
  rw [h]
  rfl
theorem ce_2 {ad : Nat → Nat} {kv : Value} {cy : Nat → ClassId} {k : Nat} {r : Nat → Int32} (h : kd k = 2) : ce ad kv cy k r = .inr (5, [.int (r 0), .ref (ad 11), .ref (ad 12)]) := by
  unfold ce
  rw [h]
  rfl
theorem ce_3 {ad : Nat → Nat} {kv : Value} {cy : Nat → ClassId} {k : Nat} {r : Nat → Int32} (h : kd k = 3) : ce ad kv cy k r = .inr (1, [.int (r 0), .int (r 1), .int (r 2), .int (r 3), .ref (ad (k + 1)), .ref (ad (k + 2)), .ref (ad (k + 3))]) := by
  unfold ce
  rw [h]
  rfl
theorem ce_4 {ad : Nat → Nat} {kv : Value} {cy : Nat → ClassId} {k : Nat} {r : Nat → Int32} (h : kd k = 4) : ce ad kv cy k r = .inl (cy 1, 8, .inr (.inr (.inr (.inr (fun i => if i < 8 then some (ad (k + 3 + i)) else none))))) := by
  unfold ce
  rw [h]
  rfl
theorem ce_5 {ad : Nat → Nat} {kv : Value} {cy : Nat → ClassId} {k : Nat} {r : Nat → Int32} (h : kd k = 5) : ce ad kv cy k r = .inl (cy 2, 4, .inr (.inr (.inr (.inr (fun i => if i < 4 then some (ad (k + 10 + i)) else none))))) := by
  unfold ce
  rw [h]
  rfl
theorem ce_6 {ad : Nat → Nat} {kv : Value} {cy : Nat → ClassId} {k : Nat} {r : Nat → Int32} (h : kd k = 6) : ce ad kv cy k r = .inl (cy 3, 6, .inr (.inr (.inr (.inr (fun i => if i < 6 then some (ad (k + 13 + 15 * i)) else none))))) := by
  unfold ce
  rw [h]
  rfl
theorem ce_7 {ad : Nat → Nat} {kv : Value} {cy : Nat → ClassId} {k : Nat} {r : Nat → Int32} (h : kd k = 7) : ce ad kv cy k r = .inr (3, [.int (r 0), .int (r 1)]) := by
  unfold ce
  rw [h]
  rfl
theorem ce_8 {ad : Nat → Nat} {kv : Value} {cy : Nat → ClassId} {k : Nat} {r : Nat → Int32} (h : kd k = 8) : ce ad kv cy k r = .inr (2, [.int (r 0), .int (r 1), .int (r 2)]) := by
  unfold ce
  rw [h]
  rfl
theorem ce_9 {ad : Nat → Nat} {kv : Value} {cy : Nat → ClassId} {k : Nat} {r : Nat → Int32} (h : kd k = 9) : ce ad kv cy k r = .inr (0, [.int (r 0), .int (r 1), .int (r 2), .int (r 3), .int (r 4), .int (r 5), .ref (ad (k + 1)), .ref (ad (k + 2)), .ref (ad (k + 3)), .ref (ad (k + 6)), .ref (ad (k + 9))]) := by
  unfold ce
  rw [h]
  rfl
theorem ce_10 {ad : Nat → Nat} {kv : Value} {cy : Nat → ClassId} {k : Nat} {r : Nat → Int32} (h : kd k = 10) : ce ad kv cy k r = .inl (cy 0, 2, .inl r) := by
  unfold ce
  rw [h]
  rfl
theorem ce_11 {ad : Nat → Nat} {kv : Value} {cy : Nat → ClassId} {k : Nat} {r : Nat → Int32} (h : kd k = 11) : ce ad kv cy k r = .inl (cy 5, 2, .inr (.inr (.inr (.inr (fun i => if i < 2 then some (ad (k + 1 + i)) else none))))) := by
  unfold ce
  rw [h]
  rfl
theorem ce_12 {ad : Nat → Nat} {kv : Value} {cy : Nat → ClassId} {k : Nat} {r : Nat → Int32} (h : kd k = 12) : ce ad kv cy k r = .inl (cy 0, 5, .inl r) := by
  unfold ce
  rw [h]
  rfl
theorem ce_13 {ad : Nat → Nat} {kv : Value} {cy : Nat → ClassId} {k : Nat} {r : Nat → Int32} (h : kd k = 13) : ce ad kv cy k r = .inl (cy 5, 2, .inr (.inr (.inr (.inr (fun i => if i < 2 then some (ad (k + 1 + i)) else none))))) := by
  unfold ce
  rw [h]
  rfl
theorem ce_14 {ad : Nat → Nat} {kv : Value} {cy : Nat → ClassId} {k : Nat} {r : Nat → Int32} (h : kd k = 14) : ce ad kv cy k r = .inl (cy 0, 24, .inl r) := by
  unfold ce
  rw [h]
  rfl
theorem ce_15 {ad : Nat → Nat} {kv : Value} {cy : Nat → ClassId} {k : Nat} {r : Nat → Int32} (h : kd k = 15) : ce ad kv cy k r = .inl (cy 4, 5, .inr (.inr (.inr (.inr (fun i => if i < 5 then some (ad (k + 1 + i)) else none))))) := by
  unfold ce
  rw [h]
  rfl
theorem ce_16 {ad : Nat → Nat} {kv : Value} {cy : Nat → ClassId} {k : Nat} {r : Nat → Int32} (h : kd k = 16) : ce ad kv cy k r = .inr (6, [.int (r 0), .int (r 1), .int (r 2), .int (r 3), .int (r 4)]) := by
  unfold ce
  rw [h]
  rfl
theorem ce_17 {ad : Nat → Nat} {kv : Value} {cy : Nat → ClassId} {k : Nat} {r : Nat → Int32} (h : kd k = 17) : ce ad kv cy k r = .inl (cy 0, 4, .inl r) := by
  unfold ce
  rw [h]
  rfl
theorem ce_18 {ad : Nat → Nat} {kv : Value} {cy : Nat → ClassId} {k : Nat} {r : Nat → Int32} (h : kd k = 18) : ce ad kv cy k r = .inl (cy 0, 3, .inl r) := by
  unfold ce
  rw [h]
  rfl
theorem ce_19 {ad : Nat → Nat} {kv : Value} {cy : Nat → ClassId} {k : Nat} {r : Nat → Int32} (h : kd k = 19) : ce ad kv cy k r = .inl (cy 0, 5, .inl r) := by
  unfold ce
  rw [h]
  rfl
theorem ce_20 {ad : Nat → Nat} {kv : Value} {cy : Nat → ClassId} {k : Nat} {r : Nat → Int32} (h : kd k = 20) : ce ad kv cy k r = .inl (cy 0, 2, .inl r) := by
  unfold ce
  rw [h]
  rfl
theorem ce_21 {ad : Nat → Nat} {kv : Value} {cy : Nat → ClassId} {k : Nat} {r : Nat → Int32} (h : kd k = 21) : ce ad kv cy k r = .inl (cy 0, 4, .inl r) := by
  unfold ce
  rw [h]
  rfl
/-- the world of N places -/
def wl (ad : Nat → Nat) (kv : Value) (cy : Nat → ClassId) (N : Nat) (v : Nat → Nat → Int32) : va_W := (List.range N).map (fun k => (ad k, ce ad kv cy k (v k)))
def upr (v : Nat → Nat → Int32) (k : Nat) (r : Nat → Int32) : Nat → Nat → Int32 := fun a => if a = k then r else v a
theorem upr_s {v : Nat → Nat → Int32} {k : Nat} {r : Nat → Int32} : upr v k r k = r := if_pos rfl
theorem upr_n {v : Nat → Nat → Int32} {k a : Nat} {r : Nat → Int32} (h : a ≠ k) : upr v k r a = v a := if_neg h
theorem wl_at {ad : Nat → Nat} {kv : Value} {cy : Nat → ClassId} {N : Nat} {v : Nat → Nat → Int32} {k : Nat} {e : va_E} (hk : k < N) (h : ce ad kv cy k (v k) = e) : (wl ad kv cy N v)[k]? = some (ad k, e) := by
  unfold wl
  rw [List.getElem?_map, List.getElem?_range hk, ← h]
  rfl
theorem wl_put {ad : Nat → Nat} {kv : Value} {cy : Nat → ClassId} {N : Nat} {v : Nat → Nat → Int32} {k : Nat} {e : va_E} {r : Nat → Int32} (h : ce ad kv cy k r = e) : (wl ad kv cy N v).set k (ad k, e) = wl ad kv cy N (upr v k r) := by
  apply List.ext_getElem?
  intro i
  unfold wl
  rw [List.getElem?_set]
  by_cases hi : i < N
  · by_cases hk : k = i
    · subst hk
      rw [if_pos rfl, List.getElem?_map, List.getElem?_range hi, if_pos (by rw [List.length_map, List.length_range]; exact hi), ← h]
      show _ = some (ad k, ce ad kv cy k (upr v k r k))
      rw [upr_s]
    · rw [if_neg hk, List.getElem?_map, List.getElem?_map, List.getElem?_range hi]
      show some (ad i, ce ad kv cy i (v i)) = some (ad i, ce ad kv cy i (upr v k r i))
      rw [upr_n (fun q => hk q.symm)]
  · have e1 : (List.range N)[i]? = none := List.getElem?_eq_none (by rw [List.length_range]; omega)
    rw [List.getElem?_map, List.getElem?_map, e1]
    by_cases hk : k = i
    · subst hk
      rw [if_pos rfl, if_neg (by rw [List.length_map, List.length_range]; exact hi)]
      rfl
    · rw [if_neg hk]
      rfl
/-- the numbers that a place may hold: 0 to this one -/
def bd (K j : Nat) : Option Int := match K with
  | 1 => if j = 1 then some 4 else none
  | 2 => if j = 0 then some 5 else none
  | 3 => if j = 0 then some 8 else if j = 1 then some 4 else if j = 2 then some 6 else if j = 3 then some 6 else none
  | 9 => if j = 2 then some 5 else if j = 5 then some 5 else none
  | 10 => some 7
  | 16 => if j = 0 then some 1 else if j = 1 then some 1 else if j = 3 then some 23 else if j = 4 then some 23 else none
  | 21 => some 3
  | _ => none
def Iv (v : Nat → Nat → Int32) : Prop := ∀ (k j : Nat) (h : Int), bd (kd k) j = some h → 0 ≤ (v k j).toInt ∧ (v k j).toInt ≤ h
theorem Iv.at {v : Nat → Nat → Int32} (hv : Iv v) {k j K : Nat} {h : Int} (hk : kd k = K) (hb : bd K j = some h) : 0 ≤ (v k j).toInt ∧ (v k j).toInt ≤ h := hv k j h (by rw [hk]; exact hb)
theorem Iv.put {v : Nat → Nat → Int32} (hv : Iv v) {k j K : Nat} {x : Int32} (hk : kd k = K) (hx : ∀ h : Int, bd K j = some h → 0 ≤ x.toInt ∧ x.toInt ≤ h) : Iv (upr v k (upd (v k) j x)) := by
  intro a b h q
  by_cases ha : a = k
  · subst ha
    rw [upr_s]
    by_cases hb : b = j
    · subst hb
      rw [pk_us]
      exact hx h (by rw [← hk]; exact q)
    · rw [pk_un hb]
      exact hv a b h q
  · rw [upr_n ha]
    exact hv a b h q
/-- Party i, Mediator i, Case i and its cells, in the House that stands at place 13 and in the one at 119 -/
theorem kd_p : ∀ i, i < 8 → kd (17 + i) = 7 ∧ kd (123 + i) = 7 := by decide
theorem kd_m : ∀ i, i < 4 → kd (25 + i) = 8 ∧ kd (131 + i) = 8 := by decide
theorem kd_c : ∀ i, i < 6 → (kd (29 + 15 * i) = 9 ∧ kd (30 + 15 * i) = 10 ∧ kd (31 + 15 * i) = 20 ∧ kd (32 + 15 * i) = 11 ∧ kd (35 + 15 * i) = 13 ∧ kd (38 + 15 * i) = 15) ∧ (kd (135 + 15 * i) = 9 ∧ kd (136 + 15 * i) = 10 ∧ kd (137 + 15 * i) = 20 ∧ kd (138 + 15 * i) = 11 ∧ kd (141 + 15 * i) = 13 ∧ kd (144 + 15 * i) = 15) := by decide
theorem kd_o : ∀ i, i < 6 → ∀ j, j < 2 → (kd (33 + 15 * i + j) = 12 ∧ kd (36 + 15 * i + j) = 14) ∧ (kd (139 + 15 * i + j) = 12 ∧ kd (142 + 15 * i + j) = 14) := by decide
theorem kd_t : ∀ i, i < 6 → ∀ j, j < 5 → kd (39 + 15 * i + j) = 16 ∧ kd (145 + 15 * i + j) = 16 := by decide
theorem t_add {x y : Int32} (h : -2147483648 ≤ x.toInt + y.toInt ∧ x.toInt + y.toInt < 2147483648) : (x + y).toInt = x.toInt + y.toInt := by
  rw [Int32.toInt_add]
  exact Int.bmod_eq_of_le (by omega) (by omega)
theorem t_sub {x y : Int32} (h : -2147483648 ≤ x.toInt - y.toInt ∧ x.toInt - y.toInt < 2147483648) : (x - y).toInt = x.toInt - y.toInt := by
  rw [Int32.toInt_sub]
  exact Int.bmod_eq_of_le (by omega) (by omega)
theorem t_in {x : Int32} {n : Nat} (h : 0 ≤ x.toInt ∧ x.toInt < n) : vp_in x n ∧ ∃ i : Nat, i < n ∧ x.toNatClampNeg = i ∧ x.toInt = i := by
  refine ⟨vp_in_iff.mpr h, x.toInt.toNat, by omega, rfl, by omega⟩
/-- the counts of parties and mediators, now and kept, and the rooms stay -/
def Fr (v u : Nat → Nat → Int32) : Prop := u 13 0 = v 13 0 ∧ u 13 1 = v 13 1 ∧ u 0 4 = v 0 4 ∧ u 119 0 = v 119 0 ∧ u 119 1 = v 119 1
theorem Fr.rf {v : Nat → Nat → Int32} : Fr v v := ⟨rfl, rfl, rfl, rfl, rfl⟩
theorem Fr.trans {v u w : Nat → Nat → Int32} (h : Fr v u) (g : Fr u w) : Fr v w := ⟨g.1.trans h.1, g.2.1.trans h.2.1, g.2.2.1.trans h.2.2.1, g.2.2.2.1.trans h.2.2.2.1, g.2.2.2.2.trans h.2.2.2.2⟩
theorem Fr.put {v u : Nat → Nat → Int32} {k j : Nat} {x : Int32} (h : Fr v u) (h1 : k ≠ 13) (h2 : k ≠ 0) (h3 : k ≠ 119) : Fr v (upr u k (upd (u k) j x)) := by
  unfold Fr
  rw [upr_n (Ne.symm h1), upr_n (Ne.symm h2), upr_n (Ne.symm h3)]
  exact h
theorem Fr.putj {v u : Nat → Nat → Int32} {k j : Nat} {x : Int32} (h : Fr v u) (hj : j ≠ 0 ∧ j ≠ 1 ∧ j ≠ 4) : Fr v (upr u k (upd (u k) j x)) := by
  have key : ∀ a b : Nat, b = 0 ∨ b = 1 ∨ b = 4 → upr u k (upd (u k) j x) a b = u a b := fun a b hb => by
    by_cases ha : a = k
    · subst ha
      rw [upr_s, pk_un (by omega)]
    · rw [upr_n ha]
  unfold Fr
  rw [key 13 0 (by omega), key 13 1 (by omega), key 0 4 (by omega), key 119 0 (by omega), key 119 1 (by omega)]
  exact h
/-- the whole first row of the House stays, too -/
def Fs (v u : Nat → Nat → Int32) : Prop := (∀ j, u 13 j = v 13 j) ∧ Fr v u
theorem Fs.rf {v : Nat → Nat → Int32} : Fs v v := ⟨fun _ => rfl, Fr.rf⟩
theorem Fs.trans {v u w : Nat → Nat → Int32} (h : Fs v u) (g : Fs u w) : Fs v w := ⟨fun j => (g.1 j).trans (h.1 j), h.2.trans g.2⟩
theorem Fs.put {v u : Nat → Nat → Int32} {k j : Nat} {x : Int32} (h : Fs v u) (h1 : k ≠ 13) (h2 : k ≠ 0) (h3 : k ≠ 119) : Fs v (upr u k (upd (u k) j x)) := ⟨fun j => by rw [upr_n (Ne.symm h1)]; exact h.1 j, h.2.put h1 h2 h3⟩
/-- nothing has changed -/
def Fe (v u : Nat → Nat → Int32) : Prop := u = v
theorem Fe.rf {v : Nat → Nat → Int32} : Fe v v := rfl
theorem Fe.trans {v u w : Nat → Nat → Int32} (h : Fe v u) (g : Fe u w) : Fe v w := Eq.trans g h
theorem Fe.to {P : (Nat → Nat → Int32) → Prop} {v u : Nat → Nat → Int32} (h : Fe v u) (g : P v) : P u := by
  unfold Fe at h
  rw [h]
  exact g
section YA
variable {p : Program} {l : Launch} {e : Env} {R : Room} {s : State} {m : MethodId} {args : Array Value} {below : List Frame} {meth : Method} {c : Code} {H : Heap} {locs : List Loc} {cells slots : Nat} {Q : State → Prop}
variable {cc : ByteArray} {pc : Nat} {ls : Array Slot} {rest : List Value} {D : va_G} {cl : List vw_C} {cy : Nat → ClassId} {ws : va_W} {a : Nat}
/-- a row of an int[][] -/
theorem ya_ald (hexec : p.tables.exec = Jvm.exec) (hb : c.code = cc) (hK : va_K D cl (ty_L cy) s) (hP : va_P D cl ws H) (q0 : Nat) {n : Nat} {f : Nat → Option Nat} (ha : ws[q0]? = some (a, .inl (cy 5, n, .inr (.inr (.inr (.inr f)))))) {i : Int32} (hin : vp_in i n) (hdg : decode cc pc = .ok (.aaload, 1))
    (kk : W p l e R s m args below meth c H locs cells slots Q (F0 m (pc + 1) ls (va_rf (f i.toNatClampNeg) :: rest))) : W p l e R s m args below meth c H locs cells slots Q (F0 m pc ls (.int i :: .ref a :: rest)) := by
  have hlt : i.toNatClampNeg < n := Nat.not_le.mp fun q => hin (Or.inr q)
  exact W.aald (v := va_rf (f i.toNatClampNeg)) (ty := .array .int) hexec hb (hP q0 _ ha) ((hK.2 5 _ rfl).1 n (fun j => va_rf (f j))) rfl (fun q => by cases q) (by show ¬ (i < 0 ∨ (arrV _ _ _).slots.size ≤ _); rw [arrV_size]; exact hin) (by show (arrV _ _ _).slots[_]? = _; rw [arrV_read _ _ hlt]) rfl rfl hdg kk
end YA
/-- calls that take the whole world -/
theorem yw_F {A : Nat → Prop} {ws : va_W} {H0 H : Heap} {locs : List Loc} (hD : va_D A ws) (hS : va_S A H0 H locs) (hA : ∀ q, H0.size ≤ q → A q) : ∀ q, va_A ws H.size q → A q := fun q h => h.elim (fun ⟨k, e, hk⟩ => hD.2 k (q, e) hk) (fun h => hA q (Nat.le_trans hS.1 h))
theorem yw_preS {s : State} {H : Heap} {dC : Nat → ClassId} {dI : Nat → Nat → Nat} {cy : Nat → ClassId} {A : Nat → Prop} {ws : va_W} {As : List Value} (hE : ex_K s) (hK : va_K (dC, dI) vwCl (ty_L cy) s) (hP : va_P (dC, dI) vwCl ws H) (hD : va_D A ws) : PreS s H (va_Pc As (ex_Pre dC dI cy H.size ws)) As :=
  ⟨ex_blind, fun U hU hW => ⟨rfl, by rw [hU], hE.warm hW, by rw [hU]; exact hP, va_K.moved hW.alike hK, hD.weaken (fun _ _ _ _ => trivial)⟩⟩
theorem yw_preV {s : State} {H : Heap} {dC : Nat → ClassId} {dI : Nat → Nat → Nat} {cy : Nat → ClassId} {A : Nat → Prop} {ws : va_W} {As : List Value} {b q0 ci : Nat} {q : vw_C} {fs : List Value} (hE : ex_K s) (hK : va_K (dC, dI) vwCl (ty_L cy) s) (hP : va_P (dC, dI) vwCl ws H) (hD : va_D A ws) (hc : vwCl[ci]? = some q) (he : ws[q0]? = some (b, .inr (ci, fs))) : PreV s H q.1 b (va_Pc (.ref b :: As) (ex_Pre dC dI cy H.size ws)) As :=
  ⟨ex_blind, va_recv hK hP hc he, (yw_preS (As := .ref b :: As) hE hK hP hD).2⟩
section YW
variable {p : Program} {l : Launch} {e : Env} {R : Room} {s : State} {m : MethodId} {args : Array Value} {below : List Frame} {meth : Method} {c : Code} {H : Heap} {locs : List Loc} {cells slots : Nat} {Q : State → Prop}
variable {pc : Nat} {ls : Array Slot} {rest st0 : List Value} {a : Array Value} {A : Nat → Prop} {H0 : Heap} {mc ms : Nat} {dC : Nat → ClassId} {dI : Nat → Nat → Nat} {ws : va_W}
theorem yw_i {S : Type} {post : Int32 → S → Prop} {w1 : S → va_W} (hD : va_D A ws) (hS : va_S A H0 H locs) (hA : ∀ q, H0.size ≤ q → A q)
    (hr : va_Run p l e R s m args below meth c H locs cells slots mc ms (F0 m pc ls st0) rest (va_Qi post (fun u t => ex_Pst dC dI (va_A ws H.size) (w1 u) t) (va_A ws H.size) a) (va_A ws H.size))
    (kk : ∀ (r : Int32) (u : S) (H1 : Heap) (locs1 : List Loc), post r u → va_P (dC, dI) vwCl (w1 u) H1 → va_D A (w1 u) → va_S A H0 H1 locs1 → W p l e R s m args below meth c H1 locs1 (cells + mc) (slots + ms) Q (F0 m (pc + 3) ls (.int r :: rest))) : W p l e R s m args below meth c H locs cells slots Q (F0 m pc ls st0) := by
  have hF := yw_F hD hS hA
  refine va_calli hr hS (fun q _ h => hF q h) hF (fun r u t H1 locs1 ht hvm hw hB hz1 hk1 hS1 => ?_)
  obtain ⟨hP1, hD1⟩ := hB
  rw [ht] at hP1
  exact kk r u H1 locs1 hw hP1 (hD1.weaken (fun k q _ h => hF q.1 h)) hS1
theorem yw_v {S : Type} {post : S → Prop} {w1 : S → va_W} (hD : va_D A ws) (hS : va_S A H0 H locs) (hA : ∀ q, H0.size ≤ q → A q)
    (hr : va_Run p l e R s m args below meth c H locs cells slots mc ms (F0 m pc ls st0) rest (va_Qv post (fun u t => ex_Pst dC dI (va_A ws H.size) (w1 u) t) (va_A ws H.size) a) (va_A ws H.size))
    (kk : ∀ (u : S) (H1 : Heap) (locs1 : List Loc), post u → va_P (dC, dI) vwCl (w1 u) H1 → va_D A (w1 u) → va_S A H0 H1 locs1 → W p l e R s m args below meth c H1 locs1 (cells + mc) (slots + ms) Q (F0 m (pc + 3) ls rest)) : W p l e R s m args below meth c H locs cells slots Q (F0 m pc ls st0) := by
  have hF := yw_F hD hS hA
  refine va_callv hr hS (fun q _ h => hF q h) hF (fun u t H1 locs1 ht hvm hw hB hz1 hk1 hS1 => ?_)
  obtain ⟨hP1, hD1⟩ := hB
  rw [ht] at hP1
  exact kk u H1 locs1 hw hP1 (hD1.weaken (fun k q _ h => hF q.1 h)) hS1
end YW

