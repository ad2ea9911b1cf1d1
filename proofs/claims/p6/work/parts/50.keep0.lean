theorem kb_l : ∀ k, k < 119 → (kd k = 3 → k + 3 < 119) ∧ (kd k = 4 → k + 10 < 119) ∧ (kd k = 5 → k + 13 < 119) ∧ (kd k = 6 → k + 88 < 119) ∧ (kd k = 9 → k + 9 < 119) ∧ (kd k = 11 → k + 2 < 119) ∧ (kd k = 13 → k + 2 < 119) ∧ (kd k = 15 → k + 5 < 119) := by decide
theorem kd_19 : ∀ k, k < 119 → k = 0 ∨ kd k = 1 ∨ kd k = 2 ∨ kd k = 3 ∨ kd k = 4 ∨ kd k = 5 ∨ kd k = 6 ∨ kd k = 7 ∨ kd k = 8 ∨ kd k = 9 ∨ kd k = 10 ∨ kd k = 11 ∨ kd k = 12 ∨ kd k = 13 ∨ kd k = 14 ∨ kd k = 15 ∨ kd k = 16 ∨ kd k = 17 ∨ kd k = 18 ∨ kd k = 19 ∨ kd k = 20 ∨ kd k = 21 := by decide
theorem kd_06 : ∀ o, o < 106 → kd (119 + o) = kd (13 + o) ∧ (kd (13 + o) = 3 ∨ kd (13 + o) = 4 ∨ kd (13 + o) = 5 ∨ kd (13 + o) = 6 ∨ kd (13 + o) = 7 ∨ kd (13 + o) = 8 ∨ kd (13 + o) = 9 ∨ kd (13 + o) = 10 ∨ kd (13 + o) = 11 ∨ kd (13 + o) = 12 ∨ kd (13 + o) = 13 ∨ kd (13 + o) = 14 ∨ kd (13 + o) = 15 ∨ kd (13 + o) = 16 ∨ kd (13 + o) = 20) := by decide
theorem fn_eq {n : Nat} {f g : Nat → Nat} (h : ∀ i, i < n → f i = g i) : (fun i => if i < n then some (f i) else none) = (fun i => if i < n then some (g i) else none) := by
  funext i
  by_cases hi : i < n
  · rw [if_pos hi, if_pos hi, h i hi]
  · rw [if_neg hi, if_neg hi]
/-- a place below 119, with other places from 119 on and another field kept -/
theorem ce_lo {ad ad' : Nat → Nat} {kv kv' : Value} {cy : Nat → ClassId} {k : Nat} {r : Nat → Int32} (h : ∀ j, j < 119 → ad' j = ad j) (hk : k < 119) (h0 : k ≠ 0) : ce ad' kv' cy k r = ce ad kv cy k r := by
  have hb := kb_l k hk
  rcases kd_19 k hk with q | q | q | q | q | q | q | q | q | q | q | q | q | q | q | q | q | q | q | q | q | q
  · exact absurd q h0
  · rw [ce_1 q, ce_1 q, h 2 (by omega), h 3 (by omega), h 4 (by omega), h 5 (by omega), h 6 (by omega), h 7 (by omega), h 8 (by omega), h 9 (by omega)]
  · rw [ce_2 q, ce_2 q, h 11 (by omega), h 12 (by omega)]
  · rw [ce_3 q, ce_3 q, h (k + 1) (by omega), h (k + 2) (by omega), h (k + 3) (by omega)]
  · rw [ce_4 q, ce_4 q]
    exact congrArg (fun z => (.inl (cy 1, 8, .inr (.inr (.inr (.inr z)))) : va_E)) (fn_eq fun i hi => h _ (by omega))
  · rw [ce_5 q, ce_5 q]
    exact congrArg (fun z => (.inl (cy 2, 4, .inr (.inr (.inr (.inr z)))) : va_E)) (fn_eq fun i hi => h _ (by omega))
  · rw [ce_6 q, ce_6 q]
    exact congrArg (fun z => (.inl (cy 3, 6, .inr (.inr (.inr (.inr z)))) : va_E)) (fn_eq fun i hi => h _ (by omega))
  · rw [ce_7 q, ce_7 q]
  · rw [ce_8 q, ce_8 q]
  · rw [ce_9 q, ce_9 q, h (k + 1) (by omega), h (k + 2) (by omega), h (k + 3) (by omega), h (k + 6) (by omega), h (k + 9) (by omega)]
  · rw [ce_10 q, ce_10 q]
  · rw [ce_11 q, ce_11 q]
    exact congrArg (fun z => (.inl (cy 5, 2, .inr (.inr (.inr (.inr z)))) : va_E)) (fn_eq fun i hi => h _ (by omega))
  · rw [ce_12 q, ce_12 q]
  · rw [ce_13 q, ce_13 q]
    exact congrArg (fun z => (.inl (cy 5, 2, .inr (.inr (.inr (.inr z)))) : va_E)) (fn_eq fun i hi => h _ (by omega))
  · rw [ce_14 q, ce_14 q]
  · rw [ce_15 q, ce_15 q]
    exact congrArg (fun z => (.inl (cy 4, 5, .inr (.inr (.inr (.inr z)))) : va_E)) (fn_eq fun i hi => h _ (by omega))
  · rw [ce_16 q, ce_16 q]
  · rw [ce_17 q, ce_17 q]
  · rw [ce_18 q, ce_18 q]
  · rw [ce_19 q, ce_19 q]
  · rw [ce_20 q, ce_20 q]
  · rw [ce_21 q, ce_21 q]
/-- a place of the kept House -/
theorem ce_hi {u ad' : Nat → Nat} {kv kv' : Value} {cy : Nat → ClassId} {o : Nat} {r : Nat → Int32} (hh : ∀ x, ad' (119 + x) = u (13 + x)) (ho : o < 106) : ce ad' kv' cy (119 + o) r = ce u kv cy (13 + o) r := by
  have e1 : ∀ a, ad' (119 + o + a) = u (13 + o + a) := fun a => by rw [Nat.add_assoc, hh, Nat.add_assoc]
  have e2 : ∀ a b, ad' (119 + o + a + b) = u (13 + o + a + b) := fun a b => by rw [Nat.add_assoc (119 + o), e1, Nat.add_assoc (13 + o)]
  obtain ⟨hd, hq⟩ := kd_06 o ho
  rcases hq with q | q | q | q | q | q | q | q | q | q | q | q | q | q | q
  · rw [ce_3 (hd.trans q), ce_3 q, e1, e1, e1]
  · rw [ce_4 (hd.trans q), ce_4 q]
    exact congrArg (fun z => (.inl (cy 1, 8, .inr (.inr (.inr (.inr z)))) : va_E)) (fn_eq fun i _ => e2 _ _)
  · rw [ce_5 (hd.trans q), ce_5 q]
    exact congrArg (fun z => (.inl (cy 2, 4, .inr (.inr (.inr (.inr z)))) : va_E)) (fn_eq fun i _ => e2 _ _)
  · rw [ce_6 (hd.trans q), ce_6 q]
    exact congrArg (fun z => (.inl (cy 3, 6, .inr (.inr (.inr (.inr z)))) : va_E)) (fn_eq fun i _ => e2 _ _)
  · rw [ce_7 (hd.trans q), ce_7 q]
  · rw [ce_8 (hd.trans q), ce_8 q]
  · rw [ce_9 (hd.trans q), ce_9 q, e1, e1, e1, e1, e1]
  · rw [ce_10 (hd.trans q), ce_10 q]
  · rw [ce_11 (hd.trans q), ce_11 q]
    exact congrArg (fun z => (.inl (cy 5, 2, .inr (.inr (.inr (.inr z)))) : va_E)) (fn_eq fun i _ => e2 _ _)
  · rw [ce_12 (hd.trans q), ce_12 q]
  · rw [ce_13 (hd.trans q), ce_13 q]
    exact congrArg (fun z => (.inl (cy 5, 2, .inr (.inr (.inr (.inr z)))) : va_E)) (fn_eq fun i _ => e2 _ _)
  · rw [ce_14 (hd.trans q), ce_14 q]
  · rw [ce_15 (hd.trans q), ce_15 q]
    exact congrArg (fun z => (.inl (cy 4, 5, .inr (.inr (.inr (.inr z)))) : va_E)) (fn_eq fun i _ => e2 _ _)
  · rw [ce_16 (hd.trans q), ce_16 q]
  · rw [ce_20 (hd.trans q), ce_20 q]
theorem wl_len {ad : Nat → Nat} {kv : Value} {cy : Nat → ClassId} {N : Nat} {v : Nat → Nat → Int32} : (wl ad kv cy N v).length = N := by
  unfold wl
  rw [List.length_map, List.length_range]
theorem wH_len {cy : Nat → ClassId} {u : Nat → Nat} : (wH cy u).length = 106 := by
  unfold wH
  rw [List.length_map, List.length_range]
/-- the first keep: the new House stands behind the world, the field kept names it -/
theorem keep_wl {dC : Nat → ClassId} {dI : Nat → Nat → Nat} {cy : Nat → ClassId} {A : Nat → Prop} {H : Heap} {ad u : Nat → Nat} {v : Nat → Nat → Int32} {k0 : Nat} (hu : u 13 = k0) (hP : va_P (dC, dI) vwCl ((wl ad .null cy 119 v ++ wH cy u).set 0 (ad 0, .inr (7, [.ref (ad 13), .ref (ad 1), .ref (ad 10), .ref k0, .int (v 0 4)]))) H) (hD : va_D A ((wl ad .null cy 119 v ++ wH cy u).set 0 (ad 0, .inr (7, [.ref (ad 13), .ref (ad 1), .ref (ad 10), .ref k0, .int (v 0 4)])))) : ∃ (ad' : Nat → Nat) (v' : Nat → Nat → Int32), (∀ k, k < 119 → ad' k = ad k) ∧ (∀ k, k < 119 → v' k = v k) ∧ (∀ k, 119 ≤ k → v' k = fun _ => 0) ∧ va_P (dC, dI) vwCl (wl ad' (.ref (ad' 119)) cy 225 v') H ∧ va_D A (wl ad' (.ref (ad' 119)) cy 225 v') := by
  subst hu
  obtain ⟨ad', had⟩ : ∃ ad' : Nat → Nat, ad' = fun k => if k < 119 then ad k else u (k - 106) := ⟨_, rfl⟩
  obtain ⟨v', hv'⟩ : ∃ v' : Nat → Nat → Int32, v' = fun k => if k < 119 then v k else fun _ => 0 := ⟨_, rfl⟩
  have al : ∀ k, k < 119 → ad' k = ad k := fun k hk => by
    rw [had]
    exact if_pos hk
  have ah : ∀ x, ad' (119 + x) = u (13 + x) := fun x => by
    have e : ad' (119 + x) = u (119 + x - 106) := by
      rw [had]
      exact if_neg (by omega)
    rw [e, show 119 + x - 106 = 13 + x from by omega]
  have vl : ∀ k, k < 119 → v' k = v k := fun k hk => by
    rw [hv']
    exact if_pos hk
  have vh : ∀ k, 119 ≤ k → v' k = fun _ => 0 := fun k hk => by
    rw [hv']
    exact if_neg (by omega)
  have hlen : (wl ad .null cy 119 v).length = 119 := wl_len
  have a119 : ad' 119 = u 13 := ah 0
  refine ⟨ad', v', al, vl, vh, wl_pi (fun k => k) (fun k hk => ?_) (fun i j _ _ h => h) hP hD⟩
  by_cases k0 : k = 0
  · subst k0
    have e0 : ce ad' (.ref (ad' 119)) cy 0 (v' 0) = .inr (7, [.ref (ad' 13), .ref (ad' 1), .ref (ad' 10), .ref (ad' 119), .int (v' 0 4)]) := ce_0 (by decide)
    rw [e0, al 0 (by decide), al 13 (by decide), al 1 (by decide), al 10 (by decide), a119, vl 0 (by decide)]
    exact List.getElem?_set_self (by rw [List.length_append, hlen]; omega)
  · rw [List.getElem?_set_ne (fun q => k0 q.symm)]
    by_cases h1 : k < 119
    · rw [List.getElem?_append_left (by rw [hlen]; exact h1), wl_at h1 rfl, al k h1, vl k h1, ce_lo (kv := .null) al h1 k0]
    · obtain ⟨o, rfl⟩ : ∃ o, k = 119 + o := ⟨k - 119, by omega⟩
      have ho : o < 106 := by omega
      rw [List.getElem?_append_right (by rw [hlen]; omega), hlen, show 119 + o - 119 = o from by omega, ah, vh _ (by omega), ce_hi (kv := .null) ah ho]
      unfold wH
      rw [List.getElem?_map, List.getElem?_range ho]
      rfl
theorem Iv_k {v v' : Nat → Nat → Int32} (hv : Iv v) (vl : ∀ k, k < 119 → v' k = v k) (vh : ∀ k, 119 ≤ k → v' k = fun _ => 0) : Iv v' := by
  intro k j h q
  by_cases hk : k < 119
  · rw [vl k hk]
    exact hv k j h q
  · have z : (0 : Int32).toInt = 0 := by decide
    rw [vh k (by omega), z]
    refine ⟨Int.le_refl 0, ?_⟩
    unfold bd at q
    split at q <;> (repeat' split at q) <;> first | (cases q; decide) | cases q
/-- places of the first of two worlds that lie side by side, and of the second -/
theorem at_left (X Y : va_W) : (List.range X.length).map (fun i => (X ++ Y)[i]?) = X.map some := at_range X Y
theorem at_right (X Y : va_W) : ((List.range Y.length).map (fun i => X.length + i)).map (fun i => (X ++ Y)[i]?) = Y.map some := by
  rw [List.map_map]
  apply List.ext_getElem?
  intro i
  rw [List.getElem?_map, List.getElem?_map]
  by_cases h : i < Y.length
  · rw [List.getElem?_range h]
    show some ((X ++ Y)[X.length + i]?) = _
    rw [List.getElem?_append_right (Nat.le_add_right _ _), Nat.add_sub_cancel_left, List.getElem?_eq_getElem h]
    rfl
  · rw [List.getElem?_eq_none (by rw [List.length_range]; omega), List.getElem?_eq_none (by omega)]
    rfl
theorem nd_shift : ∀ a n, va_nd ((List.range n).map (fun i => a + i)) = true := by
  have key : ∀ (l : List Nat), l.Nodup → va_nd l = true := by
    intro l
    induction l with
    | nil => intro _; rfl
    | cons a l ih =>
      intro h
      obtain ⟨h1, h2⟩ := List.nodup_cons.mp h
      show (decide (a ∉ l) && va_nd l) = true
      rw [ih h2, decide_eq_true h1]
      rfl
  intro a n
  refine key _ ?_
  rw [show (fun i => a + i) = (a + ·) from rfl, ← List.range'_eq_map_range]
  exact List.nodup_range'
section YL
variable {p : Program} {l : Launch} {e : Env} {R : Room} {s : State} {m : MethodId} {args : Array Value} {below : List Frame} {meth : Method} {c : Code} {H : Heap} {locs : List Loc} {cells slots : Nat} {Q : State → Prop}
variable {pc : Nat} {ls : Array Slot} {rest st0 : List Value} {a : Array Value} {A : Nat → Prop} {H0 : Heap} {mc ms : Nat} {dC : Nat → ClassId} {dI : Nat → Nat → Nat} {cy : Nat → ClassId} {X Y : va_W}
theorem yl_P (hP : va_P (dC, dI) vwCl (X ++ Y) H) : va_P (dC, dI) vwCl X H := fun k q h => hP k q (by
  rw [List.getElem?_append_left (List.getElem?_eq_some_iff.mp h).1]
  exact h)
theorem yl_D (hD : va_D A (X ++ Y)) : va_D A X := hD.sub (List.range X.length) (nd_range _) (at_left X Y)
/-- a call whose callee owns the first of two worlds: behind it stands the other one first -/
theorem yl_i {S : Type} {post : Int32 → S → Prop} {w1 : S → va_W} (hP : va_P (dC, dI) vwCl (X ++ Y) H) (hD : va_D A (X ++ Y)) (hS : va_S A H0 H locs) (hA : ∀ q, H0.size ≤ q → A q)
    (hr : va_Run p l e R s m args below meth c H locs cells slots mc ms (F0 m pc ls st0) rest (va_Qi post (fun u t => ex_Pst dC dI (va_A X H.size) (w1 u) t) (va_A X H.size) a) (va_A X H.size))
    (kk : ∀ (r : Int32) (u : S) (H1 : Heap) (locs1 : List Loc), post r u → va_P (dC, dI) vwCl (Y ++ w1 u) H1 → va_D A (Y ++ w1 u) → va_S A H0 H1 locs1 → W p l e R s m args below meth c H1 locs1 (cells + mc) (slots + ms) Q (F0 m (pc + 3) ls (.int r :: rest))) : W p l e R s m args below meth c H locs cells slots Q (F0 m pc ls st0) := by
  have hF := yw_F (yl_D hD) hS hA
  refine va_calli hr hS (fun q _ h => hF q h) hF (fun r u t H1 locs1 ht hvm hw hB hz1 hk1 hS1 => ?_)
  obtain ⟨hP1, hD1⟩ := hB
  rw [ht] at hP1
  obtain ⟨hP2, hD2⟩ := va_join hP hD (List.range X.length) ((List.range Y.length).map (fun i => X.length + i)) (at_left X Y) (at_right X Y) (nd_shift _ _) (fun i hi => by
    obtain ⟨j, -, rfl⟩ := List.mem_map.mp hi
    intro h2
    have h3 := List.mem_range.mp h2
    omega) hk1 hF hP1 hD1
  exact kk r u H1 locs1 hw hP2 hD2 hS1
theorem yl_preV {As : List Value} {b q0 ci : Nat} {q : vw_C} {fs : List Value} (hE : ex_K s) (hK : va_K (dC, dI) vwCl (ty_L cy) s) (hP : va_P (dC, dI) vwCl (X ++ Y) H) (hD : va_D A (X ++ Y)) (hc : vwCl[ci]? = some q) (he : X[q0]? = some (b, .inr (ci, fs))) : PreV s H q.1 b (va_Pc (.ref b :: As) (ex_Pre dC dI cy H.size X)) As :=
  yw_preV hE hK (yl_P hP) (yl_D hD) hc he
end YL
def m_0 : Nat → Nat → Int32 := fun k j => if k = 0 ∧ j = 3 then 1 else 0
/-- the reference's new object -/
theorem ref_wm {cy : Nat → ClassId} {g0 g1 g2 g3 g4 g5 g6 g7 : Nat} : ([(g0, .inr (8, [.ref g1, .ref g2, .int 0, .int 1, .ref g3, .int 0, .ref g4, .ref g5, .ref g6, .int 0, .ref g7])), (g1, .inl (cy 0, 596, .inl (fun _ => 0))), (g2, .inl (cy 0, 596, .inl (fun _ => 0))), (g3, .inl (cy 0, 6, .inl (fun _ => 0))), (g4, .inl (cy 0, 4, .inl (fun _ => 0))), (g5, .inl (cy 0, 5, .inl (fun _ => 0))), (g6, .inl (cy 0, 4, .inl (fun _ => 0))), (g7, .inl (cy 0, 6, .inl (fun _ => 0)))] : va_W) = wm (fun k => ([g0, g1, g2, g3, g4, g5, g6, g7] : List Nat).getD k 0) cy m_0 := rfl
theorem Ir_0 : Ir m_0 := by
  intro k j h q
  have key : ∀ x : Int32, x = 0 → 0 ≤ h → 0 ≤ x.toInt ∧ x.toInt ≤ h := fun x hx hh => by
    subst hx
    have z : (0 : Int32).toInt = 0 := by decide
    omega
  by_cases hk : k = 0 ∧ j = 3
  · obtain ⟨rfl, rfl⟩ := hk
    exact absurd q (by
      have : br 0 3 = none := by decide
      rw [this]
      intro z
      cases z)
  · refine key _ (if_neg hk) ?_
    unfold br at q
    split at q
    · repeat' split at q
      all_goals first | (cases q; decide) | cases q
    · unfold bS at q
      repeat' split at q
      all_goals first | (cases q; decide) | cases q
    · unfold bS at q
      repeat' split at q
      all_goals first | (cases q; decide) | cases q
    · cases q
      decide
    · cases q
      decide
    · cases q
