theorem ce_cg {ad u : Nat → Nat} {kv : Value} {cy : Nat → ClassId} {k : Nat} {r : Nat → Int32} (h : ∀ j, 13 ≤ j → ad j = u j) (hk : 13 ≤ k) (h0 : kd k ≠ 0) (h1 : kd k ≠ 1) (h2 : kd k ≠ 2) : ce ad kv cy k r = ce u kv cy k r := by
  have e : ∀ c, ad (k + c) = u (k + c) := fun c => h (k + c) (by omega)
  have e2 : ∀ c i, ad (k + c + i) = u (k + c + i) := fun c i => h (k + c + i) (by omega)
  have e3 : ∀ i, ad (k + 13 + 15 * i) = u (k + 13 + 15 * i) := fun i => h _ (by omega)
  unfold ce
  split <;> first | rfl | (exfalso; contradiction) | simp only [e, e2, e3]
theorem kd_ge : ∀ o, o < 106 → kd (13 + o) ≠ 0 ∧ kd (13 + o) ≠ 1 ∧ kd (13 + o) ≠ 2 := by decide
/-- the ints of a new object -/
def v_0 : Nat → Nat → Int32 := fun k j => if k = 0 ∧ j = 4 then 1 else 0
theorem v_0n {k : Nat} (h : k ≠ 0) : v_0 k = fun _ => 0 := funext fun j => if_neg (fun q => h q.1)
theorem Iv_0 : Iv v_0 := by
  intro k j h q
  by_cases hk : k = 0 ∧ j = 4
  · obtain ⟨rfl, rfl⟩ := hk
    exact absurd q (by
      have : bd (kd 0) 4 = none := by decide
      rw [this]
      intro z
      cases z)
  · have e : v_0 k j = 0 := if_neg hk
    have z : (0 : Int32).toInt = 0 := by decide
    rw [e, z]
    refine ⟨Int.le_refl 0, ?_⟩
    unfold bd at q
    split at q <;> (repeat' split at q) <;> first | (cases q; decide) | cases q
/-- places by a way of finding them -/
theorem wl_pi {dC : Nat → ClassId} {dI : Nat → Nat → Nat} {cl : List vw_C} {ad : Nat → Nat} {kv : Value} {cy : Nat → ClassId} {N : Nat} {v : Nat → Nat → Int32} {big : va_W} {A : Nat → Prop} {H : Heap} (pi : Nat → Nat) (hp : ∀ k, k < N → big[pi k]? = some (ad k, ce ad kv cy k (v k))) (hi : ∀ i j, i < N → j < N → pi i = pi j → i = j) (hP : va_P (dC, dI) cl big H) (hD : va_D A big) : va_P (dC, dI) cl (wl ad kv cy N v) H ∧ va_D A (wl ad kv cy N v) := by
  have key : ∀ (k : Nat) (q : Nat × va_E), (wl ad kv cy N v)[k]? = some q → k < N ∧ big[pi k]? = some q := by
    intro k q hq
    have hk : k < N := by
      have := (List.getElem?_eq_some_iff.mp hq).1
      unfold wl at this
      rw [List.length_map, List.length_range] at this
      exact this
    rw [wl_at hk rfl] at hq
    exact ⟨hk, by rw [hp k hk]; exact hq⟩
  refine ⟨fun k q hq => hP _ q (key k q hq).2, fun i j x y hx hy hxy => ?_, fun k q hq => hD.2 _ q (key k q hq).2⟩
  exact hi i j (key i x hx).1 (key j y hy).1 (hD.1 _ _ x y (key i x hx).2 (key j y hy).2 hxy)
