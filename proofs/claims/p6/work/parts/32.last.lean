theorem nd_range : ∀ n, va_nd (List.range n) = true := by
  have key : ∀ (l : List Nat), l.Nodup → va_nd l = true := by
    intro l
    induction l with
    | nil => intro _; rfl
    | cons a l ih =>
      intro h
      obtain ⟨h1, h2⟩ := List.nodup_cons.mp h
      show (decide (a ∉ l) && va_nd l) = true
      rw [ih h2, decide_eq_true h1]
      rfl
  intro n
  exact key _ List.nodup_range
theorem at_range (R : va_W) (X : va_W) : (List.range R.length).map (fun i => (R ++ X)[i]?) = R.map some := by
  apply List.ext_getElem?
  intro i
  rw [List.getElem?_map, List.getElem?_map]
  by_cases h : i < R.length
  · rw [List.getElem?_range h]
    show some ((R ++ X)[i]?) = _
    rw [List.getElem?_append_left h, List.getElem?_eq_getElem h]
    rfl
  · rw [List.getElem?_eq_none (by rw [List.length_range]; omega), List.getElem?_eq_none (by omega)]
    rfl
section YT
variable {p : Program} {l : Launch} {e : Env} {R : Room} {s : State} {m : MethodId} {args : Array Value} {below : List Frame} {meth : Method} {c : Code} {H : Heap} {locs : List Loc} {cells slots : Nat} {Q : State → Prop}
variable {pc : Nat} {ls : Array Slot} {rest st0 : List Value} {a : Array Value} {A : Nat → Prop} {H0 : Heap} {mc ms : Nat} {dC : Nat → ClassId} {dI : Nat → Nat → Nat} {cy : Nat → ClassId} {X : va_W} {x : Nat × va_E}
/-- a call whose callee owns the last cell only -/
theorem yt_v {S : Type} {post : S → Prop} {w1 : S → va_W} (hP : va_P (dC, dI) vwCl (X ++ [x]) H) (hD : va_D A (X ++ [x])) (hS : va_S A H0 H locs) (hA : ∀ q, H0.size ≤ q → A q)
    (hr : va_Run p l e R s m args below meth c H locs cells slots mc ms (F0 m pc ls st0) rest (va_Qv post (fun u t => ex_Pst dC dI (va_A [x] H.size) (w1 u) t) (va_A [x] H.size) a) (va_A [x] H.size))
    (kk : ∀ (u : S) (H1 : Heap) (locs1 : List Loc), post u → va_P (dC, dI) vwCl (X ++ w1 u) H1 → va_D A (X ++ w1 u) → va_S A H0 H1 locs1 → W p l e R s m args below meth c H1 locs1 (cells + mc) (slots + ms) Q (F0 m (pc + 3) ls rest)) : W p l e R s m args below meth c H locs cells slots Q (F0 m pc ls st0) := by
  have hC : [X.length].map (fun i => (X ++ [x])[i]?) = ([x] : va_W).map some := by
    show [(X ++ [x])[X.length]?] = [some x]
    rw [List.getElem?_append_right (Nat.le_refl _), Nat.sub_self]
    rfl
  have hF := va_free (wc := [x]) hD hS hA [X.length] hC
  refine va_callv hr hS (fun q _ h => hF q h) hF (fun u t H1 locs1 ht hvm hw hB hz1 hk1 hS1 => ?_)
  obtain ⟨hP1, hD1⟩ := hB
  rw [ht] at hP1
  obtain ⟨hP2, hD2⟩ := va_join hP hD [X.length] (List.range X.length) hC (at_range X [x]) (nd_range _) (fun i hi => by
    have h1 := List.mem_range.mp hi
    intro h2
    have h3 := List.mem_singleton.mp h2
    omega) hk1 hF hP1 hD1
  exact kk u H1 locs1 hw hP2 hD2 hS1
/-- its start -/
theorem yt_pre {As : List Value} (hE : ex_K s) (hK : va_K (dC, dI) vwCl (ty_L cy) s) (hP : va_P (dC, dI) vwCl (X ++ [x]) H) (hD : va_D A (X ++ [x])) : PreS s H (va_Pc As (ex_Pre dC dI cy H.size [x])) As :=
  ex_preS hE hK hP hD [X.length] rfl (by
    show [(X ++ [x])[X.length]?] = [some x]
    rw [List.getElem?_append_right (Nat.le_refl _), Nat.sub_self]
    rfl)
end YT
