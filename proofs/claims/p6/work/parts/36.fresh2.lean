set_option maxHeartbeats 4000000 in
set_option maxRecDepth 100000 in
theorem fresh_wl {dC : Nat → ClassId} {dI : Nat → Nat → Nat} {cy : Nat → ClassId} {A : Nat → Prop} {H : Heap} {h0 h1 h2 h3 q1 q2 q3 q4 q5 q6 q7 q8 r1 r2 : Nat} {u : Nat → Nat} (hu : u 13 = h1) (hP : va_P (dC, dI) vwCl ([(h0, .inr (7, [.ref h1, .ref h2, .ref h3, .null, .int 1]))] ++ wH cy u ++ [(h2, .inr (4, [.int 0, .int 0, .int 0, .ref q1, .ref q2, .ref q3, .ref q4, .ref q5, .ref q6, .ref q7, .ref q8])), (q1, .inl (cy 0, 4, .inl (fun _ => 0))), (q2, .inl (cy 0, 4, .inl (fun _ => 0))), (q3, .inl (cy 0, 4, .inl (fun _ => 0))), (q4, .inl (cy 0, 4, .inl (fun _ => 0))), (q5, .inl (cy 0, 4, .inl (fun _ => 0))), (q6, .inl (cy 0, 4, .inl (fun _ => 0))), (q7, .inl (cy 0, 3, .inl (fun _ => 0))), (q8, .inl (cy 0, 3, .inl (fun _ => 0)))] ++ [(h3, .inr (5, [.int 0, .ref r1, .ref r2])), (r1, .inl (cy 0, 5, .inl (fun _ => 0))), (r2, .inl (cy 0, 5, .inl (fun _ => 0)))]) H) (hD : va_D A ([(h0, .inr (7, [.ref h1, .ref h2, .ref h3, .null, .int 1]))] ++ wH cy u ++ [(h2, .inr (4, [.int 0, .int 0, .int 0, .ref q1, .ref q2, .ref q3, .ref q4, .ref q5, .ref q6, .ref q7, .ref q8])), (q1, .inl (cy 0, 4, .inl (fun _ => 0))), (q2, .inl (cy 0, 4, .inl (fun _ => 0))), (q3, .inl (cy 0, 4, .inl (fun _ => 0))), (q4, .inl (cy 0, 4, .inl (fun _ => 0))), (q5, .inl (cy 0, 4, .inl (fun _ => 0))), (q6, .inl (cy 0, 4, .inl (fun _ => 0))), (q7, .inl (cy 0, 3, .inl (fun _ => 0))), (q8, .inl (cy 0, 3, .inl (fun _ => 0)))] ++ [(h3, .inr (5, [.int 0, .ref r1, .ref r2])), (r1, .inl (cy 0, 5, .inl (fun _ => 0))), (r2, .inl (cy 0, 5, .inl (fun _ => 0)))])) : ∃ ad : Nat → Nat, ad 0 = h0 ∧ va_P (dC, dI) vwCl (wl ad .null cy 119 v_0) H ∧ va_D A (wl ad .null cy 119 v_0) := by
  subst hu
  obtain ⟨ad, had⟩ : ∃ ad : Nat → Nat, ad = fun k => if k < 13 then ([h0, h2, q1, q2, q3, q4, q5, q6, q7, q8, h3, r1, r2] : List Nat).getD k 0 else u k := ⟨_, rfl⟩
  have a0 : ad 0 = h0 := by rw [had]; rfl
  have a1 : ad 1 = h2 := by rw [had]; rfl
  have a2 : ad 2 = q1 := by rw [had]; rfl
  have a3 : ad 3 = q2 := by rw [had]; rfl
  have a4 : ad 4 = q3 := by rw [had]; rfl
  have a5 : ad 5 = q4 := by rw [had]; rfl
  have a6 : ad 6 = q5 := by rw [had]; rfl
  have a7 : ad 7 = q6 := by rw [had]; rfl
  have a8 : ad 8 = q7 := by rw [had]; rfl
  have a9 : ad 9 = q8 := by rw [had]; rfl
  have a10 : ad 10 = h3 := by rw [had]; rfl
  have a11 : ad 11 = r1 := by rw [had]; rfl
  have a12 : ad 12 = r2 := by rw [had]; rfl
  have ah : ∀ j, 13 ≤ j → ad j = u j := fun j h => by rw [had]; exact if_neg (by omega)
  refine ⟨ad, a0, wl_pi (fun k => if k = 0 then 0 else if k < 13 then 106 + k else k - 12) (fun k hk => ?_) (fun i j hi hj h => ?_) hP hD⟩
  · have hl : (([(h0, .inr (7, [.ref (u 13), .ref h2, .ref h3, .null, .int 1]))] : va_W) ++ wH cy u).length = 107 := by simp [wH]
    have hl2 : ((([(h0, .inr (7, [.ref (u 13), .ref h2, .ref h3, .null, .int 1]))] : va_W) ++ wH cy u) ++ ([(h2, .inr (4, [.int 0, .int 0, .int 0, .ref q1, .ref q2, .ref q3, .ref q4, .ref q5, .ref q6, .ref q7, .ref q8])), (q1, .inl (cy 0, 4, .inl (fun _ => 0))), (q2, .inl (cy 0, 4, .inl (fun _ => 0))), (q3, .inl (cy 0, 4, .inl (fun _ => 0))), (q4, .inl (cy 0, 4, .inl (fun _ => 0))), (q5, .inl (cy 0, 4, .inl (fun _ => 0))), (q6, .inl (cy 0, 4, .inl (fun _ => 0))), (q7, .inl (cy 0, 3, .inl (fun _ => 0))), (q8, .inl (cy 0, 3, .inl (fun _ => 0)))] : va_W)).length = 116 := by rw [List.length_append, hl]; rfl
    by_cases h13 : k < 13
    · rcases (show k = 0 ∨ k = 1 ∨ k = 2 ∨ k = 3 ∨ k = 4 ∨ k = 5 ∨ k = 6 ∨ k = 7 ∨ k = 8 ∨ k = 9 ∨ k = 10 ∨ k = 11 ∨ k = 12 by omega) with rfl | rfl | rfl | rfl | rfl | rfl | rfl | rfl | rfl | rfl | rfl | rfl | rfl
      · rw [ce_0 (by decide), a0, a1, a10, ah 13 (by omega)]
        rfl
      · show ((_ ++ _) ++ _)[107]? = _
        rw [List.getElem?_append_left (by rw [hl2]; decide), List.getElem?_append_right (by rw [hl]; decide), hl]
        rw [ce_1 (by decide), a1, a2, a3, a4, a5, a6, a7, a8, a9]
        rfl
      · show ((_ ++ _) ++ _)[108]? = _
        rw [List.getElem?_append_left (by rw [hl2]; decide), List.getElem?_append_right (by rw [hl]; decide), hl]
        rw [ce_17 (by decide), a2, v_0n (by decide)]
        rfl
      · show ((_ ++ _) ++ _)[109]? = _
        rw [List.getElem?_append_left (by rw [hl2]; decide), List.getElem?_append_right (by rw [hl]; decide), hl]
        rw [ce_17 (by decide), a3, v_0n (by decide)]
        rfl
      · show ((_ ++ _) ++ _)[110]? = _
        rw [List.getElem?_append_left (by rw [hl2]; decide), List.getElem?_append_right (by rw [hl]; decide), hl]
        rw [ce_17 (by decide), a4, v_0n (by decide)]
        rfl
      · show ((_ ++ _) ++ _)[111]? = _
        rw [List.getElem?_append_left (by rw [hl2]; decide), List.getElem?_append_right (by rw [hl]; decide), hl]
        rw [ce_21 (by decide), a5, v_0n (by decide)]
        rfl
      · show ((_ ++ _) ++ _)[112]? = _
        rw [List.getElem?_append_left (by rw [hl2]; decide), List.getElem?_append_right (by rw [hl]; decide), hl]
        rw [ce_17 (by decide), a6, v_0n (by decide)]
        rfl
      · show ((_ ++ _) ++ _)[113]? = _
        rw [List.getElem?_append_left (by rw [hl2]; decide), List.getElem?_append_right (by rw [hl]; decide), hl]
        rw [ce_17 (by decide), a7, v_0n (by decide)]
        rfl
      · show ((_ ++ _) ++ _)[114]? = _
        rw [List.getElem?_append_left (by rw [hl2]; decide), List.getElem?_append_right (by rw [hl]; decide), hl]
        rw [ce_18 (by decide), a8, v_0n (by decide)]
        rfl
      · show ((_ ++ _) ++ _)[115]? = _
        rw [List.getElem?_append_left (by rw [hl2]; decide), List.getElem?_append_right (by rw [hl]; decide), hl]
        rw [ce_18 (by decide), a9, v_0n (by decide)]
        rfl
      · show ((_ ++ _) ++ _)[116]? = _
        rw [List.getElem?_append_right (by rw [hl2]; decide), hl2]
        rw [ce_2 (by decide), a10, a11, a12]
        rfl
      · show ((_ ++ _) ++ _)[117]? = _
        rw [List.getElem?_append_right (by rw [hl2]; decide), hl2]
        rw [ce_19 (by decide), a11, v_0n (by decide)]
        rfl
      · show ((_ ++ _) ++ _)[118]? = _
        rw [List.getElem?_append_right (by rw [hl2]; decide), hl2]
        rw [ce_19 (by decide), a12, v_0n (by decide)]
        rfl
    · obtain ⟨o, rfl⟩ : ∃ o, k = 13 + o := ⟨k - 13, by omega⟩
      have ho : o < 106 := by omega
      have hq := kd_ge o ho
      have hidx : (if 13 + o = 0 then 0 else if 13 + o < 13 then 106 + (13 + o) else 13 + o - 12) = o + 1 := by rw [if_neg (by omega), if_neg (by omega)]; omega
      show (_ : va_W)[(if 13 + o = 0 then 0 else if 13 + o < 13 then 106 + (13 + o) else 13 + o - 12)]? = _
      rw [hidx, List.getElem?_append_left (by rw [hl2]; omega), List.getElem?_append_left (by rw [hl]; omega)]
      show (wH cy u)[o]? = _
      unfold wH
      rw [List.getElem?_map, List.getElem?_range ho, v_0n (by omega), ah (13 + o) (by omega), ce_cg ah (by omega) hq.1 hq.2.1 hq.2.2]
      rfl
  · by_cases i0 : i = 0 <;> by_cases j0 : j = 0 <;> by_cases i1 : i < 13 <;> by_cases j1 : j < 13 <;> simp only [i0, j0, i1, j1, if_true, if_false] at h <;> omega
