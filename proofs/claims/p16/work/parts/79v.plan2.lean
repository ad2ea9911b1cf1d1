
/-- cases that stand open, told by how many there are before them -/
def gth (op : Nat → Prop) (i : Nat) (K : Int) (num : Nat → Int) : Prop := (K = (if cN (fun c => ind (op c)) i < 4 then cN (fun c => ind (op c)) i else 4)) ∧ ∀ k : Nat, (k : Int) < K → ∃ c : Nat, (num k = (c : Int) ∧ c < i) ∧ op c ∧ cN (fun c => ind (op c)) c = (k : Int)
theorem cN_mono {P : Nat → Prop} {a b : Nat} (h : a ≤ b) : cN (fun c => ind (P c)) a ≤ cN (fun c => ind (P c)) b := by
  have z := cN_tl (f := fun c => ind (P c)) h
  have y := cN_le (f := fun _ => 0) (g := fun k => ind (a ≤ k) * ind (P k)) (n := b) (fun k _ => Int.mul_nonneg (ind_b _).1 (ind_b _).1)
  rw [cN_z (f := fun _ => 0) (n := b) (fun _ _ => rfl)] at y
  omega
theorem gth_0 {op : Nat → Prop} {K : Int} {num : Nat → Int} (hK : K = 0) : gth op 0 K num := by
  refine ⟨?_, fun k hk => absurd hk (by omega)⟩
  show K = if (0 : Int) < 4 then 0 else 4
  rw [if_pos (by decide)]
  exact hK
theorem gth_no {op : Nat → Prop} {i : Nat} {K : Int} {num : Nat → Int} (h : gth op i K num) (hn : ¬ op i) : gth op (i + 1) K num := by
  have e : cN (fun c => ind (op c)) (i + 1) = cN (fun c => ind (op c)) i := by
    show cN (fun c => ind (op c)) i + ind (op i) = _
    rw [ind_0 hn]
    omega
  refine ⟨by rw [e]; exact h.1, fun k hk => ?_⟩
  obtain ⟨c, ⟨a1, a2⟩, a3⟩ := h.2 k hk
  exact ⟨c, ⟨a1, by omega⟩, a3⟩
theorem gth_s {op : Nat → Prop} {i : Nat} {K K2 : Int} {num n2 : Nat → Int} (h : gth op i K num) (ho : op i) (hK : K < 4) (h2 : K2 = K + 1) (hn : ∀ k : Nat, (k : Int) < K → n2 k = num k) (hi : ∀ k : Nat, (k : Int) = K → n2 k = (i : Int)) : gth op (i + 1) K2 n2 := by
  have e : cN (fun c => ind (op c)) (i + 1) = cN (fun c => ind (op c)) i + 1 := by
    show cN (fun c => ind (op c)) i + ind (op i) = _
    rw [ind_1 ho]
  have q := h.1
  have hc : K = cN (fun c => ind (op c)) i := by
    by_cases z : cN (fun c => ind (op c)) i < 4
    · rw [if_pos z] at q
      exact q
    · rw [if_neg z] at q
      omega
  refine ⟨?_, fun k hk => ?_⟩
  · rw [e, ← hc]
    by_cases z : K + 1 < 4
    · rw [if_pos z]
      exact h2
    · rw [if_neg z]
      omega
  · by_cases z : (k : Int) < K
    · obtain ⟨c, ⟨a1, a2⟩, a3⟩ := h.2 k z
      exact ⟨c, ⟨by rw [hn k z]; exact a1, by omega⟩, a3⟩
    · exact ⟨i, ⟨hi k (by omega), by omega⟩, ho, by omega⟩
/-- four are enough -/
theorem gth_4 {op : Nat → Prop} {i n : Nat} {K : Int} {num : Nat → Int} (h : gth op i K num) (hi : i ≤ n) (h4 : i = n ∨ 4 ≤ K) : gth op n K num := by
  rcases h4 with h4 | h4
  · rw [← h4]
    exact h
  · have q := h.1
    have m := cN_mono (P := op) hi
    have z : ¬ cN (fun c => ind (op c)) i < 4 := fun z => by
      rw [if_pos z] at q
      omega
    rw [if_neg z] at q
    refine ⟨by rw [if_neg (by omega)]; exact q, fun k hk => ?_⟩
    obtain ⟨c, ⟨a1, a2⟩, a3⟩ := h.2 k hk
    exact ⟨c, ⟨a1, by omega⟩, a3⟩
theorem gth_un {op pq : Nat → Prop} {n : Nat} {K L : Int} {num mun : Nat → Int} (e : ∀ c : Nat, c < n → (op c ↔ pq c)) (h1 : gth op n K num) (h2 : gth pq n L mun) : K = L ∧ ∀ k : Nat, (k : Int) < K → num k = mun k := by
  have ec : ∀ i : Nat, i ≤ n → cN (fun c => ind (op c)) i = cN (fun c => ind (pq c)) i := fun i hi => cN_cg (fun c hc => ind_cg (e c (by omega)))
  have eK : K = L := by
    rw [h1.1, h2.1, ec n (Nat.le_refl n)]
  refine ⟨eK, fun k hk => ?_⟩
  obtain ⟨c, ⟨a1, a2⟩, a3, a4⟩ := h1.2 k hk
  obtain ⟨d, ⟨b1, b2⟩, b3, b4⟩ := h2.2 k (by omega)
  rw [← ec d (by omega)] at b4
  have key : ∀ x y : Nat, x < y → op x → cN (fun c => ind (op c)) x < cN (fun c => ind (op c)) y := fun x y hxy hx => by
    have m := cN_mono (P := op) (show x + 1 ≤ y by omega)
    have s : cN (fun c => ind (op c)) (x + 1) = cN (fun c => ind (op c)) x + 1 := by
      show cN (fun c => ind (op c)) x + ind (op x) = _
      rw [ind_1 hx]
    omega
  rcases Nat.lt_trichotomy c d with q | q | q
  · have := key c d q a3
    omega
  · rw [a1, b1, q]
  · have := key d c q ((e d b2).mpr b3)
    omega
/-- heaviest first: the first i cases, sorted -/
def srt (w : Nat → Int) (i : Nat) (s : Nat → Nat) : Prop := prm i s ∧ ∀ a b : Nat, a < b → b < i → w (s b) ≤ w (s a)
/-- a case put in at place p, those behind it one further -/
theorem srt_s {w : Nat → Int} {i p : Nat} {s g : Nat → Nat} (h : srt w i s) (hp : p ≤ i) (hl : ∀ j : Nat, j < p → g j = s j) (he : g p = i) (hr : ∀ j : Nat, p < j → j ≤ i → g j = s (j - 1)) (hw1 : ∀ j : Nat, p ≤ j → j < i → w (s j) < w i) (hw2 : 0 < p → w i ≤ w (s (p - 1))) : srt w (i + 1) g := by
  obtain ⟨⟨h1, h2, h3⟩, h4⟩ := h
  have cs : ∀ j : Nat, j < i + 1 → (j < p ∧ g j = s j) ∨ (j = p ∧ g j = i) ∨ (p < j ∧ g j = s (j - 1)) := fun j hj => by
    rcases Nat.lt_trichotomy j p with q | q | q
    · exact Or.inl ⟨q, hl j q⟩
    · exact Or.inr (Or.inl ⟨q, by rw [q]; exact he⟩)
    · exact Or.inr (Or.inr ⟨q, hr j q (by omega)⟩)
  refine ⟨⟨fun j hj => ?_, fun a b ha hb e => ?_, fun k hk => ?_⟩, fun a b hab hb => ?_⟩
  · rcases cs j hj with ⟨q, e⟩ | ⟨q, e⟩ | ⟨q, e⟩
    · have := h1 j (by omega)
      omega
    · omega
    · have := h1 (j - 1) (by omega)
      omega
  · rcases cs a ha with ⟨q, e1⟩ | ⟨q, e1⟩ | ⟨q, e1⟩ <;> rcases cs b hb with ⟨r, e2⟩ | ⟨r, e2⟩ | ⟨r, e2⟩
    · exact h2 a b (by omega) (by omega) (by rw [← e1, ← e2, e])
    · have := h1 a (by omega)
      omega
    · have := h2 a (b - 1) (by omega) (by omega) (by rw [← e1, ← e2, e])
      omega
    · have := h1 b (by omega)
      omega
    · omega
    · have := h1 (b - 1) (by omega)
      omega
    · have := h2 (a - 1) b (by omega) (by omega) (by rw [← e1, ← e2, e])
      omega
    · have := h1 (a - 1) (by omega)
      omega
    · have := h2 (a - 1) (b - 1) (by omega) (by omega) (by rw [← e1, ← e2, e])
      omega
  · by_cases e : k = i
    · exact ⟨p, by omega, by rw [he, e]⟩
    · obtain ⟨j, j1, j2⟩ := h3 k (by omega)
      by_cases q : j < p
      · exact ⟨j, by omega, by rw [hl j q]; exact j2⟩
      · exact ⟨j + 1, by omega, by rw [hr (j + 1) (by omega) (by omega)]; exact j2⟩
  · rcases cs a (by omega) with ⟨q, e1⟩ | ⟨q, e1⟩ | ⟨q, e1⟩ <;> rcases cs b hb with ⟨r, e2⟩ | ⟨r, e2⟩ | ⟨r, e2⟩ <;> rw [e1, e2]
    · exact h4 a b hab (by omega)
    · by_cases z : a = p - 1
      · rw [z]
        exact hw2 (by omega)
      · have x := h4 a (p - 1) (by omega) (by omega)
        have y := hw2 (by omega)
        omega
    · exact h4 a (b - 1) (by omega) (by omega)
    · omega
    · omega
    · have := hw1 (b - 1) (by omega) (by omega)
      omega
    · omega
    · omega
    · exact h4 (a - 1) (b - 1) (by omega) (by omega)
/-- the greedy plan, whatever it gave -/
def GR (s : Nat → Nat) (w : Nat → Int) (pb : Nat → Prop) (d : Nat) (sa : Int) (st : Nat → Int) (i : Nat) (least : Int) (day : Nat) (taken : Int) : Prop := ∃ c : Nat → Nat, GRD s w pb d sa st i least day taken c ∧ GRM s pb d i day c
section GRS
variable {s : Nat → Nat} {w : Nat → Int} {pb : Nat → Prop} {d i : Nat} {x y z t2 l2 : Int32} {sa : Int} {st : Nat → Int}
theorem GR_0 {least taken : Int} {a b : Nat} (ha : a = 0) (hb : b = 0) (hl : least = 0) (ht : taken = st 0) : GR s w pb d sa st a least b taken := by
  rw [ha, hb, hl]
  exact ⟨fun _ => 0, GRD_0 ht, GRM_0⟩
theorem GR_d {least taken u : Int} {a b : Nat} (h : GR s w pb d sa st i least a taken) (h3 : a < 3) (hf : sa ≤ taken) (hb : b = a + 1) (ht : b < 3 → u = st b) : GR s w pb d sa st i least b u := by
  obtain ⟨c, h1, h2⟩ := h
  rw [hb] at ht ⊢
  exact ⟨c, GRD_d h1 h3 hf ht, GRM_d h2⟩
theorem GR_no {least taken : Int} {a j : Nat} (h : GR s w pb d sa st i least a taken) (hj : j = i + 1) (hn : ¬ d ≤ s i) : GR s w pb d sa st j least a taken := by
  obtain ⟨c, h1, h2⟩ := h
  rw [hj]
  exact ⟨c, GRD_no h1 hn, GRM_no h2 hn⟩
theorem GR_y {least taken l u : Int} {a j : Nat} (h : GR s w pb d sa st i least a taken) (hj : j = i + 1) (hd : d ≤ s i) (h3 : a < 3) (hf : taken < sa) (hp : pb (s i)) (hl : l = least + w (s i) * (a : Int)) (hu : u = taken + 1) : GR s w pb d sa st j l a u := by
  obtain ⟨c, h1, h2⟩ := h
  rw [hj]
  exact ⟨_, GRD_s h1 hd (Or.inl ⟨h3, hf, hp, rfl, hu, hl⟩), GRM_s h2 (Or.inl ⟨h3, rfl⟩) (by omega)⟩
theorem GR_n {least taken l u : Int} {a j : Nat} (h : GR s w pb d sa st i least a taken) (hj : j = i + 1) (hd : d ≤ s i) (h3 : a = 3 ∨ (¬ pb (s i) ∧ taken < sa)) (hl : l = least + w (s i) * 4) (hu : u = taken) : GR s w pb d sa st j l a u := by
  obtain ⟨c, h1, h2⟩ := h
  rw [hj]
  exact ⟨_, GRD_s h1 hd (Or.inr ⟨h3, rfl, hu, hl⟩), GRM_s h2 (Or.inr ⟨rfl, h3.elim Or.inl (fun q => Or.inr q.1)⟩) h1.1.1⟩
end GRS
