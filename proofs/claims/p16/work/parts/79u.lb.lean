
/-- sums over places and over cases -/
theorem cN_sw {F : Nat → Nat → Int} {n : Nat} : ∀ m : Nat, cN (fun i => cN (fun j => F i j) n) m = cN (fun j => cN (fun i => F i j) m) n
  | 0 => (cN_z (f := fun j => cN (fun i => F i j) 0) (fun _ _ => rfl)).symm
  | m + 1 => by
    show cN (fun i => cN (fun j => F i j) n) m + cN (fun j => F m j) n = cN (fun j => cN (fun i => F i j) m + F m j) n
    rw [cN_add, cN_sw m]
theorem cN_one1 {f : Nat → Int} {k : Nat} : ∀ {m : Nat}, k < m → cN (fun i => ind (i = k) * f i) m = f k
  | 0, h => absurd h (Nat.not_lt_zero _)
  | m + 1, h => by
    show cN (fun i => ind (i = k) * f i) m + ind (m = k) * f m = f k
    by_cases e : m = k
    · rw [cN_z (f := fun i => ind (i = k) * f i) (n := m) (fun i hi => by show ind (i = k) * f i = 0; rw [ind_0 (by omega), Int.zero_mul]), ind_1 e, e]
      omega
    · rw [cN_one1 (f := f) (m := m) (by omega), ind_0 e]
      omega
/-- s goes over the numbers below m, each once -/
def prm (m : Nat) (s : Nat → Nat) : Prop := (∀ j : Nat, j < m → s j < m) ∧ (∀ i j : Nat, i < m → j < m → s i = s j → i = j) ∧ ∀ k : Nat, k < m → ∃ j : Nat, j < m ∧ s j = k
theorem cN_prm {m : Nat} {s : Nat → Nat} (h : prm m s) (f : Nat → Int) : cN (fun j => f (s j)) m = cN f m := by
  have a : ∀ j : Nat, j < m → cN (fun k => ind (k = s j) * f k) m = f (s j) := fun j hj => cN_one1 (h.1 j hj)
  rw [← cN_cg (f := fun j => cN (fun k => ind (k = s j) * f k) m) (n := m) a, cN_sw (F := fun j k => ind (k = s j) * f k) (n := m) m]
  refine cN_cg (fun k hk => ?_)
  obtain ⟨j0, hj, e⟩ := h.2.2 k hk
  have b : ∀ j : Nat, j < m → ind (k = s j) * f k = ind (j = j0) * f k := fun j hj2 => by
    by_cases q : j = j0
    · rw [ind_1 q, ind_1 (by rw [q]; exact e.symm)]
    · rw [ind_0 q, ind_0 (fun w => q (h.2.1 j j0 hj2 hj (by rw [← w, e])))]
  show cN (fun j => ind (k = s j) * f k) m = f k
  rw [cN_cg (f := fun j => ind (k = s j) * f k) (g := fun j => ind (j = j0) * f k) b]
  exact cN_one1 (f := fun _ => f k) hj
/-- seats left on a day -/
def cpp (sa x : Int) : Int := if x < sa then sa - x else 0
def Cap (sa : Int) (st : Nat → Int) : Nat → Int
  | 0 => 0
  | n + 1 => Cap sa st n + cpp sa (st n)
theorem cpp_b (sa x : Int) : 0 ≤ cpp sa x := by
  unfold cpp
  split <;> omega
theorem Cap_up {sa : Int} {st : Nat → Int} (a : Nat) : ∀ n : Nat, Cap sa st a ≤ Cap sa st (a + n)
  | 0 => Int.le_refl _
  | n + 1 => by
    have h := Cap_up (sa := sa) (st := st) a n
    have q := cpp_b sa (st (a + n))
    show Cap sa st a ≤ Cap sa st (a + n) + cpp sa (st (a + n))
    omega
/-- seats given on the days up to th, when the greedy plan stands at day with taken seats -/
def usd (sa : Int) (st : Nat → Int) (th day : Nat) (taken : Int) : Int := if day ≤ th then Cap sa st day + (taken - st day) else Cap sa st (th + 1)
/-- the greedy plan has come to place i: c is what it gave -/
def GRD (s : Nat → Nat) (w : Nat → Int) (pb : Nat → Prop) (d : Nat) (sa : Int) (st : Nat → Int) (i : Nat) (least : Int) (day : Nat) (taken : Int) (c : Nat → Nat) : Prop := (day ≤ 3 ∧ (day < 3 → st day ≤ taken ∧ (taken ≤ sa ∨ taken ≤ st day))) ∧ (least = cN (fun j => ind (d ≤ s j) * (w (s j) * cst (if c j ≤ 2 then 6 * c j else 18))) i ∧ ∀ j : Nat, j < i → d ≤ s j → (c j ≤ 2 ∧ pb (s j)) ∨ c j = 4) ∧ ∀ th : Nat, th ≤ 2 → cN (fun j => ind (d ≤ s j ∧ c j ≤ th)) i = usd sa st th day taken ∧ ((∀ j : Nat, j < i → d ≤ s j → pb (s j) → c j ≤ th) ∨ cN (fun j => ind (d ≤ s j ∧ c j ≤ th)) i = Cap sa st (th + 1))
/-- who comes first sits first -/
def GRM (s : Nat → Nat) (pb : Nat → Prop) (d i day : Nat) (c : Nat → Nat) : Prop := (day < 3 → ∀ j : Nat, j < i → d ≤ s j → pb (s j) → c j ≤ day) ∧ ∀ j k : Nat, j < k → k < i → d ≤ s j → pb (s j) → d ≤ s k → c k ≤ 2 → c j ≤ c k
def upd9 (c : Nat → Nat) (i x j : Nat) : Nat := if j = i then x else c j
section GRDS
variable {s : Nat → Nat} {w : Nat → Int} {pb : Nat → Prop} {d i day : Nat} {sa taken least : Int} {st : Nat → Int} {c : Nat → Nat}
theorem GRD_0 (ht : taken = st 0) : GRD s w pb d sa st 0 0 0 taken c := by
  refine ⟨⟨by omega, fun _ => ⟨by omega, Or.inr (by omega)⟩⟩, ⟨rfl, fun j hj => absurd hj (Nat.not_lt_zero _)⟩, fun th hth => ⟨?_, Or.inl (fun j hj => absurd hj (Nat.not_lt_zero _))⟩⟩
  unfold usd
  rw [if_pos (Nat.zero_le _)]
  show (0 : Int) = 0 + (taken - st 0)
  omega
/-- a day that is full -/
theorem GRD_d (h : GRD s w pb d sa st i least day taken c) (h3 : day < 3) (hf : sa ≤ taken) {t2 : Int} (ht : day + 1 < 3 → t2 = st (day + 1)) : GRD s w pb d sa st i least (day + 1) t2 c := by
  obtain ⟨⟨h1, h2⟩, h3', h4⟩ := h
  obtain ⟨a1, a2⟩ := h2 h3
  have e : taken - st day = cpp sa (st day) := by
    unfold cpp
    split <;> omega
  refine ⟨⟨by omega, fun q => ⟨by rw [ht q]; exact Int.le_refl _, Or.inr (by rw [ht q]; exact Int.le_refl _)⟩⟩, h3', fun th hth => ?_⟩
  have key : usd sa st th (day + 1) t2 = usd sa st th day taken := by
    unfold usd
    have cs : Cap sa st (day + 1) = Cap sa st day + cpp sa (st day) := rfl
    by_cases q : day + 1 ≤ th
    · rw [if_pos q, if_pos (by omega), ht (by omega)]
      omega
    · rw [if_neg q]
      by_cases r : day ≤ th
      · rw [if_pos r, show th = day from by omega]
        omega
      · rw [if_neg r]
  rw [key]
  exact h4 th hth
/-- the next place: not of the cases asked for -/
theorem GRD_no (h : GRD s w pb d sa st i least day taken c) (hn : ¬ d ≤ s i) : GRD s w pb d sa st (i + 1) least day taken c := by
  obtain ⟨h1, ⟨h2, h3⟩, h4⟩ := h
  refine ⟨h1, ⟨?_, fun j hj hd => ?_⟩, fun th hth => ?_⟩
  · show least = cN (fun j => ind (d ≤ s j) * (w (s j) * cst (if c j ≤ 2 then 6 * c j else 18))) i + ind (d ≤ s i) * (w (s i) * cst (if c i ≤ 2 then 6 * c i else 18))
    rw [ind_0 hn, Int.zero_mul]
    omega
  · by_cases e : j = i
    · rw [e] at hd
      exact absurd hd hn
    · exact h3 j (by omega) hd
  · have key : cN (fun j => ind (d ≤ s j ∧ c j ≤ th)) (i + 1) = cN (fun j => ind (d ≤ s j ∧ c j ≤ th)) i := by
      show cN (fun j => ind (d ≤ s j ∧ c j ≤ th)) i + ind (d ≤ s i ∧ c i ≤ th) = _
      rw [ind_0 (fun q => hn q.1)]
      omega
    rw [key]
    refine ⟨(h4 th hth).1, ?_⟩
    rcases (h4 th hth).2 with q | q
    · refine Or.inl (fun j hj hd hp => ?_)
      by_cases e : j = i
      · rw [e] at hd
        exact absurd hd hn
      · exact q j (by omega) hd hp
    · exact Or.inr q
/-- the next place: seated on the day that stands, or nowhere -/
theorem GRD_s (h : GRD s w pb d sa st i least day taken c) (hd : d ≤ s i) {x : Nat} {l2 t2 : Int} (hx : (day < 3 ∧ taken < sa ∧ pb (s i) ∧ x = day ∧ t2 = taken + 1 ∧ l2 = least + w (s i) * (day : Int)) ∨ ((day = 3 ∨ (¬ pb (s i) ∧ taken < sa)) ∧ x = 4 ∧ t2 = taken ∧ l2 = least + w (s i) * 4)) : GRD s w pb d sa st (i + 1) l2 day t2 (upd9 c i x) := by
  obtain ⟨⟨h1, h1b⟩, ⟨h2, h3⟩, h4⟩ := h
  have cj : ∀ j : Nat, j < i → upd9 c i x j = c j := fun j hj => if_neg (by omega)
  have ci : upd9 c i x i = x := if_pos rfl
  have kind : ∀ th : Nat, cN (fun j => ind (d ≤ s j ∧ upd9 c i x j ≤ th)) (i + 1) = cN (fun j => ind (d ≤ s j ∧ c j ≤ th)) i + ind (x ≤ th) := fun th => by
    show cN (fun j => ind (d ≤ s j ∧ upd9 c i x j ≤ th)) i + ind (d ≤ s i ∧ upd9 c i x i ≤ th) = _
    rw [ci, cN_cg (f := fun j => ind (d ≤ s j ∧ upd9 c i x j ≤ th)) (g := fun j => ind (d ≤ s j ∧ c j ≤ th)) (fun j hj => by show ind (d ≤ s j ∧ upd9 c i x j ≤ th) = _; rw [cj j hj]), ind_cg (show (d ≤ s i ∧ x ≤ th) ↔ x ≤ th from ⟨fun q => q.2, fun q => ⟨hd, q⟩⟩)]
  have ksum : cN (fun j => ind (d ≤ s j) * (w (s j) * cst (if upd9 c i x j ≤ 2 then 6 * upd9 c i x j else 18))) (i + 1) = least + w (s i) * cst (if x ≤ 2 then 6 * x else 18) := by
    show cN (fun j => ind (d ≤ s j) * (w (s j) * cst (if upd9 c i x j ≤ 2 then 6 * upd9 c i x j else 18))) i + ind (d ≤ s i) * (w (s i) * cst (if upd9 c i x i ≤ 2 then 6 * upd9 c i x i else 18)) = _
    rw [ci, cN_cg (f := fun j => ind (d ≤ s j) * (w (s j) * cst (if upd9 c i x j ≤ 2 then 6 * upd9 c i x j else 18))) (g := fun j => ind (d ≤ s j) * (w (s j) * cst (if c j ≤ 2 then 6 * c j else 18))) (fun j hj => by show ind (d ≤ s j) * (w (s j) * cst (if upd9 c i x j ≤ 2 then 6 * upd9 c i x j else 18)) = _; rw [cj j hj]), ← h2, ind_1 hd, Int.one_mul]
  have kdis : ∀ j : Nat, j < i + 1 → d ≤ s j → (upd9 c i x j ≤ 2 ∧ pb (s j)) ∨ upd9 c i x j = 4 := fun j hj hdj => by
    by_cases e : j = i
    · rw [e, ci]
      rcases hx with ⟨a1, a2, a3, a4, -⟩ | ⟨-, a2, -⟩
      · exact Or.inl ⟨by omega, a3⟩
      · exact Or.inr a2
    · rw [cj j (by omega)]
      exact h3 j (by omega) hdj
  rcases hx with ⟨a1, a2, a3, a4, a5, a6⟩ | ⟨a1, a2, a3, a4⟩
  · obtain ⟨b1, b2⟩ := h1b a1
    have ec : cst (if x ≤ 2 then 6 * x else 18) = (day : Int) := by
      rw [if_pos (by omega), a4]
      unfold cst
      rw [if_neg (by omega)]
      omega
    refine ⟨⟨h1, fun _ => ⟨by omega, by omega⟩⟩, ⟨by rw [ksum, ec, a6], kdis⟩, fun th hth => ?_⟩
    rw [kind th]
    obtain ⟨q1, q2⟩ := h4 th hth
    by_cases e : x ≤ th
    · rw [ind_1 e, q1]
      have u1 : usd sa st th day t2 = usd sa st th day taken + 1 := by
        unfold usd
        rw [if_pos (by omega), if_pos (by omega)]
        omega
      refine ⟨u1.symm, Or.inl (fun j hj hdj hp => ?_)⟩
      by_cases f : j = i
      · rw [f, ci]
        exact e
      · rw [cj j (by omega)]
        rcases q2 with q2 | q2
        · exact q2 j (by omega) hdj hp
        · exfalso
          rw [q1] at q2
          unfold usd at q2
          rw [if_pos (by omega)] at q2
          have u2 := Cap_up (sa := sa) (st := st) (day + 1) (th - day)
          rw [show day + 1 + (th - day) = th + 1 from by omega] at u2
          have u3 : Cap sa st (day + 1) = Cap sa st day + cpp sa (st day) := rfl
          have u4 : cpp sa (st day) = sa - st day := if_pos (by omega)
          omega
    · rw [ind_0 e]
      have u1 : usd sa st th day t2 = usd sa st th day taken := by
        unfold usd
        rw [if_neg (by omega), if_neg (by omega)]
      have u2 : usd sa st th day taken = Cap sa st (th + 1) := by
        unfold usd
        rw [if_neg (by omega)]
      exact ⟨by omega, Or.inr (by omega)⟩
  · have ec : cst (if x ≤ 2 then 6 * x else 18) = 4 := by
      rw [if_neg (by omega)]
      rfl
    refine ⟨⟨h1, fun q => by rw [a3]; exact h1b q⟩, ⟨by rw [ksum, ec, a4], kdis⟩, fun th hth => ?_⟩
    rw [kind th, ind_0 (by omega), a3]
    obtain ⟨q1, q2⟩ := h4 th hth
    refine ⟨by omega, ?_⟩
    rcases a1 with a1 | ⟨a1, -⟩
    · refine Or.inr ?_
      have u2 : usd sa st th day taken = Cap sa st (th + 1) := by
        unfold usd
        rw [if_neg (by omega)]
      omega
    · rcases q2 with q2 | q2
      · refine Or.inl (fun j hj hdj hp => ?_)
        by_cases f : j = i
        · rw [f] at hp
          exact absurd hp a1
        · rw [cj j (by omega)]
          exact q2 j (by omega) hdj hp
      · exact Or.inr (by omega)
theorem GRM_0 : GRM s pb d 0 day c := ⟨fun _ j hj => absurd hj (Nat.not_lt_zero _), fun j k _ hk => absurd hk (Nat.not_lt_zero _)⟩
theorem GRM_d (h : GRM s pb d i day c) : GRM s pb d i (day + 1) c := ⟨fun h3 j hj hd hp => by have := h.1 (by omega) j hj hd hp; omega, h.2⟩
theorem GRM_no (h : GRM s pb d i day c) (hn : ¬ d ≤ s i) : GRM s pb d (i + 1) day c := by
  refine ⟨fun h3 j hj hd hp => ?_, fun j k hj hk hd hp hd2 h2 => ?_⟩
  · by_cases e : j = i
    · rw [e] at hd
      exact absurd hd hn
    · exact h.1 h3 j (by omega) hd hp
  · by_cases e : k = i
    · rw [e] at hd2
      exact absurd hd2 hn
    · exact h.2 j k hj (by omega) hd hp hd2 h2
theorem GRM_s (h : GRM s pb d i day c) {x : Nat} (hx : (day < 3 ∧ x = day) ∨ (x = 4 ∧ (day = 3 ∨ ¬ pb (s i))) ) (h3 : day ≤ 3) : GRM s pb d (i + 1) day (upd9 c i x) := by
  have cj : ∀ j : Nat, j < i → upd9 c i x j = c j := fun j hj => if_neg (by omega)
  have ci : upd9 c i x i = x := if_pos rfl
  refine ⟨fun q j hj hd hp => ?_, fun j k hj hk hd hp hd2 h2 => ?_⟩
  · by_cases e : j = i
    · rw [e, ci]
      rcases hx with hx | ⟨-, hx | hx⟩
      · omega
      · omega
      · rw [e] at hp
        exact absurd hp hx
    · rw [cj j (by omega)]
      exact h.1 q j (by omega) hd hp
  · rw [cj j (by omega)]
    by_cases e : k = i
    · rw [e, ci] at h2 ⊢
      rcases hx with hx | ⟨hx, -⟩
      · have := h.1 hx.1 j (by omega) hd hp
        omega
      · omega
    · rw [cj k (by omega)] at h2 ⊢
      exact h.2 j k hj (by omega) hd hp hd2 h2
end GRDS
theorem cN_tl {f : Nat → Int} {d : Nat} : ∀ {m : Nat}, d ≤ m → cN f m = cN f d + cN (fun k => ind (d ≤ k) * f k) m
  | 0, h => by
    rw [show d = 0 from by omega]
    rfl
  | m + 1, h => by
    by_cases e : d = m + 1
    · rw [cN_z (f := fun k => ind (d ≤ k) * f k) (n := m + 1) (fun k hk => by show ind (d ≤ k) * f k = 0; rw [ind_0 (by omega), Int.zero_mul]), e]
      omega
    · show cN f m + f m = cN f d + (cN (fun k => ind (d ≤ k) * f k) m + ind (d ≤ m) * f m)
      rw [cN_tl (f := f) (d := d) (m := m) (by omega), ind_1 (by omega), Int.one_mul]
      omega
theorem cN_sub {f g : Nat → Int} (n : Nat) : cN (fun i => f i - g i) n = cN f n - cN g n := by
  have h := cN_add (f := fun i => f i - g i) (g := g) n
  have e : cN (fun i => (f i - g i) + g i) n = cN f n := cN_cg (fun i _ => by show f i - g i + g i = f i; omega)
  omega
/-- the heavier first: who picks the first ones picks most -/
theorem pick {w g q : Nat → Int} {m : Nat} (hb : ∀ j : Nat, j < m → 0 ≤ w j) (hs : ∀ i j : Nat, i < j → j < m → g j ≠ q j → g i ≠ q i → w j ≤ w i) (hN : ∀ i : Nat, i ≤ m → cN q i ≤ cN g i) (h01 : ∀ j : Nat, j < m → (q j - g j = 0 ∨ q j - g j = 1 ∨ q j - g j = -1)) : cN (fun j => w j * q j) m ≤ cN (fun j => w j * g j) m := by
  have key : ∀ i : Nat, i ≤ m → ∀ x : Int, 0 ≤ x → (∀ j : Nat, j < i → g j ≠ q j → x ≤ w j) → cN (fun j => w j * q j) i - cN (fun j => w j * g j) i ≤ x * (cN q i - cN g i) := fun i => by
    induction i with
    | zero =>
      intro _ x _ _
      show (0 : Int) - 0 ≤ x * (0 - 0)
      simp
    | succ i ih =>
      intro hi x hx hle
      show (cN (fun j => w j * q j) i + w i * q i) - (cN (fun j => w j * g j) i + w i * g i) ≤ x * ((cN q i + q i) - (cN g i + g i))
      by_cases e : g i = q i
      · have h := ih (by omega) x hx (fun j hj => hle j (by omega))
        rw [e, show cN q i + q i - (cN g i + q i) = cN q i - cN g i from by omega]
        omega
      · have h := ih (by omega) (w i) (hb i (by omega)) (fun j hj hne => hs j i hj (by omega) e hne)
        have n1 := hN (i + 1) (by omega)
        have n1 : cN q i + q i ≤ cN g i + g i := n1
        have xl := hle i (by omega) e
        have m1 : w i * ((cN q i + q i) - (cN g i + g i)) ≤ x * ((cN q i + q i) - (cN g i + g i)) := by
          have z : (w i - x) * ((cN g i + g i) - (cN q i + q i)) ≥ 0 := Int.mul_nonneg (by omega) (by omega)
          rw [Int.sub_mul, Int.mul_sub, Int.mul_sub] at z
          rw [Int.mul_sub, Int.mul_sub]
          omega
        have m2 : w i * ((cN q i + q i) - (cN g i + g i)) = w i * (cN q i - cN g i) + (w i * q i - w i * g i) := by
          rw [← Int.mul_sub, ← Int.mul_add]
          congr 1
          omega
        omega
  have h := key m (Nat.le_refl m) 0 (Int.le_refl 0) (fun j hj _ => hb j hj)
  rw [Int.zero_mul] at h
  omega
section LBS
variable {s : Nat → Nat} {w : Nat → Int} {pb : Nat → Prop} {m d day : Nat} {sa taken least : Int} {st : Nat → Int} {c S : Nat → Nat}
/-- what sits on a day up to th -/
def sel (S : Nat → Nat) (d th k : Nat) : Prop := d ≤ k ∧ S k < 18 ∧ S k / 6 ≤ th
theorem sel_cap (hcap : ∀ D : Nat, D < 3 → cN (fun k => ind (d ≤ k ∧ onD S D k)) m ≤ cpp sa (st D)) : ∀ th : Nat, th ≤ 2 → cN (fun k => ind (sel S d th k)) m ≤ Cap sa st (th + 1) := fun th => by
  induction th with
  | zero =>
    intro _
    have h := hcap 0 (by omega)
    have e : cN (fun k => ind (sel S d 0 k)) m = cN (fun k => ind (d ≤ k ∧ onD S 0 k)) m := cN_cg (fun k _ => ind_cg ⟨fun ⟨a, b, c⟩ => ⟨a, b, by omega⟩, fun ⟨a, b, c⟩ => ⟨a, b, by omega⟩⟩)
    show _ ≤ 0 + cpp sa (st 0)
    omega
  | succ th ih =>
    intro hth
    have h := hcap (th + 1) (by omega)
    have i := ih (by omega)
    have e : cN (fun k => ind (sel S d (th + 1) k)) m = cN (fun k => ind (sel S d th k)) m + cN (fun k => ind (d ≤ k ∧ onD S (th + 1) k)) m := by
      rw [← cN_add]
      refine cN_cg (fun k _ => ?_)
      show ind (sel S d (th + 1) k) = ind (sel S d th k) + ind (d ≤ k ∧ onD S (th + 1) k)
      by_cases p : sel S d th k
      · obtain ⟨p1, p2, p3⟩ := id p
        rw [ind_1 p, ind_1 (show sel S d (th + 1) k from ⟨p1, p2, by omega⟩), ind_0 (fun q => by have := q.2.2; omega)]
        rfl
      · by_cases q : d ≤ k ∧ onD S (th + 1) k
        · obtain ⟨q1, q2, q3⟩ := id q
          rw [ind_0 p, ind_1 q, ind_1 (show sel S d (th + 1) k from ⟨q1, q2, by omega⟩)]
          rfl
        · rw [ind_0 p, ind_0 q, ind_0 (fun r => by
            obtain ⟨r1, r2, r3⟩ := r
            by_cases z : S k / 6 ≤ th
            · exact p ⟨r1, r2, z⟩
            · exact q ⟨r1, r2, by omega⟩)]
          rfl
    show _ ≤ Cap sa st (th + 1) + cpp sa (st (th + 1))
    omega
theorem th_eq (x : Nat) (hx : x ≤ 2 ∨ x = 4) : cst (if x ≤ 2 then 6 * x else 18) = 4 - ind (x ≤ 0) - ind (x ≤ 1) - 2 * ind (x ≤ 2) := by
  rcases hx with hx | hx
  · rcases (show x = 0 ∨ x = 1 ∨ x = 2 by omega) with rfl | rfl | rfl
    · rw [ind_1 (by decide), ind_1 (by decide), ind_1 (by decide)]
      rfl
    · rw [ind_0 (by decide), ind_1 (by decide), ind_1 (by decide)]
      rfl
    · rw [ind_0 (by decide), ind_0 (by decide), ind_1 (by decide)]
      rfl
  · rw [hx, ind_0 (by decide), ind_0 (by decide), ind_0 (by decide)]
    rfl
theorem th_S {x : Nat} (hx : x ≤ 18) : cst x = 4 - ind (x < 18 ∧ x / 6 ≤ 0) - ind (x < 18 ∧ x / 6 ≤ 1) - 2 * ind (x < 18 ∧ x / 6 ≤ 2) := by
  by_cases e : x = 18
  · rw [e, ind_0 (by omega), ind_0 (by omega), ind_0 (by omega)]
    rfl
  · rw [show x = 6 * (x / 6) + x % 6 from by omega]
    have h : x / 6 ≤ 2 := by omega
    have ec : cst (6 * (x / 6) + x % 6) = ((x / 6 : Nat) : Int) := by
      unfold cst
      rw [if_neg (by omega)]
      omega
    have e6 : (6 * (x / 6) + x % 6) / 6 = x / 6 := by omega
    rw [ec, e6]
    rcases (show x / 6 = 0 ∨ x / 6 = 1 ∨ x / 6 = 2 by omega) with q | q | q
    · rw [q, ind_1 (by omega), ind_1 (by omega), ind_1 (by omega)]
      rfl
    · rw [q, ind_0 (by omega), ind_1 (by omega), ind_1 (by omega)]
      rfl
    · rw [q, ind_0 (by omega), ind_0 (by omega), ind_1 (by omega)]
      rfl
/-- no plan waits less than the greedy one -/
theorem LB (hd : d ≤ m) (hs : prm m s) (hso : ∀ i j : Nat, i < j → j < m → w (s j) ≤ w (s i)) (hw : ∀ k : Nat, k < m → 0 ≤ w k) (hG : GRD s w pb d sa st m least day taken c) (hM : GRM s pb d m day c) (hS : ∀ k : Nat, k < m → S k ≤ 18) (hpb : ∀ k : Nat, d ≤ k → k < m → S k < 18 → pb k) (hcap : ∀ D : Nat, D < 3 → cN (fun k => ind (d ≤ k ∧ onD S D k)) m ≤ cpp sa (st D)) : Wt w S d + least ≤ Wt w S m := by
  obtain ⟨-, ⟨g1, g2⟩, g3⟩ := hG
  have tl : Wt w S m = Wt w S d + cN (fun k => ind (d ≤ k) * (w k * cst (S k))) m := cN_tl hd
  have pr : cN (fun j => ind (d ≤ s j) * (w (s j) * cst (S (s j)))) m = cN (fun k => ind (d ≤ k) * (w k * cst (S k))) m := cN_prm hs (fun k => ind (d ≤ k) * (w k * cst (S k)))
  have sl : ∀ th : Nat, th ≤ 2 → cN (fun j => w (s j) * ind (sel S d th (s j))) m ≤ cN (fun j => w (s j) * ind (d ≤ s j ∧ c j ≤ th)) m := fun th hth => by
    have cap := sel_cap hcap th hth
    have pc : cN (fun j => ind (sel S d th (s j))) m = cN (fun k => ind (sel S d th k)) m := cN_prm hs (fun k => ind (sel S d th k))
    have qg : ∀ j : Nat, j < m → (d ≤ s j → pb (s j) → c j ≤ th) → ind (sel S d th (s j)) ≤ ind (d ≤ s j ∧ c j ≤ th) := fun j hj h => ind_le (fun ⟨a, b, _⟩ => ⟨a, h a (hpb _ a (hs.1 j hj) b)⟩)
    refine pick (w := fun j => w (s j)) (fun j hj => hw _ (hs.1 j hj)) (fun i j hij hj _ _ => hso i j hij hj) (fun i hi => ?_) (fun j _ => ?_)
    · by_cases hall : ∀ j : Nat, j < i → d ≤ s j → pb (s j) → c j ≤ th
      · exact cN_le (fun j hj => qg j (by omega) (hall j hj))
      · obtain ⟨j0, a1, a2, a3, a4⟩ : ∃ j : Nat, j < i ∧ d ≤ s j ∧ pb (s j) ∧ ¬ c j ≤ th := Classical.byContradiction (fun q => hall (fun j b1 b2 b3 => Classical.byContradiction (fun b4 => q ⟨j, b1, b2, b3, b4⟩)))
        have full : cN (fun j => ind (d ≤ s j ∧ c j ≤ th)) m = Cap sa st (th + 1) := by
          rcases (g3 th hth).2 with q | q
          · exact absurd (q j0 (by omega) a2 a3) a4
          · exact q
        have ext : cN (fun j => ind (d ≤ s j ∧ c j ≤ th)) m = cN (fun j => ind (d ≤ s j ∧ c j ≤ th)) i := cN_ext hi (fun j h1 h2 => ind_0 (fun q => by
          have := hM.2 j0 j (by omega) h2 a2 a3 q.1 (by omega)
          omega))
        have up : cN (fun j => ind (sel S d th (s j))) i ≤ cN (fun j => ind (sel S d th (s j))) m := by
          have z := cN_tl (f := fun j => ind (sel S d th (s j))) hi
          have z2 : 0 ≤ cN (fun k => ind (i ≤ k) * ind (sel S d th (s k))) m := by
            have y := cN_le (f := fun _ => 0) (g := fun k => ind (i ≤ k) * ind (sel S d th (s k))) (n := m) (fun k _ => Int.mul_nonneg (ind_b _).1 (ind_b _).1)
            rw [cN_z (f := fun _ => 0) (n := m) (fun _ _ => rfl)] at y
            exact y
          omega
        show cN (fun j => ind (sel S d th (s j))) i ≤ cN (fun j => ind (d ≤ s j ∧ c j ≤ th)) i
        omega
    · show ind (sel S d th (s j)) - ind (d ≤ s j ∧ c j ≤ th) = 0 ∨ ind (sel S d th (s j)) - ind (d ≤ s j ∧ c j ≤ th) = 1 ∨ ind (sel S d th (s j)) - ind (d ≤ s j ∧ c j ≤ th) = -1
      have b1 := ind_b (sel S d th (s j))
      have b2 := ind_b (d ≤ s j ∧ c j ≤ th)
      omega
  have e1 : least = cN (fun j => ind (d ≤ s j) * w (s j) * 4) m - cN (fun j => w (s j) * ind (d ≤ s j ∧ c j ≤ 0)) m - cN (fun j => w (s j) * ind (d ≤ s j ∧ c j ≤ 1)) m - 2 * cN (fun j => w (s j) * ind (d ≤ s j ∧ c j ≤ 2)) m := by
    have k2 : 2 * cN (fun j => w (s j) * ind (d ≤ s j ∧ c j ≤ 2)) m = cN (fun j => w (s j) * ind (d ≤ s j ∧ c j ≤ 2)) m + cN (fun j => w (s j) * ind (d ≤ s j ∧ c j ≤ 2)) m := by omega
    rw [g1, k2, ← cN_add, ← cN_sub, ← cN_sub, ← cN_sub]
    refine cN_cg (fun j hj => ?_)
    show ind (d ≤ s j) * (w (s j) * cst (if c j ≤ 2 then 6 * c j else 18)) = ind (d ≤ s j) * w (s j) * 4 - w (s j) * ind (d ≤ s j ∧ c j ≤ 0) - w (s j) * ind (d ≤ s j ∧ c j ≤ 1) - (w (s j) * ind (d ≤ s j ∧ c j ≤ 2) + w (s j) * ind (d ≤ s j ∧ c j ≤ 2))
    by_cases e : d ≤ s j
    · have cx : c j ≤ 2 ∨ c j = 4 := (g2 j hj e).elim (fun q => Or.inl q.1) Or.inr
      rw [th_eq (c j) cx, ind_1 e, ind_cg (show (d ≤ s j ∧ c j ≤ 0) ↔ c j ≤ 0 from ⟨fun q => q.2, fun q => ⟨e, q⟩⟩), ind_cg (show (d ≤ s j ∧ c j ≤ 1) ↔ c j ≤ 1 from ⟨fun q => q.2, fun q => ⟨e, q⟩⟩), ind_cg (show (d ≤ s j ∧ c j ≤ 2) ↔ c j ≤ 2 from ⟨fun q => q.2, fun q => ⟨e, q⟩⟩)]
      rw [Int.one_mul, Int.one_mul, Int.mul_sub, Int.mul_sub, Int.mul_sub, show 2 * ind (c j ≤ 2) = ind (c j ≤ 2) + ind (c j ≤ 2) from by omega, Int.mul_add]
    · rw [ind_0 e, ind_0 (fun q => e q.1), ind_0 (fun q => e q.1), ind_0 (fun q => e q.1)]
      simp
  have e2 : cN (fun j => ind (d ≤ s j) * (w (s j) * cst (S (s j)))) m = cN (fun j => ind (d ≤ s j) * w (s j) * 4) m - cN (fun j => w (s j) * ind (sel S d 0 (s j))) m - cN (fun j => w (s j) * ind (sel S d 1 (s j))) m - 2 * cN (fun j => w (s j) * ind (sel S d 2 (s j))) m := by
    have k2 : 2 * cN (fun j => w (s j) * ind (sel S d 2 (s j))) m = cN (fun j => w (s j) * ind (sel S d 2 (s j))) m + cN (fun j => w (s j) * ind (sel S d 2 (s j))) m := by omega
    rw [k2, ← cN_add, ← cN_sub, ← cN_sub, ← cN_sub]
    refine cN_cg (fun j hj => ?_)
    show ind (d ≤ s j) * (w (s j) * cst (S (s j))) = ind (d ≤ s j) * w (s j) * 4 - w (s j) * ind (sel S d 0 (s j)) - w (s j) * ind (sel S d 1 (s j)) - (w (s j) * ind (sel S d 2 (s j)) + w (s j) * ind (sel S d 2 (s j)))
    unfold sel
    by_cases e : d ≤ s j
    · rw [th_S (hS _ (hs.1 j hj)), ind_1 e, ind_cg (show (d ≤ s j ∧ S (s j) < 18 ∧ S (s j) / 6 ≤ 0) ↔ (S (s j) < 18 ∧ S (s j) / 6 ≤ 0) from ⟨fun q => q.2, fun q => ⟨e, q⟩⟩), ind_cg (show (d ≤ s j ∧ S (s j) < 18 ∧ S (s j) / 6 ≤ 1) ↔ (S (s j) < 18 ∧ S (s j) / 6 ≤ 1) from ⟨fun q => q.2, fun q => ⟨e, q⟩⟩), ind_cg (show (d ≤ s j ∧ S (s j) < 18 ∧ S (s j) / 6 ≤ 2) ↔ (S (s j) < 18 ∧ S (s j) / 6 ≤ 2) from ⟨fun q => q.2, fun q => ⟨e, q⟩⟩)]
      rw [Int.one_mul, Int.one_mul, Int.mul_sub, Int.mul_sub, Int.mul_sub, show 2 * ind (S (s j) < 18 ∧ S (s j) / 6 ≤ 2) = ind (S (s j) < 18 ∧ S (s j) / 6 ≤ 2) + ind (S (s j) < 18 ∧ S (s j) / 6 ≤ 2) from by omega, Int.mul_add]
    · rw [ind_0 e, ind_0 (fun q => e q.1), ind_0 (fun q => e q.1), ind_0 (fun q => e q.1)]
      simp
  have s0 := sl 0 (by omega)
  have s1 := sl 1 (by omega)
  have s2 := sl 2 (by omega)
  omega
end LBS
