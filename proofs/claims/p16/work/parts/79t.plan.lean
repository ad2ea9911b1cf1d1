
/-- what a seat waits -/
def cst (s : Nat) : Int := if s = 18 then 4 else ((s / 6 : Nat) : Int)
theorem cst_b {s : Nat} (h : s ≤ 18) : 0 ≤ cst s ∧ cst s ≤ 4 := by
  unfold cst
  split <;> omega
def Wt (w : Nat → Int) (S : Nat → Nat) (k : Nat) : Int := cN (fun i => w i * cst (S i)) k
def pln (FE : (Nat → Nat) → Nat → Prop) (m : Nat) (S : Nat → Nat) : Prop := ∀ k : Nat, k < m → FE S k
/-- as good as any, and the first of those -/
def lxp (m : Nat) (B S : Nat → Nat) : Prop := ∀ t : Nat, t < m → (∀ q : Nat, q < t → S q = B q) → B t ≤ S t
/-- a kind of seats: it looks at no later case, knows the seats up to 18, and 18 always goes -/
def okF (FE : (Nat → Nat) → Nat → Prop) : Prop := (∀ (S T : Nat → Nat) (k : Nat), (∀ i : Nat, i ≤ k → S i = T i) → FE S k → FE T k) ∧ (∀ (S : Nat → Nat) (k : Nat), FE S k → S k ≤ 18) ∧ ∀ (S : Nat → Nat) (k : Nat), S k = 18 → FE S k
def BST (FE : (Nat → Nat) → Nat → Prop) (m : Nat) (w : Nat → Int) (B : Nat → Nat) (L : Int) : Prop := (pln FE m B ∧ Wt w B m = L) ∧ ∀ S : Nat → Nat, pln FE m S → L ≤ Wt w S m ∧ (Wt w S m = L → lxp m B S)
section PLN
variable {FE : (Nat → Nat) → Nat → Prop} {m : Nat} {w : Nat → Int} {B S T P : Nat → Nat} {L : Int}
theorem Wt_cg {k : Nat} (h : ∀ i : Nat, i < k → S i = T i) : Wt w S k = Wt w T k := cN_cg (fun i hi => by show w i * cst (S i) = w i * cst (T i); rw [h i hi])
theorem Wt_s (k : Nat) : Wt w S (k + 1) = Wt w S k + w k * cst (S k) := rfl
theorem Wt_up (hw : ∀ i : Nat, i < m → 0 ≤ w i) (hS : ∀ i : Nat, i < m → S i ≤ 18) : ∀ {k : Nat}, k ≤ m → ∀ n : Nat, k + n ≤ m → Wt w S k ≤ Wt w S (k + n)
  | _, _, 0, _ => Int.le_refl _
  | k, hk, n + 1, hn => by
    have h := Wt_up hw hS hk n (by omega)
    have e : Wt w S (k + (n + 1)) = Wt w S (k + n) + w (k + n) * cst (S (k + n)) := rfl
    have q : 0 ≤ w (k + n) * cst (S (k + n)) := Int.mul_nonneg (hw _ (by omega)) (cst_b (hS _ (by omega))).1
    omega
theorem Wt_le (hw : ∀ i : Nat, i < m → 0 ≤ w i) (hS : ∀ i : Nat, i < m → S i ≤ 18) {k : Nat} (hk : k ≤ m) : Wt w S k ≤ Wt w S m := by
  have h := Wt_up hw hS hk (m - k) (by omega)
  rw [show k + (m - k) = m from by omega] at h
  exact h
theorem pln_18 (hF : okF FE) : pln FE m (fun _ => 18) := fun k _ => hF.2.2 _ k rfl
theorem pln_b (hF : okF FE) (h : pln FE m S) : ∀ i : Nat, i < m → S i ≤ 18 := fun i hi => hF.2.1 S i (h i hi)
theorem lxp_anti (h1 : lxp m B S) (h2 : lxp m S B) : ∀ t : Nat, t < m → B t = S t := by
  have key : ∀ t : Nat, t ≤ m → ∀ q : Nat, q < t → B q = S q := fun t => by
    induction t with
    | zero => exact fun _ q hq => absurd hq (Nat.not_lt_zero _)
    | succ t ih =>
      intro ht q hq
      have p := ih (by omega)
      by_cases e : q = t
      · rw [e]
        have a := h1 t (by omega) (fun x hx => (p x hx).symm)
        have b := h2 t (by omega) (fun x hx => p x hx)
        omega
      · exact p q (by omega)
  exact fun t ht => key m (Nat.le_refl m) t ht
theorem BST_un {B2 : Nat → Nat} {L2 : Int} (h1 : BST FE m w B L) (h2 : BST FE m w B2 L2) : L = L2 ∧ ∀ t : Nat, t < m → B t = B2 t := by
  have a := (h1.2 B2 h2.1.1).1
  have b := (h2.2 B h1.1.1).1
  have e1 := h1.1.2
  have e2 := h2.1.2
  refine ⟨by omega, lxp_anti ((h1.2 B2 h2.1.1).2 (by omega)) ((h2.2 B h1.1.1).2 (by omega))⟩
/-- passed over by the odometer that stands at k -/
def psd (m : Nat) (k : Int) (f S : Nat → Nat) : Prop := ∃ i : Nat, ((i : Int) ≤ k ∧ i < m) ∧ (∀ q : Nat, q < i → S q = f q) ∧ S i < f i
def ODO (FE : (Nat → Nat) → Nat → Prop) (m : Nat) (w : Nat → Int) (k : Int) (f : Nat → Nat) (L : Int) (B : Nat → Nat) : Prop := (-1 ≤ k ∧ k ≤ m) ∧ (∀ i : Nat, (i : Int) < k → FE f i) ∧ (L ≤ 1000000 ∧ (L < 1000000 → (pln FE m B ∧ Wt w B m = L) ∧ (0 ≤ k → psd m k f B))) ∧ ∀ S : Nat → Nat, pln FE m S → (k < 0 ∨ psd m k f S) → L ≤ Wt w S m ∧ (Wt w S m = L → lxp m B S)
theorem ODO_0 {f : Nat → Nat} (hf : f 0 = 0) : ODO FE m w 0 f 1000000 B := by
  refine ⟨⟨by omega, by omega⟩, fun i hi => absurd hi (by omega), ⟨Int.le_refl _, fun h => absurd h (by omega)⟩, fun S _ h => ?_⟩
  rcases h with h | ⟨i, ⟨h1, h2⟩, -, h4⟩
  · omega
  · rw [show i = 0 from by omega, hf] at h4
    omega
/-- one seat more is passed over -/
theorem ODO_in (hF : okF FE) (hw : ∀ i : Nat, i < m → 0 ≤ w i) (hW : ∀ S : Nat → Nat, pln FE m S → Wt w S m < 1000000) {k : Nat} {f g : Nat → Nat} (hk : k < m) (h : ODO FE m w k f L B) (hno : ¬ FE f k ∨ L ≤ Wt w f (k + 1)) (hg : ∀ i : Nat, i < k → g i = f i) (hgk : g k = f k + 1) : ODO FE m w k g L B := by
  obtain ⟨h1, h2, ⟨h3, h4⟩, h5⟩ := h
  have up : ∀ S : Nat → Nat, psd m k f S → psd m k g S := fun S ⟨i, a1, a2, a3⟩ => by
    refine ⟨i, a1, fun q hq => by rw [hg q (by omega)]; exact a2 q hq, ?_⟩
    by_cases e : i = k
    · rw [e] at a3 ⊢
      omega
    · rw [hg i (by omega)]
      exact a3
  refine ⟨h1, fun i hi => hF.1 f g i (fun x hx => (hg x (by omega)).symm) (h2 i hi), ⟨h3, fun q => ⟨(h4 q).1, fun z => up B ((h4 q).2 z)⟩⟩, fun S hS hp => ?_⟩
  rcases hp with hp | ⟨i, a1, a2, a3⟩
  · omega
  by_cases e : i = k
  · rw [e] at a2 a3
    by_cases e2 : S k < f k
    · exact h5 S hS (Or.inr ⟨k, by omega, fun q hq => by rw [a2 q hq, hg q hq], e2⟩)
    · have ek : S k = f k := by omega
      have eq : ∀ q : Nat, q ≤ k → S q = f q := fun q hq => by
        by_cases e3 : q = k
        · rw [e3]
          exact ek
        · rw [a2 q (by omega), hg q (by omega)]
      rcases hno with n1 | n1
      · exact absurd (hF.1 S f k eq (hS k hk)) n1
      · have l1 : Wt w S (k + 1) = Wt w f (k + 1) := Wt_cg (fun q hq => eq q (by omega))
        have l2 := Wt_le hw (pln_b hF hS) (show k + 1 ≤ m by omega)
        have l3 := hW S hS
        refine ⟨by omega, fun el => ?_⟩
        obtain ⟨j, ⟨j1, j2⟩, j3, j4⟩ := (h4 (by omega)).2 (by omega)
        intro t ht hpre
        rcases Nat.lt_trichotomy t j with x | x | x
        · have := j3 t x
          have := eq t (by omega)
          omega
        · rw [x]
          have := eq j (by omega)
          omega
        · have a := hpre j x
          have b := eq j (by omega)
          omega
  · exact h5 S hS (Or.inr ⟨i, a1, fun q hq => by rw [a2 q hq, hg q (by omega)], by rw [← hg i (by omega)]; exact a3⟩)
/-- a case further -/
theorem ODO_up (hF : okF FE) {k : Nat} {f g : Nat → Nat} (hk : k < m) (h : ODO FE m w k f L B) (hfe : FE f k) (hg : ∀ i : Nat, i ≤ k → g i = f i) (hgk : k + 1 < m → g (k + 1) = 0) : ODO FE m w ((k + 1 : Nat) : Int) g L B := by
  obtain ⟨h1, h2, ⟨h3, h4⟩, h5⟩ := h
  refine ⟨⟨by omega, by omega⟩, fun i hi => hF.1 f g i (fun x hx => (hg x (by omega)).symm) (by
    by_cases e : i = k
    · rw [e]
      exact hfe
    · exact h2 i (by omega)), ⟨h3, fun q => ⟨(h4 q).1, fun _ => ?_⟩⟩, fun S hS hp => ?_⟩
  · obtain ⟨j, ⟨j1, j2⟩, j3, j4⟩ := (h4 q).2 (by omega)
    exact ⟨j, ⟨by omega, j2⟩, fun x hx => by rw [hg x (by omega)]; exact j3 x hx, by rw [hg j (by omega)]; exact j4⟩
  · rcases hp with hp | ⟨i, ⟨a0, a1⟩, a2, a3⟩
    · omega
    by_cases e : i = k + 1
    · rw [e, hgk (by omega)] at a3
      omega
    · exact h5 S hS (Or.inr ⟨i, ⟨by omega, a1⟩, fun x hx => by rw [a2 x hx, hg x (by omega)], by rw [← hg i (by omega)]; exact a3⟩)
/-- back from a case whose seats are all passed over, or from the end -/
theorem ODO_dn (hF : okF FE) {k : Nat} {f g : Nat → Nat} (hk : k ≤ m) (h : ODO FE m w k f L B) (h19 : k < m → 18 < f k) (hend : k = m → ∀ S : Nat → Nat, pln FE m S → (∀ q : Nat, q < m → S q = f q) → L ≤ Wt w S m ∧ (Wt w S m = L → lxp m B S)) (hB : k = m → L < 1000000 → (0 < m → psd m ((m : Int) - 1) g B)) (hg : ∀ i : Nat, i + 1 < k → g i = f i) (hgk : 0 < k → g (k - 1) = f (k - 1) + 1) : ODO FE m w ((k : Int) - 1) g L B := by
  obtain ⟨h1, h2, ⟨h3, h4⟩, h5⟩ := h
  have up : k < m → 0 < k → ∀ S : Nat → Nat, S k ≤ 18 → psd m k f S → psd m ((k : Int) - 1) g S := fun hkm hk0 S hSk ⟨i, ⟨a0, a1⟩, a2, a3⟩ => by
    by_cases e : i = k
    · rw [e] at a2
      exact ⟨k - 1, ⟨by omega, by omega⟩, fun q hq => by rw [hg q (by omega)]; exact a2 q (by omega), by rw [hgk hk0]; have := a2 (k - 1) (by omega); omega⟩
    · by_cases e2 : i + 1 = k
      · have ei : i = k - 1 := by omega
        refine ⟨k - 1, ⟨by omega, by omega⟩, fun q hq => by rw [hg q (by omega)]; exact a2 q (by omega), ?_⟩
        rw [hgk hk0]
        rw [ei] at a3
        omega
      · exact ⟨i, ⟨by omega, a1⟩, fun q hq => by rw [hg q (by omega)]; exact a2 q hq, by rw [hg i (by omega)]; exact a3⟩
  refine ⟨⟨by omega, by omega⟩, fun i hi => hF.1 f g i (fun x hx => (hg x (by omega)).symm) (h2 i (by omega)), ⟨h3, fun q => ⟨(h4 q).1, fun z => ?_⟩⟩, fun S hS hp => ?_⟩
  · by_cases e : k = m
    · rw [e]
      exact hB e q (by omega)
    · exact up (by omega) (by omega) B (hF.2.1 B k ((h4 q).1.1 k (by omega))) ((h4 q).2 (by omega))
  · by_cases e : k = m
    · by_cases e2 : ∀ x : Nat, x < m → S x = f x
      · exact hend e S hS e2
      · refine h5 S hS (Or.inr ?_)
        rcases hp with hp | ⟨i, ⟨a0, a1⟩, a2, a3⟩
        · exact absurd (fun x hx => absurd hx (by omega)) e2
        · by_cases e3 : i + 1 = k
          · have ei : i = k - 1 := by omega
            by_cases e4 : S i < f i
            · exact ⟨i, ⟨by omega, a1⟩, fun q hq => by rw [a2 q hq, hg q (by omega)], e4⟩
            · rw [ei, hgk (by omega), ← ei] at a3
              refine absurd (fun x hx => ?_) e2
              by_cases e5 : x = i
              · rw [e5]
                omega
              · rw [a2 x (by omega), hg x (by omega)]
          · exact ⟨i, ⟨by omega, a1⟩, fun q hq => by rw [a2 q hq, hg q (by omega)], by rw [← hg i (by omega)]; exact a3⟩
    · have hSk := hF.2.1 S k (hS k (by omega))
      have h19 := h19 (by omega)
      refine h5 S hS (Or.inr ?_)
      rcases hp with hp | ⟨i, ⟨a0, a1⟩, a2, a3⟩
      · exact ⟨0, ⟨by omega, by omega⟩, fun q hq => absurd hq (Nat.not_lt_zero _), by rw [show k = 0 from by omega] at hSk h19; omega⟩
      · by_cases e3 : i + 1 = k
        · have ei : i = k - 1 := by omega
          by_cases e4 : S i < f i
          · exact ⟨i, ⟨by omega, a1⟩, fun q hq => by rw [a2 q hq, hg q (by omega)], e4⟩
          · rw [ei, hgk (by omega), ← ei] at a3
            refine ⟨k, ⟨by omega, by omega⟩, fun q hq => ?_, by omega⟩
            by_cases e5 : q = i
            · rw [e5]
              omega
            · rw [a2 q (by omega), hg q (by omega)]
        · exact ⟨i, ⟨by omega, a1⟩, fun q hq => by rw [a2 q hq, hg q (by omega)], by rw [← hg i (by omega)]; exact a3⟩
theorem ODO_end (hF : okF FE) (hW : ∀ S : Nat → Nat, pln FE m S → Wt w S m < 1000000) {k : Int} {f : Nat → Nat} (h : ODO FE m w k f L B) (hk : k < 0) : BST FE m w B L := by
  obtain ⟨h1, h2, ⟨h3, h4⟩, h5⟩ := h
  have a := (h5 _ (pln_18 hF) (Or.inl hk)).1
  have b := hW _ (pln_18 (m := m) hF)
  exact ⟨(h4 (by omega)).1, fun S hS => h5 S hS (Or.inl hk)⟩
/-- the search behind a prefix P of d seats -/
def cmp (FE : (Nat → Nat) → Nat → Prop) (m d : Nat) (P S : Nat → Nat) : Prop := pln FE m S ∧ ∀ q : Nat, q < d → S q = P q
def RSC (C : (Nat → Nat) → Prop) (m : Nat) (w : Nat → Int) (L0 : Int) (B0 : Nat → Nat) (L1 : Int) (B1 : Nat → Nat) : Prop := ((L1 = L0 ∧ ∀ q : Nat, q < m → B1 q = B0 q) ∧ ∀ S : Nat → Nat, C S → L0 ≤ Wt w S m) ∨ ((L1 < L0 ∧ C B1 ∧ Wt w B1 m = L1) ∧ ∀ S : Nat → Nat, C S → L1 ≤ Wt w S m ∧ (Wt w S m = L1 → lxp m B1 S))
section RSCS
variable {C D E : (Nat → Nat) → Prop} {L0 L1 L2 : Int} {B0 B1 B2 : Nat → Nat}
theorem lxp_cg (h : lxp m B S) (e : ∀ q : Nat, q < m → T q = B q) : lxp m T S := fun t ht hp => by
  rw [e t ht]
  exact h t ht (fun q hq => by rw [hp q hq, e q (by omega)])
theorem RSC_no (h : ∀ S : Nat → Nat, C S → L0 ≤ Wt w S m) : RSC C m w L0 B0 L0 B0 := Or.inl ⟨⟨rfl, fun _ _ => rfl⟩, h⟩
theorem RSC_or (hE : ∀ S : Nat → Nat, E S → C S ∨ D S) (hC : ∀ S : Nat → Nat, C S → E S) (hD : ∀ S : Nat → Nat, D S → E S) (hcg : ∀ S T : Nat → Nat, (∀ q : Nat, q < m → T q = S q) → C S → C T) (hlt : ∀ S T : Nat → Nat, C S → D T → lxp m S T) (h1 : RSC C m w L0 B0 L1 B1) (h2 : RSC D m w L1 B1 L2 B2) : RSC E m w L0 B0 L2 B2 := by
  rcases h1 with ⟨⟨a1, a2⟩, a3⟩ | ⟨⟨a1, a2, a3⟩, a4⟩
  · rcases h2 with ⟨⟨b1, b2⟩, b3⟩ | ⟨⟨b1, b2, b3⟩, b4⟩
    · refine Or.inl ⟨⟨by omega, fun q hq => (b2 q hq).trans (a2 q hq)⟩, fun S hS => ?_⟩
      rcases hE S hS with q | q
      · exact a3 S q
      · have := b3 S q
        omega
    · refine Or.inr ⟨⟨by omega, hD _ b2, b3⟩, fun S hS => ?_⟩
      rcases hE S hS with q | q
      · have := a3 S q
        exact ⟨by omega, fun e => by omega⟩
      · exact b4 S q
  · rcases h2 with ⟨⟨b1, b2⟩, b3⟩ | ⟨⟨b1, b2, b3⟩, b4⟩
    · have cB := hcg B1 B2 b2 a2
      refine Or.inr ⟨⟨by omega, hC _ cB, by rw [Wt_cg b2]; omega⟩, fun S hS => ?_⟩
      rcases hE S hS with q | q
      · have r := a4 S q
        exact ⟨by omega, fun e => lxp_cg (r.2 (by omega)) b2⟩
      · have r := b3 S q
        exact ⟨by omega, fun _ => hlt B2 S cB q⟩
    · refine Or.inr ⟨⟨by omega, hD _ b2, b3⟩, fun S hS => ?_⟩
      rcases hE S hS with q | q
      · have r := (a4 S q).1
        exact ⟨by omega, fun e => by omega⟩
      · exact b4 S q
theorem RSC_leaf (hC : ∀ S : Nat → Nat, C S → ∀ q : Nat, q < m → S q = B1 q) (hB : C B1) (hW : Wt w B1 m = L1) (hl : L1 < L0) : RSC C m w L0 B0 L1 B1 := by
  refine Or.inr ⟨⟨hl, hB, hW⟩, fun S hS => ?_⟩
  have e := hC S hS
  refine ⟨by rw [Wt_cg e]; omega, fun _ t ht _ => by rw [e t ht]; exact Nat.le_refl _⟩
theorem RSC_cg (h : RSC C m w L0 B0 L1 B1) (e : ∀ S : Nat → Nat, D S ↔ C S) : RSC D m w L0 B0 L1 B1 := by
  rcases h with ⟨a, b⟩ | ⟨⟨a, b, c⟩, d⟩
  · exact Or.inl ⟨a, fun S hS => b S ((e S).mp hS)⟩
  · exact Or.inr ⟨⟨a, (e B1).mpr b, c⟩, fun S hS => d S ((e S).mp hS)⟩
theorem RSC_fin (hF : okF FE) (h : RSC (fun S => pln FE m S) m w L0 B0 L1 B1) (h18 : Wt w (fun _ => 18) m < L0) : BST FE m w B1 L1 := by
  rcases h with ⟨-, b⟩ | ⟨⟨-, b, c⟩, d⟩
  · have := b _ (pln_18 hF)
    omega
  · exact ⟨⟨b, c⟩, d⟩
/-- options of the case at depth d, one after the other -/
def opt (FE : (Nat → Nat) → Nat → Prop) (m d : Nat) (P : Nat → Nat) (s : Nat) (S : Nat → Nat) : Prop := cmp FE m d P S ∧ S d < s
theorem cmp_cg (hF : okF FE) {d : Nat} (hd : d ≤ m) (h : cmp FE m d P S) (e : ∀ q : Nat, q < m → T q = S q) : cmp FE m d P T := ⟨fun k hk => hF.1 S T k (fun i hi => (e i (by omega)).symm) (h.1 k hk), fun q hq => by rw [e q (by omega)]; exact h.2 q hq⟩
theorem opt_0 {d : Nat} : RSC (opt FE m d P 0) m w L0 B0 L0 B0 := RSC_no (fun S h => absurd h.2 (Nat.not_lt_zero _))
theorem opt_no (hF : okF FE) {d s : Nat} {Q : Nat → Nat} (hd : d < m) (hQ : ∀ q : Nat, q < d → Q q = P q) (hs : Q d = s) (hn : ¬ FE Q d) (h : RSC (opt FE m d P s) m w L0 B0 L1 B1) : RSC (opt FE m d P (s + 1)) m w L0 B0 L1 B1 := by
  refine RSC_cg h (fun S => ⟨fun ⟨a, b⟩ => ⟨a, ?_⟩, fun ⟨a, b⟩ => ⟨a, by omega⟩⟩)
  by_cases e : S d = s
  · refine absurd (hF.1 S Q d (fun i hi => ?_) (a.1 d hd)) hn
    by_cases f : i = d
    · rw [f, e, hs]
    · rw [a.2 i (by omega), hQ i (by omega)]
  · omega
theorem opt_s (hF : okF FE) {d s : Nat} {Q : Nat → Nat} (hd : d < m) (hQ : ∀ q : Nat, q < d → Q q = P q) (hs : Q d = s) (h1 : RSC (opt FE m d P s) m w L0 B0 L1 B1) (h2 : RSC (cmp FE m (d + 1) Q) m w L1 B1 L2 B2) : RSC (opt FE m d P (s + 1)) m w L0 B0 L2 B2 := by
  refine RSC_or (C := opt FE m d P s) (D := cmp FE m (d + 1) Q) (fun S ⟨a, b⟩ => ?_) (fun S ⟨a, b⟩ => ⟨a, by omega⟩) (fun S ⟨a, b⟩ => ⟨⟨a, fun q hq => by rw [b q (by omega), hQ q hq]⟩, by rw [b d (by omega), hs]; omega⟩) (fun S T e ⟨a, b⟩ => ⟨cmp_cg hF (by omega) a e, by rw [e d hd]; exact b⟩) (fun S T ⟨a, b⟩ c => ?_) h1 h2
  · by_cases e : S d = s
    · refine Or.inr ⟨a.1, fun q hq => ?_⟩
      by_cases f : q = d
      · rw [f, e, hs]
      · rw [a.2 q (by omega), hQ q (by omega)]
    · exact Or.inl ⟨a, by omega⟩
  · intro t ht hp
    have cd := c.2 d (by omega)
    rcases Nat.lt_trichotomy t d with x | x | x
    · rw [a.2 t x, c.2 t (by omega), hQ t x]
      exact Nat.le_refl _
    · rw [x]
      omega
    · have := hp d x
      omega
theorem opt_19 (hF : okF FE) {d : Nat} (hd : d < m) (h : RSC (opt FE m d P 19) m w L0 B0 L1 B1) : RSC (cmp FE m d P) m w L0 B0 L1 B1 := RSC_cg h (fun S => ⟨fun a => ⟨a, by have := hF.2.1 S d (a.1 d hd); omega⟩, fun a => a.1⟩)
end RSCS
end PLN
/-- pairs of mediators with nobody in both -/
def dj (p q : Nat) : Prop := ((st_l p).toInt ≠ (st_l q).toInt ∧ (st_l p).toInt ≠ (st_o q).toInt) ∧ (st_o p).toInt ≠ (st_l q).toInt ∧ (st_o p).toInt ≠ (st_o q).toInt
def onD (S : Nat → Nat) (D i : Nat) : Prop := S i < 18 ∧ S i / 6 = D
def FEr (fit : Nat → Nat → Prop) (rm : Int) (S : Nat → Nat) (k : Nat) : Prop := S k = 18 ∨ ((S k < 18 ∧ fit k (S k % 6)) ∧ (∀ i : Nat, i < k → onD S (S k / 6) i → dj (S i % 6) (S k % 6)) ∧ cN (fun i => ind (onD S (S k / 6) i)) k < rm)
theorem FEr_ok (fit : Nat → Nat → Prop) (rm : Int) : okF (FEr fit rm) := by
  refine ⟨fun S T k e h => ?_, fun S k h => ?_, fun S k h => Or.inl h⟩
  · have ek := e k (Nat.le_refl k)
    have eo : ∀ i D : Nat, i < k → (onD S D i ↔ onD T D i) := fun i D hi => by
      unfold onD
      rw [e i (by omega)]
    rcases h with h | ⟨h1, h2, h3⟩
    · exact Or.inl (by rw [← ek]; exact h)
    · refine Or.inr ⟨by rw [← ek]; exact h1, fun i hi ho => ?_, ?_⟩
      · rw [← ek] at ho ⊢
        rw [← e i (by omega)]
        exact h2 i hi ((eo i _ hi).mpr ho)
      · rw [← ek, ← cN_cg (f := fun i => ind (onD S (S k / 6) i)) (fun i hi => ind_cg (eo i _ hi))]
        exact h3
  · rcases h with h | h
    · omega
    · have := h.1.1
      omega
theorem dj_4 : ∀ p q : Fin 6, (((st_l p.val).toInt ≠ (st_l q.val).toInt ∧ (st_l p.val).toInt ≠ (st_o q.val).toInt) ∧ (st_o p.val).toInt ≠ (st_l q.val).toInt ∧ (st_o p.val).toInt ≠ (st_o q.val).toInt) → (st_o p.val).toInt = 3 ∨ (st_o q.val).toInt = 3 := by decide
theorem st_1 : ∀ p : Fin 6, 1 ≤ (st_o p.val).toInt := by decide
/-- the class counts sittings by min(rooms, mediators / 2): that bars nothing more -/
theorem seat_ok {fit : Nat → Nat → Prop} {rm md : Int} (hr : rm ≤ 2) (hfit : ∀ k p : Nat, fit k p → p < 6 → (st_o p).toInt < md) {S : Nat → Nat} {k : Nat} (hS : ∀ i : Nat, i < k → FEr fit rm S i) (h : FEr fit rm S k) (hk : S k < 18) : cN (fun i => ind (onD S (S k / 6) i)) k < (if rm < md / 2 then rm else md / 2) := by
  rcases h with h | ⟨h1, h2, h3⟩
  · omega
  have m1 := hfit _ _ h1.2 (by omega)
  have m2 := st_1 ⟨S k % 6, by omega⟩
  have m2 : 1 ≤ (st_o (S k % 6)).toInt := m2
  have b := (cN_b (f := fun i => ind (onD S (S k / 6) i)) (n := k) (fun i _ => ind_b _)).1
  split
  · exact h3
  · by_cases e : cN (fun i => ind (onD S (S k / 6) i)) k = 0
    · omega
    · obtain ⟨i, i1, i2⟩ := cN_ex (P := onD S (S k / 6)) (n := k) (by omega)
      have d := h2 i i1 i2
      have fi : fit i (S i % 6) := by
        rcases hS i i1 with q | q
        · have := i2.1
          omega
        · exact q.1.2
      have m3 := hfit _ _ fi (by omega)
      have q := dj_4 ⟨S i % 6, by omega⟩ ⟨S k % 6, by omega⟩ d
      have q : (st_o (S i % 6)).toInt = 3 ∨ (st_o (S k % 6)).toInt = 3 := q
      omega
