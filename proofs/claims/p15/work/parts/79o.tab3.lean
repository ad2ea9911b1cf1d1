
/-- h may be the hour of must t, beside the hours f of the musts before it -/
def VH (D : Nat → Nat → Int) (sd n : Int) (t : Nat) (f : Nat → Int32) (h : Int) : Prop := ¬ bar D sd n t h ∧ ∀ o : Nat, o < t → own D sd o → (f o).toInt ≠ h
/-- the search for the first table, at must t from hour fr on -/
def MI (D : Nat → Nat → Int) (sd : Int) (n : Nat) (t fr : Int) (f : Nat → Int32) : Prop := (t < 0 ∧ ¬ TB D sd n) ∨ ∃ T : Nat, (t = (T : Int) ∧ T ≤ n ∧ (T < n → own D sd T ∧ D T 3 ≤ fr)) ∧ (∀ q : Nat, q < T → own D sd q → (0 ≤ (f q).toInt ∧ (f q).toInt ≤ 23) ∧ alw D sd n q (f q).toNatClampNeg ∧ ∀ o : Nat, o < q → own D sd o → (f o).toNatClampNeg ≠ (f q).toNatClampNeg) ∧ ∀ S : Nat → Nat, sdr n 24 (alw D sd n) (own D sd) S → (∃ i : Nat, i < T ∧ own D sd i ∧ (∀ q : Nat, q < i → own D sd q → S q = (f q).toNatClampNeg) ∧ (f i).toNatClampNeg < S i) ∨ ((∀ q : Nat, q < T → own D sd q → S q = (f q).toNatClampNeg) ∧ (T < n → fr ≤ (S T : Int)))
section MIS
variable {D : Nat → Nat → Int} {sd : Int} {n : Nat} {t fr t2 fr2 r : Int} {f g : Nat → Int32}
theorem MI_0 {T : Nat} (ht : t = (T : Int)) (hT : T ≤ n) (hno : ∀ i : Nat, i < T → ¬ own D sd i) (hO : T < n → own D sd T ∧ fr = D T 3) : MI D sd n t fr f := by
  refine Or.inr ⟨T, ⟨ht, hT, fun h => ⟨(hO h).1, by rw [(hO h).2]; exact Int.le_refl _⟩⟩, fun q hq hw => absurd hw (hno q hq), fun S hS => Or.inr ⟨fun q hq hw => absurd hw (hno q hq), fun h => ?_⟩⟩
  rw [(hO h).2]
  exact (hS T h (hO h).1).1.2.1.1
theorem MI_up {T U : Nat} (ht : t = (T : Int)) (hTn : T < n) (h : MI D sd n t fr f) (hr : (0 ≤ r ∧ r ≤ 23) ∧ fr ≤ r ∧ r ≤ D T 4) (hV : VH D sd n T f r) (hL : ∀ x : Int, fr ≤ x → x < r → ¬ VH D sd n T f x) (hg : ∀ q : Nat, q ≠ T → g q = f q) (hgT : (g T).toInt = r) (hU : t2 = (U : Int)) (hTU : T < U) (hUn : U ≤ n) (hno : ∀ i : Nat, T < i → i < U → ¬ own D sd i) (hO : U < n → own D sd U ∧ fr2 = D U 3) : MI D sd n t2 fr2 g := by
  rcases h with ⟨h0, -⟩ | ⟨T', ⟨e, -, h1⟩, h2, h3⟩
  · omega
  have eT : T' = T := by omega
  rw [eT] at h1 h2 h3
  obtain ⟨o1, o2⟩ := h1 hTn
  have zr := t_nn (x := g T) (by omega)
  have gq : ∀ q : Nat, q < U → own D sd q → q ≠ T → q < T ∧ g q = f q := fun q hq hw hn => by
    have : ¬ T < q := fun w => hno q w hq hw
    exact ⟨by omega, hg q hn⟩
  refine Or.inr ⟨U, ⟨hU, hUn, fun w => ⟨(hO w).1, by rw [(hO w).2]; exact Int.le_refl _⟩⟩, fun q hq hw => ?_, fun S hS => ?_⟩
  · by_cases e1 : q = T
    · rw [e1]
      refine ⟨by omega, ⟨⟨by omega, by omega⟩, ?_⟩, fun o ho hwo => ?_⟩
      · rw [zr, hgT]
        exact hV.1
      · obtain ⟨b1, b2⟩ := gq o (by omega) hwo (by omega)
        rw [b2]
        have w := hV.2 o ho hwo
        have w0 := (h2 o ho hwo).1
        have zo := t_nn w0.1
        omega
    · obtain ⟨b1, b2⟩ := gq q hq hw e1
      rw [b2]
      obtain ⟨c1, c2, c3⟩ := h2 q b1 hw
      refine ⟨c1, c2, fun o ho hwo => ?_⟩
      rw [hg o (by omega)]
      exact c3 o ho hwo
  · rcases h3 S hS with ⟨i, i1, i2, i3, i4⟩ | ⟨p1, p2⟩
    · refine Or.inl ⟨i, by omega, i2, fun q hq hw => ?_, ?_⟩
      · rw [hg q (by omega)]
        exact i3 q hq hw
      · rw [hg i (by omega)]
        exact i4
    · obtain ⟨⟨s1, s2⟩, s3⟩ := hS T hTn o1
      have p2 := p2 hTn
      have vS : VH D sd n T f (S T : Int) := by
        refine ⟨s2.2, fun o ho hwo => ?_⟩
        have w0 := (h2 o ho hwo).1
        have zo := t_nn w0.1
        have w1 := p1 o ho hwo
        have w2 := s3 o (by omega) hwo (by omega)
        omega
      have le : r ≤ (S T : Int) := Int.not_lt.mp (fun q => hL _ p2 q vS)
      by_cases e1 : (S T : Int) = r
      · refine Or.inr ⟨fun q hq hw => ?_, fun w => ?_⟩
        · by_cases e2 : q = T
          · rw [e2]
            omega
          · obtain ⟨b1, b2⟩ := gq q hq hw e2
            rw [b2]
            exact p1 q b1 hw
        · rw [(hO w).2]
          exact (hS U w (hO w).1).1.2.1.1
      · refine Or.inl ⟨T, hTU, o1, fun q hq hw => ?_, by omega⟩
        rw [hg q (by omega)]
        exact p1 q hq hw
theorem MI_dn {T : Nat} (ht : t = (T : Int)) (hTn : T < n) (h : MI D sd n t fr f) (hD4 : D T 4 ≤ 23) (hL : ∀ x : Int, fr ≤ x → x ≤ D T 4 → ¬ VH D sd n T f x) (hg : ∀ q : Nat, q ≠ T → g q = f q) (h2t : -1 ≤ t2 ∧ t2 < t) (hno : ∀ i : Nat, t2 < (i : Int) → i < T → ¬ own D sd i) (hO : ∀ U : Nat, t2 = (U : Int) → own D sd U ∧ fr2 = (g U).toInt + 1) : MI D sd n t2 fr2 g := by
  rcases h with ⟨h0, -⟩ | ⟨T', ⟨e, -, h1⟩, h2, h3⟩
  · omega
  have eT : T' = T := by omega
  rw [eT] at h1 h2 h3
  obtain ⟨o1, o2⟩ := h1 hTn
  have key : ∀ S : Nat → Nat, sdr n 24 (alw D sd n) (own D sd) S → ∃ i : Nat, i < T ∧ own D sd i ∧ (∀ q : Nat, q < i → own D sd q → S q = (f q).toNatClampNeg) ∧ (f i).toNatClampNeg < S i := fun S hS => by
    rcases h3 S hS with q | ⟨p1, p2⟩
    · exact q
    · obtain ⟨⟨s1, s2⟩, s3⟩ := hS T hTn o1
      refine absurd ⟨s2.2, fun o ho hwo => ?_⟩ (hL (S T : Int) (p2 hTn) s2.1.2)
      have w0 := (h2 o ho hwo).1
      have zo := t_nn w0.1
      have w1 := p1 o ho hwo
      have w2 := s3 o (by omega) hwo (by omega)
      omega
  by_cases hneg : t2 < 0
  · refine Or.inl ⟨hneg, fun ⟨S, hS⟩ => ?_⟩
    obtain ⟨i, i1, i2, -⟩ := key S hS
    exact hno i (by omega) i1 i2
  · have eU : t2 = ((t2.toNat : Nat) : Int) := by omega
    obtain ⟨u1, u2⟩ := hO t2.toNat eU
    have hUT : t2.toNat < T := by omega
    obtain ⟨⟨c1, c1b⟩, c2, c3⟩ := h2 t2.toNat hUT u1
    have zU := t_nn c1
    have gU : g t2.toNat = f t2.toNat := hg _ (by omega)
    refine Or.inr ⟨t2.toNat, ⟨eU, by omega, fun _ => ⟨u1, ?_⟩⟩, fun q hq hw => ?_, fun S hS => ?_⟩
    · have := c2.1.1
      rw [u2, gU]
      omega
    · rw [hg q (by omega)]
      obtain ⟨d1, d2, d3⟩ := h2 q (by omega) hw
      refine ⟨d1, d2, fun o ho hwo => ?_⟩
      rw [hg o (by omega)]
      exact d3 o ho hwo
    · obtain ⟨i, i1, i2, i3, i4⟩ := key S hS
      by_cases e1 : i < t2.toNat
      · refine Or.inl ⟨i, e1, i2, fun q hq hw => ?_, ?_⟩
        · rw [hg q (by omega)]
          exact i3 q hq hw
        · rw [hg i (by omega)]
          exact i4
      · have e2 : i = t2.toNat := by
          refine Nat.le_antisymm (Nat.le_of_not_lt (fun w => ?_)) (by omega)
          exact hno i (by omega) i1 i2
        rw [e2] at i3 i4
        refine Or.inr ⟨fun q hq hw => ?_, fun _ => ?_⟩
        · rw [hg q (by omega)]
          exact i3 q hq hw
        · rw [u2, gU]
          omega
theorem MI_no (h : MI D sd n t fr f) (ht : t < 0) : ¬ TB D sd n := by
  rcases h with ⟨-, h⟩ | ⟨T, ⟨e, -⟩, -⟩
  · exact h
  · omega
theorem MI_yes (h : MI D sd n t fr f) (ht : (n : Int) ≤ t) : lmin n (alw D sd n) (own D sd) (fun q => (f q).toNatClampNeg) := by
  rcases h with ⟨h0, -⟩ | ⟨T, ⟨e, hT, -⟩, h2, h3⟩
  · omega
  have eT : T = n := by omega
  rw [eT] at h2 h3
  refine ⟨fun q hq hw => ?_, fun S hS => ?_⟩
  · obtain ⟨c1, c2, c3⟩ := h2 q hq hw
    have zq := t_nn c1.1
    refine ⟨⟨by show (f q).toNatClampNeg < 24; omega, c2⟩, fun o ho hwo hne => ?_⟩
    show (f q).toNatClampNeg ≠ (f o).toNatClampNeg
    rcases Nat.lt_trichotomy q o with w | w | w
    · exact (h2 o ho hwo).2.2 q w hw
    · exact absurd w hne
    · exact (c3 o w hwo).symm
  · intro x hx hw hp
    show (f x).toNatClampNeg ≤ S x
    rcases h3 S hS with ⟨i, i1, i2, i3, i4⟩ | ⟨p1, -⟩
    · rcases Nat.lt_trichotomy i x with w | w | w
      · have q := hp i w i2
        have q : S i = (f i).toNatClampNeg := q
        omega
      · rw [← w]
        omega
      · have q : S x = (f x).toNatClampNeg := i3 x w hw
        omega
    · have q : S x = (f x).toNatClampNeg := p1 x hx hw
      omega
theorem MI_nn (h : MI D sd n t fr f) (ht : (n : Int) ≤ t) : ∀ q : Nat, q < n → own D sd q → 0 ≤ (f q).toInt := by
  rcases h with ⟨h0, -⟩ | ⟨T, ⟨e, hT, -⟩, h2, -⟩
  · omega
  · exact fun q hq hw => (h2 q (by omega) hw).1.1
end MIS
/-- terms that are alike -/
theorem sdr_cg {k m : Nat} {A B : Nat → Nat → Prop} {I J : Nat → Prop} {S : Nat → Nat} (hI : ∀ i : Nat, i < k → (I i ↔ J i)) (hA : ∀ i h : Nat, i < k → (A i h ↔ B i h)) : sdr k m A I S ↔ sdr k m B J S :=
  ⟨fun h i hi hj => ⟨⟨(h i hi ((hI i hi).mpr hj)).1.1, (hA i _ hi).mp (h i hi ((hI i hi).mpr hj)).1.2⟩, fun j hj2 hJ => (h i hi ((hI i hi).mpr hj)).2 j hj2 ((hI j hj2).mpr hJ)⟩, fun h i hi hj => ⟨⟨(h i hi ((hI i hi).mp hj)).1.1, (hA i _ hi).mpr (h i hi ((hI i hi).mp hj)).1.2⟩, fun j hj2 hJ => (h i hi ((hI i hi).mp hj)).2 j hj2 ((hI j hj2).mp hJ)⟩⟩
section DCG
variable {D E : Nat → Nat → Int} {sd : Int} {n : Nat}
theorem own_cg (e : ∀ t k : Nat, t < n → k < 5 → D t k = E t k) {t : Nat} (ht : t < n) : own D sd t ↔ own E sd t := by
  unfold own
  rw [e t 0 ht (by decide), e t 1 ht (by decide)]
theorem bar_cg (e : ∀ t k : Nat, t < n → k < 5 → D t k = E t k) {t : Nat} (ht : t < n) {h : Int} : bar D sd n t h ↔ bar E sd n t h := by
  have key : ∀ o : Nat, o < n → (bro D sd t o h ↔ bro E sd t o h) := fun o ho => by
    unfold bro
    rw [e o 0 ho (by decide), e o 1 ho (by decide), e o 2 ho (by decide), e o 3 ho (by decide), e o 4 ho (by decide), e t 2 ht (by decide)]
  exact ⟨fun ⟨o, h1, h2⟩ => ⟨o, h1, (key o (by omega)).mp h2⟩, fun ⟨o, h1, h2⟩ => ⟨o, h1, (key o (by omega)).mpr h2⟩⟩
theorem alw_cg (e : ∀ t k : Nat, t < n → k < 5 → D t k = E t k) {t h : Nat} (ht : t < n) : alw D sd n t h ↔ alw E sd n t h := by
  unfold alw
  rw [e t 3 ht (by decide), e t 4 ht (by decide), bar_cg e ht]
theorem sd_cg (e : ∀ t k : Nat, t < n → k < 5 → D t k = E t k) {S : Nat → Nat} : sdr n 24 (alw D sd n) (own D sd) S ↔ sdr n 24 (alw E sd n) (own E sd) S := sdr_cg (fun i hi => own_cg e hi) (fun i h hi => alw_cg e hi)
theorem TB_cg (e : ∀ t k : Nat, t < n → k < 5 → D t k = E t k) : TB D sd n ↔ TB E sd n := ⟨fun ⟨S, h⟩ => ⟨S, (sd_cg e).mp h⟩, fun ⟨S, h⟩ => ⟨S, (sd_cg e).mpr h⟩⟩
theorem lmin_cg (e : ∀ t k : Nat, t < n → k < 5 → D t k = E t k) {M : Nat → Nat} (h : lmin n (alw E sd n) (own E sd) M) : lmin n (alw D sd n) (own D sd) M := by
  refine ⟨(sd_cg e).mpr h.1, fun S hS t ht hO hp => ?_⟩
  refine h.2 S ((sd_cg e).mp hS) t ht ((own_cg e ht).mp hO) (fun q hq hw => hp q hq ((own_cg e (by omega)).mpr hw))
end DCG
