
/-- the terms of a case as numbers: term, then side, must, act, first, last -/
def own (D : Nat → Nat → Int) (sd : Int) (t : Nat) : Prop := D t 0 = sd ∧ D t 1 = 1
def bro (D : Nat → Nat → Int) (sd : Int) (t o : Nat) (h : Int) : Prop := (D o 0 = sd ∧ D o 1 = 0 ∧ D o 2 = D t 2) ∧ D o 3 ≤ h ∧ h ≤ D o 4
def bar (D : Nat → Nat → Int) (sd : Int) (n : Int) (t : Nat) (h : Int) : Prop := ∃ o : Nat, (o : Int) < n ∧ bro D sd t o h
def alw (D : Nat → Nat → Int) (sd : Int) (n : Int) (t : Nat) (h : Nat) : Prop := (D t 3 ≤ (h : Int) ∧ (h : Int) ≤ D t 4) ∧ ¬ bar D sd n t h
def lx (n : Nat) (I : Nat → Prop) (P S : Nat → Nat) : Prop := ∀ t : Nat, t < n → I t → (∀ q : Nat, q < t → I q → S q = P q) → P t ≤ S t
def lmin (k : Nat) (A : Nat → Nat → Prop) (I : Nat → Prop) (M : Nat → Nat) : Prop := sdr k 24 A I M ∧ ∀ S : Nat → Nat, sdr k 24 A I S → lx k I M S
theorem bar_0 {D : Nat → Nat → Int} {sd n h : Int} {t : Nat} (hn : n ≤ 0) : ¬ bar D sd n t h := fun ⟨o, h1, _⟩ => by omega
theorem bar_s {D : Nat → Nat → Int} {sd n m h : Int} {t o : Nat} (ho : (o : Int) = n) (hm : m = n + 1) : bar D sd m t h ↔ (bar D sd n t h ∨ bro D sd t o h) := by
  refine ⟨fun ⟨x, h1, h2⟩ => ?_, fun q => ?_⟩
  · by_cases e : (x : Int) < n
    · exact Or.inl ⟨x, e, h2⟩
    · rw [show x = o from by omega] at h2
      exact Or.inr h2
  · rcases q with ⟨x, h1, h2⟩ | q
    · exact ⟨x, by omega, h2⟩
    · exact ⟨o, by omega, q⟩
/-- the hours of a group of musts -/
def uI (H : Nat → Int32) (g : Int32) : Nat → Int32
  | 0 => 0
  | n + 1 => if (btx g (Int32.ofNat n)).toInt = 1 then uI H g n ||| H n else uI H g n
theorem uI_p {H : Nat → Int32} {g : Int32} {n : Nat} (h : (btx g (Int32.ofNat n)).toInt = 1) : uI H g (n + 1) = uI H g n ||| H n := if_pos h
theorem uI_n {H : Nat → Int32} {g : Int32} {n : Nat} (h : ¬ (btx g (Int32.ofNat n)).toInt = 1) : uI H g (n + 1) = uI H g n := if_neg h
def HL (k : Int32) (H : Nat → Int32) : Prop := ∀ g : Int32, 1 ≤ g.toInt → g.toInt < ((1 : Int32) <<< (k &&& 31)).toInt → (bcF g).toInt ≤ (bcF (uI H g k.toNatClampNeg)).toInt
theorem ok24_0 : ok24 0 := by
  unfold ok24
  decide
theorem bt_z {h : Nat} (hh : h < 32) : ¬ bt 0 h := by
  rw [bt_t _ hh]
  show ¬ Nat.testBit 0 h = true
  simp
theorem uI_ok {H : Nat → Int32} {g : Int32} : ∀ {n : Nat}, (∀ i : Nat, i < n → ok24 (H i)) → ok24 (uI H g n)
  | 0, _ => ok24_0
  | n + 1, hH => by
    have h := uI_ok (H := H) (g := g) (n := n) (fun i hi => hH i (by omega))
    by_cases e : (btx g (Int32.ofNat n)).toInt = 1
    · rw [uI_p e]
      exact ok24_or h (hH n (by omega))
    · rw [uI_n e]
      exact h
theorem uI_bt {H : Nat → Int32} {g : Int32} {h : Nat} (hh : h < 32) : ∀ {n : Nat}, bt (uI H g n) h ↔ ∃ i : Nat, i < n ∧ bt g i ∧ bt (H i) h
  | 0 => ⟨fun q => absurd q (bt_z hh), fun ⟨i, a, _⟩ => absurd a (Nat.not_lt_zero _)⟩
  | n + 1 => by
    have ih := uI_bt (H := H) (g := g) hh (n := n)
    by_cases e : (btx g (Int32.ofNat n)).toInt = 1
    · rw [uI_p e, bt_or _ _ hh, ih]
      refine ⟨fun q => ?_, fun ⟨i, a1, a2, a3⟩ => ?_⟩
      · rcases q with ⟨i, a1, a2, a3⟩ | q
        · exact ⟨i, by omega, a2, a3⟩
        · exact ⟨n, by omega, e, q⟩
      · by_cases f : i = n
        · rw [f] at a3
          exact Or.inr a3
        · exact Or.inl ⟨i, by omega, a2, a3⟩
    · rw [uI_n e, ih]
      refine ⟨fun ⟨i, a1, a2, a3⟩ => ⟨i, by omega, a2, a3⟩, fun ⟨i, a1, a2, a3⟩ => ?_⟩
      by_cases f : i = n
      · rw [f] at a2
        exact absurd a2 e
      · exact ⟨i, by omega, a2, a3⟩
theorem bi_i (x : Int32) (d : Nat) : bi x d = ind (bt x d) := by
  by_cases h : bt x d
  · rw [bi_1 h, ind_1 h]
  · rw [bi_0 h, ind_0 h]
/-- a group as a number -/
noncomputable def msk (G : Nat → Prop) : Nat → Nat
  | 0 => 0
  | n + 1 => 2 ^ n * (@ite _ (G n) (Classical.propDecidable _) 1 0) + msk G n
theorem msk_b (G : Nat → Prop) : ∀ n : Nat, msk G n < 2 ^ n
  | 0 => by
    show 0 < 2 ^ 0
    decide
  | n + 1 => by
    show 2 ^ n * (@ite _ (G n) (Classical.propDecidable _) 1 0) + msk G n < 2 ^ (n + 1)
    have h := msk_b G n
    have p : 2 ^ (n + 1) = 2 * 2 ^ n := by rw [Nat.pow_succ]; omega
    by_cases g : G n
    · rw [show @ite _ (G n) (Classical.propDecidable _) 1 0 = 1 from if_pos g]
      omega
    · rw [show @ite _ (G n) (Classical.propDecidable _) 1 0 = 0 from if_neg g]
      omega
theorem msk_t (G : Nat → Prop) : ∀ (n i : Nat), (msk G n).testBit i = true ↔ (i < n ∧ G i)
  | 0, i => by
    show Nat.testBit 0 i = true ↔ _
    simp
  | n + 1, i => by
    show (2 ^ n * (@ite _ (G n) (Classical.propDecidable _) 1 0) + msk G n).testBit i = true ↔ _
    rw [Nat.testBit_two_pow_mul_add _ (msk_b G n)]
    by_cases h : i < n
    · rw [if_pos h, msk_t G n i]
      exact ⟨fun q => ⟨by omega, q.2⟩, fun q => ⟨h, q.2⟩⟩
    · rw [if_neg h]
      by_cases e : i = n
      · rw [e, Nat.sub_self]
        by_cases g : G n
        · rw [show @ite _ (G n) (Classical.propDecidable _) 1 0 = 1 from if_pos g]
          exact ⟨fun _ => ⟨by omega, g⟩, fun _ => by decide⟩
        · rw [show @ite _ (G n) (Classical.propDecidable _) 1 0 = 0 from if_neg g]
          exact ⟨fun q => absurd q (by decide), fun q => absurd q.2 g⟩
      · have z : ∀ b : Nat, b ≤ 1 → b.testBit (i - n) = false := fun b hb => Nat.testBit_lt_two_pow (Nat.lt_of_le_of_lt hb (Nat.one_lt_two_pow (by omega)))
        have b1 : @ite _ (G n) (Classical.propDecidable _) 1 0 ≤ 1 := by
          by_cases g : G n
          · rw [show @ite _ (G n) (Classical.propDecidable _) 1 0 = 1 from if_pos g]
            exact Nat.le_refl 1
          · rw [show @ite _ (G n) (Classical.propDecidable _) 1 0 = 0 from if_neg g]
            exact Nat.zero_le 1
        rw [z _ b1]
        exact ⟨fun q => absurd q (by decide), fun q => absurd q.1 (by omega)⟩
theorem sh_k : ∀ k : Fin 6, ((1 : Int32) <<< (Int32.ofNat k.val &&& 31)).toInt = ((2 ^ k.val : Nat) : Int) := by decide +kernel
theorem p2_32 {k : Nat} (h : k ≤ 5) : 2 ^ k ≤ 32 := by
  rcases (show k = 0 ∨ k = 1 ∨ k = 2 ∨ k = 3 ∨ k = 4 ∨ k = 5 by omega) with rfl | rfl | rfl | rfl | rfl | rfl <;> decide
theorem HL_sdr {k : Int32} {K : Nat} (hk : k.toInt = (K : Int)) (hK : K ≤ 5) {H : Nat → Int32} (hH : ∀ i : Nat, i < K → ok24 (H i)) : HL k H ↔ ∃ S : Nat → Nat, sdr K 24 (fun i h => bt (H i) h) (fun _ => True) S := by
  have ek : k = Int32.ofNat K := by
    have e := ofn (x := k) (by omega)
    rw [nt hk] at e
    exact e
  have sk : ((1 : Int32) <<< (k &&& 31)).toInt = ((2 ^ K : Nat) : Int) := by
    rw [ek]
    exact sh_k ⟨K, by omega⟩
  have p2 := p2_32 hK
  have nbe : ∀ (g : Int32) (G : Nat → Prop), (∀ i : Nat, i < K → (bt g i ↔ G i)) → (bcF (uI H g K)).toInt = nb K 24 (fun i h => bt (H i) h) G := fun g G hg => by
    rw [bc_24 (uI_ok hH)]
    refine cN_cg (fun h hh => ?_)
    rw [bi_i]
    refine ind_cg ((uI_bt (by omega)).trans ⟨fun ⟨i, a1, a2, a3⟩ => ⟨i, a1, (hg i a1).mp a2, a3⟩, fun ⟨i, a1, a2, a3⟩ => ⟨i, a1, (hg i a1).mpr a2, a3⟩⟩)
  have cre : ∀ (g : Int32) (G : Nat → Prop), 0 ≤ g.toInt → g.toInt < ((2 ^ K : Nat) : Int) → (∀ i : Nat, i < K → (bt g i ↔ G i)) → (bcF g).toInt = crd K G := fun g G h0 h1 hg => by
    have zg := t_nn h0
    rw [bc_24 ⟨h0, by omega⟩, cN_ext (n := K) (by omega) (fun i h2 h3 => bi_0 (fun q => by
      have w := (bt_t g (by omega)).mp q
      rw [bv_n h0, Nat.testBit_lt_two_pow (Nat.lt_of_lt_of_le (show g.toNatClampNeg < 2 ^ K by omega) (Nat.pow_le_pow_right (by decide) h2))] at w
      exact absurd w (by decide)))]
    refine cN_cg (fun i hi => ?_)
    rw [bi_i]
    exact ind_cg (hg i hi)
  refine ⟨fun hL => ?_, fun ⟨S, hS⟩ => ?_⟩
  · have b := cN_b (f := fun i => ind True) (n := K) (fun i _ => ind_b True)
    refine hall_sdr (K + 1) _ _ (by show cN (fun i => ind True) K < ((K + 1 : Nat) : Int); omega) (fun G _ => ?_)
    by_cases z : msk G K = 0
    · have c0 : crd K G = 0 := cN_z (fun i hi => ind_0 (fun q => by
        have w := (msk_t G K i).mpr ⟨hi, q⟩
        rw [z] at w
        simp at w))
      rw [c0]
      exact (cN_b (fun h _ => ind_b _)).1
    · have mb := msk_b G K
      have gi : (Int32.ofNat (msk G K)).toInt = ((msk G K : Nat) : Int) := Int32.toInt_ofNat_of_lt (by omega)
      have hg : ∀ i : Nat, i < K → (bt (Int32.ofNat (msk G K)) i ↔ G i) := fun i hi => by
        rw [bt_t _ (by omega), bv_n (by omega), nt gi, msk_t]
        exact ⟨fun q => q.2, fun q => ⟨hi, q⟩⟩
      have l := hL (Int32.ofNat (msk G K)) (by omega) (by rw [sk]; omega)
      rw [nt hk, nbe _ G hg, cre _ G (by omega) (by omega) hg] at l
      exact l
  · intro g h1 h2
    rw [sk] at h2
    rw [nt hk, nbe g (fun i => bt g i) (fun _ _ => Iff.rfl), cre g (fun i => bt g i) (by omega) h2 (fun _ _ => Iff.rfl)]
    exact sdr_hall hS _ (fun _ _ => trivial)
/-- what read gathers: k musts, their terms m, their hours H -/
def RD (D : Nat → Nat → Int) (sd n : Int) (K : Nat) (m : Nat → Nat) (H : Nat → Int32) : Prop := ((K : Int) ≤ n ∧ ∀ i : Nat, i < K → (((m i : Nat) : Int) < n ∧ own D sd (m i)) ∧ ok24 (H i) ∧ ∀ h : Nat, h < 24 → (bt (H i) h ↔ alw D sd n (m i) h)) ∧ (∀ i j : Nat, i < j → j < K → m i < m j) ∧ ∀ t : Nat, (t : Int) < n → own D sd t → ∃ i : Nat, i < K ∧ m i = t
section RDS
variable {D : Nat → Nat → Int} {sd : Int} {n K : Nat} {m : Nat → Nat} {H : Nat → Int32}
theorem RD_in (h : RD D sd n K m H) {i j : Nat} (hi : i < K) (hj : j < K) (e : m i = m j) : i = j := by
  rcases Nat.lt_trichotomy i j with q | q | q
  · have := h.2.1 i j q hj
    omega
  · exact q
  · have := h.2.1 j i q hi
    omega
theorem RD_lt (h : RD D sd n K m H) {i j : Nat} (hi : i < K) (hj : j < K) (e : m i < m j) : i < j := by
  rcases Nat.lt_trichotomy i j with q | q | q
  · exact q
  · rw [q] at e
    omega
  · have := h.2.1 j i q hi
    omega
/-- from musts to terms -/
noncomputable def upS (K : Nat) (m S : Nat → Nat) (t : Nat) : Nat := S (Classical.epsilon (fun i => i < K ∧ m i = t))
theorem upS_m (h : RD D sd n K m H) {S : Nat → Nat} {i : Nat} (hi : i < K) : upS K m S (m i) = S i := by
  have q : Classical.epsilon (fun x => x < K ∧ m x = m i) < K ∧ m (Classical.epsilon (fun x => x < K ∧ m x = m i)) = m i := Classical.epsilon_spec (p := fun x => x < K ∧ m x = m i) ⟨i, hi, rfl⟩
  unfold upS
  rw [RD_in h q.1 hi q.2]
theorem sdr_up (h : RD D sd n K m H) {S : Nat → Nat} (hS : sdr K 24 (fun i x => bt (H i) x) (fun _ => True) S) : sdr n 24 (alw D sd n) (own D sd) (upS K m S) := by
  intro t ht hO
  obtain ⟨i, hi, rfl⟩ := h.2.2 t (by omega) hO
  rw [upS_m h hi]
  obtain ⟨⟨s1, s2⟩, s3⟩ := hS i hi trivial
  refine ⟨⟨s1, ((h.1.2 i hi).2.2 _ s1).mp s2⟩, fun t2 ht2 hO2 hne => ?_⟩
  obtain ⟨j, hj, rfl⟩ := h.2.2 t2 (by omega) hO2
  rw [upS_m h hj]
  exact s3 j hj trivial (fun q => hne (by rw [q]))
theorem sdr_dn (h : RD D sd n K m H) {S : Nat → Nat} (hS : sdr n 24 (alw D sd n) (own D sd) S) : sdr K 24 (fun i x => bt (H i) x) (fun _ => True) (fun i => S (m i)) := by
  intro i hi _
  obtain ⟨⟨a1, a2⟩, a3, a4⟩ := h.1.2 i hi
  obtain ⟨⟨s1, s2⟩, s3⟩ := hS (m i) (by omega) a2
  refine ⟨⟨s1, (a4 _ s1).mpr s2⟩, fun j hj _ hne => ?_⟩
  obtain ⟨⟨b1, b2⟩, -⟩ := h.1.2 j hj
  exact s3 (m j) (by omega) b2 (fun q => hne (RD_in h hi hj q))
theorem RD_iff (h : RD D sd n K m H) : (∃ S : Nat → Nat, sdr K 24 (fun i x => bt (H i) x) (fun _ => True) S) ↔ ∃ S : Nat → Nat, sdr n 24 (alw D sd n) (own D sd) S := ⟨fun ⟨S, q⟩ => ⟨_, sdr_up h q⟩, fun ⟨S, q⟩ => ⟨_, sdr_dn h q⟩⟩
theorem lmin_dn (h : RD D sd n K m H) {M : Nat → Nat} (hM : lmin n (alw D sd n) (own D sd) M) : lmin K (fun i x => bt (H i) x) (fun _ => True) (fun i => M (m i)) := by
  refine ⟨sdr_dn h hM.1, fun S hS => ?_⟩
  have l := hM.2 _ (sdr_up h hS)
  intro i hi _ hp
  obtain ⟨⟨a1, a2⟩, -⟩ := h.1.2 i hi
  have q := l (m i) (by omega) a2 (fun x hx hO => by
    obtain ⟨j, hj, rfl⟩ := h.2.2 x (by omega) hO
    rw [upS_m h hj]
    exact hp j (RD_lt h hj hi hx) trivial)
  rw [upS_m h hi] at q
  exact q
end RDS
