
/-- the hours of a term as bits -/
def hB (a b : Int32) : Int32 := (1 <<< ((b + 1) &&& 31)) - (1 <<< (a &&& 31))
theorem hB_n : ∀ a b : Fin 24, a.val ≤ b.val → (0 ≤ (hB (Int32.ofNat a.val) (Int32.ofNat b.val)).toInt ∧ (hB (Int32.ofNat a.val) (Int32.ofNat b.val)).toInt < 16777216) ∧ ∀ h : Fin 24, ((btx (hB (Int32.ofNat a.val) (Int32.ofNat b.val)) (Int32.ofNat h.val)).toInt = 1 ↔ (a.val ≤ h.val ∧ h.val ≤ b.val)) := by decide +kernel
theorem hB_b {a b : Int32} (ha : 0 ≤ a.toInt) (hab : a.toInt ≤ b.toInt) (hb : b.toInt ≤ 23) : ok24 (hB a b) ∧ ∀ h : Nat, h < 24 → (bt (hB a b) h ↔ (a.toInt ≤ (h : Int) ∧ (h : Int) ≤ b.toInt)) := by
  have za := t_nn ha
  have zb := t_nn (x := b) (by omega)
  have k := hB_n ⟨a.toNatClampNeg, by omega⟩ ⟨b.toNatClampNeg, by omega⟩ (by show a.toNatClampNeg ≤ b.toNatClampNeg; omega)
  have ea := ofn ha
  have eb := ofn (x := b) (by omega)
  have k1 : ok24 (hB (Int32.ofNat a.toNatClampNeg) (Int32.ofNat b.toNatClampNeg)) := k.1
  have k2 : ∀ h : Nat, h < 24 → (bt (hB (Int32.ofNat a.toNatClampNeg) (Int32.ofNat b.toNatClampNeg)) h ↔ (a.toNatClampNeg ≤ h ∧ h ≤ b.toNatClampNeg)) := fun h hh => k.2 ⟨h, hh⟩
  rw [← ea, ← eb] at k1 k2
  refine ⟨k1, fun h hh => (k2 h hh).trans ⟨fun q => ⟨by omega, by omega⟩, fun q => ⟨by omega, by omega⟩⟩⟩
def AL (D : Nat → Nat → Int) (sd : Int) (t : Nat) (b : Int32) (n : Int) : Prop := ok24 b ∧ ∀ h : Nat, h < 24 → (bt b h ↔ ((D t 3 ≤ (h : Int) ∧ (h : Int) ≤ D t 4) ∧ ¬ bar D sd n t h))
section ALS
variable {D : Nat → Nat → Int} {sd n m : Int} {t o : Nat} {b x : Int32}
theorem AL_0 (h : ok24 b ∧ ∀ h : Nat, h < 24 → (bt b h ↔ (D t 3 ≤ (h : Int) ∧ (h : Int) ≤ D t 4))) (hn : n ≤ 0) : AL D sd t b n := ⟨h.1, fun x hx => (h.2 x hx).trans ⟨fun q => ⟨q, bar_0 hn⟩, fun q => q.1⟩⟩
theorem AL_no (ho : (o : Int) = n) (hm : m = n + 1) (hn : ¬ (D o 0 = sd ∧ D o 1 = 0 ∧ D o 2 = D t 2)) (h : AL D sd t b n) : AL D sd t b m := by
  refine ⟨h.1, fun x hx => (h.2 x hx).trans (and_congr Iff.rfl (not_congr ?_))⟩
  rw [bar_s ho hm]
  exact ⟨Or.inl, fun q => q.elim id (fun w => absurd w.1 hn)⟩
theorem AL_yes (ho : (o : Int) = n) (hm : m = n + 1) (hc : D o 0 = sd ∧ D o 1 = 0 ∧ D o 2 = D t 2) (hx : ∀ h : Nat, h < 24 → (bt x h ↔ (D o 3 ≤ (h : Int) ∧ (h : Int) ≤ D o 4))) (h : AL D sd t b n) : AL D sd t (b &&& (x ^^^ -1)) m := by
  refine ⟨ok24_and h.1, fun y hy => ?_⟩
  rw [bt_and _ _ (by omega), bt_not _ (by omega), h.2 y hy, hx y hy, bar_s ho hm]
  unfold bro
  exact ⟨fun ⟨⟨a, c⟩, d⟩ => ⟨a, fun q => q.elim c (fun w => d w.2)⟩, fun ⟨a, c⟩ => ⟨⟨a, fun q => c (Or.inl q)⟩, fun q => c (Or.inr ⟨hc, q⟩)⟩⟩
end ALS
/-- read, as far as term y -/
def RDp (D : Nat → Nat → Int) (sd n y : Int) (K : Nat) (m : Nat → Nat) (H : Nat → Int32) : Prop := ((K : Int) ≤ y ∧ ∀ i : Nat, i < K → (((m i : Nat) : Int) < y ∧ own D sd (m i)) ∧ ok24 (H i) ∧ ∀ h : Nat, h < 24 → (bt (H i) h ↔ alw D sd n (m i) h)) ∧ (∀ i j : Nat, i < j → j < K → m i < m j) ∧ ∀ t : Nat, (t : Int) < y → own D sd t → ∃ i : Nat, i < K ∧ m i = t
section RDP
variable {D : Nat → Nat → Int} {sd n y z : Int} {K L : Nat} {m p : Nat → Nat} {H G : Nat → Int32}
theorem RDp_0 (hK : K = 0) (hy : y = 0) : RDp D sd n y K m H := ⟨⟨by omega, fun i hi => absurd hi (by omega)⟩, fun i j h1 h2 => absurd h2 (by omega), fun t ht => absurd ht (by omega)⟩
theorem RDp_cg (h : RDp D sd n y K m H) (hL : L = K) (hp : ∀ i : Nat, i < K → p i = m i) (hG : ∀ i : Nat, i < K → G i = H i) : RDp D sd n y L p G := by
  rw [hL]
  refine ⟨⟨h.1.1, fun i hi => ?_⟩, fun i j h1 h2 => ?_, fun t ht hO => ?_⟩
  · rw [hp i hi, hG i hi]
    exact h.1.2 i hi
  · rw [hp i (by omega), hp j h2]
    exact h.2.1 i j h1 h2
  · obtain ⟨i, a1, a2⟩ := h.2.2 t ht hO
    exact ⟨i, a1, by rw [hp i a1]; exact a2⟩
theorem RDp_no {t : Nat} (ht : (t : Int) = y) (hz : z = y + 1) (hn : ¬ own D sd t) (h : RDp D sd n y K m H) : RDp D sd n z K m H := by
  refine ⟨⟨by have := h.1.1; omega, fun i hi => ⟨⟨by have := (h.1.2 i hi).1.1; omega, (h.1.2 i hi).1.2⟩, (h.1.2 i hi).2⟩⟩, h.2.1, fun q hq hO => ?_⟩
  by_cases e : (q : Int) < y
  · exact h.2.2 q e hO
  · rw [show q = t from by omega] at hO
    exact absurd hO hn
theorem RDp_new {t : Nat} {b : Int32} (ht : (t : Int) = y) (hz : z = y + 1) (hO : own D sd t) (hb : ok24 b ∧ ∀ h : Nat, h < 24 → (bt b h ↔ alw D sd n t h)) (h : RDp D sd n y K m H) (hL : L = K + 1) (hp : ∀ i : Nat, i < K → p i = m i) (hpK : p K = t) (hG : ∀ i : Nat, i < K → G i = H i) (hGK : G K = b) : RDp D sd n z L p G := by
  rw [hL]
  have h1 := h.1.1
  refine ⟨⟨by omega, fun i hi => ?_⟩, fun i j q1 q2 => ?_, fun q hq hw => ?_⟩
  · by_cases e : i = K
    · rw [e, hpK, hGK]
      exact ⟨⟨by omega, hO⟩, hb⟩
    · rw [hp i (by omega), hG i (by omega)]
      obtain ⟨⟨a1, a2⟩, a3⟩ := h.1.2 i (by omega)
      exact ⟨⟨by omega, a2⟩, a3⟩
  · rw [hp i (by omega)]
    by_cases e : j = K
    · rw [e, hpK]
      have := (h.1.2 i (by omega)).1.1
      omega
    · rw [hp j (by omega)]
      exact h.2.1 i j q1 (by omega)
  · by_cases e : (q : Int) < y
    · obtain ⟨i, a1, a2⟩ := h.2.2 q e hw
      exact ⟨i, by omega, by rw [hp i a1]; exact a2⟩
    · exact ⟨K, by omega, by rw [hpK]; omega⟩
end RDP
/-- a single hour -/
theorem pn_n : ∀ x : Fin 24, (0 ≤ ((1 : Int32) <<< (Int32.ofNat x.val &&& 31)).toInt ∧ ((1 : Int32) <<< (Int32.ofNat x.val &&& 31)).toInt < 16777216) ∧ ∀ d : Fin 24, ((btx ((1 : Int32) <<< (Int32.ofNat x.val &&& 31)) (Int32.ofNat d.val)).toInt = 1 ↔ d.val = x.val) := by decide +kernel
def pin (x : Nat) : Int32 := 1 <<< (Int32.ofNat x &&& 31)
theorem pin_b {x : Nat} (hx : x < 24) : ok24 (pin x) ∧ ∀ d : Nat, d < 24 → (bt (pin x) d ↔ d = x) := ⟨(pn_n ⟨x, hx⟩).1, fun d hd => (pn_n ⟨x, hx⟩).2 ⟨d, hd⟩⟩
section PIN
variable {k : Int32} {K y : Nat} {H G : Nat → Int32} {M : Nat → Nat}
/-- the musts before y stand where M has them -/
def pnd (K y : Nat) (H G : Nat → Int32) (M : Nat → Nat) : Prop := (∀ j : Nat, j < y → G j = pin (M j)) ∧ ∀ j : Nat, y ≤ j → j < K → G j = H j
theorem pnd_ok (hH : ∀ i : Nat, i < K → ok24 (H i)) (hM : lmin K (fun i x => bt (H i) x) (fun _ => True) M) (hG : pnd K y H G M) (hy : y < K) {r : Nat} (hr : r < 24) : ∀ i : Nat, i < K → ok24 (upd G y (pin r) i) := fun i hi => by
  by_cases e : i = y
  · rw [e, pk_us]
    exact (pin_b hr).1
  · rw [pk_un e]
    by_cases l : i < y
    · rw [hG.1 i l]
      exact (pin_b (hM.1 i hi trivial).1.1).1
    · rw [hG.2 i (by omega) hi]
      exact hH i hi
theorem pnd_M (hk : k.toInt = (K : Int)) (hK : K ≤ 5) (hH : ∀ i : Nat, i < K → ok24 (H i)) (hM : lmin K (fun i x => bt (H i) x) (fun _ => True) M) (hG : pnd K y H G M) (hy : y < K) : (M y < 24 ∧ bt (G y) (M y)) ∧ HL k (upd G y (pin (M y))) := by
  have hMy := (hM.1 y hy trivial).1
  refine ⟨⟨hMy.1, by rw [hG.2 y (Nat.le_refl y) hy]; exact hMy.2⟩, (HL_sdr hk hK (pnd_ok hH hM hG hy hMy.1)).mpr ⟨M, fun i hi _ => ?_⟩⟩
  have hMi := hM.1 i hi trivial
  refine ⟨⟨hMi.1.1, ?_⟩, hMi.2⟩
  show bt (upd G y (pin (M y)) i) (M i)
  by_cases e : i = y
  · rw [e, pk_us]
    exact ((pin_b hMy.1).2 _ hMy.1).mpr rfl
  · rw [pk_un e]
    by_cases l : i < y
    · rw [hG.1 i l]
      exact ((pin_b hMi.1.1).2 _ hMi.1.1).mpr rfl
    · rw [hG.2 i (by omega) hi]
      exact hMi.1.2
theorem pnd_r (hk : k.toInt = (K : Int)) (hK : K ≤ 5) (hH : ∀ i : Nat, i < K → ok24 (H i)) (hM : lmin K (fun i x => bt (H i) x) (fun _ => True) M) (hG : pnd K y H G M) (hy : y < K) {r : Nat} (hr : r < 24) (hb : bt (G y) r) (hL : HL k (upd G y (pin r))) (hn : ∀ h : Nat, h < r → bt (G y) h → ¬ HL k (upd G y (pin h))) : r = M y := by
  obtain ⟨⟨m1, m2⟩, m3⟩ := pnd_M hk hK hH hM hG hy
  have l1 : r ≤ M y := Nat.le_of_not_lt (fun q => hn (M y) q m2 m3)
  obtain ⟨S, hS⟩ := (HL_sdr hk hK (pnd_ok hH hM hG hy hr)).mp hL
  have hSj : ∀ j : Nat, j < y → S j = M j := fun j hj => by
    have q : bt (upd G y (pin r) j) (S j) := (hS j (by omega) trivial).1.2
    rw [pk_un (by omega), hG.1 j hj] at q
    exact ((pin_b (hM.1 j (by omega) trivial).1.1).2 _ (hS j (by omega) trivial).1.1).mp q
  have hSy : S y = r := by
    have q : bt (upd G y (pin r) y) (S y) := (hS y hy trivial).1.2
    rw [pk_us] at q
    exact ((pin_b hr).2 _ (hS y hy trivial).1.1).mp q
  have hSH : sdr K 24 (fun i x => bt (H i) x) (fun _ => True) S := fun i hi _ => by
    refine ⟨⟨(hS i hi trivial).1.1, ?_⟩, (hS i hi trivial).2⟩
    show bt (H i) (S i)
    by_cases l : i < y
    · rw [hSj i l]
      exact (hM.1 i hi trivial).1.2
    · by_cases e : i = y
      · rw [e, hSy, ← hG.2 y (Nat.le_refl y) hy]
        exact hb
      · have q : bt (upd G y (pin r) i) (S i) := (hS i hi trivial).1.2
        rw [pk_un e, hG.2 i (by omega) hi] at q
        exact q
  have l2 := hM.2 S hSH y hy trivial (fun q hq _ => hSj q hq)
  omega
theorem pnd_s (hG : pnd K y H G M) {F : Nat → Int32} (hF : ∀ j : Nat, F j = if j = y then pin (M y) else G j) : pnd K (y + 1) H F M := by
  refine ⟨fun j hj => ?_, fun j h1 h2 => ?_⟩
  · rw [hF]
    by_cases e : j = y
    · rw [if_pos e, e]
    · rw [if_neg e]
      exact hG.1 j (by omega)
  · rw [hF, if_neg (by omega)]
    exact hG.2 j (by omega) h2
end PIN
