
/-- marriage: counts of what holds -/
noncomputable def ind (P : Prop) : Int := @ite _ P (Classical.propDecidable P) 1 0
theorem ind_1 {P : Prop} (h : P) : ind P = 1 := if_pos h
theorem ind_0 {P : Prop} (h : ¬ P) : ind P = 0 := if_neg h
theorem ind_b (P : Prop) : 0 ≤ ind P ∧ ind P ≤ 1 := by
  by_cases h : P
  · rw [ind_1 h]
    decide
  · rw [ind_0 h]
    decide
theorem ind_le {P Q : Prop} (h : P → Q) : ind P ≤ ind Q := by
  by_cases p : P
  · rw [ind_1 p, ind_1 (h p)]
    exact Int.le_refl _
  · rw [ind_0 p]
    exact (ind_b Q).1
theorem ind_cg {P Q : Prop} (h : P ↔ Q) : ind P = ind Q := by
  rw [show P = Q from propext h]
theorem cN_add {f g : Nat → Int} : ∀ n : Nat, cN (fun i => f i + g i) n = cN f n + cN g n
  | 0 => rfl
  | n + 1 => by
    show cN (fun i => f i + g i) n + (f n + g n) = cN f n + f n + (cN g n + g n)
    rw [cN_add n]
    omega
theorem cN_z {f : Nat → Int} : ∀ {n : Nat}, (∀ i : Nat, i < n → f i = 0) → cN f n = 0
  | 0, _ => rfl
  | n + 1, h => by
    show cN f n + f n = 0
    rw [cN_z (f := f) (n := n) (fun i hi => h i (by omega)), h n (by omega)]
    rfl
theorem cN_ex {P : Nat → Prop} {n : Nat} (h : 0 < cN (fun i => ind (P i)) n) : ∃ i : Nat, i < n ∧ P i := by
  refine Classical.byContradiction (fun q => ?_)
  rw [cN_z (f := fun i => ind (P i)) (n := n) (fun i hi => ind_0 (fun p => q ⟨i, hi, p⟩))] at h
  exact absurd h (by decide)
theorem cN_1 {P : Nat → Prop} {n i : Nat} (hi : i < n) (h : P i) : 0 < cN (fun i => ind (P i)) n := by
  have q : cN (fun _ => 0) n < cN (fun i => ind (P i)) n := cN_lt (j := i) (fun k _ => (ind_b (P k)).1) hi (by show (0 : Int) < ind (P i); rw [ind_1 h]; decide)
  rw [cN_z (f := fun _ => 0) (n := n) (fun _ _ => rfl)] at q
  exact q
section HAL
variable {k m : Nat}
/-- how many of k; how many of m are met -/
noncomputable def crd (k : Nat) (G : Nat → Prop) : Int := cN (fun i => ind (G i)) k
def met (k : Nat) (A : Nat → Nat → Prop) (G : Nat → Prop) (h : Nat) : Prop := ∃ i : Nat, i < k ∧ G i ∧ A i h
noncomputable def nb (k m : Nat) (A : Nat → Nat → Prop) (G : Nat → Prop) : Int := cN (fun h => ind (met k A G h)) m
def hall (k m : Nat) (A : Nat → Nat → Prop) (I : Nat → Prop) : Prop := ∀ G : Nat → Prop, (∀ i : Nat, G i → I i) → crd k G ≤ nb k m A G
def sdr (k m : Nat) (A : Nat → Nat → Prop) (I : Nat → Prop) (S : Nat → Nat) : Prop := ∀ i : Nat, i < k → I i → (S i < m ∧ A i (S i)) ∧ ∀ j : Nat, j < k → I j → i ≠ j → S i ≠ S j
theorem crd_or {G H : Nat → Prop} (hd : ∀ i : Nat, G i → ¬ H i) : crd k (fun i => G i ∨ H i) = crd k G + crd k H := by
  unfold crd
  rw [← cN_add]
  refine cN_cg (fun i _ => ?_)
  show ind (G i ∨ H i) = ind (G i) + ind (H i)
  by_cases g : G i
  · rw [ind_1 (Or.inl g), ind_1 g, ind_0 (hd i g)]
    rfl
  · by_cases h : H i
    · rw [ind_1 (Or.inr h), ind_0 g, ind_1 h]
      rfl
    · rw [ind_0 (fun q => q.elim g h), ind_0 g, ind_0 h]
      rfl
theorem crd_lt {G I : Nat → Prop} (hs : ∀ i : Nat, G i → I i) {j : Nat} (hj : j < k) (h1 : I j) (h2 : ¬ G j) : crd k G < crd k I :=
  cN_lt (j := j) (fun i _ => ind_le (hs i)) hj (by show ind (G j) < ind (I j); rw [ind_0 h2, ind_1 h1]; decide)
theorem hall_sdr : ∀ (n : Nat) (A : Nat → Nat → Prop) (I : Nat → Prop), crd k I < (n : Int) → hall k m A I → ∃ S : Nat → Nat, sdr k m A I S
  | 0, A, I, hn, _ => absurd hn (by have q := (cN_b (f := fun i => ind (I i)) (n := k) (fun i _ => ind_b (I i))).1; show ¬ cN (fun i => ind (I i)) k < ((0 : Nat) : Int); omega)
  | n + 1, A, I, hn, hH => by
    by_cases he : ∃ i : Nat, i < k ∧ I i
    · obtain ⟨i0, hi0, hI0⟩ := he
      by_cases ht : ∃ G : Nat → Prop, (∀ i : Nat, G i → I i) ∧ (∃ i : Nat, i < k ∧ G i) ∧ (∃ i : Nat, i < k ∧ I i ∧ ¬ G i) ∧ nb k m A G ≤ crd k G
      · obtain ⟨G, g1, g2, ⟨j, j1, j2, j3⟩, g4⟩ := ht
        have lt := crd_lt g1 j1 j2 j3
        obtain ⟨S1, s1⟩ := hall_sdr n A G (by omega) (fun F hF => hH F (fun i h => g1 i (hF i h)))
        have hI2 : ∀ i : Nat, (I i ∧ ¬ G i) → I i := fun i h => h.1
        obtain ⟨x, x1, x2⟩ := g2
        have lt2 : crd k (fun i => I i ∧ ¬ G i) < crd k I := crd_lt hI2 x1 (g1 x x2) (fun q => q.2 x2)
        obtain ⟨S2, s2⟩ := hall_sdr n (fun i h => A i h ∧ ¬ met k A G h) (fun i => I i ∧ ¬ G i) (by omega) (fun F hF => by
          have c1 := crd_or (k := k) (G := F) (H := G) (fun i h => (hF i h).2)
          have c2 := hH (fun i => F i ∨ G i) (fun i h => h.elim (fun q => (hF i q).1) (g1 i))
          have c3 : nb k m A (fun i => F i ∨ G i) = nb k m (fun i h => A i h ∧ ¬ met k A G h) F + nb k m A G := by
            unfold nb
            rw [← cN_add]
            refine cN_cg (fun h _ => ?_)
            show ind (met k A (fun i => F i ∨ G i) h) = ind (met k (fun i h => A i h ∧ ¬ met k A G h) F h) + ind (met k A G h)
            by_cases q : met k A G h
            · have z : ¬ met k (fun i h => A i h ∧ ¬ met k A G h) F h := fun ⟨i, _, _, a⟩ => a.2 q
              obtain ⟨i, a1, a2, a3⟩ := id q
              rw [ind_1 (show met k A (fun i => F i ∨ G i) h from ⟨i, a1, Or.inr a2, a3⟩), ind_0 z, ind_1 q]
              rfl
            · by_cases p : met k (fun i h => A i h ∧ ¬ met k A G h) F h
              · obtain ⟨i, a1, a2, a3⟩ := id p
                rw [ind_1 (show met k A (fun i => F i ∨ G i) h from ⟨i, a1, Or.inl a2, a3.1⟩), ind_1 p, ind_0 q]
                rfl
              · have z : ¬ met k A (fun i => F i ∨ G i) h := fun ⟨i, a1, a2, a3⟩ => a2.elim (fun f => p ⟨i, a1, f, a3, q⟩) (fun g => q ⟨i, a1, g, a3⟩)
                rw [ind_0 z, ind_0 p, ind_0 q]
                rfl
          omega)
        refine ⟨fun i => @ite _ (G i) (Classical.propDecidable _) (S1 i) (S2 i), fun i hi hIi => ?_⟩
        by_cases gi : G i
        · have e : @ite _ (G i) (Classical.propDecidable _) (S1 i) (S2 i) = S1 i := if_pos gi
          refine ⟨by show (@ite _ (G i) (Classical.propDecidable _) (S1 i) (S2 i)) < m ∧ A i (@ite _ (G i) (Classical.propDecidable _) (S1 i) (S2 i)); rw [e]; exact (s1 i hi gi).1, fun j hj hIj hij => ?_⟩
          show @ite _ (G i) (Classical.propDecidable _) (S1 i) (S2 i) ≠ @ite _ (G j) (Classical.propDecidable _) (S1 j) (S2 j)
          rw [e]
          by_cases gj : G j
          · rw [show @ite _ (G j) (Classical.propDecidable _) (S1 j) (S2 j) = S1 j from if_pos gj]
            exact (s1 i hi gi).2 j hj gj hij
          · rw [show @ite _ (G j) (Classical.propDecidable _) (S1 j) (S2 j) = S2 j from if_neg gj]
            intro q
            have a := (s2 j hj ⟨hIj, gj⟩).1.2.2
            rw [← q] at a
            exact a ⟨i, hi, gi, (s1 i hi gi).1.2⟩
        · have e : @ite _ (G i) (Classical.propDecidable _) (S1 i) (S2 i) = S2 i := if_neg gi
          refine ⟨by show (@ite _ (G i) (Classical.propDecidable _) (S1 i) (S2 i)) < m ∧ A i (@ite _ (G i) (Classical.propDecidable _) (S1 i) (S2 i)); rw [e]; exact ⟨(s2 i hi ⟨hIi, gi⟩).1.1, (s2 i hi ⟨hIi, gi⟩).1.2.1⟩, fun j hj hIj hij => ?_⟩
          show @ite _ (G i) (Classical.propDecidable _) (S1 i) (S2 i) ≠ @ite _ (G j) (Classical.propDecidable _) (S1 j) (S2 j)
          rw [e]
          by_cases gj : G j
          · rw [show @ite _ (G j) (Classical.propDecidable _) (S1 j) (S2 j) = S1 j from if_pos gj]
            intro q
            have a := (s2 i hi ⟨hIi, gi⟩).1.2.2
            rw [q] at a
            exact a ⟨j, hj, gj, (s1 j hj gj).1.2⟩
          · rw [show @ite _ (G j) (Classical.propDecidable _) (S1 j) (S2 j) = S2 j from if_neg gj]
            exact (s2 i hi ⟨hIi, gi⟩).2 j hj ⟨hIj, gj⟩ hij
      · -- every group has more than it needs
        have c0 : crd k (fun i => i = i0) ≤ nb k m A (fun i => i = i0) := hH _ (fun i h => by rw [h]; exact hI0)
        have p0 : 0 < crd k (fun i => i = i0) := cN_1 (P := fun i => i = i0) hi0 rfl
        obtain ⟨h0, l0, i1, i2, i3, a0⟩ := cN_ex (P := met k A (fun i => i = i0)) (n := m) (by show 0 < nb k m A (fun i => i = i0); omega)
        rw [i3] at a0
        have lt : crd k (fun i => I i ∧ i ≠ i0) < crd k I := crd_lt (fun i h => h.1) hi0 hI0 (fun q => q.2 rfl)
        obtain ⟨S, s⟩ := hall_sdr n (fun i h => A i h ∧ h ≠ h0) (fun i => I i ∧ i ≠ i0) (by omega) (fun F hF => by
          by_cases fe : ∃ i : Nat, i < k ∧ F i
          · have c1 : crd k F < nb k m A F := by
              refine Int.not_le.mp (fun q => ht ⟨F, fun i h => (hF i h).1, fe, ⟨i0, hi0, hI0, fun q => (hF i0 q).2 rfl⟩, q⟩)
            have c2 : nb k m A F ≤ nb k m (fun i h => A i h ∧ h ≠ h0) F + cN (fun h => ind (h = h0)) m := by
              unfold nb
              rw [← cN_add]
              refine cN_le (fun h _ => ?_)
              show ind (met k A F h) ≤ ind (met k (fun i h => A i h ∧ h ≠ h0) F h) + ind (h = h0)
              by_cases e : h = h0
              · rw [ind_1 e]
                have b1 := (ind_b (met k A F h)).2
                have b2 := (ind_b (met k (fun i h => A i h ∧ h ≠ h0) F h)).1
                omega
              · rw [ind_0 e, ind_cg (show met k A F h ↔ met k (fun i h => A i h ∧ h ≠ h0) F h from ⟨fun ⟨i, a1, a2, a3⟩ => ⟨i, a1, a2, a3, e⟩, fun ⟨i, a1, a2, a3⟩ => ⟨i, a1, a2, a3.1⟩⟩)]
                omega
            have c3 : ∀ n : Nat, cN (fun h => ind (h = h0)) n ≤ 1 := fun n => by
              induction n with
              | zero =>
                show (0 : Int) ≤ 1
                decide
              | succ n ih =>
                show cN (fun h => ind (h = h0)) n + ind (n = h0) ≤ 1
                by_cases e : n = h0
                · rw [cN_z (f := fun h => ind (h = h0)) (n := n) (fun i hi => ind_0 (by omega)), ind_1 e]
                  decide
                · rw [ind_0 e]
                  omega
            have c4 := c3 m
            omega
          · have z : crd k F = 0 := cN_z (fun i hi => ind_0 (fun q => fe ⟨i, hi, q⟩))
            rw [z]
            exact (cN_b (fun h _ => ind_b _)).1)
        refine ⟨fun i => if i = i0 then h0 else S i, fun i hi hIi => ?_⟩
        by_cases e : i = i0
        · refine ⟨by show (if i = i0 then h0 else S i) < m ∧ A i (if i = i0 then h0 else S i); rw [if_pos e]; exact ⟨l0, by rw [e]; exact a0⟩, fun j hj hIj hij => ?_⟩
          show (if i = i0 then h0 else S i) ≠ if j = i0 then h0 else S j
          rw [if_pos e, if_neg (fun q => hij (e.trans q.symm))]
          exact fun q => (s j hj ⟨hIj, fun q => hij (e.trans q.symm)⟩).1.2.2 q.symm
        · refine ⟨by show (if i = i0 then h0 else S i) < m ∧ A i (if i = i0 then h0 else S i); rw [if_neg e]; exact ⟨(s i hi ⟨hIi, e⟩).1.1, (s i hi ⟨hIi, e⟩).1.2.1⟩, fun j hj hIj hij => ?_⟩
          show (if i = i0 then h0 else S i) ≠ if j = i0 then h0 else S j
          rw [if_neg e]
          by_cases f : j = i0
          · rw [if_pos f]
            exact (s i hi ⟨hIi, e⟩).1.2.2
          · rw [if_neg f]
            exact (s i hi ⟨hIi, e⟩).2 j hj ⟨hIj, f⟩ hij
    · exact ⟨fun _ => 0, fun i hi hIi => absurd ⟨i, hi, hIi⟩ he⟩
/-- the other way -/
theorem sdr_hall {A : Nat → Nat → Prop} {I : Nat → Prop} {S : Nat → Nat} (h : sdr k m A I S) : hall k m A I := by
  intro G hG
  have key : ∀ n : Nat, n ≤ k → cN (fun i => ind (G i)) n ≤ cN (fun h => ind (∃ i : Nat, i < n ∧ G i ∧ S i = h)) m := fun n => by
    induction n with
    | zero =>
      intro _
      show (0 : Int) ≤ _
      exact (cN_b (fun h _ => ind_b _)).1
    | succ n ih =>
      intro hn
      have q := ih (by omega)
      show cN (fun i => ind (G i)) n + ind (G n) ≤ _
      by_cases g : G n
      · rw [ind_1 g]
        obtain ⟨⟨b1, b2⟩, b3⟩ := h n (by omega) (hG n g)
        have lt : cN (fun h => ind (∃ i : Nat, i < n ∧ G i ∧ S i = h)) m < cN (fun h => ind (∃ i : Nat, i < n + 1 ∧ G i ∧ S i = h)) m := by
          refine cN_lt (j := S n) (fun x _ => ind_le (fun ⟨i, a1, a2, a3⟩ => ⟨i, by omega, a2, a3⟩)) b1 ?_
          show ind (∃ i : Nat, i < n ∧ G i ∧ S i = S n) < ind (∃ i : Nat, i < n + 1 ∧ G i ∧ S i = S n)
          rw [ind_0 (fun ⟨i, a1, a2, a3⟩ => b3 i (by omega) (hG i a2) (by omega) a3.symm), ind_1 ⟨n, by omega, g, rfl⟩]
          decide
        omega
      · rw [ind_0 g]
        have le : cN (fun h => ind (∃ i : Nat, i < n ∧ G i ∧ S i = h)) m ≤ cN (fun h => ind (∃ i : Nat, i < n + 1 ∧ G i ∧ S i = h)) m := cN_le (fun x _ => ind_le (fun ⟨i, a1, a2, a3⟩ => ⟨i, by omega, a2, a3⟩))
        omega
  refine Int.le_trans (key k (Nat.le_refl k)) (cN_le (fun x _ => ind_le (fun ⟨i, a1, a2, a3⟩ => ⟨i, a1, a2, ?_⟩)))
  rw [← a3]
  exact (h i a1 (hG i a2)).1.2
end HAL
