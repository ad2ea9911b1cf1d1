
theorem cN_ex2 {P : Nat → Prop} : ∀ {n : Nat}, 2 ≤ cN (fun i => ind (P i)) n → ∃ i j : Nat, (i < j ∧ j < n) ∧ P i ∧ P j
  | 0, h => absurd h (by show ¬ (2 : Int) ≤ 0; decide)
  | n + 1, h => by
    have e : cN (fun i => ind (P i)) (n + 1) = cN (fun i => ind (P i)) n + ind (P n) := rfl
    by_cases q : P n
    · rw [ind_1 q] at e
      obtain ⟨i, i1, i2⟩ := cN_ex (P := P) (n := n) (by omega)
      exact ⟨i, n, ⟨i1, by omega⟩, i2, q⟩
    · rw [ind_0 q] at e
      obtain ⟨i, j, ⟨h1, h2⟩, h3⟩ := cN_ex2 (P := P) (n := n) (by omega)
      exact ⟨i, j, ⟨h1, by omega⟩, h3⟩
theorem dj_3 : ∀ p q r : Fin 6, ¬ ((((st_l p.val).toInt ≠ (st_l q.val).toInt ∧ (st_l p.val).toInt ≠ (st_o q.val).toInt) ∧ (st_o p.val).toInt ≠ (st_l q.val).toInt ∧ (st_o p.val).toInt ≠ (st_o q.val).toInt) ∧ (((st_l p.val).toInt ≠ (st_l r.val).toInt ∧ (st_l p.val).toInt ≠ (st_o r.val).toInt) ∧ (st_o p.val).toInt ≠ (st_l r.val).toInt ∧ (st_o p.val).toInt ≠ (st_o r.val).toInt) ∧ (((st_l q.val).toInt ≠ (st_l r.val).toInt ∧ (st_l q.val).toInt ≠ (st_o r.val).toInt) ∧ (st_o q.val).toInt ≠ (st_l r.val).toInt ∧ (st_o q.val).toInt ≠ (st_o r.val).toInt)) := by decide +kernel
/-- however many rooms: min(rooms, mediators / 2) bars nothing more -/
theorem seat_ok2 {fit : Nat → Nat → Prop} {rm md : Int} {S : Nat → Nat} {k : Nat} (hfit : ∀ i p : Nat, i ≤ k → fit i p → p < 6 → (st_o p).toInt < md) (hS : ∀ i : Nat, i < k → FEr fit rm S i) (h : FEr fit rm S k) (hk : S k < 18) : cN (fun i => ind (onD S (S k / 6) i)) k < (if rm < md / 2 then rm else md / 2) := by
  rcases h with h | ⟨h1, h2, h3⟩
  · omega
  have m1 := hfit _ _ (Nat.le_refl k) h1.2 (by omega)
  have m2 := st_1 ⟨S k % 6, by omega⟩
  have m2 : 1 ≤ (st_o (S k % 6)).toInt := m2
  have b := (cN_b (f := fun i => ind (onD S (S k / 6) i)) (n := k) (fun i _ => ind_b _)).1
  split
  · exact h3
  · by_cases e2 : 2 ≤ cN (fun i => ind (onD S (S k / 6) i)) k
    · exfalso
      obtain ⟨i, j, ⟨i1, i2⟩, i3, i4⟩ := cN_ex2 (P := onD S (S k / 6)) e2
      have d1 := h2 i (by omega) i3
      have d2 := h2 j i2 i4
      rcases hS j i2 with q | ⟨-, q, -⟩
      · have := i4.1
        omega
      · have d3 := q i i1 (by rw [i4.2]; exact i3)
        exact dj_3 ⟨S i % 6, by omega⟩ ⟨S j % 6, by omega⟩ ⟨S k % 6, by omega⟩ ⟨d3, d1, d2⟩
    · by_cases e : cN (fun i => ind (onD S (S k / 6) i)) k = 0
      · omega
      · obtain ⟨i, i1, i2⟩ := cN_ex (P := onD S (S k / 6)) (n := k) (by omega)
        have d := h2 i i1 i2
        have fi : fit i (S i % 6) := by
          rcases hS i i1 with q | q
          · have := i2.1
            omega
          · exact q.1.2
        have m3 := hfit _ _ (by omega) fi (by omega)
        have q := dj_4 ⟨S i % 6, by omega⟩ ⟨S k % 6, by omega⟩ d
        have q : (st_o (S i % 6)).toInt = 3 ∨ (st_o (S k % 6)).toInt = 3 := q
        omega
theorem pln_tr {fit fit2 : Nat → Nat → Prop} {rm md sa : Int} {m : Nat} (hsa : sa = if rm < md / 2 then rm else md / 2) (hf : ∀ k p : Nat, k < m → p < 6 → (fit k p ↔ fit2 k p)) (hfit : ∀ k p : Nat, k < m → fit2 k p → p < 6 → (st_o p).toInt < md) (S : Nat → Nat) : pln (FEr fit sa) m S ↔ pln (FEr fit2 rm) m S := by
  constructor
  · intro h k hk
    rcases h k hk with q | ⟨⟨q1, q2⟩, q3, q4⟩
    · exact Or.inl q
    · refine Or.inr ⟨⟨q1, (hf k _ hk (by omega)).mp q2⟩, q3, ?_⟩
      rw [hsa] at q4
      split at q4 <;> omega
  · intro h k hk
    rcases h k hk with q | ⟨⟨q1, q2⟩, q3, q4⟩
    · exact Or.inl q
    · refine Or.inr ⟨⟨q1, (hf k _ hk (by omega)).mpr q2⟩, q3, ?_⟩
      rw [hsa]
      exact seat_ok2 (fun i p hi => hfit i p (by omega)) (fun i hi => h i (by omega)) (h k hk) q1
theorem BST_tr {FE FE2 : (Nat → Nat) → Nat → Prop} {m : Nat} {w w2 : Nat → Int} {B : Nat → Nat} {L : Int} (hp : ∀ S : Nat → Nat, pln FE m S ↔ pln FE2 m S) (hw : ∀ k : Nat, k < m → w k = w2 k) (h : BST FE m w B L) : BST FE2 m w2 B L := by
  have eW : ∀ S : Nat → Nat, Wt w S m = Wt w2 S m := fun S => cN_cg (fun i hi => by show w i * cst (S i) = w2 i * cst (S i); rw [hw i hi])
  refine ⟨⟨(hp B).mp h.1.1, (eW B).symm.trans h.1.2⟩, fun S hS => ?_⟩
  have k := h.2 S ((hp S).mpr hS)
  rw [eW S] at k
  exact k

theorem gth_inj {op : Nat → Prop} {n : Nat} {K : Int} {num : Nat → Int} (h : gth op n K num) {k j : Nat} (hk : (k : Int) < K) (hj : (j : Int) < K) (e : num k = num j) : k = j := by
  obtain ⟨c, ⟨a1, a2⟩, a3, a4⟩ := h.2 k hk
  obtain ⟨d, ⟨b1, b2⟩, b3, b4⟩ := h.2 j hj
  have ec : c = d := by omega
  rw [ec] at a4
  omega
section PLQ
variable {n : Int32} {v u v2 u2 : Nat → Nat → Int32}
theorem RR3_W (h : RR3 n v v2) (hQ : Ir v2) : ∀ c : Nat, c < (v 13 2).toNatClampNeg → 1 ≤ (v (29 + 15 * c) 3).toInt ∧ (v (29 + 15 * c) 3).toInt ≤ 9 := fun c hc => by
  have e2 : v 13 2 = v2 1 2 := h.1.1.1 _ _ _ (lk_a (by decide))
  have hb := hQ 1 2 6 (by decide)
  have z := t_nn (x := v2 1 2) hb.1
  rw [e2] at hc
  have e3 : v (29 + 15 * c) 3 = v2 1 (37 + 7 * c) := h.1.1.1 _ _ _ (lk_c3 (by omega) (by omega))
  rw [e3]
  exact (h.2.1 c (by omega) (by omega)).2.1
theorem RO_W (h : RO (v2 1)) (hQ : Ir v2) : ∀ c : Nat, c < (v2 1 2).toNatClampNeg → 1 ≤ (v2 1 (37 + 7 * c)).toInt ∧ (v2 1 (37 + 7 * c)).toInt ≤ 9 := fun c hc => by
  have hb := hQ 1 2 6 (by decide)
  have z := t_nn (x := v2 1 2) hb.1
  exact (h c (by omega) (by omega)).2.1
theorem PL_eq (hQ : Ir v2) (h3 : RR3 n v v2) (p : PL9 v u (v 0 4).toInt) (q : RP9 v2 u2) (f : Fq v2 u2) : ((u 1 1).toInt = (u2 0 5).toInt ∧ ∀ k : Nat, (k : Int) < (u 1 1).toInt → (u 2 k).toInt = (u2 4 k).toInt) ∧ plL u = (u2 0 9).toInt ∧ ∀ k : Nat, (k : Int) < (u 1 1).toInt → (u 7 k).toInt = (u2 6 k).toInt := by
  have h := h3.1
  have e1 : v 13 1 = v2 1 1 := h.1.1 _ _ _ (lk_a (by decide))
  have e2 : v 13 2 = v2 1 2 := h.1.1 _ _ _ (lk_a (by decide))
  have e4 : v 0 4 = v2 0 3 := h.2.1
  have hb0 := hQ 1 0 8 (by decide)
  have hb1 := hQ 1 1 4 (by decide)
  have hb2 := hQ 1 2 6 (by decide)
  have zn := t_nn (x := v2 1 2) hb2.1
  obtain ⟨-, ⟨p1, p2⟩, p3, p4, p5⟩ := p
  obtain ⟨q1, q2, q3⟩ := q
  rw [e2] at p1
  have eo : ∀ c : Nat, c < (v2 1 2).toNatClampNeg → ((v (29 + 15 * c) 0).toInt = 0 ↔ (v2 1 (34 + 7 * c)).toInt = 0) := fun c hc => by
    have e : v (29 + 15 * c) 0 = v2 1 (34 + 7 * c) := h.1.1 _ _ _ (lk_c0 (by omega) (by omega))
    rw [e]
  obtain ⟨hK, hN⟩ := gth_un eo p1 q1
  have hN : ∀ k : Nat, (k : Int) < (u 1 1).toInt → (u 2 k).toInt = (u2 4 k).toInt := hN
  have hK0 : 0 ≤ (u 1 1).toInt := by
    rw [p1.1]
    have b := (cN_b (f := fun c => ind ((v (29 + 15 * c) 0).toInt = 0)) (n := (v2 1 2).toNatClampNeg) (fun i _ => ind_b _)).1
    split <;> omega
  have zu := t_nn (x := u 1 1) hK0
  have zu2 := t_nn (x := u2 0 5) (by omega)
  have em : plm u = (u2 0 5).toNatClampNeg := by
    show (u 1 1).toNatClampNeg = _
    omega
  have hc : ∀ k : Nat, k < (u2 0 5).toNatClampNeg → ∃ c : Nat, (c < 6 ∧ (c : Int) < (v2 1 2).toInt) ∧ (u 2 k).toInt = (c : Int) ∧ (u2 4 k).toNatClampNeg = c := fun k hk => by
    obtain ⟨c, ⟨a1, a2⟩, -⟩ := p1.2 k (by omega)
    have a1 : (u 2 k).toInt = (c : Int) := a1
    have a4 := hN k (by omega)
    have z := t_nn (x := u2 4 k) (by omega)
    exact ⟨c, ⟨by omega, by omega⟩, a1, by omega⟩
  have hw : ∀ k : Nat, k < (u2 0 5).toNatClampNeg → plW u k = (fun k => (u2 1 (37 + 7 * (u2 4 k).toNatClampNeg)).toInt) k := fun k hk => by
    obtain ⟨c, ⟨c1, c2⟩, c3, c4⟩ := hc k hk
    have a : u 3 k = v (29 + 15 * c) 3 := (p2 k (by omega) c c3).1
    have e : v (29 + 15 * c) 3 = v2 1 (37 + 7 * c) := h.1.1 _ _ _ (lk_c3 c1 c2)
    show (u 3 k).toInt = (u2 1 (37 + 7 * (u2 4 k).toNatClampNeg)).toInt
    rw [c4, f.1, a, e]
  have hf : ∀ k p : Nat, k < (u2 0 5).toNatClampNeg → p < 6 → ((fun k p => bt (u 4 k) p) k p ↔ (fun k p => ((st_o p).toInt < (u2 1 1).toInt ∧ fit (u2 1 (21 + 2 * (st_l p).toNatClampNeg)) (u2 1 (21 + 2 * (st_o p).toNatClampNeg)) (u2 1 (28 + (st_l p).toNatClampNeg)) (u2 1 (20 + 2 * (st_l p).toNatClampNeg)) (u2 1 (28 + (st_o p).toNatClampNeg)) (u2 1 (20 + 2 * (st_o p).toNatClampNeg)) (u2 1 (32 + 7 * (u2 4 k).toNatClampNeg)) (u2 1 (5 + 2 * (u2 1 (32 + 7 * (u2 4 k).toNatClampNeg)).toNatClampNeg)) (u2 1 (4 + 2 * (u2 1 (32 + 7 * (u2 4 k).toNatClampNeg)).toNatClampNeg)) (u2 1 (33 + 7 * (u2 4 k).toNatClampNeg)) (u2 1 (5 + 2 * (u2 1 (33 + 7 * (u2 4 k).toNatClampNeg)).toNatClampNeg)) (u2 1 (4 + 2 * (u2 1 (33 + 7 * (u2 4 k).toNatClampNeg)).toNatClampNeg)))) k p) := fun k p hk hp => by
    obtain ⟨c, ⟨c1, c2⟩, c3, c4⟩ := hc k hk
    have a : bt (u 4 k) p ↔ ((st_o p).toInt < (v 13 1).toInt ∧ fit (v (25 + (st_l p).toNatClampNeg) 1) (v (25 + (st_o p).toNatClampNeg) 1) (v (25 + (st_l p).toNatClampNeg) 2) (v (25 + (st_l p).toNatClampNeg) 0) (v (25 + (st_o p).toNatClampNeg) 2) (v (25 + (st_o p).toNatClampNeg) 0) (v (30 + 15 * c) 0) (v (17 + (v (30 + 15 * c) 0).toNatClampNeg) 1) (v (17 + (v (30 + 15 * c) 0).toNatClampNeg) 0) (v (30 + 15 * c) 1) (v (17 + (v (30 + 15 * c) 1).toNatClampNeg) 1) (v (17 + (v (30 + 15 * c) 1).toNatClampNeg) 0)) := (p2 k (by omega) c c3).2.2 p hp
    refine a.trans ?_
    show ((st_o p).toInt < (v 13 1).toInt ∧ fit (v (25 + (st_l p).toNatClampNeg) 1) (v (25 + (st_o p).toNatClampNeg) 1) (v (25 + (st_l p).toNatClampNeg) 2) (v (25 + (st_l p).toNatClampNeg) 0) (v (25 + (st_o p).toNatClampNeg) 2) (v (25 + (st_o p).toNatClampNeg) 0) (v (30 + 15 * c) 0) (v (17 + (v (30 + 15 * c) 0).toNatClampNeg) 1) (v (17 + (v (30 + 15 * c) 0).toNatClampNeg) 0) (v (30 + 15 * c) 1) (v (17 + (v (30 + 15 * c) 1).toNatClampNeg) 1) (v (17 + (v (30 + 15 * c) 1).toNatClampNeg) 0)) ↔ ((st_o p).toInt < (u2 1 1).toInt ∧ fit (u2 1 (21 + 2 * (st_l p).toNatClampNeg)) (u2 1 (21 + 2 * (st_o p).toNatClampNeg)) (u2 1 (28 + (st_l p).toNatClampNeg)) (u2 1 (20 + 2 * (st_l p).toNatClampNeg)) (u2 1 (28 + (st_o p).toNatClampNeg)) (u2 1 (20 + 2 * (st_o p).toNatClampNeg)) (u2 1 (32 + 7 * (u2 4 k).toNatClampNeg)) (u2 1 (5 + 2 * (u2 1 (32 + 7 * (u2 4 k).toNatClampNeg)).toNatClampNeg)) (u2 1 (4 + 2 * (u2 1 (32 + 7 * (u2 4 k).toNatClampNeg)).toNatClampNeg)) (u2 1 (33 + 7 * (u2 4 k).toNatClampNeg)) (u2 1 (5 + 2 * (u2 1 (33 + 7 * (u2 4 k).toNatClampNeg)).toNatClampNeg)) (u2 1 (4 + 2 * (u2 1 (33 + 7 * (u2 4 k).toNatClampNeg)).toNatClampNeg)))
    rw [c4, f.1, e1]
    have sb := st_b p
    have lo : (st_l p).toInt < (st_o p).toInt := st_lo ⟨p, hp⟩
    have zl := t_nn (x := st_l p) (by omega)
    have zo := t_nn (x := st_o p) (by omega)
    constructor
    · rintro ⟨b1, b2⟩
      exact ⟨b1, (fit_rel (s := v2 1) h.1.1 hb1.2 hb0.2 c1 c2 (h3.2.1 _ c1 c2).1 (A := (st_l p).toNatClampNeg) (B := (st_o p).toNatClampNeg) (by omega) (by omega)).mp b2⟩
    · rintro ⟨b1, b2⟩
      exact ⟨b1, (fit_rel (s := v2 1) h.1.1 hb1.2 hb0.2 c1 c2 (h3.2.1 _ c1 c2).1 (A := (st_l p).toNatClampNeg) (B := (st_o p).toNatClampNeg) (by omega) (by omega)).mpr b2⟩
  rw [em] at p4
  rw [e1, e4, ← f.2.2.2] at p3
  have b1 := BST_tr (pln_tr (md := (v2 1 1).toInt) p3 hf (fun k p _ hq _ => by have z := hq.1; rw [f.1] at z; exact z)) hw p4
  obtain ⟨g1, g2⟩ := BST_un b1 q2
  refine ⟨⟨hK, hN⟩, g1, fun k hk => ?_⟩
  have a : (u 7 k).toNatClampNeg = (u2 6 k).toNatClampNeg := g2 k (by omega)
  have b := t_nn (x := u 7 k) (p5 k (by show k < (u 1 1).toNatClampNeg; omega))
  have d := t_nn (x := u2 6 k) (q3 k (by omega))
  omega
end PLQ

set_option maxHeartbeats 4000000 in
theorem S_waits {n r r2 : Int32} {v u v2 u2 : Nat → Nat → Int32} (hI : Iv v) (hQ : Ir v2) (h3 : RR3 n v v2) (p : Fz v u ∧ PL9 v u (v 0 4).toInt ∧ r.toInt = plL u) (q : Fq v2 u2 ∧ RP9 v2 u2 ∧ r2 = u2 0 9) : r = r2 ∧ RR3 n u u2 := by
  have h := h3.1
  have e0 : v 13 0 = v2 1 0 := h.1.1 _ _ _ (lk_a (by decide))
  have e1 : v 13 1 = v2 1 1 := h.1.1 _ _ _ (lk_a (by decide))
  have e2 : v 13 2 = v2 1 2 := h.1.1 _ _ _ (lk_a (by decide))
  have e3 : v 13 3 = v2 1 3 := h.1.1 _ _ _ (lk_a (by decide))
  have hb0 := hQ 1 0 8 (by decide)
  have hb1 := hQ 1 1 4 (by decide)
  have hb2 := hQ 1 2 6 (by decide)
  have hb3 := hQ 1 3 6 (by decide)
  obtain ⟨p1, p2, p3⟩ := p
  obtain ⟨q1, q2, q3⟩ := q
  have k := PL_eq hQ h3 p2 q2 q1
  refine ⟨Int32.toInt_inj.mp ?_, h3.mv p1 q1⟩
  rw [q3, p3]
  exact k.2.1

set_option maxHeartbeats 4000000 in
theorem S_plan {n r r2 x0 : Int32} {v u v2 u2 : Nat → Nat → Int32} (hI : Iv v) (hQ : Ir v2) (h3 : RR3 n v v2) (p : (¬ (0 ≤ x0.toInt ∧ x0.toInt < (v 13 2).toInt) → (r = -1) ∧ Fz v u) ∧ ((0 ≤ x0.toInt ∧ x0.toInt < (v 13 2).toInt) ∧ (v (29 + 15 * x0.toNatClampNeg) 0).toInt ≠ 0 → (r = -4) ∧ Fz v u) ∧ ((0 ≤ x0.toInt ∧ x0.toInt < (v 13 2).toInt) ∧ (v (29 + 15 * x0.toNatClampNeg) 0).toInt = 0 → (PL9 v u (v 0 4).toInt ∧ ((∃ k : Nat, ((k : Int) < (u 1 1).toInt ∧ (u 2 k).toInt = x0.toInt) ∧ r = u 7 k ∧ (u 7 k).toInt ≠ 18) ∨ (r = -5 ∧ ∀ k : Nat, (k : Int) < (u 1 1).toInt → (u 2 k).toInt = x0.toInt → (u 7 k).toInt = 18))) ∧ Fz v u)) (q : (¬ (0 ≤ x0.toInt ∧ x0.toInt < (v2 1 2).toInt) → (r2 = -1) ∧ Fq v2 u2) ∧ ((0 ≤ x0.toInt ∧ x0.toInt < (v2 1 2).toInt) ∧ (v2 1 (34 + 7 * x0.toNatClampNeg)).toInt ≠ 0 → (r2 = -4) ∧ Fq v2 u2) ∧ ((0 ≤ x0.toInt ∧ x0.toInt < (v2 1 2).toInt) ∧ (v2 1 (34 + 7 * x0.toNatClampNeg)).toInt = 0 → (RP9 v2 u2 ∧ ((∃ k : Nat, ((k : Int) < (u2 0 5).toInt ∧ (u2 4 k).toInt = x0.toInt) ∧ r2 = u2 6 k ∧ (u2 6 k).toInt ≠ 18) ∨ (r2 = -5 ∧ ∀ k : Nat, (k : Int) < (u2 0 5).toInt → (u2 4 k).toInt = x0.toInt → (u2 6 k).toInt = 18))) ∧ Fq v2 u2)) : r = r2 ∧ RR3 n u u2 := by
  have h := h3.1
  have e0 : v 13 0 = v2 1 0 := h.1.1 _ _ _ (lk_a (by decide))
  have e1 : v 13 1 = v2 1 1 := h.1.1 _ _ _ (lk_a (by decide))
  have e2 : v 13 2 = v2 1 2 := h.1.1 _ _ _ (lk_a (by decide))
  have e3 : v 13 3 = v2 1 3 := h.1.1 _ _ _ (lk_a (by decide))
  have hb0 := hQ 1 0 8 (by decide)
  have hb1 := hQ 1 1 4 (by decide)
  have hb2 := hQ 1 2 6 (by decide)
  have hb3 := hQ 1 3 6 (by decide)
  rw [e2] at p
  by_cases hC : (0 ≤ x0.toInt ∧ x0.toInt < (v2 1 2).toInt)
  · have zX := t_nn (x := x0) (by omega)
    have hX : x0.toNatClampNeg < 6 := by omega
    have ha : (x0.toNatClampNeg : Int) < (v2 1 2).toInt := by omega
    have ev : v (29 + 15 * x0.toNatClampNeg) 0 = v2 1 (34 + 7 * x0.toNatClampNeg) := h.1.1 _ _ _ (lk_c0 hX ha)
    rw [ev] at p
    by_cases hs : (v2 1 (34 + 7 * x0.toNatClampNeg)).toInt = 0
    · obtain ⟨⟨p0, p1⟩, p2⟩ := p.2.2 ⟨hC, hs⟩
      obtain ⟨⟨q0, q1⟩, q2⟩ := q.2.2 ⟨hC, hs⟩
      have k := PL_eq hQ h3 p0 q0 q2
      refine ⟨Int32.toInt_inj.mp ?_, h3.mv p2 q2⟩
      rcases p1 with ⟨i, ⟨a1, a2⟩, a3, a4⟩ | ⟨a1, a2⟩
      · have b0 := k.1.2 i a1
        have b7 := k.2.2 i a1
        rcases q1 with ⟨j, ⟨d1, d2⟩, d3, d4⟩ | ⟨d1, d2⟩
        · have ij : i = j := gth_inj q0.1 (by omega) d1 (by show (u2 4 i).toInt = (u2 4 j).toInt; omega)
          rw [a3, d3, ← ij]
          exact b7
        · have z := d2 i (by omega) (by omega)
          omega
      · rcases q1 with ⟨j, ⟨d1, d2⟩, d3, d4⟩ | ⟨d1, d2⟩
        · have b0 := k.1.2 j (by omega)
          have b7 := k.2.2 j (by omega)
          have z := a2 j (by omega) (by omega)
          omega
        · rw [a1, d1]
    · obtain ⟨p1, p2⟩ := p.2.1 ⟨hC, hs⟩
      obtain ⟨q1, q2⟩ := q.2.1 ⟨hC, hs⟩
      exact ⟨by rw [p1, q1], h3.mv p2 q2⟩
  · obtain ⟨p1, p2⟩ := p.1 hC
    obtain ⟨q1, q2⟩ := q.1 hC
    exact ⟨by rw [p1, q1], h3.mv p2 q2⟩
