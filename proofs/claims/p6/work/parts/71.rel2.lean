
theorem bS_c {c w : Nat} (hc : c < 6) (hw : w = 36 ∨ w = 38) : bS (w + 7 * c) = some 5 := by
  unfold bS
  repeat' split
  all_goals first | rfl | (exfalso; omega)
/-- a number in the box -/
def bxr (a b : Int32) : Prop := (a.toInt = -1 ∧ b.toInt < 0) ∨ (0 ≤ b.toInt ∧ b.toInt ≤ 100 ∧ a = b)
def XC (sm b0 b1 st s5 t0 t1 : Int32) : Prop := (st.toInt = 0 ∨ st.toInt = 1 ∨ st.toInt = 2) ∧ (st.toInt = 1 → sm = s5) ∧ (st.toInt ≠ 1 → s5 = -5) ∧ (st.toInt = 0 → bxr b0 t0 ∧ bxr b1 t1)
/-- state, sum and box of the cases -/
def RX (B : Nat) (v : Nat → Nat → Int32) (s : Nat → Int32) : Prop := ∀ c : Nat, c < 6 → (c : Int) < (s 2).toInt → XC (v (B + 16 + 15 * c) 1) (v (B + 18 + 15 * c) 0) (v (B + 18 + 15 * c) 1) (s (34 + 7 * c)) (s (35 + 7 * c)) (s (74 + 2 * c)) (s (75 + 2 * c))
theorem RX.cg {B : Nat} {v u : Nat → Nat → Int32} {s z : Nat → Int32} (h : RX B v s) (e2 : (z 2).toInt = (s 2).toInt) (eu : ∀ c : Nat, c < 6 → u (B + 16 + 15 * c) 1 = v (B + 16 + 15 * c) 1 ∧ u (B + 18 + 15 * c) 0 = v (B + 18 + 15 * c) 0 ∧ u (B + 18 + 15 * c) 1 = v (B + 18 + 15 * c) 1) (es : ∀ c : Nat, c < 6 → z (34 + 7 * c) = s (34 + 7 * c) ∧ z (35 + 7 * c) = s (35 + 7 * c) ∧ z (74 + 2 * c) = s (74 + 2 * c) ∧ z (75 + 2 * c) = s (75 + 2 * c)) : RX B u z := by
  intro c hc ha
  obtain ⟨a1, a2, a3⟩ := eu c hc
  obtain ⟨b1, b2, b3, b4⟩ := es c hc
  rw [a1, a2, a3, b1, b2, b3, b4]
  exact h c hc (by omega)
/-- the bits of kin reach no further than the parties -/
def KB (p x : Int32) : Prop := 0 ≤ x.toInt ∧ x.toNatClampNeg < 2 ^ p.toNatClampNeg
def RK (s : Nat → Int32) : Prop := ∀ m : Nat, m < 4 → (m : Int) < (s 1).toInt → KB (s 0) (s (28 + m))
theorem RK.cg {s z : Nat → Int32} (h : RK s) (e0 : z 0 = s 0) (e1 : (z 1).toInt = (s 1).toInt) (ek : ∀ m : Nat, m < 4 → z (28 + m) = s (28 + m)) : RK z := by
  intro m hm ha
  rw [e0, ek m hm]
  exact h m hm (by omega)
/-- mark k joins the cases a and b -/
def mj (s : Nat → Int32) (k a b : Nat) : Prop := ((s (146 + 2 * k)).toInt = (a : Int) ∧ (s (147 + 2 * k)).toInt = (b : Int)) ∨ ((s (146 + 2 * k)).toInt = (b : Int) ∧ (s (147 + 2 * k)).toInt = (a : Int))
def GC (x : Int32) (s : Nat → Int32) (c : Nat) : Prop := (0 ≤ x.toInt ∧ x.toInt < 64) ∧ ∀ d : Nat, d < 6 → ((btx x (Int32.ofNat d)).toInt = 1 ↔ ∃ k : Nat, (k : Int) < (s 3).toInt ∧ mj s k c d)
/-- the marks -/
def RG (B : Nat) (v : Nat → Nat → Int32) (s : Nat → Int32) : Prop := (∀ c : Nat, c < 6 → (c : Int) < (s 2).toInt → GC (v (B + 16 + 15 * c) 4) s c) ∧ (∀ k : Nat, (k : Int) < (s 3).toInt → (0 ≤ (s (146 + 2 * k)).toInt ∧ (s (146 + 2 * k)).toInt < (s 2).toInt) ∧ 0 ≤ (s (147 + 2 * k)).toInt ∧ (s (147 + 2 * k)).toInt < (s 2).toInt)
theorem RG.cg {B : Nat} {v u : Nat → Nat → Int32} {s z : Nat → Int32} (h : RG B v s) (h3 : (s 3).toInt ≤ 6) (e2 : (z 2).toInt = (s 2).toInt) (e3 : (z 3).toInt = (s 3).toInt) (em : ∀ n : Nat, 146 ≤ n → n < 158 → z n = s n) (eu : ∀ c : Nat, c < 6 → u (B + 16 + 15 * c) 4 = v (B + 16 + 15 * c) 4) : RG B u z := by
  have key : ∀ k a b : Nat, (k : Int) < (s 3).toInt → (mj z k a b ↔ mj s k a b) := fun k a b hk => by
    unfold mj
    rw [em (146 + 2 * k) (by omega) (by omega), em (147 + 2 * k) (by omega) (by omega)]
  refine ⟨fun c hc ha => ?_, fun k hk => ?_⟩
  · rw [eu c hc]
    obtain ⟨g1, g2⟩ := h.1 c hc (by omega)
    refine ⟨g1, fun d hd => (g2 d hd).trans ⟨fun ⟨k, q1, q2⟩ => ⟨k, by omega, (key k c d q1).mpr q2⟩, fun ⟨k, q1, q2⟩ => ⟨k, by omega, (key k c d (by omega)).mp q2⟩⟩⟩
  · rw [em (146 + 2 * k) (by omega) (by omega), em (147 + 2 * k) (by omega) (by omega), e2]
    exact h.2 k (by omega)
def RQ (B : Nat) (v : Nat → Nat → Int32) (s : Nat → Int32) : Prop := RLk B v s ∧ RX B v s ∧ RK s ∧ RG B v s
/-- class and reference are alike; n: whether something is kept -/
def RR (n : Int32) (v v2 : Nat → Nat → Int32) : Prop := RQ 13 v (v2 1) ∧ v 0 4 = v2 0 3 ∧ v2 0 2 = n ∧ (n = 1 → RQ 119 v (v2 2))
theorem lk_k {B : Nat} {s : Nat → Int32} {k j n : Nat} (h : lk B s k j n) : (B ≤ k ∧ k < B + 106) ∧ n < 596 := by
  unfold lk at h
  rcases h with ⟨rfl, hj, rfl⟩ | ⟨p, hp, ha, hj, rfl, rfl⟩ | ⟨m, hm, ha, hj, rfl, rfl⟩ | ⟨m, hm, ha, rfl, rfl, rfl⟩ | ⟨c, hc, ha, rfl, rfl, rfl⟩ | ⟨c, hc, ha, rfl, rfl, rfl⟩ | ⟨c, hc, ha, rfl, rfl, rfl⟩ | ⟨c, hc, ha, rfl, rfl, rfl⟩ | ⟨c, hc, ha, hj, rfl, rfl⟩ | ⟨c, i, hc, ha, hi, hj, hr, rfl, rfl⟩ | ⟨c, i, hc, ha, hi, hj, rfl, rfl⟩ | ⟨c, t, hc, ha, ht, hr, hj, rfl, rfl⟩
  all_goals omega
theorem RLk.cgv {B : Nat} {v u : Nat → Nat → Int32} {s : Nat → Int32} (e : ∀ k : Nat, B ≤ k → k < B + 106 → u k = v k) (h : RLk B v s) : RLk B u s := fun k j n hl => by
  have q := lk_k hl
  rw [e k q.1.1 q.1.2]
  exact h k j n hl
theorem RQ.cgv {B : Nat} {v u : Nat → Nat → Int32} {s : Nat → Int32} (e : ∀ k : Nat, B ≤ k → k < B + 106 → u k = v k) (h : RQ B v s) : RQ B u s := by
  obtain ⟨h1, h2, h3, h4⟩ := h
  refine ⟨h1.cgv e, fun c hc ha => ?_, h3, fun c hc ha => ?_, h4.2⟩
  · rw [e (B + 16 + 15 * c) (by omega) (by omega), e (B + 18 + 15 * c) (by omega) (by omega)]
    exact h2 c hc ha
  · rw [e (B + 16 + 15 * c) (by omega) (by omega)]
    exact h4.1 c hc ha
section RRS
variable {n : Int32} {v v2 u u2 : Nat → Nat → Int32}
/-- readers -/
theorem RR.mv (h : RR n v v2) (f : Fz v u) (g : Fq v2 u2) : RR n u u2 := by
  obtain ⟨h1, h2, h3, h4⟩ := h
  obtain ⟨g1, g2, g3, g4⟩ := g
  refine ⟨by rw [g1]; exact h1.cgv (fun k hk _ => f.2 k hk), by rw [f.1, g4]; exact h2, by rw [g3]; exact h3, fun q => by rw [g2]; exact (h4 q).cgv (fun k hk _ => f.2 k (by omega))⟩
theorem Fq_e (h : u2 = v2) : Fq v2 u2 := by
  rw [h]
  exact Fq.rf
/-- writers of s alone -/
theorem RR.wr (h : RR n v v2) (ho : ∀ k : Nat, k ≠ 1 → u2 k = v2 k) (h0 : u 0 = v 0) (hk : ∀ k : Nat, 119 ≤ k → u k = v k) (hq : RQ 13 u (u2 1)) : RR n u u2 := by
  obtain ⟨-, h2, h3, h4⟩ := h
  rw [RR, ho 0 (by decide), ho 2 (by decide), h0]
  exact ⟨hq, h2, h3, fun q => (h4 q).cgv (fun k hk2 _ => hk k hk2)⟩
end RRS

set_option maxHeartbeats 4000000 in
theorem T_weight {n r r2 x0 x1 : Int32} {v u v2 u2 : Nat → Nat → Int32} (hI : Iv v) (hQ : Ir v2) (h : RR n v v2) (p : (¬ ((0 ≤ x0.toInt ∧ x0.toInt < (v 13 2).toInt) ∧ 1 ≤ x1.toInt ∧ x1.toInt ≤ 9) → r = -1 ∧ u = v) ∧ ((0 ≤ x0.toInt ∧ x0.toInt < (v 13 2).toInt) ∧ 1 ≤ x1.toInt ∧ x1.toInt ≤ 9 → r = v (29 + 15 * x0.toNatClampNeg) 3 ∧ (∀ k j : Nat, u k j = if k = 29 + 15 * x0.toNatClampNeg ∧ j = 3 then x1 else v k j))) (q : (¬ ((0 ≤ x0.toInt ∧ x0.toInt < (v2 1 2).toInt) ∧ 1 ≤ x1.toInt ∧ x1.toInt ≤ 9) → r2 = -1 ∧ u2 = v2) ∧ ((0 ≤ x0.toInt ∧ x0.toInt < (v2 1 2).toInt) ∧ 1 ≤ x1.toInt ∧ x1.toInt ≤ 9 → r2 = v2 1 (37 + 7 * x0.toNatClampNeg) ∧ (∀ n : Nat, u2 1 n = if n = 37 + 7 * x0.toNatClampNeg then x1 else v2 1 n) ∧ (∀ k : Nat, k ≠ 1 → u2 k = v2 k))) : r = r2 ∧ RR n u u2 := by
  have e0 : v 13 0 = v2 1 0 := h.1.1 _ _ _ (lk_a (by decide))
  have e1 : v 13 1 = v2 1 1 := h.1.1 _ _ _ (lk_a (by decide))
  have e2 : v 13 2 = v2 1 2 := h.1.1 _ _ _ (lk_a (by decide))
  have e3 : v 13 3 = v2 1 3 := h.1.1 _ _ _ (lk_a (by decide))
  have hb0 := hQ 1 0 8 (by decide)
  have hb1 := hQ 1 1 4 (by decide)
  have hb2 := hQ 1 2 6 (by decide)
  have hb3 := hQ 1 3 6 (by decide)
  rw [e2] at p
  by_cases hC : (0 ≤ x0.toInt ∧ x0.toInt < (v2 1 2).toInt) ∧ 1 ≤ x1.toInt ∧ x1.toInt ≤ 9
  · obtain ⟨p1, p2⟩ := p.2 hC
    obtain ⟨q1, q2, q3⟩ := q.2 hC
    have zX := t_nn (x := x0) (by omega)
    have hX : x0.toNatClampNeg < 6 := by omega
    have ha : (x0.toNatClampNeg : Int) < (v2 1 2).toInt := by omega
    refine ⟨?_, h.wr q3 (funext fun j => by rw [p2, if_neg (by omega)]) (fun k hk => funext fun j => by rw [p2, if_neg (by omega)]) ⟨RL_weight hX p2 q2 h.1.1, h.1.2.1.cg (by rw [q2, if_neg (by omega)]) (fun c hc => ⟨by rw [p2, if_neg (by omega)], by rw [p2, if_neg (by omega)], by rw [p2, if_neg (by omega)]⟩) (fun c hc => ⟨by rw [q2, if_neg (by omega)], by rw [q2, if_neg (by omega)], by rw [q2, if_neg (by omega)], by rw [q2, if_neg (by omega)]⟩), h.1.2.2.1.cg (by rw [q2, if_neg (by omega)]) (by rw [q2, if_neg (by omega)]) (fun m hm => by rw [q2, if_neg (by omega)]), h.1.2.2.2.cg hb3.2 (by rw [q2, if_neg (by omega)]) (by rw [q2, if_neg (by omega)]) (fun n h1 h2 => by rw [q2, if_neg (by omega)]) (fun c hc => by rw [p2, if_neg (by omega)])⟩⟩
    rw [p1, q1]
    exact h.1.1 _ _ _ (lk_c3 hX ha)
  · obtain ⟨p1, p2⟩ := p.1 hC
    obtain ⟨q1, q2⟩ := q.1 hC
    rw [p1, q1, p2, q2]
    exact ⟨rfl, h⟩

set_option maxHeartbeats 4000000 in
theorem T_log {n r r2 x0 x1 x2 x3 : Int32} {v u v2 u2 : Nat → Nat → Int32} (hI : Iv v) (hQ : Ir v2) (h : RR n v v2) (p : (¬ ((0 ≤ x0.toInt ∧ x0.toInt < (v 13 2).toInt) ∧ (0 ≤ x1.toInt ∧ x1.toInt ≤ 1) ∧ (0 ≤ x2.toInt ∧ x2.toInt ≤ 23) ∧ 0 ≤ x3.toInt ∧ x3.toInt ≤ 7) → r = -1 ∧ u = v) ∧ ((0 ≤ x0.toInt ∧ x0.toInt < (v 13 2).toInt) ∧ (0 ≤ x1.toInt ∧ x1.toInt ≤ 1) ∧ (0 ≤ x2.toInt ∧ x2.toInt ≤ 23) ∧ 0 ≤ x3.toInt ∧ x3.toInt ≤ 7 → r = v (36 + 15 * x0.toNatClampNeg + x1.toNatClampNeg) x2.toNatClampNeg ∧ (∀ k j : Nat, u k j = if k = 36 + 15 * x0.toNatClampNeg + x1.toNatClampNeg ∧ j = x2.toNatClampNeg then x3 else v k j))) (q : (¬ ((0 ≤ x0.toInt ∧ x0.toInt < (v2 1 2).toInt) ∧ (0 ≤ x1.toInt ∧ x1.toInt ≤ 1) ∧ (0 ≤ x2.toInt ∧ x2.toInt ≤ 23) ∧ 0 ≤ x3.toInt ∧ x3.toInt ≤ 7) → r2 = -1 ∧ u2 = v2) ∧ ((0 ≤ x0.toInt ∧ x0.toInt < (v2 1 2).toInt) ∧ (0 ≤ x1.toInt ∧ x1.toInt ≤ 1) ∧ (0 ≤ x2.toInt ∧ x2.toInt ≤ 23) ∧ 0 ≤ x3.toInt ∧ x3.toInt ≤ 7 → r2 = v2 1 (308 + 48 * x0.toNatClampNeg + 24 * x1.toNatClampNeg + x2.toNatClampNeg) ∧ (∀ n : Nat, u2 1 n = if n = 308 + 48 * x0.toNatClampNeg + 24 * x1.toNatClampNeg + x2.toNatClampNeg then x3 else v2 1 n) ∧ (∀ k : Nat, k ≠ 1 → u2 k = v2 k))) : r = r2 ∧ RR n u u2 := by
  have e0 : v 13 0 = v2 1 0 := h.1.1 _ _ _ (lk_a (by decide))
  have e1 : v 13 1 = v2 1 1 := h.1.1 _ _ _ (lk_a (by decide))
  have e2 : v 13 2 = v2 1 2 := h.1.1 _ _ _ (lk_a (by decide))
  have e3 : v 13 3 = v2 1 3 := h.1.1 _ _ _ (lk_a (by decide))
  have hb0 := hQ 1 0 8 (by decide)
  have hb1 := hQ 1 1 4 (by decide)
  have hb2 := hQ 1 2 6 (by decide)
  have hb3 := hQ 1 3 6 (by decide)
  rw [e2] at p
  by_cases hC : (0 ≤ x0.toInt ∧ x0.toInt < (v2 1 2).toInt) ∧ (0 ≤ x1.toInt ∧ x1.toInt ≤ 1) ∧ (0 ≤ x2.toInt ∧ x2.toInt ≤ 23) ∧ 0 ≤ x3.toInt ∧ x3.toInt ≤ 7
  · obtain ⟨p1, p2⟩ := p.2 hC
    obtain ⟨q1, q2, q3⟩ := q.2 hC
    have zX := t_nn (x := x0) (by omega)
    have hX : x0.toNatClampNeg < 6 := by omega
    have ha : (x0.toNatClampNeg : Int) < (v2 1 2).toInt := by omega
    have zS := t_nn (x := x1) (by omega)
    have hS : x1.toNatClampNeg < 2 := by omega
    have zH := t_nn (x := x2) (by omega)
    have hH : x2.toNatClampNeg < 24 := by omega
    refine ⟨?_, h.wr q3 (funext fun j => by rw [p2, if_neg (by omega)]) (fun k hk => funext fun j => by rw [p2, if_neg (by omega)]) ⟨RL_log hX hS hH p2 q2 h.1.1, h.1.2.1.cg (by rw [q2, if_neg (by omega)]) (fun c hc => ⟨by rw [p2, if_neg (by omega)], by rw [p2, if_neg (by omega)], by rw [p2, if_neg (by omega)]⟩) (fun c hc => ⟨by rw [q2, if_neg (by omega)], by rw [q2, if_neg (by omega)], by rw [q2, if_neg (by omega)], by rw [q2, if_neg (by omega)]⟩), h.1.2.2.1.cg (by rw [q2, if_neg (by omega)]) (by rw [q2, if_neg (by omega)]) (fun m hm => by rw [q2, if_neg (by omega)]), h.1.2.2.2.cg hb3.2 (by rw [q2, if_neg (by omega)]) (by rw [q2, if_neg (by omega)]) (fun n h1 h2 => by rw [q2, if_neg (by omega)]) (fun c hc => by rw [p2, if_neg (by omega)])⟩⟩
    rw [p1, q1]
    exact h.1.1 _ _ _ (lk_l hX ha hS hH)
  · obtain ⟨p1, p2⟩ := p.1 hC
    obtain ⟨q1, q2⟩ := q.1 hC
    rw [p1, q1, p2, q2]
    exact ⟨rfl, h⟩

set_option maxHeartbeats 4000000 in
theorem T_strike {n r r2 x0 : Int32} {v u v2 u2 : Nat → Nat → Int32} (hI : Iv v) (hQ : Ir v2) (h : RR n v v2) (p : (¬ (0 ≤ x0.toInt ∧ x0.toInt < (v 13 2).toInt) → r = -1 ∧ u = v) ∧ ((0 ≤ x0.toInt ∧ x0.toInt < (v 13 2).toInt) ∧ (v (29 + 15 * x0.toNatClampNeg) 5).toInt = 0 → r = -5 ∧ u = v) ∧ ((0 ≤ x0.toInt ∧ x0.toInt < (v 13 2).toInt) ∧ (v (29 + 15 * x0.toNatClampNeg) 5).toInt ≠ 0 → r = v (29 + 15 * x0.toNatClampNeg) 5 - 1 ∧ (∀ k j : Nat, u k j = if k = 29 + 15 * x0.toNatClampNeg ∧ j = 5 then v (29 + 15 * x0.toNatClampNeg) 5 - 1 else v k j))) (q : (¬ (0 ≤ x0.toInt ∧ x0.toInt < (v2 1 2).toInt) → r2 = -1 ∧ u2 = v2) ∧ ((0 ≤ x0.toInt ∧ x0.toInt < (v2 1 2).toInt) ∧ (v2 1 (38 + 7 * x0.toNatClampNeg)).toInt = 0 → r2 = -5 ∧ u2 = v2) ∧ ((0 ≤ x0.toInt ∧ x0.toInt < (v2 1 2).toInt) ∧ (v2 1 (38 + 7 * x0.toNatClampNeg)).toInt ≠ 0 → r2 = v2 1 (38 + 7 * x0.toNatClampNeg) - 1 ∧ (∀ n : Nat, u2 1 n = if n = 38 + 7 * x0.toNatClampNeg then v2 1 (38 + 7 * x0.toNatClampNeg) - 1 else v2 1 n) ∧ (∀ k : Nat, k ≠ 1 → u2 k = v2 k))) : r = r2 ∧ RR n u u2 := by
  have e0 : v 13 0 = v2 1 0 := h.1.1 _ _ _ (lk_a (by decide))
  have e1 : v 13 1 = v2 1 1 := h.1.1 _ _ _ (lk_a (by decide))
  have e2 : v 13 2 = v2 1 2 := h.1.1 _ _ _ (lk_a (by decide))
  have e3 : v 13 3 = v2 1 3 := h.1.1 _ _ _ (lk_a (by decide))
  have hb0 := hQ 1 0 8 (by decide)
  have hb1 := hQ 1 1 4 (by decide)
  have hb2 := hQ 1 2 6 (by decide)
  have hb3 := hQ 1 3 6 (by decide)
  rw [e2] at p
  by_cases hC : (0 ≤ x0.toInt ∧ x0.toInt < (v2 1 2).toInt)
  · have zX := t_nn (x := x0) (by omega)
    have hX : x0.toNatClampNeg < 6 := by omega
    have ha : (x0.toNatClampNeg : Int) < (v2 1 2).toInt := by omega
    have ev : v (29 + 15 * x0.toNatClampNeg) 5 = v2 1 (38 + 7 * x0.toNatClampNeg) := h.1.1 _ _ _ (lk_c5 hX ha)
    rw [ev] at p
    by_cases hD : (v2 1 (38 + 7 * x0.toNatClampNeg)).toInt = 0
    · obtain ⟨p1, p2⟩ := p.2.1 ⟨hC, hD⟩
      obtain ⟨q1, q2⟩ := q.2.1 ⟨hC, hD⟩
      rw [p1, q1, p2, q2]
      exact ⟨rfl, h⟩
    · have hE : ¬ (v2 1 (38 + 7 * x0.toNatClampNeg)).toInt = 0 := hD
      obtain ⟨p1, p2⟩ := p.2.2 ⟨hC, hD⟩
      obtain ⟨q1, q2, q3⟩ := q.2.2 ⟨hC, hD⟩
      have hb := hQ 1 (38 + 7 * x0.toNatClampNeg) 5 (bS_c (by omega) (by omega))
      have k1 : (1 : Int32).toInt = 1 := by decide
      have hx : (v2 1 (38 + 7 * x0.toNatClampNeg) - 1).toInt = (v2 1 (38 + 7 * x0.toNatClampNeg)).toInt - 1 := by rw [t_sub (by rw [k1]; omega), k1]
      exact ⟨by rw [p1, q1], h.wr q3 (funext fun j => by rw [p2, if_neg (by omega)]) (fun k hk => funext fun j => by rw [p2, if_neg (by omega)]) ⟨RL_strike hX hx p2 q2 h.1.1, h.1.2.1.cg (by rw [q2, if_neg (by omega)]) (fun c hc => ⟨by rw [p2, if_neg (by omega)], by rw [p2, if_neg (by omega)], by rw [p2, if_neg (by omega)]⟩) (fun c hc => ⟨by rw [q2, if_neg (by omega)], by rw [q2, if_neg (by omega)], by rw [q2, if_neg (by omega)], by rw [q2, if_neg (by omega)]⟩), h.1.2.2.1.cg (by rw [q2, if_neg (by omega)]) (by rw [q2, if_neg (by omega)]) (fun m hm => by rw [q2, if_neg (by omega)]), h.1.2.2.2.cg hb3.2 (by rw [q2, if_neg (by omega)]) (by rw [q2, if_neg (by omega)]) (fun n h1 h2 => by rw [q2, if_neg (by omega)]) (fun c hc => by rw [p2, if_neg (by omega)])⟩⟩
  · obtain ⟨p1, p2⟩ := p.1 hC
    obtain ⟨q1, q2⟩ := q.1 hC
    rw [p1, q1, p2, q2]
    exact ⟨rfl, h⟩

theorem RX_close {v u : Nat → Nat → Int32} {s z : Nat → Int32} {X : Nat} (hX : X < 6) (ha : (X : Int) < (s 2).toInt) (h0 : (s (34 + 7 * X)).toInt = 0) (hu : ∀ k j : Nat, u k j = if k = 29 + 15 * X ∧ j = 0 then 2 else v k j) (hs : ∀ n : Nat, z n = if n = 34 + 7 * X then 2 else s n) (h : RX 13 v s) : RX 13 u z := by
  intro c hc hac
  have a2 : z 2 = s 2 := by rw [hs, if_neg (by omega)]
  have hh := h c hc (by rw [a2] at hac; exact hac)
  have d1 : u (13 + 16 + 15 * c) 1 = v (13 + 16 + 15 * c) 1 := by rw [hu, if_neg (by omega)]
  have d2 : u (13 + 18 + 15 * c) 0 = v (13 + 18 + 15 * c) 0 := by rw [hu, if_neg (by omega)]
  have d3 : u (13 + 18 + 15 * c) 1 = v (13 + 18 + 15 * c) 1 := by rw [hu, if_neg (by omega)]
  have d4 : z (35 + 7 * c) = s (35 + 7 * c) := by rw [hs, if_neg (by omega)]
  have d5 : z (74 + 2 * c) = s (74 + 2 * c) := by rw [hs, if_neg (by omega)]
  have d6 : z (75 + 2 * c) = s (75 + 2 * c) := by rw [hs, if_neg (by omega)]
  rw [d1, d2, d3, d4, d5, d6]
  by_cases hq : c = X
  · subst hq
    have d7 : z (34 + 7 * c) = 2 := by rw [hs, if_pos rfl]
    have k2 : (2 : Int32).toInt = 2 := by decide
    rw [d7]
    obtain ⟨-, -, g3, -⟩ := hh
    exact ⟨by omega, fun q => absurd q (by omega), fun _ => g3 (by omega), fun q => absurd q (by omega)⟩
  · have d7 : z (34 + 7 * c) = s (34 + 7 * c) := by rw [hs, if_neg (by omega)]
    rw [d7]
    exact hh

set_option maxHeartbeats 4000000 in
theorem T_close {n r r2 x0 : Int32} {v u v2 u2 : Nat → Nat → Int32} (hI : Iv v) (hQ : Ir v2) (h : RR n v v2) (p : (¬ (0 ≤ x0.toInt ∧ x0.toInt < (v 13 2).toInt) → r = -1 ∧ u = v) ∧ ((0 ≤ x0.toInt ∧ x0.toInt < (v 13 2).toInt) ∧ (v (29 + 15 * x0.toNatClampNeg) 0).toInt ≠ 0 → r = -4 ∧ u = v) ∧ ((0 ≤ x0.toInt ∧ x0.toInt < (v 13 2).toInt) ∧ (v (29 + 15 * x0.toNatClampNeg) 0).toInt = 0 → r = 1 ∧ (∀ k j : Nat, u k j = if k = 29 + 15 * x0.toNatClampNeg ∧ j = 0 then 2 else v k j))) (q : (¬ (0 ≤ x0.toInt ∧ x0.toInt < (v2 1 2).toInt) → r2 = -1 ∧ u2 = v2) ∧ ((0 ≤ x0.toInt ∧ x0.toInt < (v2 1 2).toInt) ∧ (v2 1 (34 + 7 * x0.toNatClampNeg)).toInt ≠ 0 → r2 = -4 ∧ u2 = v2) ∧ ((0 ≤ x0.toInt ∧ x0.toInt < (v2 1 2).toInt) ∧ (v2 1 (34 + 7 * x0.toNatClampNeg)).toInt = 0 → r2 = 1 ∧ (∀ n : Nat, u2 1 n = if n = 34 + 7 * x0.toNatClampNeg then 2 else v2 1 n) ∧ (∀ k : Nat, k ≠ 1 → u2 k = v2 k))) : r = r2 ∧ RR n u u2 := by
  have e0 : v 13 0 = v2 1 0 := h.1.1 _ _ _ (lk_a (by decide))
  have e1 : v 13 1 = v2 1 1 := h.1.1 _ _ _ (lk_a (by decide))
  have e2 : v 13 2 = v2 1 2 := h.1.1 _ _ _ (lk_a (by decide))
  have e3 : v 13 3 = v2 1 3 := h.1.1 _ _ _ (lk_a (by decide))
  have hb0 := hQ 1 0 8 (by decide)
  have hb1 := hQ 1 1 4 (by decide)
  have hb2 := hQ 1 2 6 (by decide)
  have hb3 := hQ 1 3 6 (by decide)
  rw [e2] at p
  by_cases hC : (0 ≤ x0.toInt ∧ x0.toInt < (v2 1 2).toInt)
  · have zX := t_nn (x := x0) (by omega)
    have hX : x0.toNatClampNeg < 6 := by omega
    have ha : (x0.toNatClampNeg : Int) < (v2 1 2).toInt := by omega
    have ev : v (29 + 15 * x0.toNatClampNeg) 0 = v2 1 (34 + 7 * x0.toNatClampNeg) := h.1.1 _ _ _ (lk_c0 hX ha)
    rw [ev] at p
    by_cases hD : (v2 1 (34 + 7 * x0.toNatClampNeg)).toInt ≠ 0
    · obtain ⟨p1, p2⟩ := p.2.1 ⟨hC, hD⟩
      obtain ⟨q1, q2⟩ := q.2.1 ⟨hC, hD⟩
      rw [p1, q1, p2, q2]
      exact ⟨rfl, h⟩
    · have hE : (v2 1 (34 + 7 * x0.toNatClampNeg)).toInt = 0 := by omega
      obtain ⟨p1, p2⟩ := p.2.2 ⟨hC, hE⟩
      obtain ⟨q1, q2, q3⟩ := q.2.2 ⟨hC, hE⟩
      exact ⟨by rw [p1, q1], h.wr q3 (funext fun j => by rw [p2, if_neg (by omega)]) (fun k hk => funext fun j => by rw [p2, if_neg (by omega)]) ⟨RL_close hX p2 q2 h.1.1, RX_close hX ha hE p2 q2 h.1.2.1, h.1.2.2.1.cg (by rw [q2, if_neg (by omega)]) (by rw [q2, if_neg (by omega)]) (fun m hm => by rw [q2, if_neg (by omega)]), h.1.2.2.2.cg hb3.2 (by rw [q2, if_neg (by omega)]) (by rw [q2, if_neg (by omega)]) (fun n h1 h2 => by rw [q2, if_neg (by omega)]) (fun c hc => by rw [p2, if_neg (by omega)])⟩⟩
  · obtain ⟨p1, p2⟩ := p.1 hC
    obtain ⟨q1, q2⟩ := q.1 hC
    rw [p1, q1, p2, q2]
    exact ⟨rfl, h⟩
