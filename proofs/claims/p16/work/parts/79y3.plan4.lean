
/-- who sits in a pair, as bits -/
def sit (p : Nat) : Int32 := (1 <<< (st_l p &&& 31)) ||| (1 <<< (st_o p &&& 31))
theorem sit_all : ∀ x : Fin 64, ∀ p : Fin 6, ((Int32.ofNat x.val &&& sit p.val = 0) ↔ ∀ a : Fin 6, ((a.val : Int) = (st_l p.val).toInt ∨ (a.val : Int) = (st_o p.val).toInt) → ¬ (btx (Int32.ofNat x.val) (Int32.ofNat a.val)).toInt = 1) ∧ ((Int32.ofNat x.val &&& sit p.val = 0) → (Int32.ofNat x.val ||| sit p.val) ^^^ sit p.val = Int32.ofNat x.val) ∧ (0 ≤ (Int32.ofNat x.val ||| sit p.val).toInt ∧ (Int32.ofNat x.val ||| sit p.val).toInt < 64) ∧ ∀ a : Fin 6, ((btx (Int32.ofNat x.val ||| sit p.val) (Int32.ofNat a.val)).toInt = 1 ↔ ((btx (Int32.ofNat x.val) (Int32.ofNat a.val)).toInt = 1 ∨ (a.val : Int) = (st_l p.val).toInt ∨ (a.val : Int) = (st_o p.val).toInt)) := by decide +kernel
theorem sit_n {x : Int32} (h : ok6 x) {p : Nat} (hp : p < 6) : ((x &&& sit p = 0) ↔ ∀ a : Nat, a < 6 → ((a : Int) = (st_l p).toInt ∨ (a : Int) = (st_o p).toInt) → ¬ bt x a) ∧ ((x &&& sit p = 0) → (x ||| sit p) ^^^ sit p = x) ∧ ok6 (x ||| sit p) ∧ ∀ a : Nat, a < 6 → (bt (x ||| sit p) a ↔ (bt x a ∨ (a : Int) = (st_l p).toInt ∨ (a : Int) = (st_o p).toInt)) := by
  have z := t_nn h.1
  have l := h.2
  have k := sit_all ⟨x.toNatClampNeg, by omega⟩ ⟨p, hp⟩
  have e := ofn h.1
  have k : ((Int32.ofNat x.toNatClampNeg &&& sit p = 0) ↔ ∀ a : Fin 6, ((a.val : Int) = (st_l p).toInt ∨ (a.val : Int) = (st_o p).toInt) → ¬ (btx (Int32.ofNat x.toNatClampNeg) (Int32.ofNat a.val)).toInt = 1) ∧ ((Int32.ofNat x.toNatClampNeg &&& sit p = 0) → (Int32.ofNat x.toNatClampNeg ||| sit p) ^^^ sit p = Int32.ofNat x.toNatClampNeg) ∧ (0 ≤ (Int32.ofNat x.toNatClampNeg ||| sit p).toInt ∧ (Int32.ofNat x.toNatClampNeg ||| sit p).toInt < 64) ∧ ∀ a : Fin 6, ((btx (Int32.ofNat x.toNatClampNeg ||| sit p) (Int32.ofNat a.val)).toInt = 1 ↔ ((btx (Int32.ofNat x.toNatClampNeg) (Int32.ofNat a.val)).toInt = 1 ∨ (a.val : Int) = (st_l p).toInt ∨ (a.val : Int) = (st_o p).toInt)) := k
  rw [← e] at k
  exact ⟨⟨fun q a ha => k.1.mp q ⟨a, ha⟩, fun q => k.1.mpr (fun a => q a.val a.isLt)⟩, k.2.1, k.2.2.1, fun a ha => k.2.2.2 ⟨a, ha⟩⟩
def plE (v : Nat → Nat → Int32) : (Nat → Nat) → Nat → Prop := FEr (fun k p => bt (v 4 k) p) (v 1 2).toInt
def plP (v : Nat → Nat → Int32) (q : Nat) : Nat := (v 6 q).toNatClampNeg
def plB (v : Nat → Nat → Int32) (q : Nat) : Nat := (v 7 q).toNatClampNeg
def plW (v : Nat → Nat → Int32) (k : Nat) : Int := (v 3 k).toInt
def plm (v : Nat → Nat → Int32) : Nat := (v 1 1).toNatClampNeg
def plL (v : Nat → Nat → Int32) : Int := (v 1 0).toInt
theorem plE_ok (v : Nat → Nat → Int32) : okF (plE v) := FEr_ok _ _
/-- busy mediators and sittings of each day, told by the first d seats -/
def BSY (v : Nat → Nat → Int32) (d : Nat) : Prop := ∀ D : Nat, D < 3 → (ok6 (v 8 D) ∧ (v 9 D).toInt = cN (fun i => ind (onD (plP v) D i)) d) ∧ ∀ a : Nat, a < 6 → (bt (v 8 D) a ↔ ∃ i : Nat, (i < d ∧ onD (plP v) D i) ∧ ((a : Int) = (st_l (plP v i % 6)).toInt ∨ (a : Int) = (st_o (plP v i % 6)).toInt))
def PLB (v : Nat → Nat → Int32) : Prop := ((0 ≤ (v 1 1).toInt ∧ (v 1 1).toInt ≤ 4) ∧ ∀ k : Nat, k < plm v → (1 ≤ (v 3 k).toInt ∧ (v 3 k).toInt ≤ 9) ∧ ok6 (v 4 k)) ∧ srt (plW v) (plm v) (fun j => (v 5 j).toNatClampNeg)
def SC (v : Nat → Nat → Int32) (d : Nat) (wt : Int) : Prop := (PLB v ∧ d ≤ plm v) ∧ (BSY v d ∧ Wt (plW v) (plP v) d = wt) ∧ ∀ k : Nat, k < d → plE v (plP v) k ∧ 0 ≤ (v 6 k).toInt
/-- what a search leaves -/
def SF (d : Nat) (v u : Nat → Nat → Int32) : Prop := ((∀ k : Nat, k ≠ 1 → k ≠ 6 → k ≠ 7 → k ≠ 8 → k ≠ 9 → u k = v k) ∧ u 1 1 = v 1 1 ∧ u 1 2 = v 1 2) ∧ (∀ q : Nat, q < d → u 6 q = v 6 q) ∧ ∀ D : Nat, D < 3 → u 8 D = v 8 D ∧ u 9 D = v 9 D
def NNQ (m : Nat) (L0 : Int) (b0 : Nat → Int32) (L1 : Int) (b1 : Nat → Int32) : Prop := L1 ≤ L0 ∧ (L1 = L0 → ∀ q : Nat, q < m → b1 q = b0 q) ∧ (L1 < L0 → ∀ q : Nat, q < m → 0 ≤ (b1 q).toInt)
section NQ
variable {m : Nat} {L0 L1 L2 : Int} {b0 b1 b2 : Nat → Int32}
theorem NNQ_rf : NNQ m L0 b0 L0 b0 := ⟨Int.le_refl _, fun _ _ _ => rfl, fun h => absurd h (by omega)⟩
theorem NNQ_tr (h : NNQ m L0 b0 L1 b1) (k : NNQ m L1 b1 L2 b2) : NNQ m L0 b0 L2 b2 := by
  have a := h.1
  have b := k.1
  refine ⟨by omega, fun e q hq => ?_, fun l q hq => ?_⟩
  · rw [k.2.1 (by omega) q hq]
    exact h.2.1 (by omega) q hq
  · by_cases e : L2 < L1
    · exact k.2.2 e q hq
    · rw [k.2.1 (by omega) q hq]
      exact h.2.2 (by omega) q hq
end NQ
section SCS
variable {v u w x : Nat → Nat → Int32} {d e D y : Nat} {wt : Int}
theorem SF_rf (d : Nat) (v : Nat → Nat → Int32) : SF d v v := ⟨⟨fun _ _ _ _ _ _ => rfl, rfl, rfl⟩, fun _ _ => rfl, fun _ _ => ⟨rfl, rfl⟩⟩
theorem SF_tr (h : SF d v u) (k : SF e u w) (he : d ≤ e) : SF d v w := ⟨⟨fun j a b c f g => (k.1.1 j a b c f g).trans (h.1.1 j a b c f g), k.1.2.1.trans h.1.2.1, k.1.2.2.trans h.1.2.2⟩, fun q hq => (k.2.1 q (by omega)).trans (h.2.1 q hq), fun D hD => ⟨(k.2.2 D hD).1.trans (h.2.2 D hD).1, (k.2.2 D hD).2.trans (h.2.2 D hD).2⟩⟩
/-- rows that no search changes -/
def SG (v u : Nat → Nat → Int32) : Prop := (u 3 = v 3 ∧ u 4 = v 4) ∧ u 5 = v 5 ∧ u 1 1 = v 1 1 ∧ u 1 2 = v 1 2
theorem SF_G (h : SF d v u) : SG v u := ⟨⟨h.1.1 3 (by decide) (by decide) (by decide) (by decide) (by decide), h.1.1 4 (by decide) (by decide) (by decide) (by decide) (by decide)⟩, h.1.1 5 (by decide) (by decide) (by decide) (by decide) (by decide), h.1.2⟩
theorem SG_E (h : SG v u) : plE u = plE v := by
  unfold plE
  rw [h.1.2, h.2.2.2]
theorem SG_W (h : SG v u) : plW u = plW v := funext fun k => congrArg (fun f : Nat → Int32 => (f k).toInt) h.1.1
theorem SG_m (h : SG v u) : plm u = plm v := congrArg Int32.toNatClampNeg h.2.2.1
theorem SG_B (h : SG v u) (p : PLB v) : PLB u := by
  obtain ⟨⟨a1, a2⟩, a3⟩ := p
  have eW := SG_W h
  have em := SG_m h
  refine ⟨⟨?_, fun k hk => ?_⟩, ?_⟩
  · rw [h.2.2.1]
    exact a1
  · rw [em] at hk
    rw [h.1.1, h.1.2]
    exact a2 k hk
  · rw [eW, em, h.2.1]
    exact a3
/-- a seat more -/
theorem SC_step (h : SC v d wt) (hd : d < plm v) (hG : SG v u) (h6 : ∀ q : Nat, q < d → u 6 q = v 6 q) (h0 : 0 ≤ (u 6 d).toInt) (hF : plE v (plP u) d) (hB : BSY u (d + 1)) {w2 : Int} (hw : w2 = wt + plW v d * cst (plP u d)) : SC u (d + 1) w2 := by
  obtain ⟨⟨a1, a2⟩, ⟨b1, b2⟩, c⟩ := h
  have eP : ∀ q : Nat, q < d → plP u q = plP v q := fun q hq => congrArg Int32.toNatClampNeg (h6 q hq)
  refine ⟨⟨SG_B hG a1, by rw [SG_m hG]; omega⟩, ⟨hB, ?_⟩, fun k hk => ?_⟩
  · rw [SG_W hG, Wt_s, Wt_cg (w := plW v) eP, b2, hw]
  · rw [SG_E hG]
    by_cases q : k = d
    · rw [q]
      exact ⟨hF, h0⟩
    · rw [h6 k (by omega)]
      exact ⟨(plE_ok v).1 (plP v) (plP u) k (fun i hi => (eP i (by omega)).symm) (c k (by omega)).1, (c k (by omega)).2⟩
theorem SC_fr (h : SC v d wt) (f : SF d v u) : SC u d wt := by
  obtain ⟨⟨a1, a2⟩, ⟨b1, b2⟩, c⟩ := h
  have hG := SF_G f
  have eP : ∀ q : Nat, q < d → plP u q = plP v q := fun q hq => congrArg Int32.toNatClampNeg (f.2.1 q hq)
  refine ⟨⟨SG_B hG a1, by rw [SG_m hG]; exact a2⟩, ⟨fun D hD => ?_, ?_⟩, fun k hk => ?_⟩
  · rw [(f.2.2 D hD).1, (f.2.2 D hD).2]
    obtain ⟨⟨p1, p2⟩, p3⟩ := b1 D hD
    have eo : ∀ i : Nat, i < d → (onD (plP v) D i ↔ onD (plP u) D i) := fun i hi => by
      unfold onD
      rw [eP i hi]
    refine ⟨⟨p1, p2.trans (cN_cg (fun i hi => ind_cg (eo i hi)))⟩, fun a ha => (p3 a ha).trans ⟨?_, ?_⟩⟩
    · rintro ⟨i, ⟨i1, i2⟩, i3⟩
      exact ⟨i, ⟨i1, (eo i i1).mp i2⟩, by rw [eP i i1]; exact i3⟩
    · rintro ⟨i, ⟨i1, i2⟩, i3⟩
      exact ⟨i, ⟨i1, (eo i i1).mpr i2⟩, by rw [eP i i1] at i3; exact i3⟩
  · rw [SG_W hG, Wt_cg (w := plW v) eP]
    exact b2
  · rw [SG_E hG, f.2.1 k hk]
    exact ⟨(plE_ok v).1 (plP v) (plP u) k (fun i hi => (eP i (by omega)).symm) (c k hk).1, (c k hk).2⟩
theorem FE_Q {Q : Nat → Nat} (h : SC v d wt) (hD : D < 3) (hy : y < 6) (hQ : ∀ q : Nat, q < d → Q q = plP v q) (hd : Q d = 6 * D + y) : plE v Q d ↔ ((bt (v 4 d) y ∧ v 8 D &&& sit y = 0) ∧ (v 9 D).toInt < (v 1 2).toInt) := by
  obtain ⟨-, ⟨b1, -⟩, -⟩ := h
  obtain ⟨⟨p1, p2⟩, p3⟩ := b1 D hD
  have e6 : (6 * D + y) / 6 = D := by omega
  have e7 : (6 * D + y) % 6 = y := by omega
  have sn := (sit_n p1 hy).1
  have eo : ∀ i : Nat, i < d → (onD Q D i ↔ onD (plP v) D i) := fun i hi => by
    unfold onD
    rw [hQ i hi]
  have ec : cN (fun i => ind (onD Q D i)) d = (v 9 D).toInt := (cN_cg (fun i hi => ind_cg (eo i hi))).trans p2.symm
  have key : (v 8 D &&& sit y = 0) ↔ ∀ i : Nat, i < d → onD Q D i → dj (Q i % 6) y := by
    refine sn.trans ⟨fun h i hi ho => ?_, fun h a ha hl hb => ?_⟩
    · have no : ∀ a : Nat, a < 6 → ((a : Int) = (st_l y).toInt ∨ (a : Int) = (st_o y).toInt) → ¬ ((a : Int) = (st_l (plP v i % 6)).toInt ∨ (a : Int) = (st_o (plP v i % 6)).toInt) := fun a ha hl hr => h a ha hl ((p3 a ha).mpr ⟨i, ⟨hi, (eo i hi).mp ho⟩, hr⟩)
      have z := st_b y
      have t1 := t_nn (x := st_l y) z.2.1
      have t2 := t_nn (x := st_o y) z.1.1
      have n1 := no (st_l y).toNatClampNeg (by omega) (Or.inl t1)
      have n2 := no (st_o y).toNatClampNeg (by omega) (Or.inr t2)
      rw [hQ i hi]
      exact ⟨⟨fun e => n1 (Or.inl (by omega)), fun e => n2 (Or.inl (by omega))⟩, fun e => n1 (Or.inr (by omega)), fun e => n2 (Or.inr (by omega))⟩
    · obtain ⟨i, ⟨i1, i2⟩, i3⟩ := (p3 a ha).mp hb
      have dd := h i i1 ((eo i i1).mpr i2)
      rw [hQ i i1] at dd
      obtain ⟨⟨d1, d2⟩, d3, d4⟩ := dd
      omega
  unfold plE
  constructor
  · intro hF
    rcases hF with hF | ⟨⟨f1, f2⟩, f3, f4⟩
    · rw [hd] at hF
      omega
    · have f2 : bt (v 4 d) (Q d % 6) := f2
      rw [hd, e7] at f2
      rw [hd, e6, e7] at f3
      rw [hd, e6, ec] at f4
      exact ⟨⟨f2, key.mpr f3⟩, f4⟩
  · rintro ⟨⟨g1, g2⟩, g3⟩
    refine Or.inr ⟨⟨by rw [hd]; omega, ?_⟩, ?_, ?_⟩
    · show bt (v 4 d) (Q d % 6)
      rw [hd, e7]
      exact g1
    · rw [hd, e6, e7]
      exact key.mp g2
    · rw [hd, e6, ec]
      exact g3
/-- nobody sits -/
theorem SC_18 (h : SC v d wt) (hd : d < plm v) (hk : ∀ k : Nat, k ≠ 6 → u k = v k) (h6 : ∀ q : Nat, q < d → u 6 q = v 6 q) (h18 : (u 6 d).toInt = 18) {w2 : Int} (hw : w2 = wt + plW v d * 4) : SC u (d + 1) w2 := by
  have e18 : plP u d = 18 := by
    have z := t_nn (x := u 6 d) (by omega)
    show (u 6 d).toNatClampNeg = 18
    omega
  have eP : ∀ q : Nat, q < d → plP u q = plP v q := fun q hq => congrArg Int32.toNatClampNeg (h6 q hq)
  refine SC_step h hd ⟨⟨hk 3 (by decide), hk 4 (by decide)⟩, hk 5 (by decide), by rw [hk 1 (by decide)], by rw [hk 1 (by decide)]⟩ h6 (by omega) ((plE_ok v).2.2 _ _ e18) (fun D hD => ?_) (by rw [e18]; exact hw)
  obtain ⟨-, ⟨b1, -⟩, -⟩ := h
  obtain ⟨⟨p1, p2⟩, p3⟩ := b1 D hD
  rw [hk 8 (by decide), hk 9 (by decide)]
  have eo : ∀ i : Nat, i < d → (onD (plP v) D i ↔ onD (plP u) D i) := fun i hi => by
    unfold onD
    rw [eP i hi]
  have en : ¬ onD (plP u) D d := fun q => by
    have := q.1
    omega
  have ecn : cN (fun i => ind (onD (plP u) D i)) d = cN (fun i => ind (onD (plP v) D i)) d := (cN_cg (fun i hi => ind_cg (eo i hi))).symm
  refine ⟨⟨p1, ?_⟩, fun a ha => (p3 a ha).trans ⟨?_, ?_⟩⟩
  · show _ = cN (fun i => ind (onD (plP u) D i)) d + ind (onD (plP u) D d)
    rw [ind_0 en, ecn, p2]
    omega
  · rintro ⟨i, ⟨i1, i2⟩, i3⟩
    exact ⟨i, ⟨by omega, (eo i i1).mp i2⟩, by rw [eP i i1]; exact i3⟩
  · rintro ⟨i, ⟨i1, i2⟩, i3⟩
    by_cases q : i = d
    · rw [q] at i2
      exact absurd i2 en
    · exact ⟨i, ⟨by omega, (eo i (by omega)).mpr i2⟩, by rw [eP i (by omega)] at i3; exact i3⟩
/-- a pair sits -/
theorem SC_in (h : SC v d wt) (hd : d < plm v) (hD : D < 3) (hy : y < 6) (hf : bt (v 4 d) y) (hb : v 8 D &&& sit y = 0) (hs : (v 9 D).toInt < (v 1 2).toInt) (hk : ∀ k : Nat, k ≠ 6 → k ≠ 8 → k ≠ 9 → u k = v k) (h6 : ∀ q : Nat, q < d → u 6 q = v 6 q) (h6d : (u 6 d).toInt = 6 * (D : Int) + (y : Int)) (h8 : u 8 D = v 8 D ||| sit y) (h8n : ∀ E : Nat, E ≠ D → u 8 E = v 8 E) (h9 : (u 9 D).toInt = (v 9 D).toInt + 1) (h9n : ∀ E : Nat, E ≠ D → u 9 E = v 9 E) {w2 : Int} (hw : w2 = wt + plW v d * (D : Int)) : SC u (d + 1) w2 := by
  have ed : plP u d = 6 * D + y := by
    have z := t_nn (x := u 6 d) (by omega)
    show (u 6 d).toNatClampNeg = _
    omega
  have e6 : (6 * D + y) / 6 = D := by omega
  have e7 : (6 * D + y) % 6 = y := by omega
  have eP : ∀ q : Nat, q < d → plP u q = plP v q := fun q hq => congrArg Int32.toNatClampNeg (h6 q hq)
  have ecst : cst (plP u d) = (D : Int) := by
    rw [ed]
    unfold cst
    rw [if_neg (by omega), e6]
  refine SC_step h hd ⟨⟨hk 3 (by decide) (by decide) (by decide), hk 4 (by decide) (by decide) (by decide)⟩, hk 5 (by decide) (by decide) (by decide), by rw [hk 1 (by decide) (by decide) (by decide)], by rw [hk 1 (by decide) (by decide) (by decide)]⟩ h6 (by omega) ((FE_Q h hD hy eP ed).mpr ⟨⟨hf, hb⟩, hs⟩) (fun E hE => ?_) (by rw [ecst]; exact hw)
  obtain ⟨-, ⟨b1, -⟩, -⟩ := h
  obtain ⟨⟨p1, p2⟩, p3⟩ := b1 E hE
  have eo : ∀ i : Nat, i < d → (onD (plP v) E i ↔ onD (plP u) E i) := fun i hi => by
    unfold onD
    rw [eP i hi]
  have ecn : cN (fun i => ind (onD (plP u) E i)) d = cN (fun i => ind (onD (plP v) E i)) d := (cN_cg (fun i hi => ind_cg (eo i hi))).symm
  have es : cN (fun i => ind (onD (plP u) E i)) (d + 1) = cN (fun i => ind (onD (plP u) E i)) d + ind (onD (plP u) E d) := rfl
  by_cases q : E = D
  · rw [q] at p1 p2 p3 eo ecn es ⊢
    have ey : onD (plP u) D d := ⟨by omega, by rw [ed, e6]⟩
    obtain ⟨-, -, s3, s4⟩ := sit_n p1 hy
    rw [h8]
    refine ⟨⟨s3, by rw [es, ecn, ind_1 ey]; omega⟩, fun a ha => (s4 a ha).trans ⟨?_, ?_⟩⟩
    · rintro (g | g)
      · obtain ⟨i, ⟨i1, i2⟩, i3⟩ := (p3 a ha).mp g
        exact ⟨i, ⟨by omega, (eo i i1).mp i2⟩, by rw [eP i i1]; exact i3⟩
      · exact ⟨d, ⟨by omega, ey⟩, by rw [ed, e7]; exact g⟩
    · rintro ⟨i, ⟨i1, i2⟩, i3⟩
      by_cases z : i = d
      · rw [z, ed, e7] at i3
        exact Or.inr i3
      · exact Or.inl ((p3 a ha).mpr ⟨i, ⟨by omega, (eo i (by omega)).mpr i2⟩, by rw [eP i (by omega)] at i3; exact i3⟩)
  · have en : ¬ onD (plP u) E d := fun g => by
      have g2 := g.2
      rw [ed, e6] at g2
      exact q g2.symm
    rw [h8n E q, h9n E q]
    refine ⟨⟨p1, by rw [es, ecn, ind_0 en]; omega⟩, fun a ha => (p3 a ha).trans ⟨?_, ?_⟩⟩
    · rintro ⟨i, ⟨i1, i2⟩, i3⟩
      exact ⟨i, ⟨by omega, (eo i i1).mp i2⟩, by rw [eP i i1]; exact i3⟩
    · rintro ⟨i, ⟨i1, i2⟩, i3⟩
      by_cases z : i = d
      · rw [z] at i2
        exact absurd i2 en
      · exact ⟨i, ⟨by omega, (eo i (by omega)).mpr i2⟩, by rw [eP i (by omega)] at i3; exact i3⟩
/-- what a search gives -/
def SRQ (C : (Nat → Nat) → Prop) (v u : Nat → Nat → Int32) : Prop := RSC C (plm v) (plW v) (plL v) (plB v) (plL u) (plB u)
def SRS (v u : Nat → Nat → Int32) (d : Nat) : Prop := (SF d v u ∧ NNQ (plm v) (plL v) (v 7) (plL u) (u 7)) ∧ SRQ (cmp (plE v) (plm v) d (plP v)) v u
/-- behind the first y pairs of a day -/
def SDI (v u : Nat → Nat → Int32) (d D y : Nat) : Prop := (SF d v u ∧ NNQ (plm v) (plL v) (v 7) (plL u) (u 7)) ∧ ∀ (L0 : Int) (B0 : Nat → Nat), RSC (opt (plE v) (plm v) d (plP v) (6 * D)) (plm v) (plW v) L0 B0 (plL v) (plB v) → RSC (opt (plE v) (plm v) d (plP v) (6 * D + y)) (plm v) (plW v) L0 B0 (plL u) (plB u)
theorem SDI_0 (hy : y = 0) : SDI v v d D y := by
  rw [hy]
  exact ⟨⟨SF_rf _ _, NNQ_rf⟩, fun _ _ h => h⟩
theorem SDI_no (h : SC v d wt) (hd : d < plm v) (hD : D < 3) (hy : y < 6) (i : SDI v u d D y) (hn : ¬ bt (u 4 d) y ∨ ¬ u 8 D &&& sit y = 0) {z : Nat} (hz : z = y + 1) : SDI v u d D z := by
  obtain ⟨⟨f, n⟩, r⟩ := i
  rw [(SF_G f).1.2, (f.2.2 D hD).1] at hn
  rw [hz]
  refine ⟨⟨f, n⟩, fun L0 B0 hr => ?_⟩
  rw [show 6 * D + (y + 1) = 6 * D + y + 1 from by omega]
  refine opt_no (plE_ok v) (Q := fun q => if q = d then 6 * D + y else plP v q) hd (fun q hq => if_neg (by omega)) (if_pos rfl) (fun q => ?_) (r L0 B0 hr)
  have z := (FE_Q (Q := fun q => if q = d then 6 * D + y else plP v q) h hD hy (fun q hq => if_neg (by omega)) (if_pos rfl)).mp q
  rcases hn with hn | hn
  · exact hn z.1.1
  · exact hn z.1.2
/-- a pair tried: u is what stood before, w what the search was called with, x what it left, and z what stands when the pair is taken back -/
theorem SDI_s {z : Nat → Nat → Int32} (hd : d < plm v) (hD : D < 3) (i : SDI v u d D y) (hb : ok6 (u 8 D)) (hy : y < 6) (hb0 : u 8 D &&& sit y = 0) (hk : ∀ k : Nat, k ≠ 6 → k ≠ 8 → k ≠ 9 → w k = u k) (h6 : ∀ q : Nat, q < d → w 6 q = u 6 q) (h6d : (w 6 d).toInt = 6 * (D : Int) + (y : Int)) (h8 : w 8 D = u 8 D ||| sit y) (h8n : ∀ E : Nat, E ≠ D → w 8 E = u 8 E) (h9 : (w 9 D).toInt = (u 9 D).toInt + 1) (h9n : ∀ E : Nat, E ≠ D → w 9 E = u 9 E) (r : SRS w x (d + 1)) (zk : ∀ k : Nat, k ≠ 8 → k ≠ 9 → z k = x k) (z8 : z 8 D = x 8 D ^^^ sit y) (z8n : ∀ E : Nat, E ≠ D → z 8 E = x 8 E) (z9 : (z 9 D).toInt = (x 9 D).toInt - 1) (z9n : ∀ E : Nat, E ≠ D → z 9 E = x 9 E) {y2 : Nat} (hz : y2 = y + 1) : SDI v z d D y2 := by
  obtain ⟨⟨f, n⟩, g⟩ := i
  obtain ⟨⟨f2, n2⟩, g2⟩ := r
  have e1 : w 1 = u 1 := hk 1 (by decide) (by decide) (by decide)
  have e7 : w 7 = u 7 := hk 7 (by decide) (by decide) (by decide)
  have x1 : z 1 = x 1 := zk 1 (by decide) (by decide)
  have x7 : z 7 = x 7 := zk 7 (by decide) (by decide)
  have fz : SF d u z := by
    refine ⟨⟨fun k a1 a6 a7 a8 a9 => (zk k a8 a9).trans ((f2.1.1 k a1 a6 a7 a8 a9).trans (hk k a6 a8 a9)), by rw [x1, f2.1.2.1, e1], by rw [x1, f2.1.2.2, e1]⟩, fun q hq => by rw [zk 6 (by decide) (by decide), f2.2.1 q (by omega), h6 q hq], fun E hE => ?_⟩
    by_cases q : E = D
    · rw [q, z8, (f2.2.2 D hD).1, h8]
      refine ⟨(sit_n hb hy).2.1 hb0, Int32.toInt_inj.mp ?_⟩
      rw [z9, (f2.2.2 D hD).2, h9]
      omega
    · rw [z8n E q, z9n E q, (f2.2.2 E hE).1, (f2.2.2 E hE).2, h8n E q, h9n E q]
      exact ⟨rfl, rfl⟩
  have hGw : SG v w := by
    have a := SF_G f
    exact ⟨⟨(hk 3 (by decide) (by decide) (by decide)).trans a.1.1, (hk 4 (by decide) (by decide) (by decide)).trans a.1.2⟩, (hk 5 (by decide) (by decide) (by decide)).trans a.2.1, by rw [e1]; exact a.2.2.1, by rw [e1]; exact a.2.2.2⟩
  have eL : plL w = plL u := congrArg (fun f : Nat → Int32 => (f 0).toInt) e1
  have eB : plB w = plB u := funext fun q => congrArg (fun f : Nat → Int32 => (f q).toNatClampNeg) e7
  have eLz : plL z = plL x := congrArg (fun f : Nat → Int32 => (f 0).toInt) x1
  have eBz : plB z = plB x := funext fun q => congrArg (fun f : Nat → Int32 => (f q).toNatClampNeg) x7
  unfold SRQ at g2
  rw [SG_m hGw, eL, e7] at n2
  rw [SG_m hGw, SG_W hGw, SG_E hGw, eL, eB] at g2
  rw [hz]
  refine ⟨⟨SF_tr f fz (Nat.le_refl d), by rw [eLz, x7]; exact NNQ_tr n n2⟩, fun L0 B0 hr => ?_⟩
  rw [show 6 * D + (y + 1) = 6 * D + y + 1 from by omega, eLz, eBz]
  refine opt_s (plE_ok v) (Q := plP w) hd (fun q hq => ?_) ?_ (g L0 B0 hr) g2
  · show (w 6 q).toNatClampNeg = (v 6 q).toNatClampNeg
    rw [h6 q hq, f.2.1 q hq]
  · have t := t_nn (x := w 6 d) (by omega)
    show (w 6 d).toNatClampNeg = _
    omega
/-- behind the first days -/
def DYI (v u : Nat → Nat → Int32) (d D : Nat) : Prop := (SF d v u ∧ NNQ (plm v) (plL v) (v 7) (plL u) (u 7)) ∧ SRQ (opt (plE v) (plm v) d (plP v) (6 * D)) v u
theorem DYI_0 (hD : D = 0) : DYI v v d D := by
  rw [hD]
  exact ⟨⟨SF_rf _ _, NNQ_rf⟩, opt_0⟩
theorem DYI_no (h : SC v d wt) (hd : d < plm v) (hD : D < 3) (i : DYI v u d D) (hn : ¬ (u 9 D).toInt < (u 1 2).toInt) {E : Nat} (hE : E = D + 1) : DYI v u d E := by
  obtain ⟨⟨f, n⟩, r⟩ := i
  rw [(f.2.2 D hD).2, f.1.2.2] at hn
  unfold SRQ at r
  have key : ∀ y : Nat, y ≤ 6 → RSC (opt (plE v) (plm v) d (plP v) (6 * D + y)) (plm v) (plW v) (plL v) (plB v) (plL u) (plB u) := fun y => by
    induction y with
    | zero => exact fun _ => r
    | succ y ih =>
      intro hy
      rw [show 6 * D + (y + 1) = 6 * D + y + 1 from by omega]
      exact opt_no (plE_ok v) (Q := fun q => if q = d then 6 * D + y else plP v q) hd (fun q hq => if_neg (by omega)) (if_pos rfl) (fun q => hn ((FE_Q (Q := fun q => if q = d then 6 * D + y else plP v q) h hD (show y < 6 by omega) (fun q hq => if_neg (by omega)) (if_pos rfl)).mp q).2) (ih (by omega))
  rw [hE]
  refine ⟨⟨f, n⟩, ?_⟩
  have k := key 6 (Nat.le_refl 6)
  rw [show 6 * D + 6 = 6 * (D + 1) from by omega] at k
  exact k
theorem opt_P {FE : (Nat → Nat) → Nat → Prop} {m s : Nat} {P Q : Nat → Nat} (e : ∀ q : Nat, q < d → P q = Q q) : opt FE m d P s = opt FE m d Q s := by
  funext S
  refine propext ⟨fun a => ⟨⟨a.1.1, fun q hq => ?_⟩, a.2⟩, fun a => ⟨⟨a.1.1, fun q hq => ?_⟩, a.2⟩⟩
  · rw [a.1.2 q hq, e q hq]
  · rw [a.1.2 q hq, e q hq]
theorem DYI_s (i : DYI v u d D) (r : SDI u w d D 6) {E : Nat} (hE : E = D + 1) : DYI v w d E := by
  obtain ⟨⟨f, n⟩, g⟩ := i
  obtain ⟨⟨f2, n2⟩, g2⟩ := r
  have hG := SF_G f
  have eP : ∀ q : Nat, q < d → plP u q = plP v q := fun q hq => congrArg Int32.toNatClampNeg (f.2.1 q hq)
  rw [SG_m hG] at n2
  rw [SG_m hG, SG_W hG, SG_E hG, opt_P (s := 6 * D) eP, opt_P (s := 6 * D + 6) eP, show 6 * D + 6 = 6 * (D + 1) from by omega] at g2
  rw [hE]
  exact ⟨⟨SF_tr f f2 (Nat.le_refl d), NNQ_tr n n2⟩, g2 _ _ g⟩
/-- at last, no seat -/
theorem DYI_e (hd : d < plm v) (i : DYI v u d D) (hD : D = 3) (hk : ∀ k : Nat, k ≠ 6 → w k = u k) (h6 : ∀ q : Nat, q < d → w 6 q = u 6 q) (h18 : (w 6 d).toInt = 18) (r : SRS w x (d + 1)) : SRS v x d := by
  obtain ⟨⟨f, n⟩, g⟩ := i
  obtain ⟨⟨f2, n2⟩, g2⟩ := r
  rw [hD] at g
  have e1 : w 1 = u 1 := hk 1 (by decide)
  have e7 : w 7 = u 7 := hk 7 (by decide)
  have fw : SF d u w := ⟨⟨fun k _ a6 _ _ _ => hk k a6, by rw [e1], by rw [e1]⟩, h6, fun D _ => ⟨by rw [hk 8 (by decide)], by rw [hk 9 (by decide)]⟩⟩
  have fv := SF_tr f fw (Nat.le_refl d)
  have hGw := SF_G fv
  have eL : plL w = plL u := congrArg (fun f : Nat → Int32 => (f 0).toInt) e1
  have eB : plB w = plB u := funext fun q => congrArg (fun f : Nat → Int32 => (f q).toNatClampNeg) e7
  unfold SRQ at g g2
  rw [SG_m hGw, eL, e7] at n2
  rw [SG_m hGw, SG_W hGw, SG_E hGw, eL, eB] at g2
  refine ⟨⟨SF_tr fv f2 (by omega), NNQ_tr n n2⟩, ?_⟩
  refine opt_19 (plE_ok v) hd (opt_s (plE_ok v) (Q := plP w) (s := 18) hd (fun q hq => ?_) ?_ g g2)
  · exact congrArg Int32.toNatClampNeg (fv.2.1 q hq)
  · have t := t_nn (x := w 6 d) (by omega)
    show (w 6 d).toNatClampNeg = _
    omega
/-- a whole plan -/
theorem SC_leaf (h : SC v d wt) (hd : plm v ≤ d) (hl : wt < plL v) (hk : ∀ k : Nat, k ≠ 1 → k ≠ 7 → u k = v k) (h1 : u 1 1 = v 1 1) (h2 : u 1 2 = v 1 2) (hL : plL u = wt) (h7 : ∀ q : Nat, q < plm v → u 7 q = v 6 q) : SRS v u d := by
  obtain ⟨⟨a1, a2⟩, ⟨b1, b2⟩, c⟩ := h
  have ed : d = plm v := by omega
  have eB : ∀ q : Nat, q < plm v → plB u q = plP v q := fun q hq => congrArg Int32.toNatClampNeg (h7 q hq)
  refine ⟨⟨⟨⟨fun k g1 _ g7 _ _ => hk k g1 g7, h1, h2⟩, fun q _ => by rw [hk 6 (by decide) (by decide)], fun D _ => ⟨by rw [hk 8 (by decide) (by decide)], by rw [hk 9 (by decide) (by decide)]⟩⟩, by omega, fun e => absurd e (by omega), fun _ q hq => by rw [h7 q hq]; exact (c q (by omega)).2⟩, ?_⟩
  refine RSC_leaf (fun S hS q hq => ?_) ⟨fun k hk => ?_, fun q hq => eB q (by omega)⟩ ?_ (by omega)
  · rw [hS.2 q (by omega), eB q hq]
  · exact (plE_ok v).1 (plP v) (plB u) k (fun i hi => (eB i (by omega)).symm) (c k (by omega)).1
  · rw [Wt_cg (w := plW v) eB, hL, ← ed]
    exact b2
theorem day_le {fit : Nat → Nat → Prop} {rm : Int} {S : Nat → Nat} {m : Nat} (D : Nat) (h : pln (FEr fit rm) m S) : ∀ k : Nat, k ≤ m → cN (fun i => ind (onD S D i)) k = 0 ∨ cN (fun i => ind (onD S D i)) k ≤ rm
  | 0, _ => Or.inl rfl
  | k + 1, hk => by
    have i := day_le D h k (by omega)
    have es : cN (fun i => ind (onD S D i)) (k + 1) = cN (fun i => ind (onD S D i)) k + ind (onD S D k) := rfl
    by_cases q : onD S D k
    · rw [ind_1 q] at es
      rcases h k (by omega) with f | ⟨-, -, f⟩
      · have := q.1
        omega
      · rw [q.2] at f
        omega
    · rw [ind_0 q] at es
      omega
/-- nothing better is left -/
theorem SC_cut (h : SC v d wt) {least taken : Int} {day : Nat} (hG : GR (fun j => (v 5 j).toNatClampNeg) (fun k => (v 3 k).toInt) (fun k => (v 4 k).toInt ≠ 0) d (v 1 2).toInt (fun D => (v 9 D).toInt) (v 1 1).toNatClampNeg least day taken) (hl : plL v ≤ wt + least) : SRS v v d := by
  obtain ⟨⟨⟨⟨a1, a2⟩, a3⟩, a4⟩, ⟨b1, b2⟩, c⟩ := h
  obtain ⟨cc, g1, g2⟩ := hG
  refine ⟨⟨SF_rf _ _, NNQ_rf⟩, RSC_no (fun S hS => ?_)⟩
  have eP : ∀ q : Nat, q < d → S q = plP v q := hS.2
  have eW : Wt (plW v) S d = wt := (Wt_cg eP).trans b2
  have hpb : ∀ k : Nat, d ≤ k → k < plm v → S k < 18 → (v 4 k).toInt ≠ 0 := fun k _ hk h18 e => by
    rcases hS.1 k hk with f | ⟨⟨-, f⟩, -⟩
    · omega
    · have f : bt (v 4 k) (S k % 6) := f
      rw [show v 4 k = 0 from Int32.toInt_inj.mp (e.trans (by decide))] at f
      have z := bt_0 ⟨S k % 6, by omega⟩
      have z : (btx 0 (Int32.ofNat (S k % 6))).toInt = 0 := z
      unfold bt at f
      omega
  have hcap : ∀ D : Nat, D < 3 → cN (fun k => ind (d ≤ k ∧ onD S D k)) (plm v) ≤ cpp (v 1 2).toInt (v 9 D).toInt := fun D hD => by
    obtain ⟨⟨-, p2⟩, -⟩ := b1 D hD
    have tot := day_le D hS.1 (plm v) (Nat.le_refl _)
    have tl := cN_tl (f := fun i => ind (onD S D i)) a4
    have e1 : cN (fun i => ind (onD S D i)) d = (v 9 D).toInt := by
      rw [p2]
      exact cN_cg (fun i hi => ind_cg (by unfold onD; rw [eP i hi]))
    have e2 : cN (fun k => ind (d ≤ k ∧ onD S D k)) (plm v) = cN (fun k => ind (d ≤ k) * ind (onD S D k)) (plm v) := cN_cg (fun k _ => by
      show ind (d ≤ k ∧ onD S D k) = ind (d ≤ k) * ind (onD S D k)
      by_cases q : d ≤ k
      · rw [ind_1 q, Int.one_mul]
        exact ind_cg ⟨fun z => z.2, fun z => ⟨q, z⟩⟩
      · rw [ind_0 q, Int.zero_mul]
        exact ind_0 (fun z => q z.1))
    have b0 := (cN_b (f := fun k => ind (d ≤ k ∧ onD S D k)) (n := plm v) (fun i _ => ind_b _)).1
    have b9 := (cN_b (f := fun i => ind (onD S D i)) (n := d) (fun i _ => ind_b _)).1
    unfold cpp
    split <;> omega
  have lb := LB (s := fun j => (v 5 j).toNatClampNeg) (w := plW v) (S := S) a4 a3.1 a3.2 (fun k hk => by have := (a2 k hk).1.1; show 0 ≤ (v 3 k).toInt; omega) g1 g2 (pln_b (plE_ok v) hS.1) hpb hcap
  omega
theorem SC_w (h : SC v d wt) : ∀ k : Nat, (k : Int) < (v 1 1).toInt → 1 ≤ (v 3 k).toInt ∧ (v 3 k).toInt ≤ 9 := fun k hk => by
  have b := h.1.1.1.1
  have z := t_nn (x := v 1 1) b.1
  exact (h.1.1.1.2 k (by show k < (v 1 1).toNatClampNeg; omega)).1
theorem SC_s (h : SC v d wt) : srt (fun k => (v 3 k).toInt) (v 1 1).toNatClampNeg (fun j => (v 5 j).toNatClampNeg) := h.1.1.2
theorem SC_m (h : SC v d wt) : plm v ≤ 4 := by
  have b := h.1.1.1.1
  have z := t_nn (x := v 1 1) b.1
  show (v 1 1).toNatClampNeg ≤ 4
  omega
theorem SC_9 (h : SC v d wt) : ∀ D : Nat, D < 3 → 0 ≤ (v 9 D).toInt ∧ (v 9 D).toInt ≤ 4 := fun D hD => by
  have q := (h.2.1.1 D hD).1.2
  have b := cN_b (f := fun i => ind (onD (plP v) D i)) (n := d) (fun i _ => ind_b _)
  have l := h.1.2
  have m := SC_m h
  omega
theorem SC_b (h : SC v d wt) : 0 ≤ wt ∧ wt ≤ 144 := by
  have l := h.1.2
  have m := SC_m h
  have key : ∀ k : Nat, k ≤ d → 0 ≤ Wt (plW v) (plP v) k ∧ Wt (plW v) (plP v) k ≤ 36 * (k : Int) := fun k => by
    induction k with
    | zero => exact fun _ => ⟨Int.le_refl 0, Int.le_refl 0⟩
    | succ k ih =>
      intro hk
      have i := ih (by omega)
      have w9 : 1 ≤ plW v k ∧ plW v k ≤ 9 := (h.1.1.1.2 k (by omega)).1
      have c4 := cst_b ((plE_ok v).2.1 _ k (h.2.2 k (by omega)).1)
      have p0 := Int.mul_nonneg (show 0 ≤ plW v k by omega) c4.1
      have p1 := Int.mul_le_mul w9.2 c4.2 c4.1 (by decide)
      rw [Wt_s]
      omega
  have k := key d (Nat.le_refl d)
  rw [h.2.1.2] at k
  omega
end SCS
