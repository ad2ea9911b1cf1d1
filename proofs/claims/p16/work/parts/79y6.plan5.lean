
theorem hf2_all : ∀ m : Fin 5, (Int32.ofNat m.val / 2).toInt = (m.val : Int) / 2 := by decide +kernel
theorem hf2 {x : Int32} (h : 0 ≤ x.toInt ∧ x.toInt ≤ 4) : (x / 2).toInt = x.toInt / 2 := by
  have z := t_nn h.1
  have e := ofn h.1
  have k := hf2_all ⟨x.toNatClampNeg, by omega⟩
  have k : (Int32.ofNat x.toNatClampNeg / 2).toInt = (x.toNatClampNeg : Int) / 2 := k
  rw [← e, z] at k
  exact k
theorem mn_i {x y z : Int32} (h : z = if y < x then y else x) : z.toInt = if x.toInt < y.toInt then x.toInt else y.toInt := by
  rw [h]
  by_cases q : y < x
  · have l := Int32.lt_iff_toInt_lt.mp q
    rw [if_pos q, if_neg (by omega)]
  · have l := Int32.le_iff_toInt_le.mp (Int32.not_lt.mp q)
    rw [if_neg q]
    by_cases e : x.toInt < y.toInt
    · rw [if_pos e]
    · rw [if_neg e]
      omega
theorem GA_b {OP : Nat → Prop} {W : Nat → Int32} {FT : Nat → Nat → Prop} {n : Nat} {K : Int} {num w pb : Nat → Int32} (hg : gth OP n K (fun k => (num k).toInt)) (hA : GA W FT K num w pb) (hW : ∀ c : Nat, c < n → 1 ≤ (W c).toInt ∧ (W c).toInt ≤ 9) : ∀ k : Nat, (k : Int) < K → (1 ≤ (w k).toInt ∧ (w k).toInt ≤ 9) ∧ ok6 (pb k) := fun k hk => by
  obtain ⟨c, ⟨a1, a2⟩, -⟩ := hg.2 k hk
  obtain ⟨b1, b2, -⟩ := hA k hk c a1
  rw [b1]
  exact ⟨hW c a2, b2⟩
section FINS
variable {v u : Nat → Nat → Int32}
theorem SC_0 (hB : PLB v) (h0 : ∀ D : Nat, D < 3 → v 8 D = 0 ∧ v 9 D = 0) : SC v 0 0 := by
  refine ⟨⟨hB, Nat.zero_le _⟩, ⟨fun D hD => ?_, rfl⟩, fun k hk => absurd hk (Nat.not_lt_zero _)⟩
  rw [(h0 D hD).1, (h0 D hD).2]
  refine ⟨⟨by unfold ok6; decide, by show (0 : Int32).toInt = 0; decide⟩, fun a ha => ⟨fun q => ?_, fun ⟨i, ⟨hi, _⟩, _⟩ => absurd hi (Nat.not_lt_zero _)⟩⟩
  have z := bt_0 ⟨a, ha⟩
  have z : (btx 0 (Int32.ofNat a)).toInt = 0 := z
  unfold bt at q
  omega
theorem SC_fin (hL : plL v = 1 + Wt (plW v) (fun _ => 18) (plm v)) (r : SRS v u 0) : BST (plE u) (plm u) (plW u) (plB u) (plL u) ∧ ∀ q : Nat, q < plm u → 0 ≤ (u 7 q).toInt := by
  obtain ⟨⟨f, n⟩, g⟩ := r
  have hG := SF_G f
  have g2 : RSC (fun S => pln (plE v) (plm v) S) (plm v) (plW v) (plL v) (plB v) (plL u) (plB u) := RSC_cg g (fun S => ⟨fun a => ⟨a, fun q hq => absurd hq (Nat.not_lt_zero _)⟩, fun a => a.1⟩)
  have b := RSC_fin (plE_ok v) g2 (by omega)
  rw [SG_E hG, SG_m hG, SG_W hG]
  refine ⟨b, n.2.2 ?_⟩
  have l := (b.2 _ (pln_18 (plE_ok v))).1
  omega
end FINS

def PL9 (v u : Nat → Nat → Int32) (x0 : Int) : Prop := ((∀ k : Nat, 10 ≤ k → u k = v k) ∧ u 0 = v 0) ∧ (gth (fun c => (v (29 + 15 * c) 0).toInt = 0) (v 13 2).toNatClampNeg (u 1 1).toInt (fun k => (u 2 k).toInt) ∧ GA (fun c => v (29 + 15 * c) 3) (fun c p => ((st_o p).toInt < (v 13 1).toInt ∧ fit (v (25 + (st_l p).toNatClampNeg) 1) (v (25 + (st_o p).toNatClampNeg) 1) (v (25 + (st_l p).toNatClampNeg) 2) (v (25 + (st_l p).toNatClampNeg) 0) (v (25 + (st_o p).toNatClampNeg) 2) (v (25 + (st_o p).toNatClampNeg) 0) (v (30 + 15 * c) 0) (v (17 + (v (30 + 15 * c) 0).toNatClampNeg) 1) (v (17 + (v (30 + 15 * c) 0).toNatClampNeg) 0) (v (30 + 15 * c) 1) (v (17 + (v (30 + 15 * c) 1).toNatClampNeg) 1) (v (17 + (v (30 + 15 * c) 1).toNatClampNeg) 0))) (u 1 1).toInt (u 2) (u 3) (u 4)) ∧ (u 1 2).toInt = (if x0 < (v 13 1).toInt / 2 then x0 else (v 13 1).toInt / 2) ∧ BST (plE u) (plm u) (plW u) (plB u) (plL u) ∧ ∀ q : Nat, q < plm u → 0 ≤ (u 7 q).toInt