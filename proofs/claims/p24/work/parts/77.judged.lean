
/-- the log has x at an hour of a .. b (b not among them) -/
def jE (L : Nat → Int32) (a b x : Int) : Prop := ∃ h : Nat, a ≤ (h : Int) ∧ (h : Int) < b ∧ (L h).toInt = x
section JES
variable {L M : Nat → Int32} {a b x : Int}
theorem jE_in {y : Int32} (hy : 0 ≤ y.toInt) (h1 : a ≤ y.toInt) (h2 : y.toInt < b) (h : (L y.toNatClampNeg).toInt = x) : jE L a b x := by
  have z := t_nn hy
  exact ⟨y.toNatClampNeg, by omega, by omega, h⟩
theorem jE_up {c : Int} (h : jE L a b x) (hc : b ≤ c) : jE L a c x := by
  obtain ⟨k, h1, h2, h3⟩ := h
  exact ⟨k, h1, by omega, h3⟩
theorem jE_no {y z : Int32} (hy : 0 ≤ y.toInt) (hz : z.toInt = y.toInt + 1) (h : ¬ jE L a y.toInt x) (hn : (L y.toNatClampNeg).toInt ≠ x) : ¬ jE L a z.toInt x := by
  intro ⟨k, h1, h2, h3⟩
  have q := t_nn hy
  by_cases e : (k : Int) < y.toInt
  · exact h ⟨k, h1, e, h3⟩
  · rw [show k = y.toNatClampNeg from by omega] at h3
    exact hn h3
theorem jE_non (h : b ≤ a) : ¬ jE L a b x := fun ⟨k, h1, h2, _⟩ => by omega
theorem jE_end {c : Int} (h1 : c ≤ b) (h2 : b ≤ c ∨ b ≤ a) : jE L a b x ↔ jE L a c x := by
  rcases h2 with h2 | h2
  · rw [show b = c from by omega]
  · exact ⟨fun q => absurd q (jE_non h2), fun q => absurd q (jE_non (by omega))⟩
theorem jE_cg (h : ∀ k : Nat, (k : Int) < b → L k = M k) : jE L a b x ↔ jE M a b x :=
  ⟨fun ⟨k, h1, h2, h3⟩ => ⟨k, h1, h2, by rw [← h k h2]; exact h3⟩, fun ⟨k, h1, h2, h3⟩ => ⟨k, h1, h2, by rw [h k h2]; exact h3⟩⟩
end JES
/-- how a term is judged: m: it is a must -/
noncomputable def jF (m : Int32) (L : Nat → Int32) (a b x : Int32) : Int32 := @ite _ (jE L a.toInt (b.toInt + 1) x.toInt) (Classical.propDecidable _) m (@ite _ (jE L a.toInt (b.toInt + 1) 7) (Classical.propDecidable _) 2 (1 - m))
section JFS
variable {L M : Nat → Int32} {m a b x : Int32}
theorem jF_1 (h : jE L a.toInt (b.toInt + 1) x.toInt) : jF m L a b x = m := if_pos h
theorem jF_2 (h : ¬ jE L a.toInt (b.toInt + 1) x.toInt) (h7 : jE L a.toInt (b.toInt + 1) 7) : jF m L a b x = 2 := (if_neg h).trans (if_pos h7)
theorem jF_3 (h : ¬ jE L a.toInt (b.toInt + 1) x.toInt) (h7 : ¬ jE L a.toInt (b.toInt + 1) 7) : jF m L a b x = 1 - m := (if_neg h).trans (if_neg h7)
theorem jF_cg (h : ∀ k : Nat, (k : Int) < b.toInt + 1 → L k = M k) : jF m L a b x = jF m M a b x := by
  by_cases h1 : jE L a.toInt (b.toInt + 1) x.toInt
  · rw [jF_1 h1, jF_1 ((jE_cg h).mp h1)]
  · by_cases h2 : jE L a.toInt (b.toInt + 1) 7
    · rw [jF_2 h1 h2, jF_2 (fun q => h1 ((jE_cg h).mpr q)) ((jE_cg h).mp h2)]
    · rw [jF_3 h1 h2, jF_3 (fun q => h1 ((jE_cg h).mpr q)) (fun q => h2 ((jE_cg h).mpr q))]
end JFS

set_option maxHeartbeats 4000000 in
set_option maxRecDepth 100000 in
theorem e_X0_judge (l : Launch) (dC : Nat → ClassId) (dI : Nat → Nat → Nat) (cy : Nat → ClassId) (sz : Nat) (ad : Nat → Nat) (kv : Value) (N : Nat) (hN : 119 ≤ N) (v : Nat → Nat → Int32) (hv : Iv v) (i : Nat) (hi : i < 6) (x0 : Int32) (ht : 0 ≤ x0.toInt ∧ x0.toInt ≤ 4) : Met l yX0_judge wsX0_judge ({ frames := 1, cells := 0, slots := 0, locals := 64 }) (va_Pc [.ref (ad (29 + 15 * i)), .int x0] (ex_Pre dC dI cy sz (wl ad kv cy N v))) (va_Qi (fun (r : Int32) (u : Nat → Nat → Int32) => Iv u ∧ u = v ∧ r = jF (v (39 + 15 * i + x0.toNatClampNeg) 1) (v (36 + 15 * i + (v (39 + 15 * i + x0.toNatClampNeg) 0).toNatClampNeg)) (v (39 + 15 * i + x0.toNatClampNeg) 3) (v (39 + 15 * i + x0.toNatClampNeg) 4) (v (39 + 15 * i + x0.toNatClampNeg) 2)) (fun u t => ex_Pst dC dI (va_A (wl ad kv cy N v) sz) (wl ad kv cy N u) t) (va_A (wl ad kv cy N v) sz)) 0 0 (va_A (wl ad kv cy N v) sz) := by
  refine Met.ofW (cc := cX0_judge) (maxL := 6) (ret := (some .int)) (by decide) rfl ?_
  intro p e s m args below meth c s₁ B hml hv
  obtain ⟨rfl, hsz, hE, hP, hK, hD0⟩ := hv
  have hx := B.exec
  have hb := B.bytes
  have hr := B.returns
  have hts := atoms_spec (ws := wsX0_judge) B.pre
  have hown : s.vm.findClass RX0 = some m.cls := findClass_of_methodNamed B.named
  have hlocks := B.notSynchronized
  subst hsz
  have hD := hD0.self (sz := s.heap.size)
  generalize hAe : va_A (wl ad kv cy N v) s.heap.size = A at hD ⊢
  have hA : ∀ q : Nat, s.heap.size ≤ q → A q := fun q h => by rw [← hAe]; exact Or.inr h
  have hS : va_S A s.heap s.heap [] := va_S.rf
  have hP : va_P (dC, dI) vwCl (wl ad kv cy N v) s.heap := hP
  have hl := lv_entry ([.ref (ad (29 + 15 * i)), .int x0]) (n := 6) (Nat.le_of_ble_eq_true rfl)
  rw [lg_entry_eq]
  generalize (lg_sl ([.ref (ad (29 + 15 * i)), .int x0]) ++ List.replicate (6 - (lg_sl ([.ref (ad (29 + 15 * i)), .int x0])).length) Slot.unset).toArray = ls at hl ⊢
  have hl : lv_has ls 6 [(0, .ref (ad (29 + 15 * i))), (1, .int x0)] := hl
  have zn_x0 : (x0.toNatClampNeg : Int) = x0.toInt := t_nn (by omega)
  have hx5 : x0.toNatClampNeg < 5 := by omega
  obtain ⟨sd, esd⟩ : ∃ z : Int32, z = v (39 + 15 * i + x0.toNatClampNeg) 0 := ⟨_, rfl⟩
  have hbsd : 0 ≤ sd.toInt ∧ sd.toInt ≤ 1 := by rw [esd]; exact hv.at (K := 16) (kd_t _ hi _ hx5).1 rfl
  obtain ⟨mu, emu⟩ : ∃ z : Int32, z = v (39 + 15 * i + x0.toNatClampNeg) 1 := ⟨_, rfl⟩
  have hbmu : 0 ≤ mu.toInt ∧ mu.toInt ≤ 1 := by rw [emu]; exact hv.at (K := 16) (kd_t _ hi _ hx5).1 rfl
  obtain ⟨ac, eac⟩ : ∃ z : Int32, z = v (39 + 15 * i + x0.toNatClampNeg) 2 := ⟨_, rfl⟩
  obtain ⟨fi, efi⟩ : ∃ z : Int32, z = v (39 + 15 * i + x0.toNatClampNeg) 3 := ⟨_, rfl⟩
  have hbfi : 0 ≤ fi.toInt ∧ fi.toInt ≤ 23 := by rw [efi]; exact hv.at (K := 16) (kd_t _ hi _ hx5).1 rfl
  obtain ⟨la, ela⟩ : ∃ z : Int32, z = v (39 + 15 * i + x0.toNatClampNeg) 4 := ⟨_, rfl⟩
  have hbla : 0 ≤ la.toInt ∧ la.toInt ≤ 23 := by rw [ela]; exact hv.at (K := 16) (kd_t _ hi _ hx5).1 rfl
  obtain ⟨LL, eLL⟩ : ∃ f : Nat → Int32, f = v (36 + 15 * i + sd.toNatClampNeg) := ⟨_, rfl⟩
  refine lv_aload_n hx hb dX0_judge_0 rfl (lv_at hl 0 rfl) ?_
  refine va_get (D := (dC, dI)) (ci := 0) (v := .ref (ad (29 + 15 * i + 9))) (C := RX0) (T := TX0) (N := 11) hx hb hts (by decide +kernel) hown hK hP (29 + 15 * i) (wl_at (by omega) (ce_9 (kd_c _ hi).1.1)) rfl 10 (by decide) (hts (.fieldLink RX0 28 "QuietStairs$Case" "terms" "[LQuietStairs$Term;") (by decide +kernel)) (fun _ h9 => h9) rfl dX0_judge_1 ?_
  refine W.eq (g2 := F0 m 4 ls [.ref (ad (38 + 15 * i))]) (by rw [show 29 + 15 * i + 9 = 38 + 15 * i from by omega]) ?_
  refine lv_iload_n hx hb dX0_judge_4 rfl (lv_at hl 1 rfl) ?_
  refine va_aldq hx hb hK hP (38 + 15 * i) 4 (wl_at (by omega) (ce_15 (kd_c _ hi).1.2.2.2.2.2)) rfl (vp_in_iff.mpr ⟨by omega, by omega⟩) dX0_judge_5 ?_
  refine W.eq (g2 := F0 m 6 ls [.ref (ad (39 + 15 * i + x0.toNatClampNeg))]) (by rw [if_pos hx5, show 38 + 15 * i + 1 + x0.toNatClampNeg = 39 + 15 * i + x0.toNatClampNeg from by omega]; rfl) ?_
  refine lv_astore_n (lv' := [(2, .ref (ad (39 + 15 * i + x0.toNatClampNeg))), (0, .ref (ad (29 + 15 * i))), (1, .int x0)]) hx hb dX0_judge_6 rfl hl (by decide) rfl (fun ls hl => ?_)
  refine lv_iconst (v := 1) hx hb dX0_judge_7 (by decide) ?_
  refine lv_istore_n (lv' := [(3, .int 1), (2, .ref (ad (39 + 15 * i + x0.toNatClampNeg))), (0, .ref (ad (29 + 15 * i))), (1, .int x0)]) hx hb dX0_judge_8 rfl hl (by decide) rfl (fun ls hl => ?_)
  refine lv_aload_n hx hb dX0_judge_9 rfl (lv_at hl 1 rfl) ?_
  refine va_get (D := (dC, dI)) (ci := 6) (v := .int (v (39 + 15 * i + x0.toNatClampNeg) 3)) (C := RX6) (T := TX6) (N := 5) hx hb hts (by decide +kernel) hown hK hP (39 + 15 * i + x0.toNatClampNeg) (wl_at (by omega) (ce_16 (kd_t _ hi _ hx5).1)) rfl 3 (by decide) (hts (.fieldLink RX0 65 "QuietStairs$Term" "first" "I") (by decide +kernel)) (fun _ h9 => h9) rfl dX0_judge_10 ?_
  refine lv_topi (fun x_1 ex_1 => ?_)
  have bzx_1 : 0 ≤ x_1.toInt ∧ x_1.toInt ≤ 23 := by rw [ex_1]; exact hv.at (K := 16) (kd_t _ hi _ hx5).1 rfl
  obtain rfl : fi = x_1 := (ex_1.trans efi.symm).symm
  refine lv_istore (lv' := [(4, .int fi), (3, .int 1), (2, .ref (ad (39 + 15 * i + x0.toNatClampNeg))), (0, .ref (ad (29 + 15 * i))), (1, .int x0)]) hx hb dX0_judge_13 hl (by decide) rfl (fun ls hl => ?_)
  have hc_2 : ∀ (n : Nat) (y2_4 y2_3 : Int32) (H : Heap) (locs : List Loc), 0 ≤ y2_4.toInt → y2_4.toInt ≤ 24 → 0 ≤ y2_3.toInt → y2_3.toInt ≤ 1 → (¬ jE LL fi.toInt y2_4.toInt ac.toInt) → ((y2_3.toInt = 1 ∧ ¬ jE LL fi.toInt y2_4.toInt 7) ∨ (y2_3.toInt = 0 ∧ jE LL fi.toInt y2_4.toInt 7)) → (y2_4.toInt ≤ la.toInt + 1 ∨ y2_4.toInt ≤ fi.toInt) → (fi.toInt ≤ y2_4.toInt) → (24 - y2_4.toInt).toNat < n → va_P (dC, dI) vwCl (wl ad kv cy N v) H → va_D A (wl ad kv cy N v) → va_S A s.heap H locs → ∀ ls : Array Slot, lv_has ls 6 [(4, .int y2_4), (3, .int y2_3), (2, .ref (ad (39 + 15 * i + x0.toNatClampNeg))), (0, .ref (ad (29 + 15 * i))), (1, .int x0)] → W p l e (headSpec wsX0_judge ({ frames := 1, cells := 0, slots := 0, locals := 64 })).room s m [Value.ref (ad (29 + 15 * i)), Value.int x0].toArray below meth c H locs 0 0 (MQ below (va_Qi (fun (r : Int32) (u : Nat → Nat → Int32) => Iv u ∧ u = v ∧ r = jF (v (39 + 15 * i + x0.toNatClampNeg) 1) (v (36 + 15 * i + (v (39 + 15 * i + x0.toNatClampNeg) 0).toNatClampNeg)) (v (39 + 15 * i + x0.toNatClampNeg) 3) (v (39 + 15 * i + x0.toNatClampNeg) 4) (v (39 + 15 * i + x0.toNatClampNeg) 2)) (fun u t => ex_Pst dC dI A (wl ad kv cy N u) t) A) [Value.ref (ad (29 + 15 * i)), Value.int x0].toArray s 0 0 A) (F0 m 15 ls []) := by
    intro n
    induction n with
    | zero =>
      intro y2_4 y2_3 H locs ay2_4 by2_4 ay2_3 by2_3 hi2_0 hi2_1 hi2_2 hi2_3 hm_2 hP hD hS ls hl
      exact absurd hm_2 (by omega)
    | succ n ih_2 =>
      intro y2_4 y2_3 H locs ay2_4 by2_4 ay2_3 by2_3 hi2_0 hi2_1 hi2_2 hi2_3 hm_2 hP hD hS ls hl
      refine lv_iload hx hb dX0_judge_15 (lv_at hl 0 rfl) ?_
      refine lv_aload_n hx hb dX0_judge_17 rfl (lv_at hl 2 rfl) ?_
      refine va_get (D := (dC, dI)) (ci := 6) (v := .int (v (39 + 15 * i + x0.toNatClampNeg) 4)) (C := RX6) (T := TX6) (N := 5) hx hb hts (by decide +kernel) hown hK hP (39 + 15 * i + x0.toNatClampNeg) (wl_at (by omega) (ce_16 (kd_t _ hi _ hx5).1)) rfl 4 (by decide) (hts (.fieldLink RX0 68 "QuietStairs$Term" "last" "I") (by decide +kernel)) (fun _ h9 => h9) rfl dX0_judge_18 ?_
      refine lv_topi (fun x_3 ex_3 => ?_)
      have bzx_3 : 0 ≤ x_3.toInt ∧ x_3.toInt ≤ 23 := by rw [ex_3]; exact hv.at (K := 16) (kd_t _ hi _ hx5).1 rfl
      obtain rfl : la = x_3 := (ex_3.trans ela.symm).symm
      refine lv_icmp_gt (tgt := 75) hx hb dX0_judge_21 (by decide) (fun c_4 => ?_) (fun c_4 => ?_)
      · have tc_4 : y2_4.toInt > la.toInt := Int32.lt_iff_toInt_lt.mp c_4
        refine lv_iload_n hx hb dX0_judge_75 rfl (lv_at hl 1 rfl) ?_
        have k_0 : (0 : Int32).toInt = 0 := by decide
        refine lv_if_ne (tgt := 81) hx hb dX0_judge_76 (by decide) (fun c_5 => ?_) (fun c_5 => ?_)
        · have tc_5 : y2_3.toInt ≠ (0 : Int32).toInt := fun q => absurd (Int32.toInt_inj.mp q) c_5
          refine lv_aload_n hx hb dX0_judge_81 rfl (lv_at hl 2 rfl) ?_
          refine va_get (D := (dC, dI)) (ci := 6) (v := .int (v (39 + 15 * i + x0.toNatClampNeg) 1)) (C := RX6) (T := TX6) (N := 5) hx hb hts (by decide +kernel) hown hK hP (39 + 15 * i + x0.toNatClampNeg) (wl_at (by omega) (ce_16 (kd_t _ hi _ hx5).1)) rfl 1 (by decide) (hts (.fieldLink RX0 77 "QuietStairs$Term" "must" "Z") (by decide +kernel)) (fun _ h9 => h9) rfl dX0_judge_82 ?_
          refine lv_topi (fun x_6 ex_6 => ?_)
          have bzx_6 : 0 ≤ x_6.toInt ∧ x_6.toInt ≤ 1 := by rw [ex_6]; exact hv.at (K := 16) (kd_t _ hi _ hx5).1 rfl
          obtain rfl : mu = x_6 := (ex_6.trans emu.symm).symm
          refine lv_if_eq (tgt := 92) hx hb dX0_judge_85 (by decide) (fun c_7 => ?_) (fun c_7 => ?_)
          · have tc_7 : mu.toInt = (0 : Int32).toInt := by rw [c_7]
            refine lv_iconst (v := 1) hx hb dX0_judge_92 (by decide) ?_
            have k_1 : (1 : Int32).toInt = 1 := by decide
            have hE1 : ¬ jE LL fi.toInt (la.toInt + 1) ac.toInt := fun q => hi2_0 ((jE_end (by omega) (by omega)).mpr q)
            have hm1 : (1 - mu).toInt = 1 - mu.toInt := by rw [t_sub (by rw [k_1]; omega), k_1]
            exact W.iret (v := 1) hx hb hr (fun t ht hW => ⟨⟨1, v, rfl, ⟨hv, rfl, by rw [← esd, ← emu, ← eac, ← efi, ← ela, ← eLL, jF_3 hE1 (by rcases hi2_1 with ⟨q1, q2⟩ | ⟨q1, q2⟩; exact fun q => q2 ((jE_end (by omega) (by omega)).mpr q); exact absurd q1 (by omega))]; exact Int32.toInt_inj.mp (by omega)⟩, by rw [ht]; exact hP, hD⟩, hS.F ht⟩) hS.2.2 dX0_judge_93
          · have tc_7 : mu.toInt ≠ (0 : Int32).toInt := fun q => absurd (Int32.toInt_inj.mp q) c_7
            refine lv_iconst (v := 0) hx hb dX0_judge_88 (by decide) ?_
            refine lv_goto (tgt := 93) hx hb dX0_judge_89 (by decide) ?_
            have k_1 : (1 : Int32).toInt = 1 := by decide
            have hE1 : ¬ jE LL fi.toInt (la.toInt + 1) ac.toInt := fun q => hi2_0 ((jE_end (by omega) (by omega)).mpr q)
            have hm1 : (1 - mu).toInt = 1 - mu.toInt := by rw [t_sub (by rw [k_1]; omega), k_1]
            exact W.iret (v := 0) hx hb hr (fun t ht hW => ⟨⟨0, v, rfl, ⟨hv, rfl, by rw [← esd, ← emu, ← eac, ← efi, ← ela, ← eLL, jF_3 hE1 (by rcases hi2_1 with ⟨q1, q2⟩ | ⟨q1, q2⟩; exact fun q => q2 ((jE_end (by omega) (by omega)).mpr q); exact absurd q1 (by omega))]; exact Int32.toInt_inj.mp (by omega)⟩, by rw [ht]; exact hP, hD⟩, hS.F ht⟩) hS.2.2 dX0_judge_93
        · have tc_5 : y2_3.toInt = (0 : Int32).toInt := by rw [c_5]
          refine lv_iconst (v := 2) hx hb dX0_judge_79 (by decide) ?_
          have k_2 : (2 : Int32).toInt = 2 := by decide
          have k_1 : (1 : Int32).toInt = 1 := by decide
          have hE1 : ¬ jE LL fi.toInt (la.toInt + 1) ac.toInt := fun q => hi2_0 ((jE_end (by omega) (by omega)).mpr q)
          exact W.iret (v := 2) hx hb hr (fun t ht hW => ⟨⟨2, v, rfl, ⟨hv, rfl, by rw [← esd, ← emu, ← eac, ← efi, ← ela, ← eLL, jF_2 hE1 (by rcases hi2_1 with ⟨q1, q2⟩ | ⟨q1, q2⟩; exact absurd q1 (by omega); exact (jE_end (by omega) (by omega)).mp q2)]⟩, by rw [ht]; exact hP, hD⟩, hS.F ht⟩) hS.2.2 dX0_judge_80
      · have tc_4 : y2_4.toInt ≤ la.toInt := Int32.le_iff_toInt_le.mp (Int32.not_lt.mp c_4)
        refine lv_aload_n hx hb dX0_judge_24 rfl (lv_at hl 3 rfl) ?_
        refine va_get (D := (dC, dI)) (ci := 0) (v := .ref (ad (29 + 15 * i + 6))) (C := RX0) (T := TX0) (N := 11) hx hb hts (by decide +kernel) hown hK hP (29 + 15 * i) (wl_at (by omega) (ce_9 (kd_c _ hi).1.1)) rfl 9 (by decide) (hts (.fieldLink RX0 23 "QuietStairs$Case" "logs" "[[I") (by decide +kernel)) (fun _ h9 => h9) rfl dX0_judge_25 ?_
        refine W.eq (g2 := F0 m 28 ls [.ref (ad (35 + 15 * i))]) (by rw [show 29 + 15 * i + 6 = 35 + 15 * i from by omega]) ?_
        refine lv_aload_n hx hb dX0_judge_28 rfl (lv_at hl 2 rfl) ?_
        refine va_get (D := (dC, dI)) (ci := 6) (v := .int (v (39 + 15 * i + x0.toNatClampNeg) 0)) (C := RX6) (T := TX6) (N := 5) hx hb hts (by decide +kernel) hown hK hP (39 + 15 * i + x0.toNatClampNeg) (wl_at (by omega) (ce_16 (kd_t _ hi _ hx5).1)) rfl 0 (by decide) (hts (.fieldLink RX0 71 "QuietStairs$Term" "side" "I") (by decide +kernel)) (fun _ h9 => h9) rfl dX0_judge_29 ?_
        refine lv_topi (fun x_5 ex_5 => ?_)
        have bzx_5 : 0 ≤ x_5.toInt ∧ x_5.toInt ≤ 1 := by rw [ex_5]; exact hv.at (K := 16) (kd_t _ hi _ hx5).1 rfl
        obtain rfl : sd = x_5 := (ex_5.trans esd.symm).symm
        have zn_sd : (sd.toNatClampNeg : Int) = sd.toInt := t_nn (by omega)
        have hx_6 : sd.toNatClampNeg < 2 := by omega
        refine ya_ald hx hb hK hP (35 + 15 * i) (wl_at (by omega) (ce_13 (kd_c _ hi).1.2.2.2.2.1)) (vp_in_iff.mpr ⟨by omega, by omega⟩) dX0_judge_32 ?_
        refine W.eq (g2 := F0 m 33 ls [.ref (ad (36 + 15 * i + sd.toNatClampNeg))]) (by rw [if_pos hx_6, show 35 + 15 * i + 1 + sd.toNatClampNeg = 36 + 15 * i + sd.toNatClampNeg from by omega]; rfl) ?_
        refine lv_iload hx hb dX0_judge_33 (lv_at hl 0 rfl) ?_
        have zn_y2_4 : (y2_4.toNatClampNeg : Int) = y2_4.toInt := t_nn (by omega)
        have hx_7 : y2_4.toNatClampNeg < 24 := by omega
        refine va_iald hx hb hK hP (36 + 15 * i + sd.toNatClampNeg) 0 (wl_at (by omega) (ce_14 (kd_o _ hi _ hx_6).1.2)) rfl (vp_in_iff.mpr ⟨by omega, by omega⟩) dX0_judge_35 ?_
        refine lv_topi (fun x_8 ex_8 => ?_)
        have qx_8 : x_8.toInt = (v (36 + 15 * i + sd.toNatClampNeg) (y2_4.toNatClampNeg)).toInt := congrArg Int32.toInt ex_8
        have hLL : (LL y2_4.toNatClampNeg).toInt = x_8.toInt := by rw [eLL, ex_8]
        refine lv_istore (lv' := [(5, .int x_8), (4, .int y2_4), (3, .int y2_3), (2, .ref (ad (39 + 15 * i + x0.toNatClampNeg))), (0, .ref (ad (29 + 15 * i))), (1, .int x0)]) hx hb dX0_judge_36 hl (by decide) rfl (fun ls hl => ?_)
        refine lv_iload hx hb dX0_judge_38 (lv_at hl 0 rfl) ?_
        refine lv_aload_n hx hb dX0_judge_40 rfl (lv_at hl 3 rfl) ?_
        refine va_get (D := (dC, dI)) (ci := 6) (v := .int (v (39 + 15 * i + x0.toNatClampNeg) 2)) (C := RX6) (T := TX6) (N := 5) hx hb hts (by decide +kernel) hown hK hP (39 + 15 * i + x0.toNatClampNeg) (wl_at (by omega) (ce_16 (kd_t _ hi _ hx5).1)) rfl 2 (by decide) (hts (.fieldLink RX0 74 "QuietStairs$Term" "act" "I") (by decide +kernel)) (fun _ h9 => h9) rfl dX0_judge_41 ?_
        refine lv_topi (fun x_9 ex_9 => ?_)
        obtain rfl : ac = x_9 := (ex_9.trans eac.symm).symm
        refine lv_icmp_ne (tgt := 60) hx hb dX0_judge_44 (by decide) (fun c_10 => ?_) (fun c_10 => ?_)
        · have tc_10 : x_8.toInt ≠ ac.toInt := fun q => absurd (Int32.toInt_inj.mp q) c_10
          refine lv_iload hx hb dX0_judge_60 (lv_at hl 0 rfl) ?_
          refine lv_bipush (v := 7) hx hb dX0_judge_62 (by decide) ?_
          have k_7 : (7 : Int32).toInt = 7 := by decide
          refine lv_icmp_ne (tgt := 69) hx hb dX0_judge_64 (by decide) (fun c_11 => ?_) (fun c_11 => ?_)
          · have tc_11 : x_8.toInt ≠ (7 : Int32).toInt := fun q => absurd (Int32.toInt_inj.mp q) c_11
            obtain ⟨x_12, ex_12⟩ : ∃ y : Int32, y = y2_4 + 1 := ⟨_, rfl⟩
            refine lv_iinc (v := x_12) (lv' := [(4, .int x_12), (5, .int x_8), (3, .int y2_3), (2, .ref (ad (39 + 15 * i + x0.toNatClampNeg))), (0, .ref (ad (29 + 15 * i))), (1, .int x0)]) hx hb dX0_judge_69 hl (k := 1) rfl (by rw [ex_12]; rfl) (by decide) rfl (fun ls hl => ?_)
            have k_1 : (1 : Int32).toInt = 1 := by decide
            have tx_12 : x_12.toInt = y2_4.toInt + (1 : Int32).toInt := by rw [ex_12]; exact t_add ⟨by omega, by omega⟩
            refine lv_goto (tgt := 15) hx hb dX0_judge_72 (by decide) ?_
            exact ih_2 x_12 y2_3 _ _ (by omega) (by omega) (by omega) (by omega) (jE_no (by omega) (by omega) hi2_0 (by omega)) (by rcases hi2_1 with ⟨q1, q2⟩ | ⟨q1, q2⟩; exact Or.inl ⟨q1, jE_no (y := y2_4) (by omega) (by omega) q2 (by omega)⟩; exact Or.inr ⟨q1, jE_up q2 (by omega)⟩) (by omega) (by omega) (by omega) hP hD hS ls (lv_sub hl [0, 2, 3, 4, 5] rfl)
          · have tc_11 : x_8.toInt = (7 : Int32).toInt := by rw [c_11]
            refine lv_iconst (v := 0) hx hb dX0_judge_67 (by decide) ?_
            refine lv_istore_n (lv' := [(3, .int 0), (5, .int x_8), (4, .int y2_4), (2, .ref (ad (39 + 15 * i + x0.toNatClampNeg))), (0, .ref (ad (29 + 15 * i))), (1, .int x0)]) hx hb dX0_judge_68 rfl hl (by decide) rfl (fun ls hl => ?_)
            obtain ⟨x_12, ex_12⟩ : ∃ y : Int32, y = y2_4 + 1 := ⟨_, rfl⟩
            refine lv_iinc (v := x_12) (lv' := [(4, .int x_12), (3, .int 0), (5, .int x_8), (2, .ref (ad (39 + 15 * i + x0.toNatClampNeg))), (0, .ref (ad (29 + 15 * i))), (1, .int x0)]) hx hb dX0_judge_69 hl (k := 2) rfl (by rw [ex_12]; rfl) (by decide) rfl (fun ls hl => ?_)
            have k_1 : (1 : Int32).toInt = 1 := by decide
            have tx_12 : x_12.toInt = y2_4.toInt + (1 : Int32).toInt := by rw [ex_12]; exact t_add ⟨by omega, by omega⟩
            refine lv_goto (tgt := 15) hx hb dX0_judge_72 (by decide) ?_
            have k_0 : (0 : Int32).toInt = 0 := by decide
            exact ih_2 x_12 0 _ _ (by omega) (by omega) (by omega) (by omega) (jE_no (by omega) (by omega) hi2_0 (by omega)) (Or.inr ⟨by decide, jE_in (y := y2_4) (by omega) (by omega) (by omega) (by omega)⟩) (by omega) (by omega) (by omega) hP hD hS ls (lv_sub hl [0, 1, 3, 4, 5] rfl)
        · have tc_10 : x_8.toInt = ac.toInt := by rw [c_10]
          refine lv_aload_n hx hb dX0_judge_47 rfl (lv_at hl 3 rfl) ?_
          refine va_get (D := (dC, dI)) (ci := 6) (v := .int (v (39 + 15 * i + x0.toNatClampNeg) 1)) (C := RX6) (T := TX6) (N := 5) hx hb hts (by decide +kernel) hown hK hP (39 + 15 * i + x0.toNatClampNeg) (wl_at (by omega) (ce_16 (kd_t _ hi _ hx5).1)) rfl 1 (by decide) (hts (.fieldLink RX0 77 "QuietStairs$Term" "must" "Z") (by decide +kernel)) (fun _ h9 => h9) rfl dX0_judge_48 ?_
          refine lv_topi (fun x_11 ex_11 => ?_)
          have bzx_11 : 0 ≤ x_11.toInt ∧ x_11.toInt ≤ 1 := by rw [ex_11]; exact hv.at (K := 16) (kd_t _ hi _ hx5).1 rfl
          obtain rfl : mu = x_11 := (ex_11.trans emu.symm).symm
          have k_0 : (0 : Int32).toInt = 0 := by decide
          refine lv_if_eq (tgt := 58) hx hb dX0_judge_51 (by decide) (fun c_12 => ?_) (fun c_12 => ?_)
          · have tc_12 : mu.toInt = (0 : Int32).toInt := by rw [c_12]
            refine lv_iconst (v := 0) hx hb dX0_judge_58 (by decide) ?_
            have k_1 : (1 : Int32).toInt = 1 := by decide
            exact W.iret (v := 0) hx hb hr (fun t ht hW => ⟨⟨0, v, rfl, ⟨hv, rfl, by rw [← esd, ← emu, ← eac, ← efi, ← ela, ← eLL, jF_1 (jE_in (y := y2_4) (by omega) (by omega) (by omega) (by omega))]; exact Int32.toInt_inj.mp (by omega)⟩, by rw [ht]; exact hP, hD⟩, hS.F ht⟩) hS.2.2 dX0_judge_59
          · have tc_12 : mu.toInt ≠ (0 : Int32).toInt := fun q => absurd (Int32.toInt_inj.mp q) c_12
            refine lv_iconst (v := 1) hx hb dX0_judge_54 (by decide) ?_
            refine lv_goto (tgt := 59) hx hb dX0_judge_55 (by decide) ?_
            have k_1 : (1 : Int32).toInt = 1 := by decide
            exact W.iret (v := 1) hx hb hr (fun t ht hW => ⟨⟨1, v, rfl, ⟨hv, rfl, by rw [← esd, ← emu, ← eac, ← efi, ← ela, ← eLL, jF_1 (jE_in (y := y2_4) (by omega) (by omega) (by omega) (by omega))]; exact Int32.toInt_inj.mp (by omega)⟩, by rw [ht]; exact hP, hD⟩, hS.F ht⟩) hS.2.2 dX0_judge_59
  have k_1 : (1 : Int32).toInt = 1 := by decide
  exact hc_2 ((24 - fi.toInt).toNat + 1) fi 1 _ _ (by omega) (by omega) (by omega) (by omega) (jE_non (by omega)) (Or.inl ⟨by decide, jE_non (by omega)⟩) (by omega) (by omega) (by omega) hP hD hS ls (lv_sub hl [0, 1, 2, 3, 4] rfl)

theorem bS_t {c t w : Nat} (hc : c < 6) (ht : t < 5) (hw : w = 158 ∨ w = 159) : bS (w + 25 * c + 5 * t) = some 1 := by
  unfold bS
  repeat' split
  all_goals first | rfl | (exfalso; omega)
theorem bS_u {c t w : Nat} (hc : c < 6) (ht : t < 5) (hw : w = 161 ∨ w = 162) : bS (w + 25 * c + 5 * t) = some 23 := by
  unfold bS
  repeat' split
  all_goals first | rfl | (exfalso; omega)

set_option maxHeartbeats 4000000 in
set_option maxRecDepth 100000 in
theorem e_X8_judge (l : Launch) (dC : Nat → ClassId) (dI : Nat → Nat → Nat) (cy : Nat → ClassId) (sz : Nat) (ad : Nat → Nat) (v : Nat → Nat → Int32) (hv : Ir v) (x0 x1 : Int32) (hc : 0 ≤ x0.toInt ∧ x0.toInt ≤ 5) (ht : 0 ≤ x1.toInt ∧ x1.toInt ≤ 4) : Met l yX8_judge wsX8_judge ({ frames := 1, cells := 0, slots := 0, locals := 64 }) (va_Pc [.ref (ad 0), .int x0, .int x1] (ex_Pre dC dI cy sz (wm ad cy v))) (va_Qi (fun (r : Int32) (u : Nat → Nat → Int32) => Ir u ∧ u = v ∧ r = jF (v 1 (159 + 25 * x0.toNatClampNeg + 5 * x1.toNatClampNeg)) (fun h => v 1 (308 + 48 * x0.toNatClampNeg + 24 * (v 1 (158 + 25 * x0.toNatClampNeg + 5 * x1.toNatClampNeg)).toNatClampNeg + h)) (v 1 (161 + 25 * x0.toNatClampNeg + 5 * x1.toNatClampNeg)) (v 1 (162 + 25 * x0.toNatClampNeg + 5 * x1.toNatClampNeg)) (v 1 (160 + 25 * x0.toNatClampNeg + 5 * x1.toNatClampNeg))) (fun u t => ex_Pst dC dI (va_A (wm ad cy v) sz) (wm ad cy u) t) (va_A (wm ad cy v) sz)) 0 0 (va_A (wm ad cy v) sz) := by
  refine Met.ofW (cc := cX8_judge) (maxL := 8) (ret := (some .int)) (by decide) rfl ?_
  intro p e s m args below meth c s₁ B hml hv
  obtain ⟨rfl, hsz, hE, hP, hK, hD0⟩ := hv
  have hx := B.exec
  have hb := B.bytes
  have hr := B.returns
  have hts := atoms_spec (ws := wsX8_judge) B.pre
  have hown : s.vm.findClass RX8 = some m.cls := findClass_of_methodNamed B.named
  have hlocks := B.notSynchronized
  subst hsz
  have hD := hD0.self (sz := s.heap.size)
  generalize hAe : va_A (wm ad cy v) s.heap.size = A at hD ⊢
  have hA : ∀ q : Nat, s.heap.size ≤ q → A q := fun q h => by rw [← hAe]; exact Or.inr h
  have hS : va_S A s.heap s.heap [] := va_S.rf
  have hP : va_P (dC, dI) vwCl (wm ad cy v) s.heap := hP
  have hl := lv_entry ([.ref (ad 0), .int x0, .int x1]) (n := 8) (Nat.le_of_ble_eq_true rfl)
  rw [lg_entry_eq]
  generalize (lg_sl ([.ref (ad 0), .int x0, .int x1]) ++ List.replicate (8 - (lg_sl ([.ref (ad 0), .int x0, .int x1])).length) Slot.unset).toArray = ls at hl ⊢
  have hl : lv_has ls 8 [(0, .ref (ad 0)), (1, .int x0), (2, .int x1)] := hl
  have zn_x0 : (x0.toNatClampNeg : Int) = x0.toInt := t_nn (by omega)
  have zn_x1 : (x1.toNatClampNeg : Int) = x1.toInt := t_nn (by omega)
  obtain ⟨sd, esd⟩ : ∃ z : Int32, z = v 1 (158 + 25 * x0.toNatClampNeg + 5 * x1.toNatClampNeg) := ⟨_, rfl⟩
  have hbsd : 0 ≤ sd.toInt ∧ sd.toInt ≤ 1 := by rw [esd]; exact hv 1 _ 1 (bS_t (by omega) (by omega) (by omega))
  obtain ⟨mu, emu⟩ : ∃ z : Int32, z = v 1 (159 + 25 * x0.toNatClampNeg + 5 * x1.toNatClampNeg) := ⟨_, rfl⟩
  have hbmu : 0 ≤ mu.toInt ∧ mu.toInt ≤ 1 := by rw [emu]; exact hv 1 _ 1 (bS_t (by omega) (by omega) (by omega))
  obtain ⟨ac, eac⟩ : ∃ z : Int32, z = v 1 (160 + 25 * x0.toNatClampNeg + 5 * x1.toNatClampNeg) := ⟨_, rfl⟩
  obtain ⟨fi, efi⟩ : ∃ z : Int32, z = v 1 (161 + 25 * x0.toNatClampNeg + 5 * x1.toNatClampNeg) := ⟨_, rfl⟩
  have hbfi : 0 ≤ fi.toInt ∧ fi.toInt ≤ 23 := by rw [efi]; exact hv 1 _ 23 (bS_u (by omega) (by omega) (by omega))
  obtain ⟨la, ela⟩ : ∃ z : Int32, z = v 1 (162 + 25 * x0.toNatClampNeg + 5 * x1.toNatClampNeg) := ⟨_, rfl⟩
  have hbla : 0 ≤ la.toInt ∧ la.toInt ≤ 23 := by rw [ela]; exact hv 1 _ 23 (bS_u (by omega) (by omega) (by omega))
  have zn_sd : (sd.toNatClampNeg : Int) = sd.toInt := t_nn (by omega)
  obtain ⟨LL, eLL⟩ : ∃ f : Nat → Int32, f = fun h => v 1 (308 + 48 * x0.toNatClampNeg + 24 * sd.toNatClampNeg + h) := ⟨_, rfl⟩
  refine lv_iload_n hx hb dX8_judge_0 rfl (lv_at hl 1 rfl) ?_
  refine lv_iload_n hx hb dX8_judge_1 rfl (lv_at hl 2 rfl) ?_
  refine yc_p hP hS (va_runS (As := [.int x0, .int x1]) (rest := []) ⟨hx, hb, hml, hown, hts⟩ (c_X8_termAt l x0 x1) (cwS 2 hts gX8_judge_X8_termAt rfl rfl rfl (by decide +kernel) ⟨Nat.le_of_ble_eq_true rfl, Nat.le_of_ble_eq_true rfl⟩) ex_preP rfl rfl hl.1 rfl (lv_room (Nat.le_of_ble_eq_true rfl)) dX8_judge_2 ⟨Nat.le_of_ble_eq_true rfl, Nat.le_of_ble_eq_true rfl⟩) (fun r_1 H locs hw_1 hP hS => ?_)
  have tr_1 : r_1.toInt = 158 + 25 * x0.toInt + 5 * x1.toInt := t_tm hw_1 ⟨by omega, by omega⟩ ⟨by omega, by omega⟩
  refine lv_istore_n (lv' := [(3, .int r_1), (0, .ref (ad 0)), (1, .int x0), (2, .int x1)]) hx hb dX8_judge_5 rfl hl (by decide) rfl (fun ls hl => ?_)
  refine lv_iconst (v := 0) hx hb dX8_judge_6 (by decide) ?_
  refine lv_istore (lv' := [(4, .int 0), (3, .int r_1), (0, .ref (ad 0)), (1, .int x0), (2, .int x1)]) hx hb dX8_judge_7 hl (by decide) rfl (fun ls hl => ?_)
  refine lv_iconst (v := 1) hx hb dX8_judge_9 (by decide) ?_
  refine lv_istore (lv' := [(5, .int 1), (4, .int 0), (3, .int r_1), (0, .ref (ad 0)), (1, .int x0), (2, .int x1)]) hx hb dX8_judge_10 hl (by decide) rfl (fun ls hl => ?_)
  refine lv_aload_n hx hb dX8_judge_12 rfl (lv_at hl 3 rfl) ?_
  refine va_get (D := (dC, dI)) (ci := 8) (v := .ref (ad 1)) (C := RX8) (T := TX8) (N := 11) hx hb hts (by decide +kernel) hown hK hP (0) (wm_at (by decide) rc_0) rfl 0 (by decide) (hts (.fieldLink RX8 7 "QuietStairsModel" "s" "[I") (by decide +kernel)) (fun _ h9 => h9) rfl dX8_judge_13 ?_
  refine lv_iload_n hx hb dX8_judge_16 rfl (lv_at hl 2 rfl) ?_
  refine lv_iconst (v := 3) hx hb dX8_judge_17 (by decide) ?_
  refine lv_iadd hx hb dX8_judge_18 ?_
  refine lv_topi (fun x_2 ex_2 => ?_)
  have k_3 : (3 : Int32).toInt = 3 := by decide
  have tx_2 : x_2.toInt = r_1.toInt + (3 : Int32).toInt := by rw [ex_2]; exact t_add ⟨by omega, by omega⟩
  have nx_2 : x_2.toNatClampNeg = 161 + 25 * x0.toNatClampNeg + 5 * x1.toNatClampNeg := by have z1 := t_nn (x := x_2) (by omega); omega
  refine va_iald hx hb hK hP (1) 0 (wm_at (by decide) rc_1) rfl (vp_in_iff.mpr ⟨by omega, by omega⟩) dX8_judge_19 ?_
  refine lv_topi (fun x_3 ex_3 => ?_)
  have bzx_3 : 0 ≤ x_3.toInt ∧ x_3.toInt ≤ 23 := by rw [ex_3]; exact hv 1 _ 23 (bx_t3 (i := 5 * x0.toInt + x1.toInt) (s := 3) (by omega) ⟨by omega, by omega⟩ (by omega))
  rw [nx_2] at ex_3
  obtain rfl : fi = x_3 := (ex_3.trans efi.symm).symm
  refine lv_istore (lv' := [(6, .int fi), (5, .int 1), (4, .int 0), (3, .int r_1), (0, .ref (ad 0)), (1, .int x0), (2, .int x1)]) hx hb dX8_judge_20 hl (by decide) rfl (fun ls hl => ?_)
  have hc_4 : ∀ (n : Nat) (y4_6 y4_4 y4_5 : Int32) (H : Heap) (locs : List Loc), 0 ≤ y4_6.toInt → y4_6.toInt ≤ 24 → 0 ≤ y4_4.toInt → y4_4.toInt ≤ 1 → 0 ≤ y4_5.toInt → y4_5.toInt ≤ 1 → ((y4_4.toInt = 1 ∧ jE LL fi.toInt y4_6.toInt ac.toInt) ∨ (y4_4.toInt = 0 ∧ ¬ jE LL fi.toInt y4_6.toInt ac.toInt)) → ((y4_5.toInt = 1 ∧ ¬ jE LL fi.toInt y4_6.toInt 7) ∨ (y4_5.toInt = 0 ∧ jE LL fi.toInt y4_6.toInt 7)) → (y4_6.toInt ≤ la.toInt + 1 ∨ y4_6.toInt ≤ fi.toInt) → (fi.toInt ≤ y4_6.toInt) → (24 - y4_6.toInt).toNat < n → va_P (dC, dI) vwCl (wm ad cy v) H → va_D A (wm ad cy v) → va_S A s.heap H locs → ∀ ls : Array Slot, lv_has ls 8 [(6, .int y4_6), (5, .int y4_5), (4, .int y4_4), (3, .int r_1), (0, .ref (ad 0)), (1, .int x0), (2, .int x1)] → W p l e (headSpec wsX8_judge ({ frames := 1, cells := 0, slots := 0, locals := 64 })).room s m [Value.ref (ad 0), Value.int x0, Value.int x1].toArray below meth c H locs 0 0 (MQ below (va_Qi (fun (r : Int32) (u : Nat → Nat → Int32) => Ir u ∧ u = v ∧ r = jF (v 1 (159 + 25 * x0.toNatClampNeg + 5 * x1.toNatClampNeg)) (fun h => v 1 (308 + 48 * x0.toNatClampNeg + 24 * (v 1 (158 + 25 * x0.toNatClampNeg + 5 * x1.toNatClampNeg)).toNatClampNeg + h)) (v 1 (161 + 25 * x0.toNatClampNeg + 5 * x1.toNatClampNeg)) (v 1 (162 + 25 * x0.toNatClampNeg + 5 * x1.toNatClampNeg)) (v 1 (160 + 25 * x0.toNatClampNeg + 5 * x1.toNatClampNeg))) (fun u t => ex_Pst dC dI A (wm ad cy u) t) A) [Value.ref (ad 0), Value.int x0, Value.int x1].toArray s 0 0 A) (F0 m 22 ls []) := by
    intro n
    induction n with
    | zero =>
      intro y4_6 y4_4 y4_5 H locs ay4_6 by4_6 ay4_4 by4_4 ay4_5 by4_5 hi4_0 hi4_1 hi4_2 hi4_3 hm_4 hP hD hS ls hl
      exact absurd hm_4 (by omega)
    | succ n ih_4 =>
      intro y4_6 y4_4 y4_5 H locs ay4_6 by4_6 ay4_4 by4_4 ay4_5 by4_5 hi4_0 hi4_1 hi4_2 hi4_3 hm_4 hP hD hS ls hl
      refine lv_iload hx hb dX8_judge_22 (lv_at hl 0 rfl) ?_
      refine lv_aload_n hx hb dX8_judge_24 rfl (lv_at hl 4 rfl) ?_
      refine va_get (D := (dC, dI)) (ci := 8) (v := .ref (ad 1)) (C := RX8) (T := TX8) (N := 11) hx hb hts (by decide +kernel) hown hK hP (0) (wm_at (by decide) rc_0) rfl 0 (by decide) (hts (.fieldLink RX8 7 "QuietStairsModel" "s" "[I") (by decide +kernel)) (fun _ h9 => h9) rfl dX8_judge_25 ?_
      refine lv_iload_n hx hb dX8_judge_28 rfl (lv_at hl 3 rfl) ?_
      refine lv_iconst (v := 4) hx hb dX8_judge_29 (by decide) ?_
      refine lv_iadd hx hb dX8_judge_30 ?_
      refine lv_topi (fun x_5 ex_5 => ?_)
      have k_4 : (4 : Int32).toInt = 4 := by decide
      have tx_5 : x_5.toInt = r_1.toInt + (4 : Int32).toInt := by rw [ex_5]; exact t_add ⟨by omega, by omega⟩
      have nx_5 : x_5.toNatClampNeg = 162 + 25 * x0.toNatClampNeg + 5 * x1.toNatClampNeg := by have z1 := t_nn (x := x_5) (by omega); omega
      refine va_iald hx hb hK hP (1) 0 (wm_at (by decide) rc_1) rfl (vp_in_iff.mpr ⟨by omega, by omega⟩) dX8_judge_31 ?_
      refine lv_topi (fun x_6 ex_6 => ?_)
      have bzx_6 : 0 ≤ x_6.toInt ∧ x_6.toInt ≤ 23 := by rw [ex_6]; exact hv 1 _ 23 (bx_t3 (i := 5 * x0.toInt + x1.toInt) (s := 4) (by omega) ⟨by omega, by omega⟩ (by omega))
      rw [nx_5] at ex_6
      obtain rfl : la = x_6 := (ex_6.trans ela.symm).symm
      refine lv_icmp_gt (tgt := 112) hx hb dX8_judge_32 (by decide) (fun c_7 => ?_) (fun c_7 => ?_)
      · have tc_7 : y4_6.toInt > la.toInt := Int32.lt_iff_toInt_lt.mp c_7
        refine lv_aload_n hx hb dX8_judge_112 rfl (lv_at hl 4 rfl) ?_
        refine va_get (D := (dC, dI)) (ci := 8) (v := .ref (ad 1)) (C := RX8) (T := TX8) (N := 11) hx hb hts (by decide +kernel) hown hK hP (0) (wm_at (by decide) rc_0) rfl 0 (by decide) (hts (.fieldLink RX8 7 "QuietStairsModel" "s" "[I") (by decide +kernel)) (fun _ h9 => h9) rfl dX8_judge_113 ?_
        refine lv_iload_n hx hb dX8_judge_116 rfl (lv_at hl 3 rfl) ?_
        refine lv_iconst (v := 1) hx hb dX8_judge_117 (by decide) ?_
        refine lv_iadd hx hb dX8_judge_118 ?_
        refine lv_topi (fun x_8 ex_8 => ?_)
        have k_1 : (1 : Int32).toInt = 1 := by decide
        have tx_8 : x_8.toInt = r_1.toInt + (1 : Int32).toInt := by rw [ex_8]; exact t_add ⟨by omega, by omega⟩
        have nx_8 : x_8.toNatClampNeg = 159 + 25 * x0.toNatClampNeg + 5 * x1.toNatClampNeg := by have z1 := t_nn (x := x_8) (by omega); omega
        refine va_iald hx hb hK hP (1) 0 (wm_at (by decide) rc_1) rfl (vp_in_iff.mpr ⟨by omega, by omega⟩) dX8_judge_119 ?_
        refine lv_topi (fun x_9 ex_9 => ?_)
        have bzx_9 : 0 ≤ x_9.toInt ∧ x_9.toInt ≤ 1 := by rw [ex_9]; exact hv 1 _ 1 (bx_t0 (i := 5 * x0.toInt + x1.toInt) (s := 1) (by omega) ⟨by omega, by omega⟩ (by omega))
        rw [nx_8] at ex_9
        obtain rfl : mu = x_9 := (ex_9.trans emu.symm).symm
        refine lv_iconst (v := 1) hx hb dX8_judge_120 (by decide) ?_
        refine lv_icmp_ne (tgt := 144) hx hb dX8_judge_121 (by decide) (fun c_10 => ?_) (fun c_10 => ?_)
        · have tc_10 : mu.toInt ≠ (1 : Int32).toInt := fun q => absurd (Int32.toInt_inj.mp q) c_10
          refine lv_iload hx hb dX8_judge_144 (lv_at hl 2 rfl) ?_
          have k_0 : (0 : Int32).toInt = 0 := by decide
          refine lv_if_eq (tgt := 153) hx hb dX8_judge_146 (by decide) (fun c_11 => ?_) (fun c_11 => ?_)
          · have tc_11 : y4_4.toInt = (0 : Int32).toInt := by rw [c_11]
            refine lv_iload hx hb dX8_judge_153 (lv_at hl 1 rfl) ?_
            refine lv_if_eq (tgt := 162) hx hb dX8_judge_155 (by decide) (fun c_12 => ?_) (fun c_12 => ?_)
            · have tc_12 : y4_5.toInt = (0 : Int32).toInt := by rw [c_12]
              refine lv_iconst (v := 2) hx hb dX8_judge_162 (by decide) ?_
              have k_2 : (2 : Int32).toInt = 2 := by decide
              have hE1 : jE LL fi.toInt y4_6.toInt ac.toInt ↔ jE LL fi.toInt (la.toInt + 1) ac.toInt := jE_end (by omega) (by omega)
              have hE7 : jE LL fi.toInt y4_6.toInt 7 ↔ jE LL fi.toInt (la.toInt + 1) 7 := jE_end (by omega) (by omega)
              have hm1 : (1 - mu).toInt = 1 - mu.toInt := by rw [t_sub (by rw [k_1]; omega), k_1]
              exact W.iret (v := 2) hx hb hr (fun t ht hW => ⟨⟨2, v, rfl, ⟨hv, rfl, by rw [← esd, ← emu, ← eac, ← efi, ← ela, ← eLL]; rcases hi4_0 with ⟨q1, q2⟩ | ⟨q1, q2⟩; (first | (exfalso; omega) | (rw [jF_1 (hE1.mp q2)]; exact Int32.toInt_inj.mp (by omega))); rcases hi4_1 with ⟨q3, q4⟩ | ⟨q3, q4⟩; (first | (exfalso; omega) | (rw [jF_3 (fun q => q2 (hE1.mpr q)) (fun q => q4 (hE7.mpr q))]; exact Int32.toInt_inj.mp (by omega))); (first | (exfalso; omega) | (rw [jF_2 (fun q => q2 (hE1.mpr q)) (hE7.mp q4)]))⟩, by rw [ht]; exact hP, hD⟩, hS.F ht⟩) hS.2.2 dX8_judge_163
            · have tc_12 : y4_5.toInt ≠ (0 : Int32).toInt := fun q => absurd (Int32.toInt_inj.mp q) c_12
              refine lv_iconst (v := 1) hx hb dX8_judge_158 (by decide) ?_
              refine lv_goto (tgt := 163) hx hb dX8_judge_159 (by decide) ?_
              have hE1 : jE LL fi.toInt y4_6.toInt ac.toInt ↔ jE LL fi.toInt (la.toInt + 1) ac.toInt := jE_end (by omega) (by omega)
              have hE7 : jE LL fi.toInt y4_6.toInt 7 ↔ jE LL fi.toInt (la.toInt + 1) 7 := jE_end (by omega) (by omega)
              have hm1 : (1 - mu).toInt = 1 - mu.toInt := by rw [t_sub (by rw [k_1]; omega), k_1]
              exact W.iret (v := 1) hx hb hr (fun t ht hW => ⟨⟨1, v, rfl, ⟨hv, rfl, by rw [← esd, ← emu, ← eac, ← efi, ← ela, ← eLL]; rcases hi4_0 with ⟨q1, q2⟩ | ⟨q1, q2⟩; (first | (exfalso; omega) | (rw [jF_1 (hE1.mp q2)]; exact Int32.toInt_inj.mp (by omega))); rcases hi4_1 with ⟨q3, q4⟩ | ⟨q3, q4⟩; (first | (exfalso; omega) | (rw [jF_3 (fun q => q2 (hE1.mpr q)) (fun q => q4 (hE7.mpr q))]; exact Int32.toInt_inj.mp (by omega))); (first | (exfalso; omega) | (rw [jF_2 (fun q => q2 (hE1.mpr q)) (hE7.mp q4)]))⟩, by rw [ht]; exact hP, hD⟩, hS.F ht⟩) hS.2.2 dX8_judge_163
          · have tc_11 : y4_4.toInt ≠ (0 : Int32).toInt := fun q => absurd (Int32.toInt_inj.mp q) c_11
            refine lv_iconst (v := 0) hx hb dX8_judge_149 (by decide) ?_
            refine lv_goto (tgt := 163) hx hb dX8_judge_150 (by decide) ?_
            have hE1 : jE LL fi.toInt y4_6.toInt ac.toInt ↔ jE LL fi.toInt (la.toInt + 1) ac.toInt := jE_end (by omega) (by omega)
            have hE7 : jE LL fi.toInt y4_6.toInt 7 ↔ jE LL fi.toInt (la.toInt + 1) 7 := jE_end (by omega) (by omega)
            have hm1 : (1 - mu).toInt = 1 - mu.toInt := by rw [t_sub (by rw [k_1]; omega), k_1]
            exact W.iret (v := 0) hx hb hr (fun t ht hW => ⟨⟨0, v, rfl, ⟨hv, rfl, by rw [← esd, ← emu, ← eac, ← efi, ← ela, ← eLL]; rcases hi4_0 with ⟨q1, q2⟩ | ⟨q1, q2⟩; (first | (exfalso; omega) | (rw [jF_1 (hE1.mp q2)]; exact Int32.toInt_inj.mp (by omega))); rcases hi4_1 with ⟨q3, q4⟩ | ⟨q3, q4⟩; (first | (exfalso; omega) | (rw [jF_3 (fun q => q2 (hE1.mpr q)) (fun q => q4 (hE7.mpr q))]; exact Int32.toInt_inj.mp (by omega))); (first | (exfalso; omega) | (rw [jF_2 (fun q => q2 (hE1.mpr q)) (hE7.mp q4)]))⟩, by rw [ht]; exact hP, hD⟩, hS.F ht⟩) hS.2.2 dX8_judge_163
        · have tc_10 : mu.toInt = (1 : Int32).toInt := by rw [c_10]
          refine lv_iload hx hb dX8_judge_124 (lv_at hl 2 rfl) ?_
          have k_0 : (0 : Int32).toInt = 0 := by decide
          refine lv_if_eq (tgt := 133) hx hb dX8_judge_126 (by decide) (fun c_11 => ?_) (fun c_11 => ?_)
          · have tc_11 : y4_4.toInt = (0 : Int32).toInt := by rw [c_11]
            refine lv_iload hx hb dX8_judge_133 (lv_at hl 1 rfl) ?_
            refine lv_if_eq (tgt := 142) hx hb dX8_judge_135 (by decide) (fun c_12 => ?_) (fun c_12 => ?_)
            · have tc_12 : y4_5.toInt = (0 : Int32).toInt := by rw [c_12]
              refine lv_iconst (v := 2) hx hb dX8_judge_142 (by decide) ?_
              have k_2 : (2 : Int32).toInt = 2 := by decide
              have hE1 : jE LL fi.toInt y4_6.toInt ac.toInt ↔ jE LL fi.toInt (la.toInt + 1) ac.toInt := jE_end (by omega) (by omega)
              have hE7 : jE LL fi.toInt y4_6.toInt 7 ↔ jE LL fi.toInt (la.toInt + 1) 7 := jE_end (by omega) (by omega)
              have hm1 : (1 - mu).toInt = 1 - mu.toInt := by rw [t_sub (by rw [k_1]; omega), k_1]
              exact W.iret (v := 2) hx hb hr (fun t ht hW => ⟨⟨2, v, rfl, ⟨hv, rfl, by rw [← esd, ← emu, ← eac, ← efi, ← ela, ← eLL]; rcases hi4_0 with ⟨q1, q2⟩ | ⟨q1, q2⟩; (first | (exfalso; omega) | (rw [jF_1 (hE1.mp q2)]; exact Int32.toInt_inj.mp (by omega))); rcases hi4_1 with ⟨q3, q4⟩ | ⟨q3, q4⟩; (first | (exfalso; omega) | (rw [jF_3 (fun q => q2 (hE1.mpr q)) (fun q => q4 (hE7.mpr q))]; exact Int32.toInt_inj.mp (by omega))); (first | (exfalso; omega) | (rw [jF_2 (fun q => q2 (hE1.mpr q)) (hE7.mp q4)]))⟩, by rw [ht]; exact hP, hD⟩, hS.F ht⟩) hS.2.2 dX8_judge_143
            · have tc_12 : y4_5.toInt ≠ (0 : Int32).toInt := fun q => absurd (Int32.toInt_inj.mp q) c_12
              refine lv_iconst (v := 0) hx hb dX8_judge_138 (by decide) ?_
              refine lv_goto (tgt := 143) hx hb dX8_judge_139 (by decide) ?_
              have hE1 : jE LL fi.toInt y4_6.toInt ac.toInt ↔ jE LL fi.toInt (la.toInt + 1) ac.toInt := jE_end (by omega) (by omega)
              have hE7 : jE LL fi.toInt y4_6.toInt 7 ↔ jE LL fi.toInt (la.toInt + 1) 7 := jE_end (by omega) (by omega)
              have hm1 : (1 - mu).toInt = 1 - mu.toInt := by rw [t_sub (by rw [k_1]; omega), k_1]
              exact W.iret (v := 0) hx hb hr (fun t ht hW => ⟨⟨0, v, rfl, ⟨hv, rfl, by rw [← esd, ← emu, ← eac, ← efi, ← ela, ← eLL]; rcases hi4_0 with ⟨q1, q2⟩ | ⟨q1, q2⟩; (first | (exfalso; omega) | (rw [jF_1 (hE1.mp q2)]; exact Int32.toInt_inj.mp (by omega))); rcases hi4_1 with ⟨q3, q4⟩ | ⟨q3, q4⟩; (first | (exfalso; omega) | (rw [jF_3 (fun q => q2 (hE1.mpr q)) (fun q => q4 (hE7.mpr q))]; exact Int32.toInt_inj.mp (by omega))); (first | (exfalso; omega) | (rw [jF_2 (fun q => q2 (hE1.mpr q)) (hE7.mp q4)]))⟩, by rw [ht]; exact hP, hD⟩, hS.F ht⟩) hS.2.2 dX8_judge_143
          · have tc_11 : y4_4.toInt ≠ (0 : Int32).toInt := fun q => absurd (Int32.toInt_inj.mp q) c_11
            refine lv_iconst (v := 1) hx hb dX8_judge_129 (by decide) ?_
            refine lv_goto (tgt := 143) hx hb dX8_judge_130 (by decide) ?_
            have hE1 : jE LL fi.toInt y4_6.toInt ac.toInt ↔ jE LL fi.toInt (la.toInt + 1) ac.toInt := jE_end (by omega) (by omega)
            have hE7 : jE LL fi.toInt y4_6.toInt 7 ↔ jE LL fi.toInt (la.toInt + 1) 7 := jE_end (by omega) (by omega)
            have hm1 : (1 - mu).toInt = 1 - mu.toInt := by rw [t_sub (by rw [k_1]; omega), k_1]
            exact W.iret (v := 1) hx hb hr (fun t ht hW => ⟨⟨1, v, rfl, ⟨hv, rfl, by rw [← esd, ← emu, ← eac, ← efi, ← ela, ← eLL]; rcases hi4_0 with ⟨q1, q2⟩ | ⟨q1, q2⟩; (first | (exfalso; omega) | (rw [jF_1 (hE1.mp q2)]; exact Int32.toInt_inj.mp (by omega))); rcases hi4_1 with ⟨q3, q4⟩ | ⟨q3, q4⟩; (first | (exfalso; omega) | (rw [jF_3 (fun q => q2 (hE1.mpr q)) (fun q => q4 (hE7.mpr q))]; exact Int32.toInt_inj.mp (by omega))); (first | (exfalso; omega) | (rw [jF_2 (fun q => q2 (hE1.mpr q)) (hE7.mp q4)]))⟩, by rw [ht]; exact hP, hD⟩, hS.F ht⟩) hS.2.2 dX8_judge_143
      · have tc_7 : y4_6.toInt ≤ la.toInt := Int32.le_iff_toInt_le.mp (Int32.not_lt.mp c_7)
        refine lv_aload_n hx hb dX8_judge_35 rfl (lv_at hl 4 rfl) ?_
        refine va_get (D := (dC, dI)) (ci := 8) (v := .ref (ad 1)) (C := RX8) (T := TX8) (N := 11) hx hb hts (by decide +kernel) hown hK hP (0) (wm_at (by decide) rc_0) rfl 0 (by decide) (hts (.fieldLink RX8 7 "QuietStairsModel" "s" "[I") (by decide +kernel)) (fun _ h9 => h9) rfl dX8_judge_36 ?_
        refine lv_sipush (v := 308) hx hb dX8_judge_39 (by decide) ?_
        refine lv_bipush (v := 24) hx hb dX8_judge_42 (by decide) ?_
        refine lv_iconst (v := 2) hx hb dX8_judge_44 (by decide) ?_
        refine lv_iload_n hx hb dX8_judge_45 rfl (lv_at hl 5 rfl) ?_
        refine lv_imul hx hb dX8_judge_46 ?_
        refine lv_topi (fun x_8 ex_8 => ?_)
        have k_2 : (2 : Int32).toInt = 2 := by decide
        have tx_8 : x_8.toInt = 2 * x0.toInt := by rw [ex_8, t_mul (by rw [k_2]; omega), k_2]
        refine lv_aload_n hx hb dX8_judge_47 rfl (lv_at hl 4 rfl) ?_
        refine va_get (D := (dC, dI)) (ci := 8) (v := .ref (ad 1)) (C := RX8) (T := TX8) (N := 11) hx hb hts (by decide +kernel) hown hK hP (0) (wm_at (by decide) rc_0) rfl 0 (by decide) (hts (.fieldLink RX8 7 "QuietStairsModel" "s" "[I") (by decide +kernel)) (fun _ h9 => h9) rfl dX8_judge_48 ?_
        refine lv_iload_n hx hb dX8_judge_51 rfl (lv_at hl 3 rfl) ?_
        have nr_1 : r_1.toNatClampNeg = 158 + 25 * x0.toNatClampNeg + 5 * x1.toNatClampNeg := by have z1 := t_nn (x := r_1) (by omega); omega
        refine va_iald hx hb hK hP (1) 0 (wm_at (by decide) rc_1) rfl (vp_in_iff.mpr ⟨by omega, by omega⟩) dX8_judge_52 ?_
        refine lv_topi (fun x_9 ex_9 => ?_)
        have bzx_9 : 0 ≤ x_9.toInt ∧ x_9.toInt ≤ 1 := by rw [ex_9]; exact hv 1 _ 1 (bx_t0 (i := 5 * x0.toInt + x1.toInt) (s := 0) (by omega) ⟨by omega, by omega⟩ (by omega))
        rw [nr_1] at ex_9
        obtain rfl : sd = x_9 := (ex_9.trans esd.symm).symm
        refine lv_iadd hx hb dX8_judge_53 ?_
        refine lv_topi (fun x_10 ex_10 => ?_)
        have tx_10 : x_10.toInt = x_8.toInt + sd.toInt := by rw [ex_10]; exact t_add ⟨by omega, by omega⟩
        refine lv_imul hx hb dX8_judge_54 ?_
        refine lv_topi (fun x_11 ex_11 => ?_)
        have k_24 : (24 : Int32).toInt = 24 := by decide
        have tx_11 : x_11.toInt = 24 * x_10.toInt := by rw [ex_11, t_mul (by rw [k_24]; omega), k_24]
        refine lv_iadd hx hb dX8_judge_55 ?_
        refine lv_topi (fun x_12 ex_12 => ?_)
        have k_308 : (308 : Int32).toInt = 308 := by decide
        have tx_12 : x_12.toInt = (308 : Int32).toInt + x_11.toInt := by rw [ex_12]; exact t_add ⟨by omega, by omega⟩
        refine lv_iload hx hb dX8_judge_56 (lv_at hl 0 rfl) ?_
        refine lv_iadd hx hb dX8_judge_58 ?_
        refine lv_topi (fun x_13 ex_13 => ?_)
        have tx_13 : x_13.toInt = x_12.toInt + y4_6.toInt := by rw [ex_13]; exact t_add ⟨by omega, by omega⟩
        have zn_y4_6 : (y4_6.toNatClampNeg : Int) = y4_6.toInt := t_nn (by omega)
        have nx_13 : x_13.toNatClampNeg = 308 + 48 * x0.toNatClampNeg + 24 * sd.toNatClampNeg + y4_6.toNatClampNeg := by have z1 := t_nn (x := x_13) (by omega); omega
        refine va_iald hx hb hK hP (1) 0 (wm_at (by decide) rc_1) rfl (vp_in_iff.mpr ⟨by omega, by omega⟩) dX8_judge_59 ?_
        refine lv_topi (fun x_14 ex_14 => ?_)
        rw [nx_13] at ex_14
        have qx_14 : x_14.toInt = (v 1 (308 + 48 * x0.toNatClampNeg + 24 * sd.toNatClampNeg + y4_6.toNatClampNeg)).toInt := congrArg Int32.toInt ex_14
        have hLL : (LL y4_6.toNatClampNeg).toInt = x_14.toInt := by rw [eLL, ex_14]
        refine lv_istore (lv' := [(7, .int x_14), (6, .int y4_6), (5, .int y4_5), (4, .int y4_4), (3, .int r_1), (0, .ref (ad 0)), (1, .int x0), (2, .int x1)]) hx hb dX8_judge_60 hl (by decide) rfl (fun ls hl => ?_)
        refine lv_iload hx hb dX8_judge_62 (lv_at hl 3 rfl) ?_
        have k_0 : (0 : Int32).toInt = 0 := by decide
        refine lv_if_ne (tgt := 80) hx hb dX8_judge_64 (by decide) (fun c_15 => ?_) (fun c_15 => ?_)
        · have tc_15 : y4_4.toInt ≠ (0 : Int32).toInt := fun q => absurd (Int32.toInt_inj.mp q) c_15
          refine lv_iconst (v := 1) hx hb dX8_judge_80 (by decide) ?_
          refine lv_goto (tgt := 85) hx hb dX8_judge_81 (by decide) ?_
          refine lv_istore (lv' := [(4, .int 1), (7, .int x_14), (6, .int y4_6), (5, .int y4_5), (3, .int r_1), (0, .ref (ad 0)), (1, .int x0), (2, .int x1)]) hx hb dX8_judge_85 hl (by decide) rfl (fun ls hl => ?_)
          refine lv_iload hx hb dX8_judge_87 (lv_at hl 3 rfl) ?_
          refine lv_if_eq (tgt := 103) hx hb dX8_judge_89 (by decide) (fun c_16 => ?_) (fun c_16 => ?_)
          · have tc_16 : y4_5.toInt = (0 : Int32).toInt := by rw [c_16]
            refine lv_iconst (v := 0) hx hb dX8_judge_103 (by decide) ?_
            refine lv_istore (lv' := [(5, .int 0), (4, .int 1), (7, .int x_14), (6, .int y4_6), (3, .int r_1), (0, .ref (ad 0)), (1, .int x0), (2, .int x1)]) hx hb dX8_judge_104 hl (by decide) rfl (fun ls hl => ?_)
            obtain ⟨x_17, ex_17⟩ : ∃ y : Int32, y = y4_6 + 1 := ⟨_, rfl⟩
            refine lv_iinc (v := x_17) (lv' := [(6, .int x_17), (5, .int 0), (4, .int 1), (7, .int x_14), (3, .int r_1), (0, .ref (ad 0)), (1, .int x0), (2, .int x1)]) hx hb dX8_judge_106 hl (k := 3) rfl (by rw [ex_17]; rfl) (by decide) rfl (fun ls hl => ?_)
            have k_1 : (1 : Int32).toInt = 1 := by decide
            have tx_17 : x_17.toInt = y4_6.toInt + (1 : Int32).toInt := by rw [ex_17]; exact t_add ⟨by omega, by omega⟩
            refine lv_goto (tgt := 22) hx hb dX8_judge_109 (by decide) ?_
            exact ih_4 x_17 1 0 _ _ (by omega) (by omega) (by omega) (by omega) (by omega) (by omega) (by rcases hi4_0 with ⟨q1, q2⟩ | ⟨q1, q2⟩; exact Or.inl ⟨by decide, jE_up q2 (by omega)⟩; exact Or.inl ⟨by decide, jE_in (y := y4_6) (by omega) (by omega) (by omega) (by omega)⟩) (by rcases hi4_1 with ⟨q1, q2⟩ | ⟨q1, q2⟩; exact Or.inr ⟨by decide, jE_in (y := y4_6) (by omega) (by omega) (by omega) (by omega)⟩; exact Or.inr ⟨by decide, jE_up q2 (by omega)⟩) (by omega) (by omega) (by omega) hP hD hS ls (lv_sub hl [0, 1, 2, 4, 5, 6, 7] rfl)
          · have tc_16 : y4_5.toInt ≠ (0 : Int32).toInt := fun q => absurd (Int32.toInt_inj.mp q) c_16
            refine lv_iload hx hb dX8_judge_92 (lv_at hl 1 rfl) ?_
            refine lv_bipush (v := 7) hx hb dX8_judge_94 (by decide) ?_
            have k_7 : (7 : Int32).toInt = 7 := by decide
            refine lv_icmp_eq (tgt := 103) hx hb dX8_judge_96 (by decide) (fun c_17 => ?_) (fun c_17 => ?_)
            · have tc_17 : x_14.toInt = (7 : Int32).toInt := by rw [c_17]
              refine lv_iconst (v := 0) hx hb dX8_judge_103 (by decide) ?_
              refine lv_istore (lv' := [(5, .int 0), (4, .int 1), (7, .int x_14), (6, .int y4_6), (3, .int r_1), (0, .ref (ad 0)), (1, .int x0), (2, .int x1)]) hx hb dX8_judge_104 hl (by decide) rfl (fun ls hl => ?_)
              obtain ⟨x_18, ex_18⟩ : ∃ y : Int32, y = y4_6 + 1 := ⟨_, rfl⟩
              refine lv_iinc (v := x_18) (lv' := [(6, .int x_18), (5, .int 0), (4, .int 1), (7, .int x_14), (3, .int r_1), (0, .ref (ad 0)), (1, .int x0), (2, .int x1)]) hx hb dX8_judge_106 hl (k := 3) rfl (by rw [ex_18]; rfl) (by decide) rfl (fun ls hl => ?_)
              have k_1 : (1 : Int32).toInt = 1 := by decide
              have tx_18 : x_18.toInt = y4_6.toInt + (1 : Int32).toInt := by rw [ex_18]; exact t_add ⟨by omega, by omega⟩
              refine lv_goto (tgt := 22) hx hb dX8_judge_109 (by decide) ?_
              exact ih_4 x_18 1 0 _ _ (by omega) (by omega) (by omega) (by omega) (by omega) (by omega) (by rcases hi4_0 with ⟨q1, q2⟩ | ⟨q1, q2⟩; exact Or.inl ⟨by decide, jE_up q2 (by omega)⟩; exact Or.inl ⟨by decide, jE_in (y := y4_6) (by omega) (by omega) (by omega) (by omega)⟩) (by rcases hi4_1 with ⟨q1, q2⟩ | ⟨q1, q2⟩; exact Or.inr ⟨by decide, jE_in (y := y4_6) (by omega) (by omega) (by omega) (by omega)⟩; exact Or.inr ⟨by decide, jE_up q2 (by omega)⟩) (by omega) (by omega) (by omega) hP hD hS ls (lv_sub hl [0, 1, 2, 4, 5, 6, 7] rfl)
            · have tc_17 : x_14.toInt ≠ (7 : Int32).toInt := fun q => absurd (Int32.toInt_inj.mp q) c_17
              refine lv_iconst (v := 1) hx hb dX8_judge_99 (by decide) ?_
              refine lv_goto (tgt := 104) hx hb dX8_judge_100 (by decide) ?_
              refine lv_istore (lv' := [(5, .int 1), (4, .int 1), (7, .int x_14), (6, .int y4_6), (3, .int r_1), (0, .ref (ad 0)), (1, .int x0), (2, .int x1)]) hx hb dX8_judge_104 hl (by decide) rfl (fun ls hl => ?_)
              obtain ⟨x_18, ex_18⟩ : ∃ y : Int32, y = y4_6 + 1 := ⟨_, rfl⟩
              refine lv_iinc (v := x_18) (lv' := [(6, .int x_18), (5, .int 1), (4, .int 1), (7, .int x_14), (3, .int r_1), (0, .ref (ad 0)), (1, .int x0), (2, .int x1)]) hx hb dX8_judge_106 hl (k := 3) rfl (by rw [ex_18]; rfl) (by decide) rfl (fun ls hl => ?_)
              have k_1 : (1 : Int32).toInt = 1 := by decide
              have tx_18 : x_18.toInt = y4_6.toInt + (1 : Int32).toInt := by rw [ex_18]; exact t_add ⟨by omega, by omega⟩
              refine lv_goto (tgt := 22) hx hb dX8_judge_109 (by decide) ?_
              exact ih_4 x_18 1 1 _ _ (by omega) (by omega) (by omega) (by omega) (by omega) (by omega) (by rcases hi4_0 with ⟨q1, q2⟩ | ⟨q1, q2⟩; exact Or.inl ⟨by decide, jE_up q2 (by omega)⟩; exact Or.inl ⟨by decide, jE_in (y := y4_6) (by omega) (by omega) (by omega) (by omega)⟩) (by rcases hi4_1 with ⟨q1, q2⟩ | ⟨q1, q2⟩; exact Or.inl ⟨by decide, jE_no (y := y4_6) (by omega) (by omega) q2 (by omega)⟩; exact absurd q1 (by omega)) (by omega) (by omega) (by omega) hP hD hS ls (lv_sub hl [0, 1, 2, 4, 5, 6, 7] rfl)
        · have tc_15 : y4_4.toInt = (0 : Int32).toInt := by rw [c_15]
          refine lv_iload hx hb dX8_judge_67 (lv_at hl 0 rfl) ?_
          refine lv_aload_n hx hb dX8_judge_69 rfl (lv_at hl 5 rfl) ?_
          refine va_get (D := (dC, dI)) (ci := 8) (v := .ref (ad 1)) (C := RX8) (T := TX8) (N := 11) hx hb hts (by decide +kernel) hown hK hP (0) (wm_at (by decide) rc_0) rfl 0 (by decide) (hts (.fieldLink RX8 7 "QuietStairsModel" "s" "[I") (by decide +kernel)) (fun _ h9 => h9) rfl dX8_judge_70 ?_
          refine lv_iload_n hx hb dX8_judge_73 rfl (lv_at hl 4 rfl) ?_
          refine lv_iconst (v := 2) hx hb dX8_judge_74 (by decide) ?_
          refine lv_iadd hx hb dX8_judge_75 ?_
          refine lv_topi (fun x_16 ex_16 => ?_)
          have tx_16 : x_16.toInt = r_1.toInt + (2 : Int32).toInt := by rw [ex_16]; exact t_add ⟨by omega, by omega⟩
          have nx_16 : x_16.toNatClampNeg = 160 + 25 * x0.toNatClampNeg + 5 * x1.toNatClampNeg := by have z1 := t_nn (x := x_16) (by omega); omega
          refine va_iald hx hb hK hP (1) 0 (wm_at (by decide) rc_1) rfl (vp_in_iff.mpr ⟨by omega, by omega⟩) dX8_judge_76 ?_
          refine lv_topi (fun x_17 ex_17 => ?_)
          rw [nx_16] at ex_17
          obtain rfl : ac = x_17 := (ex_17.trans eac.symm).symm
          refine lv_icmp_ne (tgt := 84) hx hb dX8_judge_77 (by decide) (fun c_18 => ?_) (fun c_18 => ?_)
          · have tc_18 : x_14.toInt ≠ ac.toInt := fun q => absurd (Int32.toInt_inj.mp q) c_18
            refine lv_iconst (v := 0) hx hb dX8_judge_84 (by decide) ?_
            refine lv_istore (lv' := [(4, .int 0), (7, .int x_14), (6, .int y4_6), (5, .int y4_5), (3, .int r_1), (0, .ref (ad 0)), (1, .int x0), (2, .int x1)]) hx hb dX8_judge_85 hl (by decide) rfl (fun ls hl => ?_)
            refine lv_iload hx hb dX8_judge_87 (lv_at hl 3 rfl) ?_
            refine lv_if_eq (tgt := 103) hx hb dX8_judge_89 (by decide) (fun c_19 => ?_) (fun c_19 => ?_)
            · have tc_19 : y4_5.toInt = (0 : Int32).toInt := by rw [c_19]
              refine lv_iconst (v := 0) hx hb dX8_judge_103 (by decide) ?_
              refine lv_istore (lv' := [(5, .int 0), (4, .int 0), (7, .int x_14), (6, .int y4_6), (3, .int r_1), (0, .ref (ad 0)), (1, .int x0), (2, .int x1)]) hx hb dX8_judge_104 hl (by decide) rfl (fun ls hl => ?_)
              obtain ⟨x_20, ex_20⟩ : ∃ y : Int32, y = y4_6 + 1 := ⟨_, rfl⟩
              refine lv_iinc (v := x_20) (lv' := [(6, .int x_20), (5, .int 0), (4, .int 0), (7, .int x_14), (3, .int r_1), (0, .ref (ad 0)), (1, .int x0), (2, .int x1)]) hx hb dX8_judge_106 hl (k := 3) rfl (by rw [ex_20]; rfl) (by decide) rfl (fun ls hl => ?_)
              have k_1 : (1 : Int32).toInt = 1 := by decide
              have tx_20 : x_20.toInt = y4_6.toInt + (1 : Int32).toInt := by rw [ex_20]; exact t_add ⟨by omega, by omega⟩
              refine lv_goto (tgt := 22) hx hb dX8_judge_109 (by decide) ?_
              exact ih_4 x_20 0 0 _ _ (by omega) (by omega) (by omega) (by omega) (by omega) (by omega) (by rcases hi4_0 with ⟨q1, q2⟩ | ⟨q1, q2⟩; exact absurd q1 (by omega); exact Or.inr ⟨by decide, jE_no (y := y4_6) (by omega) (by omega) q2 (by omega)⟩) (by rcases hi4_1 with ⟨q1, q2⟩ | ⟨q1, q2⟩; exact Or.inr ⟨by decide, jE_in (y := y4_6) (by omega) (by omega) (by omega) (by omega)⟩; exact Or.inr ⟨by decide, jE_up q2 (by omega)⟩) (by omega) (by omega) (by omega) hP hD hS ls (lv_sub hl [0, 1, 2, 4, 5, 6, 7] rfl)
            · have tc_19 : y4_5.toInt ≠ (0 : Int32).toInt := fun q => absurd (Int32.toInt_inj.mp q) c_19
              refine lv_iload hx hb dX8_judge_92 (lv_at hl 1 rfl) ?_
              refine lv_bipush (v := 7) hx hb dX8_judge_94 (by decide) ?_
              have k_7 : (7 : Int32).toInt = 7 := by decide
              refine lv_icmp_eq (tgt := 103) hx hb dX8_judge_96 (by decide) (fun c_20 => ?_) (fun c_20 => ?_)
              · have tc_20 : x_14.toInt = (7 : Int32).toInt := by rw [c_20]
                refine lv_iconst (v := 0) hx hb dX8_judge_103 (by decide) ?_
                refine lv_istore (lv' := [(5, .int 0), (4, .int 0), (7, .int x_14), (6, .int y4_6), (3, .int r_1), (0, .ref (ad 0)), (1, .int x0), (2, .int x1)]) hx hb dX8_judge_104 hl (by decide) rfl (fun ls hl => ?_)
                obtain ⟨x_21, ex_21⟩ : ∃ y : Int32, y = y4_6 + 1 := ⟨_, rfl⟩
                refine lv_iinc (v := x_21) (lv' := [(6, .int x_21), (5, .int 0), (4, .int 0), (7, .int x_14), (3, .int r_1), (0, .ref (ad 0)), (1, .int x0), (2, .int x1)]) hx hb dX8_judge_106 hl (k := 3) rfl (by rw [ex_21]; rfl) (by decide) rfl (fun ls hl => ?_)
                have k_1 : (1 : Int32).toInt = 1 := by decide
                have tx_21 : x_21.toInt = y4_6.toInt + (1 : Int32).toInt := by rw [ex_21]; exact t_add ⟨by omega, by omega⟩
                refine lv_goto (tgt := 22) hx hb dX8_judge_109 (by decide) ?_
                exact ih_4 x_21 0 0 _ _ (by omega) (by omega) (by omega) (by omega) (by omega) (by omega) (by rcases hi4_0 with ⟨q1, q2⟩ | ⟨q1, q2⟩; exact absurd q1 (by omega); exact Or.inr ⟨by decide, jE_no (y := y4_6) (by omega) (by omega) q2 (by omega)⟩) (by rcases hi4_1 with ⟨q1, q2⟩ | ⟨q1, q2⟩; exact Or.inr ⟨by decide, jE_in (y := y4_6) (by omega) (by omega) (by omega) (by omega)⟩; exact Or.inr ⟨by decide, jE_up q2 (by omega)⟩) (by omega) (by omega) (by omega) hP hD hS ls (lv_sub hl [0, 1, 2, 4, 5, 6, 7] rfl)
              · have tc_20 : x_14.toInt ≠ (7 : Int32).toInt := fun q => absurd (Int32.toInt_inj.mp q) c_20
                refine lv_iconst (v := 1) hx hb dX8_judge_99 (by decide) ?_
                refine lv_goto (tgt := 104) hx hb dX8_judge_100 (by decide) ?_
                refine lv_istore (lv' := [(5, .int 1), (4, .int 0), (7, .int x_14), (6, .int y4_6), (3, .int r_1), (0, .ref (ad 0)), (1, .int x0), (2, .int x1)]) hx hb dX8_judge_104 hl (by decide) rfl (fun ls hl => ?_)
                obtain ⟨x_21, ex_21⟩ : ∃ y : Int32, y = y4_6 + 1 := ⟨_, rfl⟩
                refine lv_iinc (v := x_21) (lv' := [(6, .int x_21), (5, .int 1), (4, .int 0), (7, .int x_14), (3, .int r_1), (0, .ref (ad 0)), (1, .int x0), (2, .int x1)]) hx hb dX8_judge_106 hl (k := 3) rfl (by rw [ex_21]; rfl) (by decide) rfl (fun ls hl => ?_)
                have k_1 : (1 : Int32).toInt = 1 := by decide
                have tx_21 : x_21.toInt = y4_6.toInt + (1 : Int32).toInt := by rw [ex_21]; exact t_add ⟨by omega, by omega⟩
                refine lv_goto (tgt := 22) hx hb dX8_judge_109 (by decide) ?_
                exact ih_4 x_21 0 1 _ _ (by omega) (by omega) (by omega) (by omega) (by omega) (by omega) (by rcases hi4_0 with ⟨q1, q2⟩ | ⟨q1, q2⟩; exact absurd q1 (by omega); exact Or.inr ⟨by decide, jE_no (y := y4_6) (by omega) (by omega) q2 (by omega)⟩) (by rcases hi4_1 with ⟨q1, q2⟩ | ⟨q1, q2⟩; exact Or.inl ⟨by decide, jE_no (y := y4_6) (by omega) (by omega) q2 (by omega)⟩; exact absurd q1 (by omega)) (by omega) (by omega) (by omega) hP hD hS ls (lv_sub hl [0, 1, 2, 4, 5, 6, 7] rfl)
          · have tc_18 : x_14.toInt = ac.toInt := by rw [c_18]
            refine lv_iconst (v := 1) hx hb dX8_judge_80 (by decide) ?_
            refine lv_goto (tgt := 85) hx hb dX8_judge_81 (by decide) ?_
            refine lv_istore (lv' := [(4, .int 1), (7, .int x_14), (6, .int y4_6), (5, .int y4_5), (3, .int r_1), (0, .ref (ad 0)), (1, .int x0), (2, .int x1)]) hx hb dX8_judge_85 hl (by decide) rfl (fun ls hl => ?_)
            refine lv_iload hx hb dX8_judge_87 (lv_at hl 3 rfl) ?_
            refine lv_if_eq (tgt := 103) hx hb dX8_judge_89 (by decide) (fun c_19 => ?_) (fun c_19 => ?_)
            · have tc_19 : y4_5.toInt = (0 : Int32).toInt := by rw [c_19]
              refine lv_iconst (v := 0) hx hb dX8_judge_103 (by decide) ?_
              refine lv_istore (lv' := [(5, .int 0), (4, .int 1), (7, .int x_14), (6, .int y4_6), (3, .int r_1), (0, .ref (ad 0)), (1, .int x0), (2, .int x1)]) hx hb dX8_judge_104 hl (by decide) rfl (fun ls hl => ?_)
              obtain ⟨x_20, ex_20⟩ : ∃ y : Int32, y = y4_6 + 1 := ⟨_, rfl⟩
              refine lv_iinc (v := x_20) (lv' := [(6, .int x_20), (5, .int 0), (4, .int 1), (7, .int x_14), (3, .int r_1), (0, .ref (ad 0)), (1, .int x0), (2, .int x1)]) hx hb dX8_judge_106 hl (k := 3) rfl (by rw [ex_20]; rfl) (by decide) rfl (fun ls hl => ?_)
              have k_1 : (1 : Int32).toInt = 1 := by decide
              have tx_20 : x_20.toInt = y4_6.toInt + (1 : Int32).toInt := by rw [ex_20]; exact t_add ⟨by omega, by omega⟩
              refine lv_goto (tgt := 22) hx hb dX8_judge_109 (by decide) ?_
              exact ih_4 x_20 1 0 _ _ (by omega) (by omega) (by omega) (by omega) (by omega) (by omega) (by rcases hi4_0 with ⟨q1, q2⟩ | ⟨q1, q2⟩; exact Or.inl ⟨by decide, jE_up q2 (by omega)⟩; exact Or.inl ⟨by decide, jE_in (y := y4_6) (by omega) (by omega) (by omega) (by omega)⟩) (by rcases hi4_1 with ⟨q1, q2⟩ | ⟨q1, q2⟩; exact Or.inr ⟨by decide, jE_in (y := y4_6) (by omega) (by omega) (by omega) (by omega)⟩; exact Or.inr ⟨by decide, jE_up q2 (by omega)⟩) (by omega) (by omega) (by omega) hP hD hS ls (lv_sub hl [0, 1, 2, 4, 5, 6, 7] rfl)
            · have tc_19 : y4_5.toInt ≠ (0 : Int32).toInt := fun q => absurd (Int32.toInt_inj.mp q) c_19
              refine lv_iload hx hb dX8_judge_92 (lv_at hl 1 rfl) ?_
              refine lv_bipush (v := 7) hx hb dX8_judge_94 (by decide) ?_
              have k_7 : (7 : Int32).toInt = 7 := by decide
              refine lv_icmp_eq (tgt := 103) hx hb dX8_judge_96 (by decide) (fun c_20 => ?_) (fun c_20 => ?_)
              · have tc_20 : x_14.toInt = (7 : Int32).toInt := by rw [c_20]
                refine lv_iconst (v := 0) hx hb dX8_judge_103 (by decide) ?_
                refine lv_istore (lv' := [(5, .int 0), (4, .int 1), (7, .int x_14), (6, .int y4_6), (3, .int r_1), (0, .ref (ad 0)), (1, .int x0), (2, .int x1)]) hx hb dX8_judge_104 hl (by decide) rfl (fun ls hl => ?_)
                obtain ⟨x_21, ex_21⟩ : ∃ y : Int32, y = y4_6 + 1 := ⟨_, rfl⟩
                refine lv_iinc (v := x_21) (lv' := [(6, .int x_21), (5, .int 0), (4, .int 1), (7, .int x_14), (3, .int r_1), (0, .ref (ad 0)), (1, .int x0), (2, .int x1)]) hx hb dX8_judge_106 hl (k := 3) rfl (by rw [ex_21]; rfl) (by decide) rfl (fun ls hl => ?_)
                have k_1 : (1 : Int32).toInt = 1 := by decide
                have tx_21 : x_21.toInt = y4_6.toInt + (1 : Int32).toInt := by rw [ex_21]; exact t_add ⟨by omega, by omega⟩
                refine lv_goto (tgt := 22) hx hb dX8_judge_109 (by decide) ?_
                exact ih_4 x_21 1 0 _ _ (by omega) (by omega) (by omega) (by omega) (by omega) (by omega) (by rcases hi4_0 with ⟨q1, q2⟩ | ⟨q1, q2⟩; exact Or.inl ⟨by decide, jE_up q2 (by omega)⟩; exact Or.inl ⟨by decide, jE_in (y := y4_6) (by omega) (by omega) (by omega) (by omega)⟩) (by rcases hi4_1 with ⟨q1, q2⟩ | ⟨q1, q2⟩; exact Or.inr ⟨by decide, jE_in (y := y4_6) (by omega) (by omega) (by omega) (by omega)⟩; exact Or.inr ⟨by decide, jE_up q2 (by omega)⟩) (by omega) (by omega) (by omega) hP hD hS ls (lv_sub hl [0, 1, 2, 4, 5, 6, 7] rfl)
              · have tc_20 : x_14.toInt ≠ (7 : Int32).toInt := fun q => absurd (Int32.toInt_inj.mp q) c_20
                refine lv_iconst (v := 1) hx hb dX8_judge_99 (by decide) ?_
                refine lv_goto (tgt := 104) hx hb dX8_judge_100 (by decide) ?_
                refine lv_istore (lv' := [(5, .int 1), (4, .int 1), (7, .int x_14), (6, .int y4_6), (3, .int r_1), (0, .ref (ad 0)), (1, .int x0), (2, .int x1)]) hx hb dX8_judge_104 hl (by decide) rfl (fun ls hl => ?_)
                obtain ⟨x_21, ex_21⟩ : ∃ y : Int32, y = y4_6 + 1 := ⟨_, rfl⟩
                refine lv_iinc (v := x_21) (lv' := [(6, .int x_21), (5, .int 1), (4, .int 1), (7, .int x_14), (3, .int r_1), (0, .ref (ad 0)), (1, .int x0), (2, .int x1)]) hx hb dX8_judge_106 hl (k := 3) rfl (by rw [ex_21]; rfl) (by decide) rfl (fun ls hl => ?_)
                have k_1 : (1 : Int32).toInt = 1 := by decide
                have tx_21 : x_21.toInt = y4_6.toInt + (1 : Int32).toInt := by rw [ex_21]; exact t_add ⟨by omega, by omega⟩
                refine lv_goto (tgt := 22) hx hb dX8_judge_109 (by decide) ?_
                exact ih_4 x_21 1 1 _ _ (by omega) (by omega) (by omega) (by omega) (by omega) (by omega) (by rcases hi4_0 with ⟨q1, q2⟩ | ⟨q1, q2⟩; exact Or.inl ⟨by decide, jE_up q2 (by omega)⟩; exact Or.inl ⟨by decide, jE_in (y := y4_6) (by omega) (by omega) (by omega) (by omega)⟩) (by rcases hi4_1 with ⟨q1, q2⟩ | ⟨q1, q2⟩; exact Or.inl ⟨by decide, jE_no (y := y4_6) (by omega) (by omega) q2 (by omega)⟩; exact absurd q1 (by omega)) (by omega) (by omega) (by omega) hP hD hS ls (lv_sub hl [0, 1, 2, 4, 5, 6, 7] rfl)
  have k_0 : (0 : Int32).toInt = 0 := by decide
  have k_1 : (1 : Int32).toInt = 1 := by decide
  exact hc_4 ((24 - fi.toInt).toNat + 1) fi 0 1 _ _ (by omega) (by omega) (by omega) (by omega) (by omega) (by omega) (Or.inr ⟨by decide, jE_non (by omega)⟩) (Or.inl ⟨by decide, jE_non (by omega)⟩) (by omega) (by omega) (by omega) hP hD hS ls (lv_sub hl [0, 1, 2, 3, 4, 5, 6] rfl)

set_option maxHeartbeats 4000000 in
set_option maxRecDepth 100000 in
theorem e_X7_judged (l : Launch) (dC : Nat → ClassId) (dI : Nat → Nat → Nat) (cy : Nat → ClassId) (sz : Nat) (ad : Nat → Nat) (kv : Value) (N : Nat) (hN : 119 ≤ N) (v : Nat → Nat → Int32) (hv : Iv v) (x0 x1 : Int32) : Met l yX7_judged wsX7_judged ({ frames := 3, cells := 0, slots := 0, locals := 192 }) (va_Pc [.ref (ad 0), .int x0, .int x1] (ex_Pre dC dI cy sz (wl ad kv cy N v))) (va_Qi (fun (r : Int32) (u : Nat → Nat → Int32) => Iv u ∧ (¬ ((0 ≤ x0.toInt ∧ x0.toInt < (v 13 2).toInt) ∧ 0 ≤ x1.toInt ∧ x1.toInt < (v (29 + 15 * x0.toNatClampNeg) 5).toInt) → r = -1 ∧ u = v) ∧ ((0 ≤ x0.toInt ∧ x0.toInt < (v 13 2).toInt) ∧ 0 ≤ x1.toInt ∧ x1.toInt < (v (29 + 15 * x0.toNatClampNeg) 5).toInt → r = jF (v (39 + 15 * x0.toNatClampNeg + x1.toNatClampNeg) 1) (v (36 + 15 * x0.toNatClampNeg + (v (39 + 15 * x0.toNatClampNeg + x1.toNatClampNeg) 0).toNatClampNeg)) (v (39 + 15 * x0.toNatClampNeg + x1.toNatClampNeg) 3) (v (39 + 15 * x0.toNatClampNeg + x1.toNatClampNeg) 4) (v (39 + 15 * x0.toNatClampNeg + x1.toNatClampNeg) 2) ∧ u = v)) (fun u t => ex_Pst dC dI (va_A (wl ad kv cy N v) sz) (wl ad kv cy N u) t) (va_A (wl ad kv cy N v) sz)) 0 0 (va_A (wl ad kv cy N v) sz) := by
  refine Met.ofW (cc := cX7_judged) (maxL := 3) (ret := (some .int)) (by decide) rfl ?_
  intro p e s m args below meth c s₁ B hml hv
  obtain ⟨rfl, hsz, hE, hP, hK, hD0⟩ := hv
  have hx := B.exec
  have hb := B.bytes
  have hr := B.returns
  have hts := atoms_spec (ws := wsX7_judged) B.pre
  have hown : s.vm.findClass RX7 = some m.cls := findClass_of_methodNamed B.named
  have hlocks := B.notSynchronized
  subst hsz
  have hD := hD0.self (sz := s.heap.size)
  generalize hAe : va_A (wl ad kv cy N v) s.heap.size = A at hD ⊢
  have hA : ∀ q : Nat, s.heap.size ≤ q → A q := fun q h => by rw [← hAe]; exact Or.inr h
  have hS : va_S A s.heap s.heap [] := va_S.rf
  have hP : va_P (dC, dI) vwCl (wl ad kv cy N v) s.heap := hP
  have hl := lv_entry ([.ref (ad 0), .int x0, .int x1]) (n := 3) (Nat.le_of_ble_eq_true rfl)
  rw [lg_entry_eq]
  generalize (lg_sl ([.ref (ad 0), .int x0, .int x1]) ++ List.replicate (3 - (lg_sl ([.ref (ad 0), .int x0, .int x1])).length) Slot.unset).toArray = ls at hl ⊢
  have hl : lv_has ls 3 [(0, .ref (ad 0)), (1, .int x0), (2, .int x1)] := hl
  refine lv_aload_n hx hb dX7_judged_0 rfl (lv_at hl 0 rfl) ?_
  refine lv_iload_n hx hb dX7_judged_1 rfl (lv_at hl 1 rfl) ?_
  refine lv_iload_n hx hb dX7_judged_2 rfl (lv_at hl 2 rfl) ?_
  refine yw_i (w1 := fun (u : Nat → Nat → Int32) => wl ad kv cy N u) hD hS hA (va_runV (As := [.int x0, .int x1]) (rest := []) ⟨hx, hb, hml, hown, hts⟩ (e_X7_isTerm l dC dI cy _ ad kv N hN v hv x0 x1) (cwV 2 hts gX7_judged_X7_isTerm rfl rfl rfl (by decide +kernel) ⟨Nat.le_of_ble_eq_true rfl, Nat.le_of_ble_eq_true rfl⟩) (yw_preV hE hK hP hD (ci := 7) (q0 := 0) rfl (wl_at (by omega) (ce_0 (by decide)))) rfl rfl hl.1 rfl (lv_room (Nat.le_of_ble_eq_true rfl)) dX7_judged_3 ⟨Nat.le_of_ble_eq_true rfl, Nat.le_of_ble_eq_true rfl⟩) (fun r_1 v_1 H locs hw_1 hP hD hS => ?_)
  obtain ⟨-, hu_1, hw_1⟩ := hw_1
  replace hu_1 := hu_1.symm
  subst hu_1
  rcases hw_1 with ⟨rfl, ha_2⟩ | ⟨rfl, ha_2⟩
  · have hb_2 := hv.at (k := 13) (j := 2) (K := 3) (by decide) rfl
    have hj_2 : 0 ≤ x0.toInt ∧ x0.toInt ≤ 5 := ⟨by omega, by omega⟩
    have zn_x0 : (x0.toNatClampNeg : Int) = x0.toInt := t_nn (by omega)
    have hx_3 : x0.toNatClampNeg < 6 := by omega
    have hg_2 := hv.at (k := 29 + 15 * x0.toNatClampNeg) (j := 5) (K := 9) (kd_c _ hx_3).1.1 rfl
    have hl_2 : 0 ≤ x1.toInt ∧ x1.toInt ≤ 4 := ⟨by omega, by omega⟩
    refine lv_if_ne (tgt := 11) hx hb dX7_judged_6 (by decide) (fun _ => ?_) (fun c9 => absurd c9 (by decide))
    refine lv_aload_n hx hb dX7_judged_11 rfl (lv_at hl 0 rfl) ?_
    refine va_get (D := (dC, dI)) (ci := 7) (v := .ref (ad 13)) (C := RX7) (T := TX7) (N := 5) hx hb hts (by decide +kernel) hown hK hP (0) (wl_at (by omega) (ce_0 (by decide))) rfl 0 (by decide) (hts (.fieldLink RX7 12 "QuietStairs" "now" "LQuietStairs$House;") (by decide +kernel)) (fun _ h9 => h9) rfl dX7_judged_12 ?_
    refine va_get (D := (dC, dI)) (ci := 1) (v := .ref (ad 16)) (C := RX1) (T := TX1) (N := 7) hx hb hts (by decide +kernel) hown hK hP (13) (wl_at (by omega) (ce_3 (by decide))) rfl 6 (by decide) (hts (.fieldLink RX7 86 "QuietStairs$House" "cases" "[LQuietStairs$Case;") (by decide +kernel)) (fun _ h9 => h9) rfl dX7_judged_15 ?_
    refine lv_iload_n hx hb dX7_judged_18 rfl (lv_at hl 1 rfl) ?_
    refine va_aldq hx hb hK hP (16) 3 (wl_at (by omega) (ce_6 (by decide))) rfl (vp_in_iff.mpr ⟨by omega, by omega⟩) dX7_judged_19 ?_
    refine W.eq (g2 := F0 m 20 ls [.ref (ad (29 + 15 * x0.toNatClampNeg))]) (by rw [if_pos hx_3, show 16 + 13 + 15 * x0.toNatClampNeg = 29 + 15 * x0.toNatClampNeg from by omega]; rfl) ?_
    refine lv_iload_n hx hb dX7_judged_20 rfl (lv_at hl 2 rfl) ?_
    refine yw_i (w1 := fun (u : Nat → Nat → Int32) => wl ad kv cy N u) hD hS hA (va_runV (As := [.int x1]) (rest := []) ⟨hx, hb, hml, hown, hts⟩ (e_X0_judge l dC dI cy _ ad kv N hN v hv x0.toNatClampNeg hx_3 x1 ⟨by omega, by omega⟩) (cwV 1 hts gX7_judged_X0_judge rfl rfl rfl (by decide +kernel) ⟨Nat.le_of_ble_eq_true rfl, Nat.le_of_ble_eq_true rfl⟩) (yw_preV hE hK hP hD (ci := 0) (q0 := (29 + 15 * x0.toNatClampNeg)) rfl (wl_at (by omega) (ce_9 (kd_c _ hx_3).1.1))) rfl rfl hl.1 rfl (lv_room (Nat.le_of_ble_eq_true rfl)) dX7_judged_21 ⟨Nat.le_of_ble_eq_true rfl, Nat.le_of_ble_eq_true rfl⟩) (fun r_4 v_4 H locs hw_4 hP hD hS => ?_)
    obtain ⟨-, hu_4, hw_4⟩ := hw_4
    replace hu_4 := hu_4.symm
    subst hu_4
    have hpost : (¬ ((0 ≤ x0.toInt ∧ x0.toInt < (v 13 2).toInt) ∧ 0 ≤ x1.toInt ∧ x1.toInt < (v (29 + 15 * x0.toNatClampNeg) 5).toInt) → r_4 = -1 ∧ v = v) ∧ ((0 ≤ x0.toInt ∧ x0.toInt < (v 13 2).toInt) ∧ 0 ≤ x1.toInt ∧ x1.toInt < (v (29 + 15 * x0.toNatClampNeg) 5).toInt → r_4 = jF (v (39 + 15 * x0.toNatClampNeg + x1.toNatClampNeg) 1) (v (36 + 15 * x0.toNatClampNeg + (v (39 + 15 * x0.toNatClampNeg + x1.toNatClampNeg) 0).toNatClampNeg)) (v (39 + 15 * x0.toNatClampNeg + x1.toNatClampNeg) 3) (v (39 + 15 * x0.toNatClampNeg + x1.toNatClampNeg) 4) (v (39 + 15 * x0.toNatClampNeg + x1.toNatClampNeg) 2) ∧ v = v) := by
      refine ⟨fun hq => ?_, fun hq => ?_⟩
      · exfalso; omega
      · exact ⟨hw_4, rfl⟩
    exact W.iret (v := r_4) hx hb hr (fun t ht hW => ⟨⟨r_4, v, rfl, ⟨hv, hpost⟩, by rw [ht]; exact hP, hD⟩, hS.F ht⟩) hS.2.2 dX7_judged_24
  · refine lv_if_ne (tgt := 11) hx hb dX7_judged_6 (by decide) (fun c9 => absurd c9 (by decide)) (fun _ => ?_)
    refine lv_iconst (v := (-1)) hx hb dX7_judged_9 (by decide) ?_
    have hpost : (¬ ((0 ≤ x0.toInt ∧ x0.toInt < (v 13 2).toInt) ∧ 0 ≤ x1.toInt ∧ x1.toInt < (v (29 + 15 * x0.toNatClampNeg) 5).toInt) → ((-1) : Int32) = -1 ∧ v = v) ∧ ((0 ≤ x0.toInt ∧ x0.toInt < (v 13 2).toInt) ∧ 0 ≤ x1.toInt ∧ x1.toInt < (v (29 + 15 * x0.toNatClampNeg) 5).toInt → ((-1) : Int32) = jF (v (39 + 15 * x0.toNatClampNeg + x1.toNatClampNeg) 1) (v (36 + 15 * x0.toNatClampNeg + (v (39 + 15 * x0.toNatClampNeg + x1.toNatClampNeg) 0).toNatClampNeg)) (v (39 + 15 * x0.toNatClampNeg + x1.toNatClampNeg) 3) (v (39 + 15 * x0.toNatClampNeg + x1.toNatClampNeg) 4) (v (39 + 15 * x0.toNatClampNeg + x1.toNatClampNeg) 2) ∧ v = v) := by
      refine ⟨fun hq => ?_, fun hq => ?_⟩
      · exact ⟨rfl, rfl⟩
      · exfalso; omega
    exact W.iret (v := (-1)) hx hb hr (fun t ht hW => ⟨⟨(-1), v, rfl, ⟨hv, hpost⟩, by rw [ht]; exact hP, hD⟩, hS.F ht⟩) hS.2.2 dX7_judged_10

set_option maxHeartbeats 4000000 in
set_option maxRecDepth 100000 in
theorem e_X8_judged (l : Launch) (dC : Nat → ClassId) (dI : Nat → Nat → Nat) (cy : Nat → ClassId) (sz : Nat) (ad : Nat → Nat) (v : Nat → Nat → Int32) (hv : Ir v) (x0 x1 : Int32) : Met l yX8_judged wsX8_judged ({ frames := 3, cells := 0, slots := 0, locals := 192 }) (va_Pc [.ref (ad 0), .int x0, .int x1] (ex_Pre dC dI cy sz (wm ad cy v))) (va_Qi (fun (r : Int32) (u : Nat → Nat → Int32) => Ir u ∧ (¬ ((0 ≤ x0.toInt ∧ x0.toInt < (v 1 2).toInt) ∧ 0 ≤ x1.toInt ∧ x1.toInt < (v 1 (38 + 7 * x0.toNatClampNeg)).toInt) → r = -1 ∧ u = v) ∧ ((0 ≤ x0.toInt ∧ x0.toInt < (v 1 2).toInt) ∧ 0 ≤ x1.toInt ∧ x1.toInt < (v 1 (38 + 7 * x0.toNatClampNeg)).toInt → r = jF (v 1 (159 + 25 * x0.toNatClampNeg + 5 * x1.toNatClampNeg)) (fun h => v 1 (308 + 48 * x0.toNatClampNeg + 24 * (v 1 (158 + 25 * x0.toNatClampNeg + 5 * x1.toNatClampNeg)).toNatClampNeg + h)) (v 1 (161 + 25 * x0.toNatClampNeg + 5 * x1.toNatClampNeg)) (v 1 (162 + 25 * x0.toNatClampNeg + 5 * x1.toNatClampNeg)) (v 1 (160 + 25 * x0.toNatClampNeg + 5 * x1.toNatClampNeg)) ∧ u = v)) (fun u t => ex_Pst dC dI (va_A (wm ad cy v) sz) (wm ad cy u) t) (va_A (wm ad cy v) sz)) 0 0 (va_A (wm ad cy v) sz) := by
  refine Met.ofW (cc := cX8_judged) (maxL := 3) (ret := (some .int)) (by decide) rfl ?_
  intro p e s m args below meth c s₁ B hml hv
  obtain ⟨rfl, hsz, hE, hP, hK, hD0⟩ := hv
  have hx := B.exec
  have hb := B.bytes
  have hr := B.returns
  have hts := atoms_spec (ws := wsX8_judged) B.pre
  have hown : s.vm.findClass RX8 = some m.cls := findClass_of_methodNamed B.named
  have hlocks := B.notSynchronized
  subst hsz
  have hD := hD0.self (sz := s.heap.size)
  generalize hAe : va_A (wm ad cy v) s.heap.size = A at hD ⊢
  have hA : ∀ q : Nat, s.heap.size ≤ q → A q := fun q h => by rw [← hAe]; exact Or.inr h
  have hS : va_S A s.heap s.heap [] := va_S.rf
  have hP : va_P (dC, dI) vwCl (wm ad cy v) s.heap := hP
  have hl := lv_entry ([.ref (ad 0), .int x0, .int x1]) (n := 3) (Nat.le_of_ble_eq_true rfl)
  rw [lg_entry_eq]
  generalize (lg_sl ([.ref (ad 0), .int x0, .int x1]) ++ List.replicate (3 - (lg_sl ([.ref (ad 0), .int x0, .int x1])).length) Slot.unset).toArray = ls at hl ⊢
  have hl : lv_has ls 3 [(0, .ref (ad 0)), (1, .int x0), (2, .int x1)] := hl
  refine lv_aload_n hx hb dX8_judged_0 rfl (lv_at hl 0 rfl) ?_
  refine lv_iload_n hx hb dX8_judged_1 rfl (lv_at hl 1 rfl) ?_
  refine lv_iload_n hx hb dX8_judged_2 rfl (lv_at hl 2 rfl) ?_
  refine yw_i (w1 := fun (u : Nat → Nat → Int32) => wm ad cy u) hD hS hA (va_runV (As := [.int x0, .int x1]) (rest := []) ⟨hx, hb, hml, hown, hts⟩ (e_X8_isTerm l dC dI cy _ ad v hv x0 x1) (cwV 2 hts gX8_judged_X8_isTerm rfl rfl rfl (by decide +kernel) ⟨Nat.le_of_ble_eq_true rfl, Nat.le_of_ble_eq_true rfl⟩) (yw_preV hE hK hP hD (ci := 8) (q0 := 0) rfl (wm_at (by decide) rc_0)) rfl rfl hl.1 rfl (lv_room (Nat.le_of_ble_eq_true rfl)) dX8_judged_3 ⟨Nat.le_of_ble_eq_true rfl, Nat.le_of_ble_eq_true rfl⟩) (fun r_1 v_1 H locs hw_1 hP hD hS => ?_)
  obtain ⟨-, hu_1, hw_1⟩ := hw_1
  replace hu_1 := hu_1.symm
  subst hu_1
  rcases hw_1 with ⟨rfl, ha_2⟩ | ⟨rfl, ha_2⟩
  · have hb_2 := hv 1 2 6 (by decide)
    have hj_2 : 0 ≤ x0.toInt ∧ x0.toInt ≤ 5 := ⟨by omega, by omega⟩
    have zn_x0 : (x0.toNatClampNeg : Int) = x0.toInt := t_nn (by omega)
    have hg_2 := hv 1 (38 + 7 * x0.toNatClampNeg) 5 (bS_c (by omega) (by omega))
    have hl_2 : 0 ≤ x1.toInt ∧ x1.toInt ≤ 4 := ⟨by omega, by omega⟩
    refine lv_if_eq (tgt := 18) hx hb dX8_judged_6 (by decide) (fun c9 => absurd c9 (by decide)) (fun _ => ?_)
    refine lv_aload_n hx hb dX8_judged_9 rfl (lv_at hl 0 rfl) ?_
    refine lv_iload_n hx hb dX8_judged_10 rfl (lv_at hl 1 rfl) ?_
    refine lv_iload_n hx hb dX8_judged_11 rfl (lv_at hl 2 rfl) ?_
    refine yw_i (w1 := fun (u : Nat → Nat → Int32) => wm ad cy u) hD hS hA (va_runV (As := [.int x0, .int x1]) (rest := []) ⟨hx, hb, hml, hown, hts⟩ (e_X8_judge l dC dI cy _ ad v hv x0 x1 ⟨by omega, by omega⟩ ⟨by omega, by omega⟩) (cwV 2 hts gX8_judged_X8_judge rfl rfl rfl (by decide +kernel) ⟨Nat.le_of_ble_eq_true rfl, Nat.le_of_ble_eq_true rfl⟩) (yw_preV hE hK hP hD (ci := 8) (q0 := 0) rfl (wm_at (by decide) rc_0)) rfl rfl hl.1 rfl (lv_room (Nat.le_of_ble_eq_true rfl)) dX8_judged_12 ⟨Nat.le_of_ble_eq_true rfl, Nat.le_of_ble_eq_true rfl⟩) (fun r_3 v_3 H locs hw_3 hP hD hS => ?_)
    obtain ⟨-, hu_3, hw_3⟩ := hw_3
    replace hu_3 := hu_3.symm
    subst hu_3
    refine lv_goto (tgt := 19) hx hb dX8_judged_15 (by decide) ?_
    have hpost : (¬ ((0 ≤ x0.toInt ∧ x0.toInt < (v 1 2).toInt) ∧ 0 ≤ x1.toInt ∧ x1.toInt < (v 1 (38 + 7 * x0.toNatClampNeg)).toInt) → r_3 = -1 ∧ v = v) ∧ ((0 ≤ x0.toInt ∧ x0.toInt < (v 1 2).toInt) ∧ 0 ≤ x1.toInt ∧ x1.toInt < (v 1 (38 + 7 * x0.toNatClampNeg)).toInt → r_3 = jF (v 1 (159 + 25 * x0.toNatClampNeg + 5 * x1.toNatClampNeg)) (fun h => v 1 (308 + 48 * x0.toNatClampNeg + 24 * (v 1 (158 + 25 * x0.toNatClampNeg + 5 * x1.toNatClampNeg)).toNatClampNeg + h)) (v 1 (161 + 25 * x0.toNatClampNeg + 5 * x1.toNatClampNeg)) (v 1 (162 + 25 * x0.toNatClampNeg + 5 * x1.toNatClampNeg)) (v 1 (160 + 25 * x0.toNatClampNeg + 5 * x1.toNatClampNeg)) ∧ v = v) := by
      refine ⟨fun hq => ?_, fun hq => ?_⟩
      · exfalso; omega
      · exact ⟨hw_3, rfl⟩
    exact W.iret (v := r_3) hx hb hr (fun t ht hW => ⟨⟨r_3, v, rfl, ⟨hv, hpost⟩, by rw [ht]; exact hP, hD⟩, hS.F ht⟩) hS.2.2 dX8_judged_19
  · refine lv_if_eq (tgt := 18) hx hb dX8_judged_6 (by decide) (fun _ => ?_) (fun c9 => absurd c9 (by decide))
    refine lv_iconst (v := (-1)) hx hb dX8_judged_18 (by decide) ?_
    have hpost : (¬ ((0 ≤ x0.toInt ∧ x0.toInt < (v 1 2).toInt) ∧ 0 ≤ x1.toInt ∧ x1.toInt < (v 1 (38 + 7 * x0.toNatClampNeg)).toInt) → ((-1) : Int32) = -1 ∧ v = v) ∧ ((0 ≤ x0.toInt ∧ x0.toInt < (v 1 2).toInt) ∧ 0 ≤ x1.toInt ∧ x1.toInt < (v 1 (38 + 7 * x0.toNatClampNeg)).toInt → ((-1) : Int32) = jF (v 1 (159 + 25 * x0.toNatClampNeg + 5 * x1.toNatClampNeg)) (fun h => v 1 (308 + 48 * x0.toNatClampNeg + 24 * (v 1 (158 + 25 * x0.toNatClampNeg + 5 * x1.toNatClampNeg)).toNatClampNeg + h)) (v 1 (161 + 25 * x0.toNatClampNeg + 5 * x1.toNatClampNeg)) (v 1 (162 + 25 * x0.toNatClampNeg + 5 * x1.toNatClampNeg)) (v 1 (160 + 25 * x0.toNatClampNeg + 5 * x1.toNatClampNeg)) ∧ v = v) := by
      refine ⟨fun hq => ?_, fun hq => ?_⟩
      · exact ⟨rfl, rfl⟩
      · exfalso; omega
    exact W.iret (v := (-1)) hx hb hr (fun t ht hW => ⟨⟨(-1), v, rfl, ⟨hv, hpost⟩, by rw [ht]; exact hP, hD⟩, hS.F ht⟩) hS.2.2 dX8_judged_19

/-- the same judgement on both sides -/
theorem jF_rel {B : Nat} {v : Nat → Nat → Int32} {s : Nat → Int32} (hs : ∀ c t : Nat, c < 6 → t < 5 → (0 ≤ (s (158 + 25 * c + 5 * t)).toInt ∧ (s (158 + 25 * c + 5 * t)).toInt ≤ 1) ∧ (s (162 + 25 * c + 5 * t)).toInt ≤ 23) (h : RLk B v s) {c t : Nat} (hc : c < 6) (ha : (c : Int) < (s 2).toInt) (ht : t < 5) (hr : (t : Int) < (s (38 + 7 * c)).toInt) : jF (v (B + 26 + 15 * c + t) 1) (v (B + 23 + 15 * c + (v (B + 26 + 15 * c + t) 0).toNatClampNeg)) (v (B + 26 + 15 * c + t) 3) (v (B + 26 + 15 * c + t) 4) (v (B + 26 + 15 * c + t) 2) = jF (s (159 + 25 * c + 5 * t)) (fun h => s (308 + 48 * c + 24 * (s (158 + 25 * c + 5 * t)).toNatClampNeg + h)) (s (161 + 25 * c + 5 * t)) (s (162 + 25 * c + 5 * t)) (s (160 + 25 * c + 5 * t)) := by
  have e0 : v (B + 26 + 15 * c + t) 0 = s (158 + 25 * c + 5 * t) := h _ _ _ (lk_t hc ha ht hr (j := 0) (by decide))
  have e1 : v (B + 26 + 15 * c + t) 1 = s (159 + 25 * c + 5 * t) := (h _ _ _ (lk_t hc ha ht hr (j := 1) (by decide))).trans (congrArg s (by omega))
  have e2 : v (B + 26 + 15 * c + t) 2 = s (160 + 25 * c + 5 * t) := (h _ _ _ (lk_t hc ha ht hr (j := 2) (by decide))).trans (congrArg s (by omega))
  have e3 : v (B + 26 + 15 * c + t) 3 = s (161 + 25 * c + 5 * t) := (h _ _ _ (lk_t hc ha ht hr (j := 3) (by decide))).trans (congrArg s (by omega))
  have e4 : v (B + 26 + 15 * c + t) 4 = s (162 + 25 * c + 5 * t) := (h _ _ _ (lk_t hc ha ht hr (j := 4) (by decide))).trans (congrArg s (by omega))
  rw [e0, e1, e2, e3, e4]
  obtain ⟨b0, b4⟩ := hs c t hc ht
  have z := t_nn b0.1
  exact jF_cg (fun k hk => h _ _ _ (lk_l hc ha (by omega) (by omega)))
theorem Ir_t {v2 : Nat → Nat → Int32} (hQ : Ir v2) : ∀ c t : Nat, c < 6 → t < 5 → (0 ≤ (v2 1 (158 + 25 * c + 5 * t)).toInt ∧ (v2 1 (158 + 25 * c + 5 * t)).toInt ≤ 1) ∧ (v2 1 (162 + 25 * c + 5 * t)).toInt ≤ 23 := fun c t hc ht => ⟨hQ 1 _ 1 (bS_t hc ht (by omega)), (hQ 1 _ 23 (bS_u hc ht (by omega))).2⟩

set_option maxHeartbeats 4000000 in
theorem T_judged {n r r2 x0 x1 : Int32} {v u v2 u2 : Nat → Nat → Int32} (hI : Iv v) (hQ : Ir v2) (h : RR n v v2) (p : (¬ ((0 ≤ x0.toInt ∧ x0.toInt < (v 13 2).toInt) ∧ 0 ≤ x1.toInt ∧ x1.toInt < (v (29 + 15 * x0.toNatClampNeg) 5).toInt) → r = -1 ∧ u = v) ∧ ((0 ≤ x0.toInt ∧ x0.toInt < (v 13 2).toInt) ∧ 0 ≤ x1.toInt ∧ x1.toInt < (v (29 + 15 * x0.toNatClampNeg) 5).toInt → r = jF (v (39 + 15 * x0.toNatClampNeg + x1.toNatClampNeg) 1) (v (36 + 15 * x0.toNatClampNeg + (v (39 + 15 * x0.toNatClampNeg + x1.toNatClampNeg) 0).toNatClampNeg)) (v (39 + 15 * x0.toNatClampNeg + x1.toNatClampNeg) 3) (v (39 + 15 * x0.toNatClampNeg + x1.toNatClampNeg) 4) (v (39 + 15 * x0.toNatClampNeg + x1.toNatClampNeg) 2) ∧ u = v)) (q : (¬ ((0 ≤ x0.toInt ∧ x0.toInt < (v2 1 2).toInt) ∧ 0 ≤ x1.toInt ∧ x1.toInt < (v2 1 (38 + 7 * x0.toNatClampNeg)).toInt) → r2 = -1 ∧ u2 = v2) ∧ ((0 ≤ x0.toInt ∧ x0.toInt < (v2 1 2).toInt) ∧ 0 ≤ x1.toInt ∧ x1.toInt < (v2 1 (38 + 7 * x0.toNatClampNeg)).toInt → r2 = jF (v2 1 (159 + 25 * x0.toNatClampNeg + 5 * x1.toNatClampNeg)) (fun h => v2 1 (308 + 48 * x0.toNatClampNeg + 24 * (v2 1 (158 + 25 * x0.toNatClampNeg + 5 * x1.toNatClampNeg)).toNatClampNeg + h)) (v2 1 (161 + 25 * x0.toNatClampNeg + 5 * x1.toNatClampNeg)) (v2 1 (162 + 25 * x0.toNatClampNeg + 5 * x1.toNatClampNeg)) (v2 1 (160 + 25 * x0.toNatClampNeg + 5 * x1.toNatClampNeg)) ∧ u2 = v2)) : r = r2 ∧ RR n u u2 := by
  have e0 : v 13 0 = v2 1 0 := h.1.1 _ _ _ (lk_a (by decide))
  have e1 : v 13 1 = v2 1 1 := h.1.1 _ _ _ (lk_a (by decide))
  have e2 : v 13 2 = v2 1 2 := h.1.1 _ _ _ (lk_a (by decide))
  have e3 : v 13 3 = v2 1 3 := h.1.1 _ _ _ (lk_a (by decide))
  have hb0 := hQ 1 0 8 (by decide)
  have hb1 := hQ 1 1 4 (by decide)
  have hb2 := hQ 1 2 6 (by decide)
  have hb3 := hQ 1 3 6 (by decide)
  rw [e2] at p
  by_cases hC : (0 ≤ x0.toInt ∧ x0.toInt < (v2 1 2).toInt)
  · have zX := t_nn (x := x0) (by omega)
    have hX : x0.toNatClampNeg < 6 := by omega
    have ha : (x0.toNatClampNeg : Int) < (v2 1 2).toInt := by omega
    have ev : v (29 + 15 * x0.toNatClampNeg) 5 = v2 1 (38 + 7 * x0.toNatClampNeg) := h.1.1 _ _ _ (lk_c5 hX ha)
    rw [ev] at p
    have hb := hQ 1 (38 + 7 * x0.toNatClampNeg) 5 (bS_c (by omega) (by omega))
    by_cases hT : 0 ≤ x1.toInt ∧ x1.toInt < (v2 1 (38 + 7 * x0.toNatClampNeg)).toInt
    · obtain ⟨p1, p2⟩ := p.2 ⟨hC, hT⟩
      obtain ⟨q1, q2⟩ := q.2 ⟨hC, hT⟩
      have zT := t_nn (x := x1) (by omega)
      refine ⟨?_, by rw [p2, q2]; exact h⟩
      rw [p1, q1]
      exact jF_rel (B := 13) (s := v2 1) (Ir_t hQ) h.1.1 hX ha (by omega) (by omega)
    · obtain ⟨p1, p2⟩ := p.1 (fun w => hT w.2)
      obtain ⟨q1, q2⟩ := q.1 (fun w => hT w.2)
      rw [p1, q1, p2, q2]
      exact ⟨rfl, h⟩
  · obtain ⟨p1, p2⟩ := p.1 (fun w => hC w.1)
    obtain ⟨q1, q2⟩ := q.1 (fun w => hC w.1)
    rw [p1, q1, p2, q2]
    exact ⟨rfl, h⟩
