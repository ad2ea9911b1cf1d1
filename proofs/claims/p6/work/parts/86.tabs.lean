theorem tb_ex {b : Nat} {s : State} (hts : ∀ w ∈ lw_tbl, w.before #[Value.ref b] s = true) : ex_K s :=
  ⟨va_Nw.of rfl (hts (.methodLinkNest RX1 29 yX3_init RX7) (by decide +kernel)), va_Nw.of rfl (hts (.methodLinkNest RX1 30 yX2_init RX7) (by decide +kernel)), va_Nw.of rfl (hts (.methodLinkNest RX0 32 yX6_init RX7) (by decide +kernel)), va_Nw.of rfl (hts (.methodLinkNest RX7 18 yX4_init RX7) (by decide +kernel)), va_Nw.of rfl (hts (.methodLinkNest RX7 25 yX5_init RX7) (by decide +kernel)),
   va_AO.of (hts (.arrayOver (.object RX3)) (by decide +kernel)), va_AO.of (hts (.arrayOver (.object RX2)) (by decide +kernel)), va_AO.of (hts (.arrayOver (.object RX0)) (by decide +kernel)), va_AO.of (hts (.arrayOver (.object RX6)) (by decide +kernel)), hts (.arrayOver (.array .int)) (by decide +kernel), ⟨va_Nw.of rfl (hts (.methodLinkNest RX1 51 yX7_hasBit RX7) (by decide +kernel)), va_Nw.of rfl (hts (.methodLinkNest RX4 115 yX7_hasBit RX7) (by decide +kernel)), va_Nw.of rfl (hts (.methodLinkNest RX5 47 yX7_hasBit RX7) (by decide +kernel)), va_Nw.of rfl (hts (.fieldLinkNest RX1 32 RX7 "OTHER_OF_PAIR" "[I" RX7) (by decide +kernel)), va_Nw.of rfl (hts (.fieldLinkNest RX1 40 RX7 "LESSER_OF_PAIR" "[I" RX7) (by decide +kernel)), va_Nw.of rfl (hts (.fieldLinkNest RX4 109 RX7 "LESSER_OF_PAIR" "[I" RX7) (by decide +kernel)), va_Nw.of rfl (hts (.fieldLinkNest RX4 112 RX7 "OTHER_OF_PAIR" "[I" RX7) (by decide +kernel))⟩⟩

set_option maxHeartbeats 4000000 in
set_option maxRecDepth 100000 in
theorem tb_K {b : Nat} {s : State} (hts : ∀ w ∈ lw_tbl, w.before #[Value.ref b] s = true) : ∃ (dC : Nat → ClassId) (dI : Nat → Nat → Nat) (cy : Nat → ClassId), va_K (dC, dI) vwCl (ty_L cy) s := by
  obtain ⟨c0, j0, hk0⟩ := u_known (C := RX0) (T := TX0) (N := 11) (n := 11) hts inX0 (hts (.instantiable RX0 11) (by decide +kernel))
  obtain ⟨c1, j1, hk1⟩ := u_known (C := RX1) (T := TX1) (N := 7) (n := 7) hts inX1 (hts (.instantiable RX1 7) (by decide +kernel))
  obtain ⟨c2, j2, hk2⟩ := u_known (C := RX2) (T := TX2) (N := 3) (n := 3) hts inX2 (hts (.instantiable RX2 3) (by decide +kernel))
  obtain ⟨c3, j3, hk3⟩ := u_known (C := RX3) (T := TX3) (N := 2) (n := 2) hts inX3 (hts (.instantiable RX3 2) (by decide +kernel))
  obtain ⟨c4, j4, hk4⟩ := u_known (C := RX4) (T := TX4) (N := 11) (n := 11) hts inX4 (hts (.instantiable RX4 11) (by decide +kernel))
  obtain ⟨c5, j5, hk5⟩ := u_known (C := RX5) (T := TX5) (N := 3) (n := 3) hts inX5 (hts (.instantiable RX5 3) (by decide +kernel))
  obtain ⟨c6, j6, hk6⟩ := u_known (C := RX6) (T := TX6) (N := 5) (n := 5) hts inX6 (hts (.instantiable RX6 5) (by decide +kernel))
  obtain ⟨c7, j7, hk7⟩ := u_known (C := RX7) (T := TX7) (N := 5) (n := 5) hts inX7 (hts (.instantiable RX7 5) (by decide +kernel))
  obtain ⟨c8, j8, hk8⟩ := u_known (C := RX8) (T := TX8) (N := 11) (n := 11) hts inX8 (hts (.instantiable RX8 11) (by decide +kernel))
  obtain ⟨y0, z0, w0, a1, a2, a3⟩ := Cond.arrayClass_spec (hts (.arrayClass .int) (by decide +kernel))
  obtain ⟨w1, y1, z1, b11, b12, b13, b14, b15⟩ := Cond.arrayOver_spec (hts (.arrayOver (.object RX3)) (by decide +kernel))
  obtain ⟨w2, y2, z2, b21, b22, b23, b24, b25⟩ := Cond.arrayOver_spec (hts (.arrayOver (.object RX2)) (by decide +kernel))
  obtain ⟨w3, y3, z3, b31, b32, b33, b34, b35⟩ := Cond.arrayOver_spec (hts (.arrayOver (.object RX0)) (by decide +kernel))
  obtain ⟨w4, y4, z4, b41, b42, b43, b44, b45⟩ := Cond.arrayOver_spec (hts (.arrayOver (.object RX6)) (by decide +kernel))
  obtain ⟨w5, y5, z5, b51, b52, b53, b54, b55⟩ := (show ao_A s from hts (.arrayOver (.array .int)) (by decide +kernel)).spec
  refine ⟨fun k => if k = 0 then c0 else if k = 1 then c1 else if k = 2 then c2 else if k = 3 then c3 else if k = 4 then c4 else if k = 5 then c5 else if k = 6 then c6 else if k = 7 then c7 else c8, fun k => if k = 0 then j0 else if k = 1 then j1 else if k = 2 then j2 else if k = 3 then j3 else if k = 4 then j4 else if k = 5 then j5 else if k = 6 then j6 else if k = 7 then j7 else j8, fun k => if k = 0 then y0 else if k = 1 then y1 else if k = 2 then y2 else if k = 3 then y3 else if k = 4 then y4 else y5, ?_, ?_⟩
  · intro k q hq
    match k, hq with
    | 0, hq => cases hq; exact hk0
    | 1, hq => cases hq; exact hk1
    | 2, hq => cases hq; exact hk2
    | 3, hq => cases hq; exact hk3
    | 4, hq => cases hq; exact hk4
    | 5, hq => cases hq; exact hk5
    | 6, hq => cases hq; exact hk6
    | 7, hq => cases hq; exact hk7
    | 8, hq => cases hq; exact hk8
    | k + 9, hq => simp [vwCl] at hq
  · intro k q hq
    match k, hq with
    | 0, hq => cases hq; exact ⟨fun N z => ⟨(fun q hq => by cases hq), z0, a2, w0, a3⟩, a1⟩
    | 1, hq => cases hq; exact ⟨fun N z => ⟨(fun q hq => by cases hq), z1, b13, w1, b14⟩, z1, w1, b13, b14, b11, b15⟩
    | 2, hq => cases hq; exact ⟨fun N z => ⟨(fun q hq => by cases hq), z2, b23, w2, b24⟩, z2, w2, b23, b24, b21, b25⟩
    | 3, hq => cases hq; exact ⟨fun N z => ⟨(fun q hq => by cases hq), z3, b33, w3, b34⟩, z3, w3, b33, b34, b31, b35⟩
    | 4, hq => cases hq; exact ⟨fun N z => ⟨(fun q hq => by cases hq), z4, b43, w4, b44⟩, z4, w4, b43, b44, b41, b45⟩
    | 5, hq => cases hq; exact ⟨fun N z => ⟨(fun q hq => by cases hq), z5, b53, w5, b54⟩, b55⟩
    | k + 6, hq => simp [ty_L] at hq

set_option maxHeartbeats 4000000 in
set_option maxRecDepth 100000 in
theorem tb_st_o {b : Nat} {s : State} (hts : ∀ w ∈ lw_tbl, w.before #[Value.ref b] s = true) (hgv : (Jvm.Cond.and given_1 narrow_1).before #[Value.ref b] s = true) : ∃ t, va_Z RX7 "OTHER_OF_PAIR" "[I" (.ref t) (fun q : Nat => s.heap.size ≤ q) s s.heap ∧ va_T .int t 6 (fun j => .int (st_o j)) (fun q : Nat => s.heap.size ≤ q) s s.heap := by
  have hs := flat_of_before _ hgv
  have hA : ∀ a : Nat, a < s.heap.size → ¬ (fun q : Nat => s.heap.size ≤ q) a := fun a h => Nat.not_le.mpr h
  have harr : (Cond.arrayOf (.static "QuietStairs" "OTHER_OF_PAIR" "[I") .int).before #[Value.ref b] s = true := hs _ (by decide +kernel)
  have hl6 : (Cond.eq (.length (.static "QuietStairs" "OTHER_OF_PAIR" "[I")) (.int 6)).before #[Value.ref b] s = true := hs _ (by decide +kernel)
  have e0 : (Cond.eq (.elem (.static "QuietStairs" "OTHER_OF_PAIR" "[I") (.int 0)) (.int 1)).before #[Value.ref b] s = true := hs _ (by decide +kernel)
  have e1 : (Cond.eq (.elem (.static "QuietStairs" "OTHER_OF_PAIR" "[I") (.int 1)) (.int 2)).before #[Value.ref b] s = true := hs _ (by decide +kernel)
  have e2 : (Cond.eq (.elem (.static "QuietStairs" "OTHER_OF_PAIR" "[I") (.int 2)) (.int 3)).before #[Value.ref b] s = true := hs _ (by decide +kernel)
  have e3 : (Cond.eq (.elem (.static "QuietStairs" "OTHER_OF_PAIR" "[I") (.int 3)) (.int 2)).before #[Value.ref b] s = true := hs _ (by decide +kernel)
  have e4 : (Cond.eq (.elem (.static "QuietStairs" "OTHER_OF_PAIR" "[I") (.int 4)) (.int 3)).before #[Value.ref b] s = true := hs _ (by decide +kernel)
  have e5 : (Cond.eq (.elem (.static "QuietStairs" "OTHER_OF_PAIR" "[I") (.int 5)) (.int 3)).before #[Value.ref b] s = true := hs _ (by decide +kernel)
  obtain ⟨t, ht, hT⟩ := va_Tof (N := 6) (f := fun j => .int (st_o j)) (A := fun q : Nat => s.heap.size ≤ q) (by decide) harr (va_eqt hl6) (fun j hj => by
    rcases (show j = 0 ∨ j = 1 ∨ j = 2 ∨ j = 3 ∨ j = 4 ∨ j = 5 by omega) with rfl | rfl | rfl | rfl | rfl | rfl
    · exact va_eqt e0
    · exact va_eqt e1
    · exact va_eqt e2
    · exact va_eqt e3
    · exact va_eqt e4
    · exact va_eqt e5) hA
  exact ⟨t, va_Zof (hts (.laysStatic RX7 "OTHER_OF_PAIR" "[I") (by decide +kernel)) (hts (.initialized RX7) (by decide +kernel)) ht hA, hT⟩

set_option maxHeartbeats 4000000 in
set_option maxRecDepth 100000 in
theorem tb_st_l {b : Nat} {s : State} (hts : ∀ w ∈ lw_tbl, w.before #[Value.ref b] s = true) (hgv : (Jvm.Cond.and given_1 narrow_1).before #[Value.ref b] s = true) : ∃ t, va_Z RX7 "LESSER_OF_PAIR" "[I" (.ref t) (fun q : Nat => s.heap.size ≤ q) s s.heap ∧ va_T .int t 6 (fun j => .int (st_l j)) (fun q : Nat => s.heap.size ≤ q) s s.heap := by
  have hs := flat_of_before _ hgv
  have hA : ∀ a : Nat, a < s.heap.size → ¬ (fun q : Nat => s.heap.size ≤ q) a := fun a h => Nat.not_le.mpr h
  have harr : (Cond.arrayOf (.static "QuietStairs" "LESSER_OF_PAIR" "[I") .int).before #[Value.ref b] s = true := hs _ (by decide +kernel)
  have hl6 : (Cond.eq (.length (.static "QuietStairs" "LESSER_OF_PAIR" "[I")) (.int 6)).before #[Value.ref b] s = true := hs _ (by decide +kernel)
  have e0 : (Cond.eq (.elem (.static "QuietStairs" "LESSER_OF_PAIR" "[I") (.int 0)) (.int 0)).before #[Value.ref b] s = true := hs _ (by decide +kernel)
  have e1 : (Cond.eq (.elem (.static "QuietStairs" "LESSER_OF_PAIR" "[I") (.int 1)) (.int 0)).before #[Value.ref b] s = true := hs _ (by decide +kernel)
  have e2 : (Cond.eq (.elem (.static "QuietStairs" "LESSER_OF_PAIR" "[I") (.int 2)) (.int 0)).before #[Value.ref b] s = true := hs _ (by decide +kernel)
  have e3 : (Cond.eq (.elem (.static "QuietStairs" "LESSER_OF_PAIR" "[I") (.int 3)) (.int 1)).before #[Value.ref b] s = true := hs _ (by decide +kernel)
  have e4 : (Cond.eq (.elem (.static "QuietStairs" "LESSER_OF_PAIR" "[I") (.int 4)) (.int 1)).before #[Value.ref b] s = true := hs _ (by decide +kernel)
  have e5 : (Cond.eq (.elem (.static "QuietStairs" "LESSER_OF_PAIR" "[I") (.int 5)) (.int 2)).before #[Value.ref b] s = true := hs _ (by decide +kernel)
  obtain ⟨t, ht, hT⟩ := va_Tof (N := 6) (f := fun j => .int (st_l j)) (A := fun q : Nat => s.heap.size ≤ q) (by decide) harr (va_eqt hl6) (fun j hj => by
    rcases (show j = 0 ∨ j = 1 ∨ j = 2 ∨ j = 3 ∨ j = 4 ∨ j = 5 by omega) with rfl | rfl | rfl | rfl | rfl | rfl
    · exact va_eqt e0
    · exact va_eqt e1
    · exact va_eqt e2
    · exact va_eqt e3
    · exact va_eqt e4
    · exact va_eqt e5) hA
  exact ⟨t, va_Zof (hts (.laysStatic RX7 "LESSER_OF_PAIR" "[I") (by decide +kernel)) (hts (.initialized RX7) (by decide +kernel)) ht hA, hT⟩
