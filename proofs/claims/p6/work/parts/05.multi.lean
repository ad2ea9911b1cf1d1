section YM
variable {E : CtlPost} {e : Env} {d : Bool} {acts : List Action} {s : State}
theorem ym_na {c comp : ClassId} {k : Class} {ty : FieldType} {n : Nat} {v0 : Value} (hk : s.vm.classes[c]? = some k) (hkind : k.kind = .array comp ty) (hl : ¬ n > e.platform.arrayLengthLimit) (hh : ¬ n * componentBytes ty > e.platform.maxHeapBytes) (hf : fits ty v0 = true) (hdv : v0.isDefault = true) {Q : Addr → Pre}
    (h1 : s.heap.size < e.platform.maxCells) (h2 : s.slotsUsed + n ≤ e.platform.maxSlots) (hq : Q s.heap.size d acts (s.pushCell { cls := c, slots := Array.replicate n v0, vm := .none })) : wp (Jvm.newArray c n v0) Q E e d acts s := by
  have hall : ((Array.replicate n v0).all (·.isDefault)) = true := by
    rw [Array.all_replicate]
    split <;> simp [hdv]
  have hacts : allocActs (Array.replicate n v0) s.heap.size acts = acts := by
    unfold allocActs
    rw [if_pos hall]
  have hfs : ∀ i v, (Array.replicate n v0)[i]? = some v → s.fitsSlot c .none i v = true := fun i v hv => by
    simp only [Array.getElem?_replicate] at hv
    split at hv
    · cases hv
      simp [State.fitsSlot, State.slotType?, hk, hkind, hf]
    · cases hv
  simp only [Jvm.newArray, Jvm.arrayFits, wp_bind', W.ask, W.ite, hl, if_false, wp_pure', W.theClass, hk, hkind, hh, W.alloc, W.stop, Option.some.injEq, exists_eq_left', Array.size_replicate, hacts]
  rw [if_neg (by omega)]
  exact ⟨h1, h2, hfs, hq⟩
/-- the outer array of two, with none, one, two of its rows stored -/
abbrev ym_o (c : ClassId) : Cell := { cls := c, slots := Array.replicate 2 .null, vm := .none }
abbrev ym_r (c : ClassId) (n : Nat) : Cell := { cls := c, slots := Array.replicate n (.int 0), vm := .none }
def ym_1 (s : State) (cA c : ClassId) (n : Nat) : State := ((s.pushCell (ym_o cA)).pushCell (ym_r c n)).setCell s.heap.size ((ym_o cA).setSlot 0 (.ref (s.heap.size + 1)))
def ym_2 (s : State) (cA c : ClassId) (n : Nat) : State := ((ym_1 s cA c n).pushCell (ym_r c n)).setCell s.heap.size (((ym_o cA).setSlot 0 (.ref (s.heap.size + 1))).setSlot 1 (.ref (s.heap.size + 2)))
theorem ym_1f (s : State) (cA c : ClassId) (n : Nat) : (ym_1 s cA c n).heap.size = s.heap.size + 2 ∧ (ym_1 s cA c n).heap[s.heap.size]? = some ((ym_o cA).setSlot 0 (.ref (s.heap.size + 1))) ∧ (ym_1 s cA c n).vm = s.vm ∧ (ym_1 s cA c n).slotsUsed = s.slotsUsed + 2 + n ∧ (∀ a, a < s.heap.size → (ym_1 s cA c n).heap[a]? = s.heap[a]?) ∧ (ym_1 s cA c n).heap[s.heap.size + 1]? = some (ym_r c n) := by
  have h0 : (s.pushCell (ym_o cA)).heap.size = s.heap.size + 1 := by simp
  have l0 : ∀ a, a < s.heap.size + 1 → a < (s.pushCell (ym_o cA)).heap.size := fun a h => by rw [h0]; exact h
  have hb : ((s.pushCell (ym_o cA)).pushCell (ym_r c n)).heap[s.heap.size]? = some (ym_o cA) := by
    rw [State.heap_pushCell_of_lt (h := l0 _ (Nat.lt_succ_self _))]
    exact State.heap_pushCell_size _ _
  refine ⟨by simp [ym_1, State.setCell], State.heap_setCell_self hb, by simp [ym_1], by simp [ym_1], fun a ha => ?_, ?_⟩
  · show (((s.pushCell (ym_o cA)).pushCell (ym_r c n)).setCell s.heap.size _).heap[a]? = _
    rw [State.heap_setCell_other (Nat.ne_of_gt ha), State.heap_pushCell_of_lt (h := l0 a (by omega)), State.heap_pushCell_of_lt (h := ha)]
  · show (((s.pushCell (ym_o cA)).pushCell (ym_r c n)).setCell s.heap.size _).heap[s.heap.size + 1]? = _
    rw [State.heap_setCell_other (show s.heap.size ≠ s.heap.size + 1 by omega), ← h0]
    exact State.heap_pushCell_size _ _
theorem ym_2f (s : State) (cA c : ClassId) (n : Nat) : (ym_2 s cA c n).heap.size = s.heap.size + 3 ∧ (ym_2 s cA c n).heap[s.heap.size]? = some (((ym_o cA).setSlot 0 (.ref (s.heap.size + 1))).setSlot 1 (.ref (s.heap.size + 2))) ∧ (∀ a, a < s.heap.size → (ym_2 s cA c n).heap[a]? = s.heap[a]?) ∧ (ym_2 s cA c n).heap[s.heap.size + 1]? = some (ym_r c n) ∧ (ym_2 s cA c n).heap[s.heap.size + 2]? = some (ym_r c n) := by
  obtain ⟨f1, f2, f3, f4, f5, f6⟩ := ym_1f s cA c n
  have l1 : ∀ a, a < s.heap.size + 2 → a < (ym_1 s cA c n).heap.size := fun a h => by rw [f1]; exact h
  have hb : ((ym_1 s cA c n).pushCell (ym_r c n)).heap[s.heap.size]? = some ((ym_o cA).setSlot 0 (.ref (s.heap.size + 1))) := by
    rw [State.heap_pushCell_of_lt (h := l1 s.heap.size (by omega))]
    exact f2
  refine ⟨by simp [ym_2, State.setCell, f1], State.heap_setCell_self hb, fun a ha => ?_, ?_, ?_⟩
  · show (((ym_1 s cA c n).pushCell (ym_r c n)).setCell s.heap.size _).heap[a]? = _
    rw [State.heap_setCell_other (Nat.ne_of_gt ha), State.heap_pushCell_of_lt (h := l1 a (by omega))]
    exact f5 a ha
  · show (((ym_1 s cA c n).pushCell (ym_r c n)).setCell s.heap.size _).heap[s.heap.size + 1]? = _
    rw [State.heap_setCell_other (show s.heap.size ≠ s.heap.size + 1 by omega), State.heap_pushCell_of_lt (h := l1 (s.heap.size + 1) (by omega))]
    exact f6
  · show (((ym_1 s cA c n).pushCell (ym_r c n)).setCell s.heap.size _).heap[s.heap.size + 2]? = _
    rw [State.heap_setCell_other (show s.heap.size ≠ s.heap.size + 2 by omega), ← f1]
    exact State.heap_pushCell_size _ _
theorem ym_row {c cc : ClassId} {kc : Class} {m : Int32} (hkc : s.vm.classes[c]? = some kc) (hkindc : kc.kind = .array cc .int) (hm : ¬ m < 0) (hl2 : ¬ m.toNatClampNeg > e.platform.arrayLengthLimit) (hh2 : ¬ m.toNatClampNeg * 4 > e.platform.maxHeapBytes)
    (h1 : s.heap.size < e.platform.maxCells) (h2 : s.slotsUsed + m.toNatClampNeg ≤ e.platform.maxSlots) {Q : Addr → Pre} (hq : Q s.heap.size d acts (s.pushCell (ym_r c m.toNatClampNeg))) : wp (multianewarray.make c [m]) Q E e d acts s := by
  rw [multianewarray.make]
  simp only [wp_bind', W.ite, hm, if_false, wp_pure', W.theClass, hkc, hkindc, Option.some.injEq, exists_eq_left']
  exact ym_na hkc hkindc hl2 hh2 rfl rfl h1 h2 hq
theorem ym_make {cA c cc : ClassId} {k kc : Class} {m : Int32} (hk : s.vm.classes[cA]? = some k) (hkind : k.kind = .array c (.array .int)) (hkc : s.vm.classes[c]? = some kc) (hkindc : kc.kind = .array cc .int) (hm : ¬ m < 0)
    (hl1 : ¬ 2 > e.platform.arrayLengthLimit) (hh1 : ¬ 2 * 4 > e.platform.maxHeapBytes) (hl2 : ¬ m.toNatClampNeg > e.platform.arrayLengthLimit) (hh2 : ¬ m.toNatClampNeg * 4 > e.platform.maxHeapBytes)
    (hc : s.heap.size + 3 ≤ e.platform.maxCells) (hs : s.slotsUsed + 2 + m.toNatClampNeg + m.toNatClampNeg ≤ e.platform.maxSlots) {Q : Addr → Pre} (hq : ∀ d' acts', Q s.heap.size d' acts' (ym_2 s cA c m.toNatClampNeg)) : wp (multianewarray.make cA [2, m]) Q E e d acts s := by
  have hfind : ([m].find? (· < 0)) = none := by simp [hm]
  have h2 : ((2 : Int32).toNatClampNeg) = 2 := by decide
  have hn2 : ¬ (2 : Int32) < 0 := by decide
  obtain ⟨f1, f2, f3, f4, f5, f6⟩ := ym_1f s cA c m.toNatClampNeg
  rw [multianewarray.make]
  simp only [wp_bind', W.ite, hn2, if_false, wp_pure', W.theClass, hk, hkind, Option.some.injEq, exists_eq_left', h2]
  refine ym_na hk hkind hl1 hh1 rfl rfl (by omega) (by omega) ?_
  simp only [hfind]
  rw [ite_self, wp_bind', Std.Legacy.Range.forIn_eq_forIn_range']
  have hsz : ([:2] : Std.Legacy.Range).size = 2 := by simp [Std.Legacy.Range.size]
  rw [hsz]
  show wp (forIn [0, 1] PUnit.unit _) _ E e d acts _
  simp only [List.forIn_cons, List.forIn_nil, wp_bind']
  refine ym_row (s := s.pushCell (ym_o cA)) hkc hkindc hm hl2 hh2 (by simp; omega) (by simp; omega) ?_
  have g0 : (s.pushCell (ym_o cA)).heap.size = s.heap.size + 1 := by simp
  have l0 : s.heap.size < (s.pushCell (ym_o cA)).heap.size := by rw [g0]; exact Nat.lt_succ_self _
  have g1 : ((s.pushCell (ym_o cA)).pushCell (ym_r c m.toNatClampNeg)).heap[s.heap.size]? = some (ym_o cA) := by
    rw [State.heap_pushCell_of_lt (h := l0)]
    exact State.heap_pushCell_size _ _
  simp only [wp_bind', W.writeLoc, wp_pure']
  refine ⟨ym_o cA, g1, by simp, by simp, by simp [State.fitsSlot, State.slotType?, hk, hkind]; rfl, ?_⟩
  rw [g0]
  show wp _ _ E e _ _ (ym_1 s cA c m.toNatClampNeg)
  refine ym_row (s := ym_1 s cA c m.toNatClampNeg) (by rw [f3]; exact hkc) hkindc hm hl2 hh2 (by rw [f1]; omega) (by rw [f4]; omega) ?_
  have l1 : s.heap.size < (ym_1 s cA c m.toNatClampNeg).heap.size := by rw [f1]; omega
  have g2 : ((ym_1 s cA c m.toNatClampNeg).pushCell (ym_r c m.toNatClampNeg)).heap[s.heap.size]? = some ((ym_o cA).setSlot 0 (.ref (s.heap.size + 1))) := by
    rw [State.heap_pushCell_of_lt (h := l1)]
    exact f2
  simp only [wp_bind', W.writeLoc, wp_pure']
  refine ⟨_, g2, by simp [Cell.setSlot], by simp [Cell.setSlot], by simp [State.fitsSlot, State.slotType?, Cell.setSlot, f3, hk, hkind]; rfl, ?_⟩
  rw [f1]
  exact hq _ _
end YM
section YX
variable {p : Program} {l : Launch} {e : Env} {R : Room} {s : State} {m : MethodId} {args : Array Value} {below : List Frame} {meth : Method} {c : Code} {T : State} {locs : List Loc} {cells slots : Nat}
theorem ym_step (X : Stand p l e R s m args below meth c T locs cells slots) (hexec : p.tables.exec = Jvm.exec) {own : String} {index : Nat} (hown : s.vm.findClass own = some m.cls) (hclink : (Cond.classLink own index "[[I").before args s = true) (hover : ao_A s) (harr : (Cond.arrayClass .int).before args s = true)
    {g : JFrame} (hg : g.method = m) (hdg : decode c.code g.pc = .ok (.multianewarray index 2, 4)) {k : Int32} {rest : List Value} (hstack : g.stack = .int k :: .int 2 :: rest) (hk : ¬ k < 0) (hb2 : k.toNatClampNeg * 4 ≤ 536870912) (hcells : cells + 3 ≤ R.cells) (hslots : slots + (2 + k.toNatClampNeg + k.toNatClampNeg) ≤ R.slots) :
    ∃ (vm₁ : Vm) (cA comp : ClassId), s.vm.findClass "[[I" = some cA ∧ s.vm.findClass "[I" = some comp ∧
      Stand p l e R s m args below meth c (ym_2 (T.setVm vm₁) cA comp k.toNatClampNeg) ((locs ++ [⟨T.heap.size, 0⟩]) ++ [⟨T.heap.size, 1⟩]) (cells + 3) (slots + (2 + k.toNatClampNeg + k.toNatClampNeg)) ∧
      ∀ target, Steps p.tables e below ((ym_2 (T.setVm vm₁) cA comp k.toNatClampNeg).setTop { g with pc := g.pc + 4, stack := .ref T.heap.size :: rest }) target → Steps p.tables e below (T.setTop g) target := by
  subst hg
  have hpl : e.platform.magicAccessors = ({} : Platform).magicAccessors := by rw [X.admits.platform]
  obtain ⟨comp, cA, kA, hcomp, -, hkA, hkindA, hnameA⟩ := hover.spec
  obtain ⟨comp', kC, cc, hcomp', hkC, hkindC⟩ := Cond.arrayClass_spec harr
  have ecomp : comp' = comp := Option.some.inj (hcomp'.symm.trans hcomp)
  subst ecomp
  obtain ⟨c0, hfc0, hcl⟩ := Cond.classLink_spec hown hclink e.platform hpl
  cases (show s.vm.findClass "[[I" = some cA from hnameA).symm.trans hfc0
  obtain ⟨hg₁, hwarm₁, hready₁⟩ := State.classEntry (e := e) X.warmed hcl
  generalize T.vm.noted g.method.cls index (.cls cA) = vm₁ at hg₁ hwarm₁ hready₁
  have hal : s.vm.Alike vm₁ := hwarm₁.alike
  obtain ⟨kA₁, hkA₁, heA⟩ := hal.2.2 _ _ hkA
  obtain ⟨kC₁, hkC₁, heC⟩ := hal.2.2 _ _ hkC
  have hkindA₁ : kA₁.kind = .array comp' (.array .int) := by rw [heA]; exact hkindA
  have hkindC₁ : kC₁.kind = .array cc .int := by rw [heC]; exact hkindC
  have X₁ := X.noted hwarm₁
  obtain ⟨hr1, hr2⟩ := X.roomAbove hcells hslots
  obtain ⟨f1, f2, f3, f4, f5, f6⟩ := ym_1f (T.setVm vm₁) cA comp' k.toNatClampNeg
  have g0 : ((T.setVm vm₁).pushCell (ym_o cA)).heap.size = (T.setVm vm₁).heap.size + 1 := by simp
  have l0 : (T.setVm vm₁).heap.size < ((T.setVm vm₁).pushCell (ym_o cA)).heap.size := by rw [g0]; exact Nat.lt_succ_self _
  have g1 : (((T.setVm vm₁).pushCell (ym_o cA)).pushCell (ym_r comp' k.toNatClampNeg)).heap[(T.setVm vm₁).heap.size]? = some (ym_o cA) := by
    rw [State.heap_pushCell_of_lt (h := l0)]
    exact State.heap_pushCell_size _ _
  have Y1 := ((X₁.pushed (ym_o cA)).pushed (ym_r comp' k.toNatClampNeg)).stored g1 0 (.ref ((T.setVm vm₁).heap.size + 1))
  have l1 : (T.setVm vm₁).heap.size < (ym_1 (T.setVm vm₁) cA comp' k.toNatClampNeg).heap.size := by rw [f1]; omega
  have g2 : ((ym_1 (T.setVm vm₁) cA comp' k.toNatClampNeg).pushCell (ym_r comp' k.toNatClampNeg)).heap[(T.setVm vm₁).heap.size]? = some ((ym_o cA).setSlot 0 (.ref ((T.setVm vm₁).heap.size + 1))) := by
    rw [State.heap_pushCell_of_lt (h := l1)]
    exact f2
  have Y2 := (Stand.pushed (T := ym_1 (T.setVm vm₁) cA comp' k.toNatClampNeg) Y1 (ym_r comp' k.toNatClampNeg)).stored g2 1 (.ref ((T.setVm vm₁).heap.size + 2))
  have XF : Stand p l e R s g.method args below meth c (ym_2 (T.setVm vm₁) cA comp' k.toNatClampNeg) ((locs ++ [⟨T.heap.size, 0⟩]) ++ [⟨T.heap.size, 1⟩]) (cells + 3) (slots + (2 + k.toNatClampNeg + k.toNatClampNeg)) := by
    have e1 : (ym_o cA).slots.size = 2 := by simp
    have e2 : (ym_r comp' k.toNatClampNeg).slots.size = k.toNatClampNeg := by simp
    rw [e1, e2] at Y2
    have e3 : slots + 2 + k.toNatClampNeg + k.toNatClampNeg = slots + (2 + k.toNatClampNeg + k.toNatClampNeg) := by omega
    rw [e3] at Y2
    exact Y2
  refine ⟨vm₁, cA, comp', hnameA, hcomp, XF, fun target hrest => ?_⟩
  have hl1 : ¬ 2 > e.platform.arrayLengthLimit := by rw [Launch.admits_arrayLengthLimit X.admits]; omega
  have hh1 : ¬ 2 * 4 > e.platform.maxHeapBytes := by rw [Launch.admits_maxHeapBytes X.admits]; omega
  have hl2 : ¬ k.toNatClampNeg > e.platform.arrayLengthLimit := by rw [Launch.admits_arrayLengthLimit X.admits]; omega
  have hh2 : ¬ k.toNatClampNeg * 4 > e.platform.maxHeapBytes := by rw [Launch.admits_maxHeapBytes X.admits]; omega
  jvm_step X.here [hexec, hdg]
  simp only [multianewarray.sem, wp_bind', W.resolveClassAt_links (State.method?_setTop g X.here.top) hg₁]
  rw [W.popN, if_neg (by decide)]
  refine ⟨g, State.topJava?_setTop' (s := T.setVm vm₁) g X.here.top, [.int 2, .int k], rest, rfl, hstack, ?_⟩
  simp only [List.mapM_cons, List.mapM_nil, wp_bind', wp_pure']
  have eS : ((T.setTop g).setVm vm₁).setTop { g with stack := rest } = (T.setVm vm₁).setTop { g with stack := rest } := by
    show ((T.setVm vm₁).setTop g).setTop _ = _
    rw [State.setTop_setTop]
  refine ym_make (k := kA₁) (kc := kC₁) (c := comp') (cc := cc) hkA₁ hkindA₁ hkC₁ hkindC₁ hk hl1 hh1 hl2 hh2 (by show T.heap.size + 3 ≤ _; omega) (by show T.slotsUsed + 2 + _ + _ ≤ _; omega) (fun d' acts' => ?_)
  have eF : ym_2 (((T.setTop g).setVm vm₁).setTop { g with stack := rest }) cA comp' k.toNatClampNeg = (ym_2 (T.setVm vm₁) cA comp' k.toNatClampNeg).setTop { g with stack := rest } := by
    rw [eS]
    simp only [ym_2, ym_1, State.heap_setTop, State.pushCell_setTop, State.setCell_setTop]
  rw [eF]
  simp only [wp_bind', W.mark, W.pushRef, State.topJava?_setTop' _ XF.here.top, Option.some.injEq, exists_eq_left', State.setTop_setTop, State.heap_setTop]
  intro acts
  simp [jvm, XF.here.top]
  exact hrest
end YX
section YN
variable {p : Program} {l : Launch} {e : Env} {R : Room} {s : State} {m : MethodId} {args : Array Value} {below : List Frame} {meth : Method} {c : Code} {H : Heap} {locs : List Loc} {cells slots : Nat} {Q : State → Prop}
variable {cc : ByteArray} {pc : Nat} {ls : Array Slot} {rest : List Value} {D : va_G} {cl : List vw_C} {A : Nat → Prop} {cy : Nat → ClassId} {ws : va_W} {H0 : Heap}
/-- new int[2][k] -/
theorem yn_m (hexec : p.tables.exec = Jvm.exec) (hb : c.code = cc) {own : String} {index : Nat} (hown : s.vm.findClass own = some m.cls) (hclink : (Cond.classLink own index "[[I").before args s = true) (hover : ao_A s) (harr : (Cond.arrayClass .int).before args s = true) (hK : va_K D cl (ty_L cy) s) (hP : va_P D cl ws H) (hD : va_D A ws) (hS : va_S A H0 H locs) (hA : ∀ q, H0.size ≤ q → A q)
    {k : Int32} (K' : Nat) (hk : ¬ k < 0) (hM : k.toNatClampNeg = K') (hb2 : K' * 4 ≤ 536870912) (hcells : cells + 3 ≤ R.cells) (hslots : slots + (2 + K' + K') ≤ R.slots) (hdg : decode cc pc = .ok (.multianewarray index 2, 4))
    (kk : ∀ (q : Nat) (H1 : Heap) (locs1 : List Loc), va_P D cl (ws ++ [(q, .inl (cy 5, 2, .inr (.inr (.inr (.inr (fun i => if i < 2 then some (q + 1 + i) else none)))))), (q + 1, .inl (cy 0, K', .inl (fun _ => 0))), (q + 2, .inl (cy 0, K', .inl (fun _ => 0)))]) H1 → va_D A (ws ++ [(q, .inl (cy 5, 2, .inr (.inr (.inr (.inr (fun i => if i < 2 then some (q + 1 + i) else none)))))), (q + 1, .inl (cy 0, K', .inl (fun _ => 0))), (q + 2, .inl (cy 0, K', .inl (fun _ => 0)))]) → va_S A H0 H1 locs1 →
      W p l e R s m args below meth c H1 locs1 (cells + 3) (slots + (2 + K' + K')) Q (F0 m (pc + 4) ls (.ref q :: rest))) : W p l e R s m args below meth c H locs cells slots Q (F0 m pc ls (.int k :: .int 2 :: rest)) := by
  subst hM
  intro T hT Xs
  obtain ⟨vm₁, cA, comp, fA, fC, X', step⟩ := ym_step Xs hexec hown hclink hover harr (g := F0 m pc ls (.int k :: .int 2 :: rest)) rfl (by rw [hb]; exact hdg) rfl hk hb2 hcells hslots
  have eA : cA = cy 5 := Option.some.inj (fA.symm.trans (hK.2 5 _ rfl).2)
  have eC : comp = cy 0 := Option.some.inj (fC.symm.trans (hK.2 0 _ rfl).2)
  subst eA
  subst eC
  have hTh : (T.setVm vm₁).heap = H := hT
  obtain ⟨f1, f2, f3, f4, f5⟩ := ym_2f (T.setVm vm₁) (cy 5) (cy 0) k.toNatClampNeg
  generalize ym_2 (T.setVm vm₁) (cy 5) (cy 0) k.toNatClampNeg = F at X' step f1 f2 f3 f4 f5
  rw [hTh] at f1 f2 f3 f4 f5
  have eR : (ym_r (cy 0) k.toNatClampNeg) = vp_cell (cy 0) (k.toNatClampNeg, .inl (fun _ => 0)) := by
    show ({ cls := cy 0, slots := Array.replicate k.toNatClampNeg (.int 0), vm := .none } : Cell) = _
    rw [arrV_new]
    rfl
  have eO : ((ym_o (cy 5)).setSlot 0 (.ref (H.size + 1))).setSlot 1 (.ref (H.size + 2)) = vp_cell (cy 5) (2, .inr (.inr (.inr (.inr (fun i => if i < 2 then some (H.size + 1 + i) else none))))) := by
    rw [vp_cell_q]
    show (({ cls := cy 5, slots := Array.replicate 2 .null, vm := .none } : Cell).setSlot 0 _).setSlot 1 _ = _
    rw [arrV_new, arrV_store, arrV_store]
    refine congrArg (arrV (cy 5) 2) (funext fun j => ?_)
    rcases Nat.lt_or_ge j 2 with h | h
    · rcases (show j = 0 ∨ j = 1 by omega) with rfl | rfl <;> simp [updV, va_rf]
    · simp [updV, va_rf, show j ≠ 0 by omega, show j ≠ 1 by omega, show ¬ j < 2 by omega]
  rw [eO] at f2
  rw [eR] at f4 f5
  have hN : ∀ (k9 : Nat) (x : Nat × va_E), ([(H.size, .inl (cy 5, 2, .inr (.inr (.inr (.inr (fun i => if i < 2 then some (H.size + 1 + i) else none)))))), (H.size + 1, .inl (cy 0, k.toNatClampNeg, .inl (fun _ => 0))), (H.size + 2, .inl (cy 0, k.toNatClampNeg, .inl (fun _ => 0)))] : va_W)[k9]? = some x → va_at D cl x F.heap ∧ x.1 = H.size + k9 := fun k9 x hx => by
    have h0 : k9 < 3 := (List.getElem?_eq_some_iff.mp hx).1
    rcases (show k9 = 0 ∨ k9 = 1 ∨ k9 = 2 by omega) with rfl | rfl | rfl <;> cases hx
    · exact ⟨f2, rfl⟩
    · exact ⟨f4, rfl⟩
    · exact ⟨f5, rfl⟩
  have hP1 := (hP.kept (H1 := F.heap) (fun k9 x hx => f3 x.1 ((hP k9 x hx).lt))).app (fun k9 x hx => (hN k9 x hx).1)
  have hs0 := hS.1
  have hD1 := va_D.app hD (w2 := ([(H.size, .inl (cy 5, 2, .inr (.inr (.inr (.inr (fun i => if i < 2 then some (H.size + 1 + i) else none)))))), (H.size + 1, .inl (cy 0, k.toNatClampNeg, .inl (fun _ => 0))), (H.size + 2, .inl (cy 0, k.toNatClampNeg, .inl (fun _ => 0)))] : va_W)) ⟨fun i j x y hi hj hxy => by
      have h1 := (hN i x hi).2
      have h2 := (hN j y hj).2
      omega, fun k9 x hx => hA _ (by have := (hN k9 x hx).2; omega)⟩ (fun i j x y hi hj hxy => by
      have h1 := (hP i x hi).lt
      have h2 := (hN j y hj).2
      omega)
  obtain ⟨t, a1, b1⟩ := kk H.size F.heap ((locs ++ [⟨T.heap.size, 0⟩]) ++ [⟨T.heap.size, 1⟩]) hP1 hD1 ⟨by rw [f1]; omega, fun x h1 h2 => (f3 x (Nat.lt_of_lt_of_le h1 hs0)).trans (hS.2.1 x h1 h2), fun q hq => by
    have hTs : T.heap.size = H.size := by rw [hT]
    rcases List.mem_append.mp hq with h | h
    · rcases List.mem_append.mp h with h | h
      · exact hS.2.2 q h
      · rw [List.mem_singleton.mp h]
        exact hA _ (by rw [hTs]; exact hs0)
    · rw [List.mem_singleton.mp h]
      exact hA _ (by rw [hTs]; exact hs0)⟩ F rfl X'
  refine ⟨t, step t ?_, b1⟩
  have e : T.heap.size = H.size := by rw [hT]
  rw [e]
  exact a1
end YN
