-- ===== PART A: goes FIRST, ahead of the names: the tables' words, and 'selects' of the private methods out of them =====
/-- a private method of a class that the tables say can be made, by its rows of tables_1 -/
def lw_okq (q : MethodName × Nat) : Prop := (q.1.cls ≠ "java/lang/invoke/MethodHandle" ∧ q.1.cls ≠ "java/lang/invoke/VarHandle") ∧ Cond.instantiable q.1.cls q.2 ∈ tables_1 ∧ Cond.privateMethod q.1 ∈ tables_1 ∧ Cond.instanceMethod q.1 ∈ tables_1
theorem lw_p0 : lw_okq (⟨"QuietStairs", "isMediator", "(I)Z"⟩, 5) := ⟨⟨by decide +kernel, by decide +kernel⟩, List.mem_of_getElem? (i := 14) (by decide +kernel), List.mem_of_getElem? (i := 286) (by decide +kernel), List.mem_of_getElem? (i := 287) (by decide +kernel)⟩
theorem lw_p1 : lw_okq (⟨"QuietStairs", "isParty", "(I)Z"⟩, 5) := ⟨⟨by decide +kernel, by decide +kernel⟩, List.mem_of_getElem? (i := 14) (by decide +kernel), List.mem_of_getElem? (i := 290) (by decide +kernel), List.mem_of_getElem? (i := 291) (by decide +kernel)⟩
theorem lw_p2 : lw_okq (⟨"QuietStairs", "isCase", "(I)Z"⟩, 5) := ⟨⟨by decide +kernel, by decide +kernel⟩, List.mem_of_getElem? (i := 14) (by decide +kernel), List.mem_of_getElem? (i := 309) (by decide +kernel), List.mem_of_getElem? (i := 310) (by decide +kernel)⟩
theorem lw_p3 : lw_okq (⟨"QuietStairs$Planner", "gather", "(LQuietStairs$House;)V"⟩, 11) := ⟨⟨by decide +kernel, by decide +kernel⟩, List.mem_of_getElem? (i := 198) (by decide +kernel), List.mem_of_getElem? (i := 411) (by decide +kernel), List.mem_of_getElem? (i := 412) (by decide +kernel)⟩
theorem lw_p4 : lw_okq (⟨"QuietStairs$Planner", "sortByWeight", "()V"⟩, 11) := ⟨⟨by decide +kernel, by decide +kernel⟩, List.mem_of_getElem? (i := 198) (by decide +kernel), List.mem_of_getElem? (i := 420) (by decide +kernel), List.mem_of_getElem? (i := 421) (by decide +kernel)⟩
theorem lw_p5 : lw_okq (⟨"QuietStairs$Planner", "search", "(II)V"⟩, 11) := ⟨⟨by decide +kernel, by decide +kernel⟩, List.mem_of_getElem? (i := 198) (by decide +kernel), List.mem_of_getElem? (i := 424) (by decide +kernel), List.mem_of_getElem? (i := 425) (by decide +kernel)⟩
theorem lw_p6 : lw_okq (⟨"QuietStairs$Planner", "leastBehind", "(I)I"⟩, 11) := ⟨⟨by decide +kernel, by decide +kernel⟩, List.mem_of_getElem? (i := 198) (by decide +kernel), List.mem_of_getElem? (i := 428) (by decide +kernel), List.mem_of_getElem? (i := 429) (by decide +kernel)⟩
theorem lw_p7 : lw_okq (⟨"QuietStairs$Planner", "searchDay", "(III)V"⟩, 11) := ⟨⟨by decide +kernel, by decide +kernel⟩, List.mem_of_getElem? (i := 198) (by decide +kernel), List.mem_of_getElem? (i := 435) (by decide +kernel), List.mem_of_getElem? (i := 436) (by decide +kernel)⟩
theorem lw_p8 : lw_okq (⟨"QuietStairs", "isTerm", "(II)Z"⟩, 5) := ⟨⟨by decide +kernel, by decide +kernel⟩, List.mem_of_getElem? (i := 14) (by decide +kernel), List.mem_of_getElem? (i := 465) (by decide +kernel), List.mem_of_getElem? (i := 466) (by decide +kernel)⟩
theorem lw_p9 : lw_okq (⟨"QuietStairs$Table", "pinLeastHour", "(I)I"⟩, 3) := ⟨⟨by decide +kernel, by decide +kernel⟩, List.mem_of_getElem? (i := 239) (by decide +kernel), List.mem_of_getElem? (i := 494) (by decide +kernel), List.mem_of_getElem? (i := 495) (by decide +kernel)⟩
theorem lw_p10 : lw_okq (⟨"QuietStairsModel", "isMediator", "(I)Z"⟩, 11) := ⟨⟨by decide +kernel, by decide +kernel⟩, List.mem_of_getElem? (i := 570) (by decide +kernel), List.mem_of_getElem? (i := 625) (by decide +kernel), List.mem_of_getElem? (i := 626) (by decide +kernel)⟩
theorem lw_p11 : lw_okq (⟨"QuietStairsModel", "isParty", "(I)Z"⟩, 11) := ⟨⟨by decide +kernel, by decide +kernel⟩, List.mem_of_getElem? (i := 570) (by decide +kernel), List.mem_of_getElem? (i := 629) (by decide +kernel), List.mem_of_getElem? (i := 630) (by decide +kernel)⟩
theorem lw_p12 : lw_okq (⟨"QuietStairsModel", "isCase", "(I)Z"⟩, 11) := ⟨⟨by decide +kernel, by decide +kernel⟩, List.mem_of_getElem? (i := 570) (by decide +kernel), List.mem_of_getElem? (i := 644) (by decide +kernel), List.mem_of_getElem? (i := 645) (by decide +kernel)⟩
theorem lw_p13 : lw_okq (⟨"QuietStairsModel", "findHeads", "()V"⟩, 11) := ⟨⟨by decide +kernel, by decide +kernel⟩, List.mem_of_getElem? (i := 570) (by decide +kernel), List.mem_of_getElem? (i := 660) (by decide +kernel), List.mem_of_getElem? (i := 661) (by decide +kernel)⟩
theorem lw_p14 : lw_okq (⟨"QuietStairsModel", "joined", "(I)I"⟩, 11) := ⟨⟨by decide +kernel, by decide +kernel⟩, List.mem_of_getElem? (i := 570) (by decide +kernel), List.mem_of_getElem? (i := 664) (by decide +kernel), List.mem_of_getElem? (i := 665) (by decide +kernel)⟩
theorem lw_p15 : lw_okq (⟨"QuietStairsModel", "isPair", "(I)Z"⟩, 11) := ⟨⟨by decide +kernel, by decide +kernel⟩, List.mem_of_getElem? (i := 570) (by decide +kernel), List.mem_of_getElem? (i := 687) (by decide +kernel), List.mem_of_getElem? (i := 688) (by decide +kernel)⟩
def lw_privs_1 : List (MethodName × Nat) := [(⟨"QuietStairs", "isMediator", "(I)Z"⟩, 5), (⟨"QuietStairs", "isParty", "(I)Z"⟩, 5), (⟨"QuietStairs", "isCase", "(I)Z"⟩, 5), (⟨"QuietStairs$Planner", "gather", "(LQuietStairs$House;)V"⟩, 11), (⟨"QuietStairs$Planner", "sortByWeight", "()V"⟩, 11), (⟨"QuietStairs$Planner", "search", "(II)V"⟩, 11), (⟨"QuietStairs$Planner", "leastBehind", "(I)I"⟩, 11), (⟨"QuietStairs$Planner", "searchDay", "(III)V"⟩, 11), (⟨"QuietStairs", "isTerm", "(II)Z"⟩, 5), (⟨"QuietStairs$Table", "pinLeastHour", "(I)I"⟩, 3), (⟨"QuietStairsModel", "isMediator", "(I)Z"⟩, 11), (⟨"QuietStairsModel", "isParty", "(I)Z"⟩, 11), (⟨"QuietStairsModel", "isCase", "(I)Z"⟩, 11), (⟨"QuietStairsModel", "findHeads", "()V"⟩, 11), (⟨"QuietStairsModel", "joined", "(I)I"⟩, 11), (⟨"QuietStairsModel", "isPair", "(I)Z"⟩, 11)]
theorem lw_r1 : ∀ q ∈ lw_privs_1, lw_okq q := List.forall_mem_cons.mpr ⟨lw_p0, List.forall_mem_cons.mpr ⟨lw_p1, List.forall_mem_cons.mpr ⟨lw_p2, List.forall_mem_cons.mpr ⟨lw_p3, List.forall_mem_cons.mpr ⟨lw_p4, List.forall_mem_cons.mpr ⟨lw_p5, List.forall_mem_cons.mpr ⟨lw_p6, List.forall_mem_cons.mpr ⟨lw_p7, List.forall_mem_cons.mpr ⟨lw_p8, List.forall_mem_cons.mpr ⟨lw_p9, List.forall_mem_cons.mpr ⟨lw_p10, List.forall_mem_cons.mpr ⟨lw_p11, List.forall_mem_cons.mpr ⟨lw_p12, List.forall_mem_cons.mpr ⟨lw_p13, List.forall_mem_cons.mpr ⟨lw_p14, List.forall_mem_cons.mpr ⟨lw_p15, fun _ h => absurd h List.not_mem_nil⟩⟩⟩⟩⟩⟩⟩⟩⟩⟩⟩⟩⟩⟩⟩⟩
theorem lw_p16 : lw_okq (⟨"QuietStairsModel", "may", "(II)Z"⟩, 11) := ⟨⟨by decide +kernel, by decide +kernel⟩, List.mem_of_getElem? (i := 570) (by decide +kernel), List.mem_of_getElem? (i := 694) (by decide +kernel), List.mem_of_getElem? (i := 695) (by decide +kernel)⟩
theorem lw_p17 : lw_okq (⟨"QuietStairsModel", "mayMeet", "(II)Z"⟩, 11) := ⟨⟨by decide +kernel, by decide +kernel⟩, List.mem_of_getElem? (i := 570) (by decide +kernel), List.mem_of_getElem? (i := 701) (by decide +kernel), List.mem_of_getElem? (i := 702) (by decide +kernel)⟩
theorem lw_p18 : lw_okq (⟨"QuietStairsModel", "makePlan", "()V"⟩, 11) := ⟨⟨by decide +kernel, by decide +kernel⟩, List.mem_of_getElem? (i := 570) (by decide +kernel), List.mem_of_getElem? (i := 713) (by decide +kernel), List.mem_of_getElem? (i := 714) (by decide +kernel)⟩
theorem lw_p19 : lw_okq (⟨"QuietStairsModel", "note", "()V"⟩, 11) := ⟨⟨by decide +kernel, by decide +kernel⟩, List.mem_of_getElem? (i := 570) (by decide +kernel), List.mem_of_getElem? (i := 718) (by decide +kernel), List.mem_of_getElem? (i := 719) (by decide +kernel)⟩
theorem lw_p20 : lw_okq (⟨"QuietStairsModel", "waitsOf", "(I)I"⟩, 11) := ⟨⟨by decide +kernel, by decide +kernel⟩, List.mem_of_getElem? (i := 570) (by decide +kernel), List.mem_of_getElem? (i := 722) (by decide +kernel), List.mem_of_getElem? (i := 723) (by decide +kernel)⟩
theorem lw_p21 : lw_okq (⟨"QuietStairsModel", "fits", "(I)Z"⟩, 11) := ⟨⟨by decide +kernel, by decide +kernel⟩, List.mem_of_getElem? (i := 570) (by decide +kernel), List.mem_of_getElem? (i := 726) (by decide +kernel), List.mem_of_getElem? (i := 727) (by decide +kernel)⟩
theorem lw_p22 : lw_okq (⟨"QuietStairsModel", "isTerm", "(II)Z"⟩, 11) := ⟨⟨by decide +kernel, by decide +kernel⟩, List.mem_of_getElem? (i := 570) (by decide +kernel), List.mem_of_getElem? (i := 749) (by decide +kernel), List.mem_of_getElem? (i := 750) (by decide +kernel)⟩
theorem lw_p23 : lw_okq (⟨"QuietStairsModel", "makeTable", "(III)Z"⟩, 11) := ⟨⟨by decide +kernel, by decide +kernel⟩, List.mem_of_getElem? (i := 570) (by decide +kernel), List.mem_of_getElem? (i := 757) (by decide +kernel), List.mem_of_getElem? (i := 758) (by decide +kernel)⟩
theorem lw_p24 : lw_okq (⟨"QuietStairsModel", "next", "(IIIII)I"⟩, 11) := ⟨⟨by decide +kernel, by decide +kernel⟩, List.mem_of_getElem? (i := 570) (by decide +kernel), List.mem_of_getElem? (i := 761) (by decide +kernel), List.mem_of_getElem? (i := 762) (by decide +kernel)⟩
theorem lw_p25 : lw_okq (⟨"QuietStairsModel", "isOwn", "(III)Z"⟩, 11) := ⟨⟨by decide +kernel, by decide +kernel⟩, List.mem_of_getElem? (i := 570) (by decide +kernel), List.mem_of_getElem? (i := 765) (by decide +kernel), List.mem_of_getElem? (i := 766) (by decide +kernel)⟩
theorem lw_p26 : lw_okq (⟨"QuietStairsModel", "hourFrom", "(IIIII)I"⟩, 11) := ⟨⟨by decide +kernel, by decide +kernel⟩, List.mem_of_getElem? (i := 570) (by decide +kernel), List.mem_of_getElem? (i := 769) (by decide +kernel), List.mem_of_getElem? (i := 770) (by decide +kernel)⟩
theorem lw_p27 : lw_okq (⟨"QuietStairsModel", "mayBe", "(IIII)Z"⟩, 11) := ⟨⟨by decide +kernel, by decide +kernel⟩, List.mem_of_getElem? (i := 570) (by decide +kernel), List.mem_of_getElem? (i := 773) (by decide +kernel), List.mem_of_getElem? (i := 774) (by decide +kernel)⟩
theorem lw_p28 : lw_okq (⟨"QuietStairsModel", "judge", "(II)I"⟩, 11) := ⟨⟨by decide +kernel, by decide +kernel⟩, List.mem_of_getElem? (i := 570) (by decide +kernel), List.mem_of_getElem? (i := 793) (by decide +kernel), List.mem_of_getElem? (i := 794) (by decide +kernel)⟩
theorem lw_p29 : lw_okq (⟨"QuietStairsModel", "casesThat", "(I)I"⟩, 11) := ⟨⟨by decide +kernel, by decide +kernel⟩, List.mem_of_getElem? (i := 570) (by decide +kernel), List.mem_of_getElem? (i := 801) (by decide +kernel), List.mem_of_getElem? (i := 802) (by decide +kernel)⟩
theorem lw_p30 : lw_okq (⟨"QuietStairsModel", "quarrels", "()I"⟩, 11) := ⟨⟨by decide +kernel, by decide +kernel⟩, List.mem_of_getElem? (i := 570) (by decide +kernel), List.mem_of_getElem? (i := 805) (by decide +kernel), List.mem_of_getElem? (i := 806) (by decide +kernel)⟩
theorem lw_p31 : lw_okq (⟨"QuietStairsModel", "termsThat", "(I)I"⟩, 11) := ⟨⟨by decide +kernel, by decide +kernel⟩, List.mem_of_getElem? (i := 570) (by decide +kernel), List.mem_of_getElem? (i := 809) (by decide +kernel), List.mem_of_getElem? (i := 810) (by decide +kernel)⟩
def lw_privs_2 : List (MethodName × Nat) := [(⟨"QuietStairsModel", "may", "(II)Z"⟩, 11), (⟨"QuietStairsModel", "mayMeet", "(II)Z"⟩, 11), (⟨"QuietStairsModel", "makePlan", "()V"⟩, 11), (⟨"QuietStairsModel", "note", "()V"⟩, 11), (⟨"QuietStairsModel", "waitsOf", "(I)I"⟩, 11), (⟨"QuietStairsModel", "fits", "(I)Z"⟩, 11), (⟨"QuietStairsModel", "isTerm", "(II)Z"⟩, 11), (⟨"QuietStairsModel", "makeTable", "(III)Z"⟩, 11), (⟨"QuietStairsModel", "next", "(IIIII)I"⟩, 11), (⟨"QuietStairsModel", "isOwn", "(III)Z"⟩, 11), (⟨"QuietStairsModel", "hourFrom", "(IIIII)I"⟩, 11), (⟨"QuietStairsModel", "mayBe", "(IIII)Z"⟩, 11), (⟨"QuietStairsModel", "judge", "(II)I"⟩, 11), (⟨"QuietStairsModel", "casesThat", "(I)I"⟩, 11), (⟨"QuietStairsModel", "quarrels", "()I"⟩, 11), (⟨"QuietStairsModel", "termsThat", "(I)I"⟩, 11)]
theorem lw_r2 : ∀ q ∈ lw_privs_2, lw_okq q := List.forall_mem_cons.mpr ⟨lw_p16, List.forall_mem_cons.mpr ⟨lw_p17, List.forall_mem_cons.mpr ⟨lw_p18, List.forall_mem_cons.mpr ⟨lw_p19, List.forall_mem_cons.mpr ⟨lw_p20, List.forall_mem_cons.mpr ⟨lw_p21, List.forall_mem_cons.mpr ⟨lw_p22, List.forall_mem_cons.mpr ⟨lw_p23, List.forall_mem_cons.mpr ⟨lw_p24, List.forall_mem_cons.mpr ⟨lw_p25, List.forall_mem_cons.mpr ⟨lw_p26, List.forall_mem_cons.mpr ⟨lw_p27, List.forall_mem_cons.mpr ⟨lw_p28, List.forall_mem_cons.mpr ⟨lw_p29, List.forall_mem_cons.mpr ⟨lw_p30, List.forall_mem_cons.mpr ⟨lw_p31, fun _ h => absurd h List.not_mem_nil⟩⟩⟩⟩⟩⟩⟩⟩⟩⟩⟩⟩⟩⟩⟩⟩
def lw_privs : List (MethodName × Nat) := lw_privs_1 ++ (lw_privs_2)
def lw_tbl : List Cond := k2_sels lw_privs ++ tables_1
theorem lw_privs_ok : ∀ q ∈ lw_privs, lw_okq q := by
  show ∀ q ∈ lw_privs_1 ++ (lw_privs_2), lw_okq q
  exact List.forall_mem_append.mpr ⟨lw_r1, lw_r2⟩
/-! ===== BEGIN words of one list among another's, by their places ===== -/
theorem goodIn_r {big : List Cond} (ws : List Cond) (ps : List Nat) (hp : ws = ps.filterMap (fun i => big[i]?)) (h : ws.all goodWord = true) : GoodIn big ws := by
  intro w hw
  have h1 := List.all_eq_true.mp h w hw
  rw [hp] at hw
  obtain ⟨i, -, hi⟩ := List.mem_filterMap.mp hw
  have hm : w ∈ big := by first | exact List.mem_of_getElem? hi | exact List.getElem?_mem hi
  exact ⟨hm, good_of_word h1⟩
theorem goodIn_app {big a b : List Cond} (ha : GoodIn big a) (hb : GoodIn big b) : GoodIn big (a ++ b) := fun w h => (List.mem_append.mp h).elim (ha w) (hb w)
theorem goodIn_ca {big a b : List Cond} {c : Cond} (ha : GoodIn big (c :: a)) (hb : GoodIn big b) : GoodIn big (c :: (a ++ b)) := fun w h => (List.mem_cons.mp h).elim (fun e => ha w (List.mem_cons.mpr (Or.inl e))) (fun h => (List.mem_append.mp h).elim (fun h => ha w (List.mem_cons.mpr (Or.inr h))) (hb w))
theorem goodIn_sub {big ws : List Cond} (hm : ∀ w ∈ ws, w ∈ big) (h : ws.all goodWord = true) : GoodIn big ws := fun w hw => ⟨hm w hw, good_of_word (List.all_eq_true.mp h w hw)⟩
/-! ===== END ===== -/

/-! ===== BEGIN printed: names, fields, word lists, decode rows ===== -/
theorem pd_0 : parseFieldDescriptor "I" = some (.int) := by decide +kernel
theorem pd_1 : parseFieldDescriptor "[I" = some (.array .int) := by decide +kernel
theorem pd_2 : parseFieldDescriptor "[[I" = some (.array (.array .int)) := by decide +kernel
theorem pd_3 : parseFieldDescriptor "[LQuietStairs$Term;" = some (.array (.object "QuietStairs$Term")) := by decide +kernel
theorem pd_4 : parseFieldDescriptor "[LQuietStairs$Party;" = some (.array (.object "QuietStairs$Party")) := by decide +kernel
theorem pd_5 : parseFieldDescriptor "[LQuietStairs$Mediator;" = some (.array (.object "QuietStairs$Mediator")) := by decide +kernel
theorem pd_6 : parseFieldDescriptor "[LQuietStairs$Case;" = some (.array (.object "QuietStairs$Case")) := by decide +kernel
theorem pd_7 : parseFieldDescriptor "Z" = some (.boolean) := by decide +kernel
theorem pd_8 : parseFieldDescriptor "LQuietStairs$House;" = some (.object "QuietStairs$House") := by decide +kernel
theorem pd_9 : parseFieldDescriptor "LQuietStairs$Planner;" = some (.object "QuietStairs$Planner") := by decide +kernel
theorem pd_10 : parseFieldDescriptor "LQuietStairs$Table;" = some (.object "QuietStairs$Table") := by decide +kernel
def RX0 : String := "QuietStairs$Case"
def TX0 : u_T := fun k => match k with
  | 0 => ("QuietStairs$Case", "state", "I", false)
  | 1 => ("QuietStairs$Case", "sum", "I", false)
  | 2 => ("QuietStairs$Case", "roundsOver", "I", false)
  | 3 => ("QuietStairs$Case", "weight", "I", false)
  | 4 => ("QuietStairs$Case", "markedBits", "I", false)
  | 5 => ("QuietStairs$Case", "termCount", "I", false)
  | 6 => ("QuietStairs$Case", "parties", "[I", true)
  | 7 => ("QuietStairs$Case", "box", "[I", true)
  | 8 => ("QuietStairs$Case", "offers", "[[I", true)
  | 9 => ("QuietStairs$Case", "logs", "[[I", true)
  | _ => ("QuietStairs$Case", "terms", "[LQuietStairs$Term;", true)
def tyX0 : Nat → FieldType := fun k => match k with
  | 0 => .int
  | 1 => .int
  | 2 => .int
  | 3 => .int
  | 4 => .int
  | 5 => .int
  | 6 => .array .int
  | 7 => .array .int
  | 8 => .array (.array .int)
  | 9 => .array (.array .int)
  | _ => .array (.object "QuietStairs$Term")
abbrev wsX00 : List Cond := u_ws RX0 TX0 11
def nlX0 : Nat → List Char := fun k => match k with
  | 0 => ['s', 't', 'a', 't', 'e']
  | 1 => ['s', 'u', 'm']
  | 2 => ['r', 'o', 'u', 'n', 'd', 's', 'O', 'v', 'e', 'r']
  | 3 => ['w', 'e', 'i', 'g', 'h', 't']
  | 4 => ['m', 'a', 'r', 'k', 'e', 'd', 'B', 'i', 't', 's']
  | 5 => ['t', 'e', 'r', 'm', 'C', 'o', 'u', 'n', 't']
  | 6 => ['p', 'a', 'r', 't', 'i', 'e', 's']
  | 7 => ['b', 'o', 'x']
  | 8 => ['o', 'f', 'f', 'e', 'r', 's']
  | 9 => ['l', 'o', 'g', 's']
  | _ => ['t', 'e', 'r', 'm', 's']
theorem nlX0_ok : ∀ k, k < 11 → (TX0 k).2.1 = String.ofList (nlX0 k)
  | 0, _ => rfl
  | 1, _ => rfl
  | 2, _ => rfl
  | 3, _ => rfl
  | 4, _ => rfl
  | 5, _ => rfl
  | 6, _ => rfl
  | 7, _ => rfl
  | 8, _ => rfl
  | 9, _ => rfl
  | 10, _ => rfl
  | k + 11, h => absurd h (by omega)
theorem nlX0_ne : ∀ a, a < 11 → ∀ b, b < 11 → a ≠ b → nlX0 a ≠ nlX0 b := by decide +kernel
theorem nmX0 : ∀ a, a < 11 → ∀ b, b < 11 → a ≠ b → (TX0 a).2.1 ≠ (TX0 b).2.1 := fun a ha b hb hne e => nlX0_ne a ha b hb hne (String.ofList_injective ((nlX0_ok a ha).symm.trans (e.trans (nlX0_ok b hb))))
theorem tyX0_ok : ∀ k, k < 11 → parseFieldDescriptor (TX0 k).2.2.1 = some (tyX0 k)
  | 0, _ => pd_0
  | 1, _ => pd_0
  | 2, _ => pd_0
  | 3, _ => pd_0
  | 4, _ => pd_0
  | 5, _ => pd_0
  | 6, _ => pd_1
  | 7, _ => pd_1
  | 8, _ => pd_2
  | 9, _ => pd_2
  | 10, _ => pd_3
  | k + 11, h => absurd h (by omega)
noncomputable abbrev cX0_init : ByteArray := prog_2_method_1_code
def yX0_init : MethodName := ⟨RX0, "<init>", "()V"⟩
noncomputable abbrev cX0_begin : ByteArray := prog_2_method_2_code
def yX0_begin : MethodName := ⟨RX0, "begin", "(II)V"⟩
noncomputable abbrev cX0_endRound : ByteArray := prog_2_method_3_code
def yX0_endRound : MethodName := ⟨RX0, "endRound", "()Z"⟩
noncomputable abbrev cX0_hasMet : ByteArray := prog_2_method_4_code
def yX0_hasMet : MethodName := ⟨RX0, "hasMet", "(I)Z"⟩
noncomputable abbrev cX0_leastOfOther : ByteArray := prog_2_method_5_code
def yX0_leastOfOther : MethodName := ⟨RX0, "leastOfOther", "(II)I"⟩
noncomputable abbrev cX0_greatestOfOther : ByteArray := prog_2_method_6_code
def yX0_greatestOfOther : MethodName := ⟨RX0, "greatestOfOther", "(II)I"⟩
noncomputable abbrev cX0_judge : ByteArray := prog_2_method_7_code
def yX0_judge : MethodName := ⟨RX0, "judge", "(I)I"⟩
noncomputable abbrev cX0_copyFrom : ByteArray := prog_2_method_8_code
def yX0_copyFrom : MethodName := ⟨RX0, "copyFrom", "(LQuietStairs$Case;)V"⟩
def RX1 : String := "QuietStairs$House"
def TX1 : u_T := fun k => match k with
  | 0 => ("QuietStairs$House", "partyCount", "I", false)
  | 1 => ("QuietStairs$House", "mediatorCount", "I", false)
  | 2 => ("QuietStairs$House", "caseCount", "I", false)
  | 3 => ("QuietStairs$House", "markCount", "I", false)
  | 4 => ("QuietStairs$House", "parties", "[LQuietStairs$Party;", true)
  | 5 => ("QuietStairs$House", "mediators", "[LQuietStairs$Mediator;", true)
  | _ => ("QuietStairs$House", "cases", "[LQuietStairs$Case;", true)
def tyX1 : Nat → FieldType := fun k => match k with
  | 0 => .int
  | 1 => .int
  | 2 => .int
  | 3 => .int
  | 4 => .array (.object "QuietStairs$Party")
  | 5 => .array (.object "QuietStairs$Mediator")
  | _ => .array (.object "QuietStairs$Case")
abbrev wsX10 : List Cond := u_ws RX1 TX1 7
def nlX1 : Nat → List Char := fun k => match k with
  | 0 => ['p', 'a', 'r', 't', 'y', 'C', 'o', 'u', 'n', 't']
  | 1 => ['m', 'e', 'd', 'i', 'a', 't', 'o', 'r', 'C', 'o', 'u', 'n', 't']
  | 2 => ['c', 'a', 's', 'e', 'C', 'o', 'u', 'n', 't']
  | 3 => ['m', 'a', 'r', 'k', 'C', 'o', 'u', 'n', 't']
  | 4 => ['p', 'a', 'r', 't', 'i', 'e', 's']
  | 5 => ['m', 'e', 'd', 'i', 'a', 't', 'o', 'r', 's']
  | _ => ['c', 'a', 's', 'e', 's']
theorem nlX1_ok : ∀ k, k < 7 → (TX1 k).2.1 = String.ofList (nlX1 k)
  | 0, _ => rfl
  | 1, _ => rfl
  | 2, _ => rfl
  | 3, _ => rfl
  | 4, _ => rfl
  | 5, _ => rfl
  | 6, _ => rfl
  | k + 7, h => absurd h (by omega)
theorem nlX1_ne : ∀ a, a < 7 → ∀ b, b < 7 → a ≠ b → nlX1 a ≠ nlX1 b := by decide +kernel
theorem nmX1 : ∀ a, a < 7 → ∀ b, b < 7 → a ≠ b → (TX1 a).2.1 ≠ (TX1 b).2.1 := fun a ha b hb hne e => nlX1_ne a ha b hb hne (String.ofList_injective ((nlX1_ok a ha).symm.trans (e.trans (nlX1_ok b hb))))
theorem tyX1_ok : ∀ k, k < 7 → parseFieldDescriptor (TX1 k).2.2.1 = some (tyX1 k)
  | 0, _ => pd_0
  | 1, _ => pd_0
  | 2, _ => pd_0
  | 3, _ => pd_0
  | 4, _ => pd_4
  | 5, _ => pd_5
  | 6, _ => pd_6
  | k + 7, h => absurd h (by omega)
noncomputable abbrev cX1_init : ByteArray := prog_3_method_1_code
def yX1_init : MethodName := ⟨RX1, "<init>", "()V"⟩
noncomputable abbrev cX1_hasPair : ByteArray := prog_3_method_2_code
def yX1_hasPair : MethodName := ⟨RX1, "hasPair", "(I)Z"⟩
noncomputable abbrev cX1_pairFits : ByteArray := prog_3_method_3_code
def yX1_pairFits : MethodName := ⟨RX1, "pairFits", "(ILQuietStairs$Case;)Z"⟩
noncomputable abbrev cX1_isNear : ByteArray := prog_3_method_4_code
def yX1_isNear : MethodName := ⟨RX1, "isNear", "(LQuietStairs$Mediator;I)Z"⟩
noncomputable abbrev cX1_quarrelBits : ByteArray := prog_3_method_5_code
def yX1_quarrelBits : MethodName := ⟨RX1, "quarrelBits", "(I)I"⟩
noncomputable abbrev cX1_headOfQuarrel : ByteArray := prog_3_method_6_code
def yX1_headOfQuarrel : MethodName := ⟨RX1, "headOfQuarrel", "(I)I"⟩
noncomputable abbrev cX1_countQuarrels : ByteArray := prog_3_method_7_code
def yX1_countQuarrels : MethodName := ⟨RX1, "countQuarrels", "()I"⟩
noncomputable abbrev cX1_countState : ByteArray := prog_3_method_8_code
def yX1_countState : MethodName := ⟨RX1, "countState", "(I)I"⟩
noncomputable abbrev cX1_countTerms : ByteArray := prog_3_method_9_code
def yX1_countTerms : MethodName := ⟨RX1, "countTerms", "()I"⟩
noncomputable abbrev cX1_countJudged : ByteArray := prog_3_method_10_code
def yX1_countJudged : MethodName := ⟨RX1, "countJudged", "(I)I"⟩
noncomputable abbrev cX1_copyFrom : ByteArray := prog_3_method_11_code
def yX1_copyFrom : MethodName := ⟨RX1, "copyFrom", "(LQuietStairs$House;)V"⟩
def RX2 : String := "QuietStairs$Mediator"
def TX2 : u_T := fun k => match k with
  | 0 => ("QuietStairs$Mediator", "floor", "I", false)
  | 1 => ("QuietStairs$Mediator", "tongues", "I", false)
  | _ => ("QuietStairs$Mediator", "kinBits", "I", false)
def tyX2 : Nat → FieldType := fun k => match k with
  | 0 => .int
  | 1 => .int
  | _ => .int
abbrev wsX20 : List Cond := u_ws RX2 TX2 3
def nlX2 : Nat → List Char := fun k => match k with
  | 0 => ['f', 'l', 'o', 'o', 'r']
  | 1 => ['t', 'o', 'n', 'g', 'u', 'e', 's']
  | _ => ['k', 'i', 'n', 'B', 'i', 't', 's']
theorem nlX2_ok : ∀ k, k < 3 → (TX2 k).2.1 = String.ofList (nlX2 k)
  | 0, _ => rfl
  | 1, _ => rfl
  | 2, _ => rfl
  | k + 3, h => absurd h (by omega)
theorem nlX2_ne : ∀ a, a < 3 → ∀ b, b < 3 → a ≠ b → nlX2 a ≠ nlX2 b := by decide +kernel
theorem nmX2 : ∀ a, a < 3 → ∀ b, b < 3 → a ≠ b → (TX2 a).2.1 ≠ (TX2 b).2.1 := fun a ha b hb hne e => nlX2_ne a ha b hb hne (String.ofList_injective ((nlX2_ok a ha).symm.trans (e.trans (nlX2_ok b hb))))
theorem tyX2_ok : ∀ k, k < 3 → parseFieldDescriptor (TX2 k).2.2.1 = some (tyX2 k)
  | 0, _ => pd_0
  | 1, _ => pd_0
  | 2, _ => pd_0
  | k + 3, h => absurd h (by omega)
noncomputable abbrev cX2_init : ByteArray := prog_4_method_1_code
def yX2_init : MethodName := ⟨RX2, "<init>", "()V"⟩
noncomputable abbrev cX2_copyFrom : ByteArray := prog_4_method_2_code
def yX2_copyFrom : MethodName := ⟨RX2, "copyFrom", "(LQuietStairs$Mediator;)V"⟩
def RX3 : String := "QuietStairs$Party"
def TX3 : u_T := fun k => match k with
  | 0 => ("QuietStairs$Party", "floor", "I", false)
  | _ => ("QuietStairs$Party", "tongue", "I", false)
def tyX3 : Nat → FieldType := fun k => match k with
  | 0 => .int
  | _ => .int
abbrev wsX30 : List Cond := u_ws RX3 TX3 2
theorem nmX3 : ∀ a, a < 2 → ∀ b, b < 2 → a ≠ b → (TX3 a).2.1 ≠ (TX3 b).2.1 := by decide +kernel
theorem tyX3_ok : ∀ k, k < 2 → parseFieldDescriptor (TX3 k).2.2.1 = some (tyX3 k)
  | 0, _ => pd_0
  | 1, _ => pd_0
  | k + 2, h => absurd h (by omega)
noncomputable abbrev cX3_init : ByteArray := prog_5_method_1_code
def yX3_init : MethodName := ⟨RX3, "<init>", "()V"⟩
noncomputable abbrev cX3_copyFrom : ByteArray := prog_5_method_2_code
def yX3_copyFrom : MethodName := ⟨RX3, "copyFrom", "(LQuietStairs$Party;)V"⟩
def RX4 : String := "QuietStairs$Planner"
def TX4 : u_T := fun k => match k with
  | 0 => ("QuietStairs$Planner", "leastWait", "I", false)
  | 1 => ("QuietStairs$Planner", "count", "I", false)
  | 2 => ("QuietStairs$Planner", "seatsADay", "I", false)
  | 3 => ("QuietStairs$Planner", "numbers", "[I", true)
  | 4 => ("QuietStairs$Planner", "weights", "[I", true)
  | 5 => ("QuietStairs$Planner", "pairBits", "[I", true)
  | 6 => ("QuietStairs$Planner", "heaviestFirst", "[I", true)
  | 7 => ("QuietStairs$Planner", "seats", "[I", true)
  | 8 => ("QuietStairs$Planner", "bestSeats", "[I", true)
  | 9 => ("QuietStairs$Planner", "busyBits", "[I", true)
  | _ => ("QuietStairs$Planner", "sittings", "[I", true)
def tyX4 : Nat → FieldType := fun k => match k with
  | 0 => .int
  | 1 => .int
  | 2 => .int
  | 3 => .array .int
  | 4 => .array .int
  | 5 => .array .int
  | 6 => .array .int
  | 7 => .array .int
  | 8 => .array .int
  | 9 => .array .int
  | _ => .array .int
abbrev wsX40 : List Cond := u_ws RX4 TX4 11
def nlX4 : Nat → List Char := fun k => match k with
  | 0 => ['l', 'e', 'a', 's', 't', 'W', 'a', 'i', 't']
  | 1 => ['c', 'o', 'u', 'n', 't']
  | 2 => ['s', 'e', 'a', 't', 's', 'A', 'D', 'a', 'y']
  | 3 => ['n', 'u', 'm', 'b', 'e', 'r', 's']
  | 4 => ['w', 'e', 'i', 'g', 'h', 't', 's']
  | 5 => ['p', 'a', 'i', 'r', 'B', 'i', 't', 's']
  | 6 => ['h', 'e', 'a', 'v', 'i', 'e', 's', 't', 'F', 'i', 'r', 's', 't']
  | 7 => ['s', 'e', 'a', 't', 's']
  | 8 => ['b', 'e', 's', 't', 'S', 'e', 'a', 't', 's']
  | 9 => ['b', 'u', 's', 'y', 'B', 'i', 't', 's']
  | _ => ['s', 'i', 't', 't', 'i', 'n', 'g', 's']
theorem nlX4_ok : ∀ k, k < 11 → (TX4 k).2.1 = String.ofList (nlX4 k)
  | 0, _ => rfl
  | 1, _ => rfl
  | 2, _ => rfl
  | 3, _ => rfl
  | 4, _ => rfl
  | 5, _ => rfl
  | 6, _ => rfl
  | 7, _ => rfl
  | 8, _ => rfl
  | 9, _ => rfl
  | 10, _ => rfl
  | k + 11, h => absurd h (by omega)
theorem nlX4_ne : ∀ a, a < 11 → ∀ b, b < 11 → a ≠ b → nlX4 a ≠ nlX4 b := by decide +kernel
theorem nmX4 : ∀ a, a < 11 → ∀ b, b < 11 → a ≠ b → (TX4 a).2.1 ≠ (TX4 b).2.1 := fun a ha b hb hne e => nlX4_ne a ha b hb hne (String.ofList_injective ((nlX4_ok a ha).symm.trans (e.trans (nlX4_ok b hb))))
theorem tyX4_ok : ∀ k, k < 11 → parseFieldDescriptor (TX4 k).2.2.1 = some (tyX4 k)
  | 0, _ => pd_0
  | 1, _ => pd_0
  | 2, _ => pd_0
  | 3, _ => pd_1
  | 4, _ => pd_1
  | 5, _ => pd_1
  | 6, _ => pd_1
  | 7, _ => pd_1
  | 8, _ => pd_1
  | 9, _ => pd_1
  | 10, _ => pd_1
  | k + 11, h => absurd h (by omega)
noncomputable abbrev cX4_init : ByteArray := prog_6_method_1_code
def yX4_init : MethodName := ⟨RX4, "<init>", "()V"⟩
noncomputable abbrev cX4_findPlan : ByteArray := prog_6_method_2_code
def yX4_findPlan : MethodName := ⟨RX4, "findPlan", "(LQuietStairs$House;I)V"⟩
noncomputable abbrev cX4_seatOf : ByteArray := prog_6_method_3_code
def yX4_seatOf : MethodName := ⟨RX4, "seatOf", "(I)I"⟩
noncomputable abbrev cX4_gather : ByteArray := prog_6_method_4_code
def yX4_gather : MethodName := ⟨RX4, "gather", "(LQuietStairs$House;)V"⟩
noncomputable abbrev cX4_fittingPairs : ByteArray := prog_6_method_5_code
def yX4_fittingPairs : MethodName := ⟨RX4, "fittingPairs", "(LQuietStairs$House;LQuietStairs$Case;)I"⟩
noncomputable abbrev cX4_sortByWeight : ByteArray := prog_6_method_6_code
def yX4_sortByWeight : MethodName := ⟨RX4, "sortByWeight", "()V"⟩
noncomputable abbrev cX4_search : ByteArray := prog_6_method_7_code
def yX4_search : MethodName := ⟨RX4, "search", "(II)V"⟩
noncomputable abbrev cX4_searchDay : ByteArray := prog_6_method_8_code
def yX4_searchDay : MethodName := ⟨RX4, "searchDay", "(III)V"⟩
noncomputable abbrev cX4_leastBehind : ByteArray := prog_6_method_9_code
def yX4_leastBehind : MethodName := ⟨RX4, "leastBehind", "(I)I"⟩
def RX5 : String := "QuietStairs$Table"
def TX5 : u_T := fun k => match k with
  | 0 => ("QuietStairs$Table", "count", "I", false)
  | 1 => ("QuietStairs$Table", "musts", "[I", true)
  | _ => ("QuietStairs$Table", "hourBits", "[I", true)
def tyX5 : Nat → FieldType := fun k => match k with
  | 0 => .int
  | 1 => .array .int
  | _ => .array .int
abbrev wsX50 : List Cond := u_ws RX5 TX5 3
def nlX5 : Nat → List Char := fun k => match k with
  | 0 => ['c', 'o', 'u', 'n', 't']
  | 1 => ['m', 'u', 's', 't', 's']
  | _ => ['h', 'o', 'u', 'r', 'B', 'i', 't', 's']
theorem nlX5_ok : ∀ k, k < 3 → (TX5 k).2.1 = String.ofList (nlX5 k)
  | 0, _ => rfl
  | 1, _ => rfl
  | 2, _ => rfl
  | k + 3, h => absurd h (by omega)
theorem nlX5_ne : ∀ a, a < 3 → ∀ b, b < 3 → a ≠ b → nlX5 a ≠ nlX5 b := by decide +kernel
theorem nmX5 : ∀ a, a < 3 → ∀ b, b < 3 → a ≠ b → (TX5 a).2.1 ≠ (TX5 b).2.1 := fun a ha b hb hne e => nlX5_ne a ha b hb hne (String.ofList_injective ((nlX5_ok a ha).symm.trans (e.trans (nlX5_ok b hb))))
theorem tyX5_ok : ∀ k, k < 3 → parseFieldDescriptor (TX5 k).2.2.1 = some (tyX5 k)
  | 0, _ => pd_0
  | 1, _ => pd_1
  | 2, _ => pd_1
  | k + 3, h => absurd h (by omega)
noncomputable abbrev cX5_init : ByteArray := prog_7_method_1_code
def yX5_init : MethodName := ⟨RX5, "<init>", "()V"⟩
noncomputable abbrev cX5_read : ByteArray := prog_7_method_2_code
def yX5_read : MethodName := ⟨RX5, "read", "(LQuietStairs$Case;II)V"⟩
noncomputable abbrev cX5_allowedHours : ByteArray := prog_7_method_3_code
def yX5_allowedHours : MethodName := ⟨RX5, "allowedHours", "(LQuietStairs$Case;LQuietStairs$Term;I)I"⟩
noncomputable abbrev cX5_stands : ByteArray := prog_7_method_4_code
def yX5_stands : MethodName := ⟨RX5, "stands", "()Z"⟩
noncomputable abbrev cX5_hourOf : ByteArray := prog_7_method_5_code
def yX5_hourOf : MethodName := ⟨RX5, "hourOf", "(I)I"⟩
noncomputable abbrev cX5_pinLeastHour : ByteArray := prog_7_method_6_code
def yX5_pinLeastHour : MethodName := ⟨RX5, "pinLeastHour", "(I)I"⟩
def RX6 : String := "QuietStairs$Term"
def TX6 : u_T := fun k => match k with
  | 0 => ("QuietStairs$Term", "side", "I", false)
  | 1 => ("QuietStairs$Term", "must", "Z", false)
  | 2 => ("QuietStairs$Term", "act", "I", false)
  | 3 => ("QuietStairs$Term", "first", "I", false)
  | _ => ("QuietStairs$Term", "last", "I", false)
def tyX6 : Nat → FieldType := fun k => match k with
  | 0 => .int
  | 1 => .boolean
  | 2 => .int
  | 3 => .int
  | _ => .int
abbrev wsX60 : List Cond := u_ws RX6 TX6 5
def nlX6 : Nat → List Char := fun k => match k with
  | 0 => ['s', 'i', 'd', 'e']
  | 1 => ['m', 'u', 's', 't']
  | 2 => ['a', 'c', 't']
  | 3 => ['f', 'i', 'r', 's', 't']
  | _ => ['l', 'a', 's', 't']
theorem nlX6_ok : ∀ k, k < 5 → (TX6 k).2.1 = String.ofList (nlX6 k)
  | 0, _ => rfl
  | 1, _ => rfl
  | 2, _ => rfl
  | 3, _ => rfl
  | 4, _ => rfl
  | k + 5, h => absurd h (by omega)
theorem nlX6_ne : ∀ a, a < 5 → ∀ b, b < 5 → a ≠ b → nlX6 a ≠ nlX6 b := by decide +kernel
theorem nmX6 : ∀ a, a < 5 → ∀ b, b < 5 → a ≠ b → (TX6 a).2.1 ≠ (TX6 b).2.1 := fun a ha b hb hne e => nlX6_ne a ha b hb hne (String.ofList_injective ((nlX6_ok a ha).symm.trans (e.trans (nlX6_ok b hb))))
theorem tyX6_ok : ∀ k, k < 5 → parseFieldDescriptor (TX6 k).2.2.1 = some (tyX6 k)
  | 0, _ => pd_0
  | 1, _ => pd_7
  | 2, _ => pd_0
  | 3, _ => pd_0
  | 4, _ => pd_0
  | k + 5, h => absurd h (by omega)
noncomputable abbrev cX6_init : ByteArray := prog_8_method_1_code
def yX6_init : MethodName := ⟨RX6, "<init>", "()V"⟩
noncomputable abbrev cX6_hourBits : ByteArray := prog_8_method_2_code
def yX6_hourBits : MethodName := ⟨RX6, "hourBits", "()I"⟩
noncomputable abbrev cX6_copyFrom : ByteArray := prog_8_method_3_code
def yX6_copyFrom : MethodName := ⟨RX6, "copyFrom", "(LQuietStairs$Term;)V"⟩
def RX7 : String := "QuietStairs"
def TX7 : u_T := fun k => match k with
  | 0 => ("QuietStairs", "now", "LQuietStairs$House;", true)
  | 1 => ("QuietStairs", "planner", "LQuietStairs$Planner;", true)
  | 2 => ("QuietStairs", "table", "LQuietStairs$Table;", true)
  | 3 => ("QuietStairs", "kept", "LQuietStairs$House;", false)
  | _ => ("QuietStairs", "roomCount", "I", false)
def tyX7 : Nat → FieldType := fun k => match k with
  | 0 => .object "QuietStairs$House"
  | 1 => .object "QuietStairs$Planner"
  | 2 => .object "QuietStairs$Table"
  | 3 => .object "QuietStairs$House"
  | _ => .int
abbrev wsX70 : List Cond := u_ws RX7 TX7 5
def nlX7 : Nat → List Char := fun k => match k with
  | 0 => ['n', 'o', 'w']
  | 1 => ['p', 'l', 'a', 'n', 'n', 'e', 'r']
  | 2 => ['t', 'a', 'b', 'l', 'e']
  | 3 => ['k', 'e', 'p', 't']
  | _ => ['r', 'o', 'o', 'm', 'C', 'o', 'u', 'n', 't']
theorem nlX7_ok : ∀ k, k < 5 → (TX7 k).2.1 = String.ofList (nlX7 k)
  | 0, _ => rfl
  | 1, _ => rfl
  | 2, _ => rfl
  | 3, _ => rfl
  | 4, _ => rfl
  | k + 5, h => absurd h (by omega)
theorem nlX7_ne : ∀ a, a < 5 → ∀ b, b < 5 → a ≠ b → nlX7 a ≠ nlX7 b := by decide +kernel
theorem nmX7 : ∀ a, a < 5 → ∀ b, b < 5 → a ≠ b → (TX7 a).2.1 ≠ (TX7 b).2.1 := fun a ha b hb hne e => nlX7_ne a ha b hb hne (String.ofList_injective ((nlX7_ok a ha).symm.trans (e.trans (nlX7_ok b hb))))
theorem tyX7_ok : ∀ k, k < 5 → parseFieldDescriptor (TX7 k).2.2.1 = some (tyX7 k)
  | 0, _ => pd_8
  | 1, _ => pd_9
  | 2, _ => pd_10
  | 3, _ => pd_8
  | 4, _ => pd_0
  | k + 5, h => absurd h (by omega)
noncomputable abbrev cX7_init : ByteArray := prog_1_method_1_code
def yX7_init : MethodName := ⟨RX7, "<init>", "()V"⟩
noncomputable abbrev cX7_party : ByteArray := prog_1_method_2_code
def yX7_party : MethodName := ⟨RX7, "party", "(II)I"⟩
noncomputable abbrev cX7_mediator : ByteArray := prog_1_method_3_code
def yX7_mediator : MethodName := ⟨RX7, "mediator", "(II)I"⟩
noncomputable abbrev cX7_kin : ByteArray := prog_1_method_4_code
def yX7_kin : MethodName := ⟨RX7, "kin", "(IIZ)I"⟩
noncomputable abbrev cX7_open : ByteArray := prog_1_method_5_code
def yX7_open : MethodName := ⟨RX7, "open", "(II)I"⟩
noncomputable abbrev cX7_close : ByteArray := prog_1_method_6_code
def yX7_close : MethodName := ⟨RX7, "close", "(I)I"⟩
noncomputable abbrev cX7_weight : ByteArray := prog_1_method_7_code
def yX7_weight : MethodName := ⟨RX7, "weight", "(II)I"⟩
noncomputable abbrev cX7_mark : ByteArray := prog_1_method_8_code
def yX7_mark : MethodName := ⟨RX7, "mark", "(II)I"⟩
noncomputable abbrev cX7_of : ByteArray := prog_1_method_9_code
def yX7_of : MethodName := ⟨RX7, "of", "(II)I"⟩
noncomputable abbrev cX7_offer : ByteArray := prog_1_method_10_code
def yX7_offer : MethodName := ⟨RX7, "offer", "(III)I"⟩
noncomputable abbrev cX7_put : ByteArray := prog_1_method_11_code
def yX7_put : MethodName := ⟨RX7, "put", "(II)I"⟩
noncomputable abbrev cX7_learns : ByteArray := prog_1_method_12_code
def yX7_learns : MethodName := ⟨RX7, "learns", "(IIIZ)I"⟩
noncomputable abbrev cX7_maySit : ByteArray := prog_1_method_13_code
def yX7_maySit : MethodName := ⟨RX7, "maySit", "(II)I"⟩
noncomputable abbrev cX7_rooms : ByteArray := prog_1_method_14_code
def yX7_rooms : MethodName := ⟨RX7, "rooms", "(I)I"⟩
noncomputable abbrev cX7_plan : ByteArray := prog_1_method_15_code
def yX7_plan : MethodName := ⟨RX7, "plan", "(I)I"⟩
noncomputable abbrev cX7_waits : ByteArray := prog_1_method_16_code
def yX7_waits : MethodName := ⟨RX7, "waits", "()I"⟩
noncomputable abbrev cX7_term : ByteArray := prog_1_method_17_code
def yX7_term : MethodName := ⟨RX7, "term", "(IIZIII)I"⟩
noncomputable abbrev cX7_strike : ByteArray := prog_1_method_18_code
def yX7_strike : MethodName := ⟨RX7, "strike", "(I)I"⟩
noncomputable abbrev cX7_termOf : ByteArray := prog_1_method_19_code
def yX7_termOf : MethodName := ⟨RX7, "termOf", "(III)I"⟩
noncomputable abbrev cX7_hour : ByteArray := prog_1_method_20_code
def yX7_hour : MethodName := ⟨RX7, "hour", "(II)I"⟩
noncomputable abbrev cX7_canHold : ByteArray := prog_1_method_21_code
def yX7_canHold : MethodName := ⟨RX7, "canHold", "(II)I"⟩
noncomputable abbrev cX7_breaks : ByteArray := prog_1_method_22_code
def yX7_breaks : MethodName := ⟨RX7, "breaks", "(II)I"⟩
noncomputable abbrev cX7_log : ByteArray := prog_1_method_23_code
def yX7_log : MethodName := ⟨RX7, "log", "(IIII)I"⟩
noncomputable abbrev cX7_judged : ByteArray := prog_1_method_24_code
def yX7_judged : MethodName := ⟨RX7, "judged", "(II)I"⟩
noncomputable abbrev cX7_many : ByteArray := prog_1_method_25_code
def yX7_many : MethodName := ⟨RX7, "many", "(I)I"⟩
noncomputable abbrev cX7_keep : ByteArray := prog_1_method_26_code
def yX7_keep : MethodName := ⟨RX7, "keep", "()I"⟩
noncomputable abbrev cX7_back : ByteArray := prog_1_method_27_code
def yX7_back : MethodName := ⟨RX7, "back", "()I"⟩
noncomputable abbrev cX7_isParty : ByteArray := prog_1_method_28_code
def yX7_isParty : MethodName := ⟨RX7, "isParty", "(I)Z"⟩
noncomputable abbrev cX7_isMediator : ByteArray := prog_1_method_29_code
def yX7_isMediator : MethodName := ⟨RX7, "isMediator", "(I)Z"⟩
noncomputable abbrev cX7_isCase : ByteArray := prog_1_method_30_code
def yX7_isCase : MethodName := ⟨RX7, "isCase", "(I)Z"⟩
noncomputable abbrev cX7_isTerm : ByteArray := prog_1_method_31_code
def yX7_isTerm : MethodName := ⟨RX7, "isTerm", "(II)Z"⟩
noncomputable abbrev cX7_isSide : ByteArray := prog_1_method_32_code
def yX7_isSide : MethodName := ⟨RX7, "isSide", "(I)Z"⟩
noncomputable abbrev cX7_isHour : ByteArray := prog_1_method_33_code
def yX7_isHour : MethodName := ⟨RX7, "isHour", "(I)Z"⟩
noncomputable abbrev cX7_isWithin : ByteArray := prog_1_method_34_code
def yX7_isWithin : MethodName := ⟨RX7, "isWithin", "(III)Z"⟩
noncomputable abbrev cX7_hasBit : ByteArray := prog_1_method_35_code
def yX7_hasBit : MethodName := ⟨RX7, "hasBit", "(II)Z"⟩
def RX8 : String := "QuietStairsModel"
def TX8 : u_T := fun k => match k with
  | 0 => ("QuietStairsModel", "s", "[I", true)
  | 1 => ("QuietStairsModel", "kept", "[I", true)
  | 2 => ("QuietStairsModel", "isKept", "Z", false)
  | 3 => ("QuietStairsModel", "rooms", "I", false)
  | 4 => ("QuietStairsModel", "headOf", "[I", true)
  | 5 => ("QuietStairsModel", "many", "I", false)
  | 6 => ("QuietStairsModel", "planned", "[I", true)
  | 7 => ("QuietStairsModel", "tried", "[I", true)
  | 8 => ("QuietStairsModel", "best", "[I", true)
  | 9 => ("QuietStairsModel", "least", "I", false)
  | _ => ("QuietStairsModel", "hours", "[I", true)
def tyX8 : Nat → FieldType := fun k => match k with
  | 0 => .array .int
  | 1 => .array .int
  | 2 => .boolean
  | 3 => .int
  | 4 => .array .int
  | 5 => .int
  | 6 => .array .int
  | 7 => .array .int
  | 8 => .array .int
  | 9 => .int
  | _ => .array .int
abbrev wsX80 : List Cond := u_ws RX8 TX8 11
def nlX8 : Nat → List Char := fun k => match k with
  | 0 => ['s']
  | 1 => ['k', 'e', 'p', 't']
  | 2 => ['i', 's', 'K', 'e', 'p', 't']
  | 3 => ['r', 'o', 'o', 'm', 's']
  | 4 => ['h', 'e', 'a', 'd', 'O', 'f']
  | 5 => ['m', 'a', 'n', 'y']
  | 6 => ['p', 'l', 'a', 'n', 'n', 'e', 'd']
  | 7 => ['t', 'r', 'i', 'e', 'd']
  | 8 => ['b', 'e', 's', 't']
  | 9 => ['l', 'e', 'a', 's', 't']
  | _ => ['h', 'o', 'u', 'r', 's']
theorem nlX8_ok : ∀ k, k < 11 → (TX8 k).2.1 = String.ofList (nlX8 k)
  | 0, _ => rfl
  | 1, _ => rfl
  | 2, _ => rfl
  | 3, _ => rfl
  | 4, _ => rfl
  | 5, _ => rfl
  | 6, _ => rfl
  | 7, _ => rfl
  | 8, _ => rfl
  | 9, _ => rfl
  | 10, _ => rfl
  | k + 11, h => absurd h (by omega)
theorem nlX8_ne : ∀ a, a < 11 → ∀ b, b < 11 → a ≠ b → nlX8 a ≠ nlX8 b := by decide +kernel
theorem nmX8 : ∀ a, a < 11 → ∀ b, b < 11 → a ≠ b → (TX8 a).2.1 ≠ (TX8 b).2.1 := fun a ha b hb hne e => nlX8_ne a ha b hb hne (String.ofList_injective ((nlX8_ok a ha).symm.trans (e.trans (nlX8_ok b hb))))
theorem tyX8_ok : ∀ k, k < 11 → parseFieldDescriptor (TX8 k).2.2.1 = some (tyX8 k)
  | 0, _ => pd_1
  | 1, _ => pd_1
  | 2, _ => pd_7
  | 3, _ => pd_0
  | 4, _ => pd_1
  | 5, _ => pd_0
  | 6, _ => pd_1
  | 7, _ => pd_1
  | 8, _ => pd_1
  | 9, _ => pd_0
  | 10, _ => pd_1
  | k + 11, h => absurd h (by omega)
noncomputable abbrev cX8_init : ByteArray := prog_10_method_1_code
def yX8_init : MethodName := ⟨RX8, "<init>", "()V"⟩
noncomputable abbrev cX8_in : ByteArray := prog_10_method_2_code
def yX8_in : MethodName := ⟨RX8, "in", "(III)Z"⟩
noncomputable abbrev cX8_isParty : ByteArray := prog_10_method_3_code
def yX8_isParty : MethodName := ⟨RX8, "isParty", "(I)Z"⟩
noncomputable abbrev cX8_isMediator : ByteArray := prog_10_method_4_code
def yX8_isMediator : MethodName := ⟨RX8, "isMediator", "(I)Z"⟩
noncomputable abbrev cX8_isCase : ByteArray := prog_10_method_5_code
def yX8_isCase : MethodName := ⟨RX8, "isCase", "(I)Z"⟩
noncomputable abbrev cX8_isSide : ByteArray := prog_10_method_6_code
def yX8_isSide : MethodName := ⟨RX8, "isSide", "(I)Z"⟩
noncomputable abbrev cX8_at : ByteArray := prog_10_method_7_code
def yX8_at : MethodName := ⟨RX8, "at", "(II)I"⟩
noncomputable abbrev cX8_party : ByteArray := prog_10_method_8_code
def yX8_party : MethodName := ⟨RX8, "party", "(II)I"⟩
noncomputable abbrev cX8_mediator : ByteArray := prog_10_method_9_code
def yX8_mediator : MethodName := ⟨RX8, "mediator", "(II)I"⟩
noncomputable abbrev cX8_kin : ByteArray := prog_10_method_10_code
def yX8_kin : MethodName := ⟨RX8, "kin", "(IIZ)I"⟩
noncomputable abbrev cX8_open : ByteArray := prog_10_method_11_code
def yX8_open : MethodName := ⟨RX8, "open", "(II)I"⟩
noncomputable abbrev cX8_close : ByteArray := prog_10_method_12_code
def yX8_close : MethodName := ⟨RX8, "close", "(I)I"⟩
noncomputable abbrev cX8_weight : ByteArray := prog_10_method_13_code
def yX8_weight : MethodName := ⟨RX8, "weight", "(II)I"⟩
noncomputable abbrev cX8_mark : ByteArray := prog_10_method_14_code
def yX8_mark : MethodName := ⟨RX8, "mark", "(II)I"⟩
noncomputable abbrev cX8_findHeads : ByteArray := prog_10_method_15_code
def yX8_findHeads : MethodName := ⟨RX8, "findHeads", "()V"⟩
noncomputable abbrev cX8_joined : ByteArray := prog_10_method_16_code
def yX8_joined : MethodName := ⟨RX8, "joined", "(I)I"⟩
noncomputable abbrev cX8_of : ByteArray := prog_10_method_17_code
def yX8_of : MethodName := ⟨RX8, "of", "(II)I"⟩
noncomputable abbrev cX8_offer : ByteArray := prog_10_method_18_code
def yX8_offer : MethodName := ⟨RX8, "offer", "(III)I"⟩
noncomputable abbrev cX8_put : ByteArray := prog_10_method_19_code
def yX8_put : MethodName := ⟨RX8, "put", "(II)I"⟩
noncomputable abbrev cX8_learns : ByteArray := prog_10_method_20_code
def yX8_learns : MethodName := ⟨RX8, "learns", "(IIIZ)I"⟩
noncomputable abbrev cX8_oneOf : ByteArray := prog_10_method_21_code
def yX8_oneOf : MethodName := ⟨RX8, "oneOf", "(I)I"⟩
noncomputable abbrev cX8_otherOf : ByteArray := prog_10_method_22_code
def yX8_otherOf : MethodName := ⟨RX8, "otherOf", "(I)I"⟩
noncomputable abbrev cX8_isPair : ByteArray := prog_10_method_23_code
def yX8_isPair : MethodName := ⟨RX8, "isPair", "(I)Z"⟩
noncomputable abbrev cX8_mayMeet : ByteArray := prog_10_method_24_code
def yX8_mayMeet : MethodName := ⟨RX8, "mayMeet", "(II)Z"⟩
noncomputable abbrev cX8_may : ByteArray := prog_10_method_25_code
def yX8_may : MethodName := ⟨RX8, "may", "(II)Z"⟩
noncomputable abbrev cX8_maySit : ByteArray := prog_10_method_26_code
def yX8_maySit : MethodName := ⟨RX8, "maySit", "(II)I"⟩
noncomputable abbrev cX8_rooms : ByteArray := prog_10_method_27_code
def yX8_rooms : MethodName := ⟨RX8, "rooms", "(I)I"⟩
noncomputable abbrev cX8_fits : ByteArray := prog_10_method_28_code
def yX8_fits : MethodName := ⟨RX8, "fits", "(I)Z"⟩
noncomputable abbrev cX8_waitsOf : ByteArray := prog_10_method_29_code
def yX8_waitsOf : MethodName := ⟨RX8, "waitsOf", "(I)I"⟩
noncomputable abbrev cX8_note : ByteArray := prog_10_method_30_code
def yX8_note : MethodName := ⟨RX8, "note", "()V"⟩
noncomputable abbrev cX8_makePlan : ByteArray := prog_10_method_31_code
def yX8_makePlan : MethodName := ⟨RX8, "makePlan", "()V"⟩
noncomputable abbrev cX8_plan : ByteArray := prog_10_method_32_code
def yX8_plan : MethodName := ⟨RX8, "plan", "(I)I"⟩
noncomputable abbrev cX8_waits : ByteArray := prog_10_method_33_code
def yX8_waits : MethodName := ⟨RX8, "waits", "()I"⟩
noncomputable abbrev cX8_termAt : ByteArray := prog_10_method_34_code
def yX8_termAt : MethodName := ⟨RX8, "termAt", "(II)I"⟩
noncomputable abbrev cX8_isTerm : ByteArray := prog_10_method_35_code
def yX8_isTerm : MethodName := ⟨RX8, "isTerm", "(II)Z"⟩
noncomputable abbrev cX8_term : ByteArray := prog_10_method_36_code
def yX8_term : MethodName := ⟨RX8, "term", "(IIZIII)I"⟩
noncomputable abbrev cX8_strike : ByteArray := prog_10_method_37_code
def yX8_strike : MethodName := ⟨RX8, "strike", "(I)I"⟩
noncomputable abbrev cX8_termOf : ByteArray := prog_10_method_38_code
def yX8_termOf : MethodName := ⟨RX8, "termOf", "(III)I"⟩
noncomputable abbrev cX8_isOwn : ByteArray := prog_10_method_39_code
def yX8_isOwn : MethodName := ⟨RX8, "isOwn", "(III)Z"⟩
noncomputable abbrev cX8_mayBe : ByteArray := prog_10_method_40_code
def yX8_mayBe : MethodName := ⟨RX8, "mayBe", "(IIII)Z"⟩
noncomputable abbrev cX8_hourFrom : ByteArray := prog_10_method_41_code
def yX8_hourFrom : MethodName := ⟨RX8, "hourFrom", "(IIIII)I"⟩
noncomputable abbrev cX8_next : ByteArray := prog_10_method_42_code
def yX8_next : MethodName := ⟨RX8, "next", "(IIIII)I"⟩
noncomputable abbrev cX8_makeTable : ByteArray := prog_10_method_43_code
def yX8_makeTable : MethodName := ⟨RX8, "makeTable", "(III)Z"⟩
noncomputable abbrev cX8_hour : ByteArray := prog_10_method_44_code
def yX8_hour : MethodName := ⟨RX8, "hour", "(II)I"⟩
noncomputable abbrev cX8_canHold : ByteArray := prog_10_method_45_code
def yX8_canHold : MethodName := ⟨RX8, "canHold", "(II)I"⟩
noncomputable abbrev cX8_breaks : ByteArray := prog_10_method_46_code
def yX8_breaks : MethodName := ⟨RX8, "breaks", "(II)I"⟩
noncomputable abbrev cX8_log : ByteArray := prog_10_method_47_code
def yX8_log : MethodName := ⟨RX8, "log", "(IIII)I"⟩
noncomputable abbrev cX8_judge : ByteArray := prog_10_method_48_code
def yX8_judge : MethodName := ⟨RX8, "judge", "(II)I"⟩
noncomputable abbrev cX8_judged : ByteArray := prog_10_method_49_code
def yX8_judged : MethodName := ⟨RX8, "judged", "(II)I"⟩
noncomputable abbrev cX8_casesThat : ByteArray := prog_10_method_50_code
def yX8_casesThat : MethodName := ⟨RX8, "casesThat", "(I)I"⟩
noncomputable abbrev cX8_quarrels : ByteArray := prog_10_method_51_code
def yX8_quarrels : MethodName := ⟨RX8, "quarrels", "()I"⟩
noncomputable abbrev cX8_termsThat : ByteArray := prog_10_method_52_code
def yX8_termsThat : MethodName := ⟨RX8, "termsThat", "(I)I"⟩
noncomputable abbrev cX8_many : ByteArray := prog_10_method_53_code
def yX8_many : MethodName := ⟨RX8, "many", "(I)I"⟩
noncomputable abbrev cX8_keep : ByteArray := prog_10_method_54_code
def yX8_keep : MethodName := ⟨RX8, "keep", "()I"⟩
noncomputable abbrev cX8_back : ByteArray := prog_10_method_55_code
def yX8_back : MethodName := ⟨RX8, "back", "()I"⟩
def RJ6 : String := "java/lang/Integer"
def TJ6 : u_T := fun k => match k with
  | _ => ("", "", "", false)
def tyJ6 : Nat → FieldType := fun k => match k with
  | _ => .int
abbrev wsJ60 : List Cond := u_ws RJ6 TJ6 0
theorem nmJ6 : ∀ a, a < 0 → ∀ b, b < 0 → a ≠ b → (TJ6 a).2.1 ≠ (TJ6 b).2.1 := by decide +kernel
theorem tyJ6_ok : ∀ k, k < 0 → parseFieldDescriptor (TJ6 k).2.2.1 = some (tyJ6 k) := by decide +kernel
noncomputable abbrev cJ6_bitCount_0f7a4 : ByteArray := prog_11_method_49_code
def yJ6_bitCount_0f7a4 : MethodName := ⟨RJ6, "bitCount", "(I)I"⟩
def RJ9 : String := "java/lang/Math"
def TJ9 : u_T := fun k => match k with
  | _ => ("", "", "", false)
def tyJ9 : Nat → FieldType := fun k => match k with
  | _ => .int
abbrev wsJ90 : List Cond := u_ws RJ9 TJ9 0
theorem nmJ9 : ∀ a, a < 0 → ∀ b, b < 0 → a ≠ b → (TJ9 a).2.1 ≠ (TJ9 b).2.1 := by decide +kernel
theorem tyJ9_ok : ∀ k, k < 0 → parseFieldDescriptor (TJ9 k).2.2.1 = some (tyJ9 k) := by decide +kernel
noncomputable abbrev cJ9_max_7cf53 : ByteArray := prog_12_method_65_code
def yJ9_max_7cf53 : MethodName := ⟨RJ9, "max", "(II)I"⟩
noncomputable abbrev cJ9_min_7cf53 : ByteArray := prog_12_method_69_code
def yJ9_min_7cf53 : MethodName := ⟨RJ9, "min", "(II)I"⟩
def RJ10 : String := "java/lang/System"
def TJ10 : u_T := fun k => match k with
  | _ => ("", "", "", false)
def tyJ10 : Nat → FieldType := fun k => match k with
  | _ => .int
abbrev wsJ100 : List Cond := u_ws RJ10 TJ10 0
theorem nmJ10 : ∀ a, a < 0 → ∀ b, b < 0 → a ≠ b → (TJ10 a).2.1 ≠ (TJ10 b).2.1 := by decide +kernel
theorem tyJ10_ok : ∀ k, k < 0 → parseFieldDescriptor (TJ10 k).2.2.1 = some (tyJ10 k) := by decide +kernel
def RL : String := "QuietStairsLaw"
noncomputable abbrev cL_law : ByteArray := code
def yL_law : MethodName := ⟨RL, "law", "([I)Z"⟩
noncomputable def wsX6_init : List Cond := Cond.code yX6_init cX6_init 1 none :: (([Cond.methodLink RX6 1 objectInit, Cond.instanceMethod objectInit, Cond.code objectInit ⟨#[0xb1]⟩ 1 none] : List Cond))
noncomputable def wsX0_init : List Cond := Cond.code yX0_init cX0_init 2 none :: (([Cond.methodLink RX0 3 objectInit, Cond.instanceMethod objectInit, Cond.code objectInit ⟨#[0xb1]⟩ 1 none, Cond.arrayClass .int, Cond.fieldLink RX0 9 "QuietStairs$Case" "parties" "[I", Cond.fieldLink RX0 15 "QuietStairs$Case" "box" "[I", Cond.classLink RX0 18 "[[I", Cond.fieldLink RX0 20 "QuietStairs$Case" "offers" "[[I", Cond.fieldLink RX0 23 "QuietStairs$Case" "logs" "[[I", Cond.classLink RX0 26 RX6, Cond.fieldLink RX0 28 "QuietStairs$Case" "terms" "[LQuietStairs$Term;", Cond.instantiable RX6 5, Cond.initialized RX6, Cond.instanceMethod yX6_init, Cond.code yX6_init cX6_init 1 none, Cond.methodLink RX6 1 objectInit] : List Cond) ++ wsX00 ++ wsX60)
noncomputable def wsX0_begin : List Cond := Cond.code yX0_begin cX0_begin 5 none :: (([Cond.fieldLink RX0 33 "QuietStairs$Case" "state" "I", Cond.fieldLink RX0 37 "QuietStairs$Case" "sum" "I", Cond.fieldLink RX0 40 "QuietStairs$Case" "roundsOver" "I", Cond.fieldLink RX0 43 "QuietStairs$Case" "weight" "I", Cond.fieldLink RX0 46 "QuietStairs$Case" "markedBits" "I", Cond.fieldLink RX0 49 "QuietStairs$Case" "termCount" "I", Cond.fieldLink RX0 9 "QuietStairs$Case" "parties" "[I", Cond.fieldLink RX0 15 "QuietStairs$Case" "box" "[I", Cond.fieldLink RX0 23 "QuietStairs$Case" "logs" "[[I"] : List Cond) ++ wsX00)
noncomputable def wsX0_endRound : List Cond := Cond.code yX0_endRound cX0_endRound 3 (some .boolean) :: (([Cond.fieldLink RX0 15 "QuietStairs$Case" "box" "[I", Cond.fieldLink RX0 40 "QuietStairs$Case" "roundsOver" "I", Cond.fieldLink RX0 20 "QuietStairs$Case" "offers" "[[I", Cond.fieldLink RX0 33 "QuietStairs$Case" "state" "I", Cond.fieldLink RX0 37 "QuietStairs$Case" "sum" "I"] : List Cond) ++ wsX00)
noncomputable def wsX0_hasMet : List Cond := Cond.code yX0_hasMet cX0_hasMet 2 (some .boolean) :: (([Cond.fieldLink RX0 33 "QuietStairs$Case" "state" "I", Cond.fieldLink RX0 40 "QuietStairs$Case" "roundsOver" "I"] : List Cond) ++ wsX00)
noncomputable def wsX0_leastOfOther : List Cond := Cond.code yX0_leastOfOther cX0_leastOfOther 5 (some .int) :: (([Cond.fieldLink RX0 20 "QuietStairs$Case" "offers" "[[I", Cond.fieldLink RX0 37 "QuietStairs$Case" "sum" "I", Cond.methodLink RX0 56 Lib.Math.max.name, Cond.static Lib.Math.max.name, Cond.initialized "java/lang/Math", Cond.code Lib.Math.max.name Lib.Math.max.code 2 (some .int), Cond.methodLink RX0 52 yX0_hasMet, Cond.instanceMethod yX0_hasMet, Cond.selects RX0 yX0_hasMet yX0_hasMet, Cond.initialized RX0, Cond.code yX0_hasMet cX0_hasMet 2 (some .boolean), Cond.fieldLink RX0 33 "QuietStairs$Case" "state" "I", Cond.fieldLink RX0 40 "QuietStairs$Case" "roundsOver" "I"] : List Cond) ++ wsX00)
noncomputable def wsX0_greatestOfOther : List Cond := Cond.code yX0_greatestOfOther cX0_greatestOfOther 5 (some .int) :: (([Cond.fieldLink RX0 20 "QuietStairs$Case" "offers" "[[I", Cond.fieldLink RX0 37 "QuietStairs$Case" "sum" "I", Cond.methodLink RX0 62 Lib.Math.min.name, Cond.static Lib.Math.min.name, Cond.initialized "java/lang/Math", Cond.code Lib.Math.min.name Lib.Math.min.code 2 (some .int), Cond.methodLink RX0 52 yX0_hasMet, Cond.instanceMethod yX0_hasMet, Cond.selects RX0 yX0_hasMet yX0_hasMet, Cond.initialized RX0, Cond.code yX0_hasMet cX0_hasMet 2 (some .boolean), Cond.fieldLink RX0 33 "QuietStairs$Case" "state" "I", Cond.fieldLink RX0 40 "QuietStairs$Case" "roundsOver" "I"] : List Cond) ++ wsX00)
noncomputable def wsX0_judge : List Cond := Cond.code yX0_judge cX0_judge 6 (some .int) :: (([Cond.fieldLink RX0 28 "QuietStairs$Case" "terms" "[LQuietStairs$Term;", Cond.fieldLink RX0 65 "QuietStairs$Term" "first" "I", Cond.fieldLink RX0 68 "QuietStairs$Term" "last" "I", Cond.fieldLink RX0 23 "QuietStairs$Case" "logs" "[[I", Cond.fieldLink RX0 71 "QuietStairs$Term" "side" "I", Cond.fieldLink RX0 74 "QuietStairs$Term" "act" "I", Cond.fieldLink RX0 77 "QuietStairs$Term" "must" "Z"] : List Cond) ++ wsX00 ++ wsX60)
noncomputable def wsX6_copyFrom : List Cond := Cond.code yX6_copyFrom cX6_copyFrom 2 none :: (([Cond.fieldLink RX6 16 "QuietStairs$Term" "side" "I", Cond.fieldLink RX6 19 "QuietStairs$Term" "must" "Z", Cond.fieldLink RX6 23 "QuietStairs$Term" "act" "I", Cond.fieldLink RX6 13 "QuietStairs$Term" "first" "I", Cond.fieldLink RX6 7 "QuietStairs$Term" "last" "I"] : List Cond) ++ wsX60)
noncomputable def wsX0_copyFrom_r1 : List Cond := [Cond.fieldLink RX0 33 "QuietStairs$Case" "state" "I", Cond.fieldLink RX0 37 "QuietStairs$Case" "sum" "I", Cond.fieldLink RX0 40 "QuietStairs$Case" "roundsOver" "I", Cond.fieldLink RX0 43 "QuietStairs$Case" "weight" "I", Cond.fieldLink RX0 46 "QuietStairs$Case" "markedBits" "I", Cond.fieldLink RX0 49 "QuietStairs$Case" "termCount" "I", Cond.fieldLink RX0 9 "QuietStairs$Case" "parties" "[I", Cond.fieldLink RX0 15 "QuietStairs$Case" "box" "[I", Cond.fieldLink RX0 20 "QuietStairs$Case" "offers" "[[I", Cond.methodLink RX0 81 arraycopyName, Cond.native arraycopyName, Cond.static arraycopyName, Cond.initialized "java/lang/System", Cond.fieldLink RX0 23 "QuietStairs$Case" "logs" "[[I", Cond.fieldLink RX0 28 "QuietStairs$Case" "terms" "[LQuietStairs$Term;", Cond.methodLink RX0 87 yX6_copyFrom, Cond.instanceMethod yX6_copyFrom, Cond.selects RX6 yX6_copyFrom yX6_copyFrom, Cond.initialized RX6, Cond.code yX6_copyFrom cX6_copyFrom 2 none, Cond.fieldLink RX6 16 "QuietStairs$Term" "side" "I", Cond.fieldLink RX6 19 "QuietStairs$Term" "must" "Z", Cond.fieldLink RX6 23 "QuietStairs$Term" "act" "I", Cond.fieldLink RX6 13 "QuietStairs$Term" "first" "I"]
noncomputable def wsX0_copyFrom_r2 : List Cond := [Cond.fieldLink RX6 7 "QuietStairs$Term" "last" "I"]
noncomputable def wsX0_copyFrom : List Cond := Cond.code yX0_copyFrom cX0_copyFrom 3 none :: ((wsX0_copyFrom_r1 ++ wsX0_copyFrom_r2) ++ wsX00 ++ wsX60)
noncomputable def wsX3_init : List Cond := Cond.code yX3_init cX3_init 1 none :: (([Cond.methodLink RX3 1 objectInit, Cond.instanceMethod objectInit, Cond.code objectInit ⟨#[0xb1]⟩ 1 none] : List Cond))
noncomputable def wsX2_init : List Cond := Cond.code yX2_init cX2_init 1 none :: (([Cond.methodLink RX2 1 objectInit, Cond.instanceMethod objectInit, Cond.code objectInit ⟨#[0xb1]⟩ 1 none] : List Cond))
noncomputable def wsX1_init_r1 : List Cond := [Cond.methodLink RX1 3 objectInit, Cond.instanceMethod objectInit, Cond.code objectInit ⟨#[0xb1]⟩ 1 none, Cond.classLink RX1 9 RX3, Cond.fieldLink RX1 11 "QuietStairs$House" "parties" "[LQuietStairs$Party;", Cond.classLink RX1 17 RX2, Cond.fieldLink RX1 19 "QuietStairs$House" "mediators" "[LQuietStairs$Mediator;", Cond.classLink RX1 23 RX0, Cond.fieldLink RX1 25 "QuietStairs$House" "cases" "[LQuietStairs$Case;", Cond.instantiable RX3 2, Cond.initialized RX3, Cond.instantiable RX2 3, Cond.initialized RX2, Cond.instantiable RX0 11, Cond.initialized RX0, Cond.instanceMethod yX3_init, Cond.code yX3_init cX3_init 1 none, Cond.methodLink RX3 1 objectInit, Cond.instanceMethod yX2_init, Cond.code yX2_init cX2_init 1 none, Cond.methodLink RX2 1 objectInit, Cond.methodLink RX1 31 yX0_init, Cond.instanceMethod yX0_init, Cond.code yX0_init cX0_init 2 none]
noncomputable def wsX1_init_r2 : List Cond := [Cond.methodLink RX0 3 objectInit, Cond.arrayClass .int, Cond.fieldLink RX0 9 "QuietStairs$Case" "parties" "[I", Cond.fieldLink RX0 15 "QuietStairs$Case" "box" "[I", Cond.classLink RX0 18 "[[I", Cond.fieldLink RX0 20 "QuietStairs$Case" "offers" "[[I", Cond.fieldLink RX0 23 "QuietStairs$Case" "logs" "[[I", Cond.classLink RX0 26 RX6, Cond.fieldLink RX0 28 "QuietStairs$Case" "terms" "[LQuietStairs$Term;", Cond.instantiable RX6 5, Cond.initialized RX6, Cond.instanceMethod yX6_init, Cond.code yX6_init cX6_init 1 none, Cond.methodLink RX6 1 objectInit]
noncomputable def wsX1_init : List Cond := Cond.code yX1_init cX1_init 2 none :: ((wsX1_init_r1 ++ wsX1_init_r2) ++ wsX10 ++ wsX30 ++ wsX20 ++ wsX00 ++ wsX60)
noncomputable def wsX1_hasPair : List Cond := Cond.code yX1_hasPair cX1_hasPair 2 (some .boolean) :: (([Cond.fieldLink RX1 36 "QuietStairs$House" "mediatorCount" "I"] : List Cond) ++ wsX10)
noncomputable def wsX7_hasBit : List Cond := Cond.code yX7_hasBit cX7_hasBit 2 (some .boolean) :: (([] : List Cond))
noncomputable def wsX1_isNear : List Cond := Cond.code yX1_isNear cX1_isNear 3 (some .boolean) :: (([Cond.fieldLink RX1 59 "QuietStairs$Mediator" "kinBits" "I", Cond.fieldLink RX1 62 "QuietStairs$Mediator" "floor" "I", Cond.fieldLink RX1 11 "QuietStairs$House" "parties" "[LQuietStairs$Party;", Cond.fieldLink RX1 65 "QuietStairs$Party" "floor" "I", Cond.static yX7_hasBit, Cond.initialized RX7, Cond.code yX7_hasBit cX7_hasBit 2 (some .boolean)] : List Cond) ++ wsX20 ++ wsX10 ++ wsX30)
noncomputable def wsX1_pairFits : List Cond := Cond.code yX1_pairFits cX1_pairFits 8 (some .boolean) :: (([Cond.fieldLink RX1 19 "QuietStairs$House" "mediators" "[LQuietStairs$Mediator;", Cond.fieldLink RX1 43 "QuietStairs$Mediator" "tongues" "I", Cond.fieldLink RX1 46 "QuietStairs$Case" "parties" "[I", Cond.fieldLink RX1 11 "QuietStairs$House" "parties" "[LQuietStairs$Party;", Cond.fieldLink RX1 48 "QuietStairs$Party" "tongue" "I", Cond.static yX7_hasBit, Cond.initialized RX7, Cond.code yX7_hasBit cX7_hasBit 2 (some .boolean), Cond.methodLink RX1 55 yX1_isNear, Cond.instanceMethod yX1_isNear, Cond.selects RX1 yX1_isNear yX1_isNear, Cond.initialized RX1, Cond.code yX1_isNear cX1_isNear 3 (some .boolean), Cond.fieldLink RX1 59 "QuietStairs$Mediator" "kinBits" "I", Cond.fieldLink RX1 62 "QuietStairs$Mediator" "floor" "I", Cond.fieldLink RX1 65 "QuietStairs$Party" "floor" "I"] : List Cond) ++ wsX10 ++ wsX20 ++ wsX00 ++ wsX30)
noncomputable def wsX1_quarrelBits : List Cond := Cond.code yX1_quarrelBits cX1_quarrelBits 5 (some .int) :: (([Cond.fieldLink RX1 66 "QuietStairs$House" "caseCount" "I", Cond.fieldLink RX1 25 "QuietStairs$House" "cases" "[LQuietStairs$Case;", Cond.fieldLink RX1 69 "QuietStairs$Case" "markedBits" "I", Cond.static yX7_hasBit, Cond.initialized RX7, Cond.code yX7_hasBit cX7_hasBit 2 (some .boolean)] : List Cond) ++ wsX10 ++ wsX00)
noncomputable def wsX1_headOfQuarrel : List Cond := Cond.code yX1_headOfQuarrel cX1_headOfQuarrel 4 (some .int) :: (([Cond.methodLink RX1 72 yX1_quarrelBits, Cond.instanceMethod yX1_quarrelBits, Cond.selects RX1 yX1_quarrelBits yX1_quarrelBits, Cond.initialized RX1, Cond.code yX1_quarrelBits cX1_quarrelBits 5 (some .int), Cond.fieldLink RX1 66 "QuietStairs$House" "caseCount" "I", Cond.fieldLink RX1 25 "QuietStairs$House" "cases" "[LQuietStairs$Case;", Cond.fieldLink RX1 69 "QuietStairs$Case" "markedBits" "I", Cond.static yX7_hasBit, Cond.initialized RX7, Cond.code yX7_hasBit cX7_hasBit 2 (some .boolean)] : List Cond) ++ wsX10 ++ wsX00)
noncomputable def wsX1_countQuarrels : List Cond := Cond.code yX1_countQuarrels cX1_countQuarrels 3 (some .int) :: (([Cond.fieldLink RX1 66 "QuietStairs$House" "caseCount" "I", Cond.methodLink RX1 76 yX1_headOfQuarrel, Cond.instanceMethod yX1_headOfQuarrel, Cond.selects RX1 yX1_headOfQuarrel yX1_headOfQuarrel, Cond.initialized RX1, Cond.code yX1_headOfQuarrel cX1_headOfQuarrel 4 (some .int), Cond.methodLink RX1 72 yX1_quarrelBits, Cond.instanceMethod yX1_quarrelBits, Cond.selects RX1 yX1_quarrelBits yX1_quarrelBits, Cond.code yX1_quarrelBits cX1_quarrelBits 5 (some .int), Cond.fieldLink RX1 25 "QuietStairs$House" "cases" "[LQuietStairs$Case;", Cond.fieldLink RX1 69 "QuietStairs$Case" "markedBits" "I", Cond.static yX7_hasBit, Cond.initialized RX7, Cond.code yX7_hasBit cX7_hasBit 2 (some .boolean)] : List Cond) ++ wsX10 ++ wsX00)
noncomputable def wsX1_countState : List Cond := Cond.code yX1_countState cX1_countState 4 (some .int) :: (([Cond.fieldLink RX1 66 "QuietStairs$House" "caseCount" "I", Cond.fieldLink RX1 25 "QuietStairs$House" "cases" "[LQuietStairs$Case;", Cond.fieldLink RX1 79 "QuietStairs$Case" "state" "I"] : List Cond) ++ wsX10 ++ wsX00)
noncomputable def wsX1_countTerms : List Cond := Cond.code yX1_countTerms cX1_countTerms 3 (some .int) :: (([Cond.fieldLink RX1 66 "QuietStairs$House" "caseCount" "I", Cond.fieldLink RX1 25 "QuietStairs$House" "cases" "[LQuietStairs$Case;", Cond.fieldLink RX1 82 "QuietStairs$Case" "termCount" "I"] : List Cond) ++ wsX10 ++ wsX00)
noncomputable def wsX1_countJudged : List Cond := Cond.code yX1_countJudged cX1_countJudged 5 (some .int) :: (([Cond.fieldLink RX1 66 "QuietStairs$House" "caseCount" "I", Cond.fieldLink RX1 25 "QuietStairs$House" "cases" "[LQuietStairs$Case;", Cond.fieldLink RX1 82 "QuietStairs$Case" "termCount" "I", Cond.methodLink RX1 85 yX0_judge, Cond.instanceMethod yX0_judge, Cond.selects RX0 yX0_judge yX0_judge, Cond.initialized RX0, Cond.code yX0_judge cX0_judge 6 (some .int), Cond.fieldLink RX0 28 "QuietStairs$Case" "terms" "[LQuietStairs$Term;", Cond.fieldLink RX0 65 "QuietStairs$Term" "first" "I", Cond.fieldLink RX0 68 "QuietStairs$Term" "last" "I", Cond.fieldLink RX0 23 "QuietStairs$Case" "logs" "[[I", Cond.fieldLink RX0 71 "QuietStairs$Term" "side" "I", Cond.fieldLink RX0 74 "QuietStairs$Term" "act" "I", Cond.fieldLink RX0 77 "QuietStairs$Term" "must" "Z"] : List Cond) ++ wsX10 ++ wsX00 ++ wsX60)
noncomputable def wsX3_copyFrom : List Cond := Cond.code yX3_copyFrom cX3_copyFrom 2 none :: (([Cond.fieldLink RX3 7 "QuietStairs$Party" "floor" "I", Cond.fieldLink RX3 13 "QuietStairs$Party" "tongue" "I"] : List Cond) ++ wsX30)
noncomputable def wsX2_copyFrom : List Cond := Cond.code yX2_copyFrom cX2_copyFrom 2 none :: (([Cond.fieldLink RX2 7 "QuietStairs$Mediator" "floor" "I", Cond.fieldLink RX2 13 "QuietStairs$Mediator" "tongues" "I", Cond.fieldLink RX2 16 "QuietStairs$Mediator" "kinBits" "I"] : List Cond) ++ wsX20)
noncomputable def wsX1_copyFrom_r1 : List Cond := [Cond.fieldLink RX1 88 "QuietStairs$House" "partyCount" "I", Cond.fieldLink RX1 36 "QuietStairs$House" "mediatorCount" "I", Cond.fieldLink RX1 66 "QuietStairs$House" "caseCount" "I", Cond.fieldLink RX1 91 "QuietStairs$House" "markCount" "I", Cond.fieldLink RX1 11 "QuietStairs$House" "parties" "[LQuietStairs$Party;", Cond.fieldLink RX1 19 "QuietStairs$House" "mediators" "[LQuietStairs$Mediator;", Cond.fieldLink RX1 25 "QuietStairs$House" "cases" "[LQuietStairs$Case;", Cond.methodLink RX1 94 yX3_copyFrom, Cond.instanceMethod yX3_copyFrom, Cond.selects RX3 yX3_copyFrom yX3_copyFrom, Cond.initialized RX3, Cond.code yX3_copyFrom cX3_copyFrom 2 none, Cond.fieldLink RX3 7 "QuietStairs$Party" "floor" "I", Cond.fieldLink RX3 13 "QuietStairs$Party" "tongue" "I", Cond.methodLink RX1 98 yX2_copyFrom, Cond.instanceMethod yX2_copyFrom, Cond.selects RX2 yX2_copyFrom yX2_copyFrom, Cond.initialized RX2, Cond.code yX2_copyFrom cX2_copyFrom 2 none, Cond.fieldLink RX2 7 "QuietStairs$Mediator" "floor" "I", Cond.fieldLink RX2 13 "QuietStairs$Mediator" "tongues" "I", Cond.fieldLink RX2 16 "QuietStairs$Mediator" "kinBits" "I", Cond.methodLink RX1 101 yX0_copyFrom, Cond.instanceMethod yX0_copyFrom]
noncomputable def wsX1_copyFrom_r2 : List Cond := [Cond.selects RX0 yX0_copyFrom yX0_copyFrom, Cond.initialized RX0, Cond.code yX0_copyFrom cX0_copyFrom 3 none, Cond.fieldLink RX0 33 "QuietStairs$Case" "state" "I", Cond.fieldLink RX0 37 "QuietStairs$Case" "sum" "I", Cond.fieldLink RX0 40 "QuietStairs$Case" "roundsOver" "I", Cond.fieldLink RX0 43 "QuietStairs$Case" "weight" "I", Cond.fieldLink RX0 46 "QuietStairs$Case" "markedBits" "I", Cond.fieldLink RX0 49 "QuietStairs$Case" "termCount" "I", Cond.fieldLink RX0 9 "QuietStairs$Case" "parties" "[I", Cond.fieldLink RX0 15 "QuietStairs$Case" "box" "[I", Cond.fieldLink RX0 20 "QuietStairs$Case" "offers" "[[I", Cond.methodLink RX0 81 arraycopyName, Cond.native arraycopyName, Cond.static arraycopyName, Cond.initialized "java/lang/System", Cond.fieldLink RX0 23 "QuietStairs$Case" "logs" "[[I", Cond.fieldLink RX0 28 "QuietStairs$Case" "terms" "[LQuietStairs$Term;", Cond.methodLink RX0 87 yX6_copyFrom, Cond.instanceMethod yX6_copyFrom, Cond.selects RX6 yX6_copyFrom yX6_copyFrom, Cond.initialized RX6, Cond.code yX6_copyFrom cX6_copyFrom 2 none, Cond.fieldLink RX6 16 "QuietStairs$Term" "side" "I"]
noncomputable def wsX1_copyFrom_r3 : List Cond := [Cond.fieldLink RX6 19 "QuietStairs$Term" "must" "Z", Cond.fieldLink RX6 23 "QuietStairs$Term" "act" "I", Cond.fieldLink RX6 13 "QuietStairs$Term" "first" "I", Cond.fieldLink RX6 7 "QuietStairs$Term" "last" "I"]
noncomputable def wsX1_copyFrom : List Cond := Cond.code yX1_copyFrom cX1_copyFrom 3 none :: ((wsX1_copyFrom_r1 ++ (wsX1_copyFrom_r2 ++ wsX1_copyFrom_r3)) ++ wsX10 ++ wsX30 ++ wsX20 ++ wsX00 ++ wsX60)
noncomputable def wsX4_init : List Cond := Cond.code yX4_init cX4_init 1 none :: (([Cond.methodLink RX4 3 objectInit, Cond.instanceMethod objectInit, Cond.code objectInit ⟨#[0xb1]⟩ 1 none, Cond.arrayClass .int, Cond.fieldLink RX4 9 "QuietStairs$Planner" "numbers" "[I", Cond.fieldLink RX4 15 "QuietStairs$Planner" "weights" "[I", Cond.fieldLink RX4 18 "QuietStairs$Planner" "pairBits" "[I", Cond.fieldLink RX4 21 "QuietStairs$Planner" "heaviestFirst" "[I", Cond.fieldLink RX4 24 "QuietStairs$Planner" "seats" "[I", Cond.fieldLink RX4 27 "QuietStairs$Planner" "bestSeats" "[I", Cond.fieldLink RX4 30 "QuietStairs$Planner" "busyBits" "[I", Cond.fieldLink RX4 33 "QuietStairs$Planner" "sittings" "[I"] : List Cond) ++ wsX40)
noncomputable def wsX4_fittingPairs_r1 : List Cond := [Cond.methodLink RX4 87 yX1_hasPair, Cond.instanceMethod yX1_hasPair, Cond.selects RX1 yX1_hasPair yX1_hasPair, Cond.initialized RX1, Cond.code yX1_hasPair cX1_hasPair 2 (some .boolean), Cond.fieldLink RX1 36 "QuietStairs$House" "mediatorCount" "I", Cond.methodLink RX4 91 yX1_pairFits, Cond.instanceMethod yX1_pairFits, Cond.selects RX1 yX1_pairFits yX1_pairFits, Cond.code yX1_pairFits cX1_pairFits 8 (some .boolean), Cond.fieldLink RX1 19 "QuietStairs$House" "mediators" "[LQuietStairs$Mediator;", Cond.fieldLink RX1 43 "QuietStairs$Mediator" "tongues" "I", Cond.fieldLink RX1 46 "QuietStairs$Case" "parties" "[I", Cond.fieldLink RX1 11 "QuietStairs$House" "parties" "[LQuietStairs$Party;", Cond.fieldLink RX1 48 "QuietStairs$Party" "tongue" "I", Cond.static yX7_hasBit, Cond.initialized RX7, Cond.code yX7_hasBit cX7_hasBit 2 (some .boolean), Cond.methodLink RX1 55 yX1_isNear, Cond.instanceMethod yX1_isNear, Cond.selects RX1 yX1_isNear yX1_isNear, Cond.code yX1_isNear cX1_isNear 3 (some .boolean), Cond.fieldLink RX1 59 "QuietStairs$Mediator" "kinBits" "I", Cond.fieldLink RX1 62 "QuietStairs$Mediator" "floor" "I"]
noncomputable def wsX4_fittingPairs_r2 : List Cond := [Cond.fieldLink RX1 65 "QuietStairs$Party" "floor" "I"]
noncomputable def wsX4_fittingPairs : List Cond := Cond.code yX4_fittingPairs cX4_fittingPairs 4 (some .int) :: ((wsX4_fittingPairs_r1 ++ wsX4_fittingPairs_r2) ++ wsX10 ++ wsX20 ++ wsX00 ++ wsX30)
noncomputable def wsX4_gather_r1 : List Cond := [Cond.fieldLink RX4 61 "QuietStairs$Planner" "count" "I", Cond.fieldLink RX4 68 "QuietStairs$House" "caseCount" "I", Cond.fieldLink RX4 71 "QuietStairs$House" "cases" "[LQuietStairs$Case;", Cond.fieldLink RX4 75 "QuietStairs$Case" "state" "I", Cond.fieldLink RX4 9 "QuietStairs$Planner" "numbers" "[I", Cond.fieldLink RX4 15 "QuietStairs$Planner" "weights" "[I", Cond.fieldLink RX4 80 "QuietStairs$Case" "weight" "I", Cond.fieldLink RX4 18 "QuietStairs$Planner" "pairBits" "[I", Cond.methodLink RX4 83 yX4_fittingPairs, Cond.static yX4_fittingPairs, Cond.initialized RX4, Cond.code yX4_fittingPairs cX4_fittingPairs 4 (some .int), Cond.methodLink RX4 87 yX1_hasPair, Cond.instanceMethod yX1_hasPair, Cond.selects RX1 yX1_hasPair yX1_hasPair, Cond.initialized RX1, Cond.code yX1_hasPair cX1_hasPair 2 (some .boolean), Cond.fieldLink RX1 36 "QuietStairs$House" "mediatorCount" "I", Cond.methodLink RX4 91 yX1_pairFits, Cond.instanceMethod yX1_pairFits, Cond.selects RX1 yX1_pairFits yX1_pairFits, Cond.code yX1_pairFits cX1_pairFits 8 (some .boolean), Cond.fieldLink RX1 19 "QuietStairs$House" "mediators" "[LQuietStairs$Mediator;", Cond.fieldLink RX1 43 "QuietStairs$Mediator" "tongues" "I"]
noncomputable def wsX4_gather_r2 : List Cond := [Cond.fieldLink RX1 46 "QuietStairs$Case" "parties" "[I", Cond.fieldLink RX1 11 "QuietStairs$House" "parties" "[LQuietStairs$Party;", Cond.fieldLink RX1 48 "QuietStairs$Party" "tongue" "I", Cond.static yX7_hasBit, Cond.initialized RX7, Cond.code yX7_hasBit cX7_hasBit 2 (some .boolean), Cond.methodLink RX1 55 yX1_isNear, Cond.instanceMethod yX1_isNear, Cond.selects RX1 yX1_isNear yX1_isNear, Cond.code yX1_isNear cX1_isNear 3 (some .boolean), Cond.fieldLink RX1 59 "QuietStairs$Mediator" "kinBits" "I", Cond.fieldLink RX1 62 "QuietStairs$Mediator" "floor" "I", Cond.fieldLink RX1 65 "QuietStairs$Party" "floor" "I"]
noncomputable def wsX4_gather : List Cond := Cond.code yX4_gather cX4_gather 4 none :: ((wsX4_gather_r1 ++ wsX4_gather_r2) ++ wsX40 ++ wsX10 ++ wsX00 ++ wsX20 ++ wsX30)
noncomputable def wsX4_sortByWeight : List Cond := Cond.code yX4_sortByWeight cX4_sortByWeight 3 none :: (([Cond.fieldLink RX4 61 "QuietStairs$Planner" "count" "I", Cond.fieldLink RX4 15 "QuietStairs$Planner" "weights" "[I", Cond.fieldLink RX4 21 "QuietStairs$Planner" "heaviestFirst" "[I"] : List Cond) ++ wsX40)
noncomputable def wsX4_leastBehind : List Cond := Cond.code yX4_leastBehind cX4_leastBehind 8 (some .int) :: (([Cond.fieldLink RX4 33 "QuietStairs$Planner" "sittings" "[I", Cond.fieldLink RX4 61 "QuietStairs$Planner" "count" "I", Cond.fieldLink RX4 21 "QuietStairs$Planner" "heaviestFirst" "[I", Cond.fieldLink RX4 48 "QuietStairs$Planner" "seatsADay" "I", Cond.fieldLink RX4 18 "QuietStairs$Planner" "pairBits" "[I", Cond.fieldLink RX4 15 "QuietStairs$Planner" "weights" "[I"] : List Cond) ++ wsX40)
noncomputable def wsX4_search_r1 : List Cond := [Cond.fieldLink RX4 58 "QuietStairs$Planner" "leastWait" "I", Cond.fieldLink RX4 61 "QuietStairs$Planner" "count" "I", Cond.fieldLink RX4 24 "QuietStairs$Planner" "seats" "[I", Cond.fieldLink RX4 27 "QuietStairs$Planner" "bestSeats" "[I", Cond.methodLink RX4 99 arraycopyName, Cond.native arraycopyName, Cond.static arraycopyName, Cond.initialized "java/lang/System", Cond.fieldLink RX4 33 "QuietStairs$Planner" "sittings" "[I", Cond.fieldLink RX4 48 "QuietStairs$Planner" "seatsADay" "I", Cond.fieldLink RX4 15 "QuietStairs$Planner" "weights" "[I", Cond.methodLink RX4 95 yX4_leastBehind, Cond.instanceMethod yX4_leastBehind, Cond.selects RX4 yX4_leastBehind yX4_leastBehind, Cond.initialized RX4, Cond.code yX4_leastBehind cX4_leastBehind 8 (some .int), Cond.fieldLink RX4 21 "QuietStairs$Planner" "heaviestFirst" "[I", Cond.fieldLink RX4 18 "QuietStairs$Planner" "pairBits" "[I", Cond.methodLink RX4 105 yX4_searchDay, Cond.instanceMethod yX4_searchDay, Cond.selects RX4 yX4_searchDay yX4_searchDay, Cond.methodLink RX4 64 yX4_search, Cond.instanceMethod yX4_search, Cond.selects RX4 yX4_search yX4_search]
noncomputable def wsX4_search_r2 : List Cond := [Cond.code yX4_searchDay cX4_searchDay 6 none, Cond.fieldLink RX4 30 "QuietStairs$Planner" "busyBits" "[I", Cond.static yX7_hasBit, Cond.initialized RX7, Cond.code yX7_hasBit cX7_hasBit 2 (some .boolean)]
noncomputable def wsX4_search : List Cond := Cond.code yX4_search cX4_search 4 none :: ((wsX4_search_r1 ++ wsX4_search_r2) ++ wsX40)
noncomputable def wsX4_searchDay_r1 : List Cond := [Cond.fieldLink RX4 18 "QuietStairs$Planner" "pairBits" "[I", Cond.fieldLink RX4 30 "QuietStairs$Planner" "busyBits" "[I", Cond.fieldLink RX4 24 "QuietStairs$Planner" "seats" "[I", Cond.fieldLink RX4 33 "QuietStairs$Planner" "sittings" "[I", Cond.static yX7_hasBit, Cond.initialized RX7, Cond.code yX7_hasBit cX7_hasBit 2 (some .boolean), Cond.methodLink RX4 64 yX4_search, Cond.instanceMethod yX4_search, Cond.selects RX4 yX4_search yX4_search, Cond.initialized RX4, Cond.code yX4_search cX4_search 4 none, Cond.fieldLink RX4 58 "QuietStairs$Planner" "leastWait" "I", Cond.fieldLink RX4 61 "QuietStairs$Planner" "count" "I", Cond.fieldLink RX4 27 "QuietStairs$Planner" "bestSeats" "[I", Cond.methodLink RX4 99 arraycopyName, Cond.native arraycopyName, Cond.static arraycopyName, Cond.initialized "java/lang/System", Cond.fieldLink RX4 48 "QuietStairs$Planner" "seatsADay" "I", Cond.fieldLink RX4 15 "QuietStairs$Planner" "weights" "[I", Cond.methodLink RX4 95 yX4_leastBehind, Cond.instanceMethod yX4_leastBehind, Cond.selects RX4 yX4_leastBehind yX4_leastBehind]
noncomputable def wsX4_searchDay_r2 : List Cond := [Cond.code yX4_leastBehind cX4_leastBehind 8 (some .int), Cond.fieldLink RX4 21 "QuietStairs$Planner" "heaviestFirst" "[I", Cond.methodLink RX4 105 yX4_searchDay, Cond.instanceMethod yX4_searchDay, Cond.selects RX4 yX4_searchDay yX4_searchDay]
noncomputable def wsX4_searchDay : List Cond := Cond.code yX4_searchDay cX4_searchDay 6 none :: ((wsX4_searchDay_r1 ++ wsX4_searchDay_r2) ++ wsX40)
noncomputable def wsX4_findPlan_r1 : List Cond := [Cond.fieldLink RX4 36 "QuietStairs$House" "mediatorCount" "I", Cond.methodLink RX4 42 Lib.Math.min.name, Cond.static Lib.Math.min.name, Cond.initialized "java/lang/Math", Cond.code Lib.Math.min.name Lib.Math.min.code 2 (some .int), Cond.fieldLink RX4 48 "QuietStairs$Planner" "seatsADay" "I", Cond.fieldLink RX4 58 "QuietStairs$Planner" "leastWait" "I", Cond.fieldLink RX4 61 "QuietStairs$Planner" "count" "I", Cond.fieldLink RX4 15 "QuietStairs$Planner" "weights" "[I", Cond.fieldLink RX4 30 "QuietStairs$Planner" "busyBits" "[I", Cond.fieldLink RX4 33 "QuietStairs$Planner" "sittings" "[I", Cond.methodLink RX4 51 yX4_gather, Cond.instanceMethod yX4_gather, Cond.selects RX4 yX4_gather yX4_gather, Cond.initialized RX4, Cond.code yX4_gather cX4_gather 4 none, Cond.fieldLink RX4 68 "QuietStairs$House" "caseCount" "I", Cond.fieldLink RX4 71 "QuietStairs$House" "cases" "[LQuietStairs$Case;", Cond.fieldLink RX4 75 "QuietStairs$Case" "state" "I", Cond.fieldLink RX4 9 "QuietStairs$Planner" "numbers" "[I", Cond.fieldLink RX4 80 "QuietStairs$Case" "weight" "I", Cond.fieldLink RX4 18 "QuietStairs$Planner" "pairBits" "[I", Cond.methodLink RX4 83 yX4_fittingPairs, Cond.static yX4_fittingPairs]
noncomputable def wsX4_findPlan_r2 : List Cond := [Cond.code yX4_fittingPairs cX4_fittingPairs 4 (some .int), Cond.methodLink RX4 87 yX1_hasPair, Cond.instanceMethod yX1_hasPair, Cond.selects RX1 yX1_hasPair yX1_hasPair, Cond.initialized RX1, Cond.code yX1_hasPair cX1_hasPair 2 (some .boolean), Cond.fieldLink RX1 36 "QuietStairs$House" "mediatorCount" "I", Cond.methodLink RX4 91 yX1_pairFits, Cond.instanceMethod yX1_pairFits, Cond.selects RX1 yX1_pairFits yX1_pairFits, Cond.code yX1_pairFits cX1_pairFits 8 (some .boolean), Cond.fieldLink RX1 19 "QuietStairs$House" "mediators" "[LQuietStairs$Mediator;", Cond.fieldLink RX1 43 "QuietStairs$Mediator" "tongues" "I", Cond.fieldLink RX1 46 "QuietStairs$Case" "parties" "[I", Cond.fieldLink RX1 11 "QuietStairs$House" "parties" "[LQuietStairs$Party;", Cond.fieldLink RX1 48 "QuietStairs$Party" "tongue" "I", Cond.static yX7_hasBit, Cond.initialized RX7, Cond.code yX7_hasBit cX7_hasBit 2 (some .boolean), Cond.methodLink RX1 55 yX1_isNear, Cond.instanceMethod yX1_isNear, Cond.selects RX1 yX1_isNear yX1_isNear, Cond.code yX1_isNear cX1_isNear 3 (some .boolean), Cond.fieldLink RX1 59 "QuietStairs$Mediator" "kinBits" "I"]
noncomputable def wsX4_findPlan_r3 : List Cond := [Cond.fieldLink RX1 62 "QuietStairs$Mediator" "floor" "I", Cond.fieldLink RX1 65 "QuietStairs$Party" "floor" "I", Cond.methodLink RX4 55 yX4_sortByWeight, Cond.instanceMethod yX4_sortByWeight, Cond.selects RX4 yX4_sortByWeight yX4_sortByWeight, Cond.code yX4_sortByWeight cX4_sortByWeight 3 none, Cond.fieldLink RX4 21 "QuietStairs$Planner" "heaviestFirst" "[I", Cond.methodLink RX4 64 yX4_search, Cond.instanceMethod yX4_search, Cond.selects RX4 yX4_search yX4_search, Cond.code yX4_search cX4_search 4 none, Cond.fieldLink RX4 24 "QuietStairs$Planner" "seats" "[I", Cond.fieldLink RX4 27 "QuietStairs$Planner" "bestSeats" "[I", Cond.methodLink RX4 99 arraycopyName, Cond.native arraycopyName, Cond.static arraycopyName, Cond.initialized "java/lang/System", Cond.methodLink RX4 95 yX4_leastBehind, Cond.instanceMethod yX4_leastBehind, Cond.selects RX4 yX4_leastBehind yX4_leastBehind, Cond.code yX4_leastBehind cX4_leastBehind 8 (some .int), Cond.methodLink RX4 105 yX4_searchDay, Cond.instanceMethod yX4_searchDay, Cond.selects RX4 yX4_searchDay yX4_searchDay]
noncomputable def wsX4_findPlan_r4 : List Cond := [Cond.code yX4_searchDay cX4_searchDay 6 none]
noncomputable def wsX4_findPlan : List Cond := Cond.code yX4_findPlan cX4_findPlan 4 none :: ((wsX4_findPlan_r1 ++ (wsX4_findPlan_r2 ++ (wsX4_findPlan_r3 ++ wsX4_findPlan_r4))) ++ wsX10 ++ wsX40 ++ wsX00 ++ wsX20 ++ wsX30)
noncomputable def wsX4_seatOf : List Cond := Cond.code yX4_seatOf cX4_seatOf 3 (some .int) :: (([Cond.fieldLink RX4 61 "QuietStairs$Planner" "count" "I", Cond.fieldLink RX4 9 "QuietStairs$Planner" "numbers" "[I", Cond.fieldLink RX4 27 "QuietStairs$Planner" "bestSeats" "[I"] : List Cond) ++ wsX40)
noncomputable def wsX5_init : List Cond := Cond.code yX5_init cX5_init 1 none :: (([Cond.methodLink RX5 3 objectInit, Cond.instanceMethod objectInit, Cond.code objectInit ⟨#[0xb1]⟩ 1 none, Cond.arrayClass .int, Cond.fieldLink RX5 9 "QuietStairs$Table" "musts" "[I", Cond.fieldLink RX5 15 "QuietStairs$Table" "hourBits" "[I"] : List Cond) ++ wsX50)
noncomputable def wsX6_hourBits : List Cond := Cond.code yX6_hourBits cX6_hourBits 1 (some .int) :: (([Cond.fieldLink RX6 7 "QuietStairs$Term" "last" "I", Cond.fieldLink RX6 13 "QuietStairs$Term" "first" "I"] : List Cond) ++ wsX60)
noncomputable def wsX5_allowedHours : List Cond := Cond.code yX5_allowedHours cX5_allowedHours 6 (some .int) :: (([Cond.fieldLink RX5 22 "QuietStairs$Case" "terms" "[LQuietStairs$Term;", Cond.fieldLink RX5 28 "QuietStairs$Term" "side" "I", Cond.fieldLink RX5 33 "QuietStairs$Term" "must" "Z", Cond.fieldLink RX5 44 "QuietStairs$Term" "act" "I", Cond.methodLink RX5 41 yX6_hourBits, Cond.instanceMethod yX6_hourBits, Cond.selects RX6 yX6_hourBits yX6_hourBits, Cond.initialized RX6, Cond.code yX6_hourBits cX6_hourBits 1 (some .int), Cond.fieldLink RX6 7 "QuietStairs$Term" "last" "I", Cond.fieldLink RX6 13 "QuietStairs$Term" "first" "I"] : List Cond) ++ wsX00 ++ wsX60)
noncomputable def wsX5_read : List Cond := Cond.code yX5_read cX5_read 6 none :: (([Cond.fieldLink RX5 18 "QuietStairs$Table" "count" "I", Cond.fieldLink RX5 22 "QuietStairs$Case" "terms" "[LQuietStairs$Term;", Cond.fieldLink RX5 28 "QuietStairs$Term" "side" "I", Cond.fieldLink RX5 33 "QuietStairs$Term" "must" "Z", Cond.fieldLink RX5 9 "QuietStairs$Table" "musts" "[I", Cond.fieldLink RX5 15 "QuietStairs$Table" "hourBits" "[I", Cond.methodLink RX5 37 yX5_allowedHours, Cond.static yX5_allowedHours, Cond.initialized RX5, Cond.code yX5_allowedHours cX5_allowedHours 6 (some .int), Cond.fieldLink RX5 44 "QuietStairs$Term" "act" "I", Cond.methodLink RX5 41 yX6_hourBits, Cond.instanceMethod yX6_hourBits, Cond.selects RX6 yX6_hourBits yX6_hourBits, Cond.initialized RX6, Cond.code yX6_hourBits cX6_hourBits 1 (some .int), Cond.fieldLink RX6 7 "QuietStairs$Term" "last" "I", Cond.fieldLink RX6 13 "QuietStairs$Term" "first" "I"] : List Cond) ++ wsX50 ++ wsX00 ++ wsX60)
noncomputable def wsJ6_bitCount_0f7a4 : List Cond := Cond.code yJ6_bitCount_0f7a4 cJ6_bitCount_0f7a4 1 (some .int) :: (([Cond.constant RJ6 265 (1431655765), Cond.constant RJ6 266 (858993459), Cond.constant RJ6 267 (252645135)] : List Cond))
noncomputable def wsX5_stands : List Cond := Cond.code yX5_stands cX5_stands 4 (some .boolean) :: (([Cond.fieldLink RX5 18 "QuietStairs$Table" "count" "I", Cond.fieldLink RX5 15 "QuietStairs$Table" "hourBits" "[I", Cond.static yX7_hasBit, Cond.initialized RX7, Cond.code yX7_hasBit cX7_hasBit 2 (some .boolean), Cond.methodLink RX5 51 yJ6_bitCount_0f7a4, Cond.static yJ6_bitCount_0f7a4, Cond.initialized RJ6, Cond.code yJ6_bitCount_0f7a4 cJ6_bitCount_0f7a4 1 (some .int), Cond.constant RJ6 265 (1431655765), Cond.constant RJ6 266 (858993459), Cond.constant RJ6 267 (252645135)] : List Cond) ++ wsX50)
noncomputable def wsX5_pinLeastHour : List Cond := Cond.code yX5_pinLeastHour cX5_pinLeastHour 4 (some .int) :: (([Cond.fieldLink RX5 15 "QuietStairs$Table" "hourBits" "[I", Cond.static yX7_hasBit, Cond.initialized RX7, Cond.code yX7_hasBit cX7_hasBit 2 (some .boolean), Cond.methodLink RX5 60 yX5_stands, Cond.instanceMethod yX5_stands, Cond.selects RX5 yX5_stands yX5_stands, Cond.initialized RX5, Cond.code yX5_stands cX5_stands 4 (some .boolean), Cond.fieldLink RX5 18 "QuietStairs$Table" "count" "I", Cond.methodLink RX5 51 yJ6_bitCount_0f7a4, Cond.static yJ6_bitCount_0f7a4, Cond.initialized RJ6, Cond.code yJ6_bitCount_0f7a4 cJ6_bitCount_0f7a4 1 (some .int), Cond.constant RJ6 265 (1431655765), Cond.constant RJ6 266 (858993459), Cond.constant RJ6 267 (252645135)] : List Cond) ++ wsX50)
noncomputable def wsX5_hourOf : List Cond := Cond.code yX5_hourOf cX5_hourOf 4 (some .int) :: (([Cond.fieldLink RX5 18 "QuietStairs$Table" "count" "I", Cond.fieldLink RX5 9 "QuietStairs$Table" "musts" "[I", Cond.methodLink RX5 57 yX5_pinLeastHour, Cond.instanceMethod yX5_pinLeastHour, Cond.selects RX5 yX5_pinLeastHour yX5_pinLeastHour, Cond.initialized RX5, Cond.code yX5_pinLeastHour cX5_pinLeastHour 4 (some .int), Cond.fieldLink RX5 15 "QuietStairs$Table" "hourBits" "[I", Cond.static yX7_hasBit, Cond.initialized RX7, Cond.code yX7_hasBit cX7_hasBit 2 (some .boolean), Cond.methodLink RX5 60 yX5_stands, Cond.instanceMethod yX5_stands, Cond.selects RX5 yX5_stands yX5_stands, Cond.code yX5_stands cX5_stands 4 (some .boolean), Cond.methodLink RX5 51 yJ6_bitCount_0f7a4, Cond.static yJ6_bitCount_0f7a4, Cond.initialized RJ6, Cond.code yJ6_bitCount_0f7a4 cJ6_bitCount_0f7a4 1 (some .int), Cond.constant RJ6 265 (1431655765), Cond.constant RJ6 266 (858993459), Cond.constant RJ6 267 (252645135)] : List Cond) ++ wsX50)
noncomputable def wsX7_init_r1 : List Cond := [Cond.methodLink RX7 3 objectInit, Cond.instanceMethod objectInit, Cond.code objectInit ⟨#[0xb1]⟩ 1 none, Cond.classLink RX7 9 RX1, Cond.instantiable RX1 7, Cond.initialized RX1, Cond.fieldLink RX7 12 "QuietStairs" "now" "LQuietStairs$House;", Cond.classLink RX7 16 RX4, Cond.instantiable RX4 11, Cond.initialized RX4, Cond.fieldLink RX7 19 "QuietStairs" "planner" "LQuietStairs$Planner;", Cond.classLink RX7 23 RX5, Cond.instantiable RX5 3, Cond.initialized RX5, Cond.fieldLink RX7 26 "QuietStairs" "table" "LQuietStairs$Table;", Cond.fieldLink RX7 30 "QuietStairs" "kept" "LQuietStairs$House;", Cond.fieldLink RX7 33 "QuietStairs" "roomCount" "I", Cond.methodLink RX7 11 yX1_init, Cond.instanceMethod yX1_init, Cond.code yX1_init cX1_init 2 none, Cond.methodLink RX1 3 objectInit, Cond.classLink RX1 9 RX3, Cond.fieldLink RX1 11 "QuietStairs$House" "parties" "[LQuietStairs$Party;", Cond.classLink RX1 17 RX2]
noncomputable def wsX7_init_r2 : List Cond := [Cond.fieldLink RX1 19 "QuietStairs$House" "mediators" "[LQuietStairs$Mediator;", Cond.classLink RX1 23 RX0, Cond.fieldLink RX1 25 "QuietStairs$House" "cases" "[LQuietStairs$Case;", Cond.instantiable RX3 2, Cond.initialized RX3, Cond.instantiable RX2 3, Cond.initialized RX2, Cond.instantiable RX0 11, Cond.initialized RX0, Cond.instanceMethod yX3_init, Cond.code yX3_init cX3_init 1 none, Cond.methodLink RX3 1 objectInit, Cond.instanceMethod yX2_init, Cond.code yX2_init cX2_init 1 none, Cond.methodLink RX2 1 objectInit, Cond.methodLink RX1 31 yX0_init, Cond.instanceMethod yX0_init, Cond.code yX0_init cX0_init 2 none, Cond.methodLink RX0 3 objectInit, Cond.arrayClass .int, Cond.fieldLink RX0 9 "QuietStairs$Case" "parties" "[I", Cond.fieldLink RX0 15 "QuietStairs$Case" "box" "[I", Cond.classLink RX0 18 "[[I", Cond.fieldLink RX0 20 "QuietStairs$Case" "offers" "[[I"]
noncomputable def wsX7_init_r3 : List Cond := [Cond.fieldLink RX0 23 "QuietStairs$Case" "logs" "[[I", Cond.classLink RX0 26 RX6, Cond.fieldLink RX0 28 "QuietStairs$Case" "terms" "[LQuietStairs$Term;", Cond.instantiable RX6 5, Cond.initialized RX6, Cond.instanceMethod yX6_init, Cond.code yX6_init cX6_init 1 none, Cond.methodLink RX6 1 objectInit, Cond.instanceMethod yX4_init, Cond.code yX4_init cX4_init 1 none, Cond.methodLink RX4 3 objectInit, Cond.fieldLink RX4 9 "QuietStairs$Planner" "numbers" "[I", Cond.fieldLink RX4 15 "QuietStairs$Planner" "weights" "[I", Cond.fieldLink RX4 18 "QuietStairs$Planner" "pairBits" "[I", Cond.fieldLink RX4 21 "QuietStairs$Planner" "heaviestFirst" "[I", Cond.fieldLink RX4 24 "QuietStairs$Planner" "seats" "[I", Cond.fieldLink RX4 27 "QuietStairs$Planner" "bestSeats" "[I", Cond.fieldLink RX4 30 "QuietStairs$Planner" "busyBits" "[I", Cond.fieldLink RX4 33 "QuietStairs$Planner" "sittings" "[I", Cond.instanceMethod yX5_init, Cond.code yX5_init cX5_init 1 none, Cond.methodLink RX5 3 objectInit, Cond.fieldLink RX5 9 "QuietStairs$Table" "musts" "[I", Cond.fieldLink RX5 15 "QuietStairs$Table" "hourBits" "[I"]
noncomputable def wsX7_init : List Cond := Cond.code yX7_init cX7_init 1 none :: ((wsX7_init_r1 ++ (wsX7_init_r2 ++ wsX7_init_r3)) ++ wsX10 ++ wsX70 ++ wsX40 ++ wsX50 ++ wsX30 ++ wsX20 ++ wsX00 ++ wsX60)
noncomputable def wsX7_isWithin : List Cond := Cond.code yX7_isWithin cX7_isWithin 3 (some .boolean) :: (([] : List Cond))
noncomputable def wsX7_party : List Cond := Cond.code yX7_party cX7_party 4 (some .int) :: (([Cond.fieldLink RX7 12 "QuietStairs" "now" "LQuietStairs$House;", Cond.fieldLink RX7 41 "QuietStairs$House" "partyCount" "I", Cond.fieldLink RX7 44 "QuietStairs$House" "parties" "[LQuietStairs$Party;", Cond.fieldLink RX7 48 "QuietStairs$Party" "floor" "I", Cond.fieldLink RX7 53 "QuietStairs$Party" "tongue" "I", Cond.methodLink RX7 37 yX7_isWithin, Cond.static yX7_isWithin, Cond.initialized RX7, Cond.code yX7_isWithin cX7_isWithin 3 (some .boolean)] : List Cond) ++ wsX70 ++ wsX10 ++ wsX30)
noncomputable def wsX7_mediator : List Cond := Cond.code yX7_mediator cX7_mediator 4 (some .int) :: (([Cond.fieldLink RX7 12 "QuietStairs" "now" "LQuietStairs$House;", Cond.fieldLink RX7 56 "QuietStairs$House" "mediatorCount" "I", Cond.fieldLink RX7 59 "QuietStairs$House" "mediators" "[LQuietStairs$Mediator;", Cond.fieldLink RX7 63 "QuietStairs$Mediator" "floor" "I", Cond.fieldLink RX7 66 "QuietStairs$Mediator" "tongues" "I", Cond.fieldLink RX7 69 "QuietStairs$Mediator" "kinBits" "I", Cond.methodLink RX7 37 yX7_isWithin, Cond.static yX7_isWithin, Cond.initialized RX7, Cond.code yX7_isWithin cX7_isWithin 3 (some .boolean)] : List Cond) ++ wsX70 ++ wsX10 ++ wsX20)
noncomputable def wsX7_isMediator : List Cond := Cond.code yX7_isMediator cX7_isMediator 2 (some .boolean) :: (([Cond.fieldLink RX7 12 "QuietStairs" "now" "LQuietStairs$House;", Cond.fieldLink RX7 56 "QuietStairs$House" "mediatorCount" "I", Cond.methodLink RX7 37 yX7_isWithin, Cond.static yX7_isWithin, Cond.initialized RX7, Cond.code yX7_isWithin cX7_isWithin 3 (some .boolean)] : List Cond) ++ wsX70 ++ wsX10)
noncomputable def wsX7_isParty : List Cond := Cond.code yX7_isParty cX7_isParty 2 (some .boolean) :: (([Cond.fieldLink RX7 12 "QuietStairs" "now" "LQuietStairs$House;", Cond.fieldLink RX7 41 "QuietStairs$House" "partyCount" "I", Cond.methodLink RX7 37 yX7_isWithin, Cond.static yX7_isWithin, Cond.initialized RX7, Cond.code yX7_isWithin cX7_isWithin 3 (some .boolean)] : List Cond) ++ wsX70 ++ wsX10)
noncomputable def wsX7_kin : List Cond := Cond.code yX7_kin cX7_kin 5 (some .int) :: (([Cond.fieldLink RX7 12 "QuietStairs" "now" "LQuietStairs$House;", Cond.fieldLink RX7 59 "QuietStairs$House" "mediators" "[LQuietStairs$Mediator;", Cond.fieldLink RX7 69 "QuietStairs$Mediator" "kinBits" "I", Cond.methodLink RX7 72 yX7_isMediator, Cond.instanceMethod yX7_isMediator, Cond.selects RX7 yX7_isMediator yX7_isMediator, Cond.initialized RX7, Cond.code yX7_isMediator cX7_isMediator 2 (some .boolean), Cond.fieldLink RX7 56 "QuietStairs$House" "mediatorCount" "I", Cond.methodLink RX7 37 yX7_isWithin, Cond.static yX7_isWithin, Cond.code yX7_isWithin cX7_isWithin 3 (some .boolean), Cond.methodLink RX7 76 yX7_isParty, Cond.instanceMethod yX7_isParty, Cond.selects RX7 yX7_isParty yX7_isParty, Cond.code yX7_isParty cX7_isParty 2 (some .boolean), Cond.fieldLink RX7 41 "QuietStairs$House" "partyCount" "I", Cond.methodLink RX7 79 yX7_hasBit, Cond.static yX7_hasBit, Cond.code yX7_hasBit cX7_hasBit 2 (some .boolean)] : List Cond) ++ wsX70 ++ wsX10 ++ wsX20)
noncomputable def wsX7_open_r1 : List Cond := [Cond.fieldLink RX7 12 "QuietStairs" "now" "LQuietStairs$House;", Cond.fieldLink RX7 83 "QuietStairs$House" "caseCount" "I", Cond.fieldLink RX7 86 "QuietStairs$House" "cases" "[LQuietStairs$Case;", Cond.methodLink RX7 76 yX7_isParty, Cond.instanceMethod yX7_isParty, Cond.selects RX7 yX7_isParty yX7_isParty, Cond.initialized RX7, Cond.code yX7_isParty cX7_isParty 2 (some .boolean), Cond.fieldLink RX7 41 "QuietStairs$House" "partyCount" "I", Cond.methodLink RX7 37 yX7_isWithin, Cond.static yX7_isWithin, Cond.code yX7_isWithin cX7_isWithin 3 (some .boolean), Cond.methodLink RX7 90 yX0_begin, Cond.instanceMethod yX0_begin, Cond.selects RX0 yX0_begin yX0_begin, Cond.initialized RX0, Cond.code yX0_begin cX0_begin 5 none, Cond.fieldLink RX0 33 "QuietStairs$Case" "state" "I", Cond.fieldLink RX0 37 "QuietStairs$Case" "sum" "I", Cond.fieldLink RX0 40 "QuietStairs$Case" "roundsOver" "I", Cond.fieldLink RX0 43 "QuietStairs$Case" "weight" "I", Cond.fieldLink RX0 46 "QuietStairs$Case" "markedBits" "I", Cond.fieldLink RX0 49 "QuietStairs$Case" "termCount" "I", Cond.fieldLink RX0 9 "QuietStairs$Case" "parties" "[I"]
noncomputable def wsX7_open_r2 : List Cond := [Cond.fieldLink RX0 15 "QuietStairs$Case" "box" "[I", Cond.fieldLink RX0 23 "QuietStairs$Case" "logs" "[[I"]
noncomputable def wsX7_open : List Cond := Cond.code yX7_open cX7_open 3 (some .int) :: ((wsX7_open_r1 ++ wsX7_open_r2) ++ wsX70 ++ wsX10 ++ wsX00)
noncomputable def wsX7_isCase : List Cond := Cond.code yX7_isCase cX7_isCase 2 (some .boolean) :: (([Cond.fieldLink RX7 12 "QuietStairs" "now" "LQuietStairs$House;", Cond.fieldLink RX7 83 "QuietStairs$House" "caseCount" "I", Cond.methodLink RX7 37 yX7_isWithin, Cond.static yX7_isWithin, Cond.initialized RX7, Cond.code yX7_isWithin cX7_isWithin 3 (some .boolean)] : List Cond) ++ wsX70 ++ wsX10)
noncomputable def wsX7_close : List Cond := Cond.code yX7_close cX7_close 2 (some .int) :: (([Cond.fieldLink RX7 12 "QuietStairs" "now" "LQuietStairs$House;", Cond.fieldLink RX7 86 "QuietStairs$House" "cases" "[LQuietStairs$Case;", Cond.fieldLink RX7 99 "QuietStairs$Case" "state" "I", Cond.methodLink RX7 96 yX7_isCase, Cond.instanceMethod yX7_isCase, Cond.selects RX7 yX7_isCase yX7_isCase, Cond.initialized RX7, Cond.code yX7_isCase cX7_isCase 2 (some .boolean), Cond.fieldLink RX7 83 "QuietStairs$House" "caseCount" "I", Cond.methodLink RX7 37 yX7_isWithin, Cond.static yX7_isWithin, Cond.code yX7_isWithin cX7_isWithin 3 (some .boolean)] : List Cond) ++ wsX70 ++ wsX10 ++ wsX00)
noncomputable def wsX7_weight : List Cond := Cond.code yX7_weight cX7_weight 4 (some .int) :: (([Cond.fieldLink RX7 12 "QuietStairs" "now" "LQuietStairs$House;", Cond.fieldLink RX7 86 "QuietStairs$House" "cases" "[LQuietStairs$Case;", Cond.fieldLink RX7 102 "QuietStairs$Case" "weight" "I", Cond.methodLink RX7 96 yX7_isCase, Cond.instanceMethod yX7_isCase, Cond.selects RX7 yX7_isCase yX7_isCase, Cond.initialized RX7, Cond.code yX7_isCase cX7_isCase 2 (some .boolean), Cond.fieldLink RX7 83 "QuietStairs$House" "caseCount" "I", Cond.methodLink RX7 37 yX7_isWithin, Cond.static yX7_isWithin, Cond.code yX7_isWithin cX7_isWithin 3 (some .boolean)] : List Cond) ++ wsX70 ++ wsX10 ++ wsX00)
noncomputable def wsX7_mark : List Cond := Cond.code yX7_mark cX7_mark 3 (some .int) :: (([Cond.fieldLink RX7 12 "QuietStairs" "now" "LQuietStairs$House;", Cond.fieldLink RX7 86 "QuietStairs$House" "cases" "[LQuietStairs$Case;", Cond.fieldLink RX7 105 "QuietStairs$Case" "markedBits" "I", Cond.fieldLink RX7 108 "QuietStairs$House" "markCount" "I", Cond.methodLink RX7 96 yX7_isCase, Cond.instanceMethod yX7_isCase, Cond.selects RX7 yX7_isCase yX7_isCase, Cond.initialized RX7, Cond.code yX7_isCase cX7_isCase 2 (some .boolean), Cond.fieldLink RX7 83 "QuietStairs$House" "caseCount" "I", Cond.methodLink RX7 37 yX7_isWithin, Cond.static yX7_isWithin, Cond.code yX7_isWithin cX7_isWithin 3 (some .boolean), Cond.methodLink RX7 79 yX7_hasBit, Cond.static yX7_hasBit, Cond.code yX7_hasBit cX7_hasBit 2 (some .boolean)] : List Cond) ++ wsX70 ++ wsX10 ++ wsX00)
noncomputable def wsX7_of_r1 : List Cond := [Cond.fieldLink RX7 12 "QuietStairs" "now" "LQuietStairs$House;", Cond.fieldLink RX7 86 "QuietStairs$House" "cases" "[LQuietStairs$Case;", Cond.fieldLink RX7 111 "QuietStairs$Case" "parties" "[I", Cond.fieldLink RX7 99 "QuietStairs$Case" "state" "I", Cond.fieldLink RX7 114 "QuietStairs$Case" "sum" "I", Cond.fieldLink RX7 117 "QuietStairs$Case" "roundsOver" "I", Cond.fieldLink RX7 102 "QuietStairs$Case" "weight" "I", Cond.methodLink RX7 96 yX7_isCase, Cond.instanceMethod yX7_isCase, Cond.selects RX7 yX7_isCase yX7_isCase, Cond.initialized RX7, Cond.code yX7_isCase cX7_isCase 2 (some .boolean), Cond.fieldLink RX7 83 "QuietStairs$House" "caseCount" "I", Cond.methodLink RX7 37 yX7_isWithin, Cond.static yX7_isWithin, Cond.code yX7_isWithin cX7_isWithin 3 (some .boolean), Cond.methodLink RX7 120 yX1_headOfQuarrel, Cond.instanceMethod yX1_headOfQuarrel, Cond.selects RX1 yX1_headOfQuarrel yX1_headOfQuarrel, Cond.initialized RX1, Cond.code yX1_headOfQuarrel cX1_headOfQuarrel 4 (some .int), Cond.methodLink RX1 72 yX1_quarrelBits, Cond.instanceMethod yX1_quarrelBits, Cond.selects RX1 yX1_quarrelBits yX1_quarrelBits]
noncomputable def wsX7_of_r2 : List Cond := [Cond.code yX1_quarrelBits cX1_quarrelBits 5 (some .int), Cond.fieldLink RX1 66 "QuietStairs$House" "caseCount" "I", Cond.fieldLink RX1 25 "QuietStairs$House" "cases" "[LQuietStairs$Case;", Cond.fieldLink RX1 69 "QuietStairs$Case" "markedBits" "I", Cond.static yX7_hasBit, Cond.code yX7_hasBit cX7_hasBit 2 (some .boolean), Cond.methodLink RX7 124 yX1_quarrelBits, Cond.methodLink RX7 127 yJ6_bitCount_0f7a4, Cond.static yJ6_bitCount_0f7a4, Cond.initialized RJ6, Cond.code yJ6_bitCount_0f7a4 cJ6_bitCount_0f7a4 1 (some .int), Cond.constant RJ6 265 (1431655765), Cond.constant RJ6 266 (858993459), Cond.constant RJ6 267 (252645135)]
noncomputable def wsX7_of : List Cond := Cond.code yX7_of cX7_of 4 (some .int) :: ((wsX7_of_r1 ++ wsX7_of_r2) ++ wsX70 ++ wsX10 ++ wsX00)
noncomputable def wsX7_isSide : List Cond := Cond.code yX7_isSide cX7_isSide 1 (some .boolean) :: (([Cond.methodLink RX7 37 yX7_isWithin, Cond.static yX7_isWithin, Cond.initialized RX7, Cond.code yX7_isWithin cX7_isWithin 3 (some .boolean)] : List Cond))
noncomputable def wsX7_offer_r1 : List Cond := [Cond.fieldLink RX7 12 "QuietStairs" "now" "LQuietStairs$House;", Cond.fieldLink RX7 86 "QuietStairs$House" "cases" "[LQuietStairs$Case;", Cond.fieldLink RX7 99 "QuietStairs$Case" "state" "I", Cond.fieldLink RX7 135 "QuietStairs$Case" "box" "[I", Cond.fieldLink RX7 117 "QuietStairs$Case" "roundsOver" "I", Cond.methodLink RX7 96 yX7_isCase, Cond.instanceMethod yX7_isCase, Cond.selects RX7 yX7_isCase yX7_isCase, Cond.initialized RX7, Cond.code yX7_isCase cX7_isCase 2 (some .boolean), Cond.fieldLink RX7 83 "QuietStairs$House" "caseCount" "I", Cond.methodLink RX7 37 yX7_isWithin, Cond.static yX7_isWithin, Cond.code yX7_isWithin cX7_isWithin 3 (some .boolean), Cond.methodLink RX7 132 yX7_isSide, Cond.static yX7_isSide, Cond.code yX7_isSide cX7_isSide 1 (some .boolean), Cond.methodLink RX7 138 yX0_endRound, Cond.instanceMethod yX0_endRound, Cond.selects RX0 yX0_endRound yX0_endRound, Cond.initialized RX0, Cond.code yX0_endRound cX0_endRound 3 (some .boolean), Cond.fieldLink RX0 15 "QuietStairs$Case" "box" "[I", Cond.fieldLink RX0 40 "QuietStairs$Case" "roundsOver" "I"]
noncomputable def wsX7_offer_r2 : List Cond := [Cond.fieldLink RX0 20 "QuietStairs$Case" "offers" "[[I", Cond.fieldLink RX0 33 "QuietStairs$Case" "state" "I", Cond.fieldLink RX0 37 "QuietStairs$Case" "sum" "I"]
noncomputable def wsX7_offer : List Cond := Cond.code yX7_offer cX7_offer 5 (some .int) :: ((wsX7_offer_r1 ++ wsX7_offer_r2) ++ wsX70 ++ wsX10 ++ wsX00)
noncomputable def wsX7_put : List Cond := Cond.code yX7_put cX7_put 3 (some .int) :: (([Cond.fieldLink RX7 12 "QuietStairs" "now" "LQuietStairs$House;", Cond.fieldLink RX7 86 "QuietStairs$House" "cases" "[LQuietStairs$Case;", Cond.fieldLink RX7 135 "QuietStairs$Case" "box" "[I", Cond.methodLink RX7 96 yX7_isCase, Cond.instanceMethod yX7_isCase, Cond.selects RX7 yX7_isCase yX7_isCase, Cond.initialized RX7, Cond.code yX7_isCase cX7_isCase 2 (some .boolean), Cond.fieldLink RX7 83 "QuietStairs$House" "caseCount" "I", Cond.methodLink RX7 37 yX7_isWithin, Cond.static yX7_isWithin, Cond.code yX7_isWithin cX7_isWithin 3 (some .boolean), Cond.methodLink RX7 132 yX7_isSide, Cond.static yX7_isSide, Cond.code yX7_isSide cX7_isSide 1 (some .boolean)] : List Cond) ++ wsX70 ++ wsX10 ++ wsX00)
noncomputable def wsX7_learns_r1 : List Cond := [Cond.fieldLink RX7 12 "QuietStairs" "now" "LQuietStairs$House;", Cond.fieldLink RX7 86 "QuietStairs$House" "cases" "[LQuietStairs$Case;", Cond.fieldLink RX7 117 "QuietStairs$Case" "roundsOver" "I", Cond.methodLink RX7 96 yX7_isCase, Cond.instanceMethod yX7_isCase, Cond.selects RX7 yX7_isCase yX7_isCase, Cond.initialized RX7, Cond.code yX7_isCase cX7_isCase 2 (some .boolean), Cond.fieldLink RX7 83 "QuietStairs$House" "caseCount" "I", Cond.methodLink RX7 37 yX7_isWithin, Cond.static yX7_isWithin, Cond.code yX7_isWithin cX7_isWithin 3 (some .boolean), Cond.methodLink RX7 132 yX7_isSide, Cond.static yX7_isSide, Cond.code yX7_isSide cX7_isSide 1 (some .boolean), Cond.methodLink RX7 142 yX0_greatestOfOther, Cond.instanceMethod yX0_greatestOfOther, Cond.selects RX0 yX0_greatestOfOther yX0_greatestOfOther, Cond.initialized RX0, Cond.code yX0_greatestOfOther cX0_greatestOfOther 5 (some .int), Cond.fieldLink RX0 20 "QuietStairs$Case" "offers" "[[I", Cond.fieldLink RX0 37 "QuietStairs$Case" "sum" "I", Cond.methodLink RX0 62 Lib.Math.min.name, Cond.static Lib.Math.min.name]
noncomputable def wsX7_learns_r2 : List Cond := [Cond.initialized "java/lang/Math", Cond.code Lib.Math.min.name Lib.Math.min.code 2 (some .int), Cond.methodLink RX0 52 yX0_hasMet, Cond.instanceMethod yX0_hasMet, Cond.selects RX0 yX0_hasMet yX0_hasMet, Cond.code yX0_hasMet cX0_hasMet 2 (some .boolean), Cond.fieldLink RX0 33 "QuietStairs$Case" "state" "I", Cond.fieldLink RX0 40 "QuietStairs$Case" "roundsOver" "I", Cond.methodLink RX7 146 yX0_leastOfOther, Cond.instanceMethod yX0_leastOfOther, Cond.selects RX0 yX0_leastOfOther yX0_leastOfOther, Cond.code yX0_leastOfOther cX0_leastOfOther 5 (some .int), Cond.methodLink RX0 56 Lib.Math.max.name, Cond.static Lib.Math.max.name, Cond.code Lib.Math.max.name Lib.Math.max.code 2 (some .int)]
noncomputable def wsX7_learns : List Cond := Cond.code yX7_learns cX7_learns 6 (some .int) :: ((wsX7_learns_r1 ++ wsX7_learns_r2) ++ wsX70 ++ wsX10 ++ wsX00)
noncomputable def wsX7_maySit_r1 : List Cond := [Cond.fieldLink RX7 12 "QuietStairs" "now" "LQuietStairs$House;", Cond.fieldLink RX7 86 "QuietStairs$House" "cases" "[LQuietStairs$Case;", Cond.methodLink RX7 37 yX7_isWithin, Cond.static yX7_isWithin, Cond.initialized RX7, Cond.code yX7_isWithin cX7_isWithin 3 (some .boolean), Cond.methodLink RX7 149 yX1_hasPair, Cond.instanceMethod yX1_hasPair, Cond.selects RX1 yX1_hasPair yX1_hasPair, Cond.initialized RX1, Cond.code yX1_hasPair cX1_hasPair 2 (some .boolean), Cond.fieldLink RX1 36 "QuietStairs$House" "mediatorCount" "I", Cond.methodLink RX7 96 yX7_isCase, Cond.instanceMethod yX7_isCase, Cond.selects RX7 yX7_isCase yX7_isCase, Cond.code yX7_isCase cX7_isCase 2 (some .boolean), Cond.fieldLink RX7 83 "QuietStairs$House" "caseCount" "I", Cond.methodLink RX7 152 yX1_pairFits, Cond.instanceMethod yX1_pairFits, Cond.selects RX1 yX1_pairFits yX1_pairFits, Cond.code yX1_pairFits cX1_pairFits 8 (some .boolean), Cond.fieldLink RX1 19 "QuietStairs$House" "mediators" "[LQuietStairs$Mediator;", Cond.fieldLink RX1 43 "QuietStairs$Mediator" "tongues" "I", Cond.fieldLink RX1 46 "QuietStairs$Case" "parties" "[I"]
noncomputable def wsX7_maySit_r2 : List Cond := [Cond.fieldLink RX1 11 "QuietStairs$House" "parties" "[LQuietStairs$Party;", Cond.fieldLink RX1 48 "QuietStairs$Party" "tongue" "I", Cond.static yX7_hasBit, Cond.code yX7_hasBit cX7_hasBit 2 (some .boolean), Cond.methodLink RX1 55 yX1_isNear, Cond.instanceMethod yX1_isNear, Cond.selects RX1 yX1_isNear yX1_isNear, Cond.code yX1_isNear cX1_isNear 3 (some .boolean), Cond.fieldLink RX1 59 "QuietStairs$Mediator" "kinBits" "I", Cond.fieldLink RX1 62 "QuietStairs$Mediator" "floor" "I", Cond.fieldLink RX1 65 "QuietStairs$Party" "floor" "I"]
noncomputable def wsX7_maySit : List Cond := Cond.code yX7_maySit cX7_maySit 3 (some .int) :: ((wsX7_maySit_r1 ++ wsX7_maySit_r2) ++ wsX70 ++ wsX10 ++ wsX20 ++ wsX00 ++ wsX30)
noncomputable def wsX7_rooms : List Cond := Cond.code yX7_rooms cX7_rooms 3 (some .int) :: (([Cond.fieldLink RX7 33 "QuietStairs" "roomCount" "I", Cond.methodLink RX7 37 yX7_isWithin, Cond.static yX7_isWithin, Cond.initialized RX7, Cond.code yX7_isWithin cX7_isWithin 3 (some .boolean)] : List Cond) ++ wsX70)
noncomputable def wsX7_plan_r1 : List Cond := [Cond.fieldLink RX7 12 "QuietStairs" "now" "LQuietStairs$House;", Cond.fieldLink RX7 86 "QuietStairs$House" "cases" "[LQuietStairs$Case;", Cond.fieldLink RX7 99 "QuietStairs$Case" "state" "I", Cond.fieldLink RX7 19 "QuietStairs" "planner" "LQuietStairs$Planner;", Cond.fieldLink RX7 33 "QuietStairs" "roomCount" "I", Cond.methodLink RX7 96 yX7_isCase, Cond.instanceMethod yX7_isCase, Cond.selects RX7 yX7_isCase yX7_isCase, Cond.initialized RX7, Cond.code yX7_isCase cX7_isCase 2 (some .boolean), Cond.fieldLink RX7 83 "QuietStairs$House" "caseCount" "I", Cond.methodLink RX7 37 yX7_isWithin, Cond.static yX7_isWithin, Cond.code yX7_isWithin cX7_isWithin 3 (some .boolean), Cond.methodLink RX7 156 yX4_findPlan, Cond.instanceMethod yX4_findPlan, Cond.selects RX4 yX4_findPlan yX4_findPlan, Cond.initialized RX4, Cond.code yX4_findPlan cX4_findPlan 4 none, Cond.fieldLink RX4 36 "QuietStairs$House" "mediatorCount" "I", Cond.methodLink RX4 42 Lib.Math.min.name, Cond.static Lib.Math.min.name, Cond.initialized "java/lang/Math", Cond.code Lib.Math.min.name Lib.Math.min.code 2 (some .int)]
noncomputable def wsX7_plan_r2 : List Cond := [Cond.fieldLink RX4 48 "QuietStairs$Planner" "seatsADay" "I", Cond.fieldLink RX4 58 "QuietStairs$Planner" "leastWait" "I", Cond.fieldLink RX4 61 "QuietStairs$Planner" "count" "I", Cond.fieldLink RX4 15 "QuietStairs$Planner" "weights" "[I", Cond.fieldLink RX4 30 "QuietStairs$Planner" "busyBits" "[I", Cond.fieldLink RX4 33 "QuietStairs$Planner" "sittings" "[I", Cond.methodLink RX4 51 yX4_gather, Cond.instanceMethod yX4_gather, Cond.selects RX4 yX4_gather yX4_gather, Cond.code yX4_gather cX4_gather 4 none, Cond.fieldLink RX4 68 "QuietStairs$House" "caseCount" "I", Cond.fieldLink RX4 71 "QuietStairs$House" "cases" "[LQuietStairs$Case;", Cond.fieldLink RX4 75 "QuietStairs$Case" "state" "I", Cond.fieldLink RX4 9 "QuietStairs$Planner" "numbers" "[I", Cond.fieldLink RX4 80 "QuietStairs$Case" "weight" "I", Cond.fieldLink RX4 18 "QuietStairs$Planner" "pairBits" "[I", Cond.methodLink RX4 83 yX4_fittingPairs, Cond.static yX4_fittingPairs, Cond.code yX4_fittingPairs cX4_fittingPairs 4 (some .int), Cond.methodLink RX4 87 yX1_hasPair, Cond.instanceMethod yX1_hasPair, Cond.selects RX1 yX1_hasPair yX1_hasPair, Cond.initialized RX1, Cond.code yX1_hasPair cX1_hasPair 2 (some .boolean)]
noncomputable def wsX7_plan_r3 : List Cond := [Cond.fieldLink RX1 36 "QuietStairs$House" "mediatorCount" "I", Cond.methodLink RX4 91 yX1_pairFits, Cond.instanceMethod yX1_pairFits, Cond.selects RX1 yX1_pairFits yX1_pairFits, Cond.code yX1_pairFits cX1_pairFits 8 (some .boolean), Cond.fieldLink RX1 19 "QuietStairs$House" "mediators" "[LQuietStairs$Mediator;", Cond.fieldLink RX1 43 "QuietStairs$Mediator" "tongues" "I", Cond.fieldLink RX1 46 "QuietStairs$Case" "parties" "[I", Cond.fieldLink RX1 11 "QuietStairs$House" "parties" "[LQuietStairs$Party;", Cond.fieldLink RX1 48 "QuietStairs$Party" "tongue" "I", Cond.static yX7_hasBit, Cond.code yX7_hasBit cX7_hasBit 2 (some .boolean), Cond.methodLink RX1 55 yX1_isNear, Cond.instanceMethod yX1_isNear, Cond.selects RX1 yX1_isNear yX1_isNear, Cond.code yX1_isNear cX1_isNear 3 (some .boolean), Cond.fieldLink RX1 59 "QuietStairs$Mediator" "kinBits" "I", Cond.fieldLink RX1 62 "QuietStairs$Mediator" "floor" "I", Cond.fieldLink RX1 65 "QuietStairs$Party" "floor" "I", Cond.methodLink RX4 55 yX4_sortByWeight, Cond.instanceMethod yX4_sortByWeight, Cond.selects RX4 yX4_sortByWeight yX4_sortByWeight, Cond.code yX4_sortByWeight cX4_sortByWeight 3 none, Cond.fieldLink RX4 21 "QuietStairs$Planner" "heaviestFirst" "[I"]
noncomputable def wsX7_plan_r4 : List Cond := [Cond.methodLink RX4 64 yX4_search, Cond.instanceMethod yX4_search, Cond.selects RX4 yX4_search yX4_search, Cond.code yX4_search cX4_search 4 none, Cond.fieldLink RX4 24 "QuietStairs$Planner" "seats" "[I", Cond.fieldLink RX4 27 "QuietStairs$Planner" "bestSeats" "[I", Cond.methodLink RX4 99 arraycopyName, Cond.native arraycopyName, Cond.static arraycopyName, Cond.initialized "java/lang/System", Cond.methodLink RX4 95 yX4_leastBehind, Cond.instanceMethod yX4_leastBehind, Cond.selects RX4 yX4_leastBehind yX4_leastBehind, Cond.code yX4_leastBehind cX4_leastBehind 8 (some .int), Cond.methodLink RX4 105 yX4_searchDay, Cond.instanceMethod yX4_searchDay, Cond.selects RX4 yX4_searchDay yX4_searchDay, Cond.code yX4_searchDay cX4_searchDay 6 none, Cond.methodLink RX7 160 yX4_seatOf, Cond.instanceMethod yX4_seatOf, Cond.selects RX4 yX4_seatOf yX4_seatOf, Cond.code yX4_seatOf cX4_seatOf 3 (some .int)]
noncomputable def wsX7_plan : List Cond := Cond.code yX7_plan cX7_plan 2 (some .int) :: ((wsX7_plan_r1 ++ (wsX7_plan_r2 ++ (wsX7_plan_r3 ++ wsX7_plan_r4))) ++ wsX70 ++ wsX10 ++ wsX00 ++ wsX40 ++ wsX20 ++ wsX30)
noncomputable def wsX7_waits_r1 : List Cond := [Cond.fieldLink RX7 19 "QuietStairs" "planner" "LQuietStairs$Planner;", Cond.fieldLink RX7 12 "QuietStairs" "now" "LQuietStairs$House;", Cond.fieldLink RX7 33 "QuietStairs" "roomCount" "I", Cond.fieldLink RX7 163 "QuietStairs$Planner" "leastWait" "I", Cond.methodLink RX7 156 yX4_findPlan, Cond.instanceMethod yX4_findPlan, Cond.selects RX4 yX4_findPlan yX4_findPlan, Cond.initialized RX4, Cond.code yX4_findPlan cX4_findPlan 4 none, Cond.fieldLink RX4 36 "QuietStairs$House" "mediatorCount" "I", Cond.methodLink RX4 42 Lib.Math.min.name, Cond.static Lib.Math.min.name, Cond.initialized "java/lang/Math", Cond.code Lib.Math.min.name Lib.Math.min.code 2 (some .int), Cond.fieldLink RX4 48 "QuietStairs$Planner" "seatsADay" "I", Cond.fieldLink RX4 58 "QuietStairs$Planner" "leastWait" "I", Cond.fieldLink RX4 61 "QuietStairs$Planner" "count" "I", Cond.fieldLink RX4 15 "QuietStairs$Planner" "weights" "[I", Cond.fieldLink RX4 30 "QuietStairs$Planner" "busyBits" "[I", Cond.fieldLink RX4 33 "QuietStairs$Planner" "sittings" "[I", Cond.methodLink RX4 51 yX4_gather, Cond.instanceMethod yX4_gather, Cond.selects RX4 yX4_gather yX4_gather, Cond.code yX4_gather cX4_gather 4 none]
noncomputable def wsX7_waits_r2 : List Cond := [Cond.fieldLink RX4 68 "QuietStairs$House" "caseCount" "I", Cond.fieldLink RX4 71 "QuietStairs$House" "cases" "[LQuietStairs$Case;", Cond.fieldLink RX4 75 "QuietStairs$Case" "state" "I", Cond.fieldLink RX4 9 "QuietStairs$Planner" "numbers" "[I", Cond.fieldLink RX4 80 "QuietStairs$Case" "weight" "I", Cond.fieldLink RX4 18 "QuietStairs$Planner" "pairBits" "[I", Cond.methodLink RX4 83 yX4_fittingPairs, Cond.static yX4_fittingPairs, Cond.code yX4_fittingPairs cX4_fittingPairs 4 (some .int), Cond.methodLink RX4 87 yX1_hasPair, Cond.instanceMethod yX1_hasPair, Cond.selects RX1 yX1_hasPair yX1_hasPair, Cond.initialized RX1, Cond.code yX1_hasPair cX1_hasPair 2 (some .boolean), Cond.fieldLink RX1 36 "QuietStairs$House" "mediatorCount" "I", Cond.methodLink RX4 91 yX1_pairFits, Cond.instanceMethod yX1_pairFits, Cond.selects RX1 yX1_pairFits yX1_pairFits, Cond.code yX1_pairFits cX1_pairFits 8 (some .boolean), Cond.fieldLink RX1 19 "QuietStairs$House" "mediators" "[LQuietStairs$Mediator;", Cond.fieldLink RX1 43 "QuietStairs$Mediator" "tongues" "I", Cond.fieldLink RX1 46 "QuietStairs$Case" "parties" "[I", Cond.fieldLink RX1 11 "QuietStairs$House" "parties" "[LQuietStairs$Party;", Cond.fieldLink RX1 48 "QuietStairs$Party" "tongue" "I"]
noncomputable def wsX7_waits_r3 : List Cond := [Cond.static yX7_hasBit, Cond.initialized RX7, Cond.code yX7_hasBit cX7_hasBit 2 (some .boolean), Cond.methodLink RX1 55 yX1_isNear, Cond.instanceMethod yX1_isNear, Cond.selects RX1 yX1_isNear yX1_isNear, Cond.code yX1_isNear cX1_isNear 3 (some .boolean), Cond.fieldLink RX1 59 "QuietStairs$Mediator" "kinBits" "I", Cond.fieldLink RX1 62 "QuietStairs$Mediator" "floor" "I", Cond.fieldLink RX1 65 "QuietStairs$Party" "floor" "I", Cond.methodLink RX4 55 yX4_sortByWeight, Cond.instanceMethod yX4_sortByWeight, Cond.selects RX4 yX4_sortByWeight yX4_sortByWeight, Cond.code yX4_sortByWeight cX4_sortByWeight 3 none, Cond.fieldLink RX4 21 "QuietStairs$Planner" "heaviestFirst" "[I", Cond.methodLink RX4 64 yX4_search, Cond.instanceMethod yX4_search, Cond.selects RX4 yX4_search yX4_search, Cond.code yX4_search cX4_search 4 none, Cond.fieldLink RX4 24 "QuietStairs$Planner" "seats" "[I", Cond.fieldLink RX4 27 "QuietStairs$Planner" "bestSeats" "[I", Cond.methodLink RX4 99 arraycopyName, Cond.native arraycopyName, Cond.static arraycopyName]
noncomputable def wsX7_waits_r4 : List Cond := [Cond.initialized "java/lang/System", Cond.methodLink RX4 95 yX4_leastBehind, Cond.instanceMethod yX4_leastBehind, Cond.selects RX4 yX4_leastBehind yX4_leastBehind, Cond.code yX4_leastBehind cX4_leastBehind 8 (some .int), Cond.methodLink RX4 105 yX4_searchDay, Cond.instanceMethod yX4_searchDay, Cond.selects RX4 yX4_searchDay yX4_searchDay, Cond.code yX4_searchDay cX4_searchDay 6 none]
noncomputable def wsX7_waits : List Cond := Cond.code yX7_waits cX7_waits 1 (some .int) :: ((wsX7_waits_r1 ++ (wsX7_waits_r2 ++ (wsX7_waits_r3 ++ wsX7_waits_r4))) ++ wsX70 ++ wsX40 ++ wsX10 ++ wsX00 ++ wsX20 ++ wsX30)
noncomputable def wsX7_isHour : List Cond := Cond.code yX7_isHour cX7_isHour 1 (some .boolean) :: (([Cond.methodLink RX7 37 yX7_isWithin, Cond.static yX7_isWithin, Cond.initialized RX7, Cond.code yX7_isWithin cX7_isWithin 3 (some .boolean)] : List Cond))
noncomputable def wsX7_term_r1 : List Cond := [Cond.fieldLink RX7 12 "QuietStairs" "now" "LQuietStairs$House;", Cond.fieldLink RX7 86 "QuietStairs$House" "cases" "[LQuietStairs$Case;", Cond.fieldLink RX7 99 "QuietStairs$Case" "state" "I", Cond.fieldLink RX7 169 "QuietStairs$Case" "termCount" "I", Cond.fieldLink RX7 172 "QuietStairs$Case" "terms" "[LQuietStairs$Term;", Cond.fieldLink RX7 176 "QuietStairs$Term" "side" "I", Cond.fieldLink RX7 181 "QuietStairs$Term" "must" "Z", Cond.fieldLink RX7 185 "QuietStairs$Term" "act" "I", Cond.fieldLink RX7 188 "QuietStairs$Term" "first" "I", Cond.fieldLink RX7 191 "QuietStairs$Term" "last" "I", Cond.methodLink RX7 96 yX7_isCase, Cond.instanceMethod yX7_isCase, Cond.selects RX7 yX7_isCase yX7_isCase, Cond.initialized RX7, Cond.code yX7_isCase cX7_isCase 2 (some .boolean), Cond.fieldLink RX7 83 "QuietStairs$House" "caseCount" "I", Cond.methodLink RX7 37 yX7_isWithin, Cond.static yX7_isWithin, Cond.code yX7_isWithin cX7_isWithin 3 (some .boolean), Cond.methodLink RX7 132 yX7_isSide, Cond.static yX7_isSide, Cond.code yX7_isSide cX7_isSide 1 (some .boolean), Cond.methodLink RX7 166 yX7_isHour, Cond.static yX7_isHour]
noncomputable def wsX7_term_r2 : List Cond := [Cond.code yX7_isHour cX7_isHour 1 (some .boolean)]
noncomputable def wsX7_term : List Cond := Cond.code yX7_term cX7_term 9 (some .int) :: ((wsX7_term_r1 ++ wsX7_term_r2) ++ wsX70 ++ wsX10 ++ wsX00 ++ wsX60)
noncomputable def wsX7_strike : List Cond := Cond.code yX7_strike cX7_strike 2 (some .int) :: (([Cond.fieldLink RX7 12 "QuietStairs" "now" "LQuietStairs$House;", Cond.fieldLink RX7 86 "QuietStairs$House" "cases" "[LQuietStairs$Case;", Cond.fieldLink RX7 169 "QuietStairs$Case" "termCount" "I", Cond.methodLink RX7 96 yX7_isCase, Cond.instanceMethod yX7_isCase, Cond.selects RX7 yX7_isCase yX7_isCase, Cond.initialized RX7, Cond.code yX7_isCase cX7_isCase 2 (some .boolean), Cond.fieldLink RX7 83 "QuietStairs$House" "caseCount" "I", Cond.methodLink RX7 37 yX7_isWithin, Cond.static yX7_isWithin, Cond.code yX7_isWithin cX7_isWithin 3 (some .boolean)] : List Cond) ++ wsX70 ++ wsX10 ++ wsX00)
noncomputable def wsX7_isTerm : List Cond := Cond.code yX7_isTerm cX7_isTerm 3 (some .boolean) :: (([Cond.fieldLink RX7 12 "QuietStairs" "now" "LQuietStairs$House;", Cond.fieldLink RX7 86 "QuietStairs$House" "cases" "[LQuietStairs$Case;", Cond.fieldLink RX7 169 "QuietStairs$Case" "termCount" "I", Cond.methodLink RX7 96 yX7_isCase, Cond.instanceMethod yX7_isCase, Cond.selects RX7 yX7_isCase yX7_isCase, Cond.initialized RX7, Cond.code yX7_isCase cX7_isCase 2 (some .boolean), Cond.fieldLink RX7 83 "QuietStairs$House" "caseCount" "I", Cond.methodLink RX7 37 yX7_isWithin, Cond.static yX7_isWithin, Cond.code yX7_isWithin cX7_isWithin 3 (some .boolean)] : List Cond) ++ wsX70 ++ wsX10 ++ wsX00)
noncomputable def wsX7_termOf : List Cond := Cond.code yX7_termOf cX7_termOf 5 (some .int) :: (([Cond.fieldLink RX7 12 "QuietStairs" "now" "LQuietStairs$House;", Cond.fieldLink RX7 86 "QuietStairs$House" "cases" "[LQuietStairs$Case;", Cond.fieldLink RX7 172 "QuietStairs$Case" "terms" "[LQuietStairs$Term;", Cond.fieldLink RX7 176 "QuietStairs$Term" "side" "I", Cond.fieldLink RX7 181 "QuietStairs$Term" "must" "Z", Cond.fieldLink RX7 185 "QuietStairs$Term" "act" "I", Cond.fieldLink RX7 188 "QuietStairs$Term" "first" "I", Cond.fieldLink RX7 191 "QuietStairs$Term" "last" "I", Cond.methodLink RX7 194 yX7_isTerm, Cond.instanceMethod yX7_isTerm, Cond.selects RX7 yX7_isTerm yX7_isTerm, Cond.initialized RX7, Cond.code yX7_isTerm cX7_isTerm 3 (some .boolean), Cond.fieldLink RX7 169 "QuietStairs$Case" "termCount" "I", Cond.methodLink RX7 96 yX7_isCase, Cond.instanceMethod yX7_isCase, Cond.selects RX7 yX7_isCase yX7_isCase, Cond.code yX7_isCase cX7_isCase 2 (some .boolean), Cond.fieldLink RX7 83 "QuietStairs$House" "caseCount" "I", Cond.methodLink RX7 37 yX7_isWithin, Cond.static yX7_isWithin, Cond.code yX7_isWithin cX7_isWithin 3 (some .boolean)] : List Cond) ++ wsX70 ++ wsX10 ++ wsX00 ++ wsX60)
noncomputable def wsX7_hour_r1 : List Cond := [Cond.fieldLink RX7 12 "QuietStairs" "now" "LQuietStairs$House;", Cond.fieldLink RX7 86 "QuietStairs$House" "cases" "[LQuietStairs$Case;", Cond.fieldLink RX7 172 "QuietStairs$Case" "terms" "[LQuietStairs$Term;", Cond.fieldLink RX7 181 "QuietStairs$Term" "must" "Z", Cond.fieldLink RX7 26 "QuietStairs" "table" "LQuietStairs$Table;", Cond.fieldLink RX7 176 "QuietStairs$Term" "side" "I", Cond.fieldLink RX7 169 "QuietStairs$Case" "termCount" "I", Cond.methodLink RX7 194 yX7_isTerm, Cond.instanceMethod yX7_isTerm, Cond.selects RX7 yX7_isTerm yX7_isTerm, Cond.initialized RX7, Cond.code yX7_isTerm cX7_isTerm 3 (some .boolean), Cond.methodLink RX7 96 yX7_isCase, Cond.instanceMethod yX7_isCase, Cond.selects RX7 yX7_isCase yX7_isCase, Cond.code yX7_isCase cX7_isCase 2 (some .boolean), Cond.fieldLink RX7 83 "QuietStairs$House" "caseCount" "I", Cond.methodLink RX7 37 yX7_isWithin, Cond.static yX7_isWithin, Cond.code yX7_isWithin cX7_isWithin 3 (some .boolean), Cond.methodLink RX7 197 yX5_read, Cond.instanceMethod yX5_read, Cond.selects RX5 yX5_read yX5_read, Cond.initialized RX5]
noncomputable def wsX7_hour_r2 : List Cond := [Cond.code yX5_read cX5_read 6 none, Cond.fieldLink RX5 18 "QuietStairs$Table" "count" "I", Cond.fieldLink RX5 22 "QuietStairs$Case" "terms" "[LQuietStairs$Term;", Cond.fieldLink RX5 28 "QuietStairs$Term" "side" "I", Cond.fieldLink RX5 33 "QuietStairs$Term" "must" "Z", Cond.fieldLink RX5 9 "QuietStairs$Table" "musts" "[I", Cond.fieldLink RX5 15 "QuietStairs$Table" "hourBits" "[I", Cond.methodLink RX5 37 yX5_allowedHours, Cond.static yX5_allowedHours, Cond.code yX5_allowedHours cX5_allowedHours 6 (some .int), Cond.fieldLink RX5 44 "QuietStairs$Term" "act" "I", Cond.methodLink RX5 41 yX6_hourBits, Cond.instanceMethod yX6_hourBits, Cond.selects RX6 yX6_hourBits yX6_hourBits, Cond.initialized RX6, Cond.code yX6_hourBits cX6_hourBits 1 (some .int), Cond.fieldLink RX6 7 "QuietStairs$Term" "last" "I", Cond.fieldLink RX6 13 "QuietStairs$Term" "first" "I", Cond.methodLink RX7 201 yX5_stands, Cond.instanceMethod yX5_stands, Cond.selects RX5 yX5_stands yX5_stands, Cond.code yX5_stands cX5_stands 4 (some .boolean), Cond.static yX7_hasBit, Cond.code yX7_hasBit cX7_hasBit 2 (some .boolean)]
noncomputable def wsX7_hour_r3 : List Cond := [Cond.methodLink RX5 51 yJ6_bitCount_0f7a4, Cond.static yJ6_bitCount_0f7a4, Cond.initialized RJ6, Cond.code yJ6_bitCount_0f7a4 cJ6_bitCount_0f7a4 1 (some .int), Cond.constant RJ6 265 (1431655765), Cond.constant RJ6 266 (858993459), Cond.constant RJ6 267 (252645135), Cond.methodLink RX7 204 yX5_hourOf, Cond.instanceMethod yX5_hourOf, Cond.selects RX5 yX5_hourOf yX5_hourOf, Cond.code yX5_hourOf cX5_hourOf 4 (some .int), Cond.methodLink RX5 57 yX5_pinLeastHour, Cond.instanceMethod yX5_pinLeastHour, Cond.selects RX5 yX5_pinLeastHour yX5_pinLeastHour, Cond.code yX5_pinLeastHour cX5_pinLeastHour 4 (some .int), Cond.methodLink RX5 60 yX5_stands]
noncomputable def wsX7_hour : List Cond := Cond.code yX7_hour cX7_hour 4 (some .int) :: ((wsX7_hour_r1 ++ (wsX7_hour_r2 ++ wsX7_hour_r3)) ++ wsX70 ++ wsX10 ++ wsX00 ++ wsX60 ++ wsX50)
noncomputable def wsX7_canHold_r1 : List Cond := [Cond.fieldLink RX7 26 "QuietStairs" "table" "LQuietStairs$Table;", Cond.fieldLink RX7 12 "QuietStairs" "now" "LQuietStairs$House;", Cond.fieldLink RX7 86 "QuietStairs$House" "cases" "[LQuietStairs$Case;", Cond.fieldLink RX7 169 "QuietStairs$Case" "termCount" "I", Cond.methodLink RX7 96 yX7_isCase, Cond.instanceMethod yX7_isCase, Cond.selects RX7 yX7_isCase yX7_isCase, Cond.initialized RX7, Cond.code yX7_isCase cX7_isCase 2 (some .boolean), Cond.fieldLink RX7 83 "QuietStairs$House" "caseCount" "I", Cond.methodLink RX7 37 yX7_isWithin, Cond.static yX7_isWithin, Cond.code yX7_isWithin cX7_isWithin 3 (some .boolean), Cond.methodLink RX7 132 yX7_isSide, Cond.static yX7_isSide, Cond.code yX7_isSide cX7_isSide 1 (some .boolean), Cond.methodLink RX7 197 yX5_read, Cond.instanceMethod yX5_read, Cond.selects RX5 yX5_read yX5_read, Cond.initialized RX5, Cond.code yX5_read cX5_read 6 none, Cond.fieldLink RX5 18 "QuietStairs$Table" "count" "I", Cond.fieldLink RX5 22 "QuietStairs$Case" "terms" "[LQuietStairs$Term;", Cond.fieldLink RX5 28 "QuietStairs$Term" "side" "I"]
noncomputable def wsX7_canHold_r2 : List Cond := [Cond.fieldLink RX5 33 "QuietStairs$Term" "must" "Z", Cond.fieldLink RX5 9 "QuietStairs$Table" "musts" "[I", Cond.fieldLink RX5 15 "QuietStairs$Table" "hourBits" "[I", Cond.methodLink RX5 37 yX5_allowedHours, Cond.static yX5_allowedHours, Cond.code yX5_allowedHours cX5_allowedHours 6 (some .int), Cond.fieldLink RX5 44 "QuietStairs$Term" "act" "I", Cond.methodLink RX5 41 yX6_hourBits, Cond.instanceMethod yX6_hourBits, Cond.selects RX6 yX6_hourBits yX6_hourBits, Cond.initialized RX6, Cond.code yX6_hourBits cX6_hourBits 1 (some .int), Cond.fieldLink RX6 7 "QuietStairs$Term" "last" "I", Cond.fieldLink RX6 13 "QuietStairs$Term" "first" "I", Cond.methodLink RX7 201 yX5_stands, Cond.instanceMethod yX5_stands, Cond.selects RX5 yX5_stands yX5_stands, Cond.code yX5_stands cX5_stands 4 (some .boolean), Cond.static yX7_hasBit, Cond.code yX7_hasBit cX7_hasBit 2 (some .boolean), Cond.methodLink RX5 51 yJ6_bitCount_0f7a4, Cond.static yJ6_bitCount_0f7a4, Cond.initialized RJ6, Cond.code yJ6_bitCount_0f7a4 cJ6_bitCount_0f7a4 1 (some .int)]
noncomputable def wsX7_canHold_r3 : List Cond := [Cond.constant RJ6 265 (1431655765), Cond.constant RJ6 266 (858993459), Cond.constant RJ6 267 (252645135)]
noncomputable def wsX7_canHold : List Cond := Cond.code yX7_canHold cX7_canHold 3 (some .int) :: ((wsX7_canHold_r1 ++ (wsX7_canHold_r2 ++ wsX7_canHold_r3)) ++ wsX70 ++ wsX10 ++ wsX00 ++ wsX50 ++ wsX60)
noncomputable def wsX7_breaks_r1 : List Cond := [Cond.fieldLink RX7 12 "QuietStairs" "now" "LQuietStairs$House;", Cond.fieldLink RX7 86 "QuietStairs$House" "cases" "[LQuietStairs$Case;", Cond.fieldLink RX7 169 "QuietStairs$Case" "termCount" "I", Cond.fieldLink RX7 172 "QuietStairs$Case" "terms" "[LQuietStairs$Term;", Cond.fieldLink RX7 176 "QuietStairs$Term" "side" "I", Cond.fieldLink RX7 26 "QuietStairs" "table" "LQuietStairs$Table;", Cond.methodLink RX7 96 yX7_isCase, Cond.instanceMethod yX7_isCase, Cond.selects RX7 yX7_isCase yX7_isCase, Cond.initialized RX7, Cond.code yX7_isCase cX7_isCase 2 (some .boolean), Cond.fieldLink RX7 83 "QuietStairs$House" "caseCount" "I", Cond.methodLink RX7 37 yX7_isWithin, Cond.static yX7_isWithin, Cond.code yX7_isWithin cX7_isWithin 3 (some .boolean), Cond.methodLink RX7 132 yX7_isSide, Cond.static yX7_isSide, Cond.code yX7_isSide cX7_isSide 1 (some .boolean), Cond.methodLink RX7 197 yX5_read, Cond.instanceMethod yX5_read, Cond.selects RX5 yX5_read yX5_read, Cond.initialized RX5, Cond.code yX5_read cX5_read 6 none, Cond.fieldLink RX5 18 "QuietStairs$Table" "count" "I"]
noncomputable def wsX7_breaks_r2 : List Cond := [Cond.fieldLink RX5 22 "QuietStairs$Case" "terms" "[LQuietStairs$Term;", Cond.fieldLink RX5 28 "QuietStairs$Term" "side" "I", Cond.fieldLink RX5 33 "QuietStairs$Term" "must" "Z", Cond.fieldLink RX5 9 "QuietStairs$Table" "musts" "[I", Cond.fieldLink RX5 15 "QuietStairs$Table" "hourBits" "[I", Cond.methodLink RX5 37 yX5_allowedHours, Cond.static yX5_allowedHours, Cond.code yX5_allowedHours cX5_allowedHours 6 (some .int), Cond.fieldLink RX5 44 "QuietStairs$Term" "act" "I", Cond.methodLink RX5 41 yX6_hourBits, Cond.instanceMethod yX6_hourBits, Cond.selects RX6 yX6_hourBits yX6_hourBits, Cond.initialized RX6, Cond.code yX6_hourBits cX6_hourBits 1 (some .int), Cond.fieldLink RX6 7 "QuietStairs$Term" "last" "I", Cond.fieldLink RX6 13 "QuietStairs$Term" "first" "I", Cond.methodLink RX7 201 yX5_stands, Cond.instanceMethod yX5_stands, Cond.selects RX5 yX5_stands yX5_stands, Cond.code yX5_stands cX5_stands 4 (some .boolean), Cond.static yX7_hasBit, Cond.code yX7_hasBit cX7_hasBit 2 (some .boolean), Cond.methodLink RX5 51 yJ6_bitCount_0f7a4, Cond.static yJ6_bitCount_0f7a4]
noncomputable def wsX7_breaks_r3 : List Cond := [Cond.initialized RJ6, Cond.code yJ6_bitCount_0f7a4 cJ6_bitCount_0f7a4 1 (some .int), Cond.constant RJ6 265 (1431655765), Cond.constant RJ6 266 (858993459), Cond.constant RJ6 267 (252645135)]
noncomputable def wsX7_breaks : List Cond := Cond.code yX7_breaks cX7_breaks 5 (some .int) :: ((wsX7_breaks_r1 ++ (wsX7_breaks_r2 ++ wsX7_breaks_r3)) ++ wsX70 ++ wsX10 ++ wsX00 ++ wsX60 ++ wsX50)
noncomputable def wsX7_log : List Cond := Cond.code yX7_log cX7_log 7 (some .int) :: (([Cond.fieldLink RX7 12 "QuietStairs" "now" "LQuietStairs$House;", Cond.fieldLink RX7 86 "QuietStairs$House" "cases" "[LQuietStairs$Case;", Cond.fieldLink RX7 207 "QuietStairs$Case" "logs" "[[I", Cond.methodLink RX7 96 yX7_isCase, Cond.instanceMethod yX7_isCase, Cond.selects RX7 yX7_isCase yX7_isCase, Cond.initialized RX7, Cond.code yX7_isCase cX7_isCase 2 (some .boolean), Cond.fieldLink RX7 83 "QuietStairs$House" "caseCount" "I", Cond.methodLink RX7 37 yX7_isWithin, Cond.static yX7_isWithin, Cond.code yX7_isWithin cX7_isWithin 3 (some .boolean), Cond.methodLink RX7 132 yX7_isSide, Cond.static yX7_isSide, Cond.code yX7_isSide cX7_isSide 1 (some .boolean), Cond.methodLink RX7 166 yX7_isHour, Cond.static yX7_isHour, Cond.code yX7_isHour cX7_isHour 1 (some .boolean)] : List Cond) ++ wsX70 ++ wsX10 ++ wsX00)
noncomputable def wsX7_judged_r1 : List Cond := [Cond.fieldLink RX7 12 "QuietStairs" "now" "LQuietStairs$House;", Cond.fieldLink RX7 86 "QuietStairs$House" "cases" "[LQuietStairs$Case;", Cond.methodLink RX7 194 yX7_isTerm, Cond.instanceMethod yX7_isTerm, Cond.selects RX7 yX7_isTerm yX7_isTerm, Cond.initialized RX7, Cond.code yX7_isTerm cX7_isTerm 3 (some .boolean), Cond.fieldLink RX7 169 "QuietStairs$Case" "termCount" "I", Cond.methodLink RX7 96 yX7_isCase, Cond.instanceMethod yX7_isCase, Cond.selects RX7 yX7_isCase yX7_isCase, Cond.code yX7_isCase cX7_isCase 2 (some .boolean), Cond.fieldLink RX7 83 "QuietStairs$House" "caseCount" "I", Cond.methodLink RX7 37 yX7_isWithin, Cond.static yX7_isWithin, Cond.code yX7_isWithin cX7_isWithin 3 (some .boolean), Cond.methodLink RX7 211 yX0_judge, Cond.instanceMethod yX0_judge, Cond.selects RX0 yX0_judge yX0_judge, Cond.initialized RX0, Cond.code yX0_judge cX0_judge 6 (some .int), Cond.fieldLink RX0 28 "QuietStairs$Case" "terms" "[LQuietStairs$Term;", Cond.fieldLink RX0 65 "QuietStairs$Term" "first" "I", Cond.fieldLink RX0 68 "QuietStairs$Term" "last" "I"]
noncomputable def wsX7_judged_r2 : List Cond := [Cond.fieldLink RX0 23 "QuietStairs$Case" "logs" "[[I", Cond.fieldLink RX0 71 "QuietStairs$Term" "side" "I", Cond.fieldLink RX0 74 "QuietStairs$Term" "act" "I", Cond.fieldLink RX0 77 "QuietStairs$Term" "must" "Z"]
noncomputable def wsX7_judged : List Cond := Cond.code yX7_judged cX7_judged 3 (some .int) :: ((wsX7_judged_r1 ++ wsX7_judged_r2) ++ wsX70 ++ wsX10 ++ wsX00 ++ wsX60)
noncomputable def wsX7_many_r1 : List Cond := [Cond.fieldLink RX7 12 "QuietStairs" "now" "LQuietStairs$House;", Cond.fieldLink RX7 41 "QuietStairs$House" "partyCount" "I", Cond.fieldLink RX7 56 "QuietStairs$House" "mediatorCount" "I", Cond.fieldLink RX7 83 "QuietStairs$House" "caseCount" "I", Cond.fieldLink RX7 108 "QuietStairs$House" "markCount" "I", Cond.methodLink RX7 214 yX1_countState, Cond.instanceMethod yX1_countState, Cond.selects RX1 yX1_countState yX1_countState, Cond.initialized RX1, Cond.code yX1_countState cX1_countState 4 (some .int), Cond.fieldLink RX1 66 "QuietStairs$House" "caseCount" "I", Cond.fieldLink RX1 25 "QuietStairs$House" "cases" "[LQuietStairs$Case;", Cond.fieldLink RX1 79 "QuietStairs$Case" "state" "I", Cond.methodLink RX7 217 yX1_countQuarrels, Cond.instanceMethod yX1_countQuarrels, Cond.selects RX1 yX1_countQuarrels yX1_countQuarrels, Cond.code yX1_countQuarrels cX1_countQuarrels 3 (some .int), Cond.methodLink RX1 76 yX1_headOfQuarrel, Cond.instanceMethod yX1_headOfQuarrel, Cond.selects RX1 yX1_headOfQuarrel yX1_headOfQuarrel, Cond.code yX1_headOfQuarrel cX1_headOfQuarrel 4 (some .int), Cond.methodLink RX1 72 yX1_quarrelBits, Cond.instanceMethod yX1_quarrelBits, Cond.selects RX1 yX1_quarrelBits yX1_quarrelBits]
noncomputable def wsX7_many_r2 : List Cond := [Cond.code yX1_quarrelBits cX1_quarrelBits 5 (some .int), Cond.fieldLink RX1 69 "QuietStairs$Case" "markedBits" "I", Cond.static yX7_hasBit, Cond.initialized RX7, Cond.code yX7_hasBit cX7_hasBit 2 (some .boolean), Cond.methodLink RX7 221 yX1_countTerms, Cond.instanceMethod yX1_countTerms, Cond.selects RX1 yX1_countTerms yX1_countTerms, Cond.code yX1_countTerms cX1_countTerms 3 (some .int), Cond.fieldLink RX1 82 "QuietStairs$Case" "termCount" "I", Cond.methodLink RX7 224 yX1_countJudged, Cond.instanceMethod yX1_countJudged, Cond.selects RX1 yX1_countJudged yX1_countJudged, Cond.code yX1_countJudged cX1_countJudged 5 (some .int), Cond.methodLink RX1 85 yX0_judge, Cond.instanceMethod yX0_judge, Cond.selects RX0 yX0_judge yX0_judge, Cond.initialized RX0, Cond.code yX0_judge cX0_judge 6 (some .int), Cond.fieldLink RX0 28 "QuietStairs$Case" "terms" "[LQuietStairs$Term;", Cond.fieldLink RX0 65 "QuietStairs$Term" "first" "I", Cond.fieldLink RX0 68 "QuietStairs$Term" "last" "I", Cond.fieldLink RX0 23 "QuietStairs$Case" "logs" "[[I", Cond.fieldLink RX0 71 "QuietStairs$Term" "side" "I"]
noncomputable def wsX7_many_r3 : List Cond := [Cond.fieldLink RX0 74 "QuietStairs$Term" "act" "I", Cond.fieldLink RX0 77 "QuietStairs$Term" "must" "Z"]
noncomputable def wsX7_many : List Cond := Cond.code yX7_many cX7_many 2 (some .int) :: ((wsX7_many_r1 ++ (wsX7_many_r2 ++ wsX7_many_r3)) ++ wsX70 ++ wsX10 ++ wsX00 ++ wsX60)
noncomputable def wsX7_keep_r1 : List Cond := [Cond.fieldLink RX7 30 "QuietStairs" "kept" "LQuietStairs$House;", Cond.classLink RX7 9 RX1, Cond.instantiable RX1 7, Cond.initialized RX1, Cond.fieldLink RX7 12 "QuietStairs" "now" "LQuietStairs$House;", Cond.methodLink RX7 11 yX1_init, Cond.instanceMethod yX1_init, Cond.code yX1_init cX1_init 2 none, Cond.methodLink RX1 3 objectInit, Cond.instanceMethod objectInit, Cond.code objectInit ⟨#[0xb1]⟩ 1 none, Cond.classLink RX1 9 RX3, Cond.fieldLink RX1 11 "QuietStairs$House" "parties" "[LQuietStairs$Party;", Cond.classLink RX1 17 RX2, Cond.fieldLink RX1 19 "QuietStairs$House" "mediators" "[LQuietStairs$Mediator;", Cond.classLink RX1 23 RX0, Cond.fieldLink RX1 25 "QuietStairs$House" "cases" "[LQuietStairs$Case;", Cond.instantiable RX3 2, Cond.initialized RX3, Cond.instantiable RX2 3, Cond.initialized RX2, Cond.instantiable RX0 11, Cond.initialized RX0, Cond.instanceMethod yX3_init]
noncomputable def wsX7_keep_r2 : List Cond := [Cond.code yX3_init cX3_init 1 none, Cond.methodLink RX3 1 objectInit, Cond.instanceMethod yX2_init, Cond.code yX2_init cX2_init 1 none, Cond.methodLink RX2 1 objectInit, Cond.methodLink RX1 31 yX0_init, Cond.instanceMethod yX0_init, Cond.code yX0_init cX0_init 2 none, Cond.methodLink RX0 3 objectInit, Cond.arrayClass .int, Cond.fieldLink RX0 9 "QuietStairs$Case" "parties" "[I", Cond.fieldLink RX0 15 "QuietStairs$Case" "box" "[I", Cond.classLink RX0 18 "[[I", Cond.fieldLink RX0 20 "QuietStairs$Case" "offers" "[[I", Cond.fieldLink RX0 23 "QuietStairs$Case" "logs" "[[I", Cond.classLink RX0 26 RX6, Cond.fieldLink RX0 28 "QuietStairs$Case" "terms" "[LQuietStairs$Term;", Cond.instantiable RX6 5, Cond.initialized RX6, Cond.instanceMethod yX6_init, Cond.code yX6_init cX6_init 1 none, Cond.methodLink RX6 1 objectInit, Cond.methodLink RX7 227 yX1_copyFrom, Cond.instanceMethod yX1_copyFrom]
noncomputable def wsX7_keep_r3 : List Cond := [Cond.selects RX1 yX1_copyFrom yX1_copyFrom, Cond.code yX1_copyFrom cX1_copyFrom 3 none, Cond.fieldLink RX1 88 "QuietStairs$House" "partyCount" "I", Cond.fieldLink RX1 36 "QuietStairs$House" "mediatorCount" "I", Cond.fieldLink RX1 66 "QuietStairs$House" "caseCount" "I", Cond.fieldLink RX1 91 "QuietStairs$House" "markCount" "I", Cond.methodLink RX1 94 yX3_copyFrom, Cond.instanceMethod yX3_copyFrom, Cond.selects RX3 yX3_copyFrom yX3_copyFrom, Cond.code yX3_copyFrom cX3_copyFrom 2 none, Cond.fieldLink RX3 7 "QuietStairs$Party" "floor" "I", Cond.fieldLink RX3 13 "QuietStairs$Party" "tongue" "I", Cond.methodLink RX1 98 yX2_copyFrom, Cond.instanceMethod yX2_copyFrom, Cond.selects RX2 yX2_copyFrom yX2_copyFrom, Cond.code yX2_copyFrom cX2_copyFrom 2 none, Cond.fieldLink RX2 7 "QuietStairs$Mediator" "floor" "I", Cond.fieldLink RX2 13 "QuietStairs$Mediator" "tongues" "I", Cond.fieldLink RX2 16 "QuietStairs$Mediator" "kinBits" "I", Cond.methodLink RX1 101 yX0_copyFrom, Cond.instanceMethod yX0_copyFrom, Cond.selects RX0 yX0_copyFrom yX0_copyFrom, Cond.code yX0_copyFrom cX0_copyFrom 3 none, Cond.fieldLink RX0 33 "QuietStairs$Case" "state" "I"]
noncomputable def wsX7_keep_r4 : List Cond := [Cond.fieldLink RX0 37 "QuietStairs$Case" "sum" "I", Cond.fieldLink RX0 40 "QuietStairs$Case" "roundsOver" "I", Cond.fieldLink RX0 43 "QuietStairs$Case" "weight" "I", Cond.fieldLink RX0 46 "QuietStairs$Case" "markedBits" "I", Cond.fieldLink RX0 49 "QuietStairs$Case" "termCount" "I", Cond.methodLink RX0 81 arraycopyName, Cond.native arraycopyName, Cond.static arraycopyName, Cond.initialized "java/lang/System", Cond.methodLink RX0 87 yX6_copyFrom, Cond.instanceMethod yX6_copyFrom, Cond.selects RX6 yX6_copyFrom yX6_copyFrom, Cond.code yX6_copyFrom cX6_copyFrom 2 none, Cond.fieldLink RX6 16 "QuietStairs$Term" "side" "I", Cond.fieldLink RX6 19 "QuietStairs$Term" "must" "Z", Cond.fieldLink RX6 23 "QuietStairs$Term" "act" "I", Cond.fieldLink RX6 13 "QuietStairs$Term" "first" "I", Cond.fieldLink RX6 7 "QuietStairs$Term" "last" "I"]
noncomputable def wsX7_keep : List Cond := Cond.code yX7_keep cX7_keep 1 (some .int) :: ((wsX7_keep_r1 ++ (wsX7_keep_r2 ++ (wsX7_keep_r3 ++ wsX7_keep_r4))) ++ wsX70 ++ wsX10 ++ wsX30 ++ wsX20 ++ wsX00 ++ wsX60)
noncomputable def wsX7_back_r1 : List Cond := [Cond.fieldLink RX7 30 "QuietStairs" "kept" "LQuietStairs$House;", Cond.fieldLink RX7 12 "QuietStairs" "now" "LQuietStairs$House;", Cond.methodLink RX7 227 yX1_copyFrom, Cond.instanceMethod yX1_copyFrom, Cond.selects RX1 yX1_copyFrom yX1_copyFrom, Cond.initialized RX1, Cond.code yX1_copyFrom cX1_copyFrom 3 none, Cond.fieldLink RX1 88 "QuietStairs$House" "partyCount" "I", Cond.fieldLink RX1 36 "QuietStairs$House" "mediatorCount" "I", Cond.fieldLink RX1 66 "QuietStairs$House" "caseCount" "I", Cond.fieldLink RX1 91 "QuietStairs$House" "markCount" "I", Cond.fieldLink RX1 11 "QuietStairs$House" "parties" "[LQuietStairs$Party;", Cond.fieldLink RX1 19 "QuietStairs$House" "mediators" "[LQuietStairs$Mediator;", Cond.fieldLink RX1 25 "QuietStairs$House" "cases" "[LQuietStairs$Case;", Cond.methodLink RX1 94 yX3_copyFrom, Cond.instanceMethod yX3_copyFrom, Cond.selects RX3 yX3_copyFrom yX3_copyFrom, Cond.initialized RX3, Cond.code yX3_copyFrom cX3_copyFrom 2 none, Cond.fieldLink RX3 7 "QuietStairs$Party" "floor" "I", Cond.fieldLink RX3 13 "QuietStairs$Party" "tongue" "I", Cond.methodLink RX1 98 yX2_copyFrom, Cond.instanceMethod yX2_copyFrom, Cond.selects RX2 yX2_copyFrom yX2_copyFrom]
noncomputable def wsX7_back_r2 : List Cond := [Cond.initialized RX2, Cond.code yX2_copyFrom cX2_copyFrom 2 none, Cond.fieldLink RX2 7 "QuietStairs$Mediator" "floor" "I", Cond.fieldLink RX2 13 "QuietStairs$Mediator" "tongues" "I", Cond.fieldLink RX2 16 "QuietStairs$Mediator" "kinBits" "I", Cond.methodLink RX1 101 yX0_copyFrom, Cond.instanceMethod yX0_copyFrom, Cond.selects RX0 yX0_copyFrom yX0_copyFrom, Cond.initialized RX0, Cond.code yX0_copyFrom cX0_copyFrom 3 none, Cond.fieldLink RX0 33 "QuietStairs$Case" "state" "I", Cond.fieldLink RX0 37 "QuietStairs$Case" "sum" "I", Cond.fieldLink RX0 40 "QuietStairs$Case" "roundsOver" "I", Cond.fieldLink RX0 43 "QuietStairs$Case" "weight" "I", Cond.fieldLink RX0 46 "QuietStairs$Case" "markedBits" "I", Cond.fieldLink RX0 49 "QuietStairs$Case" "termCount" "I", Cond.fieldLink RX0 9 "QuietStairs$Case" "parties" "[I", Cond.fieldLink RX0 15 "QuietStairs$Case" "box" "[I", Cond.fieldLink RX0 20 "QuietStairs$Case" "offers" "[[I", Cond.methodLink RX0 81 arraycopyName, Cond.native arraycopyName, Cond.static arraycopyName, Cond.initialized "java/lang/System", Cond.fieldLink RX0 23 "QuietStairs$Case" "logs" "[[I"]
noncomputable def wsX7_back_r3 : List Cond := [Cond.fieldLink RX0 28 "QuietStairs$Case" "terms" "[LQuietStairs$Term;", Cond.methodLink RX0 87 yX6_copyFrom, Cond.instanceMethod yX6_copyFrom, Cond.selects RX6 yX6_copyFrom yX6_copyFrom, Cond.initialized RX6, Cond.code yX6_copyFrom cX6_copyFrom 2 none, Cond.fieldLink RX6 16 "QuietStairs$Term" "side" "I", Cond.fieldLink RX6 19 "QuietStairs$Term" "must" "Z", Cond.fieldLink RX6 23 "QuietStairs$Term" "act" "I", Cond.fieldLink RX6 13 "QuietStairs$Term" "first" "I", Cond.fieldLink RX6 7 "QuietStairs$Term" "last" "I"]
noncomputable def wsX7_back : List Cond := Cond.code yX7_back cX7_back 1 (some .int) :: ((wsX7_back_r1 ++ (wsX7_back_r2 ++ wsX7_back_r3)) ++ wsX70 ++ wsX10 ++ wsX30 ++ wsX20 ++ wsX00 ++ wsX60)
noncomputable def wsX8_init : List Cond := Cond.code yX8_init cX8_init 1 none :: (([Cond.methodLink RX8 1 objectInit, Cond.instanceMethod objectInit, Cond.code objectInit ⟨#[0xb1]⟩ 1 none, Cond.arrayClass .int, Cond.fieldLink RX8 7 "QuietStairsModel" "s" "[I", Cond.fieldLink RX8 13 "QuietStairsModel" "kept" "[I", Cond.fieldLink RX8 16 "QuietStairsModel" "rooms" "I", Cond.fieldLink RX8 20 "QuietStairsModel" "headOf" "[I", Cond.fieldLink RX8 23 "QuietStairsModel" "planned" "[I", Cond.fieldLink RX8 26 "QuietStairsModel" "tried" "[I", Cond.fieldLink RX8 29 "QuietStairsModel" "best" "[I", Cond.fieldLink RX8 32 "QuietStairsModel" "hours" "[I"] : List Cond) ++ wsX80)
noncomputable def wsX8_in : List Cond := Cond.code yX8_in cX8_in 3 (some .boolean) :: (([] : List Cond))
noncomputable def wsX8_isParty : List Cond := Cond.code yX8_isParty cX8_isParty 2 (some .boolean) :: (([Cond.fieldLink RX8 7 "QuietStairsModel" "s" "[I", Cond.methodLink RX8 35 yX8_in, Cond.static yX8_in, Cond.initialized RX8, Cond.code yX8_in cX8_in 3 (some .boolean)] : List Cond) ++ wsX80)
noncomputable def wsX8_isMediator : List Cond := Cond.code yX8_isMediator cX8_isMediator 2 (some .boolean) :: (([Cond.fieldLink RX8 7 "QuietStairsModel" "s" "[I", Cond.methodLink RX8 35 yX8_in, Cond.static yX8_in, Cond.initialized RX8, Cond.code yX8_in cX8_in 3 (some .boolean)] : List Cond) ++ wsX80)
noncomputable def wsX8_isCase : List Cond := Cond.code yX8_isCase cX8_isCase 2 (some .boolean) :: (([Cond.fieldLink RX8 7 "QuietStairsModel" "s" "[I", Cond.methodLink RX8 35 yX8_in, Cond.static yX8_in, Cond.initialized RX8, Cond.code yX8_in cX8_in 3 (some .boolean)] : List Cond) ++ wsX80)
noncomputable def wsX8_isSide : List Cond := Cond.code yX8_isSide cX8_isSide 1 (some .boolean) :: (([Cond.methodLink RX8 35 yX8_in, Cond.static yX8_in, Cond.initialized RX8, Cond.code yX8_in cX8_in 3 (some .boolean)] : List Cond))
noncomputable def wsX8_at : List Cond := Cond.code yX8_at cX8_at 2 (some .int) :: (([] : List Cond))
noncomputable def wsX8_party : List Cond := Cond.code yX8_party cX8_party 5 (some .int) :: (([Cond.fieldLink RX8 7 "QuietStairsModel" "s" "[I", Cond.methodLink RX8 35 yX8_in, Cond.static yX8_in, Cond.initialized RX8, Cond.code yX8_in cX8_in 3 (some .boolean)] : List Cond) ++ wsX80)
noncomputable def wsX8_mediator : List Cond := Cond.code yX8_mediator cX8_mediator 4 (some .int) :: (([Cond.fieldLink RX8 7 "QuietStairsModel" "s" "[I", Cond.methodLink RX8 35 yX8_in, Cond.static yX8_in, Cond.initialized RX8, Cond.code yX8_in cX8_in 3 (some .boolean)] : List Cond) ++ wsX80)
noncomputable def wsX8_kin : List Cond := Cond.code yX8_kin cX8_kin 5 (some .int) :: (([Cond.fieldLink RX8 7 "QuietStairsModel" "s" "[I", Cond.methodLink RX8 39 yX8_isMediator, Cond.instanceMethod yX8_isMediator, Cond.selects RX8 yX8_isMediator yX8_isMediator, Cond.initialized RX8, Cond.code yX8_isMediator cX8_isMediator 2 (some .boolean), Cond.methodLink RX8 35 yX8_in, Cond.static yX8_in, Cond.code yX8_in cX8_in 3 (some .boolean), Cond.methodLink RX8 43 yX8_isParty, Cond.instanceMethod yX8_isParty, Cond.selects RX8 yX8_isParty yX8_isParty, Cond.code yX8_isParty cX8_isParty 2 (some .boolean)] : List Cond) ++ wsX80)
noncomputable def wsX8_open : List Cond := Cond.code yX8_open cX8_open 5 (some .int) :: (([Cond.fieldLink RX8 7 "QuietStairsModel" "s" "[I", Cond.methodLink RX8 43 yX8_isParty, Cond.instanceMethod yX8_isParty, Cond.selects RX8 yX8_isParty yX8_isParty, Cond.initialized RX8, Cond.code yX8_isParty cX8_isParty 2 (some .boolean), Cond.methodLink RX8 35 yX8_in, Cond.static yX8_in, Cond.code yX8_in cX8_in 3 (some .boolean), Cond.methodLink RX8 46 yX8_at, Cond.static yX8_at, Cond.code yX8_at cX8_at 2 (some .int)] : List Cond) ++ wsX80)
noncomputable def wsX8_close : List Cond := Cond.code yX8_close cX8_close 2 (some .int) :: (([Cond.fieldLink RX8 7 "QuietStairsModel" "s" "[I", Cond.methodLink RX8 50 yX8_isCase, Cond.instanceMethod yX8_isCase, Cond.selects RX8 yX8_isCase yX8_isCase, Cond.initialized RX8, Cond.code yX8_isCase cX8_isCase 2 (some .boolean), Cond.methodLink RX8 35 yX8_in, Cond.static yX8_in, Cond.code yX8_in cX8_in 3 (some .boolean), Cond.methodLink RX8 46 yX8_at, Cond.static yX8_at, Cond.code yX8_at cX8_at 2 (some .int)] : List Cond) ++ wsX80)
noncomputable def wsX8_weight : List Cond := Cond.code yX8_weight cX8_weight 4 (some .int) :: (([Cond.fieldLink RX8 7 "QuietStairsModel" "s" "[I", Cond.methodLink RX8 50 yX8_isCase, Cond.instanceMethod yX8_isCase, Cond.selects RX8 yX8_isCase yX8_isCase, Cond.initialized RX8, Cond.code yX8_isCase cX8_isCase 2 (some .boolean), Cond.methodLink RX8 35 yX8_in, Cond.static yX8_in, Cond.code yX8_in cX8_in 3 (some .boolean), Cond.methodLink RX8 46 yX8_at, Cond.static yX8_at, Cond.code yX8_at cX8_at 2 (some .int)] : List Cond) ++ wsX80)
noncomputable def wsX8_mark : List Cond := Cond.code yX8_mark cX8_mark 6 (some .int) :: (([Cond.fieldLink RX8 7 "QuietStairsModel" "s" "[I", Cond.methodLink RX8 50 yX8_isCase, Cond.instanceMethod yX8_isCase, Cond.selects RX8 yX8_isCase yX8_isCase, Cond.initialized RX8, Cond.code yX8_isCase cX8_isCase 2 (some .boolean), Cond.methodLink RX8 35 yX8_in, Cond.static yX8_in, Cond.code yX8_in cX8_in 3 (some .boolean)] : List Cond) ++ wsX80)
noncomputable def wsX8_findHeads : List Cond := Cond.code yX8_findHeads cX8_findHeads 6 none :: (([Cond.fieldLink RX8 7 "QuietStairsModel" "s" "[I", Cond.fieldLink RX8 20 "QuietStairsModel" "headOf" "[I"] : List Cond) ++ wsX80)
noncomputable def wsX8_joined : List Cond := Cond.code yX8_joined cX8_joined 4 (some .int) :: (([Cond.fieldLink RX8 7 "QuietStairsModel" "s" "[I", Cond.fieldLink RX8 20 "QuietStairsModel" "headOf" "[I"] : List Cond) ++ wsX80)
noncomputable def wsX8_of : List Cond := Cond.code yX8_of cX8_of 3 (some .int) :: (([Cond.fieldLink RX8 20 "QuietStairsModel" "headOf" "[I", Cond.fieldLink RX8 7 "QuietStairsModel" "s" "[I", Cond.methodLink RX8 50 yX8_isCase, Cond.instanceMethod yX8_isCase, Cond.selects RX8 yX8_isCase yX8_isCase, Cond.initialized RX8, Cond.code yX8_isCase cX8_isCase 2 (some .boolean), Cond.methodLink RX8 35 yX8_in, Cond.static yX8_in, Cond.code yX8_in cX8_in 3 (some .boolean), Cond.methodLink RX8 53 yX8_findHeads, Cond.instanceMethod yX8_findHeads, Cond.selects RX8 yX8_findHeads yX8_findHeads, Cond.code yX8_findHeads cX8_findHeads 6 none, Cond.methodLink RX8 56 yX8_joined, Cond.instanceMethod yX8_joined, Cond.selects RX8 yX8_joined yX8_joined, Cond.code yX8_joined cX8_joined 4 (some .int), Cond.methodLink RX8 46 yX8_at, Cond.static yX8_at, Cond.code yX8_at cX8_at 2 (some .int)] : List Cond) ++ wsX80)
noncomputable def wsX8_offer : List Cond := Cond.code yX8_offer cX8_offer 7 (some .int) :: (([Cond.fieldLink RX8 7 "QuietStairsModel" "s" "[I", Cond.methodLink RX8 50 yX8_isCase, Cond.instanceMethod yX8_isCase, Cond.selects RX8 yX8_isCase yX8_isCase, Cond.initialized RX8, Cond.code yX8_isCase cX8_isCase 2 (some .boolean), Cond.methodLink RX8 35 yX8_in, Cond.static yX8_in, Cond.code yX8_in cX8_in 3 (some .boolean), Cond.methodLink RX8 60 yX8_isSide, Cond.static yX8_isSide, Cond.code yX8_isSide cX8_isSide 1 (some .boolean), Cond.methodLink RX8 46 yX8_at, Cond.static yX8_at, Cond.code yX8_at cX8_at 2 (some .int)] : List Cond) ++ wsX80)
noncomputable def wsX8_put : List Cond := Cond.code yX8_put cX8_put 3 (some .int) :: (([Cond.fieldLink RX8 7 "QuietStairsModel" "s" "[I", Cond.methodLink RX8 50 yX8_isCase, Cond.instanceMethod yX8_isCase, Cond.selects RX8 yX8_isCase yX8_isCase, Cond.initialized RX8, Cond.code yX8_isCase cX8_isCase 2 (some .boolean), Cond.methodLink RX8 35 yX8_in, Cond.static yX8_in, Cond.code yX8_in cX8_in 3 (some .boolean), Cond.methodLink RX8 60 yX8_isSide, Cond.static yX8_isSide, Cond.code yX8_isSide cX8_isSide 1 (some .boolean)] : List Cond) ++ wsX80)
noncomputable def wsX8_learns : List Cond := Cond.code yX8_learns cX8_learns 14 (some .int) :: (([Cond.fieldLink RX8 7 "QuietStairsModel" "s" "[I", Cond.methodLink RX8 50 yX8_isCase, Cond.instanceMethod yX8_isCase, Cond.selects RX8 yX8_isCase yX8_isCase, Cond.initialized RX8, Cond.code yX8_isCase cX8_isCase 2 (some .boolean), Cond.methodLink RX8 35 yX8_in, Cond.static yX8_in, Cond.code yX8_in cX8_in 3 (some .boolean), Cond.methodLink RX8 60 yX8_isSide, Cond.static yX8_isSide, Cond.code yX8_isSide cX8_isSide 1 (some .boolean), Cond.methodLink RX8 46 yX8_at, Cond.static yX8_at, Cond.code yX8_at cX8_at 2 (some .int)] : List Cond) ++ wsX80)
noncomputable def wsX8_oneOf : List Cond := Cond.code yX8_oneOf cX8_oneOf 1 (some .int) :: (([] : List Cond))
noncomputable def wsX8_otherOf : List Cond := Cond.code yX8_otherOf cX8_otherOf 1 (some .int) :: (([] : List Cond))
noncomputable def wsX8_isPair : List Cond := Cond.code yX8_isPair cX8_isPair 2 (some .boolean) :: (([Cond.methodLink RX8 35 yX8_in, Cond.static yX8_in, Cond.initialized RX8, Cond.code yX8_in cX8_in 3 (some .boolean), Cond.methodLink RX8 63 yX8_otherOf, Cond.static yX8_otherOf, Cond.code yX8_otherOf cX8_otherOf 1 (some .int), Cond.methodLink RX8 39 yX8_isMediator, Cond.instanceMethod yX8_isMediator, Cond.selects RX8 yX8_isMediator yX8_isMediator, Cond.code yX8_isMediator cX8_isMediator 2 (some .boolean), Cond.fieldLink RX8 7 "QuietStairsModel" "s" "[I"] : List Cond) ++ wsX80)
noncomputable def wsX8_mayMeet : List Cond := Cond.code yX8_mayMeet cX8_mayMeet 3 (some .boolean) :: (([Cond.fieldLink RX8 7 "QuietStairsModel" "s" "[I"] : List Cond) ++ wsX80)
noncomputable def wsX8_may : List Cond := Cond.code yX8_may cX8_may 9 (some .boolean) :: (([Cond.fieldLink RX8 7 "QuietStairsModel" "s" "[I", Cond.methodLink RX8 66 yX8_oneOf, Cond.static yX8_oneOf, Cond.initialized RX8, Cond.code yX8_oneOf cX8_oneOf 1 (some .int), Cond.methodLink RX8 63 yX8_otherOf, Cond.static yX8_otherOf, Cond.code yX8_otherOf cX8_otherOf 1 (some .int), Cond.methodLink RX8 46 yX8_at, Cond.static yX8_at, Cond.code yX8_at cX8_at 2 (some .int), Cond.methodLink RX8 69 yX8_mayMeet, Cond.instanceMethod yX8_mayMeet, Cond.selects RX8 yX8_mayMeet yX8_mayMeet, Cond.code yX8_mayMeet cX8_mayMeet 3 (some .boolean)] : List Cond) ++ wsX80)
noncomputable def wsX8_maySit_r1 : List Cond := [Cond.methodLink RX8 73 yX8_isPair, Cond.instanceMethod yX8_isPair, Cond.selects RX8 yX8_isPair yX8_isPair, Cond.initialized RX8, Cond.code yX8_isPair cX8_isPair 2 (some .boolean), Cond.methodLink RX8 35 yX8_in, Cond.static yX8_in, Cond.code yX8_in cX8_in 3 (some .boolean), Cond.methodLink RX8 63 yX8_otherOf, Cond.static yX8_otherOf, Cond.code yX8_otherOf cX8_otherOf 1 (some .int), Cond.methodLink RX8 39 yX8_isMediator, Cond.instanceMethod yX8_isMediator, Cond.selects RX8 yX8_isMediator yX8_isMediator, Cond.code yX8_isMediator cX8_isMediator 2 (some .boolean), Cond.fieldLink RX8 7 "QuietStairsModel" "s" "[I", Cond.methodLink RX8 50 yX8_isCase, Cond.instanceMethod yX8_isCase, Cond.selects RX8 yX8_isCase yX8_isCase, Cond.code yX8_isCase cX8_isCase 2 (some .boolean), Cond.methodLink RX8 76 yX8_may, Cond.instanceMethod yX8_may, Cond.selects RX8 yX8_may yX8_may, Cond.code yX8_may cX8_may 9 (some .boolean)]
noncomputable def wsX8_maySit_r2 : List Cond := [Cond.methodLink RX8 66 yX8_oneOf, Cond.static yX8_oneOf, Cond.code yX8_oneOf cX8_oneOf 1 (some .int), Cond.methodLink RX8 46 yX8_at, Cond.static yX8_at, Cond.code yX8_at cX8_at 2 (some .int), Cond.methodLink RX8 69 yX8_mayMeet, Cond.instanceMethod yX8_mayMeet, Cond.selects RX8 yX8_mayMeet yX8_mayMeet, Cond.code yX8_mayMeet cX8_mayMeet 3 (some .boolean)]
noncomputable def wsX8_maySit : List Cond := Cond.code yX8_maySit cX8_maySit 3 (some .int) :: ((wsX8_maySit_r1 ++ wsX8_maySit_r2) ++ wsX80)
noncomputable def wsX8_rooms : List Cond := Cond.code yX8_rooms cX8_rooms 3 (some .int) :: (([Cond.fieldLink RX8 16 "QuietStairsModel" "rooms" "I", Cond.methodLink RX8 35 yX8_in, Cond.static yX8_in, Cond.initialized RX8, Cond.code yX8_in cX8_in 3 (some .boolean)] : List Cond) ++ wsX80)
noncomputable def wsX8_fits_r1 : List Cond := [Cond.fieldLink RX8 26 "QuietStairsModel" "tried" "[I", Cond.fieldLink RX8 23 "QuietStairsModel" "planned" "[I", Cond.fieldLink RX8 16 "QuietStairsModel" "rooms" "I", Cond.methodLink RX8 73 yX8_isPair, Cond.instanceMethod yX8_isPair, Cond.selects RX8 yX8_isPair yX8_isPair, Cond.initialized RX8, Cond.code yX8_isPair cX8_isPair 2 (some .boolean), Cond.methodLink RX8 35 yX8_in, Cond.static yX8_in, Cond.code yX8_in cX8_in 3 (some .boolean), Cond.methodLink RX8 63 yX8_otherOf, Cond.static yX8_otherOf, Cond.code yX8_otherOf cX8_otherOf 1 (some .int), Cond.methodLink RX8 39 yX8_isMediator, Cond.instanceMethod yX8_isMediator, Cond.selects RX8 yX8_isMediator yX8_isMediator, Cond.code yX8_isMediator cX8_isMediator 2 (some .boolean), Cond.fieldLink RX8 7 "QuietStairsModel" "s" "[I", Cond.methodLink RX8 76 yX8_may, Cond.instanceMethod yX8_may, Cond.selects RX8 yX8_may yX8_may, Cond.code yX8_may cX8_may 9 (some .boolean), Cond.methodLink RX8 66 yX8_oneOf]
noncomputable def wsX8_fits_r2 : List Cond := [Cond.static yX8_oneOf, Cond.code yX8_oneOf cX8_oneOf 1 (some .int), Cond.methodLink RX8 46 yX8_at, Cond.static yX8_at, Cond.code yX8_at cX8_at 2 (some .int), Cond.methodLink RX8 69 yX8_mayMeet, Cond.instanceMethod yX8_mayMeet, Cond.selects RX8 yX8_mayMeet yX8_mayMeet, Cond.code yX8_mayMeet cX8_mayMeet 3 (some .boolean)]
noncomputable def wsX8_fits : List Cond := Cond.code yX8_fits cX8_fits 8 (some .boolean) :: ((wsX8_fits_r1 ++ wsX8_fits_r2) ++ wsX80)
noncomputable def wsX8_waitsOf : List Cond := Cond.code yX8_waitsOf cX8_waitsOf 4 (some .int) :: (([Cond.fieldLink RX8 7 "QuietStairsModel" "s" "[I", Cond.fieldLink RX8 23 "QuietStairsModel" "planned" "[I", Cond.fieldLink RX8 26 "QuietStairsModel" "tried" "[I", Cond.methodLink RX8 46 yX8_at, Cond.static yX8_at, Cond.initialized RX8, Cond.code yX8_at cX8_at 2 (some .int)] : List Cond) ++ wsX80)
noncomputable def wsX8_note : List Cond := Cond.code yX8_note cX8_note 3 none :: (([Cond.fieldLink RX8 79 "QuietStairsModel" "many" "I", Cond.fieldLink RX8 85 "QuietStairsModel" "least" "I", Cond.fieldLink RX8 29 "QuietStairsModel" "best" "[I", Cond.fieldLink RX8 26 "QuietStairsModel" "tried" "[I", Cond.methodLink RX8 82 yX8_waitsOf, Cond.instanceMethod yX8_waitsOf, Cond.selects RX8 yX8_waitsOf yX8_waitsOf, Cond.initialized RX8, Cond.code yX8_waitsOf cX8_waitsOf 4 (some .int), Cond.fieldLink RX8 7 "QuietStairsModel" "s" "[I", Cond.fieldLink RX8 23 "QuietStairsModel" "planned" "[I", Cond.methodLink RX8 46 yX8_at, Cond.static yX8_at, Cond.code yX8_at cX8_at 2 (some .int)] : List Cond) ++ wsX80)
noncomputable def wsX8_makePlan_r1 : List Cond := [Cond.fieldLink RX8 79 "QuietStairsModel" "many" "I", Cond.fieldLink RX8 7 "QuietStairsModel" "s" "[I", Cond.fieldLink RX8 23 "QuietStairsModel" "planned" "[I", Cond.constant RX8 88 (1000000), Cond.fieldLink RX8 85 "QuietStairsModel" "least" "I", Cond.fieldLink RX8 26 "QuietStairsModel" "tried" "[I", Cond.methodLink RX8 46 yX8_at, Cond.static yX8_at, Cond.initialized RX8, Cond.code yX8_at cX8_at 2 (some .int), Cond.methodLink RX8 89 yX8_note, Cond.instanceMethod yX8_note, Cond.selects RX8 yX8_note yX8_note, Cond.code yX8_note cX8_note 3 none, Cond.fieldLink RX8 29 "QuietStairsModel" "best" "[I", Cond.methodLink RX8 82 yX8_waitsOf, Cond.instanceMethod yX8_waitsOf, Cond.selects RX8 yX8_waitsOf yX8_waitsOf, Cond.code yX8_waitsOf cX8_waitsOf 4 (some .int), Cond.methodLink RX8 92 yX8_fits, Cond.instanceMethod yX8_fits, Cond.selects RX8 yX8_fits yX8_fits, Cond.code yX8_fits cX8_fits 8 (some .boolean), Cond.fieldLink RX8 16 "QuietStairsModel" "rooms" "I"]
noncomputable def wsX8_makePlan_r2 : List Cond := [Cond.methodLink RX8 73 yX8_isPair, Cond.instanceMethod yX8_isPair, Cond.selects RX8 yX8_isPair yX8_isPair, Cond.code yX8_isPair cX8_isPair 2 (some .boolean), Cond.methodLink RX8 35 yX8_in, Cond.static yX8_in, Cond.code yX8_in cX8_in 3 (some .boolean), Cond.methodLink RX8 63 yX8_otherOf, Cond.static yX8_otherOf, Cond.code yX8_otherOf cX8_otherOf 1 (some .int), Cond.methodLink RX8 39 yX8_isMediator, Cond.instanceMethod yX8_isMediator, Cond.selects RX8 yX8_isMediator yX8_isMediator, Cond.code yX8_isMediator cX8_isMediator 2 (some .boolean), Cond.methodLink RX8 76 yX8_may, Cond.instanceMethod yX8_may, Cond.selects RX8 yX8_may yX8_may, Cond.code yX8_may cX8_may 9 (some .boolean), Cond.methodLink RX8 66 yX8_oneOf, Cond.static yX8_oneOf, Cond.code yX8_oneOf cX8_oneOf 1 (some .int), Cond.methodLink RX8 69 yX8_mayMeet, Cond.instanceMethod yX8_mayMeet, Cond.selects RX8 yX8_mayMeet yX8_mayMeet]
noncomputable def wsX8_makePlan_r3 : List Cond := [Cond.code yX8_mayMeet cX8_mayMeet 3 (some .boolean)]
noncomputable def wsX8_makePlan : List Cond := Cond.code yX8_makePlan cX8_makePlan 2 none :: ((wsX8_makePlan_r1 ++ (wsX8_makePlan_r2 ++ wsX8_makePlan_r3)) ++ wsX80)
noncomputable def wsX8_plan_r1 : List Cond := [Cond.fieldLink RX8 7 "QuietStairsModel" "s" "[I", Cond.fieldLink RX8 79 "QuietStairsModel" "many" "I", Cond.fieldLink RX8 23 "QuietStairsModel" "planned" "[I", Cond.fieldLink RX8 29 "QuietStairsModel" "best" "[I", Cond.methodLink RX8 50 yX8_isCase, Cond.instanceMethod yX8_isCase, Cond.selects RX8 yX8_isCase yX8_isCase, Cond.initialized RX8, Cond.code yX8_isCase cX8_isCase 2 (some .boolean), Cond.methodLink RX8 35 yX8_in, Cond.static yX8_in, Cond.code yX8_in cX8_in 3 (some .boolean), Cond.methodLink RX8 46 yX8_at, Cond.static yX8_at, Cond.code yX8_at cX8_at 2 (some .int), Cond.methodLink RX8 95 yX8_makePlan, Cond.instanceMethod yX8_makePlan, Cond.selects RX8 yX8_makePlan yX8_makePlan, Cond.code yX8_makePlan cX8_makePlan 2 none, Cond.constant RX8 88 (1000000), Cond.fieldLink RX8 85 "QuietStairsModel" "least" "I", Cond.fieldLink RX8 26 "QuietStairsModel" "tried" "[I", Cond.methodLink RX8 89 yX8_note, Cond.instanceMethod yX8_note]
noncomputable def wsX8_plan_r2 : List Cond := [Cond.selects RX8 yX8_note yX8_note, Cond.code yX8_note cX8_note 3 none, Cond.methodLink RX8 82 yX8_waitsOf, Cond.instanceMethod yX8_waitsOf, Cond.selects RX8 yX8_waitsOf yX8_waitsOf, Cond.code yX8_waitsOf cX8_waitsOf 4 (some .int), Cond.methodLink RX8 92 yX8_fits, Cond.instanceMethod yX8_fits, Cond.selects RX8 yX8_fits yX8_fits, Cond.code yX8_fits cX8_fits 8 (some .boolean), Cond.fieldLink RX8 16 "QuietStairsModel" "rooms" "I", Cond.methodLink RX8 73 yX8_isPair, Cond.instanceMethod yX8_isPair, Cond.selects RX8 yX8_isPair yX8_isPair, Cond.code yX8_isPair cX8_isPair 2 (some .boolean), Cond.methodLink RX8 63 yX8_otherOf, Cond.static yX8_otherOf, Cond.code yX8_otherOf cX8_otherOf 1 (some .int), Cond.methodLink RX8 39 yX8_isMediator, Cond.instanceMethod yX8_isMediator, Cond.selects RX8 yX8_isMediator yX8_isMediator, Cond.code yX8_isMediator cX8_isMediator 2 (some .boolean), Cond.methodLink RX8 76 yX8_may, Cond.instanceMethod yX8_may]
noncomputable def wsX8_plan_r3 : List Cond := [Cond.selects RX8 yX8_may yX8_may, Cond.code yX8_may cX8_may 9 (some .boolean), Cond.methodLink RX8 66 yX8_oneOf, Cond.static yX8_oneOf, Cond.code yX8_oneOf cX8_oneOf 1 (some .int), Cond.methodLink RX8 69 yX8_mayMeet, Cond.instanceMethod yX8_mayMeet, Cond.selects RX8 yX8_mayMeet yX8_mayMeet, Cond.code yX8_mayMeet cX8_mayMeet 3 (some .boolean)]
noncomputable def wsX8_plan : List Cond := Cond.code yX8_plan cX8_plan 3 (some .int) :: ((wsX8_plan_r1 ++ (wsX8_plan_r2 ++ wsX8_plan_r3)) ++ wsX80)
noncomputable def wsX8_waits_r1 : List Cond := [Cond.fieldLink RX8 85 "QuietStairsModel" "least" "I", Cond.methodLink RX8 95 yX8_makePlan, Cond.instanceMethod yX8_makePlan, Cond.selects RX8 yX8_makePlan yX8_makePlan, Cond.initialized RX8, Cond.code yX8_makePlan cX8_makePlan 2 none, Cond.fieldLink RX8 79 "QuietStairsModel" "many" "I", Cond.fieldLink RX8 7 "QuietStairsModel" "s" "[I", Cond.fieldLink RX8 23 "QuietStairsModel" "planned" "[I", Cond.constant RX8 88 (1000000), Cond.fieldLink RX8 26 "QuietStairsModel" "tried" "[I", Cond.methodLink RX8 46 yX8_at, Cond.static yX8_at, Cond.code yX8_at cX8_at 2 (some .int), Cond.methodLink RX8 89 yX8_note, Cond.instanceMethod yX8_note, Cond.selects RX8 yX8_note yX8_note, Cond.code yX8_note cX8_note 3 none, Cond.fieldLink RX8 29 "QuietStairsModel" "best" "[I", Cond.methodLink RX8 82 yX8_waitsOf, Cond.instanceMethod yX8_waitsOf, Cond.selects RX8 yX8_waitsOf yX8_waitsOf, Cond.code yX8_waitsOf cX8_waitsOf 4 (some .int), Cond.methodLink RX8 92 yX8_fits]
noncomputable def wsX8_waits_r2 : List Cond := [Cond.instanceMethod yX8_fits, Cond.selects RX8 yX8_fits yX8_fits, Cond.code yX8_fits cX8_fits 8 (some .boolean), Cond.fieldLink RX8 16 "QuietStairsModel" "rooms" "I", Cond.methodLink RX8 73 yX8_isPair, Cond.instanceMethod yX8_isPair, Cond.selects RX8 yX8_isPair yX8_isPair, Cond.code yX8_isPair cX8_isPair 2 (some .boolean), Cond.methodLink RX8 35 yX8_in, Cond.static yX8_in, Cond.code yX8_in cX8_in 3 (some .boolean), Cond.methodLink RX8 63 yX8_otherOf, Cond.static yX8_otherOf, Cond.code yX8_otherOf cX8_otherOf 1 (some .int), Cond.methodLink RX8 39 yX8_isMediator, Cond.instanceMethod yX8_isMediator, Cond.selects RX8 yX8_isMediator yX8_isMediator, Cond.code yX8_isMediator cX8_isMediator 2 (some .boolean), Cond.methodLink RX8 76 yX8_may, Cond.instanceMethod yX8_may, Cond.selects RX8 yX8_may yX8_may, Cond.code yX8_may cX8_may 9 (some .boolean), Cond.methodLink RX8 66 yX8_oneOf, Cond.static yX8_oneOf]
noncomputable def wsX8_waits_r3 : List Cond := [Cond.code yX8_oneOf cX8_oneOf 1 (some .int), Cond.methodLink RX8 69 yX8_mayMeet, Cond.instanceMethod yX8_mayMeet, Cond.selects RX8 yX8_mayMeet yX8_mayMeet, Cond.code yX8_mayMeet cX8_mayMeet 3 (some .boolean)]
noncomputable def wsX8_waits : List Cond := Cond.code yX8_waits cX8_waits 1 (some .int) :: ((wsX8_waits_r1 ++ (wsX8_waits_r2 ++ wsX8_waits_r3)) ++ wsX80)
noncomputable def wsX8_termAt : List Cond := Cond.code yX8_termAt cX8_termAt 2 (some .int) :: (([] : List Cond))
noncomputable def wsX8_isTerm : List Cond := Cond.code yX8_isTerm cX8_isTerm 3 (some .boolean) :: (([Cond.fieldLink RX8 7 "QuietStairsModel" "s" "[I", Cond.methodLink RX8 50 yX8_isCase, Cond.instanceMethod yX8_isCase, Cond.selects RX8 yX8_isCase yX8_isCase, Cond.initialized RX8, Cond.code yX8_isCase cX8_isCase 2 (some .boolean), Cond.methodLink RX8 35 yX8_in, Cond.static yX8_in, Cond.code yX8_in cX8_in 3 (some .boolean), Cond.methodLink RX8 46 yX8_at, Cond.static yX8_at, Cond.code yX8_at cX8_at 2 (some .int)] : List Cond) ++ wsX80)
noncomputable def wsX8_term : List Cond := Cond.code yX8_term cX8_term 8 (some .int) :: (([Cond.fieldLink RX8 7 "QuietStairsModel" "s" "[I", Cond.methodLink RX8 50 yX8_isCase, Cond.instanceMethod yX8_isCase, Cond.selects RX8 yX8_isCase yX8_isCase, Cond.initialized RX8, Cond.code yX8_isCase cX8_isCase 2 (some .boolean), Cond.methodLink RX8 35 yX8_in, Cond.static yX8_in, Cond.code yX8_in cX8_in 3 (some .boolean), Cond.methodLink RX8 60 yX8_isSide, Cond.static yX8_isSide, Cond.code yX8_isSide cX8_isSide 1 (some .boolean), Cond.methodLink RX8 46 yX8_at, Cond.static yX8_at, Cond.code yX8_at cX8_at 2 (some .int), Cond.methodLink RX8 98 yX8_termAt, Cond.static yX8_termAt, Cond.code yX8_termAt cX8_termAt 2 (some .int)] : List Cond) ++ wsX80)
noncomputable def wsX8_strike : List Cond := Cond.code yX8_strike cX8_strike 2 (some .int) :: (([Cond.fieldLink RX8 7 "QuietStairsModel" "s" "[I", Cond.methodLink RX8 50 yX8_isCase, Cond.instanceMethod yX8_isCase, Cond.selects RX8 yX8_isCase yX8_isCase, Cond.initialized RX8, Cond.code yX8_isCase cX8_isCase 2 (some .boolean), Cond.methodLink RX8 35 yX8_in, Cond.static yX8_in, Cond.code yX8_in cX8_in 3 (some .boolean), Cond.methodLink RX8 46 yX8_at, Cond.static yX8_at, Cond.code yX8_at cX8_at 2 (some .int)] : List Cond) ++ wsX80)
noncomputable def wsX8_termOf : List Cond := Cond.code yX8_termOf cX8_termOf 4 (some .int) :: (([Cond.fieldLink RX8 7 "QuietStairsModel" "s" "[I", Cond.methodLink RX8 101 yX8_isTerm, Cond.instanceMethod yX8_isTerm, Cond.selects RX8 yX8_isTerm yX8_isTerm, Cond.initialized RX8, Cond.code yX8_isTerm cX8_isTerm 3 (some .boolean), Cond.methodLink RX8 50 yX8_isCase, Cond.instanceMethod yX8_isCase, Cond.selects RX8 yX8_isCase yX8_isCase, Cond.code yX8_isCase cX8_isCase 2 (some .boolean), Cond.methodLink RX8 35 yX8_in, Cond.static yX8_in, Cond.code yX8_in cX8_in 3 (some .boolean), Cond.methodLink RX8 46 yX8_at, Cond.static yX8_at, Cond.code yX8_at cX8_at 2 (some .int), Cond.methodLink RX8 98 yX8_termAt, Cond.static yX8_termAt, Cond.code yX8_termAt cX8_termAt 2 (some .int)] : List Cond) ++ wsX80)
noncomputable def wsX8_isOwn : List Cond := Cond.code yX8_isOwn cX8_isOwn 4 (some .boolean) :: (([Cond.fieldLink RX8 7 "QuietStairsModel" "s" "[I", Cond.methodLink RX8 98 yX8_termAt, Cond.static yX8_termAt, Cond.initialized RX8, Cond.code yX8_termAt cX8_termAt 2 (some .int)] : List Cond) ++ wsX80)
noncomputable def wsX8_mayBe : List Cond := Cond.code yX8_mayBe cX8_mayBe 9 (some .boolean) :: (([Cond.fieldLink RX8 7 "QuietStairsModel" "s" "[I", Cond.fieldLink RX8 32 "QuietStairsModel" "hours" "[I", Cond.methodLink RX8 98 yX8_termAt, Cond.static yX8_termAt, Cond.initialized RX8, Cond.code yX8_termAt cX8_termAt 2 (some .int), Cond.methodLink RX8 35 yX8_in, Cond.static yX8_in, Cond.code yX8_in cX8_in 3 (some .boolean)] : List Cond) ++ wsX80)
noncomputable def wsX8_hourFrom : List Cond := Cond.code yX8_hourFrom cX8_hourFrom 6 (some .int) :: (([Cond.fieldLink RX8 32 "QuietStairsModel" "hours" "[I", Cond.fieldLink RX8 7 "QuietStairsModel" "s" "[I", Cond.methodLink RX8 98 yX8_termAt, Cond.static yX8_termAt, Cond.initialized RX8, Cond.code yX8_termAt cX8_termAt 2 (some .int), Cond.methodLink RX8 104 yX8_mayBe, Cond.instanceMethod yX8_mayBe, Cond.selects RX8 yX8_mayBe yX8_mayBe, Cond.code yX8_mayBe cX8_mayBe 9 (some .boolean), Cond.methodLink RX8 35 yX8_in, Cond.static yX8_in, Cond.code yX8_in cX8_in 3 (some .boolean)] : List Cond) ++ wsX80)
noncomputable def wsX8_next : List Cond := Cond.code yX8_next cX8_next 7 (some .int) :: (([Cond.methodLink RX8 35 yX8_in, Cond.static yX8_in, Cond.initialized RX8, Cond.code yX8_in cX8_in 3 (some .boolean), Cond.methodLink RX8 108 yX8_isOwn, Cond.instanceMethod yX8_isOwn, Cond.selects RX8 yX8_isOwn yX8_isOwn, Cond.code yX8_isOwn cX8_isOwn 4 (some .boolean), Cond.fieldLink RX8 7 "QuietStairsModel" "s" "[I", Cond.methodLink RX8 98 yX8_termAt, Cond.static yX8_termAt, Cond.code yX8_termAt cX8_termAt 2 (some .int)] : List Cond) ++ wsX80)
noncomputable def wsX8_makeTable_r1 : List Cond := [Cond.fieldLink RX8 7 "QuietStairsModel" "s" "[I", Cond.fieldLink RX8 32 "QuietStairsModel" "hours" "[I", Cond.methodLink RX8 111 yX8_next, Cond.instanceMethod yX8_next, Cond.selects RX8 yX8_next yX8_next, Cond.initialized RX8, Cond.code yX8_next cX8_next 7 (some .int), Cond.methodLink RX8 35 yX8_in, Cond.static yX8_in, Cond.code yX8_in cX8_in 3 (some .boolean), Cond.methodLink RX8 108 yX8_isOwn, Cond.instanceMethod yX8_isOwn, Cond.selects RX8 yX8_isOwn yX8_isOwn, Cond.code yX8_isOwn cX8_isOwn 4 (some .boolean), Cond.methodLink RX8 98 yX8_termAt, Cond.static yX8_termAt, Cond.code yX8_termAt cX8_termAt 2 (some .int), Cond.methodLink RX8 115 yX8_hourFrom, Cond.instanceMethod yX8_hourFrom, Cond.selects RX8 yX8_hourFrom yX8_hourFrom, Cond.code yX8_hourFrom cX8_hourFrom 6 (some .int), Cond.methodLink RX8 104 yX8_mayBe, Cond.instanceMethod yX8_mayBe, Cond.selects RX8 yX8_mayBe yX8_mayBe]
noncomputable def wsX8_makeTable_r2 : List Cond := [Cond.code yX8_mayBe cX8_mayBe 9 (some .boolean)]
noncomputable def wsX8_makeTable : List Cond := Cond.code yX8_makeTable cX8_makeTable 7 (some .boolean) :: ((wsX8_makeTable_r1 ++ wsX8_makeTable_r2) ++ wsX80)
noncomputable def wsX8_hour_r1 : List Cond := [Cond.fieldLink RX8 7 "QuietStairsModel" "s" "[I", Cond.fieldLink RX8 32 "QuietStairsModel" "hours" "[I", Cond.methodLink RX8 101 yX8_isTerm, Cond.instanceMethod yX8_isTerm, Cond.selects RX8 yX8_isTerm yX8_isTerm, Cond.initialized RX8, Cond.code yX8_isTerm cX8_isTerm 3 (some .boolean), Cond.methodLink RX8 50 yX8_isCase, Cond.instanceMethod yX8_isCase, Cond.selects RX8 yX8_isCase yX8_isCase, Cond.code yX8_isCase cX8_isCase 2 (some .boolean), Cond.methodLink RX8 35 yX8_in, Cond.static yX8_in, Cond.code yX8_in cX8_in 3 (some .boolean), Cond.methodLink RX8 46 yX8_at, Cond.static yX8_at, Cond.code yX8_at cX8_at 2 (some .int), Cond.methodLink RX8 98 yX8_termAt, Cond.static yX8_termAt, Cond.code yX8_termAt cX8_termAt 2 (some .int), Cond.methodLink RX8 118 yX8_makeTable, Cond.instanceMethod yX8_makeTable, Cond.selects RX8 yX8_makeTable yX8_makeTable, Cond.code yX8_makeTable cX8_makeTable 7 (some .boolean)]
noncomputable def wsX8_hour_r2 : List Cond := [Cond.methodLink RX8 111 yX8_next, Cond.instanceMethod yX8_next, Cond.selects RX8 yX8_next yX8_next, Cond.code yX8_next cX8_next 7 (some .int), Cond.methodLink RX8 108 yX8_isOwn, Cond.instanceMethod yX8_isOwn, Cond.selects RX8 yX8_isOwn yX8_isOwn, Cond.code yX8_isOwn cX8_isOwn 4 (some .boolean), Cond.methodLink RX8 115 yX8_hourFrom, Cond.instanceMethod yX8_hourFrom, Cond.selects RX8 yX8_hourFrom yX8_hourFrom, Cond.code yX8_hourFrom cX8_hourFrom 6 (some .int), Cond.methodLink RX8 104 yX8_mayBe, Cond.instanceMethod yX8_mayBe, Cond.selects RX8 yX8_mayBe yX8_mayBe, Cond.code yX8_mayBe cX8_mayBe 9 (some .boolean)]
noncomputable def wsX8_hour : List Cond := Cond.code yX8_hour cX8_hour 4 (some .int) :: ((wsX8_hour_r1 ++ wsX8_hour_r2) ++ wsX80)
noncomputable def wsX8_canHold_r1 : List Cond := [Cond.fieldLink RX8 7 "QuietStairsModel" "s" "[I", Cond.methodLink RX8 50 yX8_isCase, Cond.instanceMethod yX8_isCase, Cond.selects RX8 yX8_isCase yX8_isCase, Cond.initialized RX8, Cond.code yX8_isCase cX8_isCase 2 (some .boolean), Cond.methodLink RX8 35 yX8_in, Cond.static yX8_in, Cond.code yX8_in cX8_in 3 (some .boolean), Cond.methodLink RX8 60 yX8_isSide, Cond.static yX8_isSide, Cond.code yX8_isSide cX8_isSide 1 (some .boolean), Cond.methodLink RX8 46 yX8_at, Cond.static yX8_at, Cond.code yX8_at cX8_at 2 (some .int), Cond.methodLink RX8 118 yX8_makeTable, Cond.instanceMethod yX8_makeTable, Cond.selects RX8 yX8_makeTable yX8_makeTable, Cond.code yX8_makeTable cX8_makeTable 7 (some .boolean), Cond.fieldLink RX8 32 "QuietStairsModel" "hours" "[I", Cond.methodLink RX8 111 yX8_next, Cond.instanceMethod yX8_next, Cond.selects RX8 yX8_next yX8_next, Cond.code yX8_next cX8_next 7 (some .int)]
noncomputable def wsX8_canHold_r2 : List Cond := [Cond.methodLink RX8 108 yX8_isOwn, Cond.instanceMethod yX8_isOwn, Cond.selects RX8 yX8_isOwn yX8_isOwn, Cond.code yX8_isOwn cX8_isOwn 4 (some .boolean), Cond.methodLink RX8 98 yX8_termAt, Cond.static yX8_termAt, Cond.code yX8_termAt cX8_termAt 2 (some .int), Cond.methodLink RX8 115 yX8_hourFrom, Cond.instanceMethod yX8_hourFrom, Cond.selects RX8 yX8_hourFrom yX8_hourFrom, Cond.code yX8_hourFrom cX8_hourFrom 6 (some .int), Cond.methodLink RX8 104 yX8_mayBe, Cond.instanceMethod yX8_mayBe, Cond.selects RX8 yX8_mayBe yX8_mayBe, Cond.code yX8_mayBe cX8_mayBe 9 (some .boolean)]
noncomputable def wsX8_canHold : List Cond := Cond.code yX8_canHold cX8_canHold 3 (some .int) :: ((wsX8_canHold_r1 ++ wsX8_canHold_r2) ++ wsX80)
noncomputable def wsX8_breaks_r1 : List Cond := [Cond.fieldLink RX8 7 "QuietStairsModel" "s" "[I", Cond.methodLink RX8 50 yX8_isCase, Cond.instanceMethod yX8_isCase, Cond.selects RX8 yX8_isCase yX8_isCase, Cond.initialized RX8, Cond.code yX8_isCase cX8_isCase 2 (some .boolean), Cond.methodLink RX8 35 yX8_in, Cond.static yX8_in, Cond.code yX8_in cX8_in 3 (some .boolean), Cond.methodLink RX8 60 yX8_isSide, Cond.static yX8_isSide, Cond.code yX8_isSide cX8_isSide 1 (some .boolean), Cond.methodLink RX8 46 yX8_at, Cond.static yX8_at, Cond.code yX8_at cX8_at 2 (some .int), Cond.methodLink RX8 98 yX8_termAt, Cond.static yX8_termAt, Cond.code yX8_termAt cX8_termAt 2 (some .int), Cond.methodLink RX8 118 yX8_makeTable, Cond.instanceMethod yX8_makeTable, Cond.selects RX8 yX8_makeTable yX8_makeTable, Cond.code yX8_makeTable cX8_makeTable 7 (some .boolean), Cond.fieldLink RX8 32 "QuietStairsModel" "hours" "[I", Cond.methodLink RX8 111 yX8_next]
noncomputable def wsX8_breaks_r2 : List Cond := [Cond.instanceMethod yX8_next, Cond.selects RX8 yX8_next yX8_next, Cond.code yX8_next cX8_next 7 (some .int), Cond.methodLink RX8 108 yX8_isOwn, Cond.instanceMethod yX8_isOwn, Cond.selects RX8 yX8_isOwn yX8_isOwn, Cond.code yX8_isOwn cX8_isOwn 4 (some .boolean), Cond.methodLink RX8 115 yX8_hourFrom, Cond.instanceMethod yX8_hourFrom, Cond.selects RX8 yX8_hourFrom yX8_hourFrom, Cond.code yX8_hourFrom cX8_hourFrom 6 (some .int), Cond.methodLink RX8 104 yX8_mayBe, Cond.instanceMethod yX8_mayBe, Cond.selects RX8 yX8_mayBe yX8_mayBe, Cond.code yX8_mayBe cX8_mayBe 9 (some .boolean)]
noncomputable def wsX8_breaks : List Cond := Cond.code yX8_breaks cX8_breaks 4 (some .int) :: ((wsX8_breaks_r1 ++ wsX8_breaks_r2) ++ wsX80)
noncomputable def wsX8_log : List Cond := Cond.code yX8_log cX8_log 7 (some .int) :: (([Cond.fieldLink RX8 7 "QuietStairsModel" "s" "[I", Cond.methodLink RX8 50 yX8_isCase, Cond.instanceMethod yX8_isCase, Cond.selects RX8 yX8_isCase yX8_isCase, Cond.initialized RX8, Cond.code yX8_isCase cX8_isCase 2 (some .boolean), Cond.methodLink RX8 35 yX8_in, Cond.static yX8_in, Cond.code yX8_in cX8_in 3 (some .boolean), Cond.methodLink RX8 60 yX8_isSide, Cond.static yX8_isSide, Cond.code yX8_isSide cX8_isSide 1 (some .boolean)] : List Cond) ++ wsX80)
noncomputable def wsX8_judge : List Cond := Cond.code yX8_judge cX8_judge 8 (some .int) :: (([Cond.fieldLink RX8 7 "QuietStairsModel" "s" "[I", Cond.methodLink RX8 98 yX8_termAt, Cond.static yX8_termAt, Cond.initialized RX8, Cond.code yX8_termAt cX8_termAt 2 (some .int)] : List Cond) ++ wsX80)
noncomputable def wsX8_judged : List Cond := Cond.code yX8_judged cX8_judged 3 (some .int) :: (([Cond.methodLink RX8 101 yX8_isTerm, Cond.instanceMethod yX8_isTerm, Cond.selects RX8 yX8_isTerm yX8_isTerm, Cond.initialized RX8, Cond.code yX8_isTerm cX8_isTerm 3 (some .boolean), Cond.fieldLink RX8 7 "QuietStairsModel" "s" "[I", Cond.methodLink RX8 50 yX8_isCase, Cond.instanceMethod yX8_isCase, Cond.selects RX8 yX8_isCase yX8_isCase, Cond.code yX8_isCase cX8_isCase 2 (some .boolean), Cond.methodLink RX8 35 yX8_in, Cond.static yX8_in, Cond.code yX8_in cX8_in 3 (some .boolean), Cond.methodLink RX8 46 yX8_at, Cond.static yX8_at, Cond.code yX8_at cX8_at 2 (some .int), Cond.methodLink RX8 121 yX8_judge, Cond.instanceMethod yX8_judge, Cond.selects RX8 yX8_judge yX8_judge, Cond.code yX8_judge cX8_judge 8 (some .int), Cond.methodLink RX8 98 yX8_termAt, Cond.static yX8_termAt, Cond.code yX8_termAt cX8_termAt 2 (some .int)] : List Cond) ++ wsX80)
noncomputable def wsX8_casesThat : List Cond := Cond.code yX8_casesThat cX8_casesThat 4 (some .int) :: (([Cond.fieldLink RX8 7 "QuietStairsModel" "s" "[I", Cond.methodLink RX8 46 yX8_at, Cond.static yX8_at, Cond.initialized RX8, Cond.code yX8_at cX8_at 2 (some .int)] : List Cond) ++ wsX80)
noncomputable def wsX8_quarrels : List Cond := Cond.code yX8_quarrels cX8_quarrels 3 (some .int) :: (([Cond.fieldLink RX8 7 "QuietStairsModel" "s" "[I", Cond.fieldLink RX8 20 "QuietStairsModel" "headOf" "[I", Cond.methodLink RX8 53 yX8_findHeads, Cond.instanceMethod yX8_findHeads, Cond.selects RX8 yX8_findHeads yX8_findHeads, Cond.initialized RX8, Cond.code yX8_findHeads cX8_findHeads 6 none] : List Cond) ++ wsX80)
noncomputable def wsX8_termsThat : List Cond := Cond.code yX8_termsThat cX8_termsThat 5 (some .int) :: (([Cond.fieldLink RX8 7 "QuietStairsModel" "s" "[I", Cond.methodLink RX8 46 yX8_at, Cond.static yX8_at, Cond.initialized RX8, Cond.code yX8_at cX8_at 2 (some .int), Cond.methodLink RX8 121 yX8_judge, Cond.instanceMethod yX8_judge, Cond.selects RX8 yX8_judge yX8_judge, Cond.code yX8_judge cX8_judge 8 (some .int), Cond.methodLink RX8 98 yX8_termAt, Cond.static yX8_termAt, Cond.code yX8_termAt cX8_termAt 2 (some .int)] : List Cond) ++ wsX80)
noncomputable def wsX8_many_r1 : List Cond := [Cond.fieldLink RX8 7 "QuietStairsModel" "s" "[I", Cond.methodLink RX8 124 yX8_casesThat, Cond.instanceMethod yX8_casesThat, Cond.selects RX8 yX8_casesThat yX8_casesThat, Cond.initialized RX8, Cond.code yX8_casesThat cX8_casesThat 4 (some .int), Cond.methodLink RX8 46 yX8_at, Cond.static yX8_at, Cond.code yX8_at cX8_at 2 (some .int), Cond.methodLink RX8 127 yX8_quarrels, Cond.instanceMethod yX8_quarrels, Cond.selects RX8 yX8_quarrels yX8_quarrels, Cond.code yX8_quarrels cX8_quarrels 3 (some .int), Cond.fieldLink RX8 20 "QuietStairsModel" "headOf" "[I", Cond.methodLink RX8 53 yX8_findHeads, Cond.instanceMethod yX8_findHeads, Cond.selects RX8 yX8_findHeads yX8_findHeads, Cond.code yX8_findHeads cX8_findHeads 6 none, Cond.methodLink RX8 131 yX8_termsThat, Cond.instanceMethod yX8_termsThat, Cond.selects RX8 yX8_termsThat yX8_termsThat, Cond.code yX8_termsThat cX8_termsThat 5 (some .int), Cond.methodLink RX8 121 yX8_judge, Cond.instanceMethod yX8_judge]
noncomputable def wsX8_many_r2 : List Cond := [Cond.selects RX8 yX8_judge yX8_judge, Cond.code yX8_judge cX8_judge 8 (some .int), Cond.methodLink RX8 98 yX8_termAt, Cond.static yX8_termAt, Cond.code yX8_termAt cX8_termAt 2 (some .int)]
noncomputable def wsX8_many : List Cond := Cond.code yX8_many cX8_many 2 (some .int) :: ((wsX8_many_r1 ++ wsX8_many_r2) ++ wsX80)
noncomputable def wsX8_keep : List Cond := Cond.code yX8_keep cX8_keep 2 (some .int) :: (([Cond.fieldLink RX8 13 "QuietStairsModel" "kept" "[I", Cond.fieldLink RX8 7 "QuietStairsModel" "s" "[I", Cond.fieldLink RX8 134 "QuietStairsModel" "isKept" "Z"] : List Cond) ++ wsX80)
noncomputable def wsX8_back : List Cond := Cond.code yX8_back cX8_back 2 (some .int) :: (([Cond.fieldLink RX8 134 "QuietStairsModel" "isKept" "Z", Cond.fieldLink RX8 7 "QuietStairsModel" "s" "[I", Cond.fieldLink RX8 13 "QuietStairsModel" "kept" "[I"] : List Cond) ++ wsX80)
noncomputable def wsJ9_max_7cf53 : List Cond := Cond.code yJ9_max_7cf53 cJ9_max_7cf53 2 (some .int) :: (([] : List Cond))
noncomputable def wsJ9_min_7cf53 : List Cond := Cond.code yJ9_min_7cf53 cJ9_min_7cf53 2 (some .int) :: (([] : List Cond))
abbrev vwCl : List vw_C := [(RX0, TX0, 11), (RX1, TX1, 7), (RX2, TX2, 3), (RX3, TX3, 2), (RX4, TX4, 11), (RX5, TX5, 3), (RX6, TX6, 5), (RX7, TX7, 5), (RX8, TX8, 11)]
theorem iwX7_isParty_X7 : ∀ w ∈ wsX70, w ∈ wsX7_isParty := fun _ h => List.mem_cons_of_mem _ (List.mem_append_left _ (List.mem_append_right _ h))
theorem fwX7_isParty_1 : Cond.fieldLink RX7 12 "QuietStairs" "now" "LQuietStairs$House;" ∈ wsX7_isParty := List.mem_of_getElem? (i := 1) rfl
theorem iwX7_isParty_X1 : ∀ w ∈ wsX10, w ∈ wsX7_isParty := fun _ h => List.mem_cons_of_mem _ (List.mem_append_right _ h)
theorem fwX7_isParty_2 : Cond.fieldLink RX7 41 "QuietStairs$House" "partyCount" "I" ∈ wsX7_isParty := List.mem_of_getElem? (i := 2) rfl
theorem cn_RX7 : RX7 ≠ "java/lang/invoke/MethodHandle" ∧ RX7 ≠ "java/lang/invoke/VarHandle" := ⟨fun e => absurd (String.ofList_injective (show String.ofList ['Q', 'u', 'i', 'e', 't', 'S', 't', 'a', 'i', 'r', 's'] = String.ofList ['j', 'a', 'v', 'a', '/', 'l', 'a', 'n', 'g', '/', 'i', 'n', 'v', 'o', 'k', 'e', '/', 'M', 'e', 't', 'h', 'o', 'd', 'H', 'a', 'n', 'd', 'l', 'e'] from e)) (by decide +kernel), fun e => absurd (String.ofList_injective (show String.ofList ['Q', 'u', 'i', 'e', 't', 'S', 't', 'a', 'i', 'r', 's'] = String.ofList ['j', 'a', 'v', 'a', '/', 'l', 'a', 'n', 'g', '/', 'i', 'n', 'v', 'o', 'k', 'e', '/', 'V', 'a', 'r', 'H', 'a', 'n', 'd', 'l', 'e'] from e)) (by decide +kernel)⟩
theorem pm__III_Z_3 : (parseMethodDescriptor "(III)Z").map (fun d => d.parameters.length) = some 3 := by decide +kernel
theorem hd_S_X7_isWithin_3 : yX7_isWithin.cls = RX7 ∧ yX7_isWithin.cls ≠ "java/lang/invoke/MethodHandle" ∧ yX7_isWithin.cls ≠ "java/lang/invoke/VarHandle" ∧ (parseMethodDescriptor yX7_isWithin.desc).map (fun d => d.parameters.length) = some 3 := ⟨rfl, cn_RX7.1, cn_RX7.2, pm__III_Z_3⟩
theorem iwX7_isMediator_X7 : ∀ w ∈ wsX70, w ∈ wsX7_isMediator := fun _ h => List.mem_cons_of_mem _ (List.mem_append_left _ (List.mem_append_right _ h))
theorem fwX7_isMediator_1 : Cond.fieldLink RX7 12 "QuietStairs" "now" "LQuietStairs$House;" ∈ wsX7_isMediator := List.mem_of_getElem? (i := 1) rfl
theorem iwX7_isMediator_X1 : ∀ w ∈ wsX10, w ∈ wsX7_isMediator := fun _ h => List.mem_cons_of_mem _ (List.mem_append_right _ h)
theorem fwX7_isMediator_2 : Cond.fieldLink RX7 56 "QuietStairs$House" "mediatorCount" "I" ∈ wsX7_isMediator := List.mem_of_getElem? (i := 2) rfl
theorem iwX7_isCase_X7 : ∀ w ∈ wsX70, w ∈ wsX7_isCase := fun _ h => List.mem_cons_of_mem _ (List.mem_append_left _ (List.mem_append_right _ h))
theorem fwX7_isCase_1 : Cond.fieldLink RX7 12 "QuietStairs" "now" "LQuietStairs$House;" ∈ wsX7_isCase := List.mem_of_getElem? (i := 1) rfl
theorem iwX7_isCase_X1 : ∀ w ∈ wsX10, w ∈ wsX7_isCase := fun _ h => List.mem_cons_of_mem _ (List.mem_append_right _ h)
theorem fwX7_isCase_2 : Cond.fieldLink RX7 83 "QuietStairs$House" "caseCount" "I" ∈ wsX7_isCase := List.mem_of_getElem? (i := 2) rfl
theorem pm__I_Z_1 : (parseMethodDescriptor "(I)Z").map (fun d => d.parameters.length) = some 1 := by decide +kernel
theorem hd_V_X7_isCase_1 : yX7_isCase.cls = RX7 ∧ yX7_isCase.cls ≠ "java/lang/invoke/MethodHandle" ∧ yX7_isCase.cls ≠ "java/lang/invoke/VarHandle" ∧ (parseMethodDescriptor yX7_isCase.desc).map (fun d => d.parameters.length) = some 1 := ⟨rfl, cn_RX7.1, cn_RX7.2, pm__I_Z_1⟩
theorem hd_S_X7_isSide_1 : yX7_isSide.cls = RX7 ∧ yX7_isSide.cls ≠ "java/lang/invoke/MethodHandle" ∧ yX7_isSide.cls ≠ "java/lang/invoke/VarHandle" ∧ (parseMethodDescriptor yX7_isSide.desc).map (fun d => d.parameters.length) = some 1 := ⟨rfl, cn_RX7.1, cn_RX7.2, pm__I_Z_1⟩
theorem iwX7_put_X7 : ∀ w ∈ wsX70, w ∈ wsX7_put := fun _ h => List.mem_cons_of_mem _ (List.mem_append_left _ (List.mem_append_left _ (List.mem_append_right _ h)))
theorem fwX7_put_1 : Cond.fieldLink RX7 12 "QuietStairs" "now" "LQuietStairs$House;" ∈ wsX7_put := List.mem_of_getElem? (i := 1) rfl
theorem iwX7_put_X1 : ∀ w ∈ wsX10, w ∈ wsX7_put := fun _ h => List.mem_cons_of_mem _ (List.mem_append_left _ (List.mem_append_right _ h))
theorem fwX7_put_2 : Cond.fieldLink RX7 86 "QuietStairs$House" "cases" "[LQuietStairs$Case;" ∈ wsX7_put := List.mem_of_getElem? (i := 2) rfl
theorem iwX7_put_X0 : ∀ w ∈ wsX00, w ∈ wsX7_put := fun _ h => List.mem_cons_of_mem _ (List.mem_append_right _ h)
theorem fwX7_put_3 : Cond.fieldLink RX7 135 "QuietStairs$Case" "box" "[I" ∈ wsX7_put := List.mem_of_getElem? (i := 3) rfl
theorem iwX1_countState_X1 : ∀ w ∈ wsX10, w ∈ wsX1_countState := fun _ h => List.mem_cons_of_mem _ (List.mem_append_left _ (List.mem_append_right _ h))
theorem fwX1_countState_1 : Cond.fieldLink RX1 66 "QuietStairs$House" "caseCount" "I" ∈ wsX1_countState := List.mem_of_getElem? (i := 1) rfl
theorem fwX1_countState_2 : Cond.fieldLink RX1 25 "QuietStairs$House" "cases" "[LQuietStairs$Case;" ∈ wsX1_countState := List.mem_of_getElem? (i := 2) rfl
theorem iwX1_countState_X0 : ∀ w ∈ wsX00, w ∈ wsX1_countState := fun _ h => List.mem_cons_of_mem _ (List.mem_append_right _ h)
theorem fwX1_countState_3 : Cond.fieldLink RX1 79 "QuietStairs$Case" "state" "I" ∈ wsX1_countState := List.mem_of_getElem? (i := 3) rfl
theorem iwX1_countTerms_X1 : ∀ w ∈ wsX10, w ∈ wsX1_countTerms := fun _ h => List.mem_cons_of_mem _ (List.mem_append_left _ (List.mem_append_right _ h))
theorem fwX1_countTerms_1 : Cond.fieldLink RX1 66 "QuietStairs$House" "caseCount" "I" ∈ wsX1_countTerms := List.mem_of_getElem? (i := 1) rfl
theorem fwX1_countTerms_2 : Cond.fieldLink RX1 25 "QuietStairs$House" "cases" "[LQuietStairs$Case;" ∈ wsX1_countTerms := List.mem_of_getElem? (i := 2) rfl
theorem iwX1_countTerms_X0 : ∀ w ∈ wsX00, w ∈ wsX1_countTerms := fun _ h => List.mem_cons_of_mem _ (List.mem_append_right _ h)
theorem fwX1_countTerms_3 : Cond.fieldLink RX1 82 "QuietStairs$Case" "termCount" "I" ∈ wsX1_countTerms := List.mem_of_getElem? (i := 3) rfl
theorem iwX7_isTerm_X7 : ∀ w ∈ wsX70, w ∈ wsX7_isTerm := fun _ h => List.mem_cons_of_mem _ (List.mem_append_left _ (List.mem_append_left _ (List.mem_append_right _ h)))
theorem fwX7_isTerm_1 : Cond.fieldLink RX7 12 "QuietStairs" "now" "LQuietStairs$House;" ∈ wsX7_isTerm := List.mem_of_getElem? (i := 1) rfl
theorem iwX7_isTerm_X1 : ∀ w ∈ wsX10, w ∈ wsX7_isTerm := fun _ h => List.mem_cons_of_mem _ (List.mem_append_left _ (List.mem_append_right _ h))
theorem fwX7_isTerm_2 : Cond.fieldLink RX7 86 "QuietStairs$House" "cases" "[LQuietStairs$Case;" ∈ wsX7_isTerm := List.mem_of_getElem? (i := 2) rfl
theorem iwX7_isTerm_X0 : ∀ w ∈ wsX00, w ∈ wsX7_isTerm := fun _ h => List.mem_cons_of_mem _ (List.mem_append_right _ h)
theorem fwX7_isTerm_3 : Cond.fieldLink RX7 169 "QuietStairs$Case" "termCount" "I" ∈ wsX7_isTerm := List.mem_of_getElem? (i := 3) rfl
theorem iwX0_hasMet_X0 : ∀ w ∈ wsX00, w ∈ wsX0_hasMet := fun _ h => List.mem_cons_of_mem _ (List.mem_append_right _ h)
theorem fwX0_hasMet_1 : Cond.fieldLink RX0 33 "QuietStairs$Case" "state" "I" ∈ wsX0_hasMet := List.mem_of_getElem? (i := 1) rfl
theorem fwX0_hasMet_2 : Cond.fieldLink RX0 40 "QuietStairs$Case" "roundsOver" "I" ∈ wsX0_hasMet := List.mem_of_getElem? (i := 2) rfl
theorem iwX0_leastOfOther_X0 : ∀ w ∈ wsX00, w ∈ wsX0_leastOfOther := fun _ h => List.mem_cons_of_mem _ (List.mem_append_right _ h)
theorem fwX0_leastOfOther_1 : Cond.fieldLink RX0 20 "QuietStairs$Case" "offers" "[[I" ∈ wsX0_leastOfOther := List.mem_of_getElem? (i := 1) rfl
theorem cn_RX0 : RX0 ≠ "java/lang/invoke/MethodHandle" ∧ RX0 ≠ "java/lang/invoke/VarHandle" := ⟨fun e => absurd (String.ofList_injective (show String.ofList ['Q', 'u', 'i', 'e', 't', 'S', 't', 'a', 'i', 'r', 's', '$', 'C', 'a', 's', 'e'] = String.ofList ['j', 'a', 'v', 'a', '/', 'l', 'a', 'n', 'g', '/', 'i', 'n', 'v', 'o', 'k', 'e', '/', 'M', 'e', 't', 'h', 'o', 'd', 'H', 'a', 'n', 'd', 'l', 'e'] from e)) (by decide +kernel), fun e => absurd (String.ofList_injective (show String.ofList ['Q', 'u', 'i', 'e', 't', 'S', 't', 'a', 'i', 'r', 's', '$', 'C', 'a', 's', 'e'] = String.ofList ['j', 'a', 'v', 'a', '/', 'l', 'a', 'n', 'g', '/', 'i', 'n', 'v', 'o', 'k', 'e', '/', 'V', 'a', 'r', 'H', 'a', 'n', 'd', 'l', 'e'] from e)) (by decide +kernel)⟩
theorem hd_V_X0_hasMet_1 : yX0_hasMet.cls = RX0 ∧ yX0_hasMet.cls ≠ "java/lang/invoke/MethodHandle" ∧ yX0_hasMet.cls ≠ "java/lang/invoke/VarHandle" ∧ (parseMethodDescriptor yX0_hasMet.desc).map (fun d => d.parameters.length) = some 1 := ⟨rfl, cn_RX0.1, cn_RX0.2, pm__I_Z_1⟩
theorem fwX0_leastOfOther_2 : Cond.fieldLink RX0 37 "QuietStairs$Case" "sum" "I" ∈ wsX0_leastOfOther := List.mem_of_getElem? (i := 2) rfl
theorem fwX0_leastOfOther_3 : Cond.methodLink RX0 56 Lib.Math.max.name ∈ wsX0_leastOfOther := List.mem_of_getElem? (i := 3) rfl
theorem fwX0_leastOfOther_4 : Cond.static Lib.Math.max.name ∈ wsX0_leastOfOther := List.mem_of_getElem? (i := 4) rfl
theorem fwX0_leastOfOther_5 : Cond.initialized "java/lang/Math" ∈ wsX0_leastOfOther := List.mem_of_getElem? (i := 5) rfl
theorem fwX0_leastOfOther_6 : Cond.code Lib.Math.max.name Lib.Math.max.code 2 (some .int) ∈ wsX0_leastOfOther := List.mem_of_getElem? (i := 6) rfl
theorem iwX0_greatestOfOther_X0 : ∀ w ∈ wsX00, w ∈ wsX0_greatestOfOther := fun _ h => List.mem_cons_of_mem _ (List.mem_append_right _ h)
theorem fwX0_greatestOfOther_1 : Cond.fieldLink RX0 20 "QuietStairs$Case" "offers" "[[I" ∈ wsX0_greatestOfOther := List.mem_of_getElem? (i := 1) rfl
theorem fwX0_greatestOfOther_2 : Cond.fieldLink RX0 37 "QuietStairs$Case" "sum" "I" ∈ wsX0_greatestOfOther := List.mem_of_getElem? (i := 2) rfl
theorem fwX0_greatestOfOther_3 : Cond.methodLink RX0 62 Lib.Math.min.name ∈ wsX0_greatestOfOther := List.mem_of_getElem? (i := 3) rfl
theorem fwX0_greatestOfOther_4 : Cond.static Lib.Math.min.name ∈ wsX0_greatestOfOther := List.mem_of_getElem? (i := 4) rfl
theorem fwX0_greatestOfOther_5 : Cond.initialized "java/lang/Math" ∈ wsX0_greatestOfOther := List.mem_of_getElem? (i := 5) rfl
theorem fwX0_greatestOfOther_6 : Cond.code Lib.Math.min.name Lib.Math.min.code 2 (some .int) ∈ wsX0_greatestOfOther := List.mem_of_getElem? (i := 6) rfl
theorem fwJ6_bitCount_0f7a4_1 : Cond.constant RJ6 265 (1431655765) ∈ wsJ6_bitCount_0f7a4 := List.mem_of_getElem? (i := 1) rfl
theorem fwJ6_bitCount_0f7a4_2 : Cond.constant RJ6 266 (858993459) ∈ wsJ6_bitCount_0f7a4 := List.mem_of_getElem? (i := 2) rfl
theorem fwJ6_bitCount_0f7a4_3 : Cond.constant RJ6 267 (252645135) ∈ wsJ6_bitCount_0f7a4 := List.mem_of_getElem? (i := 3) rfl
theorem iwX0_judge_X0 : ∀ w ∈ wsX00, w ∈ wsX0_judge := fun _ h => List.mem_cons_of_mem _ (List.mem_append_left _ (List.mem_append_right _ h))
theorem fwX0_judge_1 : Cond.fieldLink RX0 28 "QuietStairs$Case" "terms" "[LQuietStairs$Term;" ∈ wsX0_judge := List.mem_of_getElem? (i := 1) rfl
theorem iwX0_judge_X6 : ∀ w ∈ wsX60, w ∈ wsX0_judge := fun _ h => List.mem_cons_of_mem _ (List.mem_append_right _ h)
theorem fwX0_judge_2 : Cond.fieldLink RX0 65 "QuietStairs$Term" "first" "I" ∈ wsX0_judge := List.mem_of_getElem? (i := 2) rfl
theorem fwX0_judge_3 : Cond.fieldLink RX0 68 "QuietStairs$Term" "last" "I" ∈ wsX0_judge := List.mem_of_getElem? (i := 3) rfl
theorem fwX0_judge_7 : Cond.fieldLink RX0 77 "QuietStairs$Term" "must" "Z" ∈ wsX0_judge := List.mem_of_getElem? (i := 7) rfl
theorem fwX0_judge_4 : Cond.fieldLink RX0 23 "QuietStairs$Case" "logs" "[[I" ∈ wsX0_judge := List.mem_of_getElem? (i := 4) rfl
theorem fwX0_judge_5 : Cond.fieldLink RX0 71 "QuietStairs$Term" "side" "I" ∈ wsX0_judge := List.mem_of_getElem? (i := 5) rfl
theorem fwX0_judge_6 : Cond.fieldLink RX0 74 "QuietStairs$Term" "act" "I" ∈ wsX0_judge := List.mem_of_getElem? (i := 6) rfl
theorem iwX1_quarrelBits_X1 : ∀ w ∈ wsX10, w ∈ wsX1_quarrelBits := fun _ h => List.mem_cons_of_mem _ (List.mem_append_left _ (List.mem_append_right _ h))
theorem fwX1_quarrelBits_1 : Cond.fieldLink RX1 66 "QuietStairs$House" "caseCount" "I" ∈ wsX1_quarrelBits := List.mem_of_getElem? (i := 1) rfl
theorem fwX1_quarrelBits_5 : Cond.initialized RX7 ∈ wsX1_quarrelBits := List.mem_of_getElem? (i := 5) rfl
theorem fwX1_quarrelBits_4 : Cond.static yX7_hasBit ∈ wsX1_quarrelBits := List.mem_of_getElem? (i := 4) rfl
theorem fwX1_quarrelBits_2 : Cond.fieldLink RX1 25 "QuietStairs$House" "cases" "[LQuietStairs$Case;" ∈ wsX1_quarrelBits := List.mem_of_getElem? (i := 2) rfl
theorem iwX1_quarrelBits_X0 : ∀ w ∈ wsX00, w ∈ wsX1_quarrelBits := fun _ h => List.mem_cons_of_mem _ (List.mem_append_right _ h)
theorem fwX1_quarrelBits_3 : Cond.fieldLink RX1 69 "QuietStairs$Case" "markedBits" "I" ∈ wsX1_quarrelBits := List.mem_of_getElem? (i := 3) rfl
theorem cn_RX1 : RX1 ≠ "java/lang/invoke/MethodHandle" ∧ RX1 ≠ "java/lang/invoke/VarHandle" := ⟨fun e => absurd (String.ofList_injective (show String.ofList ['Q', 'u', 'i', 'e', 't', 'S', 't', 'a', 'i', 'r', 's', '$', 'H', 'o', 'u', 's', 'e'] = String.ofList ['j', 'a', 'v', 'a', '/', 'l', 'a', 'n', 'g', '/', 'i', 'n', 'v', 'o', 'k', 'e', '/', 'M', 'e', 't', 'h', 'o', 'd', 'H', 'a', 'n', 'd', 'l', 'e'] from e)) (by decide +kernel), fun e => absurd (String.ofList_injective (show String.ofList ['Q', 'u', 'i', 'e', 't', 'S', 't', 'a', 'i', 'r', 's', '$', 'H', 'o', 'u', 's', 'e'] = String.ofList ['j', 'a', 'v', 'a', '/', 'l', 'a', 'n', 'g', '/', 'i', 'n', 'v', 'o', 'k', 'e', '/', 'V', 'a', 'r', 'H', 'a', 'n', 'd', 'l', 'e'] from e)) (by decide +kernel)⟩
theorem pm__I_I_1 : (parseMethodDescriptor "(I)I").map (fun d => d.parameters.length) = some 1 := by decide +kernel
theorem hd_V_X1_quarrelBits_1 : yX1_quarrelBits.cls = RX1 ∧ yX1_quarrelBits.cls ≠ "java/lang/invoke/MethodHandle" ∧ yX1_quarrelBits.cls ≠ "java/lang/invoke/VarHandle" ∧ (parseMethodDescriptor yX1_quarrelBits.desc).map (fun d => d.parameters.length) = some 1 := ⟨rfl, cn_RX1.1, cn_RX1.2, pm__I_I_1⟩
theorem fwX1_headOfQuarrel_10 : Cond.initialized RX7 ∈ wsX1_headOfQuarrel := List.mem_of_getElem? (i := 10) rfl
theorem fwX1_headOfQuarrel_9 : Cond.static yX7_hasBit ∈ wsX1_headOfQuarrel := List.mem_of_getElem? (i := 9) rfl
theorem iwX1_countQuarrels_X1 : ∀ w ∈ wsX10, w ∈ wsX1_countQuarrels := fun _ h => List.mem_cons_of_mem _ (List.mem_append_left _ (List.mem_append_right _ h))
theorem fwX1_countQuarrels_1 : Cond.fieldLink RX1 66 "QuietStairs$House" "caseCount" "I" ∈ wsX1_countQuarrels := List.mem_of_getElem? (i := 1) rfl
theorem hd_V_X1_headOfQuarrel_1 : yX1_headOfQuarrel.cls = RX1 ∧ yX1_headOfQuarrel.cls ≠ "java/lang/invoke/MethodHandle" ∧ yX1_headOfQuarrel.cls ≠ "java/lang/invoke/VarHandle" ∧ (parseMethodDescriptor yX1_headOfQuarrel.desc).map (fun d => d.parameters.length) = some 1 := ⟨rfl, cn_RX1.1, cn_RX1.2, pm__I_I_1⟩
theorem iwX1_countJudged_X1 : ∀ w ∈ wsX10, w ∈ wsX1_countJudged := fun _ h => List.mem_cons_of_mem _ (List.mem_append_left _ (List.mem_append_left _ (List.mem_append_right _ h)))
theorem fwX1_countJudged_1 : Cond.fieldLink RX1 66 "QuietStairs$House" "caseCount" "I" ∈ wsX1_countJudged := List.mem_of_getElem? (i := 1) rfl
theorem fwX1_countJudged_2 : Cond.fieldLink RX1 25 "QuietStairs$House" "cases" "[LQuietStairs$Case;" ∈ wsX1_countJudged := List.mem_of_getElem? (i := 2) rfl
theorem iwX1_countJudged_X0 : ∀ w ∈ wsX00, w ∈ wsX1_countJudged := fun _ h => List.mem_cons_of_mem _ (List.mem_append_left _ (List.mem_append_right _ h))
theorem fwX1_countJudged_3 : Cond.fieldLink RX1 82 "QuietStairs$Case" "termCount" "I" ∈ wsX1_countJudged := List.mem_of_getElem? (i := 3) rfl
theorem hd_V_X0_judge_1 : yX0_judge.cls = RX0 ∧ yX0_judge.cls ≠ "java/lang/invoke/MethodHandle" ∧ yX0_judge.cls ≠ "java/lang/invoke/VarHandle" ∧ (parseMethodDescriptor yX0_judge.desc).map (fun d => d.parameters.length) = some 1 := ⟨rfl, cn_RX0.1, cn_RX0.2, pm__I_I_1⟩
theorem iwX7_learns_X7 : ∀ w ∈ wsX70, w ∈ wsX7_learns := fun _ h => List.mem_cons_of_mem _ (List.mem_append_left _ (List.mem_append_left _ (List.mem_append_right _ h)))
theorem fwX7_learns_1 : Cond.fieldLink RX7 12 "QuietStairs" "now" "LQuietStairs$House;" ∈ wsX7_learns := List.mem_of_getElem? (i := 1) rfl
theorem iwX7_learns_X1 : ∀ w ∈ wsX10, w ∈ wsX7_learns := fun _ h => List.mem_cons_of_mem _ (List.mem_append_left _ (List.mem_append_right _ h))
theorem fwX7_learns_2 : Cond.fieldLink RX7 86 "QuietStairs$House" "cases" "[LQuietStairs$Case;" ∈ wsX7_learns := List.mem_of_getElem? (i := 2) rfl
theorem iwX7_learns_X0 : ∀ w ∈ wsX00, w ∈ wsX7_learns := fun _ h => List.mem_cons_of_mem _ (List.mem_append_right _ h)
theorem fwX7_learns_3 : Cond.fieldLink RX7 117 "QuietStairs$Case" "roundsOver" "I" ∈ wsX7_learns := List.mem_of_getElem? (i := 3) rfl
theorem pm__II_I_2 : (parseMethodDescriptor "(II)I").map (fun d => d.parameters.length) = some 2 := by decide +kernel
theorem hd_V_X0_leastOfOther_2 : yX0_leastOfOther.cls = RX0 ∧ yX0_leastOfOther.cls ≠ "java/lang/invoke/MethodHandle" ∧ yX0_leastOfOther.cls ≠ "java/lang/invoke/VarHandle" ∧ (parseMethodDescriptor yX0_leastOfOther.desc).map (fun d => d.parameters.length) = some 2 := ⟨rfl, cn_RX0.1, cn_RX0.2, pm__II_I_2⟩
theorem hd_V_X0_greatestOfOther_2 : yX0_greatestOfOther.cls = RX0 ∧ yX0_greatestOfOther.cls ≠ "java/lang/invoke/MethodHandle" ∧ yX0_greatestOfOther.cls ≠ "java/lang/invoke/VarHandle" ∧ (parseMethodDescriptor yX0_greatestOfOther.desc).map (fun d => d.parameters.length) = some 2 := ⟨rfl, cn_RX0.1, cn_RX0.2, pm__II_I_2⟩
theorem pm__II_Z_2 : (parseMethodDescriptor "(II)Z").map (fun d => d.parameters.length) = some 2 := by decide +kernel
theorem hd_V_X7_isTerm_2 : yX7_isTerm.cls = RX7 ∧ yX7_isTerm.cls ≠ "java/lang/invoke/MethodHandle" ∧ yX7_isTerm.cls ≠ "java/lang/invoke/VarHandle" ∧ (parseMethodDescriptor yX7_isTerm.desc).map (fun d => d.parameters.length) = some 2 := ⟨rfl, cn_RX7.1, cn_RX7.2, pm__II_Z_2⟩
theorem iwX7_termOf_X7 : ∀ w ∈ wsX70, w ∈ wsX7_termOf := fun _ h => List.mem_cons_of_mem _ (List.mem_append_left _ (List.mem_append_left _ (List.mem_append_left _ (List.mem_append_right _ h))))
theorem fwX7_termOf_1 : Cond.fieldLink RX7 12 "QuietStairs" "now" "LQuietStairs$House;" ∈ wsX7_termOf := List.mem_of_getElem? (i := 1) rfl
theorem iwX7_termOf_X1 : ∀ w ∈ wsX10, w ∈ wsX7_termOf := fun _ h => List.mem_cons_of_mem _ (List.mem_append_left _ (List.mem_append_left _ (List.mem_append_right _ h)))
theorem fwX7_termOf_2 : Cond.fieldLink RX7 86 "QuietStairs$House" "cases" "[LQuietStairs$Case;" ∈ wsX7_termOf := List.mem_of_getElem? (i := 2) rfl
theorem iwX7_termOf_X0 : ∀ w ∈ wsX00, w ∈ wsX7_termOf := fun _ h => List.mem_cons_of_mem _ (List.mem_append_left _ (List.mem_append_right _ h))
theorem fwX7_termOf_3 : Cond.fieldLink RX7 172 "QuietStairs$Case" "terms" "[LQuietStairs$Term;" ∈ wsX7_termOf := List.mem_of_getElem? (i := 3) rfl
theorem iwX7_termOf_X6 : ∀ w ∈ wsX60, w ∈ wsX7_termOf := fun _ h => List.mem_cons_of_mem _ (List.mem_append_right _ h)
theorem fwX7_termOf_4 : Cond.fieldLink RX7 176 "QuietStairs$Term" "side" "I" ∈ wsX7_termOf := List.mem_of_getElem? (i := 4) rfl
theorem fwX7_termOf_5 : Cond.fieldLink RX7 181 "QuietStairs$Term" "must" "Z" ∈ wsX7_termOf := List.mem_of_getElem? (i := 5) rfl
theorem fwX7_termOf_6 : Cond.fieldLink RX7 185 "QuietStairs$Term" "act" "I" ∈ wsX7_termOf := List.mem_of_getElem? (i := 6) rfl
theorem fwX7_termOf_7 : Cond.fieldLink RX7 188 "QuietStairs$Term" "first" "I" ∈ wsX7_termOf := List.mem_of_getElem? (i := 7) rfl
theorem fwX7_termOf_8 : Cond.fieldLink RX7 191 "QuietStairs$Term" "last" "I" ∈ wsX7_termOf := List.mem_of_getElem? (i := 8) rfl
theorem iwX7_judged_X7 : ∀ w ∈ wsX70, w ∈ wsX7_judged := fun _ h => List.mem_cons_of_mem _ (List.mem_append_left _ (List.mem_append_left _ (List.mem_append_left _ (List.mem_append_right _ h))))
theorem fwX7_judged_1 : Cond.fieldLink RX7 12 "QuietStairs" "now" "LQuietStairs$House;" ∈ wsX7_judged := List.mem_of_getElem? (i := 1) rfl
theorem iwX7_judged_X1 : ∀ w ∈ wsX10, w ∈ wsX7_judged := fun _ h => List.mem_cons_of_mem _ (List.mem_append_left _ (List.mem_append_left _ (List.mem_append_right _ h)))
theorem fwX7_judged_2 : Cond.fieldLink RX7 86 "QuietStairs$House" "cases" "[LQuietStairs$Case;" ∈ wsX7_judged := List.mem_of_getElem? (i := 2) rfl
theorem iwX7_of_X7 : ∀ w ∈ wsX70, w ∈ wsX7_of := fun _ h => List.mem_cons_of_mem _ (List.mem_append_left _ (List.mem_append_left _ (List.mem_append_right _ h)))
theorem fwX7_of_1 : Cond.fieldLink RX7 12 "QuietStairs" "now" "LQuietStairs$House;" ∈ wsX7_of := List.mem_of_getElem? (i := 1) rfl
theorem iwX7_of_X1 : ∀ w ∈ wsX10, w ∈ wsX7_of := fun _ h => List.mem_cons_of_mem _ (List.mem_append_left _ (List.mem_append_right _ h))
theorem fwX7_of_2 : Cond.fieldLink RX7 86 "QuietStairs$House" "cases" "[LQuietStairs$Case;" ∈ wsX7_of := List.mem_of_getElem? (i := 2) rfl
theorem iwX7_of_X0 : ∀ w ∈ wsX00, w ∈ wsX7_of := fun _ h => List.mem_cons_of_mem _ (List.mem_append_right _ h)
theorem fwX7_of_3 : Cond.fieldLink RX7 111 "QuietStairs$Case" "parties" "[I" ∈ wsX7_of := List.mem_of_getElem? (i := 3) rfl
theorem fwX7_of_4 : Cond.fieldLink RX7 99 "QuietStairs$Case" "state" "I" ∈ wsX7_of := List.mem_of_getElem? (i := 4) rfl
theorem fwX7_of_5 : Cond.fieldLink RX7 114 "QuietStairs$Case" "sum" "I" ∈ wsX7_of := List.mem_of_getElem? (i := 5) rfl
theorem fwX7_of_6 : Cond.fieldLink RX7 117 "QuietStairs$Case" "roundsOver" "I" ∈ wsX7_of := List.mem_of_getElem? (i := 6) rfl
theorem cn_RJ6 : RJ6 ≠ "java/lang/invoke/MethodHandle" ∧ RJ6 ≠ "java/lang/invoke/VarHandle" := ⟨fun e => absurd (String.ofList_injective (show String.ofList ['j', 'a', 'v', 'a', '/', 'l', 'a', 'n', 'g', '/', 'I', 'n', 't', 'e', 'g', 'e', 'r'] = String.ofList ['j', 'a', 'v', 'a', '/', 'l', 'a', 'n', 'g', '/', 'i', 'n', 'v', 'o', 'k', 'e', '/', 'M', 'e', 't', 'h', 'o', 'd', 'H', 'a', 'n', 'd', 'l', 'e'] from e)) (by decide +kernel), fun e => absurd (String.ofList_injective (show String.ofList ['j', 'a', 'v', 'a', '/', 'l', 'a', 'n', 'g', '/', 'I', 'n', 't', 'e', 'g', 'e', 'r'] = String.ofList ['j', 'a', 'v', 'a', '/', 'l', 'a', 'n', 'g', '/', 'i', 'n', 'v', 'o', 'k', 'e', '/', 'V', 'a', 'r', 'H', 'a', 'n', 'd', 'l', 'e'] from e)) (by decide +kernel)⟩
theorem hd_w_J6_bitCount_0f7a4_1 : yJ6_bitCount_0f7a4.cls ≠ "java/lang/invoke/MethodHandle" ∧ yJ6_bitCount_0f7a4.cls ≠ "java/lang/invoke/VarHandle" ∧ (parseMethodDescriptor yJ6_bitCount_0f7a4.desc).map (fun d => d.parameters.length) = some 1 := ⟨cn_RJ6.1, cn_RJ6.2, pm__I_I_1⟩
theorem fwX7_of_7 : Cond.fieldLink RX7 102 "QuietStairs$Case" "weight" "I" ∈ wsX7_of := List.mem_of_getElem? (i := 7) rfl
theorem iwX7_many_X7 : ∀ w ∈ wsX70, w ∈ wsX7_many := fun _ h => List.mem_cons_of_mem _ (List.mem_append_left _ (List.mem_append_left _ (List.mem_append_left _ (List.mem_append_right _ h))))
theorem fwX7_many_1 : Cond.fieldLink RX7 12 "QuietStairs" "now" "LQuietStairs$House;" ∈ wsX7_many := List.mem_of_getElem? (i := 1) rfl
theorem iwX7_many_X1 : ∀ w ∈ wsX10, w ∈ wsX7_many := fun _ h => List.mem_cons_of_mem _ (List.mem_append_left _ (List.mem_append_left _ (List.mem_append_right _ h)))
theorem fwX7_many_2 : Cond.fieldLink RX7 41 "QuietStairs$House" "partyCount" "I" ∈ wsX7_many := List.mem_of_getElem? (i := 2) rfl
theorem fwX7_many_3 : Cond.fieldLink RX7 56 "QuietStairs$House" "mediatorCount" "I" ∈ wsX7_many := List.mem_of_getElem? (i := 3) rfl
theorem fwX7_many_4 : Cond.fieldLink RX7 83 "QuietStairs$House" "caseCount" "I" ∈ wsX7_many := List.mem_of_getElem? (i := 4) rfl
theorem hd_V_X1_countState_1 : yX1_countState.cls = RX1 ∧ yX1_countState.cls ≠ "java/lang/invoke/MethodHandle" ∧ yX1_countState.cls ≠ "java/lang/invoke/VarHandle" ∧ (parseMethodDescriptor yX1_countState.desc).map (fun d => d.parameters.length) = some 1 := ⟨rfl, cn_RX1.1, cn_RX1.2, pm__I_I_1⟩
theorem fwX7_many_5 : Cond.fieldLink RX7 108 "QuietStairs$House" "markCount" "I" ∈ wsX7_many := List.mem_of_getElem? (i := 5) rfl
theorem pm___I_0 : (parseMethodDescriptor "()I").map (fun d => d.parameters.length) = some 0 := by decide +kernel
theorem hd_V_X1_countQuarrels_0 : yX1_countQuarrels.cls = RX1 ∧ yX1_countQuarrels.cls ≠ "java/lang/invoke/MethodHandle" ∧ yX1_countQuarrels.cls ≠ "java/lang/invoke/VarHandle" ∧ (parseMethodDescriptor yX1_countQuarrels.desc).map (fun d => d.parameters.length) = some 0 := ⟨rfl, cn_RX1.1, cn_RX1.2, pm___I_0⟩
theorem hd_V_X1_countTerms_0 : yX1_countTerms.cls = RX1 ∧ yX1_countTerms.cls ≠ "java/lang/invoke/MethodHandle" ∧ yX1_countTerms.cls ≠ "java/lang/invoke/VarHandle" ∧ (parseMethodDescriptor yX1_countTerms.desc).map (fun d => d.parameters.length) = some 0 := ⟨rfl, cn_RX1.1, cn_RX1.2, pm___I_0⟩
theorem hd_V_X1_countJudged_1 : yX1_countJudged.cls = RX1 ∧ yX1_countJudged.cls ≠ "java/lang/invoke/MethodHandle" ∧ yX1_countJudged.cls ≠ "java/lang/invoke/VarHandle" ∧ (parseMethodDescriptor yX1_countJudged.desc).map (fun d => d.parameters.length) = some 1 := ⟨rfl, cn_RX1.1, cn_RX1.2, pm__I_I_1⟩
theorem iwX6_hourBits_X6 : ∀ w ∈ wsX60, w ∈ wsX6_hourBits := fun _ h => List.mem_cons_of_mem _ (List.mem_append_right _ h)
theorem fwX6_hourBits_1 : Cond.fieldLink RX6 7 "QuietStairs$Term" "last" "I" ∈ wsX6_hourBits := List.mem_of_getElem? (i := 1) rfl
theorem fwX6_hourBits_2 : Cond.fieldLink RX6 13 "QuietStairs$Term" "first" "I" ∈ wsX6_hourBits := List.mem_of_getElem? (i := 2) rfl
theorem cn_RX6 : RX6 ≠ "java/lang/invoke/MethodHandle" ∧ RX6 ≠ "java/lang/invoke/VarHandle" := ⟨fun e => absurd (String.ofList_injective (show String.ofList ['Q', 'u', 'i', 'e', 't', 'S', 't', 'a', 'i', 'r', 's', '$', 'T', 'e', 'r', 'm'] = String.ofList ['j', 'a', 'v', 'a', '/', 'l', 'a', 'n', 'g', '/', 'i', 'n', 'v', 'o', 'k', 'e', '/', 'M', 'e', 't', 'h', 'o', 'd', 'H', 'a', 'n', 'd', 'l', 'e'] from e)) (by decide +kernel), fun e => absurd (String.ofList_injective (show String.ofList ['Q', 'u', 'i', 'e', 't', 'S', 't', 'a', 'i', 'r', 's', '$', 'T', 'e', 'r', 'm'] = String.ofList ['j', 'a', 'v', 'a', '/', 'l', 'a', 'n', 'g', '/', 'i', 'n', 'v', 'o', 'k', 'e', '/', 'V', 'a', 'r', 'H', 'a', 'n', 'd', 'l', 'e'] from e)) (by decide +kernel)⟩
theorem hd_V_X6_hourBits_0 : yX6_hourBits.cls = RX6 ∧ yX6_hourBits.cls ≠ "java/lang/invoke/MethodHandle" ∧ yX6_hourBits.cls ≠ "java/lang/invoke/VarHandle" ∧ (parseMethodDescriptor yX6_hourBits.desc).map (fun d => d.parameters.length) = some 0 := ⟨rfl, cn_RX6.1, cn_RX6.2, pm___I_0⟩
theorem iwX5_allowedHours_X0 : ∀ w ∈ wsX00, w ∈ wsX5_allowedHours := fun _ h => List.mem_cons_of_mem _ (List.mem_append_left _ (List.mem_append_right _ h))
theorem fwX5_allowedHours_1 : Cond.fieldLink RX5 22 "QuietStairs$Case" "terms" "[LQuietStairs$Term;" ∈ wsX5_allowedHours := List.mem_of_getElem? (i := 1) rfl
theorem iwX5_allowedHours_X6 : ∀ w ∈ wsX60, w ∈ wsX5_allowedHours := fun _ h => List.mem_cons_of_mem _ (List.mem_append_right _ h)
theorem fwX5_allowedHours_2 : Cond.fieldLink RX5 28 "QuietStairs$Term" "side" "I" ∈ wsX5_allowedHours := List.mem_of_getElem? (i := 2) rfl
theorem fwX5_allowedHours_3 : Cond.fieldLink RX5 33 "QuietStairs$Term" "must" "Z" ∈ wsX5_allowedHours := List.mem_of_getElem? (i := 3) rfl
theorem fwX5_allowedHours_4 : Cond.fieldLink RX5 44 "QuietStairs$Term" "act" "I" ∈ wsX5_allowedHours := List.mem_of_getElem? (i := 4) rfl
theorem iwX5_read_X5 : ∀ w ∈ wsX50, w ∈ wsX5_read := fun _ h => List.mem_cons_of_mem _ (List.mem_append_left _ (List.mem_append_left _ (List.mem_append_right _ h)))
theorem fwX5_read_1 : Cond.fieldLink RX5 18 "QuietStairs$Table" "count" "I" ∈ wsX5_read := List.mem_of_getElem? (i := 1) rfl
theorem iwX5_read_X0 : ∀ w ∈ wsX00, w ∈ wsX5_read := fun _ h => List.mem_cons_of_mem _ (List.mem_append_left _ (List.mem_append_right _ h))
theorem fwX5_read_2 : Cond.fieldLink RX5 22 "QuietStairs$Case" "terms" "[LQuietStairs$Term;" ∈ wsX5_read := List.mem_of_getElem? (i := 2) rfl
theorem iwX5_read_X6 : ∀ w ∈ wsX60, w ∈ wsX5_read := fun _ h => List.mem_cons_of_mem _ (List.mem_append_right _ h)
theorem fwX5_read_3 : Cond.fieldLink RX5 28 "QuietStairs$Term" "side" "I" ∈ wsX5_read := List.mem_of_getElem? (i := 3) rfl
theorem fwX5_read_4 : Cond.fieldLink RX5 33 "QuietStairs$Term" "must" "Z" ∈ wsX5_read := List.mem_of_getElem? (i := 4) rfl
theorem fwX5_read_5 : Cond.fieldLink RX5 9 "QuietStairs$Table" "musts" "[I" ∈ wsX5_read := List.mem_of_getElem? (i := 5) rfl
theorem fwX5_read_6 : Cond.fieldLink RX5 15 "QuietStairs$Table" "hourBits" "[I" ∈ wsX5_read := List.mem_of_getElem? (i := 6) rfl
theorem cn_RX5 : RX5 ≠ "java/lang/invoke/MethodHandle" ∧ RX5 ≠ "java/lang/invoke/VarHandle" := ⟨fun e => absurd (String.ofList_injective (show String.ofList ['Q', 'u', 'i', 'e', 't', 'S', 't', 'a', 'i', 'r', 's', '$', 'T', 'a', 'b', 'l', 'e'] = String.ofList ['j', 'a', 'v', 'a', '/', 'l', 'a', 'n', 'g', '/', 'i', 'n', 'v', 'o', 'k', 'e', '/', 'M', 'e', 't', 'h', 'o', 'd', 'H', 'a', 'n', 'd', 'l', 'e'] from e)) (by decide +kernel), fun e => absurd (String.ofList_injective (show String.ofList ['Q', 'u', 'i', 'e', 't', 'S', 't', 'a', 'i', 'r', 's', '$', 'T', 'a', 'b', 'l', 'e'] = String.ofList ['j', 'a', 'v', 'a', '/', 'l', 'a', 'n', 'g', '/', 'i', 'n', 'v', 'o', 'k', 'e', '/', 'V', 'a', 'r', 'H', 'a', 'n', 'd', 'l', 'e'] from e)) (by decide +kernel)⟩
theorem pm__LQuietStairs_Case_LQuietStairs_Term_I_I_3 : (parseMethodDescriptor "(LQuietStairs$Case;LQuietStairs$Term;I)I").map (fun d => d.parameters.length) = some 3 := by decide +kernel
theorem hd_S_X5_allowedHours_3 : yX5_allowedHours.cls = RX5 ∧ yX5_allowedHours.cls ≠ "java/lang/invoke/MethodHandle" ∧ yX5_allowedHours.cls ≠ "java/lang/invoke/VarHandle" ∧ (parseMethodDescriptor yX5_allowedHours.desc).map (fun d => d.parameters.length) = some 3 := ⟨rfl, cn_RX5.1, cn_RX5.2, pm__LQuietStairs_Case_LQuietStairs_Term_I_I_3⟩
theorem iwX5_stands_X5 : ∀ w ∈ wsX50, w ∈ wsX5_stands := fun _ h => List.mem_cons_of_mem _ (List.mem_append_right _ h)
theorem fwX5_stands_1 : Cond.fieldLink RX5 18 "QuietStairs$Table" "count" "I" ∈ wsX5_stands := List.mem_of_getElem? (i := 1) rfl
theorem fwX5_stands_4 : Cond.initialized RX7 ∈ wsX5_stands := List.mem_of_getElem? (i := 4) rfl
theorem fwX5_stands_3 : Cond.static yX7_hasBit ∈ wsX5_stands := List.mem_of_getElem? (i := 3) rfl
theorem fwX5_stands_2 : Cond.fieldLink RX5 15 "QuietStairs$Table" "hourBits" "[I" ∈ wsX5_stands := List.mem_of_getElem? (i := 2) rfl
theorem iwX5_pinLeastHour_X5 : ∀ w ∈ wsX50, w ∈ wsX5_pinLeastHour := fun _ h => List.mem_cons_of_mem _ (List.mem_append_right _ h)
theorem fwX5_pinLeastHour_1 : Cond.fieldLink RX5 15 "QuietStairs$Table" "hourBits" "[I" ∈ wsX5_pinLeastHour := List.mem_of_getElem? (i := 1) rfl
theorem fwX5_pinLeastHour_3 : Cond.initialized RX7 ∈ wsX5_pinLeastHour := List.mem_of_getElem? (i := 3) rfl
theorem fwX5_pinLeastHour_2 : Cond.static yX7_hasBit ∈ wsX5_pinLeastHour := List.mem_of_getElem? (i := 2) rfl
theorem pm___Z_0 : (parseMethodDescriptor "()Z").map (fun d => d.parameters.length) = some 0 := by decide +kernel
theorem hd_V_X5_stands_0 : yX5_stands.cls = RX5 ∧ yX5_stands.cls ≠ "java/lang/invoke/MethodHandle" ∧ yX5_stands.cls ≠ "java/lang/invoke/VarHandle" ∧ (parseMethodDescriptor yX5_stands.desc).map (fun d => d.parameters.length) = some 0 := ⟨rfl, cn_RX5.1, cn_RX5.2, pm___Z_0⟩
theorem iwX5_hourOf_X5 : ∀ w ∈ wsX50, w ∈ wsX5_hourOf := fun _ h => List.mem_cons_of_mem _ (List.mem_append_right _ h)
theorem fwX5_hourOf_1 : Cond.fieldLink RX5 18 "QuietStairs$Table" "count" "I" ∈ wsX5_hourOf := List.mem_of_getElem? (i := 1) rfl
theorem hd_V_X5_pinLeastHour_1 : yX5_pinLeastHour.cls = RX5 ∧ yX5_pinLeastHour.cls ≠ "java/lang/invoke/MethodHandle" ∧ yX5_pinLeastHour.cls ≠ "java/lang/invoke/VarHandle" ∧ (parseMethodDescriptor yX5_pinLeastHour.desc).map (fun d => d.parameters.length) = some 1 := ⟨rfl, cn_RX5.1, cn_RX5.2, pm__I_I_1⟩
theorem fwX5_hourOf_2 : Cond.fieldLink RX5 9 "QuietStairs$Table" "musts" "[I" ∈ wsX5_hourOf := List.mem_of_getElem? (i := 2) rfl
theorem iwX7_canHold_X7 : ∀ w ∈ wsX70, w ∈ wsX7_canHold := fun _ h => List.mem_cons_of_mem _ (List.mem_append_left _ (List.mem_append_left _ (List.mem_append_left _ (List.mem_append_left _ (List.mem_append_right _ h)))))
theorem fwX7_canHold_1 : Cond.fieldLink RX7 26 "QuietStairs" "table" "LQuietStairs$Table;" ∈ wsX7_canHold := List.mem_of_getElem? (i := 1) rfl
theorem fwX7_canHold_2 : Cond.fieldLink RX7 12 "QuietStairs" "now" "LQuietStairs$House;" ∈ wsX7_canHold := List.mem_of_getElem? (i := 2) rfl
theorem iwX7_canHold_X1 : ∀ w ∈ wsX10, w ∈ wsX7_canHold := fun _ h => List.mem_cons_of_mem _ (List.mem_append_left _ (List.mem_append_left _ (List.mem_append_left _ (List.mem_append_right _ h))))
theorem fwX7_canHold_3 : Cond.fieldLink RX7 86 "QuietStairs$House" "cases" "[LQuietStairs$Case;" ∈ wsX7_canHold := List.mem_of_getElem? (i := 3) rfl
theorem iwX7_canHold_X0 : ∀ w ∈ wsX00, w ∈ wsX7_canHold := fun _ h => List.mem_cons_of_mem _ (List.mem_append_left _ (List.mem_append_left _ (List.mem_append_right _ h)))
theorem fwX7_canHold_4 : Cond.fieldLink RX7 169 "QuietStairs$Case" "termCount" "I" ∈ wsX7_canHold := List.mem_of_getElem? (i := 4) rfl
theorem pm__LQuietStairs_Case_II_V_3 : (parseMethodDescriptor "(LQuietStairs$Case;II)V").map (fun d => d.parameters.length) = some 3 := by decide +kernel
theorem hd_V_X5_read_3 : yX5_read.cls = RX5 ∧ yX5_read.cls ≠ "java/lang/invoke/MethodHandle" ∧ yX5_read.cls ≠ "java/lang/invoke/VarHandle" ∧ (parseMethodDescriptor yX5_read.desc).map (fun d => d.parameters.length) = some 3 := ⟨rfl, cn_RX5.1, cn_RX5.2, pm__LQuietStairs_Case_II_V_3⟩
theorem iwX7_hour_X7 : ∀ w ∈ wsX70, w ∈ wsX7_hour := fun _ h => List.mem_cons_of_mem _ (List.mem_append_left _ (List.mem_append_left _ (List.mem_append_left _ (List.mem_append_left _ (List.mem_append_right _ h)))))
theorem fwX7_hour_1 : Cond.fieldLink RX7 12 "QuietStairs" "now" "LQuietStairs$House;" ∈ wsX7_hour := List.mem_of_getElem? (i := 1) rfl
theorem iwX7_hour_X1 : ∀ w ∈ wsX10, w ∈ wsX7_hour := fun _ h => List.mem_cons_of_mem _ (List.mem_append_left _ (List.mem_append_left _ (List.mem_append_left _ (List.mem_append_right _ h))))
theorem fwX7_hour_2 : Cond.fieldLink RX7 86 "QuietStairs$House" "cases" "[LQuietStairs$Case;" ∈ wsX7_hour := List.mem_of_getElem? (i := 2) rfl
theorem iwX7_hour_X0 : ∀ w ∈ wsX00, w ∈ wsX7_hour := fun _ h => List.mem_cons_of_mem _ (List.mem_append_left _ (List.mem_append_left _ (List.mem_append_right _ h)))
theorem fwX7_hour_3 : Cond.fieldLink RX7 172 "QuietStairs$Case" "terms" "[LQuietStairs$Term;" ∈ wsX7_hour := List.mem_of_getElem? (i := 3) rfl
theorem iwX7_hour_X6 : ∀ w ∈ wsX60, w ∈ wsX7_hour := fun _ h => List.mem_cons_of_mem _ (List.mem_append_left _ (List.mem_append_right _ h))
theorem fwX7_hour_4 : Cond.fieldLink RX7 181 "QuietStairs$Term" "must" "Z" ∈ wsX7_hour := List.mem_of_getElem? (i := 4) rfl
theorem fwX7_hour_5 : Cond.fieldLink RX7 26 "QuietStairs" "table" "LQuietStairs$Table;" ∈ wsX7_hour := List.mem_of_getElem? (i := 5) rfl
theorem fwX7_hour_6 : Cond.fieldLink RX7 176 "QuietStairs$Term" "side" "I" ∈ wsX7_hour := List.mem_of_getElem? (i := 6) rfl
theorem fwX7_hour_7 : Cond.fieldLink RX7 169 "QuietStairs$Case" "termCount" "I" ∈ wsX7_hour := List.mem_of_getElem? (i := 7) rfl
theorem hd_V_X5_hourOf_1 : yX5_hourOf.cls = RX5 ∧ yX5_hourOf.cls ≠ "java/lang/invoke/MethodHandle" ∧ yX5_hourOf.cls ≠ "java/lang/invoke/VarHandle" ∧ (parseMethodDescriptor yX5_hourOf.desc).map (fun d => d.parameters.length) = some 1 := ⟨rfl, cn_RX5.1, cn_RX5.2, pm__I_I_1⟩
theorem iwX7_breaks_X7 : ∀ w ∈ wsX70, w ∈ wsX7_breaks := fun _ h => List.mem_cons_of_mem _ (List.mem_append_left _ (List.mem_append_left _ (List.mem_append_left _ (List.mem_append_left _ (List.mem_append_right _ h)))))
theorem fwX7_breaks_1 : Cond.fieldLink RX7 12 "QuietStairs" "now" "LQuietStairs$House;" ∈ wsX7_breaks := List.mem_of_getElem? (i := 1) rfl
theorem iwX7_breaks_X1 : ∀ w ∈ wsX10, w ∈ wsX7_breaks := fun _ h => List.mem_cons_of_mem _ (List.mem_append_left _ (List.mem_append_left _ (List.mem_append_left _ (List.mem_append_right _ h))))
theorem fwX7_breaks_2 : Cond.fieldLink RX7 86 "QuietStairs$House" "cases" "[LQuietStairs$Case;" ∈ wsX7_breaks := List.mem_of_getElem? (i := 2) rfl
theorem iwX7_breaks_X0 : ∀ w ∈ wsX00, w ∈ wsX7_breaks := fun _ h => List.mem_cons_of_mem _ (List.mem_append_left _ (List.mem_append_left _ (List.mem_append_right _ h)))
theorem fwX7_breaks_3 : Cond.fieldLink RX7 169 "QuietStairs$Case" "termCount" "I" ∈ wsX7_breaks := List.mem_of_getElem? (i := 3) rfl
theorem fwX7_breaks_4 : Cond.fieldLink RX7 172 "QuietStairs$Case" "terms" "[LQuietStairs$Term;" ∈ wsX7_breaks := List.mem_of_getElem? (i := 4) rfl
theorem iwX7_breaks_X6 : ∀ w ∈ wsX60, w ∈ wsX7_breaks := fun _ h => List.mem_cons_of_mem _ (List.mem_append_left _ (List.mem_append_right _ h))
theorem fwX7_breaks_5 : Cond.fieldLink RX7 176 "QuietStairs$Term" "side" "I" ∈ wsX7_breaks := List.mem_of_getElem? (i := 5) rfl
theorem fwX7_breaks_6 : Cond.fieldLink RX7 26 "QuietStairs" "table" "LQuietStairs$Table;" ∈ wsX7_breaks := List.mem_of_getElem? (i := 6) rfl
theorem iwX1_hasPair_X1 : ∀ w ∈ wsX10, w ∈ wsX1_hasPair := fun _ h => List.mem_cons_of_mem _ (List.mem_append_right _ h)
theorem fwX1_hasPair_1 : Cond.fieldLink RX1 36 "QuietStairs$House" "mediatorCount" "I" ∈ wsX1_hasPair := List.mem_of_getElem? (i := 1) rfl
theorem iwX1_isNear_X2 : ∀ w ∈ wsX20, w ∈ wsX1_isNear := fun _ h => List.mem_cons_of_mem _ (List.mem_append_left _ (List.mem_append_left _ (List.mem_append_right _ h)))
theorem fwX1_isNear_1 : Cond.fieldLink RX1 59 "QuietStairs$Mediator" "kinBits" "I" ∈ wsX1_isNear := List.mem_of_getElem? (i := 1) rfl
theorem fwX1_isNear_6 : Cond.initialized RX7 ∈ wsX1_isNear := List.mem_of_getElem? (i := 6) rfl
theorem fwX1_isNear_5 : Cond.static yX7_hasBit ∈ wsX1_isNear := List.mem_of_getElem? (i := 5) rfl
theorem fwX1_isNear_2 : Cond.fieldLink RX1 62 "QuietStairs$Mediator" "floor" "I" ∈ wsX1_isNear := List.mem_of_getElem? (i := 2) rfl
theorem iwX1_isNear_X1 : ∀ w ∈ wsX10, w ∈ wsX1_isNear := fun _ h => List.mem_cons_of_mem _ (List.mem_append_left _ (List.mem_append_right _ h))
theorem fwX1_isNear_3 : Cond.fieldLink RX1 11 "QuietStairs$House" "parties" "[LQuietStairs$Party;" ∈ wsX1_isNear := List.mem_of_getElem? (i := 3) rfl
theorem iwX1_isNear_X3 : ∀ w ∈ wsX30, w ∈ wsX1_isNear := fun _ h => List.mem_cons_of_mem _ (List.mem_append_right _ h)
theorem fwX1_isNear_4 : Cond.fieldLink RX1 65 "QuietStairs$Party" "floor" "I" ∈ wsX1_isNear := List.mem_of_getElem? (i := 4) rfl
theorem iwX1_pairFits_X1 : ∀ w ∈ wsX10, w ∈ wsX1_pairFits := fun _ h => List.mem_cons_of_mem _ (List.mem_append_left _ (List.mem_append_left _ (List.mem_append_left _ (List.mem_append_right _ h))))
theorem fwX1_pairFits_1 : Cond.fieldLink RX1 19 "QuietStairs$House" "mediators" "[LQuietStairs$Mediator;" ∈ wsX1_pairFits := List.mem_of_getElem? (i := 1) rfl
theorem iwX1_pairFits_X2 : ∀ w ∈ wsX20, w ∈ wsX1_pairFits := fun _ h => List.mem_cons_of_mem _ (List.mem_append_left _ (List.mem_append_left _ (List.mem_append_right _ h)))
theorem fwX1_pairFits_2 : Cond.fieldLink RX1 43 "QuietStairs$Mediator" "tongues" "I" ∈ wsX1_pairFits := List.mem_of_getElem? (i := 2) rfl
theorem iwX1_pairFits_X0 : ∀ w ∈ wsX00, w ∈ wsX1_pairFits := fun _ h => List.mem_cons_of_mem _ (List.mem_append_left _ (List.mem_append_right _ h))
theorem fwX1_pairFits_3 : Cond.fieldLink RX1 46 "QuietStairs$Case" "parties" "[I" ∈ wsX1_pairFits := List.mem_of_getElem? (i := 3) rfl
theorem fwX1_pairFits_4 : Cond.fieldLink RX1 11 "QuietStairs$House" "parties" "[LQuietStairs$Party;" ∈ wsX1_pairFits := List.mem_of_getElem? (i := 4) rfl
theorem iwX1_pairFits_X3 : ∀ w ∈ wsX30, w ∈ wsX1_pairFits := fun _ h => List.mem_cons_of_mem _ (List.mem_append_right _ h)
theorem fwX1_pairFits_5 : Cond.fieldLink RX1 48 "QuietStairs$Party" "tongue" "I" ∈ wsX1_pairFits := List.mem_of_getElem? (i := 5) rfl
theorem fwX1_pairFits_7 : Cond.initialized RX7 ∈ wsX1_pairFits := List.mem_of_getElem? (i := 7) rfl
theorem fwX1_pairFits_6 : Cond.static yX7_hasBit ∈ wsX1_pairFits := List.mem_of_getElem? (i := 6) rfl
theorem pm__LQuietStairs_Mediator_I_Z_2 : (parseMethodDescriptor "(LQuietStairs$Mediator;I)Z").map (fun d => d.parameters.length) = some 2 := by decide +kernel
theorem hd_V_X1_isNear_2 : yX1_isNear.cls = RX1 ∧ yX1_isNear.cls ≠ "java/lang/invoke/MethodHandle" ∧ yX1_isNear.cls ≠ "java/lang/invoke/VarHandle" ∧ (parseMethodDescriptor yX1_isNear.desc).map (fun d => d.parameters.length) = some 2 := ⟨rfl, cn_RX1.1, cn_RX1.2, pm__LQuietStairs_Mediator_I_Z_2⟩
theorem iwX7_maySit_X7 : ∀ w ∈ wsX70, w ∈ wsX7_maySit := fun _ h => List.mem_cons_of_mem _ (List.mem_append_left _ (List.mem_append_left _ (List.mem_append_left _ (List.mem_append_left _ (List.mem_append_right _ h)))))
theorem fwX7_maySit_1 : Cond.fieldLink RX7 12 "QuietStairs" "now" "LQuietStairs$House;" ∈ wsX7_maySit := List.mem_of_getElem? (i := 1) rfl
theorem hd_V_X1_hasPair_1 : yX1_hasPair.cls = RX1 ∧ yX1_hasPair.cls ≠ "java/lang/invoke/MethodHandle" ∧ yX1_hasPair.cls ≠ "java/lang/invoke/VarHandle" ∧ (parseMethodDescriptor yX1_hasPair.desc).map (fun d => d.parameters.length) = some 1 := ⟨rfl, cn_RX1.1, cn_RX1.2, pm__I_Z_1⟩
theorem iwX7_maySit_X1 : ∀ w ∈ wsX10, w ∈ wsX7_maySit := fun _ h => List.mem_cons_of_mem _ (List.mem_append_left _ (List.mem_append_left _ (List.mem_append_left _ (List.mem_append_right _ h))))
theorem fwX7_maySit_2 : Cond.fieldLink RX7 86 "QuietStairs$House" "cases" "[LQuietStairs$Case;" ∈ wsX7_maySit := List.mem_of_getElem? (i := 2) rfl
theorem pm__ILQuietStairs_Case__Z_2 : (parseMethodDescriptor "(ILQuietStairs$Case;)Z").map (fun d => d.parameters.length) = some 2 := by decide +kernel
theorem hd_V_X1_pairFits_2 : yX1_pairFits.cls = RX1 ∧ yX1_pairFits.cls ≠ "java/lang/invoke/MethodHandle" ∧ yX1_pairFits.cls ≠ "java/lang/invoke/VarHandle" ∧ (parseMethodDescriptor yX1_pairFits.desc).map (fun d => d.parameters.length) = some 2 := ⟨rfl, cn_RX1.1, cn_RX1.2, pm__ILQuietStairs_Case__Z_2⟩
theorem iwX4_gather_X4 : ∀ w ∈ wsX40, w ∈ wsX4_gather := fun _ h => List.mem_cons_of_mem _ (List.mem_append_left _ (List.mem_append_left _ (List.mem_append_left _ (List.mem_append_left _ (List.mem_append_right _ h)))))
theorem fwX4_gather_1 : Cond.fieldLink RX4 61 "QuietStairs$Planner" "count" "I" ∈ wsX4_gather := List.mem_of_getElem? (i := 1) rfl
theorem iwX4_gather_X1 : ∀ w ∈ wsX10, w ∈ wsX4_gather := fun _ h => List.mem_cons_of_mem _ (List.mem_append_left _ (List.mem_append_left _ (List.mem_append_left _ (List.mem_append_right _ h))))
theorem fwX4_gather_2 : Cond.fieldLink RX4 68 "QuietStairs$House" "caseCount" "I" ∈ wsX4_gather := List.mem_of_getElem? (i := 2) rfl
theorem fwX4_gather_3 : Cond.fieldLink RX4 71 "QuietStairs$House" "cases" "[LQuietStairs$Case;" ∈ wsX4_gather := List.mem_of_getElem? (i := 3) rfl
theorem iwX4_gather_X0 : ∀ w ∈ wsX00, w ∈ wsX4_gather := fun _ h => List.mem_cons_of_mem _ (List.mem_append_left _ (List.mem_append_left _ (List.mem_append_right _ h)))
theorem fwX4_gather_4 : Cond.fieldLink RX4 75 "QuietStairs$Case" "state" "I" ∈ wsX4_gather := List.mem_of_getElem? (i := 4) rfl
theorem fwX4_gather_5 : Cond.fieldLink RX4 9 "QuietStairs$Planner" "numbers" "[I" ∈ wsX4_gather := List.mem_of_getElem? (i := 5) rfl
theorem fwX4_gather_6 : Cond.fieldLink RX4 15 "QuietStairs$Planner" "weights" "[I" ∈ wsX4_gather := List.mem_of_getElem? (i := 6) rfl
theorem fwX4_gather_7 : Cond.fieldLink RX4 80 "QuietStairs$Case" "weight" "I" ∈ wsX4_gather := List.mem_of_getElem? (i := 7) rfl
theorem fwX4_gather_8 : Cond.fieldLink RX4 18 "QuietStairs$Planner" "pairBits" "[I" ∈ wsX4_gather := List.mem_of_getElem? (i := 8) rfl
theorem cn_RX4 : RX4 ≠ "java/lang/invoke/MethodHandle" ∧ RX4 ≠ "java/lang/invoke/VarHandle" := ⟨fun e => absurd (String.ofList_injective (show String.ofList ['Q', 'u', 'i', 'e', 't', 'S', 't', 'a', 'i', 'r', 's', '$', 'P', 'l', 'a', 'n', 'n', 'e', 'r'] = String.ofList ['j', 'a', 'v', 'a', '/', 'l', 'a', 'n', 'g', '/', 'i', 'n', 'v', 'o', 'k', 'e', '/', 'M', 'e', 't', 'h', 'o', 'd', 'H', 'a', 'n', 'd', 'l', 'e'] from e)) (by decide +kernel), fun e => absurd (String.ofList_injective (show String.ofList ['Q', 'u', 'i', 'e', 't', 'S', 't', 'a', 'i', 'r', 's', '$', 'P', 'l', 'a', 'n', 'n', 'e', 'r'] = String.ofList ['j', 'a', 'v', 'a', '/', 'l', 'a', 'n', 'g', '/', 'i', 'n', 'v', 'o', 'k', 'e', '/', 'V', 'a', 'r', 'H', 'a', 'n', 'd', 'l', 'e'] from e)) (by decide +kernel)⟩
theorem pm__LQuietStairs_House_LQuietStairs_Case__I_2 : (parseMethodDescriptor "(LQuietStairs$House;LQuietStairs$Case;)I").map (fun d => d.parameters.length) = some 2 := by decide +kernel
theorem hd_S_X4_fittingPairs_2 : yX4_fittingPairs.cls = RX4 ∧ yX4_fittingPairs.cls ≠ "java/lang/invoke/MethodHandle" ∧ yX4_fittingPairs.cls ≠ "java/lang/invoke/VarHandle" ∧ (parseMethodDescriptor yX4_fittingPairs.desc).map (fun d => d.parameters.length) = some 2 := ⟨rfl, cn_RX4.1, cn_RX4.2, pm__LQuietStairs_House_LQuietStairs_Case__I_2⟩
theorem iwX4_sortByWeight_X4 : ∀ w ∈ wsX40, w ∈ wsX4_sortByWeight := fun _ h => List.mem_cons_of_mem _ (List.mem_append_right _ h)
theorem fwX4_sortByWeight_1 : Cond.fieldLink RX4 61 "QuietStairs$Planner" "count" "I" ∈ wsX4_sortByWeight := List.mem_of_getElem? (i := 1) rfl
theorem fwX4_sortByWeight_3 : Cond.fieldLink RX4 21 "QuietStairs$Planner" "heaviestFirst" "[I" ∈ wsX4_sortByWeight := List.mem_of_getElem? (i := 3) rfl
theorem fwX4_sortByWeight_2 : Cond.fieldLink RX4 15 "QuietStairs$Planner" "weights" "[I" ∈ wsX4_sortByWeight := List.mem_of_getElem? (i := 2) rfl
theorem iwX4_leastBehind_X4 : ∀ w ∈ wsX40, w ∈ wsX4_leastBehind := fun _ h => List.mem_cons_of_mem _ (List.mem_append_right _ h)
theorem fwX4_leastBehind_1 : Cond.fieldLink RX4 33 "QuietStairs$Planner" "sittings" "[I" ∈ wsX4_leastBehind := List.mem_of_getElem? (i := 1) rfl
theorem fwX4_leastBehind_2 : Cond.fieldLink RX4 61 "QuietStairs$Planner" "count" "I" ∈ wsX4_leastBehind := List.mem_of_getElem? (i := 2) rfl
theorem fwX4_leastBehind_3 : Cond.fieldLink RX4 21 "QuietStairs$Planner" "heaviestFirst" "[I" ∈ wsX4_leastBehind := List.mem_of_getElem? (i := 3) rfl
theorem fwX4_leastBehind_6 : Cond.fieldLink RX4 15 "QuietStairs$Planner" "weights" "[I" ∈ wsX4_leastBehind := List.mem_of_getElem? (i := 6) rfl
theorem fwX4_leastBehind_5 : Cond.fieldLink RX4 18 "QuietStairs$Planner" "pairBits" "[I" ∈ wsX4_leastBehind := List.mem_of_getElem? (i := 5) rfl
theorem fwX4_leastBehind_4 : Cond.fieldLink RX4 48 "QuietStairs$Planner" "seatsADay" "I" ∈ wsX4_leastBehind := List.mem_of_getElem? (i := 4) rfl
theorem iwX4_seatOf_X4 : ∀ w ∈ wsX40, w ∈ wsX4_seatOf := fun _ h => List.mem_cons_of_mem _ (List.mem_append_right _ h)
theorem fwX4_seatOf_1 : Cond.fieldLink RX4 61 "QuietStairs$Planner" "count" "I" ∈ wsX4_seatOf := List.mem_of_getElem? (i := 1) rfl
theorem fwX4_seatOf_2 : Cond.fieldLink RX4 9 "QuietStairs$Planner" "numbers" "[I" ∈ wsX4_seatOf := List.mem_of_getElem? (i := 2) rfl
theorem fwX4_seatOf_3 : Cond.fieldLink RX4 27 "QuietStairs$Planner" "bestSeats" "[I" ∈ wsX4_seatOf := List.mem_of_getElem? (i := 3) rfl
theorem hd_V_X4_leastBehind_1 : yX4_leastBehind.cls = RX4 ∧ yX4_leastBehind.cls ≠ "java/lang/invoke/MethodHandle" ∧ yX4_leastBehind.cls ≠ "java/lang/invoke/VarHandle" ∧ (parseMethodDescriptor yX4_leastBehind.desc).map (fun d => d.parameters.length) = some 1 := ⟨rfl, cn_RX4.1, cn_RX4.2, pm__I_I_1⟩
theorem iwX4_search_X4 : ∀ w ∈ wsX40, w ∈ wsX4_search := fun _ h => List.mem_cons_of_mem _ (List.mem_append_right _ h)
theorem fwX4_search_1 : Cond.fieldLink RX4 58 "QuietStairs$Planner" "leastWait" "I" ∈ wsX4_search := List.mem_of_getElem? (i := 1) rfl
theorem fwX4_search_2 : Cond.fieldLink RX4 61 "QuietStairs$Planner" "count" "I" ∈ wsX4_search := List.mem_of_getElem? (i := 2) rfl
theorem fwX4_search_3 : Cond.fieldLink RX4 24 "QuietStairs$Planner" "seats" "[I" ∈ wsX4_search := List.mem_of_getElem? (i := 3) rfl
theorem fwX4_search_4 : Cond.fieldLink RX4 27 "QuietStairs$Planner" "bestSeats" "[I" ∈ wsX4_search := List.mem_of_getElem? (i := 4) rfl
theorem fwX4_search_5 : Cond.methodLink RX4 99 arraycopyName ∈ wsX4_search := List.mem_of_getElem? (i := 5) rfl
theorem fwX4_search_6 : Cond.native arraycopyName ∈ wsX4_search := List.mem_of_getElem? (i := 6) rfl
theorem fwX4_search_7 : Cond.static arraycopyName ∈ wsX4_search := List.mem_of_getElem? (i := 7) rfl
theorem fwX4_search_8 : Cond.initialized "java/lang/System" ∈ wsX4_search := List.mem_of_getElem? (i := 8) rfl
theorem iwX4_searchDay_X4 : ∀ w ∈ wsX40, w ∈ wsX4_searchDay := fun _ h => List.mem_cons_of_mem _ (List.mem_append_right _ h)
theorem fwX4_searchDay_1 : Cond.fieldLink RX4 18 "QuietStairs$Planner" "pairBits" "[I" ∈ wsX4_searchDay := List.mem_of_getElem? (i := 1) rfl
theorem fwX4_searchDay_6 : Cond.initialized RX7 ∈ wsX4_searchDay := List.mem_of_getElem? (i := 6) rfl
theorem fwX4_searchDay_5 : Cond.static yX7_hasBit ∈ wsX4_searchDay := List.mem_of_getElem? (i := 5) rfl
theorem fwX4_searchDay_2 : Cond.fieldLink RX4 30 "QuietStairs$Planner" "busyBits" "[I" ∈ wsX4_searchDay := List.mem_of_getElem? (i := 2) rfl
theorem fwX4_searchDay_3 : Cond.fieldLink RX4 24 "QuietStairs$Planner" "seats" "[I" ∈ wsX4_searchDay := List.mem_of_getElem? (i := 3) rfl
theorem fwX4_searchDay_4 : Cond.fieldLink RX4 33 "QuietStairs$Planner" "sittings" "[I" ∈ wsX4_searchDay := List.mem_of_getElem? (i := 4) rfl
theorem pm__II_V_2 : (parseMethodDescriptor "(II)V").map (fun d => d.parameters.length) = some 2 := by decide +kernel
theorem hd_V_X4_search_2 : yX4_search.cls = RX4 ∧ yX4_search.cls ≠ "java/lang/invoke/MethodHandle" ∧ yX4_search.cls ≠ "java/lang/invoke/VarHandle" ∧ (parseMethodDescriptor yX4_search.desc).map (fun d => d.parameters.length) = some 2 := ⟨rfl, cn_RX4.1, cn_RX4.2, pm__II_V_2⟩
theorem fwX4_search_11 : Cond.fieldLink RX4 15 "QuietStairs$Planner" "weights" "[I" ∈ wsX4_search := List.mem_of_getElem? (i := 11) rfl
theorem fwX4_search_9 : Cond.fieldLink RX4 33 "QuietStairs$Planner" "sittings" "[I" ∈ wsX4_search := List.mem_of_getElem? (i := 9) rfl
theorem fwX4_search_10 : Cond.fieldLink RX4 48 "QuietStairs$Planner" "seatsADay" "I" ∈ wsX4_search := List.mem_of_getElem? (i := 10) rfl
theorem pm__III_V_3 : (parseMethodDescriptor "(III)V").map (fun d => d.parameters.length) = some 3 := by decide +kernel
theorem hd_V_X4_searchDay_3 : yX4_searchDay.cls = RX4 ∧ yX4_searchDay.cls ≠ "java/lang/invoke/MethodHandle" ∧ yX4_searchDay.cls ≠ "java/lang/invoke/VarHandle" ∧ (parseMethodDescriptor yX4_searchDay.desc).map (fun d => d.parameters.length) = some 3 := ⟨rfl, cn_RX4.1, cn_RX4.2, pm__III_V_3⟩
theorem iwX4_findPlan_X1 : ∀ w ∈ wsX10, w ∈ wsX4_findPlan := fun _ h => List.mem_cons_of_mem _ (List.mem_append_left _ (List.mem_append_left _ (List.mem_append_left _ (List.mem_append_left _ (List.mem_append_right _ h)))))
theorem fwX4_findPlan_1 : Cond.fieldLink RX4 36 "QuietStairs$House" "mediatorCount" "I" ∈ wsX4_findPlan := List.mem_of_getElem? (i := 1) rfl
theorem fwX4_findPlan_2 : Cond.methodLink RX4 42 Lib.Math.min.name ∈ wsX4_findPlan := List.mem_of_getElem? (i := 2) rfl
theorem fwX4_findPlan_3 : Cond.static Lib.Math.min.name ∈ wsX4_findPlan := List.mem_of_getElem? (i := 3) rfl
theorem fwX4_findPlan_4 : Cond.initialized "java/lang/Math" ∈ wsX4_findPlan := List.mem_of_getElem? (i := 4) rfl
theorem fwX4_findPlan_5 : Cond.code Lib.Math.min.name Lib.Math.min.code 2 (some .int) ∈ wsX4_findPlan := List.mem_of_getElem? (i := 5) rfl
theorem iwX4_findPlan_X4 : ∀ w ∈ wsX40, w ∈ wsX4_findPlan := fun _ h => List.mem_cons_of_mem _ (List.mem_append_left _ (List.mem_append_left _ (List.mem_append_left _ (List.mem_append_right _ h))))
theorem fwX4_findPlan_6 : Cond.fieldLink RX4 48 "QuietStairs$Planner" "seatsADay" "I" ∈ wsX4_findPlan := List.mem_of_getElem? (i := 6) rfl
theorem pm__LQuietStairs_House__V_1 : (parseMethodDescriptor "(LQuietStairs$House;)V").map (fun d => d.parameters.length) = some 1 := by decide +kernel
theorem hd_V_X4_gather_1 : yX4_gather.cls = RX4 ∧ yX4_gather.cls ≠ "java/lang/invoke/MethodHandle" ∧ yX4_gather.cls ≠ "java/lang/invoke/VarHandle" ∧ (parseMethodDescriptor yX4_gather.desc).map (fun d => d.parameters.length) = some 1 := ⟨rfl, cn_RX4.1, cn_RX4.2, pm__LQuietStairs_House__V_1⟩
theorem pm___V_0 : (parseMethodDescriptor "()V").map (fun d => d.parameters.length) = some 0 := by decide +kernel
theorem hd_V_X4_sortByWeight_0 : yX4_sortByWeight.cls = RX4 ∧ yX4_sortByWeight.cls ≠ "java/lang/invoke/MethodHandle" ∧ yX4_sortByWeight.cls ≠ "java/lang/invoke/VarHandle" ∧ (parseMethodDescriptor yX4_sortByWeight.desc).map (fun d => d.parameters.length) = some 0 := ⟨rfl, cn_RX4.1, cn_RX4.2, pm___V_0⟩
theorem fwX4_findPlan_7 : Cond.fieldLink RX4 58 "QuietStairs$Planner" "leastWait" "I" ∈ wsX4_findPlan := List.mem_of_getElem? (i := 7) rfl
theorem fwX4_findPlan_8 : Cond.fieldLink RX4 61 "QuietStairs$Planner" "count" "I" ∈ wsX4_findPlan := List.mem_of_getElem? (i := 8) rfl
theorem fwX4_findPlan_10 : Cond.fieldLink RX4 30 "QuietStairs$Planner" "busyBits" "[I" ∈ wsX4_findPlan := List.mem_of_getElem? (i := 10) rfl
theorem fwX4_findPlan_11 : Cond.fieldLink RX4 33 "QuietStairs$Planner" "sittings" "[I" ∈ wsX4_findPlan := List.mem_of_getElem? (i := 11) rfl
theorem fwX4_findPlan_9 : Cond.fieldLink RX4 15 "QuietStairs$Planner" "weights" "[I" ∈ wsX4_findPlan := List.mem_of_getElem? (i := 9) rfl
theorem iwX7_plan_X7 : ∀ w ∈ wsX70, w ∈ wsX7_plan := fun _ h => List.mem_cons_of_mem _ (List.mem_append_left _ (List.mem_append_left _ (List.mem_append_left _ (List.mem_append_left _ (List.mem_append_left _ (List.mem_append_right _ h))))))
theorem fwX7_plan_1 : Cond.fieldLink RX7 12 "QuietStairs" "now" "LQuietStairs$House;" ∈ wsX7_plan := List.mem_of_getElem? (i := 1) rfl
theorem iwX7_plan_X1 : ∀ w ∈ wsX10, w ∈ wsX7_plan := fun _ h => List.mem_cons_of_mem _ (List.mem_append_left _ (List.mem_append_left _ (List.mem_append_left _ (List.mem_append_left _ (List.mem_append_right _ h)))))
theorem fwX7_plan_2 : Cond.fieldLink RX7 86 "QuietStairs$House" "cases" "[LQuietStairs$Case;" ∈ wsX7_plan := List.mem_of_getElem? (i := 2) rfl
theorem iwX7_plan_X0 : ∀ w ∈ wsX00, w ∈ wsX7_plan := fun _ h => List.mem_cons_of_mem _ (List.mem_append_left _ (List.mem_append_left _ (List.mem_append_left _ (List.mem_append_right _ h))))
theorem fwX7_plan_3 : Cond.fieldLink RX7 99 "QuietStairs$Case" "state" "I" ∈ wsX7_plan := List.mem_of_getElem? (i := 3) rfl
theorem fwX7_plan_4 : Cond.fieldLink RX7 19 "QuietStairs" "planner" "LQuietStairs$Planner;" ∈ wsX7_plan := List.mem_of_getElem? (i := 4) rfl
theorem fwX7_plan_5 : Cond.fieldLink RX7 33 "QuietStairs" "roomCount" "I" ∈ wsX7_plan := List.mem_of_getElem? (i := 5) rfl
theorem pm__LQuietStairs_House_I_V_2 : (parseMethodDescriptor "(LQuietStairs$House;I)V").map (fun d => d.parameters.length) = some 2 := by decide +kernel
theorem hd_V_X4_findPlan_2 : yX4_findPlan.cls = RX4 ∧ yX4_findPlan.cls ≠ "java/lang/invoke/MethodHandle" ∧ yX4_findPlan.cls ≠ "java/lang/invoke/VarHandle" ∧ (parseMethodDescriptor yX4_findPlan.desc).map (fun d => d.parameters.length) = some 2 := ⟨rfl, cn_RX4.1, cn_RX4.2, pm__LQuietStairs_House_I_V_2⟩
theorem hd_V_X4_seatOf_1 : yX4_seatOf.cls = RX4 ∧ yX4_seatOf.cls ≠ "java/lang/invoke/MethodHandle" ∧ yX4_seatOf.cls ≠ "java/lang/invoke/VarHandle" ∧ (parseMethodDescriptor yX4_seatOf.desc).map (fun d => d.parameters.length) = some 1 := ⟨rfl, cn_RX4.1, cn_RX4.2, pm__I_I_1⟩
theorem iwX7_waits_X7 : ∀ w ∈ wsX70, w ∈ wsX7_waits := fun _ h => List.mem_cons_of_mem _ (List.mem_append_left _ (List.mem_append_left _ (List.mem_append_left _ (List.mem_append_left _ (List.mem_append_left _ (List.mem_append_right _ h))))))
theorem fwX7_waits_1 : Cond.fieldLink RX7 19 "QuietStairs" "planner" "LQuietStairs$Planner;" ∈ wsX7_waits := List.mem_of_getElem? (i := 1) rfl
theorem fwX7_waits_2 : Cond.fieldLink RX7 12 "QuietStairs" "now" "LQuietStairs$House;" ∈ wsX7_waits := List.mem_of_getElem? (i := 2) rfl
theorem fwX7_waits_3 : Cond.fieldLink RX7 33 "QuietStairs" "roomCount" "I" ∈ wsX7_waits := List.mem_of_getElem? (i := 3) rfl
theorem iwX7_waits_X4 : ∀ w ∈ wsX40, w ∈ wsX7_waits := fun _ h => List.mem_cons_of_mem _ (List.mem_append_left _ (List.mem_append_left _ (List.mem_append_left _ (List.mem_append_left _ (List.mem_append_right _ h)))))
theorem fwX7_waits_4 : Cond.fieldLink RX7 163 "QuietStairs$Planner" "leastWait" "I" ∈ wsX7_waits := List.mem_of_getElem? (i := 4) rfl
theorem fwX6_init_1 : Cond.methodLink RX6 1 objectInit ∈ wsX6_init := List.mem_of_getElem? (i := 1) rfl
theorem fwX6_init_2 : Cond.instanceMethod objectInit ∈ wsX6_init := List.mem_of_getElem? (i := 2) rfl
theorem fwX6_init_3 : Cond.code objectInit ⟨#[0xb1]⟩ 1 none ∈ wsX6_init := List.mem_of_getElem? (i := 3) rfl
theorem fwX3_init_1 : Cond.methodLink RX3 1 objectInit ∈ wsX3_init := List.mem_of_getElem? (i := 1) rfl
theorem fwX3_init_2 : Cond.instanceMethod objectInit ∈ wsX3_init := List.mem_of_getElem? (i := 2) rfl
theorem fwX3_init_3 : Cond.code objectInit ⟨#[0xb1]⟩ 1 none ∈ wsX3_init := List.mem_of_getElem? (i := 3) rfl
theorem fwX2_init_1 : Cond.methodLink RX2 1 objectInit ∈ wsX2_init := List.mem_of_getElem? (i := 1) rfl
theorem fwX2_init_2 : Cond.instanceMethod objectInit ∈ wsX2_init := List.mem_of_getElem? (i := 2) rfl
theorem fwX2_init_3 : Cond.code objectInit ⟨#[0xb1]⟩ 1 none ∈ wsX2_init := List.mem_of_getElem? (i := 3) rfl
theorem fwX0_init_1 : Cond.methodLink RX0 3 objectInit ∈ wsX0_init := List.mem_of_getElem? (i := 1) rfl
theorem fwX0_init_2 : Cond.instanceMethod objectInit ∈ wsX0_init := List.mem_of_getElem? (i := 2) rfl
theorem fwX0_init_3 : Cond.code objectInit ⟨#[0xb1]⟩ 1 none ∈ wsX0_init := List.mem_of_getElem? (i := 3) rfl
theorem fwX0_init_4 : Cond.arrayClass .int ∈ wsX0_init := List.mem_of_getElem? (i := 4) rfl
theorem iwX0_init_X0 : ∀ w ∈ wsX00, w ∈ wsX0_init := fun _ h => List.mem_cons_of_mem _ (List.mem_append_left _ (List.mem_append_right _ h))
theorem fwX0_init_5 : Cond.fieldLink RX0 9 "QuietStairs$Case" "parties" "[I" ∈ wsX0_init := List.mem_of_getElem? (i := 5) rfl
theorem fwX0_init_6 : Cond.fieldLink RX0 15 "QuietStairs$Case" "box" "[I" ∈ wsX0_init := List.mem_of_getElem? (i := 6) rfl
theorem fwX0_init_7 : Cond.classLink RX0 18 "[[I" ∈ wsX0_init := List.mem_of_getElem? (i := 7) rfl
theorem fwX0_init_8 : Cond.fieldLink RX0 20 "QuietStairs$Case" "offers" "[[I" ∈ wsX0_init := List.mem_of_getElem? (i := 8) rfl
theorem fwX0_init_9 : Cond.fieldLink RX0 23 "QuietStairs$Case" "logs" "[[I" ∈ wsX0_init := List.mem_of_getElem? (i := 9) rfl
theorem fwX0_init_10 : Cond.classLink RX0 26 RX6 ∈ wsX0_init := List.mem_of_getElem? (i := 10) rfl
theorem fwX0_init_11 : Cond.fieldLink RX0 28 "QuietStairs$Case" "terms" "[LQuietStairs$Term;" ∈ wsX0_init := List.mem_of_getElem? (i := 11) rfl
theorem iwX0_init_X6 : ∀ w ∈ wsX60, w ∈ wsX0_init := fun _ h => List.mem_cons_of_mem _ (List.mem_append_right _ h)
theorem fwX0_init_12 : Cond.instantiable RX6 5 ∈ wsX0_init := List.mem_of_getElem? (i := 12) rfl
theorem fwX0_init_13 : Cond.initialized RX6 ∈ wsX0_init := List.mem_of_getElem? (i := 13) rfl
theorem fwX0_init_14 : Cond.instanceMethod yX6_init ∈ wsX0_init := List.mem_of_getElem? (i := 14) rfl
theorem fwX1_init_1 : Cond.methodLink RX1 3 objectInit ∈ wsX1_init := List.mem_of_getElem? (i := 1) rfl
theorem fwX1_init_2 : Cond.instanceMethod objectInit ∈ wsX1_init := List.mem_of_getElem? (i := 2) rfl
theorem fwX1_init_3 : Cond.code objectInit ⟨#[0xb1]⟩ 1 none ∈ wsX1_init := List.mem_of_getElem? (i := 3) rfl
theorem fwX1_init_4 : Cond.classLink RX1 9 RX3 ∈ wsX1_init := List.mem_of_getElem? (i := 4) rfl
theorem iwX1_init_X1 : ∀ w ∈ wsX10, w ∈ wsX1_init := fun _ h => List.mem_cons_of_mem _ (List.mem_append_left _ (List.mem_append_left _ (List.mem_append_left _ (List.mem_append_left _ (List.mem_append_right _ h)))))
theorem fwX1_init_5 : Cond.fieldLink RX1 11 "QuietStairs$House" "parties" "[LQuietStairs$Party;" ∈ wsX1_init := List.mem_of_getElem? (i := 5) rfl
theorem fwX1_init_6 : Cond.classLink RX1 17 RX2 ∈ wsX1_init := List.mem_of_getElem? (i := 6) rfl
theorem fwX1_init_7 : Cond.fieldLink RX1 19 "QuietStairs$House" "mediators" "[LQuietStairs$Mediator;" ∈ wsX1_init := List.mem_of_getElem? (i := 7) rfl
theorem fwX1_init_8 : Cond.classLink RX1 23 RX0 ∈ wsX1_init := List.mem_of_getElem? (i := 8) rfl
theorem fwX1_init_9 : Cond.fieldLink RX1 25 "QuietStairs$House" "cases" "[LQuietStairs$Case;" ∈ wsX1_init := List.mem_of_getElem? (i := 9) rfl
theorem iwX1_init_X3 : ∀ w ∈ wsX30, w ∈ wsX1_init := fun _ h => List.mem_cons_of_mem _ (List.mem_append_left _ (List.mem_append_left _ (List.mem_append_left _ (List.mem_append_right _ h))))
theorem fwX1_init_10 : Cond.instantiable RX3 2 ∈ wsX1_init := List.mem_of_getElem? (i := 10) rfl
theorem fwX1_init_11 : Cond.initialized RX3 ∈ wsX1_init := List.mem_of_getElem? (i := 11) rfl
theorem fwX1_init_16 : Cond.instanceMethod yX3_init ∈ wsX1_init := List.mem_of_getElem? (i := 16) rfl
theorem iwX1_init_X2 : ∀ w ∈ wsX20, w ∈ wsX1_init := fun _ h => List.mem_cons_of_mem _ (List.mem_append_left _ (List.mem_append_left _ (List.mem_append_right _ h)))
theorem fwX1_init_12 : Cond.instantiable RX2 3 ∈ wsX1_init := List.mem_of_getElem? (i := 12) rfl
theorem fwX1_init_13 : Cond.initialized RX2 ∈ wsX1_init := List.mem_of_getElem? (i := 13) rfl
theorem fwX1_init_19 : Cond.instanceMethod yX2_init ∈ wsX1_init := List.mem_of_getElem? (i := 19) rfl
theorem iwX1_init_X0 : ∀ w ∈ wsX00, w ∈ wsX1_init := fun _ h => List.mem_cons_of_mem _ (List.mem_append_left _ (List.mem_append_right _ h))
theorem fwX1_init_14 : Cond.instantiable RX0 11 ∈ wsX1_init := List.mem_of_getElem? (i := 14) rfl
theorem fwX1_init_15 : Cond.initialized RX0 ∈ wsX1_init := List.mem_of_getElem? (i := 15) rfl
theorem fwX1_init_22 : Cond.methodLink RX1 31 yX0_init ∈ wsX1_init := List.mem_of_getElem? (i := 22) rfl
theorem fwX1_init_23 : Cond.instanceMethod yX0_init ∈ wsX1_init := List.mem_of_getElem? (i := 23) rfl
theorem fwX4_init_1 : Cond.methodLink RX4 3 objectInit ∈ wsX4_init := List.mem_of_getElem? (i := 1) rfl
theorem fwX4_init_2 : Cond.instanceMethod objectInit ∈ wsX4_init := List.mem_of_getElem? (i := 2) rfl
theorem fwX4_init_3 : Cond.code objectInit ⟨#[0xb1]⟩ 1 none ∈ wsX4_init := List.mem_of_getElem? (i := 3) rfl
theorem fwX4_init_4 : Cond.arrayClass .int ∈ wsX4_init := List.mem_of_getElem? (i := 4) rfl
theorem iwX4_init_X4 : ∀ w ∈ wsX40, w ∈ wsX4_init := fun _ h => List.mem_cons_of_mem _ (List.mem_append_right _ h)
theorem fwX4_init_5 : Cond.fieldLink RX4 9 "QuietStairs$Planner" "numbers" "[I" ∈ wsX4_init := List.mem_of_getElem? (i := 5) rfl
theorem fwX4_init_6 : Cond.fieldLink RX4 15 "QuietStairs$Planner" "weights" "[I" ∈ wsX4_init := List.mem_of_getElem? (i := 6) rfl
theorem fwX4_init_7 : Cond.fieldLink RX4 18 "QuietStairs$Planner" "pairBits" "[I" ∈ wsX4_init := List.mem_of_getElem? (i := 7) rfl
theorem fwX4_init_8 : Cond.fieldLink RX4 21 "QuietStairs$Planner" "heaviestFirst" "[I" ∈ wsX4_init := List.mem_of_getElem? (i := 8) rfl
theorem fwX4_init_9 : Cond.fieldLink RX4 24 "QuietStairs$Planner" "seats" "[I" ∈ wsX4_init := List.mem_of_getElem? (i := 9) rfl
theorem fwX4_init_10 : Cond.fieldLink RX4 27 "QuietStairs$Planner" "bestSeats" "[I" ∈ wsX4_init := List.mem_of_getElem? (i := 10) rfl
theorem fwX4_init_11 : Cond.fieldLink RX4 30 "QuietStairs$Planner" "busyBits" "[I" ∈ wsX4_init := List.mem_of_getElem? (i := 11) rfl
theorem fwX4_init_12 : Cond.fieldLink RX4 33 "QuietStairs$Planner" "sittings" "[I" ∈ wsX4_init := List.mem_of_getElem? (i := 12) rfl
theorem fwX5_init_1 : Cond.methodLink RX5 3 objectInit ∈ wsX5_init := List.mem_of_getElem? (i := 1) rfl
theorem fwX5_init_2 : Cond.instanceMethod objectInit ∈ wsX5_init := List.mem_of_getElem? (i := 2) rfl
theorem fwX5_init_3 : Cond.code objectInit ⟨#[0xb1]⟩ 1 none ∈ wsX5_init := List.mem_of_getElem? (i := 3) rfl
theorem fwX5_init_4 : Cond.arrayClass .int ∈ wsX5_init := List.mem_of_getElem? (i := 4) rfl
theorem iwX5_init_X5 : ∀ w ∈ wsX50, w ∈ wsX5_init := fun _ h => List.mem_cons_of_mem _ (List.mem_append_right _ h)
theorem fwX5_init_5 : Cond.fieldLink RX5 9 "QuietStairs$Table" "musts" "[I" ∈ wsX5_init := List.mem_of_getElem? (i := 5) rfl
theorem fwX5_init_6 : Cond.fieldLink RX5 15 "QuietStairs$Table" "hourBits" "[I" ∈ wsX5_init := List.mem_of_getElem? (i := 6) rfl
theorem fwX7_init_1 : Cond.methodLink RX7 3 objectInit ∈ wsX7_init := List.mem_of_getElem? (i := 1) rfl
theorem fwX7_init_2 : Cond.instanceMethod objectInit ∈ wsX7_init := List.mem_of_getElem? (i := 2) rfl
theorem fwX7_init_3 : Cond.code objectInit ⟨#[0xb1]⟩ 1 none ∈ wsX7_init := List.mem_of_getElem? (i := 3) rfl
theorem iwX7_init_X1 : ∀ w ∈ wsX10, w ∈ wsX7_init := fun _ h => List.mem_cons_of_mem _ (List.mem_append_left _ (List.mem_append_left _ (List.mem_append_left _ (List.mem_append_left _ (List.mem_append_left _ (List.mem_append_left _ (List.mem_append_left _ (List.mem_append_right _ h))))))))
theorem fwX7_init_4 : Cond.classLink RX7 9 RX1 ∈ wsX7_init := List.mem_of_getElem? (i := 4) rfl
theorem fwX7_init_5 : Cond.instantiable RX1 7 ∈ wsX7_init := List.mem_of_getElem? (i := 5) rfl
theorem fwX7_init_6 : Cond.initialized RX1 ∈ wsX7_init := List.mem_of_getElem? (i := 6) rfl
theorem fwX7_init_18 : Cond.methodLink RX7 11 yX1_init ∈ wsX7_init := List.mem_of_getElem? (i := 18) rfl
theorem fwX7_init_19 : Cond.instanceMethod yX1_init ∈ wsX7_init := List.mem_of_getElem? (i := 19) rfl
theorem iwX7_init_X7 : ∀ w ∈ wsX70, w ∈ wsX7_init := fun _ h => List.mem_cons_of_mem _ (List.mem_append_left _ (List.mem_append_left _ (List.mem_append_left _ (List.mem_append_left _ (List.mem_append_left _ (List.mem_append_left _ (List.mem_append_right _ h)))))))
theorem fwX7_init_7 : Cond.fieldLink RX7 12 "QuietStairs" "now" "LQuietStairs$House;" ∈ wsX7_init := List.mem_of_getElem? (i := 7) rfl
theorem iwX7_init_X4 : ∀ w ∈ wsX40, w ∈ wsX7_init := fun _ h => List.mem_cons_of_mem _ (List.mem_append_left _ (List.mem_append_left _ (List.mem_append_left _ (List.mem_append_left _ (List.mem_append_left _ (List.mem_append_right _ h))))))
theorem fwX7_init_8 : Cond.classLink RX7 16 RX4 ∈ wsX7_init := List.mem_of_getElem? (i := 8) rfl
theorem fwX7_init_9 : Cond.instantiable RX4 11 ∈ wsX7_init := List.mem_of_getElem? (i := 9) rfl
theorem fwX7_init_10 : Cond.initialized RX4 ∈ wsX7_init := List.mem_of_getElem? (i := 10) rfl
theorem fwX7_init_57 : Cond.instanceMethod yX4_init ∈ wsX7_init := List.mem_of_getElem? (i := 57) rfl
theorem fwX7_init_11 : Cond.fieldLink RX7 19 "QuietStairs" "planner" "LQuietStairs$Planner;" ∈ wsX7_init := List.mem_of_getElem? (i := 11) rfl
theorem iwX7_init_X5 : ∀ w ∈ wsX50, w ∈ wsX7_init := fun _ h => List.mem_cons_of_mem _ (List.mem_append_left _ (List.mem_append_left _ (List.mem_append_left _ (List.mem_append_left _ (List.mem_append_right _ h)))))
theorem fwX7_init_12 : Cond.classLink RX7 23 RX5 ∈ wsX7_init := List.mem_of_getElem? (i := 12) rfl
theorem fwX7_init_13 : Cond.instantiable RX5 3 ∈ wsX7_init := List.mem_of_getElem? (i := 13) rfl
theorem fwX7_init_14 : Cond.initialized RX5 ∈ wsX7_init := List.mem_of_getElem? (i := 14) rfl
theorem fwX7_init_68 : Cond.instanceMethod yX5_init ∈ wsX7_init := List.mem_of_getElem? (i := 68) rfl
theorem fwX7_init_15 : Cond.fieldLink RX7 26 "QuietStairs" "table" "LQuietStairs$Table;" ∈ wsX7_init := List.mem_of_getElem? (i := 15) rfl
theorem fwX7_init_16 : Cond.fieldLink RX7 30 "QuietStairs" "kept" "LQuietStairs$House;" ∈ wsX7_init := List.mem_of_getElem? (i := 16) rfl
theorem fwX7_init_17 : Cond.fieldLink RX7 33 "QuietStairs" "roomCount" "I" ∈ wsX7_init := List.mem_of_getElem? (i := 17) rfl
theorem cn_RX8 : RX8 ≠ "java/lang/invoke/MethodHandle" ∧ RX8 ≠ "java/lang/invoke/VarHandle" := ⟨fun e => absurd (String.ofList_injective (show String.ofList ['Q', 'u', 'i', 'e', 't', 'S', 't', 'a', 'i', 'r', 's', 'M', 'o', 'd', 'e', 'l'] = String.ofList ['j', 'a', 'v', 'a', '/', 'l', 'a', 'n', 'g', '/', 'i', 'n', 'v', 'o', 'k', 'e', '/', 'M', 'e', 't', 'h', 'o', 'd', 'H', 'a', 'n', 'd', 'l', 'e'] from e)) (by decide +kernel), fun e => absurd (String.ofList_injective (show String.ofList ['Q', 'u', 'i', 'e', 't', 'S', 't', 'a', 'i', 'r', 's', 'M', 'o', 'd', 'e', 'l'] = String.ofList ['j', 'a', 'v', 'a', '/', 'l', 'a', 'n', 'g', '/', 'i', 'n', 'v', 'o', 'k', 'e', '/', 'V', 'a', 'r', 'H', 'a', 'n', 'd', 'l', 'e'] from e)) (by decide +kernel)⟩
theorem hd_S_X8_in_3 : yX8_in.cls = RX8 ∧ yX8_in.cls ≠ "java/lang/invoke/MethodHandle" ∧ yX8_in.cls ≠ "java/lang/invoke/VarHandle" ∧ (parseMethodDescriptor yX8_in.desc).map (fun d => d.parameters.length) = some 3 := ⟨rfl, cn_RX8.1, cn_RX8.2, pm__III_Z_3⟩
theorem iwX8_isParty_X8 : ∀ w ∈ wsX80, w ∈ wsX8_isParty := fun _ h => List.mem_cons_of_mem _ (List.mem_append_right _ h)
theorem fwX8_isParty_1 : Cond.fieldLink RX8 7 "QuietStairsModel" "s" "[I" ∈ wsX8_isParty := List.mem_of_getElem? (i := 1) rfl
theorem iwX8_isMediator_X8 : ∀ w ∈ wsX80, w ∈ wsX8_isMediator := fun _ h => List.mem_cons_of_mem _ (List.mem_append_right _ h)
theorem fwX8_isMediator_1 : Cond.fieldLink RX8 7 "QuietStairsModel" "s" "[I" ∈ wsX8_isMediator := List.mem_of_getElem? (i := 1) rfl
theorem iwX8_isCase_X8 : ∀ w ∈ wsX80, w ∈ wsX8_isCase := fun _ h => List.mem_cons_of_mem _ (List.mem_append_right _ h)
theorem fwX8_isCase_1 : Cond.fieldLink RX8 7 "QuietStairsModel" "s" "[I" ∈ wsX8_isCase := List.mem_of_getElem? (i := 1) rfl
theorem hd_S_X8_otherOf_1 : yX8_otherOf.cls = RX8 ∧ yX8_otherOf.cls ≠ "java/lang/invoke/MethodHandle" ∧ yX8_otherOf.cls ≠ "java/lang/invoke/VarHandle" ∧ (parseMethodDescriptor yX8_otherOf.desc).map (fun d => d.parameters.length) = some 1 := ⟨rfl, cn_RX8.1, cn_RX8.2, pm__I_I_1⟩
theorem hd_V_X8_isMediator_1 : yX8_isMediator.cls = RX8 ∧ yX8_isMediator.cls ≠ "java/lang/invoke/MethodHandle" ∧ yX8_isMediator.cls ≠ "java/lang/invoke/VarHandle" ∧ (parseMethodDescriptor yX8_isMediator.desc).map (fun d => d.parameters.length) = some 1 := ⟨rfl, cn_RX8.1, cn_RX8.2, pm__I_Z_1⟩
theorem iwX8_mayMeet_X8 : ∀ w ∈ wsX80, w ∈ wsX8_mayMeet := fun _ h => List.mem_cons_of_mem _ (List.mem_append_right _ h)
theorem fwX8_mayMeet_1 : Cond.fieldLink RX8 7 "QuietStairsModel" "s" "[I" ∈ wsX8_mayMeet := List.mem_of_getElem? (i := 1) rfl
theorem hd_S_X8_oneOf_1 : yX8_oneOf.cls = RX8 ∧ yX8_oneOf.cls ≠ "java/lang/invoke/MethodHandle" ∧ yX8_oneOf.cls ≠ "java/lang/invoke/VarHandle" ∧ (parseMethodDescriptor yX8_oneOf.desc).map (fun d => d.parameters.length) = some 1 := ⟨rfl, cn_RX8.1, cn_RX8.2, pm__I_I_1⟩
theorem iwX8_may_X8 : ∀ w ∈ wsX80, w ∈ wsX8_may := fun _ h => List.mem_cons_of_mem _ (List.mem_append_right _ h)
theorem fwX8_may_1 : Cond.fieldLink RX8 7 "QuietStairsModel" "s" "[I" ∈ wsX8_may := List.mem_of_getElem? (i := 1) rfl
theorem hd_S_X8_at_2 : yX8_at.cls = RX8 ∧ yX8_at.cls ≠ "java/lang/invoke/MethodHandle" ∧ yX8_at.cls ≠ "java/lang/invoke/VarHandle" ∧ (parseMethodDescriptor yX8_at.desc).map (fun d => d.parameters.length) = some 2 := ⟨rfl, cn_RX8.1, cn_RX8.2, pm__II_I_2⟩
theorem hd_V_X8_mayMeet_2 : yX8_mayMeet.cls = RX8 ∧ yX8_mayMeet.cls ≠ "java/lang/invoke/MethodHandle" ∧ yX8_mayMeet.cls ≠ "java/lang/invoke/VarHandle" ∧ (parseMethodDescriptor yX8_mayMeet.desc).map (fun d => d.parameters.length) = some 2 := ⟨rfl, cn_RX8.1, cn_RX8.2, pm__II_Z_2⟩
theorem hd_V_X8_isPair_1 : yX8_isPair.cls = RX8 ∧ yX8_isPair.cls ≠ "java/lang/invoke/MethodHandle" ∧ yX8_isPair.cls ≠ "java/lang/invoke/VarHandle" ∧ (parseMethodDescriptor yX8_isPair.desc).map (fun d => d.parameters.length) = some 1 := ⟨rfl, cn_RX8.1, cn_RX8.2, pm__I_Z_1⟩
theorem hd_V_X8_isCase_1 : yX8_isCase.cls = RX8 ∧ yX8_isCase.cls ≠ "java/lang/invoke/MethodHandle" ∧ yX8_isCase.cls ≠ "java/lang/invoke/VarHandle" ∧ (parseMethodDescriptor yX8_isCase.desc).map (fun d => d.parameters.length) = some 1 := ⟨rfl, cn_RX8.1, cn_RX8.2, pm__I_Z_1⟩
theorem hd_V_X8_may_2 : yX8_may.cls = RX8 ∧ yX8_may.cls ≠ "java/lang/invoke/MethodHandle" ∧ yX8_may.cls ≠ "java/lang/invoke/VarHandle" ∧ (parseMethodDescriptor yX8_may.desc).map (fun d => d.parameters.length) = some 2 := ⟨rfl, cn_RX8.1, cn_RX8.2, pm__II_Z_2⟩
theorem iwX8_casesThat_X8 : ∀ w ∈ wsX80, w ∈ wsX8_casesThat := fun _ h => List.mem_cons_of_mem _ (List.mem_append_right _ h)
theorem fwX8_casesThat_1 : Cond.fieldLink RX8 7 "QuietStairsModel" "s" "[I" ∈ wsX8_casesThat := List.mem_of_getElem? (i := 1) rfl
theorem iwX8_joined_X8 : ∀ w ∈ wsX80, w ∈ wsX8_joined := fun _ h => List.mem_cons_of_mem _ (List.mem_append_right _ h)
theorem fwX8_joined_1 : Cond.fieldLink RX8 7 "QuietStairsModel" "s" "[I" ∈ wsX8_joined := List.mem_of_getElem? (i := 1) rfl
theorem fwX8_joined_2 : Cond.fieldLink RX8 20 "QuietStairsModel" "headOf" "[I" ∈ wsX8_joined := List.mem_of_getElem? (i := 2) rfl
theorem hd_S_X8_termAt_2 : yX8_termAt.cls = RX8 ∧ yX8_termAt.cls ≠ "java/lang/invoke/MethodHandle" ∧ yX8_termAt.cls ≠ "java/lang/invoke/VarHandle" ∧ (parseMethodDescriptor yX8_termAt.desc).map (fun d => d.parameters.length) = some 2 := ⟨rfl, cn_RX8.1, cn_RX8.2, pm__II_I_2⟩
theorem iwX8_judge_X8 : ∀ w ∈ wsX80, w ∈ wsX8_judge := fun _ h => List.mem_cons_of_mem _ (List.mem_append_right _ h)
theorem fwX8_judge_1 : Cond.fieldLink RX8 7 "QuietStairsModel" "s" "[I" ∈ wsX8_judge := List.mem_of_getElem? (i := 1) rfl
theorem iwX8_isTerm_X8 : ∀ w ∈ wsX80, w ∈ wsX8_isTerm := fun _ h => List.mem_cons_of_mem _ (List.mem_append_right _ h)
theorem fwX8_isTerm_1 : Cond.fieldLink RX8 7 "QuietStairsModel" "s" "[I" ∈ wsX8_isTerm := List.mem_of_getElem? (i := 1) rfl
theorem hd_V_X8_isTerm_2 : yX8_isTerm.cls = RX8 ∧ yX8_isTerm.cls ≠ "java/lang/invoke/MethodHandle" ∧ yX8_isTerm.cls ≠ "java/lang/invoke/VarHandle" ∧ (parseMethodDescriptor yX8_isTerm.desc).map (fun d => d.parameters.length) = some 2 := ⟨rfl, cn_RX8.1, cn_RX8.2, pm__II_Z_2⟩
theorem hd_V_X8_judge_2 : yX8_judge.cls = RX8 ∧ yX8_judge.cls ≠ "java/lang/invoke/MethodHandle" ∧ yX8_judge.cls ≠ "java/lang/invoke/VarHandle" ∧ (parseMethodDescriptor yX8_judge.desc).map (fun d => d.parameters.length) = some 2 := ⟨rfl, cn_RX8.1, cn_RX8.2, pm__II_I_2⟩
theorem iwX8_termOf_X8 : ∀ w ∈ wsX80, w ∈ wsX8_termOf := fun _ h => List.mem_cons_of_mem _ (List.mem_append_right _ h)
theorem fwX8_termOf_1 : Cond.fieldLink RX8 7 "QuietStairsModel" "s" "[I" ∈ wsX8_termOf := List.mem_of_getElem? (i := 1) rfl
theorem iwX8_termsThat_X8 : ∀ w ∈ wsX80, w ∈ wsX8_termsThat := fun _ h => List.mem_cons_of_mem _ (List.mem_append_right _ h)
theorem fwX8_termsThat_1 : Cond.fieldLink RX8 7 "QuietStairsModel" "s" "[I" ∈ wsX8_termsThat := List.mem_of_getElem? (i := 1) rfl
theorem hd_S_X8_isSide_1 : yX8_isSide.cls = RX8 ∧ yX8_isSide.cls ≠ "java/lang/invoke/MethodHandle" ∧ yX8_isSide.cls ≠ "java/lang/invoke/VarHandle" ∧ (parseMethodDescriptor yX8_isSide.desc).map (fun d => d.parameters.length) = some 1 := ⟨rfl, cn_RX8.1, cn_RX8.2, pm__I_Z_1⟩
theorem iwX8_put_X8 : ∀ w ∈ wsX80, w ∈ wsX8_put := fun _ h => List.mem_cons_of_mem _ (List.mem_append_right _ h)
theorem fwX8_put_1 : Cond.fieldLink RX8 7 "QuietStairsModel" "s" "[I" ∈ wsX8_put := List.mem_of_getElem? (i := 1) rfl
theorem iwX8_learns_X8 : ∀ w ∈ wsX80, w ∈ wsX8_learns := fun _ h => List.mem_cons_of_mem _ (List.mem_append_right _ h)
theorem fwX8_learns_1 : Cond.fieldLink RX8 7 "QuietStairsModel" "s" "[I" ∈ wsX8_learns := List.mem_of_getElem? (i := 1) rfl
theorem iwX8_rooms_X8 : ∀ w ∈ wsX80, w ∈ wsX8_rooms := fun _ h => List.mem_cons_of_mem _ (List.mem_append_right _ h)
theorem fwX8_rooms_1 : Cond.fieldLink RX8 16 "QuietStairsModel" "rooms" "I" ∈ wsX8_rooms := List.mem_of_getElem? (i := 1) rfl
theorem iwX8_keep_X8 : ∀ w ∈ wsX80, w ∈ wsX8_keep := fun _ h => List.mem_cons_of_mem _ (List.mem_append_right _ h)
theorem fwX8_keep_3 : Cond.fieldLink RX8 134 "QuietStairsModel" "isKept" "Z" ∈ wsX8_keep := List.mem_of_getElem? (i := 3) rfl
theorem fwX8_keep_1 : Cond.fieldLink RX8 13 "QuietStairsModel" "kept" "[I" ∈ wsX8_keep := List.mem_of_getElem? (i := 1) rfl
theorem fwX8_keep_2 : Cond.fieldLink RX8 7 "QuietStairsModel" "s" "[I" ∈ wsX8_keep := List.mem_of_getElem? (i := 2) rfl
theorem iwX8_back_X8 : ∀ w ∈ wsX80, w ∈ wsX8_back := fun _ h => List.mem_cons_of_mem _ (List.mem_append_right _ h)
theorem fwX8_back_1 : Cond.fieldLink RX8 134 "QuietStairsModel" "isKept" "Z" ∈ wsX8_back := List.mem_of_getElem? (i := 1) rfl
theorem fwX8_back_2 : Cond.fieldLink RX8 7 "QuietStairsModel" "s" "[I" ∈ wsX8_back := List.mem_of_getElem? (i := 2) rfl
theorem fwX8_back_3 : Cond.fieldLink RX8 13 "QuietStairsModel" "kept" "[I" ∈ wsX8_back := List.mem_of_getElem? (i := 3) rfl
theorem iwX8_isOwn_X8 : ∀ w ∈ wsX80, w ∈ wsX8_isOwn := fun _ h => List.mem_cons_of_mem _ (List.mem_append_right _ h)
theorem fwX8_isOwn_1 : Cond.fieldLink RX8 7 "QuietStairsModel" "s" "[I" ∈ wsX8_isOwn := List.mem_of_getElem? (i := 1) rfl
theorem iwX8_mayBe_X8 : ∀ w ∈ wsX80, w ∈ wsX8_mayBe := fun _ h => List.mem_cons_of_mem _ (List.mem_append_right _ h)
theorem fwX8_mayBe_1 : Cond.fieldLink RX8 7 "QuietStairsModel" "s" "[I" ∈ wsX8_mayBe := List.mem_of_getElem? (i := 1) rfl
theorem fwX8_mayBe_2 : Cond.fieldLink RX8 32 "QuietStairsModel" "hours" "[I" ∈ wsX8_mayBe := List.mem_of_getElem? (i := 2) rfl
theorem iwX8_fits_X8 : ∀ w ∈ wsX80, w ∈ wsX8_fits := fun _ h => List.mem_cons_of_mem _ (List.mem_append_right _ h)
theorem fwX8_fits_1 : Cond.fieldLink RX8 26 "QuietStairsModel" "tried" "[I" ∈ wsX8_fits := List.mem_of_getElem? (i := 1) rfl
theorem fwX8_fits_2 : Cond.fieldLink RX8 23 "QuietStairsModel" "planned" "[I" ∈ wsX8_fits := List.mem_of_getElem? (i := 2) rfl
theorem fwX8_fits_3 : Cond.fieldLink RX8 16 "QuietStairsModel" "rooms" "I" ∈ wsX8_fits := List.mem_of_getElem? (i := 3) rfl
theorem iwX8_waitsOf_X8 : ∀ w ∈ wsX80, w ∈ wsX8_waitsOf := fun _ h => List.mem_cons_of_mem _ (List.mem_append_right _ h)
theorem fwX8_waitsOf_1 : Cond.fieldLink RX8 7 "QuietStairsModel" "s" "[I" ∈ wsX8_waitsOf := List.mem_of_getElem? (i := 1) rfl
theorem fwX8_waitsOf_2 : Cond.fieldLink RX8 23 "QuietStairsModel" "planned" "[I" ∈ wsX8_waitsOf := List.mem_of_getElem? (i := 2) rfl
theorem fwX8_waitsOf_3 : Cond.fieldLink RX8 26 "QuietStairsModel" "tried" "[I" ∈ wsX8_waitsOf := List.mem_of_getElem? (i := 3) rfl
theorem hd_V_X8_isOwn_3 : yX8_isOwn.cls = RX8 ∧ yX8_isOwn.cls ≠ "java/lang/invoke/MethodHandle" ∧ yX8_isOwn.cls ≠ "java/lang/invoke/VarHandle" ∧ (parseMethodDescriptor yX8_isOwn.desc).map (fun d => d.parameters.length) = some 3 := ⟨rfl, cn_RX8.1, cn_RX8.2, pm__III_Z_3⟩
theorem iwX8_hourFrom_X8 : ∀ w ∈ wsX80, w ∈ wsX8_hourFrom := fun _ h => List.mem_cons_of_mem _ (List.mem_append_right _ h)
theorem fwX8_hourFrom_1 : Cond.fieldLink RX8 32 "QuietStairsModel" "hours" "[I" ∈ wsX8_hourFrom := List.mem_of_getElem? (i := 1) rfl
theorem fwX8_hourFrom_2 : Cond.fieldLink RX8 7 "QuietStairsModel" "s" "[I" ∈ wsX8_hourFrom := List.mem_of_getElem? (i := 2) rfl
theorem pm__IIII_Z_4 : (parseMethodDescriptor "(IIII)Z").map (fun d => d.parameters.length) = some 4 := by decide +kernel
theorem hd_V_X8_mayBe_4 : yX8_mayBe.cls = RX8 ∧ yX8_mayBe.cls ≠ "java/lang/invoke/MethodHandle" ∧ yX8_mayBe.cls ≠ "java/lang/invoke/VarHandle" ∧ (parseMethodDescriptor yX8_mayBe.desc).map (fun d => d.parameters.length) = some 4 := ⟨rfl, cn_RX8.1, cn_RX8.2, pm__IIII_Z_4⟩
theorem iwX8_findHeads_X8 : ∀ w ∈ wsX80, w ∈ wsX8_findHeads := fun _ h => List.mem_cons_of_mem _ (List.mem_append_right _ h)
theorem fwX8_findHeads_1 : Cond.fieldLink RX8 7 "QuietStairsModel" "s" "[I" ∈ wsX8_findHeads := List.mem_of_getElem? (i := 1) rfl
theorem fwX8_findHeads_2 : Cond.fieldLink RX8 20 "QuietStairsModel" "headOf" "[I" ∈ wsX8_findHeads := List.mem_of_getElem? (i := 2) rfl
theorem hd_V_X8_findHeads_0 : yX8_findHeads.cls = RX8 ∧ yX8_findHeads.cls ≠ "java/lang/invoke/MethodHandle" ∧ yX8_findHeads.cls ≠ "java/lang/invoke/VarHandle" ∧ (parseMethodDescriptor yX8_findHeads.desc).map (fun d => d.parameters.length) = some 0 := ⟨rfl, cn_RX8.1, cn_RX8.2, pm___V_0⟩
theorem iwX8_of_X8 : ∀ w ∈ wsX80, w ∈ wsX8_of := fun _ h => List.mem_cons_of_mem _ (List.mem_append_right _ h)
theorem fwX8_of_1 : Cond.fieldLink RX8 20 "QuietStairsModel" "headOf" "[I" ∈ wsX8_of := List.mem_of_getElem? (i := 1) rfl
theorem fwX8_of_2 : Cond.fieldLink RX8 7 "QuietStairsModel" "s" "[I" ∈ wsX8_of := List.mem_of_getElem? (i := 2) rfl
theorem hd_V_X8_joined_1 : yX8_joined.cls = RX8 ∧ yX8_joined.cls ≠ "java/lang/invoke/MethodHandle" ∧ yX8_joined.cls ≠ "java/lang/invoke/VarHandle" ∧ (parseMethodDescriptor yX8_joined.desc).map (fun d => d.parameters.length) = some 1 := ⟨rfl, cn_RX8.1, cn_RX8.2, pm__I_I_1⟩
theorem iwX8_quarrels_X8 : ∀ w ∈ wsX80, w ∈ wsX8_quarrels := fun _ h => List.mem_cons_of_mem _ (List.mem_append_right _ h)
theorem fwX8_quarrels_1 : Cond.fieldLink RX8 7 "QuietStairsModel" "s" "[I" ∈ wsX8_quarrels := List.mem_of_getElem? (i := 1) rfl
theorem fwX8_quarrels_2 : Cond.fieldLink RX8 20 "QuietStairsModel" "headOf" "[I" ∈ wsX8_quarrels := List.mem_of_getElem? (i := 2) rfl
theorem iwX8_many_X8 : ∀ w ∈ wsX80, w ∈ wsX8_many := fun _ h => List.mem_cons_of_mem _ (List.mem_append_right _ h)
theorem fwX8_many_1 : Cond.fieldLink RX8 7 "QuietStairsModel" "s" "[I" ∈ wsX8_many := List.mem_of_getElem? (i := 1) rfl
theorem hd_V_X8_casesThat_1 : yX8_casesThat.cls = RX8 ∧ yX8_casesThat.cls ≠ "java/lang/invoke/MethodHandle" ∧ yX8_casesThat.cls ≠ "java/lang/invoke/VarHandle" ∧ (parseMethodDescriptor yX8_casesThat.desc).map (fun d => d.parameters.length) = some 1 := ⟨rfl, cn_RX8.1, cn_RX8.2, pm__I_I_1⟩
theorem hd_V_X8_quarrels_0 : yX8_quarrels.cls = RX8 ∧ yX8_quarrels.cls ≠ "java/lang/invoke/MethodHandle" ∧ yX8_quarrels.cls ≠ "java/lang/invoke/VarHandle" ∧ (parseMethodDescriptor yX8_quarrels.desc).map (fun d => d.parameters.length) = some 0 := ⟨rfl, cn_RX8.1, cn_RX8.2, pm___I_0⟩
theorem hd_V_X8_termsThat_1 : yX8_termsThat.cls = RX8 ∧ yX8_termsThat.cls ≠ "java/lang/invoke/MethodHandle" ∧ yX8_termsThat.cls ≠ "java/lang/invoke/VarHandle" ∧ (parseMethodDescriptor yX8_termsThat.desc).map (fun d => d.parameters.length) = some 1 := ⟨rfl, cn_RX8.1, cn_RX8.2, pm__I_I_1⟩
theorem pm__IIIII_I_5 : (parseMethodDescriptor "(IIIII)I").map (fun d => d.parameters.length) = some 5 := by decide +kernel
theorem hd_V_X8_next_5 : yX8_next.cls = RX8 ∧ yX8_next.cls ≠ "java/lang/invoke/MethodHandle" ∧ yX8_next.cls ≠ "java/lang/invoke/VarHandle" ∧ (parseMethodDescriptor yX8_next.desc).map (fun d => d.parameters.length) = some 5 := ⟨rfl, cn_RX8.1, cn_RX8.2, pm__IIIII_I_5⟩
theorem hd_V_X8_hourFrom_5 : yX8_hourFrom.cls = RX8 ∧ yX8_hourFrom.cls ≠ "java/lang/invoke/MethodHandle" ∧ yX8_hourFrom.cls ≠ "java/lang/invoke/VarHandle" ∧ (parseMethodDescriptor yX8_hourFrom.desc).map (fun d => d.parameters.length) = some 5 := ⟨rfl, cn_RX8.1, cn_RX8.2, pm__IIIII_I_5⟩
theorem iwX8_makeTable_X8 : ∀ w ∈ wsX80, w ∈ wsX8_makeTable := fun _ h => List.mem_cons_of_mem _ (List.mem_append_right _ h)
theorem fwX8_makeTable_2 : Cond.fieldLink RX8 32 "QuietStairsModel" "hours" "[I" ∈ wsX8_makeTable := List.mem_of_getElem? (i := 2) rfl
theorem fwX8_makeTable_1 : Cond.fieldLink RX8 7 "QuietStairsModel" "s" "[I" ∈ wsX8_makeTable := List.mem_of_getElem? (i := 1) rfl
theorem iwX8_hour_X8 : ∀ w ∈ wsX80, w ∈ wsX8_hour := fun _ h => List.mem_cons_of_mem _ (List.mem_append_right _ h)
theorem fwX8_hour_1 : Cond.fieldLink RX8 7 "QuietStairsModel" "s" "[I" ∈ wsX8_hour := List.mem_of_getElem? (i := 1) rfl
theorem hd_V_X8_makeTable_3 : yX8_makeTable.cls = RX8 ∧ yX8_makeTable.cls ≠ "java/lang/invoke/MethodHandle" ∧ yX8_makeTable.cls ≠ "java/lang/invoke/VarHandle" ∧ (parseMethodDescriptor yX8_makeTable.desc).map (fun d => d.parameters.length) = some 3 := ⟨rfl, cn_RX8.1, cn_RX8.2, pm__III_Z_3⟩
theorem fwX8_hour_2 : Cond.fieldLink RX8 32 "QuietStairsModel" "hours" "[I" ∈ wsX8_hour := List.mem_of_getElem? (i := 2) rfl
theorem iwX8_canHold_X8 : ∀ w ∈ wsX80, w ∈ wsX8_canHold := fun _ h => List.mem_cons_of_mem _ (List.mem_append_right _ h)
theorem fwX8_canHold_1 : Cond.fieldLink RX8 7 "QuietStairsModel" "s" "[I" ∈ wsX8_canHold := List.mem_of_getElem? (i := 1) rfl
theorem iwX8_breaks_X8 : ∀ w ∈ wsX80, w ∈ wsX8_breaks := fun _ h => List.mem_cons_of_mem _ (List.mem_append_right _ h)
theorem fwX8_breaks_1 : Cond.fieldLink RX8 7 "QuietStairsModel" "s" "[I" ∈ wsX8_breaks := List.mem_of_getElem? (i := 1) rfl
theorem iwX8_note_X8 : ∀ w ∈ wsX80, w ∈ wsX8_note := fun _ h => List.mem_cons_of_mem _ (List.mem_append_right _ h)
theorem fwX8_note_1 : Cond.fieldLink RX8 79 "QuietStairsModel" "many" "I" ∈ wsX8_note := List.mem_of_getElem? (i := 1) rfl
theorem hd_V_X8_waitsOf_1 : yX8_waitsOf.cls = RX8 ∧ yX8_waitsOf.cls ≠ "java/lang/invoke/MethodHandle" ∧ yX8_waitsOf.cls ≠ "java/lang/invoke/VarHandle" ∧ (parseMethodDescriptor yX8_waitsOf.desc).map (fun d => d.parameters.length) = some 1 := ⟨rfl, cn_RX8.1, cn_RX8.2, pm__I_I_1⟩
theorem fwX8_note_2 : Cond.fieldLink RX8 85 "QuietStairsModel" "least" "I" ∈ wsX8_note := List.mem_of_getElem? (i := 2) rfl
theorem fwX8_note_3 : Cond.fieldLink RX8 29 "QuietStairsModel" "best" "[I" ∈ wsX8_note := List.mem_of_getElem? (i := 3) rfl
theorem fwX8_note_4 : Cond.fieldLink RX8 26 "QuietStairsModel" "tried" "[I" ∈ wsX8_note := List.mem_of_getElem? (i := 4) rfl
theorem iwX8_makePlan_X8 : ∀ w ∈ wsX80, w ∈ wsX8_makePlan := fun _ h => List.mem_cons_of_mem _ (List.mem_append_right _ h)
theorem fwX8_makePlan_1 : Cond.fieldLink RX8 79 "QuietStairsModel" "many" "I" ∈ wsX8_makePlan := List.mem_of_getElem? (i := 1) rfl
theorem fwX8_makePlan_2 : Cond.fieldLink RX8 7 "QuietStairsModel" "s" "[I" ∈ wsX8_makePlan := List.mem_of_getElem? (i := 2) rfl
theorem fwX8_makePlan_4 : Cond.constant RX8 88 (1000000) ∈ wsX8_makePlan := List.mem_of_getElem? (i := 4) rfl
theorem fwX8_makePlan_5 : Cond.fieldLink RX8 85 "QuietStairsModel" "least" "I" ∈ wsX8_makePlan := List.mem_of_getElem? (i := 5) rfl
theorem fwX8_makePlan_6 : Cond.fieldLink RX8 26 "QuietStairsModel" "tried" "[I" ∈ wsX8_makePlan := List.mem_of_getElem? (i := 6) rfl
theorem hd_V_X8_fits_1 : yX8_fits.cls = RX8 ∧ yX8_fits.cls ≠ "java/lang/invoke/MethodHandle" ∧ yX8_fits.cls ≠ "java/lang/invoke/VarHandle" ∧ (parseMethodDescriptor yX8_fits.desc).map (fun d => d.parameters.length) = some 1 := ⟨rfl, cn_RX8.1, cn_RX8.2, pm__I_Z_1⟩
theorem hd_V_X8_note_0 : yX8_note.cls = RX8 ∧ yX8_note.cls ≠ "java/lang/invoke/MethodHandle" ∧ yX8_note.cls ≠ "java/lang/invoke/VarHandle" ∧ (parseMethodDescriptor yX8_note.desc).map (fun d => d.parameters.length) = some 0 := ⟨rfl, cn_RX8.1, cn_RX8.2, pm___V_0⟩
theorem fwX8_makePlan_3 : Cond.fieldLink RX8 23 "QuietStairsModel" "planned" "[I" ∈ wsX8_makePlan := List.mem_of_getElem? (i := 3) rfl
theorem iwX8_plan_X8 : ∀ w ∈ wsX80, w ∈ wsX8_plan := fun _ h => List.mem_cons_of_mem _ (List.mem_append_right _ h)
theorem fwX8_plan_1 : Cond.fieldLink RX8 7 "QuietStairsModel" "s" "[I" ∈ wsX8_plan := List.mem_of_getElem? (i := 1) rfl
theorem hd_V_X8_makePlan_0 : yX8_makePlan.cls = RX8 ∧ yX8_makePlan.cls ≠ "java/lang/invoke/MethodHandle" ∧ yX8_makePlan.cls ≠ "java/lang/invoke/VarHandle" ∧ (parseMethodDescriptor yX8_makePlan.desc).map (fun d => d.parameters.length) = some 0 := ⟨rfl, cn_RX8.1, cn_RX8.2, pm___V_0⟩
theorem fwX8_plan_2 : Cond.fieldLink RX8 79 "QuietStairsModel" "many" "I" ∈ wsX8_plan := List.mem_of_getElem? (i := 2) rfl
theorem fwX8_plan_3 : Cond.fieldLink RX8 23 "QuietStairsModel" "planned" "[I" ∈ wsX8_plan := List.mem_of_getElem? (i := 3) rfl
theorem fwX8_plan_4 : Cond.fieldLink RX8 29 "QuietStairsModel" "best" "[I" ∈ wsX8_plan := List.mem_of_getElem? (i := 4) rfl
theorem iwX8_waits_X8 : ∀ w ∈ wsX80, w ∈ wsX8_waits := fun _ h => List.mem_cons_of_mem _ (List.mem_append_right _ h)
theorem fwX8_waits_1 : Cond.fieldLink RX8 85 "QuietStairsModel" "least" "I" ∈ wsX8_waits := List.mem_of_getElem? (i := 1) rfl
theorem fwX8_init_1 : Cond.methodLink RX8 1 objectInit ∈ wsX8_init := List.mem_of_getElem? (i := 1) rfl
theorem fwX8_init_2 : Cond.instanceMethod objectInit ∈ wsX8_init := List.mem_of_getElem? (i := 2) rfl
theorem fwX8_init_3 : Cond.code objectInit ⟨#[0xb1]⟩ 1 none ∈ wsX8_init := List.mem_of_getElem? (i := 3) rfl
theorem fwX8_init_4 : Cond.arrayClass .int ∈ wsX8_init := List.mem_of_getElem? (i := 4) rfl
theorem iwX8_init_X8 : ∀ w ∈ wsX80, w ∈ wsX8_init := fun _ h => List.mem_cons_of_mem _ (List.mem_append_right _ h)
theorem fwX8_init_5 : Cond.fieldLink RX8 7 "QuietStairsModel" "s" "[I" ∈ wsX8_init := List.mem_of_getElem? (i := 5) rfl
theorem fwX8_init_6 : Cond.fieldLink RX8 13 "QuietStairsModel" "kept" "[I" ∈ wsX8_init := List.mem_of_getElem? (i := 6) rfl
theorem fwX8_init_7 : Cond.fieldLink RX8 16 "QuietStairsModel" "rooms" "I" ∈ wsX8_init := List.mem_of_getElem? (i := 7) rfl
theorem fwX8_init_8 : Cond.fieldLink RX8 20 "QuietStairsModel" "headOf" "[I" ∈ wsX8_init := List.mem_of_getElem? (i := 8) rfl
theorem fwX8_init_9 : Cond.fieldLink RX8 23 "QuietStairsModel" "planned" "[I" ∈ wsX8_init := List.mem_of_getElem? (i := 9) rfl
theorem fwX8_init_10 : Cond.fieldLink RX8 26 "QuietStairsModel" "tried" "[I" ∈ wsX8_init := List.mem_of_getElem? (i := 10) rfl
theorem fwX8_init_11 : Cond.fieldLink RX8 29 "QuietStairsModel" "best" "[I" ∈ wsX8_init := List.mem_of_getElem? (i := 11) rfl
theorem fwX8_init_12 : Cond.fieldLink RX8 32 "QuietStairsModel" "hours" "[I" ∈ wsX8_init := List.mem_of_getElem? (i := 12) rfl
theorem iwX8_close_X8 : ∀ w ∈ wsX80, w ∈ wsX8_close := fun _ h => List.mem_cons_of_mem _ (List.mem_append_right _ h)
theorem fwX8_close_1 : Cond.fieldLink RX8 7 "QuietStairsModel" "s" "[I" ∈ wsX8_close := List.mem_of_getElem? (i := 1) rfl
theorem iwX8_weight_X8 : ∀ w ∈ wsX80, w ∈ wsX8_weight := fun _ h => List.mem_cons_of_mem _ (List.mem_append_right _ h)
theorem fwX8_weight_1 : Cond.fieldLink RX8 7 "QuietStairsModel" "s" "[I" ∈ wsX8_weight := List.mem_of_getElem? (i := 1) rfl
theorem iwX8_strike_X8 : ∀ w ∈ wsX80, w ∈ wsX8_strike := fun _ h => List.mem_cons_of_mem _ (List.mem_append_right _ h)
theorem fwX8_strike_1 : Cond.fieldLink RX8 7 "QuietStairsModel" "s" "[I" ∈ wsX8_strike := List.mem_of_getElem? (i := 1) rfl
theorem iwX8_log_X8 : ∀ w ∈ wsX80, w ∈ wsX8_log := fun _ h => List.mem_cons_of_mem _ (List.mem_append_right _ h)
theorem fwX8_log_1 : Cond.fieldLink RX8 7 "QuietStairsModel" "s" "[I" ∈ wsX8_log := List.mem_of_getElem? (i := 1) rfl
theorem hd_V_X8_isParty_1 : yX8_isParty.cls = RX8 ∧ yX8_isParty.cls ≠ "java/lang/invoke/MethodHandle" ∧ yX8_isParty.cls ≠ "java/lang/invoke/VarHandle" ∧ (parseMethodDescriptor yX8_isParty.desc).map (fun d => d.parameters.length) = some 1 := ⟨rfl, cn_RX8.1, cn_RX8.2, pm__I_Z_1⟩
theorem iwX8_kin_X8 : ∀ w ∈ wsX80, w ∈ wsX8_kin := fun _ h => List.mem_cons_of_mem _ (List.mem_append_right _ h)
theorem fwX8_kin_1 : Cond.fieldLink RX8 7 "QuietStairsModel" "s" "[I" ∈ wsX8_kin := List.mem_of_getElem? (i := 1) rfl
theorem iwX8_mediator_X8 : ∀ w ∈ wsX80, w ∈ wsX8_mediator := fun _ h => List.mem_cons_of_mem _ (List.mem_append_right _ h)
theorem fwX8_mediator_1 : Cond.fieldLink RX8 7 "QuietStairsModel" "s" "[I" ∈ wsX8_mediator := List.mem_of_getElem? (i := 1) rfl
theorem iwX8_term_X8 : ∀ w ∈ wsX80, w ∈ wsX8_term := fun _ h => List.mem_cons_of_mem _ (List.mem_append_right _ h)
theorem fwX8_term_1 : Cond.fieldLink RX8 7 "QuietStairsModel" "s" "[I" ∈ wsX8_term := List.mem_of_getElem? (i := 1) rfl
theorem iwX8_offer_X8 : ∀ w ∈ wsX80, w ∈ wsX8_offer := fun _ h => List.mem_cons_of_mem _ (List.mem_append_right _ h)
theorem fwX8_offer_1 : Cond.fieldLink RX8 7 "QuietStairsModel" "s" "[I" ∈ wsX8_offer := List.mem_of_getElem? (i := 1) rfl
theorem iwX7_close_X7 : ∀ w ∈ wsX70, w ∈ wsX7_close := fun _ h => List.mem_cons_of_mem _ (List.mem_append_left _ (List.mem_append_left _ (List.mem_append_right _ h)))
theorem fwX7_close_1 : Cond.fieldLink RX7 12 "QuietStairs" "now" "LQuietStairs$House;" ∈ wsX7_close := List.mem_of_getElem? (i := 1) rfl
theorem iwX7_close_X1 : ∀ w ∈ wsX10, w ∈ wsX7_close := fun _ h => List.mem_cons_of_mem _ (List.mem_append_left _ (List.mem_append_right _ h))
theorem fwX7_close_2 : Cond.fieldLink RX7 86 "QuietStairs$House" "cases" "[LQuietStairs$Case;" ∈ wsX7_close := List.mem_of_getElem? (i := 2) rfl
theorem iwX7_close_X0 : ∀ w ∈ wsX00, w ∈ wsX7_close := fun _ h => List.mem_cons_of_mem _ (List.mem_append_right _ h)
theorem fwX7_close_3 : Cond.fieldLink RX7 99 "QuietStairs$Case" "state" "I" ∈ wsX7_close := List.mem_of_getElem? (i := 3) rfl
theorem iwX7_weight_X7 : ∀ w ∈ wsX70, w ∈ wsX7_weight := fun _ h => List.mem_cons_of_mem _ (List.mem_append_left _ (List.mem_append_left _ (List.mem_append_right _ h)))
theorem fwX7_weight_1 : Cond.fieldLink RX7 12 "QuietStairs" "now" "LQuietStairs$House;" ∈ wsX7_weight := List.mem_of_getElem? (i := 1) rfl
theorem iwX7_weight_X1 : ∀ w ∈ wsX10, w ∈ wsX7_weight := fun _ h => List.mem_cons_of_mem _ (List.mem_append_left _ (List.mem_append_right _ h))
theorem fwX7_weight_2 : Cond.fieldLink RX7 86 "QuietStairs$House" "cases" "[LQuietStairs$Case;" ∈ wsX7_weight := List.mem_of_getElem? (i := 2) rfl
theorem iwX7_weight_X0 : ∀ w ∈ wsX00, w ∈ wsX7_weight := fun _ h => List.mem_cons_of_mem _ (List.mem_append_right _ h)
theorem fwX7_weight_3 : Cond.fieldLink RX7 102 "QuietStairs$Case" "weight" "I" ∈ wsX7_weight := List.mem_of_getElem? (i := 3) rfl
theorem iwX7_strike_X7 : ∀ w ∈ wsX70, w ∈ wsX7_strike := fun _ h => List.mem_cons_of_mem _ (List.mem_append_left _ (List.mem_append_left _ (List.mem_append_right _ h)))
theorem fwX7_strike_1 : Cond.fieldLink RX7 12 "QuietStairs" "now" "LQuietStairs$House;" ∈ wsX7_strike := List.mem_of_getElem? (i := 1) rfl
theorem iwX7_strike_X1 : ∀ w ∈ wsX10, w ∈ wsX7_strike := fun _ h => List.mem_cons_of_mem _ (List.mem_append_left _ (List.mem_append_right _ h))
theorem fwX7_strike_2 : Cond.fieldLink RX7 86 "QuietStairs$House" "cases" "[LQuietStairs$Case;" ∈ wsX7_strike := List.mem_of_getElem? (i := 2) rfl
theorem iwX7_strike_X0 : ∀ w ∈ wsX00, w ∈ wsX7_strike := fun _ h => List.mem_cons_of_mem _ (List.mem_append_right _ h)
theorem fwX7_strike_3 : Cond.fieldLink RX7 169 "QuietStairs$Case" "termCount" "I" ∈ wsX7_strike := List.mem_of_getElem? (i := 3) rfl
theorem hd_S_X7_isHour_1 : yX7_isHour.cls = RX7 ∧ yX7_isHour.cls ≠ "java/lang/invoke/MethodHandle" ∧ yX7_isHour.cls ≠ "java/lang/invoke/VarHandle" ∧ (parseMethodDescriptor yX7_isHour.desc).map (fun d => d.parameters.length) = some 1 := ⟨rfl, cn_RX7.1, cn_RX7.2, pm__I_Z_1⟩
theorem iwX7_log_X7 : ∀ w ∈ wsX70, w ∈ wsX7_log := fun _ h => List.mem_cons_of_mem _ (List.mem_append_left _ (List.mem_append_left _ (List.mem_append_right _ h)))
theorem fwX7_log_1 : Cond.fieldLink RX7 12 "QuietStairs" "now" "LQuietStairs$House;" ∈ wsX7_log := List.mem_of_getElem? (i := 1) rfl
theorem iwX7_log_X1 : ∀ w ∈ wsX10, w ∈ wsX7_log := fun _ h => List.mem_cons_of_mem _ (List.mem_append_left _ (List.mem_append_right _ h))
theorem fwX7_log_2 : Cond.fieldLink RX7 86 "QuietStairs$House" "cases" "[LQuietStairs$Case;" ∈ wsX7_log := List.mem_of_getElem? (i := 2) rfl
theorem iwX7_log_X0 : ∀ w ∈ wsX00, w ∈ wsX7_log := fun _ h => List.mem_cons_of_mem _ (List.mem_append_right _ h)
theorem fwX7_log_3 : Cond.fieldLink RX7 207 "QuietStairs$Case" "logs" "[[I" ∈ wsX7_log := List.mem_of_getElem? (i := 3) rfl
theorem hd_V_X7_isMediator_1 : yX7_isMediator.cls = RX7 ∧ yX7_isMediator.cls ≠ "java/lang/invoke/MethodHandle" ∧ yX7_isMediator.cls ≠ "java/lang/invoke/VarHandle" ∧ (parseMethodDescriptor yX7_isMediator.desc).map (fun d => d.parameters.length) = some 1 := ⟨rfl, cn_RX7.1, cn_RX7.2, pm__I_Z_1⟩
theorem hd_V_X7_isParty_1 : yX7_isParty.cls = RX7 ∧ yX7_isParty.cls ≠ "java/lang/invoke/MethodHandle" ∧ yX7_isParty.cls ≠ "java/lang/invoke/VarHandle" ∧ (parseMethodDescriptor yX7_isParty.desc).map (fun d => d.parameters.length) = some 1 := ⟨rfl, cn_RX7.1, cn_RX7.2, pm__I_Z_1⟩
theorem iwX7_kin_X7 : ∀ w ∈ wsX70, w ∈ wsX7_kin := fun _ h => List.mem_cons_of_mem _ (List.mem_append_left _ (List.mem_append_left _ (List.mem_append_right _ h)))
theorem fwX7_kin_1 : Cond.fieldLink RX7 12 "QuietStairs" "now" "LQuietStairs$House;" ∈ wsX7_kin := List.mem_of_getElem? (i := 1) rfl
theorem iwX7_kin_X1 : ∀ w ∈ wsX10, w ∈ wsX7_kin := fun _ h => List.mem_cons_of_mem _ (List.mem_append_left _ (List.mem_append_right _ h))
theorem fwX7_kin_2 : Cond.fieldLink RX7 59 "QuietStairs$House" "mediators" "[LQuietStairs$Mediator;" ∈ wsX7_kin := List.mem_of_getElem? (i := 2) rfl
theorem iwX7_kin_X2 : ∀ w ∈ wsX20, w ∈ wsX7_kin := fun _ h => List.mem_cons_of_mem _ (List.mem_append_right _ h)
theorem fwX7_kin_3 : Cond.fieldLink RX7 69 "QuietStairs$Mediator" "kinBits" "I" ∈ wsX7_kin := List.mem_of_getElem? (i := 3) rfl
theorem hd_S_X7_hasBit_2 : yX7_hasBit.cls = RX7 ∧ yX7_hasBit.cls ≠ "java/lang/invoke/MethodHandle" ∧ yX7_hasBit.cls ≠ "java/lang/invoke/VarHandle" ∧ (parseMethodDescriptor yX7_hasBit.desc).map (fun d => d.parameters.length) = some 2 := ⟨rfl, cn_RX7.1, cn_RX7.2, pm__II_Z_2⟩
theorem iwX7_party_X7 : ∀ w ∈ wsX70, w ∈ wsX7_party := fun _ h => List.mem_cons_of_mem _ (List.mem_append_left _ (List.mem_append_left _ (List.mem_append_right _ h)))
theorem fwX7_party_1 : Cond.fieldLink RX7 12 "QuietStairs" "now" "LQuietStairs$House;" ∈ wsX7_party := List.mem_of_getElem? (i := 1) rfl
theorem iwX7_party_X1 : ∀ w ∈ wsX10, w ∈ wsX7_party := fun _ h => List.mem_cons_of_mem _ (List.mem_append_left _ (List.mem_append_right _ h))
theorem fwX7_party_2 : Cond.fieldLink RX7 41 "QuietStairs$House" "partyCount" "I" ∈ wsX7_party := List.mem_of_getElem? (i := 2) rfl
theorem fwX7_party_3 : Cond.fieldLink RX7 44 "QuietStairs$House" "parties" "[LQuietStairs$Party;" ∈ wsX7_party := List.mem_of_getElem? (i := 3) rfl
theorem iwX7_party_X3 : ∀ w ∈ wsX30, w ∈ wsX7_party := fun _ h => List.mem_cons_of_mem _ (List.mem_append_right _ h)
theorem fwX7_party_4 : Cond.fieldLink RX7 48 "QuietStairs$Party" "floor" "I" ∈ wsX7_party := List.mem_of_getElem? (i := 4) rfl
theorem fwX7_party_5 : Cond.fieldLink RX7 53 "QuietStairs$Party" "tongue" "I" ∈ wsX7_party := List.mem_of_getElem? (i := 5) rfl
theorem iwX7_mediator_X7 : ∀ w ∈ wsX70, w ∈ wsX7_mediator := fun _ h => List.mem_cons_of_mem _ (List.mem_append_left _ (List.mem_append_left _ (List.mem_append_right _ h)))
theorem fwX7_mediator_1 : Cond.fieldLink RX7 12 "QuietStairs" "now" "LQuietStairs$House;" ∈ wsX7_mediator := List.mem_of_getElem? (i := 1) rfl
theorem iwX7_mediator_X1 : ∀ w ∈ wsX10, w ∈ wsX7_mediator := fun _ h => List.mem_cons_of_mem _ (List.mem_append_left _ (List.mem_append_right _ h))
theorem fwX7_mediator_2 : Cond.fieldLink RX7 56 "QuietStairs$House" "mediatorCount" "I" ∈ wsX7_mediator := List.mem_of_getElem? (i := 2) rfl
theorem fwX7_mediator_3 : Cond.fieldLink RX7 59 "QuietStairs$House" "mediators" "[LQuietStairs$Mediator;" ∈ wsX7_mediator := List.mem_of_getElem? (i := 3) rfl
theorem iwX7_mediator_X2 : ∀ w ∈ wsX20, w ∈ wsX7_mediator := fun _ h => List.mem_cons_of_mem _ (List.mem_append_right _ h)
theorem fwX7_mediator_4 : Cond.fieldLink RX7 63 "QuietStairs$Mediator" "floor" "I" ∈ wsX7_mediator := List.mem_of_getElem? (i := 4) rfl
theorem fwX7_mediator_5 : Cond.fieldLink RX7 66 "QuietStairs$Mediator" "tongues" "I" ∈ wsX7_mediator := List.mem_of_getElem? (i := 5) rfl
theorem fwX7_mediator_6 : Cond.fieldLink RX7 69 "QuietStairs$Mediator" "kinBits" "I" ∈ wsX7_mediator := List.mem_of_getElem? (i := 6) rfl
theorem iwX7_rooms_X7 : ∀ w ∈ wsX70, w ∈ wsX7_rooms := fun _ h => List.mem_cons_of_mem _ (List.mem_append_right _ h)
theorem fwX7_rooms_1 : Cond.fieldLink RX7 33 "QuietStairs" "roomCount" "I" ∈ wsX7_rooms := List.mem_of_getElem? (i := 1) rfl
theorem iwX7_term_X7 : ∀ w ∈ wsX70, w ∈ wsX7_term := fun _ h => List.mem_cons_of_mem _ (List.mem_append_left _ (List.mem_append_left _ (List.mem_append_left _ (List.mem_append_right _ h))))
theorem fwX7_term_1 : Cond.fieldLink RX7 12 "QuietStairs" "now" "LQuietStairs$House;" ∈ wsX7_term := List.mem_of_getElem? (i := 1) rfl
theorem iwX7_term_X1 : ∀ w ∈ wsX10, w ∈ wsX7_term := fun _ h => List.mem_cons_of_mem _ (List.mem_append_left _ (List.mem_append_left _ (List.mem_append_right _ h)))
theorem fwX7_term_2 : Cond.fieldLink RX7 86 "QuietStairs$House" "cases" "[LQuietStairs$Case;" ∈ wsX7_term := List.mem_of_getElem? (i := 2) rfl
theorem iwX7_term_X0 : ∀ w ∈ wsX00, w ∈ wsX7_term := fun _ h => List.mem_cons_of_mem _ (List.mem_append_left _ (List.mem_append_right _ h))
theorem fwX7_term_3 : Cond.fieldLink RX7 99 "QuietStairs$Case" "state" "I" ∈ wsX7_term := List.mem_of_getElem? (i := 3) rfl
theorem fwX7_term_4 : Cond.fieldLink RX7 169 "QuietStairs$Case" "termCount" "I" ∈ wsX7_term := List.mem_of_getElem? (i := 4) rfl
theorem fwX7_term_5 : Cond.fieldLink RX7 172 "QuietStairs$Case" "terms" "[LQuietStairs$Term;" ∈ wsX7_term := List.mem_of_getElem? (i := 5) rfl
theorem iwX7_term_X6 : ∀ w ∈ wsX60, w ∈ wsX7_term := fun _ h => List.mem_cons_of_mem _ (List.mem_append_right _ h)
theorem fwX7_term_6 : Cond.fieldLink RX7 176 "QuietStairs$Term" "side" "I" ∈ wsX7_term := List.mem_of_getElem? (i := 6) rfl
theorem fwX7_term_7 : Cond.fieldLink RX7 181 "QuietStairs$Term" "must" "Z" ∈ wsX7_term := List.mem_of_getElem? (i := 7) rfl
theorem fwX7_term_8 : Cond.fieldLink RX7 185 "QuietStairs$Term" "act" "I" ∈ wsX7_term := List.mem_of_getElem? (i := 8) rfl
theorem fwX7_term_9 : Cond.fieldLink RX7 188 "QuietStairs$Term" "first" "I" ∈ wsX7_term := List.mem_of_getElem? (i := 9) rfl
theorem fwX7_term_10 : Cond.fieldLink RX7 191 "QuietStairs$Term" "last" "I" ∈ wsX7_term := List.mem_of_getElem? (i := 10) rfl
theorem iwX7_mark_X7 : ∀ w ∈ wsX70, w ∈ wsX7_mark := fun _ h => List.mem_cons_of_mem _ (List.mem_append_left _ (List.mem_append_left _ (List.mem_append_right _ h)))
theorem fwX7_mark_1 : Cond.fieldLink RX7 12 "QuietStairs" "now" "LQuietStairs$House;" ∈ wsX7_mark := List.mem_of_getElem? (i := 1) rfl
theorem iwX7_mark_X1 : ∀ w ∈ wsX10, w ∈ wsX7_mark := fun _ h => List.mem_cons_of_mem _ (List.mem_append_left _ (List.mem_append_right _ h))
theorem fwX7_mark_2 : Cond.fieldLink RX7 86 "QuietStairs$House" "cases" "[LQuietStairs$Case;" ∈ wsX7_mark := List.mem_of_getElem? (i := 2) rfl
theorem iwX7_mark_X0 : ∀ w ∈ wsX00, w ∈ wsX7_mark := fun _ h => List.mem_cons_of_mem _ (List.mem_append_right _ h)
theorem fwX7_mark_3 : Cond.fieldLink RX7 105 "QuietStairs$Case" "markedBits" "I" ∈ wsX7_mark := List.mem_of_getElem? (i := 3) rfl
theorem fwX7_mark_4 : Cond.fieldLink RX7 108 "QuietStairs$House" "markCount" "I" ∈ wsX7_mark := List.mem_of_getElem? (i := 4) rfl
theorem iwX0_endRound_X0 : ∀ w ∈ wsX00, w ∈ wsX0_endRound := fun _ h => List.mem_cons_of_mem _ (List.mem_append_right _ h)
theorem fwX0_endRound_1 : Cond.fieldLink RX0 15 "QuietStairs$Case" "box" "[I" ∈ wsX0_endRound := List.mem_of_getElem? (i := 1) rfl
theorem fwX0_endRound_2 : Cond.fieldLink RX0 40 "QuietStairs$Case" "roundsOver" "I" ∈ wsX0_endRound := List.mem_of_getElem? (i := 2) rfl
theorem fwX0_endRound_3 : Cond.fieldLink RX0 20 "QuietStairs$Case" "offers" "[[I" ∈ wsX0_endRound := List.mem_of_getElem? (i := 3) rfl
theorem fwX0_endRound_4 : Cond.fieldLink RX0 33 "QuietStairs$Case" "state" "I" ∈ wsX0_endRound := List.mem_of_getElem? (i := 4) rfl
theorem fwX0_endRound_5 : Cond.fieldLink RX0 37 "QuietStairs$Case" "sum" "I" ∈ wsX0_endRound := List.mem_of_getElem? (i := 5) rfl
theorem iwX7_offer_X7 : ∀ w ∈ wsX70, w ∈ wsX7_offer := fun _ h => List.mem_cons_of_mem _ (List.mem_append_left _ (List.mem_append_left _ (List.mem_append_right _ h)))
theorem fwX7_offer_1 : Cond.fieldLink RX7 12 "QuietStairs" "now" "LQuietStairs$House;" ∈ wsX7_offer := List.mem_of_getElem? (i := 1) rfl
theorem iwX7_offer_X1 : ∀ w ∈ wsX10, w ∈ wsX7_offer := fun _ h => List.mem_cons_of_mem _ (List.mem_append_left _ (List.mem_append_right _ h))
theorem fwX7_offer_2 : Cond.fieldLink RX7 86 "QuietStairs$House" "cases" "[LQuietStairs$Case;" ∈ wsX7_offer := List.mem_of_getElem? (i := 2) rfl
theorem iwX7_offer_X0 : ∀ w ∈ wsX00, w ∈ wsX7_offer := fun _ h => List.mem_cons_of_mem _ (List.mem_append_right _ h)
theorem fwX7_offer_3 : Cond.fieldLink RX7 99 "QuietStairs$Case" "state" "I" ∈ wsX7_offer := List.mem_of_getElem? (i := 3) rfl
theorem fwX7_offer_4 : Cond.fieldLink RX7 135 "QuietStairs$Case" "box" "[I" ∈ wsX7_offer := List.mem_of_getElem? (i := 4) rfl
theorem fwX7_offer_5 : Cond.fieldLink RX7 117 "QuietStairs$Case" "roundsOver" "I" ∈ wsX7_offer := List.mem_of_getElem? (i := 5) rfl
theorem hd_V_X0_endRound_0 : yX0_endRound.cls = RX0 ∧ yX0_endRound.cls ≠ "java/lang/invoke/MethodHandle" ∧ yX0_endRound.cls ≠ "java/lang/invoke/VarHandle" ∧ (parseMethodDescriptor yX0_endRound.desc).map (fun d => d.parameters.length) = some 0 := ⟨rfl, cn_RX0.1, cn_RX0.2, pm___Z_0⟩
theorem iwX8_open_X8 : ∀ w ∈ wsX80, w ∈ wsX8_open := fun _ h => List.mem_cons_of_mem _ (List.mem_append_right _ h)
theorem fwX8_open_1 : Cond.fieldLink RX8 7 "QuietStairsModel" "s" "[I" ∈ wsX8_open := List.mem_of_getElem? (i := 1) rfl
theorem iwX8_party_X8 : ∀ w ∈ wsX80, w ∈ wsX8_party := fun _ h => List.mem_cons_of_mem _ (List.mem_append_right _ h)
theorem fwX8_party_1 : Cond.fieldLink RX8 7 "QuietStairsModel" "s" "[I" ∈ wsX8_party := List.mem_of_getElem? (i := 1) rfl
theorem iwX8_mark_X8 : ∀ w ∈ wsX80, w ∈ wsX8_mark := fun _ h => List.mem_cons_of_mem _ (List.mem_append_right _ h)
theorem fwX8_mark_1 : Cond.fieldLink RX8 7 "QuietStairsModel" "s" "[I" ∈ wsX8_mark := List.mem_of_getElem? (i := 1) rfl
theorem iwX0_begin_X0 : ∀ w ∈ wsX00, w ∈ wsX0_begin := fun _ h => List.mem_cons_of_mem _ (List.mem_append_right _ h)
theorem fwX0_begin_1 : Cond.fieldLink RX0 33 "QuietStairs$Case" "state" "I" ∈ wsX0_begin := List.mem_of_getElem? (i := 1) rfl
theorem fwX0_begin_2 : Cond.fieldLink RX0 37 "QuietStairs$Case" "sum" "I" ∈ wsX0_begin := List.mem_of_getElem? (i := 2) rfl
theorem fwX0_begin_3 : Cond.fieldLink RX0 40 "QuietStairs$Case" "roundsOver" "I" ∈ wsX0_begin := List.mem_of_getElem? (i := 3) rfl
theorem fwX0_begin_4 : Cond.fieldLink RX0 43 "QuietStairs$Case" "weight" "I" ∈ wsX0_begin := List.mem_of_getElem? (i := 4) rfl
theorem fwX0_begin_5 : Cond.fieldLink RX0 46 "QuietStairs$Case" "markedBits" "I" ∈ wsX0_begin := List.mem_of_getElem? (i := 5) rfl
theorem fwX0_begin_6 : Cond.fieldLink RX0 49 "QuietStairs$Case" "termCount" "I" ∈ wsX0_begin := List.mem_of_getElem? (i := 6) rfl
theorem fwX0_begin_7 : Cond.fieldLink RX0 9 "QuietStairs$Case" "parties" "[I" ∈ wsX0_begin := List.mem_of_getElem? (i := 7) rfl
theorem fwX0_begin_8 : Cond.fieldLink RX0 15 "QuietStairs$Case" "box" "[I" ∈ wsX0_begin := List.mem_of_getElem? (i := 8) rfl
theorem fwX0_begin_9 : Cond.fieldLink RX0 23 "QuietStairs$Case" "logs" "[[I" ∈ wsX0_begin := List.mem_of_getElem? (i := 9) rfl
theorem iwX7_open_X7 : ∀ w ∈ wsX70, w ∈ wsX7_open := fun _ h => List.mem_cons_of_mem _ (List.mem_append_left _ (List.mem_append_left _ (List.mem_append_right _ h)))
theorem fwX7_open_1 : Cond.fieldLink RX7 12 "QuietStairs" "now" "LQuietStairs$House;" ∈ wsX7_open := List.mem_of_getElem? (i := 1) rfl
theorem iwX7_open_X1 : ∀ w ∈ wsX10, w ∈ wsX7_open := fun _ h => List.mem_cons_of_mem _ (List.mem_append_left _ (List.mem_append_right _ h))
theorem fwX7_open_2 : Cond.fieldLink RX7 83 "QuietStairs$House" "caseCount" "I" ∈ wsX7_open := List.mem_of_getElem? (i := 2) rfl
theorem fwX7_open_3 : Cond.fieldLink RX7 86 "QuietStairs$House" "cases" "[LQuietStairs$Case;" ∈ wsX7_open := List.mem_of_getElem? (i := 3) rfl
theorem hd_V_X0_begin_2 : yX0_begin.cls = RX0 ∧ yX0_begin.cls ≠ "java/lang/invoke/MethodHandle" ∧ yX0_begin.cls ≠ "java/lang/invoke/VarHandle" ∧ (parseMethodDescriptor yX0_begin.desc).map (fun d => d.parameters.length) = some 2 := ⟨rfl, cn_RX0.1, cn_RX0.2, pm__II_V_2⟩
theorem iwX3_copyFrom_X3 : ∀ w ∈ wsX30, w ∈ wsX3_copyFrom := fun _ h => List.mem_cons_of_mem _ (List.mem_append_right _ h)
theorem fwX3_copyFrom_1 : Cond.fieldLink RX3 7 "QuietStairs$Party" "floor" "I" ∈ wsX3_copyFrom := List.mem_of_getElem? (i := 1) rfl
theorem fwX3_copyFrom_2 : Cond.fieldLink RX3 13 "QuietStairs$Party" "tongue" "I" ∈ wsX3_copyFrom := List.mem_of_getElem? (i := 2) rfl
theorem iwX2_copyFrom_X2 : ∀ w ∈ wsX20, w ∈ wsX2_copyFrom := fun _ h => List.mem_cons_of_mem _ (List.mem_append_right _ h)
theorem fwX2_copyFrom_1 : Cond.fieldLink RX2 7 "QuietStairs$Mediator" "floor" "I" ∈ wsX2_copyFrom := List.mem_of_getElem? (i := 1) rfl
theorem fwX2_copyFrom_2 : Cond.fieldLink RX2 13 "QuietStairs$Mediator" "tongues" "I" ∈ wsX2_copyFrom := List.mem_of_getElem? (i := 2) rfl
theorem fwX2_copyFrom_3 : Cond.fieldLink RX2 16 "QuietStairs$Mediator" "kinBits" "I" ∈ wsX2_copyFrom := List.mem_of_getElem? (i := 3) rfl
theorem iwX6_copyFrom_X6 : ∀ w ∈ wsX60, w ∈ wsX6_copyFrom := fun _ h => List.mem_cons_of_mem _ (List.mem_append_right _ h)
theorem fwX6_copyFrom_1 : Cond.fieldLink RX6 16 "QuietStairs$Term" "side" "I" ∈ wsX6_copyFrom := List.mem_of_getElem? (i := 1) rfl
theorem fwX6_copyFrom_2 : Cond.fieldLink RX6 19 "QuietStairs$Term" "must" "Z" ∈ wsX6_copyFrom := List.mem_of_getElem? (i := 2) rfl
theorem fwX6_copyFrom_3 : Cond.fieldLink RX6 23 "QuietStairs$Term" "act" "I" ∈ wsX6_copyFrom := List.mem_of_getElem? (i := 3) rfl
theorem fwX6_copyFrom_4 : Cond.fieldLink RX6 13 "QuietStairs$Term" "first" "I" ∈ wsX6_copyFrom := List.mem_of_getElem? (i := 4) rfl
theorem fwX6_copyFrom_5 : Cond.fieldLink RX6 7 "QuietStairs$Term" "last" "I" ∈ wsX6_copyFrom := List.mem_of_getElem? (i := 5) rfl
theorem iwX0_copyFrom_X0 : ∀ w ∈ wsX00, w ∈ wsX0_copyFrom := fun _ h => List.mem_cons_of_mem _ (List.mem_append_left _ (List.mem_append_right _ h))
theorem fwX0_copyFrom_1 : Cond.fieldLink RX0 33 "QuietStairs$Case" "state" "I" ∈ wsX0_copyFrom := List.mem_of_getElem? (i := 1) rfl
theorem fwX0_copyFrom_2 : Cond.fieldLink RX0 37 "QuietStairs$Case" "sum" "I" ∈ wsX0_copyFrom := List.mem_of_getElem? (i := 2) rfl
theorem fwX0_copyFrom_3 : Cond.fieldLink RX0 40 "QuietStairs$Case" "roundsOver" "I" ∈ wsX0_copyFrom := List.mem_of_getElem? (i := 3) rfl
theorem fwX0_copyFrom_4 : Cond.fieldLink RX0 43 "QuietStairs$Case" "weight" "I" ∈ wsX0_copyFrom := List.mem_of_getElem? (i := 4) rfl
theorem fwX0_copyFrom_5 : Cond.fieldLink RX0 46 "QuietStairs$Case" "markedBits" "I" ∈ wsX0_copyFrom := List.mem_of_getElem? (i := 5) rfl
theorem fwX0_copyFrom_6 : Cond.fieldLink RX0 49 "QuietStairs$Case" "termCount" "I" ∈ wsX0_copyFrom := List.mem_of_getElem? (i := 6) rfl
theorem fwX0_copyFrom_7 : Cond.fieldLink RX0 9 "QuietStairs$Case" "parties" "[I" ∈ wsX0_copyFrom := List.mem_of_getElem? (i := 7) rfl
theorem fwX0_copyFrom_8 : Cond.fieldLink RX0 15 "QuietStairs$Case" "box" "[I" ∈ wsX0_copyFrom := List.mem_of_getElem? (i := 8) rfl
theorem fwX0_copyFrom_9 : Cond.fieldLink RX0 20 "QuietStairs$Case" "offers" "[[I" ∈ wsX0_copyFrom := List.mem_of_getElem? (i := 9) rfl
theorem fwX0_copyFrom_10 : Cond.methodLink RX0 81 arraycopyName ∈ wsX0_copyFrom := List.mem_of_getElem? (i := 10) rfl
theorem fwX0_copyFrom_11 : Cond.native arraycopyName ∈ wsX0_copyFrom := List.mem_of_getElem? (i := 11) rfl
theorem fwX0_copyFrom_12 : Cond.static arraycopyName ∈ wsX0_copyFrom := List.mem_of_getElem? (i := 12) rfl
theorem fwX0_copyFrom_13 : Cond.initialized "java/lang/System" ∈ wsX0_copyFrom := List.mem_of_getElem? (i := 13) rfl
theorem fwX0_copyFrom_14 : Cond.fieldLink RX0 23 "QuietStairs$Case" "logs" "[[I" ∈ wsX0_copyFrom := List.mem_of_getElem? (i := 14) rfl
theorem fwX0_copyFrom_15 : Cond.fieldLink RX0 28 "QuietStairs$Case" "terms" "[LQuietStairs$Term;" ∈ wsX0_copyFrom := List.mem_of_getElem? (i := 15) rfl
theorem pm__LQuietStairs_Term__V_1 : (parseMethodDescriptor "(LQuietStairs$Term;)V").map (fun d => d.parameters.length) = some 1 := by decide +kernel
theorem hd_V_X6_copyFrom_1 : yX6_copyFrom.cls = RX6 ∧ yX6_copyFrom.cls ≠ "java/lang/invoke/MethodHandle" ∧ yX6_copyFrom.cls ≠ "java/lang/invoke/VarHandle" ∧ (parseMethodDescriptor yX6_copyFrom.desc).map (fun d => d.parameters.length) = some 1 := ⟨rfl, cn_RX6.1, cn_RX6.2, pm__LQuietStairs_Term__V_1⟩
theorem iwX1_copyFrom_X1 : ∀ w ∈ wsX10, w ∈ wsX1_copyFrom := fun _ h => List.mem_cons_of_mem _ (List.mem_append_left _ (List.mem_append_left _ (List.mem_append_left _ (List.mem_append_left _ (List.mem_append_right _ h)))))
theorem fwX1_copyFrom_1 : Cond.fieldLink RX1 88 "QuietStairs$House" "partyCount" "I" ∈ wsX1_copyFrom := List.mem_of_getElem? (i := 1) rfl
theorem fwX1_copyFrom_2 : Cond.fieldLink RX1 36 "QuietStairs$House" "mediatorCount" "I" ∈ wsX1_copyFrom := List.mem_of_getElem? (i := 2) rfl
theorem fwX1_copyFrom_3 : Cond.fieldLink RX1 66 "QuietStairs$House" "caseCount" "I" ∈ wsX1_copyFrom := List.mem_of_getElem? (i := 3) rfl
theorem fwX1_copyFrom_4 : Cond.fieldLink RX1 91 "QuietStairs$House" "markCount" "I" ∈ wsX1_copyFrom := List.mem_of_getElem? (i := 4) rfl
theorem fwX1_copyFrom_7 : Cond.fieldLink RX1 25 "QuietStairs$House" "cases" "[LQuietStairs$Case;" ∈ wsX1_copyFrom := List.mem_of_getElem? (i := 7) rfl
theorem pm__LQuietStairs_Case__V_1 : (parseMethodDescriptor "(LQuietStairs$Case;)V").map (fun d => d.parameters.length) = some 1 := by decide +kernel
theorem hd_V_X0_copyFrom_1 : yX0_copyFrom.cls = RX0 ∧ yX0_copyFrom.cls ≠ "java/lang/invoke/MethodHandle" ∧ yX0_copyFrom.cls ≠ "java/lang/invoke/VarHandle" ∧ (parseMethodDescriptor yX0_copyFrom.desc).map (fun d => d.parameters.length) = some 1 := ⟨rfl, cn_RX0.1, cn_RX0.2, pm__LQuietStairs_Case__V_1⟩
theorem fwX1_copyFrom_6 : Cond.fieldLink RX1 19 "QuietStairs$House" "mediators" "[LQuietStairs$Mediator;" ∈ wsX1_copyFrom := List.mem_of_getElem? (i := 6) rfl
theorem cn_RX2 : RX2 ≠ "java/lang/invoke/MethodHandle" ∧ RX2 ≠ "java/lang/invoke/VarHandle" := ⟨fun e => absurd (String.ofList_injective (show String.ofList ['Q', 'u', 'i', 'e', 't', 'S', 't', 'a', 'i', 'r', 's', '$', 'M', 'e', 'd', 'i', 'a', 't', 'o', 'r'] = String.ofList ['j', 'a', 'v', 'a', '/', 'l', 'a', 'n', 'g', '/', 'i', 'n', 'v', 'o', 'k', 'e', '/', 'M', 'e', 't', 'h', 'o', 'd', 'H', 'a', 'n', 'd', 'l', 'e'] from e)) (by decide +kernel), fun e => absurd (String.ofList_injective (show String.ofList ['Q', 'u', 'i', 'e', 't', 'S', 't', 'a', 'i', 'r', 's', '$', 'M', 'e', 'd', 'i', 'a', 't', 'o', 'r'] = String.ofList ['j', 'a', 'v', 'a', '/', 'l', 'a', 'n', 'g', '/', 'i', 'n', 'v', 'o', 'k', 'e', '/', 'V', 'a', 'r', 'H', 'a', 'n', 'd', 'l', 'e'] from e)) (by decide +kernel)⟩
theorem pm__LQuietStairs_Mediator__V_1 : (parseMethodDescriptor "(LQuietStairs$Mediator;)V").map (fun d => d.parameters.length) = some 1 := by decide +kernel
theorem hd_V_X2_copyFrom_1 : yX2_copyFrom.cls = RX2 ∧ yX2_copyFrom.cls ≠ "java/lang/invoke/MethodHandle" ∧ yX2_copyFrom.cls ≠ "java/lang/invoke/VarHandle" ∧ (parseMethodDescriptor yX2_copyFrom.desc).map (fun d => d.parameters.length) = some 1 := ⟨rfl, cn_RX2.1, cn_RX2.2, pm__LQuietStairs_Mediator__V_1⟩
theorem fwX1_copyFrom_5 : Cond.fieldLink RX1 11 "QuietStairs$House" "parties" "[LQuietStairs$Party;" ∈ wsX1_copyFrom := List.mem_of_getElem? (i := 5) rfl
theorem cn_RX3 : RX3 ≠ "java/lang/invoke/MethodHandle" ∧ RX3 ≠ "java/lang/invoke/VarHandle" := ⟨fun e => absurd (String.ofList_injective (show String.ofList ['Q', 'u', 'i', 'e', 't', 'S', 't', 'a', 'i', 'r', 's', '$', 'P', 'a', 'r', 't', 'y'] = String.ofList ['j', 'a', 'v', 'a', '/', 'l', 'a', 'n', 'g', '/', 'i', 'n', 'v', 'o', 'k', 'e', '/', 'M', 'e', 't', 'h', 'o', 'd', 'H', 'a', 'n', 'd', 'l', 'e'] from e)) (by decide +kernel), fun e => absurd (String.ofList_injective (show String.ofList ['Q', 'u', 'i', 'e', 't', 'S', 't', 'a', 'i', 'r', 's', '$', 'P', 'a', 'r', 't', 'y'] = String.ofList ['j', 'a', 'v', 'a', '/', 'l', 'a', 'n', 'g', '/', 'i', 'n', 'v', 'o', 'k', 'e', '/', 'V', 'a', 'r', 'H', 'a', 'n', 'd', 'l', 'e'] from e)) (by decide +kernel)⟩
theorem pm__LQuietStairs_Party__V_1 : (parseMethodDescriptor "(LQuietStairs$Party;)V").map (fun d => d.parameters.length) = some 1 := by decide +kernel
theorem hd_V_X3_copyFrom_1 : yX3_copyFrom.cls = RX3 ∧ yX3_copyFrom.cls ≠ "java/lang/invoke/MethodHandle" ∧ yX3_copyFrom.cls ≠ "java/lang/invoke/VarHandle" ∧ (parseMethodDescriptor yX3_copyFrom.desc).map (fun d => d.parameters.length) = some 1 := ⟨rfl, cn_RX3.1, cn_RX3.2, pm__LQuietStairs_Party__V_1⟩
theorem iwX7_back_X7 : ∀ w ∈ wsX70, w ∈ wsX7_back := fun _ h => List.mem_cons_of_mem _ (List.mem_append_left _ (List.mem_append_left _ (List.mem_append_left _ (List.mem_append_left _ (List.mem_append_left _ (List.mem_append_right _ h))))))
theorem fwX7_back_1 : Cond.fieldLink RX7 30 "QuietStairs" "kept" "LQuietStairs$House;" ∈ wsX7_back := List.mem_of_getElem? (i := 1) rfl
theorem fwX7_back_2 : Cond.fieldLink RX7 12 "QuietStairs" "now" "LQuietStairs$House;" ∈ wsX7_back := List.mem_of_getElem? (i := 2) rfl
theorem hd_V_X1_copyFrom_1 : yX1_copyFrom.cls = RX1 ∧ yX1_copyFrom.cls ≠ "java/lang/invoke/MethodHandle" ∧ yX1_copyFrom.cls ≠ "java/lang/invoke/VarHandle" ∧ (parseMethodDescriptor yX1_copyFrom.desc).map (fun d => d.parameters.length) = some 1 := ⟨rfl, cn_RX1.1, cn_RX1.2, pm__LQuietStairs_House__V_1⟩
theorem iwX7_keep_X7 : ∀ w ∈ wsX70, w ∈ wsX7_keep := fun _ h => List.mem_cons_of_mem _ (List.mem_append_left _ (List.mem_append_left _ (List.mem_append_left _ (List.mem_append_left _ (List.mem_append_left _ (List.mem_append_right _ h))))))
theorem fwX7_keep_1 : Cond.fieldLink RX7 30 "QuietStairs" "kept" "LQuietStairs$House;" ∈ wsX7_keep := List.mem_of_getElem? (i := 1) rfl
theorem fwX7_keep_5 : Cond.fieldLink RX7 12 "QuietStairs" "now" "LQuietStairs$House;" ∈ wsX7_keep := List.mem_of_getElem? (i := 5) rfl
theorem iwX7_keep_X1 : ∀ w ∈ wsX10, w ∈ wsX7_keep := fun _ h => List.mem_cons_of_mem _ (List.mem_append_left _ (List.mem_append_left _ (List.mem_append_left _ (List.mem_append_left _ (List.mem_append_right _ h)))))
theorem fwX7_keep_2 : Cond.classLink RX7 9 RX1 ∈ wsX7_keep := List.mem_of_getElem? (i := 2) rfl
theorem fwX7_keep_3 : Cond.instantiable RX1 7 ∈ wsX7_keep := List.mem_of_getElem? (i := 3) rfl
theorem fwX7_keep_4 : Cond.initialized RX1 ∈ wsX7_keep := List.mem_of_getElem? (i := 4) rfl
theorem fwX7_keep_6 : Cond.methodLink RX7 11 yX1_init ∈ wsX7_keep := List.mem_of_getElem? (i := 6) rfl
theorem fwX7_keep_7 : Cond.instanceMethod yX1_init ∈ wsX7_keep := List.mem_of_getElem? (i := 7) rfl
theorem hd_V_X7_party_2 : yX7_party.cls = RX7 ∧ yX7_party.cls ≠ "java/lang/invoke/MethodHandle" ∧ yX7_party.cls ≠ "java/lang/invoke/VarHandle" ∧ (parseMethodDescriptor yX7_party.desc).map (fun d => d.parameters.length) = some 2 := ⟨rfl, cn_RX7.1, cn_RX7.2, pm__II_I_2⟩
theorem hd_V_X8_party_2 : yX8_party.cls = RX8 ∧ yX8_party.cls ≠ "java/lang/invoke/MethodHandle" ∧ yX8_party.cls ≠ "java/lang/invoke/VarHandle" ∧ (parseMethodDescriptor yX8_party.desc).map (fun d => d.parameters.length) = some 2 := ⟨rfl, cn_RX8.1, cn_RX8.2, pm__II_I_2⟩
theorem hd_V_X7_mediator_2 : yX7_mediator.cls = RX7 ∧ yX7_mediator.cls ≠ "java/lang/invoke/MethodHandle" ∧ yX7_mediator.cls ≠ "java/lang/invoke/VarHandle" ∧ (parseMethodDescriptor yX7_mediator.desc).map (fun d => d.parameters.length) = some 2 := ⟨rfl, cn_RX7.1, cn_RX7.2, pm__II_I_2⟩
theorem hd_V_X8_mediator_2 : yX8_mediator.cls = RX8 ∧ yX8_mediator.cls ≠ "java/lang/invoke/MethodHandle" ∧ yX8_mediator.cls ≠ "java/lang/invoke/VarHandle" ∧ (parseMethodDescriptor yX8_mediator.desc).map (fun d => d.parameters.length) = some 2 := ⟨rfl, cn_RX8.1, cn_RX8.2, pm__II_I_2⟩
theorem pm__IIZ_I_3 : (parseMethodDescriptor "(IIZ)I").map (fun d => d.parameters.length) = some 3 := by decide +kernel
theorem hd_V_X7_kin_3 : yX7_kin.cls = RX7 ∧ yX7_kin.cls ≠ "java/lang/invoke/MethodHandle" ∧ yX7_kin.cls ≠ "java/lang/invoke/VarHandle" ∧ (parseMethodDescriptor yX7_kin.desc).map (fun d => d.parameters.length) = some 3 := ⟨rfl, cn_RX7.1, cn_RX7.2, pm__IIZ_I_3⟩
theorem hd_V_X8_kin_3 : yX8_kin.cls = RX8 ∧ yX8_kin.cls ≠ "java/lang/invoke/MethodHandle" ∧ yX8_kin.cls ≠ "java/lang/invoke/VarHandle" ∧ (parseMethodDescriptor yX8_kin.desc).map (fun d => d.parameters.length) = some 3 := ⟨rfl, cn_RX8.1, cn_RX8.2, pm__IIZ_I_3⟩
theorem hd_V_X7_open_2 : yX7_open.cls = RX7 ∧ yX7_open.cls ≠ "java/lang/invoke/MethodHandle" ∧ yX7_open.cls ≠ "java/lang/invoke/VarHandle" ∧ (parseMethodDescriptor yX7_open.desc).map (fun d => d.parameters.length) = some 2 := ⟨rfl, cn_RX7.1, cn_RX7.2, pm__II_I_2⟩
theorem hd_V_X8_open_2 : yX8_open.cls = RX8 ∧ yX8_open.cls ≠ "java/lang/invoke/MethodHandle" ∧ yX8_open.cls ≠ "java/lang/invoke/VarHandle" ∧ (parseMethodDescriptor yX8_open.desc).map (fun d => d.parameters.length) = some 2 := ⟨rfl, cn_RX8.1, cn_RX8.2, pm__II_I_2⟩
theorem hd_V_X7_close_1 : yX7_close.cls = RX7 ∧ yX7_close.cls ≠ "java/lang/invoke/MethodHandle" ∧ yX7_close.cls ≠ "java/lang/invoke/VarHandle" ∧ (parseMethodDescriptor yX7_close.desc).map (fun d => d.parameters.length) = some 1 := ⟨rfl, cn_RX7.1, cn_RX7.2, pm__I_I_1⟩
theorem hd_V_X8_close_1 : yX8_close.cls = RX8 ∧ yX8_close.cls ≠ "java/lang/invoke/MethodHandle" ∧ yX8_close.cls ≠ "java/lang/invoke/VarHandle" ∧ (parseMethodDescriptor yX8_close.desc).map (fun d => d.parameters.length) = some 1 := ⟨rfl, cn_RX8.1, cn_RX8.2, pm__I_I_1⟩
theorem hd_V_X7_weight_2 : yX7_weight.cls = RX7 ∧ yX7_weight.cls ≠ "java/lang/invoke/MethodHandle" ∧ yX7_weight.cls ≠ "java/lang/invoke/VarHandle" ∧ (parseMethodDescriptor yX7_weight.desc).map (fun d => d.parameters.length) = some 2 := ⟨rfl, cn_RX7.1, cn_RX7.2, pm__II_I_2⟩
theorem hd_V_X8_weight_2 : yX8_weight.cls = RX8 ∧ yX8_weight.cls ≠ "java/lang/invoke/MethodHandle" ∧ yX8_weight.cls ≠ "java/lang/invoke/VarHandle" ∧ (parseMethodDescriptor yX8_weight.desc).map (fun d => d.parameters.length) = some 2 := ⟨rfl, cn_RX8.1, cn_RX8.2, pm__II_I_2⟩
theorem hd_V_X7_mark_2 : yX7_mark.cls = RX7 ∧ yX7_mark.cls ≠ "java/lang/invoke/MethodHandle" ∧ yX7_mark.cls ≠ "java/lang/invoke/VarHandle" ∧ (parseMethodDescriptor yX7_mark.desc).map (fun d => d.parameters.length) = some 2 := ⟨rfl, cn_RX7.1, cn_RX7.2, pm__II_I_2⟩
theorem hd_V_X8_mark_2 : yX8_mark.cls = RX8 ∧ yX8_mark.cls ≠ "java/lang/invoke/MethodHandle" ∧ yX8_mark.cls ≠ "java/lang/invoke/VarHandle" ∧ (parseMethodDescriptor yX8_mark.desc).map (fun d => d.parameters.length) = some 2 := ⟨rfl, cn_RX8.1, cn_RX8.2, pm__II_I_2⟩
theorem hd_V_X7_of_2 : yX7_of.cls = RX7 ∧ yX7_of.cls ≠ "java/lang/invoke/MethodHandle" ∧ yX7_of.cls ≠ "java/lang/invoke/VarHandle" ∧ (parseMethodDescriptor yX7_of.desc).map (fun d => d.parameters.length) = some 2 := ⟨rfl, cn_RX7.1, cn_RX7.2, pm__II_I_2⟩
theorem hd_V_X8_of_2 : yX8_of.cls = RX8 ∧ yX8_of.cls ≠ "java/lang/invoke/MethodHandle" ∧ yX8_of.cls ≠ "java/lang/invoke/VarHandle" ∧ (parseMethodDescriptor yX8_of.desc).map (fun d => d.parameters.length) = some 2 := ⟨rfl, cn_RX8.1, cn_RX8.2, pm__II_I_2⟩
theorem pm__III_I_3 : (parseMethodDescriptor "(III)I").map (fun d => d.parameters.length) = some 3 := by decide +kernel
theorem hd_V_X7_offer_3 : yX7_offer.cls = RX7 ∧ yX7_offer.cls ≠ "java/lang/invoke/MethodHandle" ∧ yX7_offer.cls ≠ "java/lang/invoke/VarHandle" ∧ (parseMethodDescriptor yX7_offer.desc).map (fun d => d.parameters.length) = some 3 := ⟨rfl, cn_RX7.1, cn_RX7.2, pm__III_I_3⟩
theorem hd_V_X8_offer_3 : yX8_offer.cls = RX8 ∧ yX8_offer.cls ≠ "java/lang/invoke/MethodHandle" ∧ yX8_offer.cls ≠ "java/lang/invoke/VarHandle" ∧ (parseMethodDescriptor yX8_offer.desc).map (fun d => d.parameters.length) = some 3 := ⟨rfl, cn_RX8.1, cn_RX8.2, pm__III_I_3⟩
theorem hd_V_X7_put_2 : yX7_put.cls = RX7 ∧ yX7_put.cls ≠ "java/lang/invoke/MethodHandle" ∧ yX7_put.cls ≠ "java/lang/invoke/VarHandle" ∧ (parseMethodDescriptor yX7_put.desc).map (fun d => d.parameters.length) = some 2 := ⟨rfl, cn_RX7.1, cn_RX7.2, pm__II_I_2⟩
theorem hd_V_X8_put_2 : yX8_put.cls = RX8 ∧ yX8_put.cls ≠ "java/lang/invoke/MethodHandle" ∧ yX8_put.cls ≠ "java/lang/invoke/VarHandle" ∧ (parseMethodDescriptor yX8_put.desc).map (fun d => d.parameters.length) = some 2 := ⟨rfl, cn_RX8.1, cn_RX8.2, pm__II_I_2⟩
theorem pm__IIIZ_I_4 : (parseMethodDescriptor "(IIIZ)I").map (fun d => d.parameters.length) = some 4 := by decide +kernel
theorem hd_V_X7_learns_4 : yX7_learns.cls = RX7 ∧ yX7_learns.cls ≠ "java/lang/invoke/MethodHandle" ∧ yX7_learns.cls ≠ "java/lang/invoke/VarHandle" ∧ (parseMethodDescriptor yX7_learns.desc).map (fun d => d.parameters.length) = some 4 := ⟨rfl, cn_RX7.1, cn_RX7.2, pm__IIIZ_I_4⟩
theorem hd_V_X8_learns_4 : yX8_learns.cls = RX8 ∧ yX8_learns.cls ≠ "java/lang/invoke/MethodHandle" ∧ yX8_learns.cls ≠ "java/lang/invoke/VarHandle" ∧ (parseMethodDescriptor yX8_learns.desc).map (fun d => d.parameters.length) = some 4 := ⟨rfl, cn_RX8.1, cn_RX8.2, pm__IIIZ_I_4⟩
theorem hd_V_X7_maySit_2 : yX7_maySit.cls = RX7 ∧ yX7_maySit.cls ≠ "java/lang/invoke/MethodHandle" ∧ yX7_maySit.cls ≠ "java/lang/invoke/VarHandle" ∧ (parseMethodDescriptor yX7_maySit.desc).map (fun d => d.parameters.length) = some 2 := ⟨rfl, cn_RX7.1, cn_RX7.2, pm__II_I_2⟩
theorem hd_V_X8_maySit_2 : yX8_maySit.cls = RX8 ∧ yX8_maySit.cls ≠ "java/lang/invoke/MethodHandle" ∧ yX8_maySit.cls ≠ "java/lang/invoke/VarHandle" ∧ (parseMethodDescriptor yX8_maySit.desc).map (fun d => d.parameters.length) = some 2 := ⟨rfl, cn_RX8.1, cn_RX8.2, pm__II_I_2⟩
theorem hd_V_X7_rooms_1 : yX7_rooms.cls = RX7 ∧ yX7_rooms.cls ≠ "java/lang/invoke/MethodHandle" ∧ yX7_rooms.cls ≠ "java/lang/invoke/VarHandle" ∧ (parseMethodDescriptor yX7_rooms.desc).map (fun d => d.parameters.length) = some 1 := ⟨rfl, cn_RX7.1, cn_RX7.2, pm__I_I_1⟩
theorem hd_V_X8_rooms_1 : yX8_rooms.cls = RX8 ∧ yX8_rooms.cls ≠ "java/lang/invoke/MethodHandle" ∧ yX8_rooms.cls ≠ "java/lang/invoke/VarHandle" ∧ (parseMethodDescriptor yX8_rooms.desc).map (fun d => d.parameters.length) = some 1 := ⟨rfl, cn_RX8.1, cn_RX8.2, pm__I_I_1⟩
theorem hd_V_X7_plan_1 : yX7_plan.cls = RX7 ∧ yX7_plan.cls ≠ "java/lang/invoke/MethodHandle" ∧ yX7_plan.cls ≠ "java/lang/invoke/VarHandle" ∧ (parseMethodDescriptor yX7_plan.desc).map (fun d => d.parameters.length) = some 1 := ⟨rfl, cn_RX7.1, cn_RX7.2, pm__I_I_1⟩
theorem hd_V_X8_plan_1 : yX8_plan.cls = RX8 ∧ yX8_plan.cls ≠ "java/lang/invoke/MethodHandle" ∧ yX8_plan.cls ≠ "java/lang/invoke/VarHandle" ∧ (parseMethodDescriptor yX8_plan.desc).map (fun d => d.parameters.length) = some 1 := ⟨rfl, cn_RX8.1, cn_RX8.2, pm__I_I_1⟩
theorem hd_V_X7_waits_0 : yX7_waits.cls = RX7 ∧ yX7_waits.cls ≠ "java/lang/invoke/MethodHandle" ∧ yX7_waits.cls ≠ "java/lang/invoke/VarHandle" ∧ (parseMethodDescriptor yX7_waits.desc).map (fun d => d.parameters.length) = some 0 := ⟨rfl, cn_RX7.1, cn_RX7.2, pm___I_0⟩
theorem hd_V_X8_waits_0 : yX8_waits.cls = RX8 ∧ yX8_waits.cls ≠ "java/lang/invoke/MethodHandle" ∧ yX8_waits.cls ≠ "java/lang/invoke/VarHandle" ∧ (parseMethodDescriptor yX8_waits.desc).map (fun d => d.parameters.length) = some 0 := ⟨rfl, cn_RX8.1, cn_RX8.2, pm___I_0⟩
theorem pm__IIZIII_I_6 : (parseMethodDescriptor "(IIZIII)I").map (fun d => d.parameters.length) = some 6 := by decide +kernel
theorem hd_V_X7_term_6 : yX7_term.cls = RX7 ∧ yX7_term.cls ≠ "java/lang/invoke/MethodHandle" ∧ yX7_term.cls ≠ "java/lang/invoke/VarHandle" ∧ (parseMethodDescriptor yX7_term.desc).map (fun d => d.parameters.length) = some 6 := ⟨rfl, cn_RX7.1, cn_RX7.2, pm__IIZIII_I_6⟩
theorem hd_V_X8_term_6 : yX8_term.cls = RX8 ∧ yX8_term.cls ≠ "java/lang/invoke/MethodHandle" ∧ yX8_term.cls ≠ "java/lang/invoke/VarHandle" ∧ (parseMethodDescriptor yX8_term.desc).map (fun d => d.parameters.length) = some 6 := ⟨rfl, cn_RX8.1, cn_RX8.2, pm__IIZIII_I_6⟩
theorem hd_V_X7_strike_1 : yX7_strike.cls = RX7 ∧ yX7_strike.cls ≠ "java/lang/invoke/MethodHandle" ∧ yX7_strike.cls ≠ "java/lang/invoke/VarHandle" ∧ (parseMethodDescriptor yX7_strike.desc).map (fun d => d.parameters.length) = some 1 := ⟨rfl, cn_RX7.1, cn_RX7.2, pm__I_I_1⟩
theorem hd_V_X8_strike_1 : yX8_strike.cls = RX8 ∧ yX8_strike.cls ≠ "java/lang/invoke/MethodHandle" ∧ yX8_strike.cls ≠ "java/lang/invoke/VarHandle" ∧ (parseMethodDescriptor yX8_strike.desc).map (fun d => d.parameters.length) = some 1 := ⟨rfl, cn_RX8.1, cn_RX8.2, pm__I_I_1⟩
theorem hd_V_X7_termOf_3 : yX7_termOf.cls = RX7 ∧ yX7_termOf.cls ≠ "java/lang/invoke/MethodHandle" ∧ yX7_termOf.cls ≠ "java/lang/invoke/VarHandle" ∧ (parseMethodDescriptor yX7_termOf.desc).map (fun d => d.parameters.length) = some 3 := ⟨rfl, cn_RX7.1, cn_RX7.2, pm__III_I_3⟩
theorem hd_V_X8_termOf_3 : yX8_termOf.cls = RX8 ∧ yX8_termOf.cls ≠ "java/lang/invoke/MethodHandle" ∧ yX8_termOf.cls ≠ "java/lang/invoke/VarHandle" ∧ (parseMethodDescriptor yX8_termOf.desc).map (fun d => d.parameters.length) = some 3 := ⟨rfl, cn_RX8.1, cn_RX8.2, pm__III_I_3⟩
theorem hd_V_X7_hour_2 : yX7_hour.cls = RX7 ∧ yX7_hour.cls ≠ "java/lang/invoke/MethodHandle" ∧ yX7_hour.cls ≠ "java/lang/invoke/VarHandle" ∧ (parseMethodDescriptor yX7_hour.desc).map (fun d => d.parameters.length) = some 2 := ⟨rfl, cn_RX7.1, cn_RX7.2, pm__II_I_2⟩
theorem hd_V_X8_hour_2 : yX8_hour.cls = RX8 ∧ yX8_hour.cls ≠ "java/lang/invoke/MethodHandle" ∧ yX8_hour.cls ≠ "java/lang/invoke/VarHandle" ∧ (parseMethodDescriptor yX8_hour.desc).map (fun d => d.parameters.length) = some 2 := ⟨rfl, cn_RX8.1, cn_RX8.2, pm__II_I_2⟩
theorem hd_V_X7_canHold_2 : yX7_canHold.cls = RX7 ∧ yX7_canHold.cls ≠ "java/lang/invoke/MethodHandle" ∧ yX7_canHold.cls ≠ "java/lang/invoke/VarHandle" ∧ (parseMethodDescriptor yX7_canHold.desc).map (fun d => d.parameters.length) = some 2 := ⟨rfl, cn_RX7.1, cn_RX7.2, pm__II_I_2⟩
theorem hd_V_X8_canHold_2 : yX8_canHold.cls = RX8 ∧ yX8_canHold.cls ≠ "java/lang/invoke/MethodHandle" ∧ yX8_canHold.cls ≠ "java/lang/invoke/VarHandle" ∧ (parseMethodDescriptor yX8_canHold.desc).map (fun d => d.parameters.length) = some 2 := ⟨rfl, cn_RX8.1, cn_RX8.2, pm__II_I_2⟩
theorem hd_V_X7_breaks_2 : yX7_breaks.cls = RX7 ∧ yX7_breaks.cls ≠ "java/lang/invoke/MethodHandle" ∧ yX7_breaks.cls ≠ "java/lang/invoke/VarHandle" ∧ (parseMethodDescriptor yX7_breaks.desc).map (fun d => d.parameters.length) = some 2 := ⟨rfl, cn_RX7.1, cn_RX7.2, pm__II_I_2⟩
theorem hd_V_X8_breaks_2 : yX8_breaks.cls = RX8 ∧ yX8_breaks.cls ≠ "java/lang/invoke/MethodHandle" ∧ yX8_breaks.cls ≠ "java/lang/invoke/VarHandle" ∧ (parseMethodDescriptor yX8_breaks.desc).map (fun d => d.parameters.length) = some 2 := ⟨rfl, cn_RX8.1, cn_RX8.2, pm__II_I_2⟩
theorem pm__IIII_I_4 : (parseMethodDescriptor "(IIII)I").map (fun d => d.parameters.length) = some 4 := by decide +kernel
theorem hd_V_X7_log_4 : yX7_log.cls = RX7 ∧ yX7_log.cls ≠ "java/lang/invoke/MethodHandle" ∧ yX7_log.cls ≠ "java/lang/invoke/VarHandle" ∧ (parseMethodDescriptor yX7_log.desc).map (fun d => d.parameters.length) = some 4 := ⟨rfl, cn_RX7.1, cn_RX7.2, pm__IIII_I_4⟩
theorem hd_V_X8_log_4 : yX8_log.cls = RX8 ∧ yX8_log.cls ≠ "java/lang/invoke/MethodHandle" ∧ yX8_log.cls ≠ "java/lang/invoke/VarHandle" ∧ (parseMethodDescriptor yX8_log.desc).map (fun d => d.parameters.length) = some 4 := ⟨rfl, cn_RX8.1, cn_RX8.2, pm__IIII_I_4⟩
theorem hd_V_X7_judged_2 : yX7_judged.cls = RX7 ∧ yX7_judged.cls ≠ "java/lang/invoke/MethodHandle" ∧ yX7_judged.cls ≠ "java/lang/invoke/VarHandle" ∧ (parseMethodDescriptor yX7_judged.desc).map (fun d => d.parameters.length) = some 2 := ⟨rfl, cn_RX7.1, cn_RX7.2, pm__II_I_2⟩
theorem hd_V_X8_judged_2 : yX8_judged.cls = RX8 ∧ yX8_judged.cls ≠ "java/lang/invoke/MethodHandle" ∧ yX8_judged.cls ≠ "java/lang/invoke/VarHandle" ∧ (parseMethodDescriptor yX8_judged.desc).map (fun d => d.parameters.length) = some 2 := ⟨rfl, cn_RX8.1, cn_RX8.2, pm__II_I_2⟩
theorem hd_V_X7_many_1 : yX7_many.cls = RX7 ∧ yX7_many.cls ≠ "java/lang/invoke/MethodHandle" ∧ yX7_many.cls ≠ "java/lang/invoke/VarHandle" ∧ (parseMethodDescriptor yX7_many.desc).map (fun d => d.parameters.length) = some 1 := ⟨rfl, cn_RX7.1, cn_RX7.2, pm__I_I_1⟩
theorem hd_V_X8_many_1 : yX8_many.cls = RX8 ∧ yX8_many.cls ≠ "java/lang/invoke/MethodHandle" ∧ yX8_many.cls ≠ "java/lang/invoke/VarHandle" ∧ (parseMethodDescriptor yX8_many.desc).map (fun d => d.parameters.length) = some 1 := ⟨rfl, cn_RX8.1, cn_RX8.2, pm__I_I_1⟩
theorem hd_V_X7_keep_0 : yX7_keep.cls = RX7 ∧ yX7_keep.cls ≠ "java/lang/invoke/MethodHandle" ∧ yX7_keep.cls ≠ "java/lang/invoke/VarHandle" ∧ (parseMethodDescriptor yX7_keep.desc).map (fun d => d.parameters.length) = some 0 := ⟨rfl, cn_RX7.1, cn_RX7.2, pm___I_0⟩
theorem hd_V_X8_keep_0 : yX8_keep.cls = RX8 ∧ yX8_keep.cls ≠ "java/lang/invoke/MethodHandle" ∧ yX8_keep.cls ≠ "java/lang/invoke/VarHandle" ∧ (parseMethodDescriptor yX8_keep.desc).map (fun d => d.parameters.length) = some 0 := ⟨rfl, cn_RX8.1, cn_RX8.2, pm___I_0⟩
theorem hd_V_X7_back_0 : yX7_back.cls = RX7 ∧ yX7_back.cls ≠ "java/lang/invoke/MethodHandle" ∧ yX7_back.cls ≠ "java/lang/invoke/VarHandle" ∧ (parseMethodDescriptor yX7_back.desc).map (fun d => d.parameters.length) = some 0 := ⟨rfl, cn_RX7.1, cn_RX7.2, pm___I_0⟩
theorem hd_V_X8_back_0 : yX8_back.cls = RX8 ∧ yX8_back.cls ≠ "java/lang/invoke/MethodHandle" ∧ yX8_back.cls ≠ "java/lang/invoke/VarHandle" ∧ (parseMethodDescriptor yX8_back.desc).map (fun d => d.parameters.length) = some 0 := ⟨rfl, cn_RX8.1, cn_RX8.2, pm___I_0⟩
/-- the array classes, by number: int[], Party[], Mediator[], Case[], Term[], int[][] -/
abbrev ty_L (cy : Nat → ClassId) : List (ClassId × FieldType) := [(cy 0, .int), (cy 1, .object RX3), (cy 2, .object RX2), (cy 3, .object RX0), (cy 4, .object RX6), (cy 5, .array .int)]
def ao_A (U : State) : Prop := (Cond.arrayOver (.array .int)).before #[] U = true
theorem ao_A.spec {U : State} (h : ao_A U) : ∃ comp c k, U.vm.findClass (FieldType.array .int).toString = some comp ∧ (U.vm.classes.findIdx? fun (x : Class) => match x.kind with | .array component _ => component == comp | _ => false) = some c ∧ U.vm.classes[c]? = some k ∧ k.kind = .array comp (.array .int) ∧ U.vm.findClass ("[" ++ (FieldType.array .int).toString) = some c := by
  unfold ao_A Cond.before at h
  simp only [Cond.holds, Cond.value, beq_iff_eq] at h
  cases hc : U.vm.findClass (FieldType.array .int).toString with
  | none => simp [hc] at h
  | some comp =>
    simp only [hc, Option.bind_some, Option.bind_eq_some_iff, Option.map_eq_some_iff] at h
    obtain ⟨c, hi, k, hk, hb⟩ := h
    obtain ⟨hlt, hp, -⟩ := Array.findIdx?_eq_some_iff_getElem.mp hi
    have hk' : U.vm.classes[c] = k := by
      have := Array.getElem?_eq_getElem hlt
      rw [hk] at this
      exact (Option.some.inj this).symm
    rw [hk'] at hp
    refine ⟨comp, c, k, rfl, hi, hk, ?_, ?_⟩
    · cases hkk : k.kind <;> rw [hkk] at hb hp <;> simp at hb hp
      rw [hp, hb.1]
    · cases hkk : k.kind <;> rw [hkk] at hb <;> simp at hb
      exact hb.2
theorem ao_A.moved {u U : State} (hvm : u.vm.Alike U.vm) (h : ao_A u) : ao_A U := by
  obtain ⟨comp, c, k, h1, h2, h3, h4, h5⟩ := h.spec
  obtain ⟨k', hk', he⟩ := hvm.2.2 _ _ h3
  have hi : (U.vm.classes.findIdx? fun (x : Class) => match x.kind with | .array component _ => component == comp | _ => false) = some c := by
    rw [hvm.findIdx?_eqK _ (fun _ => rfl)]
    exact h2
  have hkind : k'.kind = .array comp (.array .int) := by rw [he]; exact h4
  have f1 : U.vm.findClass (FieldType.array .int).toString = some comp := by rw [hvm.findClass]; exact h1
  have f2 : U.vm.findClass ("[" ++ (FieldType.array .int).toString) = some c := by rw [hvm.findClass]; exact h5
  unfold ao_A Cond.before Cond.holds
  simp only [Cond.value]
  rw [f1, Option.bind_some]
  refine (congrArg (fun o : Option Nat => (o.bind (fun c => (U.vm.classes[c]?).map fun (k : Class) => match k.kind with | .array _ ty => decide (ty = FieldType.array .int) && decide (U.vm.findClass ("[" ++ (FieldType.array .int).toString) = some c) | _ => false) == some true)) hi).trans ?_
  simp [hk', hkind, f2]
/-- what nest mates may use of QuietStairs: hasBit, the two static arrays -/
def ex_K1 (U : State) : Prop := va_Nw (.methodLinkNest RX1 51 yX7_hasBit RX7) U ∧ va_Nw (.methodLinkNest RX4 115 yX7_hasBit RX7) U ∧ va_Nw (.methodLinkNest RX5 47 yX7_hasBit RX7) U ∧ va_Nw (.fieldLinkNest RX1 32 RX7 "OTHER_OF_PAIR" "[I" RX7) U ∧ va_Nw (.fieldLinkNest RX1 40 RX7 "LESSER_OF_PAIR" "[I" RX7) U ∧ va_Nw (.fieldLinkNest RX4 109 RX7 "LESSER_OF_PAIR" "[I" RX7) U ∧ va_Nw (.fieldLinkNest RX4 112 RX7 "OTHER_OF_PAIR" "[I" RX7) U
theorem ex_K1.warm {s U : State} (hW : s.WarmedH U.vm) (h : ex_K1 s) : ex_K1 U := ⟨h.1.warmM hW, h.2.1.warmM hW, h.2.2.1.warmM hW, h.2.2.2.1.warmF hW, h.2.2.2.2.1.warmF hW, h.2.2.2.2.2.1.warmF hW, h.2.2.2.2.2.2.warmF hW⟩
theorem ex_K1.same {u U : State} (e : u.vm = U.vm) (h : ex_K1 u) : ex_K1 U := ⟨h.1.same rfl e, h.2.1.same rfl e, h.2.2.1.same rfl e, h.2.2.2.1.same rfl e, h.2.2.2.2.1.same rfl e, h.2.2.2.2.2.1.same rfl e, h.2.2.2.2.2.2.same rfl e⟩
/-- what the tables say beside the words: private constructors of nest mates, arrays made before -/
def ex_K (U : State) : Prop := va_Nw (.methodLinkNest RX1 29 yX3_init RX7) U ∧ va_Nw (.methodLinkNest RX1 30 yX2_init RX7) U ∧ va_Nw (.methodLinkNest RX0 32 yX6_init RX7) U ∧ va_Nw (.methodLinkNest RX7 18 yX4_init RX7) U ∧ va_Nw (.methodLinkNest RX7 25 yX5_init RX7) U ∧ va_AO RX3 U ∧ va_AO RX2 U ∧ va_AO RX0 U ∧ va_AO RX6 U ∧ ao_A U ∧ ex_K1 U
theorem ex_K.warm {s U : State} (hW : s.WarmedH U.vm) (h : ex_K s) : ex_K U := by
  obtain ⟨h1, h2, h3, h4, h5, a1, a2, a3, a4, a5, a6⟩ := h
  exact ⟨h1.warmM hW, h2.warmM hW, h3.warmM hW, h4.warmM hW, h5.warmM hW, va_AO.moved hW.alike a1, va_AO.moved hW.alike a2, va_AO.moved hW.alike a3, va_AO.moved hW.alike a4, ao_A.moved hW.alike a5, a6.warm hW⟩
theorem ex_K.same {u U : State} (e : u.vm = U.vm) (h : ex_K u) : ex_K U := by
  obtain ⟨h1, h2, h3, h4, h5, a1, a2, a3, a4, a5, a6⟩ := h
  have al : u.vm.Alike U.vm := e ▸ Vm.Alike.refl u.vm
  exact ⟨h1.same rfl e, h2.same rfl e, h3.same rfl e, h4.same rfl e, h5.same rfl e, va_AO.moved al a1, va_AO.moved al a2, va_AO.moved al a3, va_AO.moved al a4, ao_A.moved al a5, a6.same e⟩
/-- a method's start: the heap's size, the tables, the cells -/
abbrev ex_Pre (dC : Nat → ClassId) (dI : Nat → Nat → Nat) (cy : Nat → ClassId) (sz : Nat) (ws : va_W) (U : State) : Prop := U.heap.size = sz ∧ ex_K U ∧ va_P (dC, dI) vwCl ws U.heap ∧ va_K (dC, dI) vwCl (ty_L cy) U ∧ va_D (fun _ => True) ws
/-- its end: the cells -/
abbrev ex_Pst (dC : Nat → ClassId) (dI : Nat → Nat → Nat) (A : Nat → Prop) (ws : va_W) (t : State) : Prop := va_P (dC, dI) vwCl ws t.heap ∧ va_D A ws
theorem ex_blind {dC : Nat → ClassId} {dI : Nat → Nat → Nat} {cy : Nat → ClassId} {sz : Nat} {ws : va_W} {av : List Value} : FrameBlind (va_Pc av (ex_Pre dC dI cy sz ws)) := fun a U g mk q => by
  obtain ⟨q0, q1, qE, qP, qK, qD⟩ := q
  exact ⟨q0, q1, qE.same rfl, qP, va_K.moved (u := U) (U := U.calling g mk a) (Vm.Alike.refl U.vm) qK, qD⟩
theorem ex_fm {ws wc : va_W} {is : List Nat} (hs : is.map (fun i => ws[i]?) = wc.map some) : is.filterMap (fun i => ws[i]?) = wc := by
  have h : (is.map (fun i => ws[i]?)).filterMap id = (wc.map some).filterMap id := by rw [hs]
  rw [List.filterMap_map, List.filterMap_map] at h
  have e1 : is.filterMap (id ∘ fun i => ws[i]?) = is.filterMap (fun i => ws[i]?) := rfl
  have e2 : wc.filterMap (id ∘ some) = wc := by
    have : (id ∘ some : (Nat × va_E) → Option (Nat × va_E)) = some := rfl
    rw [this, List.filterMap_some]
  rw [e1, e2] at h
  exact h
theorem ex_preS {s : State} {H : Heap} {dC : Nat → ClassId} {dI : Nat → Nat → Nat} {cy : Nat → ClassId} {A : Nat → Prop} {ws wc : va_W} {As : List Value} (hE : ex_K s) (hK : va_K (dC, dI) vwCl (ty_L cy) s) (hP : va_P (dC, dI) vwCl ws H) (hD : va_D A ws) (is : List Nat) (hn : va_nd is = true) (hs : is.map (fun i => ws[i]?) = wc.map some) : PreS s H (va_Pc As (ex_Pre dC dI cy H.size wc)) As :=
  ⟨ex_blind, fun U hU hW => ⟨rfl, by rw [hU], hE.warm hW, by rw [hU]; exact hP.sub is (ex_fm hs), va_K.moved hW.alike hK, (hD.sub is hn hs).weaken (fun _ _ _ _ => trivial)⟩⟩
theorem ex_preV {s : State} {H : Heap} {dC : Nat → ClassId} {dI : Nat → Nat → Nat} {cy : Nat → ClassId} {A : Nat → Prop} {ws wc : va_W} {As : List Value} {b q0 ci : Nat} {q : vw_C} {fs : List Value} (hE : ex_K s) (hK : va_K (dC, dI) vwCl (ty_L cy) s) (hP : va_P (dC, dI) vwCl ws H) (hD : va_D A ws) (is : List Nat) (hn : va_nd is = true) (hs : is.map (fun i => ws[i]?) = wc.map some) (hc : vwCl[ci]? = some q) (he : ws[q0]? = some (b, .inr (ci, fs))) : PreV s H q.1 b (va_Pc (.ref b :: As) (ex_Pre dC dI cy H.size wc)) As :=
  ⟨ex_blind, va_recv hK hP hc he, (ex_preS (As := .ref b :: As) hE hK hP hD is hn hs).2⟩
section YC
variable {p : Program} {l : Launch} {e : Env} {R : Room} {s : State} {m : MethodId} {args : Array Value} {below : List Frame} {meth : Method} {c : Code} {H : Heap} {locs : List Loc} {cells slots : Nat} {Q : State → Prop}
variable {pc : Nat} {ls : Array Slot} {rest st0 : List Value} {a : Array Value} {A : Nat → Prop} {H0 : Heap} {mc ms : Nat} {dC : Nat → ClassId} {dI : Nat → Nat → Nat} {cy : Nat → ClassId} {ws wc wr : va_W}
theorem yc_i {S : Type} {post : Int32 → S → Prop} {w1 : S → va_W} (hP : va_P (dC, dI) vwCl ws H) (hD : va_D A ws) (hS : va_S A H0 H locs) (hA : ∀ q, H0.size ≤ q → A q) (isC isR : List Nat) (hC : isC.map (fun i => ws[i]?) = wc.map some) (hR : isR.map (fun i => ws[i]?) = wr.map some) (hn : va_nd isR = true) (hdis : ∀ i ∈ isR, i ∉ isC)
    (hr : va_Run p l e R s m args below meth c H locs cells slots mc ms (F0 m pc ls st0) rest (va_Qi post (fun u t => ex_Pst dC dI (va_A wc H.size) (w1 u) t) (va_A wc H.size) a) (va_A wc H.size))
    (kk : ∀ (r : Int32) (u : S) (H1 : Heap) (locs1 : List Loc), post r u → va_P (dC, dI) vwCl (wr ++ w1 u) H1 → va_D A (wr ++ w1 u) → va_S A H0 H1 locs1 → W p l e R s m args below meth c H1 locs1 (cells + mc) (slots + ms) Q (F0 m (pc + 3) ls (.int r :: rest))) : W p l e R s m args below meth c H locs cells slots Q (F0 m pc ls st0) := by
  have hF := va_free (wc := wc) hD hS hA isC hC
  refine va_calli hr hS (fun q _ h => hF q h) hF (fun r u t H1 locs1 ht hvm hw hB hz1 hk1 hS1 => ?_)
  obtain ⟨hP1, hD1⟩ := hB
  rw [ht] at hP1
  obtain ⟨hP2, hD2⟩ := va_join hP hD isC isR hC hR hn hdis hk1 hF hP1 hD1
  exact kk r u H1 locs1 hw hP2 hD2 hS1
theorem yc_v {S : Type} {post : S → Prop} {w1 : S → va_W} (hP : va_P (dC, dI) vwCl ws H) (hD : va_D A ws) (hS : va_S A H0 H locs) (hA : ∀ q, H0.size ≤ q → A q) (isC isR : List Nat) (hC : isC.map (fun i => ws[i]?) = wc.map some) (hR : isR.map (fun i => ws[i]?) = wr.map some) (hn : va_nd isR = true) (hdis : ∀ i ∈ isR, i ∉ isC)
    (hr : va_Run p l e R s m args below meth c H locs cells slots mc ms (F0 m pc ls st0) rest (va_Qv post (fun u t => ex_Pst dC dI (va_A wc H.size) (w1 u) t) (va_A wc H.size) a) (va_A wc H.size))
    (kk : ∀ (u : S) (H1 : Heap) (locs1 : List Loc), post u → va_P (dC, dI) vwCl (wr ++ w1 u) H1 → va_D A (wr ++ w1 u) → va_S A H0 H1 locs1 → W p l e R s m args below meth c H1 locs1 (cells + mc) (slots + ms) Q (F0 m (pc + 3) ls rest)) : W p l e R s m args below meth c H locs cells slots Q (F0 m pc ls st0) := by
  have hF := va_free (wc := wc) hD hS hA isC hC
  refine va_callv hr hS (fun q _ h => hF q h) hF (fun u t H1 locs1 ht hvm hw hB hz1 hk1 hS1 => ?_)
  obtain ⟨hP1, hD1⟩ := hB
  rw [ht] at hP1
  obtain ⟨hP2, hD2⟩ := va_join hP hD isC isR hC hR hn hdis hk1 hF hP1 hD1
  exact kk u H1 locs1 hw hP2 hD2 hS1
/-- a call that touches no cell -/
theorem yc_p {post : Int32 → Unit → Prop} (hP : va_P (dC, dI) vwCl ws H) (hS : va_S A H0 H locs)
    (hr : va_Run p l e R s m args below meth c H locs cells slots mc ms (F0 m pc ls st0) rest (va_Qi post (fun _ _ => True) (fun _ => False) a) (fun _ => False))
    (kk : ∀ (r : Int32) (H1 : Heap) (locs1 : List Loc), post r () → va_P (dC, dI) vwCl ws H1 → va_S A H0 H1 locs1 → W p l e R s m args below meth c H1 locs1 (cells + mc) (slots + ms) Q (F0 m (pc + 3) ls (.int r :: rest))) : W p l e R s m args below meth c H locs cells slots Q (F0 m pc ls st0) := by
  refine va_calli hr hS (fun q _ h => h.elim) (fun q h => h.elim) (fun r u t H1 locs1 ht hvm hw hB hz1 hk1 hS1 => ?_)
  exact kk r H1 locs1 hw (hP.kept (fun k x hx => hk1 x.1 ((hP k x hx).lt) (fun h => h))) hS1
end YC
theorem ex_preP {s : State} {H : Heap} {As : List Value} : PreS s H (va_Pc As (fun _ => True)) As := ⟨fun _ _ _ _ h => h, fun _ _ _ => ⟨rfl, trivial⟩⟩
/-- one array class a type -/
theorem ex_cy {D : va_G} {cl : List vw_C} {tys : List (ClassId × FieldType)} {U : State} {cA cB : ClassId} {ty : FieldType} (h : va_K D cl tys U) (i j : Nat) (hi : tys[i]? = some (cA, ty)) (hj : tys[j]? = some (cB, ty)) : cA = cB := by
  have a := (h.2 i _ hi).2
  have b := (h.2 j _ hj).2
  cases ty with
  | object C =>
    obtain ⟨_, _, _, _, _, a4⟩ := a
    obtain ⟨_, _, _, _, _, b4⟩ := b
    exact Option.some.inj (a4.symm.trans b4)
  | _ => exact Option.some.inj (Eq.trans (Eq.symm a) b)
section YN
variable {p : Program} {l : Launch} {e : Env} {R : Room} {s : State} {m : MethodId} {args : Array Value} {below : List Frame} {meth : Method} {c : Code} {H : Heap} {locs : List Loc} {cells slots : Nat} {Q : State → Prop}
variable {cc : ByteArray} {pc : Nat} {ls : Array Slot} {rest : List Value} {D : va_G} {cl : List vw_C} {A : Nat → Prop} {cy : Nat → ClassId} {ws : va_W} {H0 : Heap}
/-- new int[n] -/
theorem yn_i (hexec : p.tables.exec = Jvm.exec) (hb : c.code = cc) (harr : (Cond.arrayClass .int).before args s = true) (hK : va_K D cl (ty_L cy) s) (hP : va_P D cl ws H) (hD : va_D A ws) (hS : va_S A H0 H locs) (hA : ∀ q, H0.size ≤ q → A q)
    {n : Int32} (N' : Nat) (hn : ¬ n < 0) (hN : n.toNatClampNeg = N') (hbytes : N' * 4 ≤ 536870912) (hcells : cells + 1 ≤ R.cells) (hslots : slots + N' ≤ R.slots) (hdg : decode cc pc = .ok (.newarray .int, 2))
    (kk : ∀ (q : Nat) (H1 : Heap), va_P D cl (ws ++ [(q, .inl (cy 0, N', .inl (fun _ => 0)))]) H1 → va_D A (ws ++ [(q, .inl (cy 0, N', .inl (fun _ => 0)))]) → va_S A H0 H1 locs →
      W p l e R s m args below meth c H1 locs (cells + 1) (slots + N') Q (F0 m (pc + 2) ls (.ref q :: rest))) : W p l e R s m args below meth c H locs cells slots Q (F0 m pc ls (.int n :: rest)) := by
  refine va_newa (atype := .int) (ty := .int) (a0 := (N', .inl (fun _ => 0))) hexec hb harr rfl hK hP hD hS hA (fun cA => rfl) hn hN hbytes hcells hslots hdg (fun q cA H1 hK1 hP1 hD1 hS1 => ?_)
  have hc : cA = cy 0 := ex_cy hK1 6 0 rfl rfl
  subst hc
  exact kk q H1 hP1 hD1 hS1
/-- new C[n] -/
theorem yn_q (hexec : p.tables.exec = Jvm.exec) (hb : c.code = cc) {own C : String} {index : Nat} (hown : s.vm.findClass own = some m.cls) (hclink : (Cond.classLink own index C).before args s = true) (hover : va_AO C s) (hK : va_K D cl (ty_L cy) s) (hP : va_P D cl ws H) (hD : va_D A ws) (hS : va_S A H0 H locs) (hA : ∀ q, H0.size ≤ q → A q)
    {n : Int32} (N' t0 : Nat) (ht : (ty_L cy)[t0]? = some (cy t0, .object C)) (hn : ¬ n < 0) (hN : n.toNatClampNeg = N') (hbytes : N' * 4 ≤ 536870912) (hcells : cells + 1 ≤ R.cells) (hslots : slots + N' ≤ R.slots) (hdg : decode cc pc = .ok (.anewarray index, 3))
    (kk : ∀ (q : Nat) (H1 : Heap), va_P D cl (ws ++ [(q, .inl (cy t0, N', .inr (.inr (.inr (.inr (fun _ => none))))))]) H1 → va_D A (ws ++ [(q, .inl (cy t0, N', .inr (.inr (.inr (.inr (fun _ => none))))))]) → va_S A H0 H1 locs →
      W p l e R s m args below meth c H1 locs (cells + 1) (slots + N') Q (F0 m (pc + 3) ls (.ref q :: rest))) : W p l e R s m args below meth c H locs cells slots Q (F0 m pc ls (.int n :: rest)) := by
  refine va_newq hexec hb hown hclink hover hK hP hD hS hA hn hN hbytes hcells hslots hdg (fun q cA H1 hK1 hP1 hD1 hS1 => ?_)
  have hc : cA = cy t0 := ex_cy hK1 6 t0 rfl (by
    have hlt : t0 < (ty_L cy).length := (List.getElem?_eq_some_iff.mp ht).1
    rw [List.getElem?_append_left hlt]
    exact ht)
  subst hc
  exact kk q H1 hP1 hD1 hS1
end YN
def st_o (j : Nat) : Int32 := match j with
  | 0 => 1
  | 1 => 2
  | 2 => 3
  | 3 => 2
  | 4 => 3
  | 5 => 3
  | _ => 0
def st_l (j : Nat) : Int32 := match j with
  | 0 => 0
  | 1 => 0
  | 2 => 0
  | 3 => 1
  | 4 => 1
  | 5 => 2
  | _ => 0
theorem st_b (j : Nat) : (0 ≤ (st_o j).toInt ∧ (st_o j).toInt ≤ 3) ∧ (0 ≤ (st_l j).toInt ∧ (st_l j).toInt ≤ 3) := by
  match j with
  | 0 => decide
  | 1 => decide
  | 2 => decide
  | 3 => decide
  | 4 => decide
  | 5 => decide
  | n + 6 => exact (by decide : (0 ≤ (0 : Int32).toInt ∧ (0 : Int32).toInt ≤ 3) ∧ (0 ≤ (0 : Int32).toInt ∧ (0 : Int32).toInt ≤ 3))
/-- the static arrays that nobody writes: OTHER_OF_PAIR at t1, LESSER_OF_PAIR at t2 -/
def ex_St (t1 t2 : Nat) (A : Nat → Prop) (U : State) : Prop := (va_Z RX7 "OTHER_OF_PAIR" "[I" (.ref t1) A U U.heap ∧ va_T .int t1 6 (fun j => .int (st_o j)) A U U.heap) ∧ (va_Z RX7 "LESSER_OF_PAIR" "[I" (.ref t2) A U U.heap ∧ va_T .int t2 6 (fun j => .int (st_l j)) A U U.heap)
theorem ex_St.go {t1 t2 : Nat} {A A' : Nat → Prop} {s U : State} {H : Heap} {locs : List Loc} (h : ex_St t1 t2 A s) (hS : va_S A s.heap H locs) (hF : ∀ q, A' q → A q) (hU : U.heap = H) (hW : s.WarmedH U.vm) : ex_St t1 t2 A' U := by
  obtain ⟨⟨h1, h2⟩, h3, h4⟩ := h
  refine ⟨⟨?_, ?_⟩, ?_, ?_⟩
  · rw [hU]
    exact ((h1.kept (fun a q1 q2 => hS.2.1 a q1 q2)).narrow hF).moved hW.alike
  · rw [hU]
    exact ((h2.kept (fun a q1 q2 => hS.2.1 a q1 q2)).narrow hF).moved hW.alike
  · rw [hU]
    exact ((h3.kept (fun a q1 q2 => hS.2.1 a q1 q2)).narrow hF).moved hW.alike
  · rw [hU]
    exact ((h4.kept (fun a q1 q2 => hS.2.1 a q1 q2)).narrow hF).moved hW.alike
abbrev ex_PreT (dC : Nat → ClassId) (dI : Nat → Nat → Nat) (cy : Nat → ClassId) (sz : Nat) (ws : va_W) (t1 t2 : Nat) (U : State) : Prop := ex_Pre dC dI cy sz ws U ∧ ex_St t1 t2 (va_A ws sz) U
theorem ex_blindT {dC : Nat → ClassId} {dI : Nat → Nat → Nat} {cy : Nat → ClassId} {sz t1 t2 : Nat} {ws : va_W} {av : List Value} : FrameBlind (va_Pc av (ex_PreT dC dI cy sz ws t1 t2)) := fun a U g mk q => by
  obtain ⟨q0, q1, ⟨h1, h2⟩, h3, h4⟩ := q
  exact ⟨q0, (ex_blind (av := av) a U g mk ⟨q0, q1⟩).2, ⟨va_Z.moved (u := U) (U := U.calling g mk a) (Vm.Alike.refl U.vm) h1, va_T.moved (u := U) (U := U.calling g mk a) (Vm.Alike.refl U.vm) h2⟩, va_Z.moved (u := U) (U := U.calling g mk a) (Vm.Alike.refl U.vm) h3, va_T.moved (u := U) (U := U.calling g mk a) (Vm.Alike.refl U.vm) h4⟩
section YM
variable {E : CtlPost} {e : Env} {d : Bool} {acts : List Action} {s : State}
theorem ym_na {c comp : ClassId} {k : Class} {ty : FieldType} {n : Nat} {v0 : Value} (hk : s.vm.classes[c]? = some k) (hkind : k.kind = .array comp ty) (hl : ¬ n > e.platform.arrayLengthLimit) (hh : ¬ n * componentBytes ty > e.platform.maxHeapBytes) (hf : fits ty v0 = true) (hdv : v0.isDefault = true) {Q : Addr → Pre}
    (h1 : s.heap.size < e.platform.maxCells) (h2 : s.slotsUsed + n ≤ e.platform.maxSlots) (hq : Q s.heap.size d acts (s.pushCell { cls := c, slots := Array.replicate n v0, vm := .none })) : wp (Jvm.newArray c n v0) Q E e d acts s := by
  have hall : ((Array.replicate n v0).all (·.isDefault)) = true := by
    rw [Array.all_replicate]
    split <;> simp [hdv]
  have hacts : allocActs (Array.replicate n v0) s.heap.size acts = acts := by
    unfold allocActs
    rw [if_pos hall]
  have hfs : ∀ i v, (Array.replicate n v0)[i]? = some v → s.fitsSlot c .none i v = true := fun i v hv => by
    simp only [Array.getElem?_replicate] at hv
    split at hv
    · cases hv
      simp [State.fitsSlot, State.slotType?, hk, hkind, hf]
    · cases hv
  simp only [Jvm.newArray, Jvm.arrayFits, wp_bind', W.ask, W.ite, hl, if_false, wp_pure', W.theClass, hk, hkind, hh, W.alloc, W.stop, Option.some.injEq, exists_eq_left', Array.size_replicate, hacts]
  rw [if_neg (by omega)]
  exact ⟨h1, h2, hfs, hq⟩
/-- the outer array of two, with none, one, two of its rows stored -/
abbrev ym_o (c : ClassId) : Cell := { cls := c, slots := Array.replicate 2 .null, vm := .none }
abbrev ym_r (c : ClassId) (n : Nat) : Cell := { cls := c, slots := Array.replicate n (.int 0), vm := .none }
def ym_1 (s : State) (cA c : ClassId) (n : Nat) : State := ((s.pushCell (ym_o cA)).pushCell (ym_r c n)).setCell s.heap.size ((ym_o cA).setSlot 0 (.ref (s.heap.size + 1)))
def ym_2 (s : State) (cA c : ClassId) (n : Nat) : State := ((ym_1 s cA c n).pushCell (ym_r c n)).setCell s.heap.size (((ym_o cA).setSlot 0 (.ref (s.heap.size + 1))).setSlot 1 (.ref (s.heap.size + 2)))
theorem ym_1f (s : State) (cA c : ClassId) (n : Nat) : (ym_1 s cA c n).heap.size = s.heap.size + 2 ∧ (ym_1 s cA c n).heap[s.heap.size]? = some ((ym_o cA).setSlot 0 (.ref (s.heap.size + 1))) ∧ (ym_1 s cA c n).vm = s.vm ∧ (ym_1 s cA c n).slotsUsed = s.slotsUsed + 2 + n ∧ (∀ a, a < s.heap.size → (ym_1 s cA c n).heap[a]? = s.heap[a]?) ∧ (ym_1 s cA c n).heap[s.heap.size + 1]? = some (ym_r c n) := by
  have h0 : (s.pushCell (ym_o cA)).heap.size = s.heap.size + 1 := by simp
  have l0 : ∀ a, a < s.heap.size + 1 → a < (s.pushCell (ym_o cA)).heap.size := fun a h => by rw [h0]; exact h
  have hb : ((s.pushCell (ym_o cA)).pushCell (ym_r c n)).heap[s.heap.size]? = some (ym_o cA) := by
    rw [State.heap_pushCell_of_lt (h := l0 _ (Nat.lt_succ_self _))]
    exact State.heap_pushCell_size _ _
  refine ⟨by simp [ym_1, State.setCell], State.heap_setCell_self hb, by simp [ym_1], by simp [ym_1], fun a ha => ?_, ?_⟩
  · show (((s.pushCell (ym_o cA)).pushCell (ym_r c n)).setCell s.heap.size _).heap[a]? = _
    rw [State.heap_setCell_other (Nat.ne_of_gt ha), State.heap_pushCell_of_lt (h := l0 a (by omega)), State.heap_pushCell_of_lt (h := ha)]
  · show (((s.pushCell (ym_o cA)).pushCell (ym_r c n)).setCell s.heap.size _).heap[s.heap.size + 1]? = _
    rw [State.heap_setCell_other (show s.heap.size ≠ s.heap.size + 1 by omega), ← h0]
    exact State.heap_pushCell_size _ _
theorem ym_2f (s : State) (cA c : ClassId) (n : Nat) : (ym_2 s cA c n).heap.size = s.heap.size + 3 ∧ (ym_2 s cA c n).heap[s.heap.size]? = some (((ym_o cA).setSlot 0 (.ref (s.heap.size + 1))).setSlot 1 (.ref (s.heap.size + 2))) ∧ (∀ a, a < s.heap.size → (ym_2 s cA c n).heap[a]? = s.heap[a]?) ∧ (ym_2 s cA c n).heap[s.heap.size + 1]? = some (ym_r c n) ∧ (ym_2 s cA c n).heap[s.heap.size + 2]? = some (ym_r c n) := by
  obtain ⟨f1, f2, f3, f4, f5, f6⟩ := ym_1f s cA c n
  have l1 : ∀ a, a < s.heap.size + 2 → a < (ym_1 s cA c n).heap.size := fun a h => by rw [f1]; exact h
  have hb : ((ym_1 s cA c n).pushCell (ym_r c n)).heap[s.heap.size]? = some ((ym_o cA).setSlot 0 (.ref (s.heap.size + 1))) := by
    rw [State.heap_pushCell_of_lt (h := l1 s.heap.size (by omega))]
    exact f2
  refine ⟨by simp [ym_2, State.setCell, f1], State.heap_setCell_self hb, fun a ha => ?_, ?_, ?_⟩
  · show (((ym_1 s cA c n).pushCell (ym_r c n)).setCell s.heap.size _).heap[a]? = _
    rw [State.heap_setCell_other (Nat.ne_of_gt ha), State.heap_pushCell_of_lt (h := l1 a (by omega))]
    exact f5 a ha
  · show (((ym_1 s cA c n).pushCell (ym_r c n)).setCell s.heap.size _).heap[s.heap.size + 1]? = _
    rw [State.heap_setCell_other (show s.heap.size ≠ s.heap.size + 1 by omega), State.heap_pushCell_of_lt (h := l1 (s.heap.size + 1) (by omega))]
    exact f6
  · show (((ym_1 s cA c n).pushCell (ym_r c n)).setCell s.heap.size _).heap[s.heap.size + 2]? = _
    rw [State.heap_setCell_other (show s.heap.size ≠ s.heap.size + 2 by omega), ← f1]
    exact State.heap_pushCell_size _ _
theorem ym_row {c cc : ClassId} {kc : Class} {m : Int32} (hkc : s.vm.classes[c]? = some kc) (hkindc : kc.kind = .array cc .int) (hm : ¬ m < 0) (hl2 : ¬ m.toNatClampNeg > e.platform.arrayLengthLimit) (hh2 : ¬ m.toNatClampNeg * 4 > e.platform.maxHeapBytes)
    (h1 : s.heap.size < e.platform.maxCells) (h2 : s.slotsUsed + m.toNatClampNeg ≤ e.platform.maxSlots) {Q : Addr → Pre} (hq : Q s.heap.size d acts (s.pushCell (ym_r c m.toNatClampNeg))) : wp (multianewarray.make c [m]) Q E e d acts s := by
  rw [multianewarray.make]
  simp only [wp_bind', W.ite, hm, if_false, wp_pure', W.theClass, hkc, hkindc, Option.some.injEq, exists_eq_left']
  exact ym_na hkc hkindc hl2 hh2 rfl rfl h1 h2 hq
theorem ym_make {cA c cc : ClassId} {k kc : Class} {m : Int32} (hk : s.vm.classes[cA]? = some k) (hkind : k.kind = .array c (.array .int)) (hkc : s.vm.classes[c]? = some kc) (hkindc : kc.kind = .array cc .int) (hm : ¬ m < 0)
    (hl1 : ¬ 2 > e.platform.arrayLengthLimit) (hh1 : ¬ 2 * 4 > e.platform.maxHeapBytes) (hl2 : ¬ m.toNatClampNeg > e.platform.arrayLengthLimit) (hh2 : ¬ m.toNatClampNeg * 4 > e.platform.maxHeapBytes)
    (hc : s.heap.size + 3 ≤ e.platform.maxCells) (hs : s.slotsUsed + 2 + m.toNatClampNeg + m.toNatClampNeg ≤ e.platform.maxSlots) {Q : Addr → Pre} (hq : ∀ d' acts', Q s.heap.size d' acts' (ym_2 s cA c m.toNatClampNeg)) : wp (multianewarray.make cA [2, m]) Q E e d acts s := by
  have hfind : ([m].find? (· < 0)) = none := by simp [hm]
  have h2 : ((2 : Int32).toNatClampNeg) = 2 := by decide
  have hn2 : ¬ (2 : Int32) < 0 := by decide
  obtain ⟨f1, f2, f3, f4, f5, f6⟩ := ym_1f s cA c m.toNatClampNeg
  rw [multianewarray.make]
  simp only [wp_bind', W.ite, hn2, if_false, wp_pure', W.theClass, hk, hkind, Option.some.injEq, exists_eq_left', h2]
  refine ym_na hk hkind hl1 hh1 rfl rfl (by omega) (by omega) ?_
  simp only [hfind]
  rw [ite_self, wp_bind', Std.Legacy.Range.forIn_eq_forIn_range']
  have hsz : ([:2] : Std.Legacy.Range).size = 2 := by simp [Std.Legacy.Range.size]
  rw [hsz]
  show wp (forIn [0, 1] PUnit.unit _) _ E e d acts _
  simp only [List.forIn_cons, List.forIn_nil, wp_bind']
  refine ym_row (s := s.pushCell (ym_o cA)) hkc hkindc hm hl2 hh2 (by simp; omega) (by simp; omega) ?_
  have g0 : (s.pushCell (ym_o cA)).heap.size = s.heap.size + 1 := by simp
  have l0 : s.heap.size < (s.pushCell (ym_o cA)).heap.size := by rw [g0]; exact Nat.lt_succ_self _
  have g1 : ((s.pushCell (ym_o cA)).pushCell (ym_r c m.toNatClampNeg)).heap[s.heap.size]? = some (ym_o cA) := by
    rw [State.heap_pushCell_of_lt (h := l0)]
    exact State.heap_pushCell_size _ _
  simp only [wp_bind', W.writeLoc, wp_pure']
  refine ⟨ym_o cA, g1, by simp, by simp, by simp [State.fitsSlot, State.slotType?, hk, hkind]; rfl, ?_⟩
  rw [g0]
  show wp _ _ E e _ _ (ym_1 s cA c m.toNatClampNeg)
  refine ym_row (s := ym_1 s cA c m.toNatClampNeg) (by rw [f3]; exact hkc) hkindc hm hl2 hh2 (by rw [f1]; omega) (by rw [f4]; omega) ?_
  have l1 : s.heap.size < (ym_1 s cA c m.toNatClampNeg).heap.size := by rw [f1]; omega
  have g2 : ((ym_1 s cA c m.toNatClampNeg).pushCell (ym_r c m.toNatClampNeg)).heap[s.heap.size]? = some ((ym_o cA).setSlot 0 (.ref (s.heap.size + 1))) := by
    rw [State.heap_pushCell_of_lt (h := l1)]
    exact f2
  simp only [wp_bind', W.writeLoc, wp_pure']
  refine ⟨_, g2, by simp [Cell.setSlot], by simp [Cell.setSlot], by simp [State.fitsSlot, State.slotType?, Cell.setSlot, f3, hk, hkind]; rfl, ?_⟩
  rw [f1]
  exact hq _ _
end YM
section YX
variable {p : Program} {l : Launch} {e : Env} {R : Room} {s : State} {m : MethodId} {args : Array Value} {below : List Frame} {meth : Method} {c : Code} {T : State} {locs : List Loc} {cells slots : Nat}
theorem ym_step (X : Stand p l e R s m args below meth c T locs cells slots) (hexec : p.tables.exec = Jvm.exec) {own : String} {index : Nat} (hown : s.vm.findClass own = some m.cls) (hclink : (Cond.classLink own index "[[I").before args s = true) (hover : ao_A s) (harr : (Cond.arrayClass .int).before args s = true)
    {g : JFrame} (hg : g.method = m) (hdg : decode c.code g.pc = .ok (.multianewarray index 2, 4)) {k : Int32} {rest : List Value} (hstack : g.stack = .int k :: .int 2 :: rest) (hk : ¬ k < 0) (hb2 : k.toNatClampNeg * 4 ≤ 536870912) (hcells : cells + 3 ≤ R.cells) (hslots : slots + (2 + k.toNatClampNeg + k.toNatClampNeg) ≤ R.slots) :
    ∃ (vm₁ : Vm) (cA comp : ClassId), s.vm.findClass "[[I" = some cA ∧ s.vm.findClass "[I" = some comp ∧
      Stand p l e R s m args below meth c (ym_2 (T.setVm vm₁) cA comp k.toNatClampNeg) ((locs ++ [⟨T.heap.size, 0⟩]) ++ [⟨T.heap.size, 1⟩]) (cells + 3) (slots + (2 + k.toNatClampNeg + k.toNatClampNeg)) ∧
      ∀ target, Steps p.tables e below ((ym_2 (T.setVm vm₁) cA comp k.toNatClampNeg).setTop { g with pc := g.pc + 4, stack := .ref T.heap.size :: rest }) target → Steps p.tables e below (T.setTop g) target := by
  subst hg
  have hpl : e.platform.magicAccessors = ({} : Platform).magicAccessors := by rw [X.admits.platform]
  obtain ⟨comp, cA, kA, hcomp, -, hkA, hkindA, hnameA⟩ := hover.spec
  obtain ⟨comp', kC, cc, hcomp', hkC, hkindC⟩ := Cond.arrayClass_spec harr
  have ecomp : comp' = comp := Option.some.inj (hcomp'.symm.trans hcomp)
  subst ecomp
  obtain ⟨c0, hfc0, hcl⟩ := Cond.classLink_spec hown hclink e.platform hpl
  cases (show s.vm.findClass "[[I" = some cA from hnameA).symm.trans hfc0
  obtain ⟨hg₁, hwarm₁, hready₁⟩ := State.classEntry (e := e) X.warmed hcl
  generalize T.vm.noted g.method.cls index (.cls cA) = vm₁ at hg₁ hwarm₁ hready₁
  have hal : s.vm.Alike vm₁ := hwarm₁.alike
  obtain ⟨kA₁, hkA₁, heA⟩ := hal.2.2 _ _ hkA
  obtain ⟨kC₁, hkC₁, heC⟩ := hal.2.2 _ _ hkC
  have hkindA₁ : kA₁.kind = .array comp' (.array .int) := by rw [heA]; exact hkindA
  have hkindC₁ : kC₁.kind = .array cc .int := by rw [heC]; exact hkindC
  have X₁ := X.noted hwarm₁
  obtain ⟨hr1, hr2⟩ := X.roomAbove hcells hslots
  obtain ⟨f1, f2, f3, f4, f5, f6⟩ := ym_1f (T.setVm vm₁) cA comp' k.toNatClampNeg
  have g0 : ((T.setVm vm₁).pushCell (ym_o cA)).heap.size = (T.setVm vm₁).heap.size + 1 := by simp
  have l0 : (T.setVm vm₁).heap.size < ((T.setVm vm₁).pushCell (ym_o cA)).heap.size := by rw [g0]; exact Nat.lt_succ_self _
  have g1 : (((T.setVm vm₁).pushCell (ym_o cA)).pushCell (ym_r comp' k.toNatClampNeg)).heap[(T.setVm vm₁).heap.size]? = some (ym_o cA) := by
    rw [State.heap_pushCell_of_lt (h := l0)]
    exact State.heap_pushCell_size _ _
  have Y1 := ((X₁.pushed (ym_o cA)).pushed (ym_r comp' k.toNatClampNeg)).stored g1 0 (.ref ((T.setVm vm₁).heap.size + 1))
  have l1 : (T.setVm vm₁).heap.size < (ym_1 (T.setVm vm₁) cA comp' k.toNatClampNeg).heap.size := by rw [f1]; omega
  have g2 : ((ym_1 (T.setVm vm₁) cA comp' k.toNatClampNeg).pushCell (ym_r comp' k.toNatClampNeg)).heap[(T.setVm vm₁).heap.size]? = some ((ym_o cA).setSlot 0 (.ref ((T.setVm vm₁).heap.size + 1))) := by
    rw [State.heap_pushCell_of_lt (h := l1)]
    exact f2
  have Y2 := (Stand.pushed (T := ym_1 (T.setVm vm₁) cA comp' k.toNatClampNeg) Y1 (ym_r comp' k.toNatClampNeg)).stored g2 1 (.ref ((T.setVm vm₁).heap.size + 2))
  have XF : Stand p l e R s g.method args below meth c (ym_2 (T.setVm vm₁) cA comp' k.toNatClampNeg) ((locs ++ [⟨T.heap.size, 0⟩]) ++ [⟨T.heap.size, 1⟩]) (cells + 3) (slots + (2 + k.toNatClampNeg + k.toNatClampNeg)) := by
    have e1 : (ym_o cA).slots.size = 2 := by simp
    have e2 : (ym_r comp' k.toNatClampNeg).slots.size = k.toNatClampNeg := by simp
    rw [e1, e2] at Y2
    have e3 : slots + 2 + k.toNatClampNeg + k.toNatClampNeg = slots + (2 + k.toNatClampNeg + k.toNatClampNeg) := by omega
    rw [e3] at Y2
    exact Y2
  refine ⟨vm₁, cA, comp', hnameA, hcomp, XF, fun target hrest => ?_⟩
  have hl1 : ¬ 2 > e.platform.arrayLengthLimit := by rw [Launch.admits_arrayLengthLimit X.admits]; omega
  have hh1 : ¬ 2 * 4 > e.platform.maxHeapBytes := by rw [Launch.admits_maxHeapBytes X.admits]; omega
  have hl2 : ¬ k.toNatClampNeg > e.platform.arrayLengthLimit := by rw [Launch.admits_arrayLengthLimit X.admits]; omega
  have hh2 : ¬ k.toNatClampNeg * 4 > e.platform.maxHeapBytes := by rw [Launch.admits_maxHeapBytes X.admits]; omega
  jvm_step X.here [hexec, hdg]
  simp only [multianewarray.sem, wp_bind', W.resolveClassAt_links (State.method?_setTop g X.here.top) hg₁]
  rw [W.popN, if_neg (by decide)]
  refine ⟨g, State.topJava?_setTop' (s := T.setVm vm₁) g X.here.top, [.int 2, .int k], rest, rfl, hstack, ?_⟩
  simp only [List.mapM_cons, List.mapM_nil, wp_bind', wp_pure']
  have eS : ((T.setTop g).setVm vm₁).setTop { g with stack := rest } = (T.setVm vm₁).setTop { g with stack := rest } := by
    show ((T.setVm vm₁).setTop g).setTop _ = _
    rw [State.setTop_setTop]
  refine ym_make (k := kA₁) (kc := kC₁) (c := comp') (cc := cc) hkA₁ hkindA₁ hkC₁ hkindC₁ hk hl1 hh1 hl2 hh2 (by show T.heap.size + 3 ≤ _; omega) (by show T.slotsUsed + 2 + _ + _ ≤ _; omega) (fun d' acts' => ?_)
  have eF : ym_2 (((T.setTop g).setVm vm₁).setTop { g with stack := rest }) cA comp' k.toNatClampNeg = (ym_2 (T.setVm vm₁) cA comp' k.toNatClampNeg).setTop { g with stack := rest } := by
    rw [eS]
    simp only [ym_2, ym_1, State.heap_setTop, State.pushCell_setTop, State.setCell_setTop]
  rw [eF]
  simp only [wp_bind', W.mark, W.pushRef, State.topJava?_setTop' _ XF.here.top, Option.some.injEq, exists_eq_left', State.setTop_setTop, State.heap_setTop]
  intro acts
  simp [jvm, XF.here.top]
  exact hrest
end YX
section YN
variable {p : Program} {l : Launch} {e : Env} {R : Room} {s : State} {m : MethodId} {args : Array Value} {below : List Frame} {meth : Method} {c : Code} {H : Heap} {locs : List Loc} {cells slots : Nat} {Q : State → Prop}
variable {cc : ByteArray} {pc : Nat} {ls : Array Slot} {rest : List Value} {D : va_G} {cl : List vw_C} {A : Nat → Prop} {cy : Nat → ClassId} {ws : va_W} {H0 : Heap}
/-- new int[2][k] -/
theorem yn_m (hexec : p.tables.exec = Jvm.exec) (hb : c.code = cc) {own : String} {index : Nat} (hown : s.vm.findClass own = some m.cls) (hclink : (Cond.classLink own index "[[I").before args s = true) (hover : ao_A s) (harr : (Cond.arrayClass .int).before args s = true) (hK : va_K D cl (ty_L cy) s) (hP : va_P D cl ws H) (hD : va_D A ws) (hS : va_S A H0 H locs) (hA : ∀ q, H0.size ≤ q → A q)
    {k : Int32} (K' : Nat) (hk : ¬ k < 0) (hM : k.toNatClampNeg = K') (hb2 : K' * 4 ≤ 536870912) (hcells : cells + 3 ≤ R.cells) (hslots : slots + (2 + K' + K') ≤ R.slots) (hdg : decode cc pc = .ok (.multianewarray index 2, 4))
    (kk : ∀ (q : Nat) (H1 : Heap) (locs1 : List Loc), va_P D cl (ws ++ [(q, .inl (cy 5, 2, .inr (.inr (.inr (.inr (fun i => if i < 2 then some (q + 1 + i) else none)))))), (q + 1, .inl (cy 0, K', .inl (fun _ => 0))), (q + 2, .inl (cy 0, K', .inl (fun _ => 0)))]) H1 → va_D A (ws ++ [(q, .inl (cy 5, 2, .inr (.inr (.inr (.inr (fun i => if i < 2 then some (q + 1 + i) else none)))))), (q + 1, .inl (cy 0, K', .inl (fun _ => 0))), (q + 2, .inl (cy 0, K', .inl (fun _ => 0)))]) → va_S A H0 H1 locs1 →
      W p l e R s m args below meth c H1 locs1 (cells + 3) (slots + (2 + K' + K')) Q (F0 m (pc + 4) ls (.ref q :: rest))) : W p l e R s m args below meth c H locs cells slots Q (F0 m pc ls (.int k :: .int 2 :: rest)) := by
  subst hM
  intro T hT Xs
  obtain ⟨vm₁, cA, comp, fA, fC, X', step⟩ := ym_step Xs hexec hown hclink hover harr (g := F0 m pc ls (.int k :: .int 2 :: rest)) rfl (by rw [hb]; exact hdg) rfl hk hb2 hcells hslots
  have eA : cA = cy 5 := Option.some.inj (fA.symm.trans (hK.2 5 _ rfl).2)
  have eC : comp = cy 0 := Option.some.inj (fC.symm.trans (hK.2 0 _ rfl).2)
  subst eA
  subst eC
  have hTh : (T.setVm vm₁).heap = H := hT
  obtain ⟨f1, f2, f3, f4, f5⟩ := ym_2f (T.setVm vm₁) (cy 5) (cy 0) k.toNatClampNeg
  generalize ym_2 (T.setVm vm₁) (cy 5) (cy 0) k.toNatClampNeg = F at X' step f1 f2 f3 f4 f5
  rw [hTh] at f1 f2 f3 f4 f5
  have eR : (ym_r (cy 0) k.toNatClampNeg) = vp_cell (cy 0) (k.toNatClampNeg, .inl (fun _ => 0)) := by
    show ({ cls := cy 0, slots := Array.replicate k.toNatClampNeg (.int 0), vm := .none } : Cell) = _
    rw [arrV_new]
    rfl
  have eO : ((ym_o (cy 5)).setSlot 0 (.ref (H.size + 1))).setSlot 1 (.ref (H.size + 2)) = vp_cell (cy 5) (2, .inr (.inr (.inr (.inr (fun i => if i < 2 then some (H.size + 1 + i) else none))))) := by
    rw [vp_cell_q]
    show (({ cls := cy 5, slots := Array.replicate 2 .null, vm := .none } : Cell).setSlot 0 _).setSlot 1 _ = _
    rw [arrV_new, arrV_store, arrV_store]
    refine congrArg (arrV (cy 5) 2) (funext fun j => ?_)
    rcases Nat.lt_or_ge j 2 with h | h
    · rcases (show j = 0 ∨ j = 1 by omega) with rfl | rfl <;> simp [updV, va_rf]
    · simp [updV, va_rf, show j ≠ 0 by omega, show j ≠ 1 by omega, show ¬ j < 2 by omega]
  rw [eO] at f2
  rw [eR] at f4 f5
  have hN : ∀ (k9 : Nat) (x : Nat × va_E), ([(H.size, .inl (cy 5, 2, .inr (.inr (.inr (.inr (fun i => if i < 2 then some (H.size + 1 + i) else none)))))), (H.size + 1, .inl (cy 0, k.toNatClampNeg, .inl (fun _ => 0))), (H.size + 2, .inl (cy 0, k.toNatClampNeg, .inl (fun _ => 0)))] : va_W)[k9]? = some x → va_at D cl x F.heap ∧ x.1 = H.size + k9 := fun k9 x hx => by
    have h0 : k9 < 3 := (List.getElem?_eq_some_iff.mp hx).1
    rcases (show k9 = 0 ∨ k9 = 1 ∨ k9 = 2 by omega) with rfl | rfl | rfl <;> cases hx
    · exact ⟨f2, rfl⟩
    · exact ⟨f4, rfl⟩
    · exact ⟨f5, rfl⟩
  have hP1 := (hP.kept (H1 := F.heap) (fun k9 x hx => f3 x.1 ((hP k9 x hx).lt))).app (fun k9 x hx => (hN k9 x hx).1)
  have hs0 := hS.1
  have hD1 := va_D.app hD (w2 := ([(H.size, .inl (cy 5, 2, .inr (.inr (.inr (.inr (fun i => if i < 2 then some (H.size + 1 + i) else none)))))), (H.size + 1, .inl (cy 0, k.toNatClampNeg, .inl (fun _ => 0))), (H.size + 2, .inl (cy 0, k.toNatClampNeg, .inl (fun _ => 0)))] : va_W)) ⟨fun i j x y hi hj hxy => by
      have h1 := (hN i x hi).2
      have h2 := (hN j y hj).2
      omega, fun k9 x hx => hA _ (by have := (hN k9 x hx).2; omega)⟩ (fun i j x y hi hj hxy => by
      have h1 := (hP i x hi).lt
      have h2 := (hN j y hj).2
      omega)
  obtain ⟨t, a1, b1⟩ := kk H.size F.heap ((locs ++ [⟨T.heap.size, 0⟩]) ++ [⟨T.heap.size, 1⟩]) hP1 hD1 ⟨by rw [f1]; omega, fun x h1 h2 => (f3 x (Nat.lt_of_lt_of_le h1 hs0)).trans (hS.2.1 x h1 h2), fun q hq => by
    have hTs : T.heap.size = H.size := by rw [hT]
    rcases List.mem_append.mp hq with h | h
    · rcases List.mem_append.mp h with h | h
      · exact hS.2.2 q h
      · rw [List.mem_singleton.mp h]
        exact hA _ (by rw [hTs]; exact hs0)
    · rw [List.mem_singleton.mp h]
      exact hA _ (by rw [hTs]; exact hs0)⟩ F rfl X'
  refine ⟨t, step t ?_, b1⟩
  have e : T.heap.size = H.size := by rw [hT]
  rw [e]
  exact a1
end YN
/-- the kinds of a House's cells, and of all cells of the class -/
def kd_H : List Nat := [3, 4, 5, 6, 7, 7, 7, 7, 7, 7, 7, 7, 8, 8, 8, 8, 9, 10, 20, 11, 12, 12, 13, 14, 14, 15, 16, 16, 16, 16, 16, 9, 10, 20, 11, 12, 12, 13, 14, 14, 15, 16, 16, 16, 16, 16, 9, 10, 20, 11, 12, 12, 13, 14, 14, 15, 16, 16, 16, 16, 16, 9, 10, 20, 11, 12, 12, 13, 14, 14, 15, 16, 16, 16, 16, 16, 9, 10, 20, 11, 12, 12, 13, 14, 14, 15, 16, 16, 16, 16, 16, 9, 10, 20, 11, 12, 12, 13, 14, 14, 15, 16, 16, 16, 16, 16]
def kd_L : List Nat := [0, 1, 17, 17, 17, 21, 17, 17, 18, 18, 2, 19, 19] ++ (kd_H ++ kd_H)
def kd (k : Nat) : Nat := kd_L.getD k 99
/-- what a place holds: its ints are r -/
def ce (ad : Nat → Nat) (kv : Value) (cy : Nat → ClassId) (k : Nat) (r : Nat → Int32) : va_E := match kd k with
  | 0 => .inr (7, [.ref (ad 13), .ref (ad 1), .ref (ad 10), kv, .int (r 4)])
  | 1 => .inr (4, [.int (r 0), .int (r 1), .int (r 2), .ref (ad 2), .ref (ad 3), .ref (ad 4), .ref (ad 5), .ref (ad 6), .ref (ad 7), .ref (ad 8), .ref (ad 9)])
  | 2 => .inr (5, [.int (r 0), .ref (ad 11), .ref (ad 12)])
  | 3 => .inr (1, [.int (r 0), .int (r 1), .int (r 2), .int (r 3), .ref (ad (k + 1)), .ref (ad (k + 2)), .ref (ad (k + 3))])
  | 4 => .inl (cy 1, 8, .inr (.inr (.inr (.inr (fun i => if i < 8 then some (ad (k + 3 + i)) else none)))))
  | 5 => .inl (cy 2, 4, .inr (.inr (.inr (.inr (fun i => if i < 4 then some (ad (k + 10 + i)) else none)))))
  | 6 => .inl (cy 3, 6, .inr (.inr (.inr (.inr (fun i => if i < 6 then some (ad (k + 13 + 15 * i)) else none)))))
  | 7 => .inr (3, [.int (r 0), .int (r 1)])
  | 8 => .inr (2, [.int (r 0), .int (r 1), .int (r 2)])
  | 9 => .inr (0, [.int (r 0), .int (r 1), .int (r 2), .int (r 3), .int (r 4), .int (r 5), .ref (ad (k + 1)), .ref (ad (k + 2)), .ref (ad (k + 3)), .ref (ad (k + 6)), .ref (ad (k + 9))])
  | 10 => .inl (cy 0, 2, .inl r)
  | 11 => .inl (cy 5, 2, .inr (.inr (.inr (.inr (fun i => if i < 2 then some (ad (k + 1 + i)) else none)))))
  | 12 => .inl (cy 0, 5, .inl r)
  | 13 => .inl (cy 5, 2, .inr (.inr (.inr (.inr (fun i => if i < 2 then some (ad (k + 1 + i)) else none)))))
  | 14 => .inl (cy 0, 24, .inl r)
  | 15 => .inl (cy 4, 5, .inr (.inr (.inr (.inr (fun i => if i < 5 then some (ad (k + 1 + i)) else none)))))
  | 16 => .inr (6, [.int (r 0), .int (r 1), .int (r 2), .int (r 3), .int (r 4)])
  | 17 => .inl (cy 0, 4, .inl r)
  | 18 => .inl (cy 0, 3, .inl r)
  | 19 => .inl (cy 0, 5, .inl r)
  | 20 => .inl (cy 0, 2, .inl r)
  | 21 => .inl (cy 0, 4, .inl r)
  | _ => .inl (cy 0, 0, .inl r)
theorem ce_0 {ad : Nat → Nat} {kv : Value} {cy : Nat → ClassId} {k : Nat} {r : Nat → Int32} (h : kd k = 0) : ce ad kv cy k r = .inr (7, [.ref (ad 13), .ref (ad 1), .ref (ad 10), kv, .int (r 4)]) := by
  unfold ce
  rw [h]
  rfl
theorem ce_1 {ad : Nat → Nat} {kv : Value} {cy : Nat → ClassId} {k : Nat} {r : Nat → Int32} (h : kd k = 1) : ce ad kv cy k r = .inr (4, [.int (r 0), .int (r 1), .int (r 2), .ref (ad 2), .ref (ad 3), .ref (ad 4), .ref (ad 5), .ref (ad 6), .ref (ad 7), .ref (ad 8), .ref (ad 9)]) := by
  unfold ce
  rw [h]
  rfl
theorem ce_2 {ad : Nat → Nat} {kv : Value} {cy : Nat → ClassId} {k : Nat} {r : Nat → Int32} (h : kd k = 2) : ce ad kv cy k r = .inr (5, [.int (r 0), .ref (ad 11), .ref (ad 12)]) := by
  unfold ce
  rw [h]
  rfl
theorem ce_3 {ad : Nat → Nat} {kv : Value} {cy : Nat → ClassId} {k : Nat} {r : Nat → Int32} (h : kd k = 3) : ce ad kv cy k r = .inr (1, [.int (r 0), .int (r 1), .int (r 2), .int (r 3), .ref (ad (k + 1)), .ref (ad (k + 2)), .ref (ad (k + 3))]) := by
  unfold ce
  rw [h]
  rfl
theorem ce_4 {ad : Nat → Nat} {kv : Value} {cy : Nat → ClassId} {k : Nat} {r : Nat → Int32} (h : kd k = 4) : ce ad kv cy k r = .inl (cy 1, 8, .inr (.inr (.inr (.inr (fun i => if i < 8 then some (ad (k + 3 + i)) else none))))) := by
  unfold ce
  rw [h]
  rfl
theorem ce_5 {ad : Nat → Nat} {kv : Value} {cy : Nat → ClassId} {k : Nat} {r : Nat → Int32} (h : kd k = 5) : ce ad kv cy k r = .inl (cy 2, 4, .inr (.inr (.inr (.inr (fun i => if i < 4 then some (ad (k + 10 + i)) else none))))) := by
  unfold ce
  rw [h]
  rfl
theorem ce_6 {ad : Nat → Nat} {kv : Value} {cy : Nat → ClassId} {k : Nat} {r : Nat → Int32} (h : kd k = 6) : ce ad kv cy k r = .inl (cy 3, 6, .inr (.inr (.inr (.inr (fun i => if i < 6 then some (ad (k + 13 + 15 * i)) else none))))) := by
  unfold ce
  rw [h]
  rfl
theorem ce_7 {ad : Nat → Nat} {kv : Value} {cy : Nat → ClassId} {k : Nat} {r : Nat → Int32} (h : kd k = 7) : ce ad kv cy k r = .inr (3, [.int (r 0), .int (r 1)]) := by
  unfold ce
  rw [h]
  rfl
theorem ce_8 {ad : Nat → Nat} {kv : Value} {cy : Nat → ClassId} {k : Nat} {r : Nat → Int32} (h : kd k = 8) : ce ad kv cy k r = .inr (2, [.int (r 0), .int (r 1), .int (r 2)]) := by
  unfold ce
  rw [h]
  rfl
theorem ce_9 {ad : Nat → Nat} {kv : Value} {cy : Nat → ClassId} {k : Nat} {r : Nat → Int32} (h : kd k = 9) : ce ad kv cy k r = .inr (0, [.int (r 0), .int (r 1), .int (r 2), .int (r 3), .int (r 4), .int (r 5), .ref (ad (k + 1)), .ref (ad (k + 2)), .ref (ad (k + 3)), .ref (ad (k + 6)), .ref (ad (k + 9))]) := by
  unfold ce
  rw [h]
  rfl
theorem ce_10 {ad : Nat → Nat} {kv : Value} {cy : Nat → ClassId} {k : Nat} {r : Nat → Int32} (h : kd k = 10) : ce ad kv cy k r = .inl (cy 0, 2, .inl r) := by
  unfold ce
  rw [h]
  rfl
theorem ce_11 {ad : Nat → Nat} {kv : Value} {cy : Nat → ClassId} {k : Nat} {r : Nat → Int32} (h : kd k = 11) : ce ad kv cy k r = .inl (cy 5, 2, .inr (.inr (.inr (.inr (fun i => if i < 2 then some (ad (k + 1 + i)) else none))))) := by
  unfold ce
  rw [h]
  rfl
theorem ce_12 {ad : Nat → Nat} {kv : Value} {cy : Nat → ClassId} {k : Nat} {r : Nat → Int32} (h : kd k = 12) : ce ad kv cy k r = .inl (cy 0, 5, .inl r) := by
  unfold ce
  rw [h]
  rfl
theorem ce_13 {ad : Nat → Nat} {kv : Value} {cy : Nat → ClassId} {k : Nat} {r : Nat → Int32} (h : kd k = 13) : ce ad kv cy k r = .inl (cy 5, 2, .inr (.inr (.inr (.inr (fun i => if i < 2 then some (ad (k + 1 + i)) else none))))) := by
  unfold ce
  rw [h]
  rfl
theorem ce_14 {ad : Nat → Nat} {kv : Value} {cy : Nat → ClassId} {k : Nat} {r : Nat → Int32} (h : kd k = 14) : ce ad kv cy k r = .inl (cy 0, 24, .inl r) := by
  unfold ce
  rw [h]
  rfl
theorem ce_15 {ad : Nat → Nat} {kv : Value} {cy : Nat → ClassId} {k : Nat} {r : Nat → Int32} (h : kd k = 15) : ce ad kv cy k r = .inl (cy 4, 5, .inr (.inr (.inr (.inr (fun i => if i < 5 then some (ad (k + 1 + i)) else none))))) := by
  unfold ce
  rw [h]
  rfl
theorem ce_16 {ad : Nat → Nat} {kv : Value} {cy : Nat → ClassId} {k : Nat} {r : Nat → Int32} (h : kd k = 16) : ce ad kv cy k r = .inr (6, [.int (r 0), .int (r 1), .int (r 2), .int (r 3), .int (r 4)]) := by
  unfold ce
  rw [h]
  rfl
theorem ce_17 {ad : Nat → Nat} {kv : Value} {cy : Nat → ClassId} {k : Nat} {r : Nat → Int32} (h : kd k = 17) : ce ad kv cy k r = .inl (cy 0, 4, .inl r) := by
  unfold ce
  rw [h]
  rfl
theorem ce_18 {ad : Nat → Nat} {kv : Value} {cy : Nat → ClassId} {k : Nat} {r : Nat → Int32} (h : kd k = 18) : ce ad kv cy k r = .inl (cy 0, 3, .inl r) := by
  unfold ce
  rw [h]
  rfl
theorem ce_19 {ad : Nat → Nat} {kv : Value} {cy : Nat → ClassId} {k : Nat} {r : Nat → Int32} (h : kd k = 19) : ce ad kv cy k r = .inl (cy 0, 5, .inl r) := by
  unfold ce
  rw [h]
  rfl
theorem ce_20 {ad : Nat → Nat} {kv : Value} {cy : Nat → ClassId} {k : Nat} {r : Nat → Int32} (h : kd k = 20) : ce ad kv cy k r = .inl (cy 0, 2, .inl r) := by
  unfold ce
  rw [h]
  rfl
theorem ce_21 {ad : Nat → Nat} {kv : Value} {cy : Nat → ClassId} {k : Nat} {r : Nat → Int32} (h : kd k = 21) : ce ad kv cy k r = .inl (cy 0, 4, .inl r) := by
  unfold ce
  rw [h]
  rfl
/-- the world of N places -/
def wl (ad : Nat → Nat) (kv : Value) (cy : Nat → ClassId) (N : Nat) (v : Nat → Nat → Int32) : va_W := (List.range N).map (fun k => (ad k, ce ad kv cy k (v k)))
def upr (v : Nat → Nat → Int32) (k : Nat) (r : Nat → Int32) : Nat → Nat → Int32 := fun a => if a = k then r else v a
theorem upr_s {v : Nat → Nat → Int32} {k : Nat} {r : Nat → Int32} : upr v k r k = r := if_pos rfl
theorem upr_n {v : Nat → Nat → Int32} {k a : Nat} {r : Nat → Int32} (h : a ≠ k) : upr v k r a = v a := if_neg h
theorem wl_at {ad : Nat → Nat} {kv : Value} {cy : Nat → ClassId} {N : Nat} {v : Nat → Nat → Int32} {k : Nat} {e : va_E} (hk : k < N) (h : ce ad kv cy k (v k) = e) : (wl ad kv cy N v)[k]? = some (ad k, e) := by
  unfold wl
  rw [List.getElem?_map, List.getElem?_range hk, ← h]
  rfl
theorem wl_put {ad : Nat → Nat} {kv : Value} {cy : Nat → ClassId} {N : Nat} {v : Nat → Nat → Int32} {k : Nat} {e : va_E} {r : Nat → Int32} (h : ce ad kv cy k r = e) : (wl ad kv cy N v).set k (ad k, e) = wl ad kv cy N (upr v k r) := by
  apply List.ext_getElem?
  intro i
  unfold wl
  rw [List.getElem?_set]
  by_cases hi : i < N
  · by_cases hk : k = i
    · subst hk
      rw [if_pos rfl, List.getElem?_map, List.getElem?_range hi, if_pos (by rw [List.length_map, List.length_range]; exact hi), ← h]
      show _ = some (ad k, ce ad kv cy k (upr v k r k))
      rw [upr_s]
    · rw [if_neg hk, List.getElem?_map, List.getElem?_map, List.getElem?_range hi]
      show some (ad i, ce ad kv cy i (v i)) = some (ad i, ce ad kv cy i (upr v k r i))
      rw [upr_n (fun q => hk q.symm)]
  · have e1 : (List.range N)[i]? = none := List.getElem?_eq_none (by rw [List.length_range]; omega)
    rw [List.getElem?_map, List.getElem?_map, e1]
    by_cases hk : k = i
    · subst hk
      rw [if_pos rfl, if_neg (by rw [List.length_map, List.length_range]; exact hi)]
      rfl
    · rw [if_neg hk]
      rfl
/-- the numbers that a place may hold: 0 to this one -/
def bd (K j : Nat) : Option Int := match K with
  | 1 => if j = 1 then some 4 else none
  | 2 => if j = 0 then some 5 else none
  | 3 => if j = 0 then some 8 else if j = 1 then some 4 else if j = 2 then some 6 else if j = 3 then some 6 else none
  | 9 => if j = 2 then some 5 else if j = 5 then some 5 else none
  | 10 => some 7
  | 16 => if j = 0 then some 1 else if j = 1 then some 1 else if j = 3 then some 23 else if j = 4 then some 23 else none
  | 21 => some 3
  | _ => none
def Iv (v : Nat → Nat → Int32) : Prop := ∀ (k j : Nat) (h : Int), bd (kd k) j = some h → 0 ≤ (v k j).toInt ∧ (v k j).toInt ≤ h
theorem Iv.at {v : Nat → Nat → Int32} (hv : Iv v) {k j K : Nat} {h : Int} (hk : kd k = K) (hb : bd K j = some h) : 0 ≤ (v k j).toInt ∧ (v k j).toInt ≤ h := hv k j h (by rw [hk]; exact hb)
theorem Iv.put {v : Nat → Nat → Int32} (hv : Iv v) {k j K : Nat} {x : Int32} (hk : kd k = K) (hx : ∀ h : Int, bd K j = some h → 0 ≤ x.toInt ∧ x.toInt ≤ h) : Iv (upr v k (upd (v k) j x)) := by
  intro a b h q
  by_cases ha : a = k
  · subst ha
    rw [upr_s]
    by_cases hb : b = j
    · subst hb
      rw [pk_us]
      exact hx h (by rw [← hk]; exact q)
    · rw [pk_un hb]
      exact hv a b h q
  · rw [upr_n ha]
    exact hv a b h q
/-- Party i, Mediator i, Case i and its cells, in the House that stands at place 13 and in the one at 119 -/
theorem kd_p : ∀ i, i < 8 → kd (17 + i) = 7 ∧ kd (123 + i) = 7 := by decide
theorem kd_m : ∀ i, i < 4 → kd (25 + i) = 8 ∧ kd (131 + i) = 8 := by decide
theorem kd_c : ∀ i, i < 6 → (kd (29 + 15 * i) = 9 ∧ kd (30 + 15 * i) = 10 ∧ kd (31 + 15 * i) = 20 ∧ kd (32 + 15 * i) = 11 ∧ kd (35 + 15 * i) = 13 ∧ kd (38 + 15 * i) = 15) ∧ (kd (135 + 15 * i) = 9 ∧ kd (136 + 15 * i) = 10 ∧ kd (137 + 15 * i) = 20 ∧ kd (138 + 15 * i) = 11 ∧ kd (141 + 15 * i) = 13 ∧ kd (144 + 15 * i) = 15) := by decide
theorem kd_o : ∀ i, i < 6 → ∀ j, j < 2 → (kd (33 + 15 * i + j) = 12 ∧ kd (36 + 15 * i + j) = 14) ∧ (kd (139 + 15 * i + j) = 12 ∧ kd (142 + 15 * i + j) = 14) := by decide
theorem kd_t : ∀ i, i < 6 → ∀ j, j < 5 → kd (39 + 15 * i + j) = 16 ∧ kd (145 + 15 * i + j) = 16 := by decide
theorem t_add {x y : Int32} (h : -2147483648 ≤ x.toInt + y.toInt ∧ x.toInt + y.toInt < 2147483648) : (x + y).toInt = x.toInt + y.toInt := by
  rw [Int32.toInt_add]
  exact Int.bmod_eq_of_le (by omega) (by omega)
theorem t_sub {x y : Int32} (h : -2147483648 ≤ x.toInt - y.toInt ∧ x.toInt - y.toInt < 2147483648) : (x - y).toInt = x.toInt - y.toInt := by
  rw [Int32.toInt_sub]
  exact Int.bmod_eq_of_le (by omega) (by omega)
theorem t_in {x : Int32} {n : Nat} (h : 0 ≤ x.toInt ∧ x.toInt < n) : vp_in x n ∧ ∃ i : Nat, i < n ∧ x.toNatClampNeg = i ∧ x.toInt = i := by
  refine ⟨vp_in_iff.mpr h, x.toInt.toNat, by omega, rfl, by omega⟩
/-- the counts of parties and mediators, now and kept, and the rooms stay -/
def Fr (v u : Nat → Nat → Int32) : Prop := u 13 0 = v 13 0 ∧ u 13 1 = v 13 1 ∧ u 0 4 = v 0 4 ∧ u 119 0 = v 119 0 ∧ u 119 1 = v 119 1
theorem Fr.rf {v : Nat → Nat → Int32} : Fr v v := ⟨rfl, rfl, rfl, rfl, rfl⟩
theorem Fr.trans {v u w : Nat → Nat → Int32} (h : Fr v u) (g : Fr u w) : Fr v w := ⟨g.1.trans h.1, g.2.1.trans h.2.1, g.2.2.1.trans h.2.2.1, g.2.2.2.1.trans h.2.2.2.1, g.2.2.2.2.trans h.2.2.2.2⟩
theorem Fr.put {v u : Nat → Nat → Int32} {k j : Nat} {x : Int32} (h : Fr v u) (h1 : k ≠ 13) (h2 : k ≠ 0) (h3 : k ≠ 119) : Fr v (upr u k (upd (u k) j x)) := by
  unfold Fr
  rw [upr_n (Ne.symm h1), upr_n (Ne.symm h2), upr_n (Ne.symm h3)]
  exact h
theorem Fr.putj {v u : Nat → Nat → Int32} {k j : Nat} {x : Int32} (h : Fr v u) (hj : j ≠ 0 ∧ j ≠ 1 ∧ j ≠ 4) : Fr v (upr u k (upd (u k) j x)) := by
  have key : ∀ a b : Nat, b = 0 ∨ b = 1 ∨ b = 4 → upr u k (upd (u k) j x) a b = u a b := fun a b hb => by
    by_cases ha : a = k
    · subst ha
      rw [upr_s, pk_un (by omega)]
    · rw [upr_n ha]
  unfold Fr
  rw [key 13 0 (by omega), key 13 1 (by omega), key 0 4 (by omega), key 119 0 (by omega), key 119 1 (by omega)]
  exact h
/-- the whole first row of the House stays, too -/
def Fs (v u : Nat → Nat → Int32) : Prop := (∀ j, u 13 j = v 13 j) ∧ Fr v u
theorem Fs.rf {v : Nat → Nat → Int32} : Fs v v := ⟨fun _ => rfl, Fr.rf⟩
theorem Fs.trans {v u w : Nat → Nat → Int32} (h : Fs v u) (g : Fs u w) : Fs v w := ⟨fun j => (g.1 j).trans (h.1 j), h.2.trans g.2⟩
theorem Fs.put {v u : Nat → Nat → Int32} {k j : Nat} {x : Int32} (h : Fs v u) (h1 : k ≠ 13) (h2 : k ≠ 0) (h3 : k ≠ 119) : Fs v (upr u k (upd (u k) j x)) := ⟨fun j => by rw [upr_n (Ne.symm h1)]; exact h.1 j, h.2.put h1 h2 h3⟩
/-- nothing has changed -/
def Fe (v u : Nat → Nat → Int32) : Prop := u = v
theorem Fe.rf {v : Nat → Nat → Int32} : Fe v v := rfl
theorem Fe.trans {v u w : Nat → Nat → Int32} (h : Fe v u) (g : Fe u w) : Fe v w := Eq.trans g h
theorem Fe.to {P : (Nat → Nat → Int32) → Prop} {v u : Nat → Nat → Int32} (h : Fe v u) (g : P v) : P u := by
  unfold Fe at h
  rw [h]
  exact g
section YA
variable {p : Program} {l : Launch} {e : Env} {R : Room} {s : State} {m : MethodId} {args : Array Value} {below : List Frame} {meth : Method} {c : Code} {H : Heap} {locs : List Loc} {cells slots : Nat} {Q : State → Prop}
variable {cc : ByteArray} {pc : Nat} {ls : Array Slot} {rest : List Value} {D : va_G} {cl : List vw_C} {cy : Nat → ClassId} {ws : va_W} {a : Nat}
/-- a row of an int[][] -/
theorem ya_ald (hexec : p.tables.exec = Jvm.exec) (hb : c.code = cc) (hK : va_K D cl (ty_L cy) s) (hP : va_P D cl ws H) (q0 : Nat) {n : Nat} {f : Nat → Option Nat} (ha : ws[q0]? = some (a, .inl (cy 5, n, .inr (.inr (.inr (.inr f)))))) {i : Int32} (hin : vp_in i n) (hdg : decode cc pc = .ok (.aaload, 1))
    (kk : W p l e R s m args below meth c H locs cells slots Q (F0 m (pc + 1) ls (va_rf (f i.toNatClampNeg) :: rest))) : W p l e R s m args below meth c H locs cells slots Q (F0 m pc ls (.int i :: .ref a :: rest)) := by
  have hlt : i.toNatClampNeg < n := Nat.not_le.mp fun q => hin (Or.inr q)
  exact W.aald (v := va_rf (f i.toNatClampNeg)) (ty := .array .int) hexec hb (hP q0 _ ha) ((hK.2 5 _ rfl).1 n (fun j => va_rf (f j))) rfl (fun q => by cases q) (by show ¬ (i < 0 ∨ (arrV _ _ _).slots.size ≤ _); rw [arrV_size]; exact hin) (by show (arrV _ _ _).slots[_]? = _; rw [arrV_read _ _ hlt]) rfl rfl hdg kk
end YA
/-- calls that take the whole world -/
theorem yw_F {A : Nat → Prop} {ws : va_W} {H0 H : Heap} {locs : List Loc} (hD : va_D A ws) (hS : va_S A H0 H locs) (hA : ∀ q, H0.size ≤ q → A q) : ∀ q, va_A ws H.size q → A q := fun q h => h.elim (fun ⟨k, e, hk⟩ => hD.2 k (q, e) hk) (fun h => hA q (Nat.le_trans hS.1 h))
theorem yw_preS {s : State} {H : Heap} {dC : Nat → ClassId} {dI : Nat → Nat → Nat} {cy : Nat → ClassId} {A : Nat → Prop} {ws : va_W} {As : List Value} (hE : ex_K s) (hK : va_K (dC, dI) vwCl (ty_L cy) s) (hP : va_P (dC, dI) vwCl ws H) (hD : va_D A ws) : PreS s H (va_Pc As (ex_Pre dC dI cy H.size ws)) As :=
  ⟨ex_blind, fun U hU hW => ⟨rfl, by rw [hU], hE.warm hW, by rw [hU]; exact hP, va_K.moved hW.alike hK, hD.weaken (fun _ _ _ _ => trivial)⟩⟩
theorem yw_preV {s : State} {H : Heap} {dC : Nat → ClassId} {dI : Nat → Nat → Nat} {cy : Nat → ClassId} {A : Nat → Prop} {ws : va_W} {As : List Value} {b q0 ci : Nat} {q : vw_C} {fs : List Value} (hE : ex_K s) (hK : va_K (dC, dI) vwCl (ty_L cy) s) (hP : va_P (dC, dI) vwCl ws H) (hD : va_D A ws) (hc : vwCl[ci]? = some q) (he : ws[q0]? = some (b, .inr (ci, fs))) : PreV s H q.1 b (va_Pc (.ref b :: As) (ex_Pre dC dI cy H.size ws)) As :=
  ⟨ex_blind, va_recv hK hP hc he, (yw_preS (As := .ref b :: As) hE hK hP hD).2⟩
section YW
variable {p : Program} {l : Launch} {e : Env} {R : Room} {s : State} {m : MethodId} {args : Array Value} {below : List Frame} {meth : Method} {c : Code} {H : Heap} {locs : List Loc} {cells slots : Nat} {Q : State → Prop}
variable {pc : Nat} {ls : Array Slot} {rest st0 : List Value} {a : Array Value} {A : Nat → Prop} {H0 : Heap} {mc ms : Nat} {dC : Nat → ClassId} {dI : Nat → Nat → Nat} {ws : va_W}
theorem yw_i {S : Type} {post : Int32 → S → Prop} {w1 : S → va_W} (hD : va_D A ws) (hS : va_S A H0 H locs) (hA : ∀ q, H0.size ≤ q → A q)
    (hr : va_Run p l e R s m args below meth c H locs cells slots mc ms (F0 m pc ls st0) rest (va_Qi post (fun u t => ex_Pst dC dI (va_A ws H.size) (w1 u) t) (va_A ws H.size) a) (va_A ws H.size))
    (kk : ∀ (r : Int32) (u : S) (H1 : Heap) (locs1 : List Loc), post r u → va_P (dC, dI) vwCl (w1 u) H1 → va_D A (w1 u) → va_S A H0 H1 locs1 → W p l e R s m args below meth c H1 locs1 (cells + mc) (slots + ms) Q (F0 m (pc + 3) ls (.int r :: rest))) : W p l e R s m args below meth c H locs cells slots Q (F0 m pc ls st0) := by
  have hF := yw_F hD hS hA
  refine va_calli hr hS (fun q _ h => hF q h) hF (fun r u t H1 locs1 ht hvm hw hB hz1 hk1 hS1 => ?_)
  obtain ⟨hP1, hD1⟩ := hB
  rw [ht] at hP1
  exact kk r u H1 locs1 hw hP1 (hD1.weaken (fun k q _ h => hF q.1 h)) hS1
theorem yw_v {S : Type} {post : S → Prop} {w1 : S → va_W} (hD : va_D A ws) (hS : va_S A H0 H locs) (hA : ∀ q, H0.size ≤ q → A q)
    (hr : va_Run p l e R s m args below meth c H locs cells slots mc ms (F0 m pc ls st0) rest (va_Qv post (fun u t => ex_Pst dC dI (va_A ws H.size) (w1 u) t) (va_A ws H.size) a) (va_A ws H.size))
    (kk : ∀ (u : S) (H1 : Heap) (locs1 : List Loc), post u → va_P (dC, dI) vwCl (w1 u) H1 → va_D A (w1 u) → va_S A H0 H1 locs1 → W p l e R s m args below meth c H1 locs1 (cells + mc) (slots + ms) Q (F0 m (pc + 3) ls rest)) : W p l e R s m args below meth c H locs cells slots Q (F0 m pc ls st0) := by
  have hF := yw_F hD hS hA
  refine va_callv hr hS (fun q _ h => hF q h) hF (fun u t H1 locs1 ht hvm hw hB hz1 hk1 hS1 => ?_)
  obtain ⟨hP1, hD1⟩ := hB
  rw [ht] at hP1
  exact kk u H1 locs1 hw hP1 (hD1.weaken (fun k q _ h => hF q.1 h)) hS1
end YW
/-- all that a House holds, the rooms and the field kept stay: only the rows of Planner and Table may change -/
def Fz (v u : Nat → Nat → Int32) : Prop := u 0 = v 0 ∧ ∀ k : Nat, 13 ≤ k → u k = v k
theorem Fz.rf {v : Nat → Nat → Int32} : Fz v v := ⟨rfl, fun _ _ => rfl⟩
theorem Fz.trans {v u w : Nat → Nat → Int32} (h : Fz v u) (g : Fz u w) : Fz v w := ⟨g.1.trans h.1, fun k hk => (g.2 k hk).trans (h.2 k hk)⟩
theorem Fz.row {v u : Nat → Nat → Int32} {k : Nat} {r : Nat → Int32} (h : Fz v u) (h1 : k < 13) (h2 : k ≠ 0) (_h3 : k < 13) : Fz v (upr u k r) := ⟨by rw [upr_n (Ne.symm h2)]; exact h.1, fun a ha => by rw [upr_n (by omega)]; exact h.2 a ha⟩
theorem Fz.put {v u : Nat → Nat → Int32} {k j : Nat} {x : Int32} (h : Fz v u) (h1 : k < 13) (h2 : k ≠ 0) (h3 : k < 13) : Fz v (upr u k (upd (u k) j x)) := h.row h1 h2 h3
set_option maxRecDepth 20000 in
theorem db_X7_isWithin_0 : (decode cX7_isWithin 0 = .ok (.iload_n 0, 1)) ∧ (decode cX7_isWithin 1 = .ok (.iload_n 1, 1)) ∧ (decode cX7_isWithin 2 = .ok (.if_icmp .lt 12, 3)) ∧ (decode cX7_isWithin 14 = .ok (.iconst 0, 1)) ∧ (decode cX7_isWithin 15 = .ok (.ireturn, 1)) ∧ (decode cX7_isWithin 5 = .ok (.iload_n 0, 1)) ∧ (decode cX7_isWithin 6 = .ok (.iload_n 2, 1)) ∧ (decode cX7_isWithin 7 = .ok (.if_icmp .gt 7, 3)) := by decide +kernel
theorem dX7_isWithin_0 : decode cX7_isWithin 0 = .ok (.iload_n 0, 1) := db_X7_isWithin_0.1
theorem dX7_isWithin_1 : decode cX7_isWithin 1 = .ok (.iload_n 1, 1) := db_X7_isWithin_0.2.1
theorem dX7_isWithin_2 : decode cX7_isWithin 2 = .ok (.if_icmp .lt 12, 3) := db_X7_isWithin_0.2.2.1
theorem dX7_isWithin_14 : decode cX7_isWithin 14 = .ok (.iconst 0, 1) := db_X7_isWithin_0.2.2.2.1
theorem dX7_isWithin_15 : decode cX7_isWithin 15 = .ok (.ireturn, 1) := db_X7_isWithin_0.2.2.2.2.1
theorem dX7_isWithin_5 : decode cX7_isWithin 5 = .ok (.iload_n 0, 1) := db_X7_isWithin_0.2.2.2.2.2.1
theorem dX7_isWithin_6 : decode cX7_isWithin 6 = .ok (.iload_n 2, 1) := db_X7_isWithin_0.2.2.2.2.2.2.1
theorem dX7_isWithin_7 : decode cX7_isWithin 7 = .ok (.if_icmp .gt 7, 3) := db_X7_isWithin_0.2.2.2.2.2.2.2
set_option maxRecDepth 20000 in
theorem db_X7_isWithin_10 : (decode cX7_isWithin 10 = .ok (.iconst 1, 1)) ∧ (decode cX7_isWithin 11 = .ok (.goto 4, 3)) := by decide +kernel
theorem dX7_isWithin_10 : decode cX7_isWithin 10 = .ok (.iconst 1, 1) := db_X7_isWithin_10.1
theorem dX7_isWithin_11 : decode cX7_isWithin 11 = .ok (.goto 4, 3) := db_X7_isWithin_10.2
set_option maxRecDepth 20000 in
theorem db_X8_in_0 : (decode cX8_in 0 = .ok (.iload_n 0, 1)) ∧ (decode cX8_in 1 = .ok (.iload_n 1, 1)) ∧ (decode cX8_in 2 = .ok (.if_icmp .lt 12, 3)) ∧ (decode cX8_in 14 = .ok (.iconst 0, 1)) ∧ (decode cX8_in 15 = .ok (.ireturn, 1)) ∧ (decode cX8_in 5 = .ok (.iload_n 0, 1)) ∧ (decode cX8_in 6 = .ok (.iload_n 2, 1)) ∧ (decode cX8_in 7 = .ok (.if_icmp .gt 7, 3)) := by decide +kernel
theorem dX8_in_0 : decode cX8_in 0 = .ok (.iload_n 0, 1) := db_X8_in_0.1
theorem dX8_in_1 : decode cX8_in 1 = .ok (.iload_n 1, 1) := db_X8_in_0.2.1
theorem dX8_in_2 : decode cX8_in 2 = .ok (.if_icmp .lt 12, 3) := db_X8_in_0.2.2.1
theorem dX8_in_14 : decode cX8_in 14 = .ok (.iconst 0, 1) := db_X8_in_0.2.2.2.1
theorem dX8_in_15 : decode cX8_in 15 = .ok (.ireturn, 1) := db_X8_in_0.2.2.2.2.1
theorem dX8_in_5 : decode cX8_in 5 = .ok (.iload_n 0, 1) := db_X8_in_0.2.2.2.2.2.1
theorem dX8_in_6 : decode cX8_in 6 = .ok (.iload_n 2, 1) := db_X8_in_0.2.2.2.2.2.2.1
theorem dX8_in_7 : decode cX8_in 7 = .ok (.if_icmp .gt 7, 3) := db_X8_in_0.2.2.2.2.2.2.2
set_option maxRecDepth 20000 in
theorem db_X8_in_10 : (decode cX8_in 10 = .ok (.iconst 1, 1)) ∧ (decode cX8_in 11 = .ok (.goto 4, 3)) := by decide +kernel
theorem dX8_in_10 : decode cX8_in 10 = .ok (.iconst 1, 1) := db_X8_in_10.1
theorem dX8_in_11 : decode cX8_in 11 = .ok (.goto 4, 3) := db_X8_in_10.2
theorem wi_ca {r x a b : Int32} (h : r = if a ≤ x ∧ x ≤ b then 1 else 0) : (r = 1 ∧ (a ≤ x ∧ x ≤ b)) ∨ (r = 0 ∧ ¬ (a ≤ x ∧ x ≤ b)) := by
  by_cases q : a ≤ x ∧ x ≤ b
  · rw [if_pos q] at h
    exact Or.inl ⟨h, q⟩
  · rw [if_neg q] at h
    exact Or.inr ⟨h, q⟩
theorem wi_tl {x a b : Int32} (h : a ≤ x ∧ x ≤ b) : a.toInt ≤ x.toInt ∧ x.toInt ≤ b.toInt := ⟨Int32.le_iff_toInt_le.mp h.1, Int32.le_iff_toInt_le.mp h.2⟩

theorem sw_5 (x : Int32) : (x.toInt < 0 ∨ 4 < x.toInt) ∨ x = 0 ∨ x = 1 ∨ x = 2 ∨ x = 3 ∨ x = 4 := by
  by_cases h : x.toInt < 0 ∨ 4 < x.toInt
  · exact Or.inl h
  · have q : x.toInt = 0 ∨ x.toInt = 1 ∨ x.toInt = 2 ∨ x.toInt = 3 ∨ x.toInt = 4 := by omega
    refine Or.inr ?_
    rcases q with q | q | q | q | q
    · exact Or.inl (Int32.toInt_inj.mp (q.trans (by decide)))
    · exact Or.inr (Or.inl (Int32.toInt_inj.mp (q.trans (by decide))))
    · exact Or.inr (Or.inr (Or.inl (Int32.toInt_inj.mp (q.trans (by decide)))))
    · exact Or.inr (Or.inr (Or.inr (Or.inl (Int32.toInt_inj.mp (q.trans (by decide))))))
    · exact Or.inr (Or.inr (Or.inr (Or.inr ((Int32.toInt_inj.mp (q.trans (by decide)))))))

theorem sw_6 (x : Int32) : (x.toInt < 0 ∨ 5 < x.toInt) ∨ x = 0 ∨ x = 1 ∨ x = 2 ∨ x = 3 ∨ x = 4 ∨ x = 5 := by
  by_cases h : x.toInt < 0 ∨ 5 < x.toInt
  · exact Or.inl h
  · have q : x.toInt = 0 ∨ x.toInt = 1 ∨ x.toInt = 2 ∨ x.toInt = 3 ∨ x.toInt = 4 ∨ x.toInt = 5 := by omega
    refine Or.inr ?_
    rcases q with q | q | q | q | q | q
    · exact Or.inl (Int32.toInt_inj.mp (q.trans (by decide)))
    · exact Or.inr (Or.inl (Int32.toInt_inj.mp (q.trans (by decide))))
    · exact Or.inr (Or.inr (Or.inl (Int32.toInt_inj.mp (q.trans (by decide)))))
    · exact Or.inr (Or.inr (Or.inr (Or.inl (Int32.toInt_inj.mp (q.trans (by decide))))))
    · exact Or.inr (Or.inr (Or.inr (Or.inr (Or.inl (Int32.toInt_inj.mp (q.trans (by decide)))))))
    · exact Or.inr (Or.inr (Or.inr (Or.inr (Or.inr ((Int32.toInt_inj.mp (q.trans (by decide))))))))

theorem sw_8 (x : Int32) : (x.toInt < 0 ∨ 7 < x.toInt) ∨ x = 0 ∨ x = 1 ∨ x = 2 ∨ x = 3 ∨ x = 4 ∨ x = 5 ∨ x = 6 ∨ x = 7 := by
  by_cases h : x.toInt < 0 ∨ 7 < x.toInt
  · exact Or.inl h
  · have q : x.toInt = 0 ∨ x.toInt = 1 ∨ x.toInt = 2 ∨ x.toInt = 3 ∨ x.toInt = 4 ∨ x.toInt = 5 ∨ x.toInt = 6 ∨ x.toInt = 7 := by omega
    refine Or.inr ?_
    rcases q with q | q | q | q | q | q | q | q
    · exact Or.inl (Int32.toInt_inj.mp (q.trans (by decide)))
    · exact Or.inr (Or.inl (Int32.toInt_inj.mp (q.trans (by decide))))
    · exact Or.inr (Or.inr (Or.inl (Int32.toInt_inj.mp (q.trans (by decide)))))
    · exact Or.inr (Or.inr (Or.inr (Or.inl (Int32.toInt_inj.mp (q.trans (by decide))))))
    · exact Or.inr (Or.inr (Or.inr (Or.inr (Or.inl (Int32.toInt_inj.mp (q.trans (by decide)))))))
    · exact Or.inr (Or.inr (Or.inr (Or.inr (Or.inr (Or.inl (Int32.toInt_inj.mp (q.trans (by decide))))))))
    · exact Or.inr (Or.inr (Or.inr (Or.inr (Or.inr (Or.inr (Or.inl (Int32.toInt_inj.mp (q.trans (by decide)))))))))
    · exact Or.inr (Or.inr (Or.inr (Or.inr (Or.inr (Or.inr (Or.inr ((Int32.toInt_inj.mp (q.trans (by decide))))))))))

theorem sw_11 (x : Int32) : (x.toInt < 0 ∨ 10 < x.toInt) ∨ x = 0 ∨ x = 1 ∨ x = 2 ∨ x = 3 ∨ x = 4 ∨ x = 5 ∨ x = 6 ∨ x = 7 ∨ x = 8 ∨ x = 9 ∨ x = 10 := by
  by_cases h : x.toInt < 0 ∨ 10 < x.toInt
  · exact Or.inl h
  · have q : x.toInt = 0 ∨ x.toInt = 1 ∨ x.toInt = 2 ∨ x.toInt = 3 ∨ x.toInt = 4 ∨ x.toInt = 5 ∨ x.toInt = 6 ∨ x.toInt = 7 ∨ x.toInt = 8 ∨ x.toInt = 9 ∨ x.toInt = 10 := by omega
    refine Or.inr ?_
    rcases q with q | q | q | q | q | q | q | q | q | q | q
    · exact Or.inl (Int32.toInt_inj.mp (q.trans (by decide)))
    · exact Or.inr (Or.inl (Int32.toInt_inj.mp (q.trans (by decide))))
    · exact Or.inr (Or.inr (Or.inl (Int32.toInt_inj.mp (q.trans (by decide)))))
    · exact Or.inr (Or.inr (Or.inr (Or.inl (Int32.toInt_inj.mp (q.trans (by decide))))))
    · exact Or.inr (Or.inr (Or.inr (Or.inr (Or.inl (Int32.toInt_inj.mp (q.trans (by decide)))))))
    · exact Or.inr (Or.inr (Or.inr (Or.inr (Or.inr (Or.inl (Int32.toInt_inj.mp (q.trans (by decide))))))))
    · exact Or.inr (Or.inr (Or.inr (Or.inr (Or.inr (Or.inr (Or.inl (Int32.toInt_inj.mp (q.trans (by decide)))))))))
    · exact Or.inr (Or.inr (Or.inr (Or.inr (Or.inr (Or.inr (Or.inr (Or.inl (Int32.toInt_inj.mp (q.trans (by decide))))))))))
    · exact Or.inr (Or.inr (Or.inr (Or.inr (Or.inr (Or.inr (Or.inr (Or.inr (Or.inl (Int32.toInt_inj.mp (q.trans (by decide)))))))))))
    · exact Or.inr (Or.inr (Or.inr (Or.inr (Or.inr (Or.inr (Or.inr (Or.inr (Or.inr (Or.inl (Int32.toInt_inj.mp (q.trans (by decide))))))))))))
    · exact Or.inr (Or.inr (Or.inr (Or.inr (Or.inr (Or.inr (Or.inr (Or.inr (Or.inr (Or.inr ((Int32.toInt_inj.mp (q.trans (by decide)))))))))))))

theorem sw_26 (x : Int32) : (x.toInt < 0 ∨ 25 < x.toInt) ∨ x = 0 ∨ x = 1 ∨ x = 2 ∨ x = 3 ∨ x = 4 ∨ x = 5 ∨ x = 6 ∨ x = 7 ∨ x = 8 ∨ x = 9 ∨ x = 10 ∨ x = 11 ∨ x = 12 ∨ x = 13 ∨ x = 14 ∨ x = 15 ∨ x = 16 ∨ x = 17 ∨ x = 18 ∨ x = 19 ∨ x = 20 ∨ x = 21 ∨ x = 22 ∨ x = 23 ∨ x = 24 ∨ x = 25 := by
  by_cases h : x.toInt < 0 ∨ 25 < x.toInt
  · exact Or.inl h
  · have q : x.toInt = 0 ∨ x.toInt = 1 ∨ x.toInt = 2 ∨ x.toInt = 3 ∨ x.toInt = 4 ∨ x.toInt = 5 ∨ x.toInt = 6 ∨ x.toInt = 7 ∨ x.toInt = 8 ∨ x.toInt = 9 ∨ x.toInt = 10 ∨ x.toInt = 11 ∨ x.toInt = 12 ∨ x.toInt = 13 ∨ x.toInt = 14 ∨ x.toInt = 15 ∨ x.toInt = 16 ∨ x.toInt = 17 ∨ x.toInt = 18 ∨ x.toInt = 19 ∨ x.toInt = 20 ∨ x.toInt = 21 ∨ x.toInt = 22 ∨ x.toInt = 23 ∨ x.toInt = 24 ∨ x.toInt = 25 := by omega
    refine Or.inr ?_
    rcases q with q | q | q | q | q | q | q | q | q | q | q | q | q | q | q | q | q | q | q | q | q | q | q | q | q | q
    · exact Or.inl (Int32.toInt_inj.mp (q.trans (by decide)))
    · exact Or.inr (Or.inl (Int32.toInt_inj.mp (q.trans (by decide))))
    · exact Or.inr (Or.inr (Or.inl (Int32.toInt_inj.mp (q.trans (by decide)))))
    · exact Or.inr (Or.inr (Or.inr (Or.inl (Int32.toInt_inj.mp (q.trans (by decide))))))
    · exact Or.inr (Or.inr (Or.inr (Or.inr (Or.inl (Int32.toInt_inj.mp (q.trans (by decide)))))))
    · exact Or.inr (Or.inr (Or.inr (Or.inr (Or.inr (Or.inl (Int32.toInt_inj.mp (q.trans (by decide))))))))
    · exact Or.inr (Or.inr (Or.inr (Or.inr (Or.inr (Or.inr (Or.inl (Int32.toInt_inj.mp (q.trans (by decide)))))))))
    · exact Or.inr (Or.inr (Or.inr (Or.inr (Or.inr (Or.inr (Or.inr (Or.inl (Int32.toInt_inj.mp (q.trans (by decide))))))))))
    · exact Or.inr (Or.inr (Or.inr (Or.inr (Or.inr (Or.inr (Or.inr (Or.inr (Or.inl (Int32.toInt_inj.mp (q.trans (by decide)))))))))))
    · exact Or.inr (Or.inr (Or.inr (Or.inr (Or.inr (Or.inr (Or.inr (Or.inr (Or.inr (Or.inl (Int32.toInt_inj.mp (q.trans (by decide))))))))))))
    · exact Or.inr (Or.inr (Or.inr (Or.inr (Or.inr (Or.inr (Or.inr (Or.inr (Or.inr (Or.inr (Or.inl (Int32.toInt_inj.mp (q.trans (by decide)))))))))))))
    · exact Or.inr (Or.inr (Or.inr (Or.inr (Or.inr (Or.inr (Or.inr (Or.inr (Or.inr (Or.inr (Or.inr (Or.inl (Int32.toInt_inj.mp (q.trans (by decide))))))))))))))
    · exact Or.inr (Or.inr (Or.inr (Or.inr (Or.inr (Or.inr (Or.inr (Or.inr (Or.inr (Or.inr (Or.inr (Or.inr (Or.inl (Int32.toInt_inj.mp (q.trans (by decide)))))))))))))))
    · exact Or.inr (Or.inr (Or.inr (Or.inr (Or.inr (Or.inr (Or.inr (Or.inr (Or.inr (Or.inr (Or.inr (Or.inr (Or.inr (Or.inl (Int32.toInt_inj.mp (q.trans (by decide))))))))))))))))
    · exact Or.inr (Or.inr (Or.inr (Or.inr (Or.inr (Or.inr (Or.inr (Or.inr (Or.inr (Or.inr (Or.inr (Or.inr (Or.inr (Or.inr (Or.inl (Int32.toInt_inj.mp (q.trans (by decide)))))))))))))))))
    · exact Or.inr (Or.inr (Or.inr (Or.inr (Or.inr (Or.inr (Or.inr (Or.inr (Or.inr (Or.inr (Or.inr (Or.inr (Or.inr (Or.inr (Or.inr (Or.inl (Int32.toInt_inj.mp (q.trans (by decide))))))))))))))))))
    · exact Or.inr (Or.inr (Or.inr (Or.inr (Or.inr (Or.inr (Or.inr (Or.inr (Or.inr (Or.inr (Or.inr (Or.inr (Or.inr (Or.inr (Or.inr (Or.inr (Or.inl (Int32.toInt_inj.mp (q.trans (by decide)))))))))))))))))))
    · exact Or.inr (Or.inr (Or.inr (Or.inr (Or.inr (Or.inr (Or.inr (Or.inr (Or.inr (Or.inr (Or.inr (Or.inr (Or.inr (Or.inr (Or.inr (Or.inr (Or.inr (Or.inl (Int32.toInt_inj.mp (q.trans (by decide))))))))))))))))))))
    · exact Or.inr (Or.inr (Or.inr (Or.inr (Or.inr (Or.inr (Or.inr (Or.inr (Or.inr (Or.inr (Or.inr (Or.inr (Or.inr (Or.inr (Or.inr (Or.inr (Or.inr (Or.inr (Or.inl (Int32.toInt_inj.mp (q.trans (by decide)))))))))))))))))))))
    · exact Or.inr (Or.inr (Or.inr (Or.inr (Or.inr (Or.inr (Or.inr (Or.inr (Or.inr (Or.inr (Or.inr (Or.inr (Or.inr (Or.inr (Or.inr (Or.inr (Or.inr (Or.inr (Or.inr (Or.inl (Int32.toInt_inj.mp (q.trans (by decide))))))))))))))))))))))
    · exact Or.inr (Or.inr (Or.inr (Or.inr (Or.inr (Or.inr (Or.inr (Or.inr (Or.inr (Or.inr (Or.inr (Or.inr (Or.inr (Or.inr (Or.inr (Or.inr (Or.inr (Or.inr (Or.inr (Or.inr (Or.inl (Int32.toInt_inj.mp (q.trans (by decide)))))))))))))))))))))))
    · exact Or.inr (Or.inr (Or.inr (Or.inr (Or.inr (Or.inr (Or.inr (Or.inr (Or.inr (Or.inr (Or.inr (Or.inr (Or.inr (Or.inr (Or.inr (Or.inr (Or.inr (Or.inr (Or.inr (Or.inr (Or.inr (Or.inl (Int32.toInt_inj.mp (q.trans (by decide))))))))))))))))))))))))
    · exact Or.inr (Or.inr (Or.inr (Or.inr (Or.inr (Or.inr (Or.inr (Or.inr (Or.inr (Or.inr (Or.inr (Or.inr (Or.inr (Or.inr (Or.inr (Or.inr (Or.inr (Or.inr (Or.inr (Or.inr (Or.inr (Or.inr (Or.inl (Int32.toInt_inj.mp (q.trans (by decide)))))))))))))))))))))))))
    · exact Or.inr (Or.inr (Or.inr (Or.inr (Or.inr (Or.inr (Or.inr (Or.inr (Or.inr (Or.inr (Or.inr (Or.inr (Or.inr (Or.inr (Or.inr (Or.inr (Or.inr (Or.inr (Or.inr (Or.inr (Or.inr (Or.inr (Or.inr (Or.inl (Int32.toInt_inj.mp (q.trans (by decide))))))))))))))))))))))))))
    · exact Or.inr (Or.inr (Or.inr (Or.inr (Or.inr (Or.inr (Or.inr (Or.inr (Or.inr (Or.inr (Or.inr (Or.inr (Or.inr (Or.inr (Or.inr (Or.inr (Or.inr (Or.inr (Or.inr (Or.inr (Or.inr (Or.inr (Or.inr (Or.inr (Or.inl (Int32.toInt_inj.mp (q.trans (by decide)))))))))))))))))))))))))))
    · exact Or.inr (Or.inr (Or.inr (Or.inr (Or.inr (Or.inr (Or.inr (Or.inr (Or.inr (Or.inr (Or.inr (Or.inr (Or.inr (Or.inr (Or.inr (Or.inr (Or.inr (Or.inr (Or.inr (Or.inr (Or.inr (Or.inr (Or.inr (Or.inr (Or.inr ((Int32.toInt_inj.mp (q.trans (by decide))))))))))))))))))))))))))))

theorem t_shl {x : Int32} (h : 0 ≤ x.toInt ∧ x.toInt ≤ 5) : 1 ≤ ((1 : Int32) <<< (x &&& 31)).toInt ∧ ((1 : Int32) <<< (x &&& 31)).toInt ≤ 32 := by
  rcases sw_6 x with q | rfl | rfl | rfl | rfl | rfl | rfl
  · omega
  · decide
  · decide
  · decide
  · decide
  · decide
  · decide

set_option maxHeartbeats 4000000 in
set_option maxRecDepth 100000 in
theorem c_X7_isWithin (l : Launch) (x0 x1 x2 : Int32) : Met l yX7_isWithin wsX7_isWithin ({ frames := 0, cells := 0, slots := 0, locals := 0 }) (va_Pc [.int x0, .int x1, .int x2] (fun _ => True)) (va_Qi (fun (r : Int32) (_ : Unit) => r = if x1 ≤ x0 ∧ x0 ≤ x2 then 1 else 0) (fun _ _ => True) (fun _ => False)) 0 0 (fun _ => False) := by
  refine Met.ofW (cc := cX7_isWithin) (maxL := 3) (ret := (some .boolean)) (by decide) rfl ?_
  intro p e s m args below meth c s₁ B hml hv
  obtain ⟨rfl, -⟩ := hv
  have hx := B.exec
  have hb := B.bytes
  have hr := B.returns
  have hts := atoms_spec (ws := wsX7_isWithin) B.pre
  have hown : s.vm.findClass RX7 = some m.cls := findClass_of_methodNamed B.named
  have hlocks := B.notSynchronized
  have hl := lv_entry ([.int x0, .int x1, .int x2]) (n := 3) (Nat.le_of_ble_eq_true rfl)
  rw [lg_entry_eq]
  generalize (lg_sl ([.int x0, .int x1, .int x2]) ++ List.replicate (3 - (lg_sl ([.int x0, .int x1, .int x2])).length) Slot.unset).toArray = ls at hl ⊢
  have hl : lv_has ls 3 [(0, .int x0), (1, .int x1), (2, .int x2)] := hl
  have hS : va_S (fun _ => False) s.heap s.heap [] := va_S.rf
  refine lv_iload_n hx hb dX7_isWithin_0 rfl (lv_at hl 0 rfl) ?_
  refine lv_iload_n hx hb dX7_isWithin_1 rfl (lv_at hl 1 rfl) ?_
  refine lv_icmp_lt (tgt := 14) hx hb dX7_isWithin_2 (by decide) (fun c_1 => ?_) (fun c_1 => ?_)
  · refine lv_iconst (v := 0) hx hb dX7_isWithin_14 (by decide) ?_
    exact W.zret (ty := .boolean) (v := 0) hx hb hr rfl (fun t ht hW => ⟨⟨0, (), rfl, by rw [if_neg (fun q => Int32.lt_irrefl (Int32.lt_of_lt_of_le c_1 q.1))], trivial⟩, hS.F ht⟩) hS.2.2 dX7_isWithin_15
  · refine lv_iload_n hx hb dX7_isWithin_5 rfl (lv_at hl 0 rfl) ?_
    refine lv_iload_n hx hb dX7_isWithin_6 rfl (lv_at hl 2 rfl) ?_
    refine lv_icmp_gt (tgt := 14) hx hb dX7_isWithin_7 (by decide) (fun c_2 => ?_) (fun c_2 => ?_)
    · refine lv_iconst (v := 0) hx hb dX7_isWithin_14 (by decide) ?_
      exact W.zret (ty := .boolean) (v := 0) hx hb hr rfl (fun t ht hW => ⟨⟨0, (), rfl, by rw [if_neg (fun q => Int32.lt_irrefl (Int32.lt_of_lt_of_le c_2 q.2))], trivial⟩, hS.F ht⟩) hS.2.2 dX7_isWithin_15
    · refine lv_iconst (v := 1) hx hb dX7_isWithin_10 (by decide) ?_
      refine lv_goto (tgt := 15) hx hb dX7_isWithin_11 (by decide) ?_
      exact W.zret (ty := .boolean) (v := 1) hx hb hr rfl (fun t ht hW => ⟨⟨1, (), rfl, by rw [if_pos ⟨Int32.not_lt.mp c_1, Int32.not_lt.mp c_2⟩], trivial⟩, hS.F ht⟩) hS.2.2 dX7_isWithin_15

set_option maxHeartbeats 4000000 in
set_option maxRecDepth 100000 in
theorem c_X8_in (l : Launch) (x0 x1 x2 : Int32) : Met l yX8_in wsX8_in ({ frames := 0, cells := 0, slots := 0, locals := 0 }) (va_Pc [.int x0, .int x1, .int x2] (fun _ => True)) (va_Qi (fun (r : Int32) (_ : Unit) => r = if x1 ≤ x0 ∧ x0 ≤ x2 then 1 else 0) (fun _ _ => True) (fun _ => False)) 0 0 (fun _ => False) := by
  refine Met.ofW (cc := cX8_in) (maxL := 3) (ret := (some .boolean)) (by decide) rfl ?_
  intro p e s m args below meth c s₁ B hml hv
  obtain ⟨rfl, -⟩ := hv
  have hx := B.exec
  have hb := B.bytes
  have hr := B.returns
  have hts := atoms_spec (ws := wsX8_in) B.pre
  have hown : s.vm.findClass RX8 = some m.cls := findClass_of_methodNamed B.named
  have hlocks := B.notSynchronized
  have hl := lv_entry ([.int x0, .int x1, .int x2]) (n := 3) (Nat.le_of_ble_eq_true rfl)
  rw [lg_entry_eq]
  generalize (lg_sl ([.int x0, .int x1, .int x2]) ++ List.replicate (3 - (lg_sl ([.int x0, .int x1, .int x2])).length) Slot.unset).toArray = ls at hl ⊢
  have hl : lv_has ls 3 [(0, .int x0), (1, .int x1), (2, .int x2)] := hl
  have hS : va_S (fun _ => False) s.heap s.heap [] := va_S.rf
  refine lv_iload_n hx hb dX8_in_0 rfl (lv_at hl 0 rfl) ?_
  refine lv_iload_n hx hb dX8_in_1 rfl (lv_at hl 1 rfl) ?_
  refine lv_icmp_lt (tgt := 14) hx hb dX8_in_2 (by decide) (fun c_1 => ?_) (fun c_1 => ?_)
  · refine lv_iconst (v := 0) hx hb dX8_in_14 (by decide) ?_
    exact W.zret (ty := .boolean) (v := 0) hx hb hr rfl (fun t ht hW => ⟨⟨0, (), rfl, by rw [if_neg (fun q => Int32.lt_irrefl (Int32.lt_of_lt_of_le c_1 q.1))], trivial⟩, hS.F ht⟩) hS.2.2 dX8_in_15
  · refine lv_iload_n hx hb dX8_in_5 rfl (lv_at hl 0 rfl) ?_
    refine lv_iload_n hx hb dX8_in_6 rfl (lv_at hl 2 rfl) ?_
    refine lv_icmp_gt (tgt := 14) hx hb dX8_in_7 (by decide) (fun c_2 => ?_) (fun c_2 => ?_)
    · refine lv_iconst (v := 0) hx hb dX8_in_14 (by decide) ?_
      exact W.zret (ty := .boolean) (v := 0) hx hb hr rfl (fun t ht hW => ⟨⟨0, (), rfl, by rw [if_neg (fun q => Int32.lt_irrefl (Int32.lt_of_lt_of_le c_2 q.2))], trivial⟩, hS.F ht⟩) hS.2.2 dX8_in_15
    · refine lv_iconst (v := 1) hx hb dX8_in_10 (by decide) ?_
      refine lv_goto (tgt := 15) hx hb dX8_in_11 (by decide) ?_
      exact W.zret (ty := .boolean) (v := 1) hx hb hr rfl (fun t ht hW => ⟨⟨1, (), rfl, by rw [if_pos ⟨Int32.not_lt.mp c_1, Int32.not_lt.mp c_2⟩], trivial⟩, hS.F ht⟩) hS.2.2 dX8_in_15
set_option maxRecDepth 20000 in
theorem db_X7_isParty_0 : (decode cX7_isParty 0 = .ok (.iload_n 1, 1)) ∧ (decode cX7_isParty 1 = .ok (.iconst 0, 1)) ∧ (decode cX7_isParty 2 = .ok (.aload_n 0, 1)) ∧ (decode cX7_isParty 3 = .ok (.getfield 12, 3)) ∧ (decode cX7_isParty 6 = .ok (.getfield 41, 3)) ∧ (decode cX7_isParty 9 = .ok (.iconst 1, 1)) ∧ (decode cX7_isParty 10 = .ok (.isub, 1)) ∧ (decode cX7_isParty 11 = .ok (.invokestatic 37, 3)) := by decide +kernel
theorem dX7_isParty_0 : decode cX7_isParty 0 = .ok (.iload_n 1, 1) := db_X7_isParty_0.1
theorem dX7_isParty_1 : decode cX7_isParty 1 = .ok (.iconst 0, 1) := db_X7_isParty_0.2.1
theorem dX7_isParty_2 : decode cX7_isParty 2 = .ok (.aload_n 0, 1) := db_X7_isParty_0.2.2.1
theorem dX7_isParty_3 : decode cX7_isParty 3 = .ok (.getfield 12, 3) := db_X7_isParty_0.2.2.2.1
theorem dX7_isParty_6 : decode cX7_isParty 6 = .ok (.getfield 41, 3) := db_X7_isParty_0.2.2.2.2.1
theorem dX7_isParty_9 : decode cX7_isParty 9 = .ok (.iconst 1, 1) := db_X7_isParty_0.2.2.2.2.2.1
theorem dX7_isParty_10 : decode cX7_isParty 10 = .ok (.isub, 1) := db_X7_isParty_0.2.2.2.2.2.2.1
set_option maxRecDepth 20000 in
theorem ggX7_isParty_X7_isWithin : GoodIn wsX7_isParty wsX7_isWithin := goodIn_r _ [6] rfl (by decide +kernel)
set_option maxRecDepth 20000 in
theorem gX7_isParty_X7_isWithin : GoodIn wsX7_isParty (va_wsS RX7 37 yX7_isWithin wsX7_isWithin) := goodIn_app (goodIn_r _ [3, 4, 5] rfl (by decide +kernel)) ggX7_isParty_X7_isWithin
theorem dX7_isParty_11 : decode cX7_isParty 11 = .ok (.invokestatic 37, 3) := db_X7_isParty_0.2.2.2.2.2.2.2
theorem dX7_isParty_14 : decode cX7_isParty 14 = .ok (.ireturn, 1) := by decide +kernel
set_option maxRecDepth 20000 in
theorem db_X7_isMediator_0 : (decode cX7_isMediator 0 = .ok (.iload_n 1, 1)) ∧ (decode cX7_isMediator 1 = .ok (.iconst 0, 1)) ∧ (decode cX7_isMediator 2 = .ok (.aload_n 0, 1)) ∧ (decode cX7_isMediator 3 = .ok (.getfield 12, 3)) ∧ (decode cX7_isMediator 6 = .ok (.getfield 56, 3)) ∧ (decode cX7_isMediator 9 = .ok (.iconst 1, 1)) ∧ (decode cX7_isMediator 10 = .ok (.isub, 1)) ∧ (decode cX7_isMediator 11 = .ok (.invokestatic 37, 3)) := by decide +kernel
theorem dX7_isMediator_0 : decode cX7_isMediator 0 = .ok (.iload_n 1, 1) := db_X7_isMediator_0.1
theorem dX7_isMediator_1 : decode cX7_isMediator 1 = .ok (.iconst 0, 1) := db_X7_isMediator_0.2.1
theorem dX7_isMediator_2 : decode cX7_isMediator 2 = .ok (.aload_n 0, 1) := db_X7_isMediator_0.2.2.1
theorem dX7_isMediator_3 : decode cX7_isMediator 3 = .ok (.getfield 12, 3) := db_X7_isMediator_0.2.2.2.1
theorem dX7_isMediator_6 : decode cX7_isMediator 6 = .ok (.getfield 56, 3) := db_X7_isMediator_0.2.2.2.2.1
theorem dX7_isMediator_9 : decode cX7_isMediator 9 = .ok (.iconst 1, 1) := db_X7_isMediator_0.2.2.2.2.2.1
theorem dX7_isMediator_10 : decode cX7_isMediator 10 = .ok (.isub, 1) := db_X7_isMediator_0.2.2.2.2.2.2.1
set_option maxRecDepth 20000 in
theorem ggX7_isMediator_X7_isWithin : GoodIn wsX7_isMediator wsX7_isWithin := goodIn_r _ [6] rfl (by decide +kernel)
set_option maxRecDepth 20000 in
theorem gX7_isMediator_X7_isWithin : GoodIn wsX7_isMediator (va_wsS RX7 37 yX7_isWithin wsX7_isWithin) := goodIn_app (goodIn_r _ [3, 4, 5] rfl (by decide +kernel)) ggX7_isMediator_X7_isWithin
theorem dX7_isMediator_11 : decode cX7_isMediator 11 = .ok (.invokestatic 37, 3) := db_X7_isMediator_0.2.2.2.2.2.2.2
theorem dX7_isMediator_14 : decode cX7_isMediator 14 = .ok (.ireturn, 1) := by decide +kernel
set_option maxRecDepth 20000 in
theorem db_X7_isCase_0 : (decode cX7_isCase 0 = .ok (.iload_n 1, 1)) ∧ (decode cX7_isCase 1 = .ok (.iconst 0, 1)) ∧ (decode cX7_isCase 2 = .ok (.aload_n 0, 1)) ∧ (decode cX7_isCase 3 = .ok (.getfield 12, 3)) ∧ (decode cX7_isCase 6 = .ok (.getfield 83, 3)) ∧ (decode cX7_isCase 9 = .ok (.iconst 1, 1)) ∧ (decode cX7_isCase 10 = .ok (.isub, 1)) ∧ (decode cX7_isCase 11 = .ok (.invokestatic 37, 3)) := by decide +kernel
theorem dX7_isCase_0 : decode cX7_isCase 0 = .ok (.iload_n 1, 1) := db_X7_isCase_0.1
theorem dX7_isCase_1 : decode cX7_isCase 1 = .ok (.iconst 0, 1) := db_X7_isCase_0.2.1
theorem dX7_isCase_2 : decode cX7_isCase 2 = .ok (.aload_n 0, 1) := db_X7_isCase_0.2.2.1
theorem dX7_isCase_3 : decode cX7_isCase 3 = .ok (.getfield 12, 3) := db_X7_isCase_0.2.2.2.1
theorem dX7_isCase_6 : decode cX7_isCase 6 = .ok (.getfield 83, 3) := db_X7_isCase_0.2.2.2.2.1
theorem dX7_isCase_9 : decode cX7_isCase 9 = .ok (.iconst 1, 1) := db_X7_isCase_0.2.2.2.2.2.1
theorem dX7_isCase_10 : decode cX7_isCase 10 = .ok (.isub, 1) := db_X7_isCase_0.2.2.2.2.2.2.1
set_option maxRecDepth 20000 in
theorem ggX7_isCase_X7_isWithin : GoodIn wsX7_isCase wsX7_isWithin := goodIn_r _ [6] rfl (by decide +kernel)
set_option maxRecDepth 20000 in
theorem gX7_isCase_X7_isWithin : GoodIn wsX7_isCase (va_wsS RX7 37 yX7_isWithin wsX7_isWithin) := goodIn_app (goodIn_r _ [3, 4, 5] rfl (by decide +kernel)) ggX7_isCase_X7_isWithin
theorem dX7_isCase_11 : decode cX7_isCase 11 = .ok (.invokestatic 37, 3) := db_X7_isCase_0.2.2.2.2.2.2.2
theorem dX7_isCase_14 : decode cX7_isCase 14 = .ok (.ireturn, 1) := by decide +kernel
set_option maxHeartbeats 4000000 in
set_option maxRecDepth 100000 in
theorem g_X7_isParty (l : Launch) (dC : Nat → ClassId) (dI : Nat → Nat → Nat) (cy : Nat → ClassId) (sz : Nat) (ad : Nat → Nat) (kv : Value) (N : Nat) (hN : 119 ≤ N) (v : Nat → Nat → Int32) (hv : Iv v) (x : Int32) : Met l yX7_isParty wsX7_isParty ({ frames := 1, cells := 0, slots := 0, locals := 64 }) (va_Pc [.ref (ad 0), .int x] (ex_Pre dC dI cy sz (wl ad kv cy N v))) (va_Qi (fun (r : Int32) (u : Nat → Nat → Int32) => Iv u ∧ u = v ∧ ((r = 1 ∧ 0 ≤ x.toInt ∧ x.toInt < (u 13 0).toInt) ∨ (r = 0 ∧ ¬ (0 ≤ x.toInt ∧ x.toInt < (u 13 0).toInt)))) (fun u t => ex_Pst dC dI (va_A (wl ad kv cy N v) sz) (wl ad kv cy N u) t) (va_A (wl ad kv cy N v) sz)) 0 0 (va_A (wl ad kv cy N v) sz) := by
  refine Met.ofW (cc := cX7_isParty) (maxL := 2) (ret := (some .boolean)) (by decide) rfl ?_
  intro p e s m args below meth c s₁ B hml hv
  obtain ⟨rfl, hsz, hE, hP, hK, hD0⟩ := hv
  have hx := B.exec
  have hb := B.bytes
  have hr := B.returns
  have hts := atoms_spec (ws := wsX7_isParty) B.pre
  have hown : s.vm.findClass RX7 = some m.cls := findClass_of_methodNamed B.named
  have hlocks := B.notSynchronized
  subst hsz
  have hD := hD0.self (sz := s.heap.size)
  generalize hAe : va_A (wl ad kv cy N v) s.heap.size = A at hD ⊢
  have hA : ∀ q : Nat, s.heap.size ≤ q → A q := fun q h => by rw [← hAe]; exact Or.inr h
  have hS : va_S A s.heap s.heap [] := va_S.rf
  have hP : va_P (dC, dI) vwCl (wl ad kv cy N v) s.heap := hP
  have hl := lv_entry ([.ref (ad 0), .int x]) (n := 2) (Nat.le_of_ble_eq_true rfl)
  rw [lg_entry_eq]
  generalize (lg_sl ([.ref (ad 0), .int x]) ++ List.replicate (2 - (lg_sl ([.ref (ad 0), .int x])).length) Slot.unset).toArray = ls at hl ⊢
  have hl : lv_has ls 2 [(0, .ref (ad 0)), (1, .int x)] := hl
  have hfr : Fz v v := Fz.rf
  refine lv_iload_n hx hb dX7_isParty_0 rfl (lv_at hl 1 rfl) ?_
  refine lv_iconst (v := 0) hx hb dX7_isParty_1 (by decide) ?_
  refine lv_aload_n hx hb dX7_isParty_2 rfl (lv_at hl 0 rfl) ?_
  refine va_get (D := (dC, dI)) (ci := 7) (v := .ref (ad 13)) (C := RX7) (T := TX7) (N := 5) hx hb hts iwX7_isParty_X7 hown hK hP (0) (wl_at (by omega) (ce_0 (by decide))) rfl 0 (by decide) (hts (.fieldLink RX7 12 "QuietStairs" "now" "LQuietStairs$House;") fwX7_isParty_1) (fun _ h9 => h9) rfl dX7_isParty_3 ?_
  refine va_get (D := (dC, dI)) (ci := 1) (v := .int (v (13) 0)) (C := RX1) (T := TX1) (N := 7) hx hb hts iwX7_isParty_X1 hown hK hP (13) (wl_at (by omega) (ce_3 (by decide))) rfl 0 (by decide) (hts (.fieldLink RX7 41 "QuietStairs$House" "partyCount" "I") fwX7_isParty_2) (fun _ h9 => h9) rfl dX7_isParty_6 ?_
  refine lv_topi (fun x_1 ex_1 => ?_)
  have bx_1 : 0 ≤ x_1.toInt ∧ x_1.toInt ≤ 8 := by rw [ex_1]; exact hv.at (K := 3) (by decide) rfl
  refine lv_iconst (v := 1) hx hb dX7_isParty_9 (by decide) ?_
  have k_1 : (1 : Int32).toInt = 1 := by decide
  refine lv_isub hx hb dX7_isParty_10 ?_
  refine lv_topi (fun x_2 ex_2 => ?_)
  have tx_2 : x_2.toInt = x_1.toInt - (1 : Int32).toInt := by rw [ex_2]; exact t_sub ⟨by omega, by omega⟩
  refine yc_p hP hS (va_runS (As := [.int x, .int 0, .int x_2]) (rest := []) ⟨hx, hb, hml, hown, hts⟩ (c_X7_isWithin l x 0 x_2) (cwS 3 hts gX7_isParty_X7_isWithin rfl rfl rfl hd_S_X7_isWithin_3 ⟨Nat.le_of_ble_eq_true rfl, Nat.le_of_ble_eq_true rfl⟩) ex_preP rfl rfl hl.1 rfl (lv_room (Nat.le_of_ble_eq_true rfl)) dX7_isParty_11 ⟨Nat.le_of_ble_eq_true rfl, Nat.le_of_ble_eq_true rfl⟩) (fun r_3 H locs hw_3 hP hS => ?_)
  rcases wi_ca hw_3 with ⟨rfl, hc_4⟩ | ⟨rfl, hc_4⟩
  · have k_0 : (0 : Int32).toInt = 0 := by decide
    have tc_4 := wi_tl hc_4
    exact W.zret (ty := .boolean) (v := 1) hx hb hr rfl (fun t ht hW => ⟨⟨1, v, rfl, ⟨hv, rfl, Or.inl ⟨rfl, by omega, by rw [← ex_1]; omega⟩⟩, by rw [ht]; exact hP, hD⟩, hS.F ht⟩) hS.2.2 dX7_isParty_14
  · have k_0 : (0 : Int32).toInt = 0 := by decide
    exact W.zret (ty := .boolean) (v := 0) hx hb hr rfl (fun t ht hW => ⟨⟨0, v, rfl, ⟨hv, rfl, Or.inr ⟨rfl, fun q => hc_4 ⟨Int32.le_iff_toInt_le.mpr (by omega), Int32.le_iff_toInt_le.mpr (by rw [← ex_1] at q; omega)⟩⟩⟩, by rw [ht]; exact hP, hD⟩, hS.F ht⟩) hS.2.2 dX7_isParty_14

set_option maxHeartbeats 4000000 in
set_option maxRecDepth 100000 in
theorem g_X7_isMediator (l : Launch) (dC : Nat → ClassId) (dI : Nat → Nat → Nat) (cy : Nat → ClassId) (sz : Nat) (ad : Nat → Nat) (kv : Value) (N : Nat) (hN : 119 ≤ N) (v : Nat → Nat → Int32) (hv : Iv v) (x : Int32) : Met l yX7_isMediator wsX7_isMediator ({ frames := 1, cells := 0, slots := 0, locals := 64 }) (va_Pc [.ref (ad 0), .int x] (ex_Pre dC dI cy sz (wl ad kv cy N v))) (va_Qi (fun (r : Int32) (u : Nat → Nat → Int32) => Iv u ∧ u = v ∧ ((r = 1 ∧ 0 ≤ x.toInt ∧ x.toInt < (u 13 1).toInt) ∨ (r = 0 ∧ ¬ (0 ≤ x.toInt ∧ x.toInt < (u 13 1).toInt)))) (fun u t => ex_Pst dC dI (va_A (wl ad kv cy N v) sz) (wl ad kv cy N u) t) (va_A (wl ad kv cy N v) sz)) 0 0 (va_A (wl ad kv cy N v) sz) := by
  refine Met.ofW (cc := cX7_isMediator) (maxL := 2) (ret := (some .boolean)) (by decide) rfl ?_
  intro p e s m args below meth c s₁ B hml hv
  obtain ⟨rfl, hsz, hE, hP, hK, hD0⟩ := hv
  have hx := B.exec
  have hb := B.bytes
  have hr := B.returns
  have hts := atoms_spec (ws := wsX7_isMediator) B.pre
  have hown : s.vm.findClass RX7 = some m.cls := findClass_of_methodNamed B.named
  have hlocks := B.notSynchronized
  subst hsz
  have hD := hD0.self (sz := s.heap.size)
  generalize hAe : va_A (wl ad kv cy N v) s.heap.size = A at hD ⊢
  have hA : ∀ q : Nat, s.heap.size ≤ q → A q := fun q h => by rw [← hAe]; exact Or.inr h
  have hS : va_S A s.heap s.heap [] := va_S.rf
  have hP : va_P (dC, dI) vwCl (wl ad kv cy N v) s.heap := hP
  have hl := lv_entry ([.ref (ad 0), .int x]) (n := 2) (Nat.le_of_ble_eq_true rfl)
  rw [lg_entry_eq]
  generalize (lg_sl ([.ref (ad 0), .int x]) ++ List.replicate (2 - (lg_sl ([.ref (ad 0), .int x])).length) Slot.unset).toArray = ls at hl ⊢
  have hl : lv_has ls 2 [(0, .ref (ad 0)), (1, .int x)] := hl
  have hfr : Fz v v := Fz.rf
  refine lv_iload_n hx hb dX7_isMediator_0 rfl (lv_at hl 1 rfl) ?_
  refine lv_iconst (v := 0) hx hb dX7_isMediator_1 (by decide) ?_
  refine lv_aload_n hx hb dX7_isMediator_2 rfl (lv_at hl 0 rfl) ?_
  refine va_get (D := (dC, dI)) (ci := 7) (v := .ref (ad 13)) (C := RX7) (T := TX7) (N := 5) hx hb hts iwX7_isMediator_X7 hown hK hP (0) (wl_at (by omega) (ce_0 (by decide))) rfl 0 (by decide) (hts (.fieldLink RX7 12 "QuietStairs" "now" "LQuietStairs$House;") fwX7_isMediator_1) (fun _ h9 => h9) rfl dX7_isMediator_3 ?_
  refine va_get (D := (dC, dI)) (ci := 1) (v := .int (v (13) 1)) (C := RX1) (T := TX1) (N := 7) hx hb hts iwX7_isMediator_X1 hown hK hP (13) (wl_at (by omega) (ce_3 (by decide))) rfl 1 (by decide) (hts (.fieldLink RX7 56 "QuietStairs$House" "mediatorCount" "I") fwX7_isMediator_2) (fun _ h9 => h9) rfl dX7_isMediator_6 ?_
  refine lv_topi (fun x_1 ex_1 => ?_)
  have bx_1 : 0 ≤ x_1.toInt ∧ x_1.toInt ≤ 4 := by rw [ex_1]; exact hv.at (K := 3) (by decide) rfl
  refine lv_iconst (v := 1) hx hb dX7_isMediator_9 (by decide) ?_
  have k_1 : (1 : Int32).toInt = 1 := by decide
  refine lv_isub hx hb dX7_isMediator_10 ?_
  refine lv_topi (fun x_2 ex_2 => ?_)
  have tx_2 : x_2.toInt = x_1.toInt - (1 : Int32).toInt := by rw [ex_2]; exact t_sub ⟨by omega, by omega⟩
  refine yc_p hP hS (va_runS (As := [.int x, .int 0, .int x_2]) (rest := []) ⟨hx, hb, hml, hown, hts⟩ (c_X7_isWithin l x 0 x_2) (cwS 3 hts gX7_isMediator_X7_isWithin rfl rfl rfl hd_S_X7_isWithin_3 ⟨Nat.le_of_ble_eq_true rfl, Nat.le_of_ble_eq_true rfl⟩) ex_preP rfl rfl hl.1 rfl (lv_room (Nat.le_of_ble_eq_true rfl)) dX7_isMediator_11 ⟨Nat.le_of_ble_eq_true rfl, Nat.le_of_ble_eq_true rfl⟩) (fun r_3 H locs hw_3 hP hS => ?_)
  rcases wi_ca hw_3 with ⟨rfl, hc_4⟩ | ⟨rfl, hc_4⟩
  · have k_0 : (0 : Int32).toInt = 0 := by decide
    have tc_4 := wi_tl hc_4
    exact W.zret (ty := .boolean) (v := 1) hx hb hr rfl (fun t ht hW => ⟨⟨1, v, rfl, ⟨hv, rfl, Or.inl ⟨rfl, by omega, by rw [← ex_1]; omega⟩⟩, by rw [ht]; exact hP, hD⟩, hS.F ht⟩) hS.2.2 dX7_isMediator_14
  · have k_0 : (0 : Int32).toInt = 0 := by decide
    exact W.zret (ty := .boolean) (v := 0) hx hb hr rfl (fun t ht hW => ⟨⟨0, v, rfl, ⟨hv, rfl, Or.inr ⟨rfl, fun q => hc_4 ⟨Int32.le_iff_toInt_le.mpr (by omega), Int32.le_iff_toInt_le.mpr (by rw [← ex_1] at q; omega)⟩⟩⟩, by rw [ht]; exact hP, hD⟩, hS.F ht⟩) hS.2.2 dX7_isMediator_14

set_option maxHeartbeats 4000000 in
set_option maxRecDepth 100000 in
theorem g_X7_isCase (l : Launch) (dC : Nat → ClassId) (dI : Nat → Nat → Nat) (cy : Nat → ClassId) (sz : Nat) (ad : Nat → Nat) (kv : Value) (N : Nat) (hN : 119 ≤ N) (v : Nat → Nat → Int32) (hv : Iv v) (x : Int32) : Met l yX7_isCase wsX7_isCase ({ frames := 1, cells := 0, slots := 0, locals := 64 }) (va_Pc [.ref (ad 0), .int x] (ex_Pre dC dI cy sz (wl ad kv cy N v))) (va_Qi (fun (r : Int32) (u : Nat → Nat → Int32) => Iv u ∧ u = v ∧ ((r = 1 ∧ 0 ≤ x.toInt ∧ x.toInt < (u 13 2).toInt) ∨ (r = 0 ∧ ¬ (0 ≤ x.toInt ∧ x.toInt < (u 13 2).toInt)))) (fun u t => ex_Pst dC dI (va_A (wl ad kv cy N v) sz) (wl ad kv cy N u) t) (va_A (wl ad kv cy N v) sz)) 0 0 (va_A (wl ad kv cy N v) sz) := by
  refine Met.ofW (cc := cX7_isCase) (maxL := 2) (ret := (some .boolean)) (by decide) rfl ?_
  intro p e s m args below meth c s₁ B hml hv
  obtain ⟨rfl, hsz, hE, hP, hK, hD0⟩ := hv
  have hx := B.exec
  have hb := B.bytes
  have hr := B.returns
  have hts := atoms_spec (ws := wsX7_isCase) B.pre
  have hown : s.vm.findClass RX7 = some m.cls := findClass_of_methodNamed B.named
  have hlocks := B.notSynchronized
  subst hsz
  have hD := hD0.self (sz := s.heap.size)
  generalize hAe : va_A (wl ad kv cy N v) s.heap.size = A at hD ⊢
  have hA : ∀ q : Nat, s.heap.size ≤ q → A q := fun q h => by rw [← hAe]; exact Or.inr h
  have hS : va_S A s.heap s.heap [] := va_S.rf
  have hP : va_P (dC, dI) vwCl (wl ad kv cy N v) s.heap := hP
  have hl := lv_entry ([.ref (ad 0), .int x]) (n := 2) (Nat.le_of_ble_eq_true rfl)
  rw [lg_entry_eq]
  generalize (lg_sl ([.ref (ad 0), .int x]) ++ List.replicate (2 - (lg_sl ([.ref (ad 0), .int x])).length) Slot.unset).toArray = ls at hl ⊢
  have hl : lv_has ls 2 [(0, .ref (ad 0)), (1, .int x)] := hl
  have hfr : Fz v v := Fz.rf
  refine lv_iload_n hx hb dX7_isCase_0 rfl (lv_at hl 1 rfl) ?_
  refine lv_iconst (v := 0) hx hb dX7_isCase_1 (by decide) ?_
  refine lv_aload_n hx hb dX7_isCase_2 rfl (lv_at hl 0 rfl) ?_
  refine va_get (D := (dC, dI)) (ci := 7) (v := .ref (ad 13)) (C := RX7) (T := TX7) (N := 5) hx hb hts iwX7_isCase_X7 hown hK hP (0) (wl_at (by omega) (ce_0 (by decide))) rfl 0 (by decide) (hts (.fieldLink RX7 12 "QuietStairs" "now" "LQuietStairs$House;") fwX7_isCase_1) (fun _ h9 => h9) rfl dX7_isCase_3 ?_
  refine va_get (D := (dC, dI)) (ci := 1) (v := .int (v (13) 2)) (C := RX1) (T := TX1) (N := 7) hx hb hts iwX7_isCase_X1 hown hK hP (13) (wl_at (by omega) (ce_3 (by decide))) rfl 2 (by decide) (hts (.fieldLink RX7 83 "QuietStairs$House" "caseCount" "I") fwX7_isCase_2) (fun _ h9 => h9) rfl dX7_isCase_6 ?_
  refine lv_topi (fun x_1 ex_1 => ?_)
  have bx_1 : 0 ≤ x_1.toInt ∧ x_1.toInt ≤ 6 := by rw [ex_1]; exact hv.at (K := 3) (by decide) rfl
  refine lv_iconst (v := 1) hx hb dX7_isCase_9 (by decide) ?_
  have k_1 : (1 : Int32).toInt = 1 := by decide
  refine lv_isub hx hb dX7_isCase_10 ?_
  refine lv_topi (fun x_2 ex_2 => ?_)
  have tx_2 : x_2.toInt = x_1.toInt - (1 : Int32).toInt := by rw [ex_2]; exact t_sub ⟨by omega, by omega⟩
  refine yc_p hP hS (va_runS (As := [.int x, .int 0, .int x_2]) (rest := []) ⟨hx, hb, hml, hown, hts⟩ (c_X7_isWithin l x 0 x_2) (cwS 3 hts gX7_isCase_X7_isWithin rfl rfl rfl hd_S_X7_isWithin_3 ⟨Nat.le_of_ble_eq_true rfl, Nat.le_of_ble_eq_true rfl⟩) ex_preP rfl rfl hl.1 rfl (lv_room (Nat.le_of_ble_eq_true rfl)) dX7_isCase_11 ⟨Nat.le_of_ble_eq_true rfl, Nat.le_of_ble_eq_true rfl⟩) (fun r_3 H locs hw_3 hP hS => ?_)
  rcases wi_ca hw_3 with ⟨rfl, hc_4⟩ | ⟨rfl, hc_4⟩
  · have k_0 : (0 : Int32).toInt = 0 := by decide
    have tc_4 := wi_tl hc_4
    exact W.zret (ty := .boolean) (v := 1) hx hb hr rfl (fun t ht hW => ⟨⟨1, v, rfl, ⟨hv, rfl, Or.inl ⟨rfl, by omega, by rw [← ex_1]; omega⟩⟩, by rw [ht]; exact hP, hD⟩, hS.F ht⟩) hS.2.2 dX7_isCase_14
  · have k_0 : (0 : Int32).toInt = 0 := by decide
    exact W.zret (ty := .boolean) (v := 0) hx hb hr rfl (fun t ht hW => ⟨⟨0, v, rfl, ⟨hv, rfl, Or.inr ⟨rfl, fun q => hc_4 ⟨Int32.le_iff_toInt_le.mpr (by omega), Int32.le_iff_toInt_le.mpr (by rw [← ex_1] at q; omega)⟩⟩⟩, by rw [ht]; exact hP, hD⟩, hS.F ht⟩) hS.2.2 dX7_isCase_14
set_option maxRecDepth 20000 in
theorem db_X7_isSide_0 : (decode cX7_isSide 0 = .ok (.iload_n 0, 1)) ∧ (decode cX7_isSide 1 = .ok (.iconst 0, 1)) ∧ (decode cX7_isSide 2 = .ok (.iconst 1, 1)) ∧ (decode cX7_isSide 3 = .ok (.invokestatic 37, 3)) ∧ (decode cX7_isSide 6 = .ok (.ireturn, 1)) := by decide +kernel
theorem dX7_isSide_0 : decode cX7_isSide 0 = .ok (.iload_n 0, 1) := db_X7_isSide_0.1
theorem dX7_isSide_1 : decode cX7_isSide 1 = .ok (.iconst 0, 1) := db_X7_isSide_0.2.1
theorem dX7_isSide_2 : decode cX7_isSide 2 = .ok (.iconst 1, 1) := db_X7_isSide_0.2.2.1
set_option maxRecDepth 20000 in
theorem ggX7_isSide_X7_isWithin : GoodIn wsX7_isSide wsX7_isWithin := goodIn_r _ [4] rfl (by decide +kernel)
set_option maxRecDepth 20000 in
theorem gX7_isSide_X7_isWithin : GoodIn wsX7_isSide (va_wsS RX7 37 yX7_isWithin wsX7_isWithin) := goodIn_app (goodIn_r _ [1, 2, 3] rfl (by decide +kernel)) ggX7_isSide_X7_isWithin
theorem dX7_isSide_3 : decode cX7_isSide 3 = .ok (.invokestatic 37, 3) := db_X7_isSide_0.2.2.2.1
theorem dX7_isSide_6 : decode cX7_isSide 6 = .ok (.ireturn, 1) := db_X7_isSide_0.2.2.2.2
set_option maxRecDepth 20000 in
theorem db_X7_isHour_0 : (decode cX7_isHour 0 = .ok (.iload_n 0, 1)) ∧ (decode cX7_isHour 1 = .ok (.iconst 0, 1)) ∧ (decode cX7_isHour 2 = .ok (.bipush 23, 2)) ∧ (decode cX7_isHour 4 = .ok (.invokestatic 37, 3)) ∧ (decode cX7_isHour 7 = .ok (.ireturn, 1)) := by decide +kernel
theorem dX7_isHour_0 : decode cX7_isHour 0 = .ok (.iload_n 0, 1) := db_X7_isHour_0.1
theorem dX7_isHour_1 : decode cX7_isHour 1 = .ok (.iconst 0, 1) := db_X7_isHour_0.2.1
theorem dX7_isHour_2 : decode cX7_isHour 2 = .ok (.bipush 23, 2) := db_X7_isHour_0.2.2.1
set_option maxRecDepth 20000 in
theorem ggX7_isHour_X7_isWithin : GoodIn wsX7_isHour wsX7_isWithin := goodIn_r _ [4] rfl (by decide +kernel)
set_option maxRecDepth 20000 in
theorem gX7_isHour_X7_isWithin : GoodIn wsX7_isHour (va_wsS RX7 37 yX7_isWithin wsX7_isWithin) := goodIn_app (goodIn_r _ [1, 2, 3] rfl (by decide +kernel)) ggX7_isHour_X7_isWithin
theorem dX7_isHour_4 : decode cX7_isHour 4 = .ok (.invokestatic 37, 3) := db_X7_isHour_0.2.2.2.1
theorem dX7_isHour_7 : decode cX7_isHour 7 = .ok (.ireturn, 1) := db_X7_isHour_0.2.2.2.2
set_option maxRecDepth 20000 in
theorem db_X7_hasBit_0 : (decode cX7_hasBit 0 = .ok (.iload_n 0, 1)) ∧ (decode cX7_hasBit 1 = .ok (.iload_n 1, 1)) ∧ (decode cX7_hasBit 2 = .ok (.ishr, 1)) ∧ (decode cX7_hasBit 3 = .ok (.iconst 1, 1)) ∧ (decode cX7_hasBit 4 = .ok (.iand, 1)) ∧ (decode cX7_hasBit 5 = .ok (.iconst 1, 1)) ∧ (decode cX7_hasBit 6 = .ok (.if_icmp .ne 7, 3)) ∧ (decode cX7_hasBit 13 = .ok (.iconst 0, 1)) := by decide +kernel
theorem dX7_hasBit_0 : decode cX7_hasBit 0 = .ok (.iload_n 0, 1) := db_X7_hasBit_0.1
theorem dX7_hasBit_1 : decode cX7_hasBit 1 = .ok (.iload_n 1, 1) := db_X7_hasBit_0.2.1
theorem dX7_hasBit_2 : decode cX7_hasBit 2 = .ok (.ishr, 1) := db_X7_hasBit_0.2.2.1
theorem dX7_hasBit_3 : decode cX7_hasBit 3 = .ok (.iconst 1, 1) := db_X7_hasBit_0.2.2.2.1
theorem dX7_hasBit_4 : decode cX7_hasBit 4 = .ok (.iand, 1) := db_X7_hasBit_0.2.2.2.2.1
theorem dX7_hasBit_5 : decode cX7_hasBit 5 = .ok (.iconst 1, 1) := db_X7_hasBit_0.2.2.2.2.2.1
theorem dX7_hasBit_6 : decode cX7_hasBit 6 = .ok (.if_icmp .ne 7, 3) := db_X7_hasBit_0.2.2.2.2.2.2.1
theorem dX7_hasBit_13 : decode cX7_hasBit 13 = .ok (.iconst 0, 1) := db_X7_hasBit_0.2.2.2.2.2.2.2
set_option maxRecDepth 20000 in
theorem db_X7_hasBit_14 : (decode cX7_hasBit 14 = .ok (.ireturn, 1)) ∧ (decode cX7_hasBit 9 = .ok (.iconst 1, 1)) ∧ (decode cX7_hasBit 10 = .ok (.goto 4, 3)) := by decide +kernel
theorem dX7_hasBit_14 : decode cX7_hasBit 14 = .ok (.ireturn, 1) := db_X7_hasBit_14.1
theorem dX7_hasBit_9 : decode cX7_hasBit 9 = .ok (.iconst 1, 1) := db_X7_hasBit_14.2.1
theorem dX7_hasBit_10 : decode cX7_hasBit 10 = .ok (.goto 4, 3) := db_X7_hasBit_14.2.2
set_option maxHeartbeats 4000000 in
set_option maxRecDepth 100000 in
theorem c_X7_isSide (l : Launch) (x0 : Int32) : Met l yX7_isSide wsX7_isSide ({ frames := 1, cells := 0, slots := 0, locals := 64 }) (va_Pc [.int x0] (fun _ => True)) (va_Qi (fun (r : Int32) (_ : Unit) => r = if 0 ≤ x0 ∧ x0 ≤ 1 then 1 else 0) (fun _ _ => True) (fun _ => False)) 0 0 (fun _ => False) := by
  refine Met.ofW (cc := cX7_isSide) (maxL := 1) (ret := (some .boolean)) (by decide) rfl ?_
  intro p e s m args below meth c s₁ B hml hv
  obtain ⟨rfl, -⟩ := hv
  have hx := B.exec
  have hb := B.bytes
  have hr := B.returns
  have hts := atoms_spec (ws := wsX7_isSide) B.pre
  have hown : s.vm.findClass RX7 = some m.cls := findClass_of_methodNamed B.named
  have hlocks := B.notSynchronized
  have hl := lv_entry ([.int x0]) (n := 1) (Nat.le_of_ble_eq_true rfl)
  rw [lg_entry_eq]
  generalize (lg_sl ([.int x0]) ++ List.replicate (1 - (lg_sl ([.int x0])).length) Slot.unset).toArray = ls at hl ⊢
  have hl : lv_has ls 1 [(0, .int x0)] := hl
  have hS : va_S (fun _ => False) s.heap s.heap [] := va_S.rf
  have hP : va_P ((fun _ => 0), (fun _ _ => 0)) vwCl [] s.heap := fun k q h => by simp at h
  refine lv_iload_n hx hb dX7_isSide_0 rfl (lv_at hl 0 rfl) ?_
  refine lv_iconst (v := 0) hx hb dX7_isSide_1 (by decide) ?_
  refine lv_iconst (v := 1) hx hb dX7_isSide_2 (by decide) ?_
  refine yc_p hP hS (va_runS (As := [.int x0, .int 0, .int 1]) (rest := []) ⟨hx, hb, hml, hown, hts⟩ (c_X7_isWithin l x0 0 1) (cwS 3 hts gX7_isSide_X7_isWithin rfl rfl rfl hd_S_X7_isWithin_3 ⟨Nat.le_of_ble_eq_true rfl, Nat.le_of_ble_eq_true rfl⟩) ex_preP rfl rfl hl.1 rfl (lv_room (Nat.le_of_ble_eq_true rfl)) dX7_isSide_3 ⟨Nat.le_of_ble_eq_true rfl, Nat.le_of_ble_eq_true rfl⟩) (fun r_1 H locs hw_1 hP hS => ?_)
  rcases wi_ca hw_1 with ⟨rfl, hc⟩ | ⟨rfl, hc⟩
  · exact W.zret (ty := .boolean) (v := 1) hx hb hr rfl (fun t ht hW => ⟨⟨1, (), rfl, by rw [if_pos hc], trivial⟩, hS.F ht⟩) hS.2.2 dX7_isSide_6
  · exact W.zret (ty := .boolean) (v := 0) hx hb hr rfl (fun t ht hW => ⟨⟨0, (), rfl, by rw [if_neg hc], trivial⟩, hS.F ht⟩) hS.2.2 dX7_isSide_6

set_option maxHeartbeats 4000000 in
set_option maxRecDepth 100000 in
theorem c_X7_isHour (l : Launch) (x0 : Int32) : Met l yX7_isHour wsX7_isHour ({ frames := 1, cells := 0, slots := 0, locals := 64 }) (va_Pc [.int x0] (fun _ => True)) (va_Qi (fun (r : Int32) (_ : Unit) => r = if 0 ≤ x0 ∧ x0 ≤ 23 then 1 else 0) (fun _ _ => True) (fun _ => False)) 0 0 (fun _ => False) := by
  refine Met.ofW (cc := cX7_isHour) (maxL := 1) (ret := (some .boolean)) (by decide) rfl ?_
  intro p e s m args below meth c s₁ B hml hv
  obtain ⟨rfl, -⟩ := hv
  have hx := B.exec
  have hb := B.bytes
  have hr := B.returns
  have hts := atoms_spec (ws := wsX7_isHour) B.pre
  have hown : s.vm.findClass RX7 = some m.cls := findClass_of_methodNamed B.named
  have hlocks := B.notSynchronized
  have hl := lv_entry ([.int x0]) (n := 1) (Nat.le_of_ble_eq_true rfl)
  rw [lg_entry_eq]
  generalize (lg_sl ([.int x0]) ++ List.replicate (1 - (lg_sl ([.int x0])).length) Slot.unset).toArray = ls at hl ⊢
  have hl : lv_has ls 1 [(0, .int x0)] := hl
  have hS : va_S (fun _ => False) s.heap s.heap [] := va_S.rf
  have hP : va_P ((fun _ => 0), (fun _ _ => 0)) vwCl [] s.heap := fun k q h => by simp at h
  refine lv_iload_n hx hb dX7_isHour_0 rfl (lv_at hl 0 rfl) ?_
  refine lv_iconst (v := 0) hx hb dX7_isHour_1 (by decide) ?_
  refine lv_bipush (v := 23) hx hb dX7_isHour_2 (by decide) ?_
  refine yc_p hP hS (va_runS (As := [.int x0, .int 0, .int 23]) (rest := []) ⟨hx, hb, hml, hown, hts⟩ (c_X7_isWithin l x0 0 23) (cwS 3 hts gX7_isHour_X7_isWithin rfl rfl rfl hd_S_X7_isWithin_3 ⟨Nat.le_of_ble_eq_true rfl, Nat.le_of_ble_eq_true rfl⟩) ex_preP rfl rfl hl.1 rfl (lv_room (Nat.le_of_ble_eq_true rfl)) dX7_isHour_4 ⟨Nat.le_of_ble_eq_true rfl, Nat.le_of_ble_eq_true rfl⟩) (fun r_1 H locs hw_1 hP hS => ?_)
  rcases wi_ca hw_1 with ⟨rfl, hc⟩ | ⟨rfl, hc⟩
  · exact W.zret (ty := .boolean) (v := 1) hx hb hr rfl (fun t ht hW => ⟨⟨1, (), rfl, by rw [if_pos hc], trivial⟩, hS.F ht⟩) hS.2.2 dX7_isHour_7
  · exact W.zret (ty := .boolean) (v := 0) hx hb hr rfl (fun t ht hW => ⟨⟨0, (), rfl, by rw [if_neg hc], trivial⟩, hS.F ht⟩) hS.2.2 dX7_isHour_7

set_option maxHeartbeats 4000000 in
set_option maxRecDepth 100000 in
theorem c_X7_hasBit (l : Launch) (x0 x1 : Int32) : Met l yX7_hasBit wsX7_hasBit ({ frames := 0, cells := 0, slots := 0, locals := 0 }) (va_Pc [.int x0, .int x1] (fun _ => True)) (va_Qi (fun (r : Int32) (_ : Unit) => r = 0 ∨ r = 1) (fun _ _ => True) (fun _ => False)) 0 0 (fun _ => False) := by
  refine Met.ofW (cc := cX7_hasBit) (maxL := 2) (ret := (some .boolean)) (by decide) rfl ?_
  intro p e s m args below meth c s₁ B hml hv
  obtain ⟨rfl, -⟩ := hv
  have hx := B.exec
  have hb := B.bytes
  have hr := B.returns
  have hts := atoms_spec (ws := wsX7_hasBit) B.pre
  have hown : s.vm.findClass RX7 = some m.cls := findClass_of_methodNamed B.named
  have hlocks := B.notSynchronized
  have hl := lv_entry ([.int x0, .int x1]) (n := 2) (Nat.le_of_ble_eq_true rfl)
  rw [lg_entry_eq]
  generalize (lg_sl ([.int x0, .int x1]) ++ List.replicate (2 - (lg_sl ([.int x0, .int x1])).length) Slot.unset).toArray = ls at hl ⊢
  have hl : lv_has ls 2 [(0, .int x0), (1, .int x1)] := hl
  have hS : va_S (fun _ => False) s.heap s.heap [] := va_S.rf
  refine lv_iload_n hx hb dX7_hasBit_0 rfl (lv_at hl 0 rfl) ?_
  refine lv_iload_n hx hb dX7_hasBit_1 rfl (lv_at hl 1 rfl) ?_
  refine lv_ishr hx hb dX7_hasBit_2 ?_
  refine lv_topi (fun x_1 ex_1 => ?_)
  refine lv_iconst (v := 1) hx hb dX7_hasBit_3 (by decide) ?_
  refine lv_iand hx hb dX7_hasBit_4 ?_
  refine lv_topi (fun x_2 ex_2 => ?_)
  refine lv_iconst (v := 1) hx hb dX7_hasBit_5 (by decide) ?_
  refine lv_icmp_ne (tgt := 13) hx hb dX7_hasBit_6 (by decide) (fun c_3 => ?_) (fun c_3 => ?_)
  · refine lv_iconst (v := 0) hx hb dX7_hasBit_13 (by decide) ?_
    exact W.zret (ty := .boolean) (v := 0) hx hb hr rfl (fun t ht hW => ⟨⟨0, (), rfl, by decide, trivial⟩, hS.F ht⟩) hS.2.2 dX7_hasBit_14
  · refine lv_iconst (v := 1) hx hb dX7_hasBit_9 (by decide) ?_
    refine lv_goto (tgt := 14) hx hb dX7_hasBit_10 (by decide) ?_
    exact W.zret (ty := .boolean) (v := 1) hx hb hr rfl (fun t ht hW => ⟨⟨1, (), rfl, by decide, trivial⟩, hS.F ht⟩) hS.2.2 dX7_hasBit_14
