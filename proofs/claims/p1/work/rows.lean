section
-- ===== PART A: goes FIRST, ahead of the names: the tables' words, and 'selects' of the private methods out of them =====
/-- a private method of a class that the tables say can be made, by its rows of tables_1 -/
def lw_okq (q : MethodName × Nat) : Prop := (q.1.cls ≠ "java/lang/invoke/MethodHandle" ∧ q.1.cls ≠ "java/lang/invoke/VarHandle") ∧ Cond.instantiable q.1.cls q.2 ∈ tables_1 ∧ Cond.privateMethod q.1 ∈ tables_1 ∧ Cond.instanceMethod q.1 ∈ tables_1
theorem lw_p0 : lw_okq (⟨"QuietStairs", "isMediator", "(I)Z"⟩, 5) := ⟨⟨by decide +kernel, by decide +kernel⟩, List.mem_of_getElem? (i := 14) (by decide +kernel), List.mem_of_getElem? (i := 286) (by decide +kernel), List.mem_of_getElem? (i := 287) (by decide +kernel)⟩
theorem lw_p1 : lw_okq (⟨"QuietStairs", "isParty", "(I)Z"⟩, 5) := ⟨⟨by decide +kernel, by decide +kernel⟩, List.mem_of_getElem? (i := 14) (by decide +kernel), List.mem_of_getElem? (i := 290) (by decide +kernel), List.mem_of_getElem? (i := 291) (by decide +kernel)⟩
theorem lw_p2 : lw_okq (⟨"QuietStairs", "isCase", "(I)Z"⟩, 5) := ⟨⟨by decide +kernel, by decide +kernel⟩, List.mem_of_getElem? (i := 14) (by decide +kernel), List.mem_of_getElem? (i := 309) (by decide +kernel), List.mem_of_getElem? (i := 310) (by decide +kernel)⟩
theorem lw_p3 : lw_okq (⟨"QuietStairs$Planner", "gather", "(LQuietStairs$House;)V"⟩, 11) := ⟨⟨by decide +kernel, by decide +kernel⟩, List.mem_of_getElem? (i := 198) (by decide +kernel), List.mem_of_getElem? (i := 411) (by decide +kernel), List.mem_of_getElem? (i := 412) (by decide +kernel)⟩
theorem lw_p4 : lw_okq (⟨"QuietStairs$Planner", "sortByWeight", "()V"⟩, 11) := ⟨⟨by decide +kernel, by decide +kernel⟩, List.mem_of_getElem? (i := 198) (by decide +kernel), List.mem_of_getElem? (i := 420) (by decide +kernel), List.mem_of_getElem? (i := 421) (by decide +kernel)⟩
theorem lw_p5 : lw_okq (⟨"QuietStairs$Planner", "search", "(II)V"⟩, 11) := ⟨⟨by decide +kernel, by decide +kernel⟩, List.mem_of_getElem? (i := 198) (by decide +kernel), List.mem_of_getElem? (i := 424) (by decide +kernel), List.mem_of_getElem? (i := 425) (by decide +kernel)⟩
theorem lw_p6 : lw_okq (⟨"QuietStairs$Planner", "leastBehind", "(I)I"⟩, 11) := ⟨⟨by decide +kernel, by decide +kernel⟩, List.mem_of_getElem? (i := 198) (by decide +kernel), List.mem_of_getElem? (i := 428) (by decide +kernel), List.mem_of_getElem? (i := 429) (by decide +kernel)⟩
theorem lw_p7 : lw_okq (⟨"QuietStairs$Planner", "searchDay", "(III)V"⟩, 11) := ⟨⟨by decide +kernel, by decide +kernel⟩, List.mem_of_getElem? (i := 198) (by decide +kernel), List.mem_of_getElem? (i := 435) (by decide +kernel), List.mem_of_getElem? (i := 436) (by decide +kernel)⟩
theorem lw_p8 : lw_okq (⟨"QuietStairs", "isTerm", "(II)Z"⟩, 5) := ⟨⟨by decide +kernel, by decide +kernel⟩, List.mem_of_getElem? (i := 14) (by decide +kernel), List.mem_of_getElem? (i := 465) (by decide +kernel), List.mem_of_getElem? (i := 466) (by decide +kernel)⟩
theorem lw_p9 : lw_okq (⟨"QuietStairs$Table", "pinLeastHour", "(I)I"⟩, 3) := ⟨⟨by decide +kernel, by decide +kernel⟩, List.mem_of_getElem? (i := 239) (by decide +kernel), List.mem_of_getElem? (i := 494) (by decide +kernel), List.mem_of_getElem? (i := 495) (by decide +kernel)⟩
theorem lw_p10 : lw_okq (⟨"QuietStairsModel", "isMediator", "(I)Z"⟩, 11) := ⟨⟨by decide +kernel, by decide +kernel⟩, List.mem_of_getElem? (i := 570) (by decide +kernel), List.mem_of_getElem? (i := 625) (by decide +kernel), List.mem_of_getElem? (i := 626) (by decide +kernel)⟩
theorem lw_p11 : lw_okq (⟨"QuietStairsModel", "isParty", "(I)Z"⟩, 11) := ⟨⟨by decide +kernel, by decide +kernel⟩, List.mem_of_getElem? (i := 570) (by decide +kernel), List.mem_of_getElem? (i := 629) (by decide +kernel), List.mem_of_getElem? (i := 630) (by decide +kernel)⟩
theorem lw_p12 : lw_okq (⟨"QuietStairsModel", "isCase", "(I)Z"⟩, 11) := ⟨⟨by decide +kernel, by decide +kernel⟩, List.mem_of_getElem? (i := 570) (by decide +kernel), List.mem_of_getElem? (i := 644) (by decide +kernel), List.mem_of_getElem? (i := 645) (by decide +kernel)⟩
theorem lw_p13 : lw_okq (⟨"QuietStairsModel", "findHeads", "()V"⟩, 11) := ⟨⟨by decide +kernel, by decide +kernel⟩, List.mem_of_getElem? (i := 570) (by decide +kernel), List.mem_of_getElem? (i := 660) (by decide +kernel), List.mem_of_getElem? (i := 661) (by decide +kernel)⟩
theorem lw_p14 : lw_okq (⟨"QuietStairsModel", "joined", "(I)I"⟩, 11) := ⟨⟨by decide +kernel, by decide +kernel⟩, List.mem_of_getElem? (i := 570) (by decide +kernel), List.mem_of_getElem? (i := 664) (by decide +kernel), List.mem_of_getElem? (i := 665) (by decide +kernel)⟩
theorem lw_p15 : lw_okq (⟨"QuietStairsModel", "isPair", "(I)Z"⟩, 11) := ⟨⟨by decide +kernel, by decide +kernel⟩, List.mem_of_getElem? (i := 570) (by decide +kernel), List.mem_of_getElem? (i := 687) (by decide +kernel), List.mem_of_getElem? (i := 688) (by decide +kernel)⟩
def lw_privs_1 : List (MethodName × Nat) := [(⟨"QuietStairs", "isMediator", "(I)Z"⟩, 5), (⟨"QuietStairs", "isParty", "(I)Z"⟩, 5), (⟨"QuietStairs", "isCase", "(I)Z"⟩, 5), (⟨"QuietStairs$Planner", "gather", "(LQuietStairs$House;)V"⟩, 11), (⟨"QuietStairs$Planner", "sortByWeight", "()V"⟩, 11), (⟨"QuietStairs$Planner", "search", "(II)V"⟩, 11), (⟨"QuietStairs$Planner", "leastBehind", "(I)I"⟩, 11), (⟨"QuietStairs$Planner", "searchDay", "(III)V"⟩, 11), (⟨"QuietStairs", "isTerm", "(II)Z"⟩, 5), (⟨"QuietStairs$Table", "pinLeastHour", "(I)I"⟩, 3), (⟨"QuietStairsModel", "isMediator", "(I)Z"⟩, 11), (⟨"QuietStairsModel", "isParty", "(I)Z"⟩, 11), (⟨"QuietStairsModel", "isCase", "(I)Z"⟩, 11), (⟨"QuietStairsModel", "findHeads", "()V"⟩, 11), (⟨"QuietStairsModel", "joined", "(I)I"⟩, 11), (⟨"QuietStairsModel", "isPair", "(I)Z"⟩, 11)]
theorem lw_r1 : ∀ q ∈ lw_privs_1, lw_okq q := List.forall_mem_cons.mpr ⟨lw_p0, List.forall_mem_cons.mpr ⟨lw_p1, List.forall_mem_cons.mpr ⟨lw_p2, List.forall_mem_cons.mpr ⟨lw_p3, List.forall_mem_cons.mpr ⟨lw_p4, List.forall_mem_cons.mpr ⟨lw_p5, List.forall_mem_cons.mpr ⟨lw_p6, List.forall_mem_cons.mpr ⟨lw_p7, List.forall_mem_cons.mpr ⟨lw_p8, List.forall_mem_cons.mpr ⟨lw_p9, List.forall_mem_cons.mpr ⟨lw_p10, List.forall_mem_cons.mpr ⟨lw_p11, List.forall_mem_cons.mpr ⟨lw_p12, List.forall_mem_cons.mpr ⟨lw_p13, List.forall_mem_cons.mpr ⟨lw_p14, List.forall_mem_cons.mpr ⟨lw_p15, fun _ h => absurd h List.not_mem_nil⟩⟩⟩⟩⟩⟩⟩⟩⟩⟩⟩⟩⟩⟩⟩⟩
theorem lw_p16 : lw_okq (⟨"QuietStairsModel", "may", "(II)Z"⟩, 11) := ⟨⟨by decide +kernel, by decide +kernel⟩, List.mem_of_getElem? (i := 570) (by decide +kernel), List.mem_of_getElem? (i := 694) (by decide +kernel), List.mem_of_getElem? (i := 695) (by decide +kernel)⟩
theorem lw_p17 : lw_okq (⟨"QuietStairsModel", "mayMeet", "(II)Z"⟩, 11) := ⟨⟨by decide +kernel, by decide +kernel⟩, List.mem_of_getElem? (i := 570) (by decide +kernel), List.mem_of_getElem? (i := 701) (by decide +kernel), List.mem_of_getElem? (i := 702) (by decide +kernel)⟩
theorem lw_p18 : lw_okq (⟨"QuietStairsModel", "makePlan", "()V"⟩, 11) := ⟨⟨by decide +kernel, by decide +kernel⟩, List.mem_of_getElem? (i := 570) (by decide +kernel), List.mem_of_getElem? (i := 713) (by decide +kernel), List.mem_of_getElem? (i := 714) (by decide +kernel)⟩
theorem lw_p19 : lw_okq (⟨"QuietStairsModel", "note", "()V"⟩, 11) := ⟨⟨by decide +kernel, by decide +kernel⟩, List.mem_of_getElem? (i := 570) (by decide +kernel), List.mem_of_getElem? (i := 718) (by decide +kernel), List.mem_of_getElem? (i := 719) (by decide +kernel)⟩
theorem lw_p20 : lw_okq (⟨"QuietStairsModel", "waitsOf", "(I)I"⟩, 11) := ⟨⟨by decide +kernel, by decide +kernel⟩, List.mem_of_getElem? (i := 570) (by decide +kernel), List.mem_of_getElem? (i := 722) (by decide +kernel), List.mem_of_getElem? (i := 723) (by decide +kernel)⟩
theorem lw_p21 : lw_okq (⟨"QuietStairsModel", "fits", "(I)Z"⟩, 11) := ⟨⟨by decide +kernel, by decide +kernel⟩, List.mem_of_getElem? (i := 570) (by decide +kernel), List.mem_of_getElem? (i := 726) (by decide +kernel), List.mem_of_getElem? (i := 727) (by decide +kernel)⟩
theorem lw_p22 : lw_okq (⟨"QuietStairsModel", "isTerm", "(II)Z"⟩, 11) := ⟨⟨by decide +kernel, by decide +kernel⟩, List.mem_of_getElem? (i := 570) (by decide +kernel), List.mem_of_getElem? (i := 749) (by decide +kernel), List.mem_of_getElem? (i := 750) (by decide +kernel)⟩
theorem lw_p23 : lw_okq (⟨"QuietStairsModel", "makeTable", "(III)Z"⟩, 11) := ⟨⟨by decide +kernel, by decide +kernel⟩, List.mem_of_getElem? (i := 570) (by decide +kernel), List.mem_of_getElem? (i := 757) (by decide +kernel), List.mem_of_getElem? (i := 758) (by decide +kernel)⟩
theorem lw_p24 : lw_okq (⟨"QuietStairsModel", "next", "(IIIII)I"⟩, 11) := ⟨⟨by decide +kernel, by decide +kernel⟩, List.mem_of_getElem? (i := 570) (by decide +kernel), List.mem_of_getElem? (i := 761) (by decide +kernel), List.mem_of_getElem? (i := 762) (by decide +kernel)⟩
theorem lw_p25 : lw_okq (⟨"QuietStairsModel", "isOwn", "(III)Z"⟩, 11) := ⟨⟨by decide +kernel, by decide +kernel⟩, List.mem_of_getElem? (i := 570) (by decide +kernel), List.mem_of_getElem? (i := 765) (by decide +kernel), List.mem_of_getElem? (i := 766) (by decide +kernel)⟩
theorem lw_p26 : lw_okq (⟨"QuietStairsModel", "hourFrom", "(IIIII)I"⟩, 11) := ⟨⟨by decide +kernel, by decide +kernel⟩, List.mem_of_getElem? (i := 570) (by decide +kernel), List.mem_of_getElem? (i := 769) (by decide +kernel), List.mem_of_getElem? (i := 770) (by decide +kernel)⟩
theorem lw_p27 : lw_okq (⟨"QuietStairsModel", "mayBe", "(IIII)Z"⟩, 11) := ⟨⟨by decide +kernel, by decide +kernel⟩, List.mem_of_getElem? (i := 570) (by decide +kernel), List.mem_of_getElem? (i := 773) (by decide +kernel), List.mem_of_getElem? (i := 774) (by decide +kernel)⟩
theorem lw_p28 : lw_okq (⟨"QuietStairsModel", "judge", "(II)I"⟩, 11) := ⟨⟨by decide +kernel, by decide +kernel⟩, List.mem_of_getElem? (i := 570) (by decide +kernel), List.mem_of_getElem? (i := 793) (by decide +kernel), List.mem_of_getElem? (i := 794) (by decide +kernel)⟩
theorem lw_p29 : lw_okq (⟨"QuietStairsModel", "casesThat", "(I)I"⟩, 11) := ⟨⟨by decide +kernel, by decide +kernel⟩, List.mem_of_getElem? (i := 570) (by decide +kernel), List.mem_of_getElem? (i := 801) (by decide +kernel), List.mem_of_getElem? (i := 802) (by decide +kernel)⟩
theorem lw_p30 : lw_okq (⟨"QuietStairsModel", "quarrels", "()I"⟩, 11) := ⟨⟨by decide +kernel, by decide +kernel⟩, List.mem_of_getElem? (i := 570) (by decide +kernel), List.mem_of_getElem? (i := 805) (by decide +kernel), List.mem_of_getElem? (i := 806) (by decide +kernel)⟩
theorem lw_p31 : lw_okq (⟨"QuietStairsModel", "termsThat", "(I)I"⟩, 11) := ⟨⟨by decide +kernel, by decide +kernel⟩, List.mem_of_getElem? (i := 570) (by decide +kernel), List.mem_of_getElem? (i := 809) (by decide +kernel), List.mem_of_getElem? (i := 810) (by decide +kernel)⟩
def lw_privs_2 : List (MethodName × Nat) := [(⟨"QuietStairsModel", "may", "(II)Z"⟩, 11), (⟨"QuietStairsModel", "mayMeet", "(II)Z"⟩, 11), (⟨"QuietStairsModel", "makePlan", "()V"⟩, 11), (⟨"QuietStairsModel", "note", "()V"⟩, 11), (⟨"QuietStairsModel", "waitsOf", "(I)I"⟩, 11), (⟨"QuietStairsModel", "fits", "(I)Z"⟩, 11), (⟨"QuietStairsModel", "isTerm", "(II)Z"⟩, 11), (⟨"QuietStairsModel", "makeTable", "(III)Z"⟩, 11), (⟨"QuietStairsModel", "next", "(IIIII)I"⟩, 11), (⟨"QuietStairsModel", "isOwn", "(III)Z"⟩, 11), (⟨"QuietStairsModel", "hourFrom", "(IIIII)I"⟩, 11), (⟨"QuietStairsModel", "mayBe", "(IIII)Z"⟩, 11), (⟨"QuietStairsModel", "judge", "(II)I"⟩, 11), (⟨"QuietStairsModel", "casesThat", "(I)I"⟩, 11), (⟨"QuietStairsModel", "quarrels", "()I"⟩, 11), (⟨"QuietStairsModel", "termsThat", "(I)I"⟩, 11)]
theorem lw_r2 : ∀ q ∈ lw_privs_2, lw_okq q := List.forall_mem_cons.mpr ⟨lw_p16, List.forall_mem_cons.mpr ⟨lw_p17, List.forall_mem_cons.mpr ⟨lw_p18, List.forall_mem_cons.mpr ⟨lw_p19, List.forall_mem_cons.mpr ⟨lw_p20, List.forall_mem_cons.mpr ⟨lw_p21, List.forall_mem_cons.mpr ⟨lw_p22, List.forall_mem_cons.mpr ⟨lw_p23, List.forall_mem_cons.mpr ⟨lw_p24, List.forall_mem_cons.mpr ⟨lw_p25, List.forall_mem_cons.mpr ⟨lw_p26, List.forall_mem_cons.mpr ⟨lw_p27, List.forall_mem_cons.mpr ⟨lw_p28, List.forall_mem_cons.mpr ⟨lw_p29, List.forall_mem_cons.mpr ⟨lw_p30, List.forall_mem_cons.mpr ⟨lw_p31, fun _ h => absurd h List.not_mem_nil⟩⟩⟩⟩⟩⟩⟩⟩⟩⟩⟩⟩⟩⟩⟩⟩
def lw_privs : List (MethodName × Nat) := lw_privs_1 ++ (lw_privs_2)
def lw_tbl : List Cond := k2_sels lw_privs ++ tables_1
theorem lw_privs_ok : ∀ q ∈ lw_privs, lw_okq q := by
  show ∀ q ∈ lw_privs_1 ++ (lw_privs_2), lw_okq q
  exact List.forall_mem_append.mpr ⟨lw_r1, lw_r2⟩
end
section
/-! ===== BEGIN words of one list among another's, by their places ===== -/
theorem goodIn_r {big : List Cond} (ws : List Cond) (ps : List Nat) (hp : ws = ps.filterMap (fun i => big[i]?)) (h : ws.all goodWord = true) : GoodIn big ws := by
  intro w hw
  have h1 := List.all_eq_true.mp h w hw
  rw [hp] at hw
  obtain ⟨i, -, hi⟩ := List.mem_filterMap.mp hw
  have hm : w ∈ big := by first | exact List.mem_of_getElem? hi | exact List.getElem?_mem hi
  exact ⟨hm, good_of_word h1⟩
theorem goodIn_app {big a b : List Cond} (ha : GoodIn big a) (hb : GoodIn big b) : GoodIn big (a ++ b) := fun w h => (List.mem_append.mp h).elim (ha w) (hb w)
theorem goodIn_ca {big a b : List Cond} {c : Cond} (ha : GoodIn big (c :: a)) (hb : GoodIn big b) : GoodIn big (c :: (a ++ b)) := fun w h => (List.mem_cons.mp h).elim (fun e => ha w (List.mem_cons.mpr (Or.inl e))) (fun h => (List.mem_append.mp h).elim (fun h => ha w (List.mem_cons.mpr (Or.inr h))) (hb w))
theorem goodIn_sub {big ws : List Cond} (hm : ∀ w ∈ ws, w ∈ big) (h : ws.all goodWord = true) : GoodIn big ws := fun w hw => ⟨hm w hw, good_of_word (List.all_eq_true.mp h w hw)⟩
/-! ===== END ===== -/

/-! ===== BEGIN printed: names, fields, word lists, decode rows ===== -/
def RX0 : String := "QuietStairs$Case"
def TX0 : u_T := fun k => match k with
  | 0 => ("QuietStairs$Case", "state", "I", false)
  | 1 => ("QuietStairs$Case", "sum", "I", false)
  | 2 => ("QuietStairs$Case", "roundsOver", "I", false)
  | 3 => ("QuietStairs$Case", "weight", "I", false)
  | 4 => ("QuietStairs$Case", "markedBits", "I", false)
  | 5 => ("QuietStairs$Case", "termCount", "I", false)
  | 6 => ("QuietStairs$Case", "parties", "[I", true)
  | 7 => ("QuietStairs$Case", "box", "[I", true)
  | 8 => ("QuietStairs$Case", "offers", "[[I", true)
  | 9 => ("QuietStairs$Case", "logs", "[[I", true)
  | _ => ("QuietStairs$Case", "terms", "[LQuietStairs$Term;", true)
def tyX0 : Nat → FieldType := fun k => match k with
  | 0 => .int
  | 1 => .int
  | 2 => .int
  | 3 => .int
  | 4 => .int
  | 5 => .int
  | 6 => .array .int
  | 7 => .array .int
  | 8 => .array (.array .int)
  | 9 => .array (.array .int)
  | _ => .array (.object "QuietStairs$Term")
abbrev wsX00 : List Cond := u_ws RX0 TX0 11
theorem nmX0 : ∀ a, a < 11 → ∀ b, b < 11 → a ≠ b → (TX0 a).2.1 ≠ (TX0 b).2.1 := by decide +kernel
theorem tyX0_ok : ∀ k, k < 11 → parseFieldDescriptor (TX0 k).2.2.1 = some (tyX0 k) := by decide +kernel
abbrev cX0_init : ByteArray := prog_2_method_1_code
def yX0_init : MethodName := ⟨RX0, "<init>", "()V"⟩
abbrev cX0_begin : ByteArray := prog_2_method_2_code
def yX0_begin : MethodName := ⟨RX0, "begin", "(II)V"⟩
abbrev cX0_endRound : ByteArray := prog_2_method_3_code
def yX0_endRound : MethodName := ⟨RX0, "endRound", "()Z"⟩
abbrev cX0_hasMet : ByteArray := prog_2_method_4_code
def yX0_hasMet : MethodName := ⟨RX0, "hasMet", "(I)Z"⟩
abbrev cX0_leastOfOther : ByteArray := prog_2_method_5_code
def yX0_leastOfOther : MethodName := ⟨RX0, "leastOfOther", "(II)I"⟩
abbrev cX0_greatestOfOther : ByteArray := prog_2_method_6_code
def yX0_greatestOfOther : MethodName := ⟨RX0, "greatestOfOther", "(II)I"⟩
abbrev cX0_judge : ByteArray := prog_2_method_7_code
def yX0_judge : MethodName := ⟨RX0, "judge", "(I)I"⟩
abbrev cX0_copyFrom : ByteArray := prog_2_method_8_code
def yX0_copyFrom : MethodName := ⟨RX0, "copyFrom", "(LQuietStairs$Case;)V"⟩
def RX1 : String := "QuietStairs$House"
def TX1 : u_T := fun k => match k with
  | 0 => ("QuietStairs$House", "partyCount", "I", false)
  | 1 => ("QuietStairs$House", "mediatorCount", "I", false)
  | 2 => ("QuietStairs$House", "caseCount", "I", false)
  | 3 => ("QuietStairs$House", "markCount", "I", false)
  | 4 => ("QuietStairs$House", "parties", "[LQuietStairs$Party;", true)
  | 5 => ("QuietStairs$House", "mediators", "[LQuietStairs$Mediator;", true)
  | _ => ("QuietStairs$House", "cases", "[LQuietStairs$Case;", true)
def tyX1 : Nat → FieldType := fun k => match k with
  | 0 => .int
  | 1 => .int
  | 2 => .int
  | 3 => .int
  | 4 => .array (.object "QuietStairs$Party")
  | 5 => .array (.object "QuietStairs$Mediator")
  | _ => .array (.object "QuietStairs$Case")
abbrev wsX10 : List Cond := u_ws RX1 TX1 7
theorem nmX1 : ∀ a, a < 7 → ∀ b, b < 7 → a ≠ b → (TX1 a).2.1 ≠ (TX1 b).2.1 := by decide +kernel
theorem tyX1_ok : ∀ k, k < 7 → parseFieldDescriptor (TX1 k).2.2.1 = some (tyX1 k) := by decide +kernel
abbrev cX1_init : ByteArray := prog_3_method_1_code
def yX1_init : MethodName := ⟨RX1, "<init>", "()V"⟩
abbrev cX1_hasPair : ByteArray := prog_3_method_2_code
def yX1_hasPair : MethodName := ⟨RX1, "hasPair", "(I)Z"⟩
abbrev cX1_pairFits : ByteArray := prog_3_method_3_code
def yX1_pairFits : MethodName := ⟨RX1, "pairFits", "(ILQuietStairs$Case;)Z"⟩
abbrev cX1_isNear : ByteArray := prog_3_method_4_code
def yX1_isNear : MethodName := ⟨RX1, "isNear", "(LQuietStairs$Mediator;I)Z"⟩
abbrev cX1_quarrelBits : ByteArray := prog_3_method_5_code
def yX1_quarrelBits : MethodName := ⟨RX1, "quarrelBits", "(I)I"⟩
abbrev cX1_headOfQuarrel : ByteArray := prog_3_method_6_code
def yX1_headOfQuarrel : MethodName := ⟨RX1, "headOfQuarrel", "(I)I"⟩
abbrev cX1_countQuarrels : ByteArray := prog_3_method_7_code
def yX1_countQuarrels : MethodName := ⟨RX1, "countQuarrels", "()I"⟩
abbrev cX1_countState : ByteArray := prog_3_method_8_code
def yX1_countState : MethodName := ⟨RX1, "countState", "(I)I"⟩
abbrev cX1_countTerms : ByteArray := prog_3_method_9_code
def yX1_countTerms : MethodName := ⟨RX1, "countTerms", "()I"⟩
abbrev cX1_countJudged : ByteArray := prog_3_method_10_code
def yX1_countJudged : MethodName := ⟨RX1, "countJudged", "(I)I"⟩
abbrev cX1_copyFrom : ByteArray := prog_3_method_11_code
def yX1_copyFrom : MethodName := ⟨RX1, "copyFrom", "(LQuietStairs$House;)V"⟩
def RX2 : String := "QuietStairs$Mediator"
def TX2 : u_T := fun k => match k with
  | 0 => ("QuietStairs$Mediator", "floor", "I", false)
  | 1 => ("QuietStairs$Mediator", "tongues", "I", false)
  | _ => ("QuietStairs$Mediator", "kinBits", "I", false)
def tyX2 : Nat → FieldType := fun k => match k with
  | 0 => .int
  | 1 => .int
  | _ => .int
abbrev wsX20 : List Cond := u_ws RX2 TX2 3
theorem nmX2 : ∀ a, a < 3 → ∀ b, b < 3 → a ≠ b → (TX2 a).2.1 ≠ (TX2 b).2.1 := by decide +kernel
theorem tyX2_ok : ∀ k, k < 3 → parseFieldDescriptor (TX2 k).2.2.1 = some (tyX2 k) := by decide +kernel
abbrev cX2_init : ByteArray := prog_4_method_1_code
def yX2_init : MethodName := ⟨RX2, "<init>", "()V"⟩
abbrev cX2_copyFrom : ByteArray := prog_4_method_2_code
def yX2_copyFrom : MethodName := ⟨RX2, "copyFrom", "(LQuietStairs$Mediator;)V"⟩
def RX3 : String := "QuietStairs$Party"
def TX3 : u_T := fun k => match k with
  | 0 => ("QuietStairs$Party", "floor", "I", false)
  | _ => ("QuietStairs$Party", "tongue", "I", false)
def tyX3 : Nat → FieldType := fun k => match k with
  | 0 => .int
  | _ => .int
abbrev wsX30 : List Cond := u_ws RX3 TX3 2
theorem nmX3 : ∀ a, a < 2 → ∀ b, b < 2 → a ≠ b → (TX3 a).2.1 ≠ (TX3 b).2.1 := by decide +kernel
theorem tyX3_ok : ∀ k, k < 2 → parseFieldDescriptor (TX3 k).2.2.1 = some (tyX3 k) := by decide +kernel
abbrev cX3_init : ByteArray := prog_5_method_1_code
def yX3_init : MethodName := ⟨RX3, "<init>", "()V"⟩
abbrev cX3_copyFrom : ByteArray := prog_5_method_2_code
def yX3_copyFrom : MethodName := ⟨RX3, "copyFrom", "(LQuietStairs$Party;)V"⟩
def RX4 : String := "QuietStairs$Planner"
def TX4 : u_T := fun k => match k with
  | 0 => ("QuietStairs$Planner", "leastWait", "I", false)
  | 1 => ("QuietStairs$Planner", "count", "I", false)
  | 2 => ("QuietStairs$Planner", "seatsADay", "I", false)
  | 3 => ("QuietStairs$Planner", "numbers", "[I", true)
  | 4 => ("QuietStairs$Planner", "weights", "[I", true)
  | 5 => ("QuietStairs$Planner", "pairBits", "[I", true)
  | 6 => ("QuietStairs$Planner", "heaviestFirst", "[I", true)
  | 7 => ("QuietStairs$Planner", "seats", "[I", true)
  | 8 => ("QuietStairs$Planner", "bestSeats", "[I", true)
  | 9 => ("QuietStairs$Planner", "busyBits", "[I", true)
  | _ => ("QuietStairs$Planner", "sittings", "[I", true)
def tyX4 : Nat → FieldType := fun k => match k with
  | 0 => .int
  | 1 => .int
  | 2 => .int
  | 3 => .array .int
  | 4 => .array .int
  | 5 => .array .int
  | 6 => .array .int
  | 7 => .array .int
  | 8 => .array .int
  | 9 => .array .int
  | _ => .array .int
abbrev wsX40 : List Cond := u_ws RX4 TX4 11
theorem nmX4 : ∀ a, a < 11 → ∀ b, b < 11 → a ≠ b → (TX4 a).2.1 ≠ (TX4 b).2.1 := by decide +kernel
theorem tyX4_ok : ∀ k, k < 11 → parseFieldDescriptor (TX4 k).2.2.1 = some (tyX4 k) := by decide +kernel
abbrev cX4_init : ByteArray := prog_6_method_1_code
def yX4_init : MethodName := ⟨RX4, "<init>", "()V"⟩
abbrev cX4_findPlan : ByteArray := prog_6_method_2_code
def yX4_findPlan : MethodName := ⟨RX4, "findPlan", "(LQuietStairs$House;I)V"⟩
abbrev cX4_seatOf : ByteArray := prog_6_method_3_code
def yX4_seatOf : MethodName := ⟨RX4, "seatOf", "(I)I"⟩
abbrev cX4_gather : ByteArray := prog_6_method_4_code
def yX4_gather : MethodName := ⟨RX4, "gather", "(LQuietStairs$House;)V"⟩
abbrev cX4_fittingPairs : ByteArray := prog_6_method_5_code
def yX4_fittingPairs : MethodName := ⟨RX4, "fittingPairs", "(LQuietStairs$House;LQuietStairs$Case;)I"⟩
abbrev cX4_sortByWeight : ByteArray := prog_6_method_6_code
def yX4_sortByWeight : MethodName := ⟨RX4, "sortByWeight", "()V"⟩
abbrev cX4_search : ByteArray := prog_6_method_7_code
def yX4_search : MethodName := ⟨RX4, "search", "(II)V"⟩
abbrev cX4_searchDay : ByteArray := prog_6_method_8_code
def yX4_searchDay : MethodName := ⟨RX4, "searchDay", "(III)V"⟩
abbrev cX4_leastBehind : ByteArray := prog_6_method_9_code
def yX4_leastBehind : MethodName := ⟨RX4, "leastBehind", "(I)I"⟩
def RX5 : String := "QuietStairs$Table"
def TX5 : u_T := fun k => match k with
  | 0 => ("QuietStairs$Table", "count", "I", false)
  | 1 => ("QuietStairs$Table", "musts", "[I", true)
  | _ => ("QuietStairs$Table", "hourBits", "[I", true)
def tyX5 : Nat → FieldType := fun k => match k with
  | 0 => .int
  | 1 => .array .int
  | _ => .array .int
abbrev wsX50 : List Cond := u_ws RX5 TX5 3
theorem nmX5 : ∀ a, a < 3 → ∀ b, b < 3 → a ≠ b → (TX5 a).2.1 ≠ (TX5 b).2.1 := by decide +kernel
theorem tyX5_ok : ∀ k, k < 3 → parseFieldDescriptor (TX5 k).2.2.1 = some (tyX5 k) := by decide +kernel
abbrev cX5_init : ByteArray := prog_7_method_1_code
def yX5_init : MethodName := ⟨RX5, "<init>", "()V"⟩
abbrev cX5_read : ByteArray := prog_7_method_2_code
def yX5_read : MethodName := ⟨RX5, "read", "(LQuietStairs$Case;II)V"⟩
abbrev cX5_allowedHours : ByteArray := prog_7_method_3_code
def yX5_allowedHours : MethodName := ⟨RX5, "allowedHours", "(LQuietStairs$Case;LQuietStairs$Term;I)I"⟩
abbrev cX5_stands : ByteArray := prog_7_method_4_code
def yX5_stands : MethodName := ⟨RX5, "stands", "()Z"⟩
abbrev cX5_hourOf : ByteArray := prog_7_method_5_code
def yX5_hourOf : MethodName := ⟨RX5, "hourOf", "(I)I"⟩
abbrev cX5_pinLeastHour : ByteArray := prog_7_method_6_code
def yX5_pinLeastHour : MethodName := ⟨RX5, "pinLeastHour", "(I)I"⟩
def RX6 : String := "QuietStairs$Term"
def TX6 : u_T := fun k => match k with
  | 0 => ("QuietStairs$Term", "side", "I", false)
  | 1 => ("QuietStairs$Term", "must", "Z", false)
  | 2 => ("QuietStairs$Term", "act", "I", false)
  | 3 => ("QuietStairs$Term", "first", "I", false)
  | _ => ("QuietStairs$Term", "last", "I", false)
def tyX6 : Nat → FieldType := fun k => match k with
  | 0 => .int
  | 1 => .boolean
  | 2 => .int
  | 3 => .int
  | _ => .int
abbrev wsX60 : List Cond := u_ws RX6 TX6 5
theorem nmX6 : ∀ a, a < 5 → ∀ b, b < 5 → a ≠ b → (TX6 a).2.1 ≠ (TX6 b).2.1 := by decide +kernel
theorem tyX6_ok : ∀ k, k < 5 → parseFieldDescriptor (TX6 k).2.2.1 = some (tyX6 k) := by decide +kernel
abbrev cX6_init : ByteArray := prog_8_method_1_code
def yX6_init : MethodName := ⟨RX6, "<init>", "()V"⟩
abbrev cX6_hourBits : ByteArray := prog_8_method_2_code
def yX6_hourBits : MethodName := ⟨RX6, "hourBits", "()I"⟩
abbrev cX6_copyFrom : ByteArray := prog_8_method_3_code
def yX6_copyFrom : MethodName := ⟨RX6, "copyFrom", "(LQuietStairs$Term;)V"⟩
def RX7 : String := "QuietStairs"
def TX7 : u_T := fun k => match k with
  | 0 => ("QuietStairs", "now", "LQuietStairs$House;", true)
  | 1 => ("QuietStairs", "planner", "LQuietStairs$Planner;", true)
  | 2 => ("QuietStairs", "table", "LQuietStairs$Table;", true)
  | 3 => ("QuietStairs", "kept", "LQuietStairs$House;", false)
  | _ => ("QuietStairs", "roomCount", "I", false)
def tyX7 : Nat → FieldType := fun k => match k with
  | 0 => .object "QuietStairs$House"
  | 1 => .object "QuietStairs$Planner"
  | 2 => .object "QuietStairs$Table"
  | 3 => .object "QuietStairs$House"
  | _ => .int
abbrev wsX70 : List Cond := u_ws RX7 TX7 5
theorem nmX7 : ∀ a, a < 5 → ∀ b, b < 5 → a ≠ b → (TX7 a).2.1 ≠ (TX7 b).2.1 := by decide +kernel
theorem tyX7_ok : ∀ k, k < 5 → parseFieldDescriptor (TX7 k).2.2.1 = some (tyX7 k) := by decide +kernel
abbrev cX7_init : ByteArray := prog_1_method_1_code
def yX7_init : MethodName := ⟨RX7, "<init>", "()V"⟩
abbrev cX7_party : ByteArray := prog_1_method_2_code
def yX7_party : MethodName := ⟨RX7, "party", "(II)I"⟩
abbrev cX7_mediator : ByteArray := prog_1_method_3_code
def yX7_mediator : MethodName := ⟨RX7, "mediator", "(II)I"⟩
abbrev cX7_kin : ByteArray := prog_1_method_4_code
def yX7_kin : MethodName := ⟨RX7, "kin", "(IIZ)I"⟩
abbrev cX7_open : ByteArray := prog_1_method_5_code
def yX7_open : MethodName := ⟨RX7, "open", "(II)I"⟩
abbrev cX7_close : ByteArray := prog_1_method_6_code
def yX7_close : MethodName := ⟨RX7, "close", "(I)I"⟩
abbrev cX7_weight : ByteArray := prog_1_method_7_code
def yX7_weight : MethodName := ⟨RX7, "weight", "(II)I"⟩
abbrev cX7_mark : ByteArray := prog_1_method_8_code
def yX7_mark : MethodName := ⟨RX7, "mark", "(II)I"⟩
abbrev cX7_of : ByteArray := prog_1_method_9_code
def yX7_of : MethodName := ⟨RX7, "of", "(II)I"⟩
abbrev cX7_offer : ByteArray := prog_1_method_10_code
def yX7_offer : MethodName := ⟨RX7, "offer", "(III)I"⟩
abbrev cX7_put : ByteArray := prog_1_method_11_code
def yX7_put : MethodName := ⟨RX7, "put", "(II)I"⟩
abbrev cX7_learns : ByteArray := prog_1_method_12_code
def yX7_learns : MethodName := ⟨RX7, "learns", "(IIIZ)I"⟩
abbrev cX7_maySit : ByteArray := prog_1_method_13_code
def yX7_maySit : MethodName := ⟨RX7, "maySit", "(II)I"⟩
abbrev cX7_rooms : ByteArray := prog_1_method_14_code
def yX7_rooms : MethodName := ⟨RX7, "rooms", "(I)I"⟩
abbrev cX7_plan : ByteArray := prog_1_method_15_code
def yX7_plan : MethodName := ⟨RX7, "plan", "(I)I"⟩
abbrev cX7_waits : ByteArray := prog_1_method_16_code
def yX7_waits : MethodName := ⟨RX7, "waits", "()I"⟩
abbrev cX7_term : ByteArray := prog_1_method_17_code
def yX7_term : MethodName := ⟨RX7, "term", "(IIZIII)I"⟩
abbrev cX7_strike : ByteArray := prog_1_method_18_code
def yX7_strike : MethodName := ⟨RX7, "strike", "(I)I"⟩
abbrev cX7_termOf : ByteArray := prog_1_method_19_code
def yX7_termOf : MethodName := ⟨RX7, "termOf", "(III)I"⟩
abbrev cX7_hour : ByteArray := prog_1_method_20_code
def yX7_hour : MethodName := ⟨RX7, "hour", "(II)I"⟩
abbrev cX7_canHold : ByteArray := prog_1_method_21_code
def yX7_canHold : MethodName := ⟨RX7, "canHold", "(II)I"⟩
abbrev cX7_breaks : ByteArray := prog_1_method_22_code
def yX7_breaks : MethodName := ⟨RX7, "breaks", "(II)I"⟩
abbrev cX7_log : ByteArray := prog_1_method_23_code
def yX7_log : MethodName := ⟨RX7, "log", "(IIII)I"⟩
abbrev cX7_judged : ByteArray := prog_1_method_24_code
def yX7_judged : MethodName := ⟨RX7, "judged", "(II)I"⟩
abbrev cX7_many : ByteArray := prog_1_method_25_code
def yX7_many : MethodName := ⟨RX7, "many", "(I)I"⟩
abbrev cX7_keep : ByteArray := prog_1_method_26_code
def yX7_keep : MethodName := ⟨RX7, "keep", "()I"⟩
abbrev cX7_back : ByteArray := prog_1_method_27_code
def yX7_back : MethodName := ⟨RX7, "back", "()I"⟩
abbrev cX7_isParty : ByteArray := prog_1_method_28_code
def yX7_isParty : MethodName := ⟨RX7, "isParty", "(I)Z"⟩
abbrev cX7_isMediator : ByteArray := prog_1_method_29_code
def yX7_isMediator : MethodName := ⟨RX7, "isMediator", "(I)Z"⟩
abbrev cX7_isCase : ByteArray := prog_1_method_30_code
def yX7_isCase : MethodName := ⟨RX7, "isCase", "(I)Z"⟩
abbrev cX7_isTerm : ByteArray := prog_1_method_31_code
def yX7_isTerm : MethodName := ⟨RX7, "isTerm", "(II)Z"⟩
abbrev cX7_isSide : ByteArray := prog_1_method_32_code
def yX7_isSide : MethodName := ⟨RX7, "isSide", "(I)Z"⟩
abbrev cX7_isHour : ByteArray := prog_1_method_33_code
def yX7_isHour : MethodName := ⟨RX7, "isHour", "(I)Z"⟩
abbrev cX7_isWithin : ByteArray := prog_1_method_34_code
def yX7_isWithin : MethodName := ⟨RX7, "isWithin", "(III)Z"⟩
abbrev cX7_hasBit : ByteArray := prog_1_method_35_code
def yX7_hasBit : MethodName := ⟨RX7, "hasBit", "(II)Z"⟩
def RX8 : String := "QuietStairsModel"
def TX8 : u_T := fun k => match k with
  | 0 => ("QuietStairsModel", "s", "[I", true)
  | 1 => ("QuietStairsModel", "kept", "[I", true)
  | 2 => ("QuietStairsModel", "isKept", "Z", false)
  | 3 => ("QuietStairsModel", "rooms", "I", false)
  | 4 => ("QuietStairsModel", "headOf", "[I", true)
  | 5 => ("QuietStairsModel", "many", "I", false)
  | 6 => ("QuietStairsModel", "planned", "[I", true)
  | 7 => ("QuietStairsModel", "tried", "[I", true)
  | 8 => ("QuietStairsModel", "best", "[I", true)
  | 9 => ("QuietStairsModel", "least", "I", false)
  | _ => ("QuietStairsModel", "hours", "[I", true)
def tyX8 : Nat → FieldType := fun k => match k with
  | 0 => .array .int
  | 1 => .array .int
  | 2 => .boolean
  | 3 => .int
  | 4 => .array .int
  | 5 => .int
  | 6 => .array .int
  | 7 => .array .int
  | 8 => .array .int
  | 9 => .int
  | _ => .array .int
abbrev wsX80 : List Cond := u_ws RX8 TX8 11
theorem nmX8 : ∀ a, a < 11 → ∀ b, b < 11 → a ≠ b → (TX8 a).2.1 ≠ (TX8 b).2.1 := by decide +kernel
theorem tyX8_ok : ∀ k, k < 11 → parseFieldDescriptor (TX8 k).2.2.1 = some (tyX8 k) := by decide +kernel
abbrev cX8_init : ByteArray := prog_10_method_1_code
def yX8_init : MethodName := ⟨RX8, "<init>", "()V"⟩
abbrev cX8_in : ByteArray := prog_10_method_2_code
def yX8_in : MethodName := ⟨RX8, "in", "(III)Z"⟩
abbrev cX8_isParty : ByteArray := prog_10_method_3_code
def yX8_isParty : MethodName := ⟨RX8, "isParty", "(I)Z"⟩
abbrev cX8_isMediator : ByteArray := prog_10_method_4_code
def yX8_isMediator : MethodName := ⟨RX8, "isMediator", "(I)Z"⟩
abbrev cX8_isCase : ByteArray := prog_10_method_5_code
def yX8_isCase : MethodName := ⟨RX8, "isCase", "(I)Z"⟩
abbrev cX8_isSide : ByteArray := prog_10_method_6_code
def yX8_isSide : MethodName := ⟨RX8, "isSide", "(I)Z"⟩
abbrev cX8_at : ByteArray := prog_10_method_7_code
def yX8_at : MethodName := ⟨RX8, "at", "(II)I"⟩
abbrev cX8_party : ByteArray := prog_10_method_8_code
def yX8_party : MethodName := ⟨RX8, "party", "(II)I"⟩
abbrev cX8_mediator : ByteArray := prog_10_method_9_code
def yX8_mediator : MethodName := ⟨RX8, "mediator", "(II)I"⟩
abbrev cX8_kin : ByteArray := prog_10_method_10_code
def yX8_kin : MethodName := ⟨RX8, "kin", "(IIZ)I"⟩
abbrev cX8_open : ByteArray := prog_10_method_11_code
def yX8_open : MethodName := ⟨RX8, "open", "(II)I"⟩
abbrev cX8_close : ByteArray := prog_10_method_12_code
def yX8_close : MethodName := ⟨RX8, "close", "(I)I"⟩
abbrev cX8_weight : ByteArray := prog_10_method_13_code
def yX8_weight : MethodName := ⟨RX8, "weight", "(II)I"⟩
abbrev cX8_mark : ByteArray := prog_10_method_14_code
def yX8_mark : MethodName := ⟨RX8, "mark", "(II)I"⟩
abbrev cX8_findHeads : ByteArray := prog_10_method_15_code
def yX8_findHeads : MethodName := ⟨RX8, "findHeads", "()V"⟩
abbrev cX8_joined : ByteArray := prog_10_method_16_code
def yX8_joined : MethodName := ⟨RX8, "joined", "(I)I"⟩
abbrev cX8_of : ByteArray := prog_10_method_17_code
def yX8_of : MethodName := ⟨RX8, "of", "(II)I"⟩
abbrev cX8_offer : ByteArray := prog_10_method_18_code
def yX8_offer : MethodName := ⟨RX8, "offer", "(III)I"⟩
abbrev cX8_put : ByteArray := prog_10_method_19_code
def yX8_put : MethodName := ⟨RX8, "put", "(II)I"⟩
abbrev cX8_learns : ByteArray := prog_10_method_20_code
def yX8_learns : MethodName := ⟨RX8, "learns", "(IIIZ)I"⟩
abbrev cX8_oneOf : ByteArray := prog_10_method_21_code
def yX8_oneOf : MethodName := ⟨RX8, "oneOf", "(I)I"⟩
abbrev cX8_otherOf : ByteArray := prog_10_method_22_code
def yX8_otherOf : MethodName := ⟨RX8, "otherOf", "(I)I"⟩
abbrev cX8_isPair : ByteArray := prog_10_method_23_code
def yX8_isPair : MethodName := ⟨RX8, "isPair", "(I)Z"⟩
abbrev cX8_mayMeet : ByteArray := prog_10_method_24_code
def yX8_mayMeet : MethodName := ⟨RX8, "mayMeet", "(II)Z"⟩
abbrev cX8_may : ByteArray := prog_10_method_25_code
def yX8_may : MethodName := ⟨RX8, "may", "(II)Z"⟩
abbrev cX8_maySit : ByteArray := prog_10_method_26_code
def yX8_maySit : MethodName := ⟨RX8, "maySit", "(II)I"⟩
abbrev cX8_rooms : ByteArray := prog_10_method_27_code
def yX8_rooms : MethodName := ⟨RX8, "rooms", "(I)I"⟩
abbrev cX8_fits : ByteArray := prog_10_method_28_code
def yX8_fits : MethodName := ⟨RX8, "fits", "(I)Z"⟩
abbrev cX8_waitsOf : ByteArray := prog_10_method_29_code
def yX8_waitsOf : MethodName := ⟨RX8, "waitsOf", "(I)I"⟩
abbrev cX8_note : ByteArray := prog_10_method_30_code
def yX8_note : MethodName := ⟨RX8, "note", "()V"⟩
abbrev cX8_makePlan : ByteArray := prog_10_method_31_code
def yX8_makePlan : MethodName := ⟨RX8, "makePlan", "()V"⟩
abbrev cX8_plan : ByteArray := prog_10_method_32_code
def yX8_plan : MethodName := ⟨RX8, "plan", "(I)I"⟩
abbrev cX8_waits : ByteArray := prog_10_method_33_code
def yX8_waits : MethodName := ⟨RX8, "waits", "()I"⟩
abbrev cX8_termAt : ByteArray := prog_10_method_34_code
def yX8_termAt : MethodName := ⟨RX8, "termAt", "(II)I"⟩
abbrev cX8_isTerm : ByteArray := prog_10_method_35_code
def yX8_isTerm : MethodName := ⟨RX8, "isTerm", "(II)Z"⟩
abbrev cX8_term : ByteArray := prog_10_method_36_code
def yX8_term : MethodName := ⟨RX8, "term", "(IIZIII)I"⟩
abbrev cX8_strike : ByteArray := prog_10_method_37_code
def yX8_strike : MethodName := ⟨RX8, "strike", "(I)I"⟩
abbrev cX8_termOf : ByteArray := prog_10_method_38_code
def yX8_termOf : MethodName := ⟨RX8, "termOf", "(III)I"⟩
abbrev cX8_isOwn : ByteArray := prog_10_method_39_code
def yX8_isOwn : MethodName := ⟨RX8, "isOwn", "(III)Z"⟩
abbrev cX8_mayBe : ByteArray := prog_10_method_40_code
def yX8_mayBe : MethodName := ⟨RX8, "mayBe", "(IIII)Z"⟩
abbrev cX8_hourFrom : ByteArray := prog_10_method_41_code
def yX8_hourFrom : MethodName := ⟨RX8, "hourFrom", "(IIIII)I"⟩
abbrev cX8_next : ByteArray := prog_10_method_42_code
def yX8_next : MethodName := ⟨RX8, "next", "(IIIII)I"⟩
abbrev cX8_makeTable : ByteArray := prog_10_method_43_code
def yX8_makeTable : MethodName := ⟨RX8, "makeTable", "(III)Z"⟩
abbrev cX8_hour : ByteArray := prog_10_method_44_code
def yX8_hour : MethodName := ⟨RX8, "hour", "(II)I"⟩
abbrev cX8_canHold : ByteArray := prog_10_method_45_code
def yX8_canHold : MethodName := ⟨RX8, "canHold", "(II)I"⟩
abbrev cX8_breaks : ByteArray := prog_10_method_46_code
def yX8_breaks : MethodName := ⟨RX8, "breaks", "(II)I"⟩
abbrev cX8_log : ByteArray := prog_10_method_47_code
def yX8_log : MethodName := ⟨RX8, "log", "(IIII)I"⟩
abbrev cX8_judge : ByteArray := prog_10_method_48_code
def yX8_judge : MethodName := ⟨RX8, "judge", "(II)I"⟩
abbrev cX8_judged : ByteArray := prog_10_method_49_code
def yX8_judged : MethodName := ⟨RX8, "judged", "(II)I"⟩
abbrev cX8_casesThat : ByteArray := prog_10_method_50_code
def yX8_casesThat : MethodName := ⟨RX8, "casesThat", "(I)I"⟩
abbrev cX8_quarrels : ByteArray := prog_10_method_51_code
def yX8_quarrels : MethodName := ⟨RX8, "quarrels", "()I"⟩
abbrev cX8_termsThat : ByteArray := prog_10_method_52_code
def yX8_termsThat : MethodName := ⟨RX8, "termsThat", "(I)I"⟩
abbrev cX8_many : ByteArray := prog_10_method_53_code
def yX8_many : MethodName := ⟨RX8, "many", "(I)I"⟩
abbrev cX8_keep : ByteArray := prog_10_method_54_code
def yX8_keep : MethodName := ⟨RX8, "keep", "()I"⟩
abbrev cX8_back : ByteArray := prog_10_method_55_code
def yX8_back : MethodName := ⟨RX8, "back", "()I"⟩
def RJ6 : String := "java/lang/Integer"
def TJ6 : u_T := fun k => match k with
  | _ => ("", "", "", false)
def tyJ6 : Nat → FieldType := fun k => match k with
  | _ => .int
abbrev wsJ60 : List Cond := u_ws RJ6 TJ6 0
theorem nmJ6 : ∀ a, a < 0 → ∀ b, b < 0 → a ≠ b → (TJ6 a).2.1 ≠ (TJ6 b).2.1 := by decide +kernel
theorem tyJ6_ok : ∀ k, k < 0 → parseFieldDescriptor (TJ6 k).2.2.1 = some (tyJ6 k) := by decide +kernel
abbrev cJ6_bitCount_0f7a4 : ByteArray := prog_11_method_49_code
def yJ6_bitCount_0f7a4 : MethodName := ⟨RJ6, "bitCount", "(I)I"⟩
def RJ9 : String := "java/lang/Math"
def TJ9 : u_T := fun k => match k with
  | _ => ("", "", "", false)
def tyJ9 : Nat → FieldType := fun k => match k with
  | _ => .int
abbrev wsJ90 : List Cond := u_ws RJ9 TJ9 0
theorem nmJ9 : ∀ a, a < 0 → ∀ b, b < 0 → a ≠ b → (TJ9 a).2.1 ≠ (TJ9 b).2.1 := by decide +kernel
theorem tyJ9_ok : ∀ k, k < 0 → parseFieldDescriptor (TJ9 k).2.2.1 = some (tyJ9 k) := by decide +kernel
abbrev cJ9_max_7cf53 : ByteArray := prog_12_method_65_code
def yJ9_max_7cf53 : MethodName := ⟨RJ9, "max", "(II)I"⟩
abbrev cJ9_min_7cf53 : ByteArray := prog_12_method_69_code
def yJ9_min_7cf53 : MethodName := ⟨RJ9, "min", "(II)I"⟩
def RJ10 : String := "java/lang/System"
def TJ10 : u_T := fun k => match k with
  | _ => ("", "", "", false)
def tyJ10 : Nat → FieldType := fun k => match k with
  | _ => .int
abbrev wsJ100 : List Cond := u_ws RJ10 TJ10 0
theorem nmJ10 : ∀ a, a < 0 → ∀ b, b < 0 → a ≠ b → (TJ10 a).2.1 ≠ (TJ10 b).2.1 := by decide +kernel
theorem tyJ10_ok : ∀ k, k < 0 → parseFieldDescriptor (TJ10 k).2.2.1 = some (tyJ10 k) := by decide +kernel
def RL : String := "QuietStairsLaw"
abbrev cL_law : ByteArray := code
def yL_law : MethodName := ⟨RL, "law", "([I)Z"⟩
def wsX6_init : List Cond := .code yX6_init cX6_init 1 none :: ([.methodLink RX6 1 objectInit, .instanceMethod objectInit, .code objectInit ⟨#[0xb1]⟩ 1 none])
def wsX0_init : List Cond := .code yX0_init cX0_init 2 none :: ([.methodLink RX0 3 objectInit, .instanceMethod objectInit, .code objectInit ⟨#[0xb1]⟩ 1 none, .arrayClass .int, .fieldLink RX0 9 "QuietStairs$Case" "parties" "[I", .fieldLink RX0 15 "QuietStairs$Case" "box" "[I", .classLink RX0 18 "[[I", .fieldLink RX0 20 "QuietStairs$Case" "offers" "[[I", .fieldLink RX0 23 "QuietStairs$Case" "logs" "[[I", .classLink RX0 26 RX6, .fieldLink RX0 28 "QuietStairs$Case" "terms" "[LQuietStairs$Term;", .instantiable RX6 5, .initialized RX6, .instanceMethod yX6_init, .code yX6_init cX6_init 1 none, .methodLink RX6 1 objectInit] ++ wsX00 ++ wsX60)
def wsX0_begin : List Cond := .code yX0_begin cX0_begin 5 none :: ([.fieldLink RX0 33 "QuietStairs$Case" "state" "I", .fieldLink RX0 37 "QuietStairs$Case" "sum" "I", .fieldLink RX0 40 "QuietStairs$Case" "roundsOver" "I", .fieldLink RX0 43 "QuietStairs$Case" "weight" "I", .fieldLink RX0 46 "QuietStairs$Case" "markedBits" "I", .fieldLink RX0 49 "QuietStairs$Case" "termCount" "I", .fieldLink RX0 9 "QuietStairs$Case" "parties" "[I", .fieldLink RX0 15 "QuietStairs$Case" "box" "[I", .fieldLink RX0 23 "QuietStairs$Case" "logs" "[[I"] ++ wsX00)
def wsX0_endRound : List Cond := .code yX0_endRound cX0_endRound 3 (some .boolean) :: ([.fieldLink RX0 15 "QuietStairs$Case" "box" "[I", .fieldLink RX0 40 "QuietStairs$Case" "roundsOver" "I", .fieldLink RX0 20 "QuietStairs$Case" "offers" "[[I", .fieldLink RX0 33 "QuietStairs$Case" "state" "I", .fieldLink RX0 37 "QuietStairs$Case" "sum" "I"] ++ wsX00)
def wsX0_hasMet : List Cond := .code yX0_hasMet cX0_hasMet 2 (some .boolean) :: ([.fieldLink RX0 33 "QuietStairs$Case" "state" "I", .fieldLink RX0 40 "QuietStairs$Case" "roundsOver" "I"] ++ wsX00)
def wsX0_leastOfOther : List Cond := .code yX0_leastOfOther cX0_leastOfOther 5 (some .int) :: ([.fieldLink RX0 20 "QuietStairs$Case" "offers" "[[I", .fieldLink RX0 37 "QuietStairs$Case" "sum" "I", .methodLink RX0 56 Lib.Math.max.name, .static Lib.Math.max.name, .initialized "java/lang/Math", .code Lib.Math.max.name Lib.Math.max.code 2 (some .int), .methodLink RX0 52 yX0_hasMet, .instanceMethod yX0_hasMet, .selects RX0 yX0_hasMet yX0_hasMet, .initialized RX0, .code yX0_hasMet cX0_hasMet 2 (some .boolean), .fieldLink RX0 33 "QuietStairs$Case" "state" "I", .fieldLink RX0 40 "QuietStairs$Case" "roundsOver" "I"] ++ wsX00)
def wsX0_greatestOfOther : List Cond := .code yX0_greatestOfOther cX0_greatestOfOther 5 (some .int) :: ([.fieldLink RX0 20 "QuietStairs$Case" "offers" "[[I", .fieldLink RX0 37 "QuietStairs$Case" "sum" "I", .methodLink RX0 62 Lib.Math.min.name, .static Lib.Math.min.name, .initialized "java/lang/Math", .code Lib.Math.min.name Lib.Math.min.code 2 (some .int), .methodLink RX0 52 yX0_hasMet, .instanceMethod yX0_hasMet, .selects RX0 yX0_hasMet yX0_hasMet, .initialized RX0, .code yX0_hasMet cX0_hasMet 2 (some .boolean), .fieldLink RX0 33 "QuietStairs$Case" "state" "I", .fieldLink RX0 40 "QuietStairs$Case" "roundsOver" "I"] ++ wsX00)
def wsX0_judge : List Cond := .code yX0_judge cX0_judge 6 (some .int) :: ([.fieldLink RX0 28 "QuietStairs$Case" "terms" "[LQuietStairs$Term;", .fieldLink RX0 65 "QuietStairs$Term" "first" "I", .fieldLink RX0 68 "QuietStairs$Term" "last" "I", .fieldLink RX0 23 "QuietStairs$Case" "logs" "[[I", .fieldLink RX0 71 "QuietStairs$Term" "side" "I", .fieldLink RX0 74 "QuietStairs$Term" "act" "I", .fieldLink RX0 77 "QuietStairs$Term" "must" "Z"] ++ wsX00 ++ wsX60)
def wsX6_copyFrom : List Cond := .code yX6_copyFrom cX6_copyFrom 2 none :: ([.fieldLink RX6 16 "QuietStairs$Term" "side" "I", .fieldLink RX6 19 "QuietStairs$Term" "must" "Z", .fieldLink RX6 23 "QuietStairs$Term" "act" "I", .fieldLink RX6 13 "QuietStairs$Term" "first" "I", .fieldLink RX6 7 "QuietStairs$Term" "last" "I"] ++ wsX60)
def wsX0_copyFrom_r1 : List Cond := [Cond.fieldLink RX0 33 "QuietStairs$Case" "state" "I", Cond.fieldLink RX0 37 "QuietStairs$Case" "sum" "I", Cond.fieldLink RX0 40 "QuietStairs$Case" "roundsOver" "I", Cond.fieldLink RX0 43 "QuietStairs$Case" "weight" "I", Cond.fieldLink RX0 46 "QuietStairs$Case" "markedBits" "I", Cond.fieldLink RX0 49 "QuietStairs$Case" "termCount" "I", Cond.fieldLink RX0 9 "QuietStairs$Case" "parties" "[I", Cond.fieldLink RX0 15 "QuietStairs$Case" "box" "[I", Cond.fieldLink RX0 20 "QuietStairs$Case" "offers" "[[I", Cond.methodLink RX0 81 arraycopyName, Cond.native arraycopyName, Cond.static arraycopyName, Cond.initialized "java/lang/System", Cond.fieldLink RX0 23 "QuietStairs$Case" "logs" "[[I", Cond.fieldLink RX0 28 "QuietStairs$Case" "terms" "[LQuietStairs$Term;", Cond.methodLink RX0 87 yX6_copyFrom, Cond.instanceMethod yX6_copyFrom, Cond.selects RX6 yX6_copyFrom yX6_copyFrom, Cond.initialized RX6, Cond.code yX6_copyFrom cX6_copyFrom 2 none, Cond.fieldLink RX6 16 "QuietStairs$Term" "side" "I", Cond.fieldLink RX6 19 "QuietStairs$Term" "must" "Z", Cond.fieldLink RX6 23 "QuietStairs$Term" "act" "I", Cond.fieldLink RX6 13 "QuietStairs$Term" "first" "I"]
def wsX0_copyFrom_r2 : List Cond := [Cond.fieldLink RX6 7 "QuietStairs$Term" "last" "I"]
def wsX0_copyFrom : List Cond := .code yX0_copyFrom cX0_copyFrom 3 none :: ((wsX0_copyFrom_r1 ++ wsX0_copyFrom_r2) ++ wsX00 ++ wsX60)
def wsX3_init : List Cond := .code yX3_init cX3_init 1 none :: ([.methodLink RX3 1 objectInit, .instanceMethod objectInit, .code objectInit ⟨#[0xb1]⟩ 1 none])
def wsX2_init : List Cond := .code yX2_init cX2_init 1 none :: ([.methodLink RX2 1 objectInit, .instanceMethod objectInit, .code objectInit ⟨#[0xb1]⟩ 1 none])
def wsX1_init_r1 : List Cond := [Cond.methodLink RX1 3 objectInit, Cond.instanceMethod objectInit, Cond.code objectInit ⟨#[0xb1]⟩ 1 none, Cond.classLink RX1 9 RX3, Cond.fieldLink RX1 11 "QuietStairs$House" "parties" "[LQuietStairs$Party;", Cond.classLink RX1 17 RX2, Cond.fieldLink RX1 19 "QuietStairs$House" "mediators" "[LQuietStairs$Mediator;", Cond.classLink RX1 23 RX0, Cond.fieldLink RX1 25 "QuietStairs$House" "cases" "[LQuietStairs$Case;", Cond.instantiable RX3 2, Cond.initialized RX3, Cond.instantiable RX2 3, Cond.initialized RX2, Cond.instantiable RX0 11, Cond.initialized RX0, Cond.instanceMethod yX3_init, Cond.code yX3_init cX3_init 1 none, Cond.methodLink RX3 1 objectInit, Cond.instanceMethod yX2_init, Cond.code yX2_init cX2_init 1 none, Cond.methodLink RX2 1 objectInit, Cond.methodLink RX1 31 yX0_init, Cond.instanceMethod yX0_init, Cond.code yX0_init cX0_init 2 none]
def wsX1_init_r2 : List Cond := [Cond.methodLink RX0 3 objectInit, Cond.arrayClass .int, Cond.fieldLink RX0 9 "QuietStairs$Case" "parties" "[I", Cond.fieldLink RX0 15 "QuietStairs$Case" "box" "[I", Cond.classLink RX0 18 "[[I", Cond.fieldLink RX0 20 "QuietStairs$Case" "offers" "[[I", Cond.fieldLink RX0 23 "QuietStairs$Case" "logs" "[[I", Cond.classLink RX0 26 RX6, Cond.fieldLink RX0 28 "QuietStairs$Case" "terms" "[LQuietStairs$Term;", Cond.instantiable RX6 5, Cond.initialized RX6, Cond.instanceMethod yX6_init, Cond.code yX6_init cX6_init 1 none, Cond.methodLink RX6 1 objectInit]
def wsX1_init : List Cond := .code yX1_init cX1_init 2 none :: ((wsX1_init_r1 ++ wsX1_init_r2) ++ wsX10 ++ wsX30 ++ wsX20 ++ wsX00 ++ wsX60)
def wsX1_hasPair : List Cond := .code yX1_hasPair cX1_hasPair 2 (some .boolean) :: ([.fieldLink RX1 36 "QuietStairs$House" "mediatorCount" "I"] ++ wsX10)
def wsX7_hasBit : List Cond := .code yX7_hasBit cX7_hasBit 2 (some .boolean) :: ([])
def wsX1_isNear : List Cond := .code yX1_isNear cX1_isNear 3 (some .boolean) :: ([.fieldLink RX1 59 "QuietStairs$Mediator" "kinBits" "I", .fieldLink RX1 62 "QuietStairs$Mediator" "floor" "I", .fieldLink RX1 11 "QuietStairs$House" "parties" "[LQuietStairs$Party;", .fieldLink RX1 65 "QuietStairs$Party" "floor" "I", .static yX7_hasBit, .initialized RX7, .code yX7_hasBit cX7_hasBit 2 (some .boolean)] ++ wsX20 ++ wsX10 ++ wsX30)
def wsX1_pairFits : List Cond := .code yX1_pairFits cX1_pairFits 8 (some .boolean) :: ([.fieldLink RX1 19 "QuietStairs$House" "mediators" "[LQuietStairs$Mediator;", .fieldLink RX1 43 "QuietStairs$Mediator" "tongues" "I", .fieldLink RX1 46 "QuietStairs$Case" "parties" "[I", .fieldLink RX1 11 "QuietStairs$House" "parties" "[LQuietStairs$Party;", .fieldLink RX1 48 "QuietStairs$Party" "tongue" "I", .static yX7_hasBit, .initialized RX7, .code yX7_hasBit cX7_hasBit 2 (some .boolean), .methodLink RX1 55 yX1_isNear, .instanceMethod yX1_isNear, .selects RX1 yX1_isNear yX1_isNear, .initialized RX1, .code yX1_isNear cX1_isNear 3 (some .boolean), .fieldLink RX1 59 "QuietStairs$Mediator" "kinBits" "I", .fieldLink RX1 62 "QuietStairs$Mediator" "floor" "I", .fieldLink RX1 65 "QuietStairs$Party" "floor" "I"] ++ wsX10 ++ wsX20 ++ wsX00 ++ wsX30)
def wsX1_quarrelBits : List Cond := .code yX1_quarrelBits cX1_quarrelBits 5 (some .int) :: ([.fieldLink RX1 66 "QuietStairs$House" "caseCount" "I", .fieldLink RX1 25 "QuietStairs$House" "cases" "[LQuietStairs$Case;", .fieldLink RX1 69 "QuietStairs$Case" "markedBits" "I", .static yX7_hasBit, .initialized RX7, .code yX7_hasBit cX7_hasBit 2 (some .boolean)] ++ wsX10 ++ wsX00)
def wsX1_headOfQuarrel : List Cond := .code yX1_headOfQuarrel cX1_headOfQuarrel 4 (some .int) :: ([.methodLink RX1 72 yX1_quarrelBits, .instanceMethod yX1_quarrelBits, .selects RX1 yX1_quarrelBits yX1_quarrelBits, .initialized RX1, .code yX1_quarrelBits cX1_quarrelBits 5 (some .int), .fieldLink RX1 66 "QuietStairs$House" "caseCount" "I", .fieldLink RX1 25 "QuietStairs$House" "cases" "[LQuietStairs$Case;", .fieldLink RX1 69 "QuietStairs$Case" "markedBits" "I", .static yX7_hasBit, .initialized RX7, .code yX7_hasBit cX7_hasBit 2 (some .boolean)] ++ wsX10 ++ wsX00)
def wsX1_countQuarrels : List Cond := .code yX1_countQuarrels cX1_countQuarrels 3 (some .int) :: ([.fieldLink RX1 66 "QuietStairs$House" "caseCount" "I", .methodLink RX1 76 yX1_headOfQuarrel, .instanceMethod yX1_headOfQuarrel, .selects RX1 yX1_headOfQuarrel yX1_headOfQuarrel, .initialized RX1, .code yX1_headOfQuarrel cX1_headOfQuarrel 4 (some .int), .methodLink RX1 72 yX1_quarrelBits, .instanceMethod yX1_quarrelBits, .selects RX1 yX1_quarrelBits yX1_quarrelBits, .code yX1_quarrelBits cX1_quarrelBits 5 (some .int), .fieldLink RX1 25 "QuietStairs$House" "cases" "[LQuietStairs$Case;", .fieldLink RX1 69 "QuietStairs$Case" "markedBits" "I", .static yX7_hasBit, .initialized RX7, .code yX7_hasBit cX7_hasBit 2 (some .boolean)] ++ wsX10 ++ wsX00)
def wsX1_countState : List Cond := .code yX1_countState cX1_countState 4 (some .int) :: ([.fieldLink RX1 66 "QuietStairs$House" "caseCount" "I", .fieldLink RX1 25 "QuietStairs$House" "cases" "[LQuietStairs$Case;", .fieldLink RX1 79 "QuietStairs$Case" "state" "I"] ++ wsX10 ++ wsX00)
def wsX1_countTerms : List Cond := .code yX1_countTerms cX1_countTerms 3 (some .int) :: ([.fieldLink RX1 66 "QuietStairs$House" "caseCount" "I", .fieldLink RX1 25 "QuietStairs$House" "cases" "[LQuietStairs$Case;", .fieldLink RX1 82 "QuietStairs$Case" "termCount" "I"] ++ wsX10 ++ wsX00)
def wsX1_countJudged : List Cond := .code yX1_countJudged cX1_countJudged 5 (some .int) :: ([.fieldLink RX1 66 "QuietStairs$House" "caseCount" "I", .fieldLink RX1 25 "QuietStairs$House" "cases" "[LQuietStairs$Case;", .fieldLink RX1 82 "QuietStairs$Case" "termCount" "I", .methodLink RX1 85 yX0_judge, .instanceMethod yX0_judge, .selects RX0 yX0_judge yX0_judge, .initialized RX0, .code yX0_judge cX0_judge 6 (some .int), .fieldLink RX0 28 "QuietStairs$Case" "terms" "[LQuietStairs$Term;", .fieldLink RX0 65 "QuietStairs$Term" "first" "I", .fieldLink RX0 68 "QuietStairs$Term" "last" "I", .fieldLink RX0 23 "QuietStairs$Case" "logs" "[[I", .fieldLink RX0 71 "QuietStairs$Term" "side" "I", .fieldLink RX0 74 "QuietStairs$Term" "act" "I", .fieldLink RX0 77 "QuietStairs$Term" "must" "Z"] ++ wsX10 ++ wsX00 ++ wsX60)
def wsX3_copyFrom : List Cond := .code yX3_copyFrom cX3_copyFrom 2 none :: ([.fieldLink RX3 7 "QuietStairs$Party" "floor" "I", .fieldLink RX3 13 "QuietStairs$Party" "tongue" "I"] ++ wsX30)
def wsX2_copyFrom : List Cond := .code yX2_copyFrom cX2_copyFrom 2 none :: ([.fieldLink RX2 7 "QuietStairs$Mediator" "floor" "I", .fieldLink RX2 13 "QuietStairs$Mediator" "tongues" "I", .fieldLink RX2 16 "QuietStairs$Mediator" "kinBits" "I"] ++ wsX20)
def wsX1_copyFrom_r1 : List Cond := [Cond.fieldLink RX1 88 "QuietStairs$House" "partyCount" "I", Cond.fieldLink RX1 36 "QuietStairs$House" "mediatorCount" "I", Cond.fieldLink RX1 66 "QuietStairs$House" "caseCount" "I", Cond.fieldLink RX1 91 "QuietStairs$House" "markCount" "I", Cond.fieldLink RX1 11 "QuietStairs$House" "parties" "[LQuietStairs$Party;", Cond.fieldLink RX1 19 "QuietStairs$House" "mediators" "[LQuietStairs$Mediator;", Cond.fieldLink RX1 25 "QuietStairs$House" "cases" "[LQuietStairs$Case;", Cond.methodLink RX1 94 yX3_copyFrom, Cond.instanceMethod yX3_copyFrom, Cond.selects RX3 yX3_copyFrom yX3_copyFrom, Cond.initialized RX3, Cond.code yX3_copyFrom cX3_copyFrom 2 none, Cond.fieldLink RX3 7 "QuietStairs$Party" "floor" "I", Cond.fieldLink RX3 13 "QuietStairs$Party" "tongue" "I", Cond.methodLink RX1 98 yX2_copyFrom, Cond.instanceMethod yX2_copyFrom, Cond.selects RX2 yX2_copyFrom yX2_copyFrom, Cond.initialized RX2, Cond.code yX2_copyFrom cX2_copyFrom 2 none, Cond.fieldLink RX2 7 "QuietStairs$Mediator" "floor" "I", Cond.fieldLink RX2 13 "QuietStairs$Mediator" "tongues" "I", Cond.fieldLink RX2 16 "QuietStairs$Mediator" "kinBits" "I", Cond.methodLink RX1 101 yX0_copyFrom, Cond.instanceMethod yX0_copyFrom]
def wsX1_copyFrom_r2 : List Cond := [Cond.selects RX0 yX0_copyFrom yX0_copyFrom, Cond.initialized RX0, Cond.code yX0_copyFrom cX0_copyFrom 3 none, Cond.fieldLink RX0 33 "QuietStairs$Case" "state" "I", Cond.fieldLink RX0 37 "QuietStairs$Case" "sum" "I", Cond.fieldLink RX0 40 "QuietStairs$Case" "roundsOver" "I", Cond.fieldLink RX0 43 "QuietStairs$Case" "weight" "I", Cond.fieldLink RX0 46 "QuietStairs$Case" "markedBits" "I", Cond.fieldLink RX0 49 "QuietStairs$Case" "termCount" "I", Cond.fieldLink RX0 9 "QuietStairs$Case" "parties" "[I", Cond.fieldLink RX0 15 "QuietStairs$Case" "box" "[I", Cond.fieldLink RX0 20 "QuietStairs$Case" "offers" "[[I", Cond.methodLink RX0 81 arraycopyName, Cond.native arraycopyName, Cond.static arraycopyName, Cond.initialized "java/lang/System", Cond.fieldLink RX0 23 "QuietStairs$Case" "logs" "[[I", Cond.fieldLink RX0 28 "QuietStairs$Case" "terms" "[LQuietStairs$Term;", Cond.methodLink RX0 87 yX6_copyFrom, Cond.instanceMethod yX6_copyFrom, Cond.selects RX6 yX6_copyFrom yX6_copyFrom, Cond.initialized RX6, Cond.code yX6_copyFrom cX6_copyFrom 2 none, Cond.fieldLink RX6 16 "QuietStairs$Term" "side" "I"]
def wsX1_copyFrom_r3 : List Cond := [Cond.fieldLink RX6 19 "QuietStairs$Term" "must" "Z", Cond.fieldLink RX6 23 "QuietStairs$Term" "act" "I", Cond.fieldLink RX6 13 "QuietStairs$Term" "first" "I", Cond.fieldLink RX6 7 "QuietStairs$Term" "last" "I"]
def wsX1_copyFrom : List Cond := .code yX1_copyFrom cX1_copyFrom 3 none :: ((wsX1_copyFrom_r1 ++ (wsX1_copyFrom_r2 ++ wsX1_copyFrom_r3)) ++ wsX10 ++ wsX30 ++ wsX20 ++ wsX00 ++ wsX60)
def wsX4_init : List Cond := .code yX4_init cX4_init 1 none :: ([.methodLink RX4 3 objectInit, .instanceMethod objectInit, .code objectInit ⟨#[0xb1]⟩ 1 none, .arrayClass .int, .fieldLink RX4 9 "QuietStairs$Planner" "numbers" "[I", .fieldLink RX4 15 "QuietStairs$Planner" "weights" "[I", .fieldLink RX4 18 "QuietStairs$Planner" "pairBits" "[I", .fieldLink RX4 21 "QuietStairs$Planner" "heaviestFirst" "[I", .fieldLink RX4 24 "QuietStairs$Planner" "seats" "[I", .fieldLink RX4 27 "QuietStairs$Planner" "bestSeats" "[I", .fieldLink RX4 30 "QuietStairs$Planner" "busyBits" "[I", .fieldLink RX4 33 "QuietStairs$Planner" "sittings" "[I"] ++ wsX40)
def wsX4_fittingPairs_r1 : List Cond := [Cond.methodLink RX4 87 yX1_hasPair, Cond.instanceMethod yX1_hasPair, Cond.selects RX1 yX1_hasPair yX1_hasPair, Cond.initialized RX1, Cond.code yX1_hasPair cX1_hasPair 2 (some .boolean), Cond.fieldLink RX1 36 "QuietStairs$House" "mediatorCount" "I", Cond.methodLink RX4 91 yX1_pairFits, Cond.instanceMethod yX1_pairFits, Cond.selects RX1 yX1_pairFits yX1_pairFits, Cond.code yX1_pairFits cX1_pairFits 8 (some .boolean), Cond.fieldLink RX1 19 "QuietStairs$House" "mediators" "[LQuietStairs$Mediator;", Cond.fieldLink RX1 43 "QuietStairs$Mediator" "tongues" "I", Cond.fieldLink RX1 46 "QuietStairs$Case" "parties" "[I", Cond.fieldLink RX1 11 "QuietStairs$House" "parties" "[LQuietStairs$Party;", Cond.fieldLink RX1 48 "QuietStairs$Party" "tongue" "I", Cond.static yX7_hasBit, Cond.initialized RX7, Cond.code yX7_hasBit cX7_hasBit 2 (some .boolean), Cond.methodLink RX1 55 yX1_isNear, Cond.instanceMethod yX1_isNear, Cond.selects RX1 yX1_isNear yX1_isNear, Cond.code yX1_isNear cX1_isNear 3 (some .boolean), Cond.fieldLink RX1 59 "QuietStairs$Mediator" "kinBits" "I", Cond.fieldLink RX1 62 "QuietStairs$Mediator" "floor" "I"]
def wsX4_fittingPairs_r2 : List Cond := [Cond.fieldLink RX1 65 "QuietStairs$Party" "floor" "I"]
def wsX4_fittingPairs : List Cond := .code yX4_fittingPairs cX4_fittingPairs 4 (some .int) :: ((wsX4_fittingPairs_r1 ++ wsX4_fittingPairs_r2) ++ wsX10 ++ wsX20 ++ wsX00 ++ wsX30)
def wsX4_gather_r1 : List Cond := [Cond.fieldLink RX4 61 "QuietStairs$Planner" "count" "I", Cond.fieldLink RX4 68 "QuietStairs$House" "caseCount" "I", Cond.fieldLink RX4 71 "QuietStairs$House" "cases" "[LQuietStairs$Case;", Cond.fieldLink RX4 75 "QuietStairs$Case" "state" "I", Cond.fieldLink RX4 9 "QuietStairs$Planner" "numbers" "[I", Cond.fieldLink RX4 15 "QuietStairs$Planner" "weights" "[I", Cond.fieldLink RX4 80 "QuietStairs$Case" "weight" "I", Cond.fieldLink RX4 18 "QuietStairs$Planner" "pairBits" "[I", Cond.methodLink RX4 83 yX4_fittingPairs, Cond.static yX4_fittingPairs, Cond.initialized RX4, Cond.code yX4_fittingPairs cX4_fittingPairs 4 (some .int), Cond.methodLink RX4 87 yX1_hasPair, Cond.instanceMethod yX1_hasPair, Cond.selects RX1 yX1_hasPair yX1_hasPair, Cond.initialized RX1, Cond.code yX1_hasPair cX1_hasPair 2 (some .boolean), Cond.fieldLink RX1 36 "QuietStairs$House" "mediatorCount" "I", Cond.methodLink RX4 91 yX1_pairFits, Cond.instanceMethod yX1_pairFits, Cond.selects RX1 yX1_pairFits yX1_pairFits, Cond.code yX1_pairFits cX1_pairFits 8 (some .boolean), Cond.fieldLink RX1 19 "QuietStairs$House" "mediators" "[LQuietStairs$Mediator;", Cond.fieldLink RX1 43 "QuietStairs$Mediator" "tongues" "I"]
def wsX4_gather_r2 : List Cond := [Cond.fieldLink RX1 46 "QuietStairs$Case" "parties" "[I", Cond.fieldLink RX1 11 "QuietStairs$House" "parties" "[LQuietStairs$Party;", Cond.fieldLink RX1 48 "QuietStairs$Party" "tongue" "I", Cond.static yX7_hasBit, Cond.initialized RX7, Cond.code yX7_hasBit cX7_hasBit 2 (some .boolean), Cond.methodLink RX1 55 yX1_isNear, Cond.instanceMethod yX1_isNear, Cond.selects RX1 yX1_isNear yX1_isNear, Cond.code yX1_isNear cX1_isNear 3 (some .boolean), Cond.fieldLink RX1 59 "QuietStairs$Mediator" "kinBits" "I", Cond.fieldLink RX1 62 "QuietStairs$Mediator" "floor" "I", Cond.fieldLink RX1 65 "QuietStairs$Party" "floor" "I"]
def wsX4_gather : List Cond := .code yX4_gather cX4_gather 4 none :: ((wsX4_gather_r1 ++ wsX4_gather_r2) ++ wsX40 ++ wsX10 ++ wsX00 ++ wsX20 ++ wsX30)
def wsX4_sortByWeight : List Cond := .code yX4_sortByWeight cX4_sortByWeight 3 none :: ([.fieldLink RX4 61 "QuietStairs$Planner" "count" "I", .fieldLink RX4 15 "QuietStairs$Planner" "weights" "[I", .fieldLink RX4 21 "QuietStairs$Planner" "heaviestFirst" "[I"] ++ wsX40)
def wsX4_leastBehind : List Cond := .code yX4_leastBehind cX4_leastBehind 8 (some .int) :: ([.fieldLink RX4 33 "QuietStairs$Planner" "sittings" "[I", .fieldLink RX4 61 "QuietStairs$Planner" "count" "I", .fieldLink RX4 21 "QuietStairs$Planner" "heaviestFirst" "[I", .fieldLink RX4 48 "QuietStairs$Planner" "seatsADay" "I", .fieldLink RX4 18 "QuietStairs$Planner" "pairBits" "[I", .fieldLink RX4 15 "QuietStairs$Planner" "weights" "[I"] ++ wsX40)
def wsX4_search_r1 : List Cond := [Cond.fieldLink RX4 58 "QuietStairs$Planner" "leastWait" "I", Cond.fieldLink RX4 61 "QuietStairs$Planner" "count" "I", Cond.fieldLink RX4 24 "QuietStairs$Planner" "seats" "[I", Cond.fieldLink RX4 27 "QuietStairs$Planner" "bestSeats" "[I", Cond.methodLink RX4 99 arraycopyName, Cond.native arraycopyName, Cond.static arraycopyName, Cond.initialized "java/lang/System", Cond.fieldLink RX4 33 "QuietStairs$Planner" "sittings" "[I", Cond.fieldLink RX4 48 "QuietStairs$Planner" "seatsADay" "I", Cond.fieldLink RX4 15 "QuietStairs$Planner" "weights" "[I", Cond.methodLink RX4 95 yX4_leastBehind, Cond.instanceMethod yX4_leastBehind, Cond.selects RX4 yX4_leastBehind yX4_leastBehind, Cond.initialized RX4, Cond.code yX4_leastBehind cX4_leastBehind 8 (some .int), Cond.fieldLink RX4 21 "QuietStairs$Planner" "heaviestFirst" "[I", Cond.fieldLink RX4 18 "QuietStairs$Planner" "pairBits" "[I", Cond.methodLink RX4 105 yX4_searchDay, Cond.instanceMethod yX4_searchDay, Cond.selects RX4 yX4_searchDay yX4_searchDay, Cond.methodLink RX4 64 yX4_search, Cond.instanceMethod yX4_search, Cond.selects RX4 yX4_search yX4_search]
def wsX4_search_r2 : List Cond := [Cond.code yX4_searchDay cX4_searchDay 6 none, Cond.fieldLink RX4 30 "QuietStairs$Planner" "busyBits" "[I", Cond.static yX7_hasBit, Cond.initialized RX7, Cond.code yX7_hasBit cX7_hasBit 2 (some .boolean)]
def wsX4_search : List Cond := .code yX4_search cX4_search 4 none :: ((wsX4_search_r1 ++ wsX4_search_r2) ++ wsX40)
def wsX4_searchDay_r1 : List Cond := [Cond.fieldLink RX4 18 "QuietStairs$Planner" "pairBits" "[I", Cond.fieldLink RX4 30 "QuietStairs$Planner" "busyBits" "[I", Cond.fieldLink RX4 24 "QuietStairs$Planner" "seats" "[I", Cond.fieldLink RX4 33 "QuietStairs$Planner" "sittings" "[I", Cond.static yX7_hasBit, Cond.initialized RX7, Cond.code yX7_hasBit cX7_hasBit 2 (some .boolean), Cond.methodLink RX4 64 yX4_search, Cond.instanceMethod yX4_search, Cond.selects RX4 yX4_search yX4_search, Cond.initialized RX4, Cond.code yX4_search cX4_search 4 none, Cond.fieldLink RX4 58 "QuietStairs$Planner" "leastWait" "I", Cond.fieldLink RX4 61 "QuietStairs$Planner" "count" "I", Cond.fieldLink RX4 27 "QuietStairs$Planner" "bestSeats" "[I", Cond.methodLink RX4 99 arraycopyName, Cond.native arraycopyName, Cond.static arraycopyName, Cond.initialized "java/lang/System", Cond.fieldLink RX4 48 "QuietStairs$Planner" "seatsADay" "I", Cond.fieldLink RX4 15 "QuietStairs$Planner" "weights" "[I", Cond.methodLink RX4 95 yX4_leastBehind, Cond.instanceMethod yX4_leastBehind, Cond.selects RX4 yX4_leastBehind yX4_leastBehind]
def wsX4_searchDay_r2 : List Cond := [Cond.code yX4_leastBehind cX4_leastBehind 8 (some .int), Cond.fieldLink RX4 21 "QuietStairs$Planner" "heaviestFirst" "[I", Cond.methodLink RX4 105 yX4_searchDay, Cond.instanceMethod yX4_searchDay, Cond.selects RX4 yX4_searchDay yX4_searchDay]
def wsX4_searchDay : List Cond := .code yX4_searchDay cX4_searchDay 6 none :: ((wsX4_searchDay_r1 ++ wsX4_searchDay_r2) ++ wsX40)
def wsX4_findPlan_r1 : List Cond := [Cond.fieldLink RX4 36 "QuietStairs$House" "mediatorCount" "I", Cond.methodLink RX4 42 Lib.Math.min.name, Cond.static Lib.Math.min.name, Cond.initialized "java/lang/Math", Cond.code Lib.Math.min.name Lib.Math.min.code 2 (some .int), Cond.fieldLink RX4 48 "QuietStairs$Planner" "seatsADay" "I", Cond.fieldLink RX4 58 "QuietStairs$Planner" "leastWait" "I", Cond.fieldLink RX4 61 "QuietStairs$Planner" "count" "I", Cond.fieldLink RX4 15 "QuietStairs$Planner" "weights" "[I", Cond.fieldLink RX4 30 "QuietStairs$Planner" "busyBits" "[I", Cond.fieldLink RX4 33 "QuietStairs$Planner" "sittings" "[I", Cond.methodLink RX4 51 yX4_gather, Cond.instanceMethod yX4_gather, Cond.selects RX4 yX4_gather yX4_gather, Cond.initialized RX4, Cond.code yX4_gather cX4_gather 4 none, Cond.fieldLink RX4 68 "QuietStairs$House" "caseCount" "I", Cond.fieldLink RX4 71 "QuietStairs$House" "cases" "[LQuietStairs$Case;", Cond.fieldLink RX4 75 "QuietStairs$Case" "state" "I", Cond.fieldLink RX4 9 "QuietStairs$Planner" "numbers" "[I", Cond.fieldLink RX4 80 "QuietStairs$Case" "weight" "I", Cond.fieldLink RX4 18 "QuietStairs$Planner" "pairBits" "[I", Cond.methodLink RX4 83 yX4_fittingPairs, Cond.static yX4_fittingPairs]
def wsX4_findPlan_r2 : List Cond := [Cond.code yX4_fittingPairs cX4_fittingPairs 4 (some .int), Cond.methodLink RX4 87 yX1_hasPair, Cond.instanceMethod yX1_hasPair, Cond.selects RX1 yX1_hasPair yX1_hasPair, Cond.initialized RX1, Cond.code yX1_hasPair cX1_hasPair 2 (some .boolean), Cond.fieldLink RX1 36 "QuietStairs$House" "mediatorCount" "I", Cond.methodLink RX4 91 yX1_pairFits, Cond.instanceMethod yX1_pairFits, Cond.selects RX1 yX1_pairFits yX1_pairFits, Cond.code yX1_pairFits cX1_pairFits 8 (some .boolean), Cond.fieldLink RX1 19 "QuietStairs$House" "mediators" "[LQuietStairs$Mediator;", Cond.fieldLink RX1 43 "QuietStairs$Mediator" "tongues" "I", Cond.fieldLink RX1 46 "QuietStairs$Case" "parties" "[I", Cond.fieldLink RX1 11 "QuietStairs$House" "parties" "[LQuietStairs$Party;", Cond.fieldLink RX1 48 "QuietStairs$Party" "tongue" "I", Cond.static yX7_hasBit, Cond.initialized RX7, Cond.code yX7_hasBit cX7_hasBit 2 (some .boolean), Cond.methodLink RX1 55 yX1_isNear, Cond.instanceMethod yX1_isNear, Cond.selects RX1 yX1_isNear yX1_isNear, Cond.code yX1_isNear cX1_isNear 3 (some .boolean), Cond.fieldLink RX1 59 "QuietStairs$Mediator" "kinBits" "I"]
def wsX4_findPlan_r3 : List Cond := [Cond.fieldLink RX1 62 "QuietStairs$Mediator" "floor" "I", Cond.fieldLink RX1 65 "QuietStairs$Party" "floor" "I", Cond.methodLink RX4 55 yX4_sortByWeight, Cond.instanceMethod yX4_sortByWeight, Cond.selects RX4 yX4_sortByWeight yX4_sortByWeight, Cond.code yX4_sortByWeight cX4_sortByWeight 3 none, Cond.fieldLink RX4 21 "QuietStairs$Planner" "heaviestFirst" "[I", Cond.methodLink RX4 64 yX4_search, Cond.instanceMethod yX4_search, Cond.selects RX4 yX4_search yX4_search, Cond.code yX4_search cX4_search 4 none, Cond.fieldLink RX4 24 "QuietStairs$Planner" "seats" "[I", Cond.fieldLink RX4 27 "QuietStairs$Planner" "bestSeats" "[I", Cond.methodLink RX4 99 arraycopyName, Cond.native arraycopyName, Cond.static arraycopyName, Cond.initialized "java/lang/System", Cond.methodLink RX4 95 yX4_leastBehind, Cond.instanceMethod yX4_leastBehind, Cond.selects RX4 yX4_leastBehind yX4_leastBehind, Cond.code yX4_leastBehind cX4_leastBehind 8 (some .int), Cond.methodLink RX4 105 yX4_searchDay, Cond.instanceMethod yX4_searchDay, Cond.selects RX4 yX4_searchDay yX4_searchDay]
def wsX4_findPlan_r4 : List Cond := [Cond.code yX4_searchDay cX4_searchDay 6 none]
def wsX4_findPlan : List Cond := .code yX4_findPlan cX4_findPlan 4 none :: ((wsX4_findPlan_r1 ++ (wsX4_findPlan_r2 ++ (wsX4_findPlan_r3 ++ wsX4_findPlan_r4))) ++ wsX10 ++ wsX40 ++ wsX00 ++ wsX20 ++ wsX30)
def wsX4_seatOf : List Cond := .code yX4_seatOf cX4_seatOf 3 (some .int) :: ([.fieldLink RX4 61 "QuietStairs$Planner" "count" "I", .fieldLink RX4 9 "QuietStairs$Planner" "numbers" "[I", .fieldLink RX4 27 "QuietStairs$Planner" "bestSeats" "[I"] ++ wsX40)
def wsX5_init : List Cond := .code yX5_init cX5_init 1 none :: ([.methodLink RX5 3 objectInit, .instanceMethod objectInit, .code objectInit ⟨#[0xb1]⟩ 1 none, .arrayClass .int, .fieldLink RX5 9 "QuietStairs$Table" "musts" "[I", .fieldLink RX5 15 "QuietStairs$Table" "hourBits" "[I"] ++ wsX50)
def wsX6_hourBits : List Cond := .code yX6_hourBits cX6_hourBits 1 (some .int) :: ([.fieldLink RX6 7 "QuietStairs$Term" "last" "I", .fieldLink RX6 13 "QuietStairs$Term" "first" "I"] ++ wsX60)
def wsX5_allowedHours : List Cond := .code yX5_allowedHours cX5_allowedHours 6 (some .int) :: ([.fieldLink RX5 22 "QuietStairs$Case" "terms" "[LQuietStairs$Term;", .fieldLink RX5 28 "QuietStairs$Term" "side" "I", .fieldLink RX5 33 "QuietStairs$Term" "must" "Z", .fieldLink RX5 44 "QuietStairs$Term" "act" "I", .methodLink RX5 41 yX6_hourBits, .instanceMethod yX6_hourBits, .selects RX6 yX6_hourBits yX6_hourBits, .initialized RX6, .code yX6_hourBits cX6_hourBits 1 (some .int), .fieldLink RX6 7 "QuietStairs$Term" "last" "I", .fieldLink RX6 13 "QuietStairs$Term" "first" "I"] ++ wsX00 ++ wsX60)
def wsX5_read : List Cond := .code yX5_read cX5_read 6 none :: ([.fieldLink RX5 18 "QuietStairs$Table" "count" "I", .fieldLink RX5 22 "QuietStairs$Case" "terms" "[LQuietStairs$Term;", .fieldLink RX5 28 "QuietStairs$Term" "side" "I", .fieldLink RX5 33 "QuietStairs$Term" "must" "Z", .fieldLink RX5 9 "QuietStairs$Table" "musts" "[I", .fieldLink RX5 15 "QuietStairs$Table" "hourBits" "[I", .methodLink RX5 37 yX5_allowedHours, .static yX5_allowedHours, .initialized RX5, .code yX5_allowedHours cX5_allowedHours 6 (some .int), .fieldLink RX5 44 "QuietStairs$Term" "act" "I", .methodLink RX5 41 yX6_hourBits, .instanceMethod yX6_hourBits, .selects RX6 yX6_hourBits yX6_hourBits, .initialized RX6, .code yX6_hourBits cX6_hourBits 1 (some .int), .fieldLink RX6 7 "QuietStairs$Term" "last" "I", .fieldLink RX6 13 "QuietStairs$Term" "first" "I"] ++ wsX50 ++ wsX00 ++ wsX60)
def wsJ6_bitCount_0f7a4 : List Cond := .code yJ6_bitCount_0f7a4 cJ6_bitCount_0f7a4 1 (some .int) :: ([.constant RJ6 265 (1431655765), .constant RJ6 266 (858993459), .constant RJ6 267 (252645135)])
def wsX5_stands : List Cond := .code yX5_stands cX5_stands 4 (some .boolean) :: ([.fieldLink RX5 18 "QuietStairs$Table" "count" "I", .fieldLink RX5 15 "QuietStairs$Table" "hourBits" "[I", .static yX7_hasBit, .initialized RX7, .code yX7_hasBit cX7_hasBit 2 (some .boolean), .methodLink RX5 51 yJ6_bitCount_0f7a4, .static yJ6_bitCount_0f7a4, .initialized RJ6, .code yJ6_bitCount_0f7a4 cJ6_bitCount_0f7a4 1 (some .int), .constant RJ6 265 (1431655765), .constant RJ6 266 (858993459), .constant RJ6 267 (252645135)] ++ wsX50)
def wsX5_pinLeastHour : List Cond := .code yX5_pinLeastHour cX5_pinLeastHour 4 (some .int) :: ([.fieldLink RX5 15 "QuietStairs$Table" "hourBits" "[I", .static yX7_hasBit, .initialized RX7, .code yX7_hasBit cX7_hasBit 2 (some .boolean), .methodLink RX5 60 yX5_stands, .instanceMethod yX5_stands, .selects RX5 yX5_stands yX5_stands, .initialized RX5, .code yX5_stands cX5_stands 4 (some .boolean), .fieldLink RX5 18 "QuietStairs$Table" "count" "I", .methodLink RX5 51 yJ6_bitCount_0f7a4, .static yJ6_bitCount_0f7a4, .initialized RJ6, .code yJ6_bitCount_0f7a4 cJ6_bitCount_0f7a4 1 (some .int), .constant RJ6 265 (1431655765), .constant RJ6 266 (858993459), .constant RJ6 267 (252645135)] ++ wsX50)
def wsX5_hourOf : List Cond := .code yX5_hourOf cX5_hourOf 4 (some .int) :: ([.fieldLink RX5 18 "QuietStairs$Table" "count" "I", .fieldLink RX5 9 "QuietStairs$Table" "musts" "[I", .methodLink RX5 57 yX5_pinLeastHour, .instanceMethod yX5_pinLeastHour, .selects RX5 yX5_pinLeastHour yX5_pinLeastHour, .initialized RX5, .code yX5_pinLeastHour cX5_pinLeastHour 4 (some .int), .fieldLink RX5 15 "QuietStairs$Table" "hourBits" "[I", .static yX7_hasBit, .initialized RX7, .code yX7_hasBit cX7_hasBit 2 (some .boolean), .methodLink RX5 60 yX5_stands, .instanceMethod yX5_stands, .selects RX5 yX5_stands yX5_stands, .code yX5_stands cX5_stands 4 (some .boolean), .methodLink RX5 51 yJ6_bitCount_0f7a4, .static yJ6_bitCount_0f7a4, .initialized RJ6, .code yJ6_bitCount_0f7a4 cJ6_bitCount_0f7a4 1 (some .int), .constant RJ6 265 (1431655765), .constant RJ6 266 (858993459), .constant RJ6 267 (252645135)] ++ wsX50)
def wsX7_init_r1 : List Cond := [Cond.methodLink RX7 3 objectInit, Cond.instanceMethod objectInit, Cond.code objectInit ⟨#[0xb1]⟩ 1 none, Cond.classLink RX7 9 RX1, Cond.instantiable RX1 7, Cond.initialized RX1, Cond.fieldLink RX7 12 "QuietStairs" "now" "LQuietStairs$House;", Cond.classLink RX7 16 RX4, Cond.instantiable RX4 11, Cond.initialized RX4, Cond.fieldLink RX7 19 "QuietStairs" "planner" "LQuietStairs$Planner;", Cond.classLink RX7 23 RX5, Cond.instantiable RX5 3, Cond.initialized RX5, Cond.fieldLink RX7 26 "QuietStairs" "table" "LQuietStairs$Table;", Cond.fieldLink RX7 30 "QuietStairs" "kept" "LQuietStairs$House;", Cond.fieldLink RX7 33 "QuietStairs" "roomCount" "I", Cond.methodLink RX7 11 yX1_init, Cond.instanceMethod yX1_init, Cond.code yX1_init cX1_init 2 none, Cond.methodLink RX1 3 objectInit, Cond.classLink RX1 9 RX3, Cond.fieldLink RX1 11 "QuietStairs$House" "parties" "[LQuietStairs$Party;", Cond.classLink RX1 17 RX2]
def wsX7_init_r2 : List Cond := [Cond.fieldLink RX1 19 "QuietStairs$House" "mediators" "[LQuietStairs$Mediator;", Cond.classLink RX1 23 RX0, Cond.fieldLink RX1 25 "QuietStairs$House" "cases" "[LQuietStairs$Case;", Cond.instantiable RX3 2, Cond.initialized RX3, Cond.instantiable RX2 3, Cond.initialized RX2, Cond.instantiable RX0 11, Cond.initialized RX0, Cond.instanceMethod yX3_init, Cond.code yX3_init cX3_init 1 none, Cond.methodLink RX3 1 objectInit, Cond.instanceMethod yX2_init, Cond.code yX2_init cX2_init 1 none, Cond.methodLink RX2 1 objectInit, Cond.methodLink RX1 31 yX0_init, Cond.instanceMethod yX0_init, Cond.code yX0_init cX0_init 2 none, Cond.methodLink RX0 3 objectInit, Cond.arrayClass .int, Cond.fieldLink RX0 9 "QuietStairs$Case" "parties" "[I", Cond.fieldLink RX0 15 "QuietStairs$Case" "box" "[I", Cond.classLink RX0 18 "[[I", Cond.fieldLink RX0 20 "QuietStairs$Case" "offers" "[[I"]
def wsX7_init_r3 : List Cond := [Cond.fieldLink RX0 23 "QuietStairs$Case" "logs" "[[I", Cond.classLink RX0 26 RX6, Cond.fieldLink RX0 28 "QuietStairs$Case" "terms" "[LQuietStairs$Term;", Cond.instantiable RX6 5, Cond.initialized RX6, Cond.instanceMethod yX6_init, Cond.code yX6_init cX6_init 1 none, Cond.methodLink RX6 1 objectInit, Cond.instanceMethod yX4_init, Cond.code yX4_init cX4_init 1 none, Cond.methodLink RX4 3 objectInit, Cond.fieldLink RX4 9 "QuietStairs$Planner" "numbers" "[I", Cond.fieldLink RX4 15 "QuietStairs$Planner" "weights" "[I", Cond.fieldLink RX4 18 "QuietStairs$Planner" "pairBits" "[I", Cond.fieldLink RX4 21 "QuietStairs$Planner" "heaviestFirst" "[I", Cond.fieldLink RX4 24 "QuietStairs$Planner" "seats" "[I", Cond.fieldLink RX4 27 "QuietStairs$Planner" "bestSeats" "[I", Cond.fieldLink RX4 30 "QuietStairs$Planner" "busyBits" "[I", Cond.fieldLink RX4 33 "QuietStairs$Planner" "sittings" "[I", Cond.instanceMethod yX5_init, Cond.code yX5_init cX5_init 1 none, Cond.methodLink RX5 3 objectInit, Cond.fieldLink RX5 9 "QuietStairs$Table" "musts" "[I", Cond.fieldLink RX5 15 "QuietStairs$Table" "hourBits" "[I"]
def wsX7_init : List Cond := .code yX7_init cX7_init 1 none :: ((wsX7_init_r1 ++ (wsX7_init_r2 ++ wsX7_init_r3)) ++ wsX10 ++ wsX70 ++ wsX40 ++ wsX50 ++ wsX30 ++ wsX20 ++ wsX00 ++ wsX60)
def wsX7_isWithin : List Cond := .code yX7_isWithin cX7_isWithin 3 (some .boolean) :: ([])
def wsX7_party : List Cond := .code yX7_party cX7_party 4 (some .int) :: ([.fieldLink RX7 12 "QuietStairs" "now" "LQuietStairs$House;", .fieldLink RX7 41 "QuietStairs$House" "partyCount" "I", .fieldLink RX7 44 "QuietStairs$House" "parties" "[LQuietStairs$Party;", .fieldLink RX7 48 "QuietStairs$Party" "floor" "I", .fieldLink RX7 53 "QuietStairs$Party" "tongue" "I", .methodLink RX7 37 yX7_isWithin, .static yX7_isWithin, .initialized RX7, .code yX7_isWithin cX7_isWithin 3 (some .boolean)] ++ wsX70 ++ wsX10 ++ wsX30)
def wsX7_mediator : List Cond := .code yX7_mediator cX7_mediator 4 (some .int) :: ([.fieldLink RX7 12 "QuietStairs" "now" "LQuietStairs$House;", .fieldLink RX7 56 "QuietStairs$House" "mediatorCount" "I", .fieldLink RX7 59 "QuietStairs$House" "mediators" "[LQuietStairs$Mediator;", .fieldLink RX7 63 "QuietStairs$Mediator" "floor" "I", .fieldLink RX7 66 "QuietStairs$Mediator" "tongues" "I", .fieldLink RX7 69 "QuietStairs$Mediator" "kinBits" "I", .methodLink RX7 37 yX7_isWithin, .static yX7_isWithin, .initialized RX7, .code yX7_isWithin cX7_isWithin 3 (some .boolean)] ++ wsX70 ++ wsX10 ++ wsX20)
def wsX7_isMediator : List Cond := .code yX7_isMediator cX7_isMediator 2 (some .boolean) :: ([.fieldLink RX7 12 "QuietStairs" "now" "LQuietStairs$House;", .fieldLink RX7 56 "QuietStairs$House" "mediatorCount" "I", .methodLink RX7 37 yX7_isWithin, .static yX7_isWithin, .initialized RX7, .code yX7_isWithin cX7_isWithin 3 (some .boolean)] ++ wsX70 ++ wsX10)
def wsX7_isParty : List Cond := .code yX7_isParty cX7_isParty 2 (some .boolean) :: ([.fieldLink RX7 12 "QuietStairs" "now" "LQuietStairs$House;", .fieldLink RX7 41 "QuietStairs$House" "partyCount" "I", .methodLink RX7 37 yX7_isWithin, .static yX7_isWithin, .initialized RX7, .code yX7_isWithin cX7_isWithin 3 (some .boolean)] ++ wsX70 ++ wsX10)
def wsX7_kin : List Cond := .code yX7_kin cX7_kin 5 (some .int) :: ([.fieldLink RX7 12 "QuietStairs" "now" "LQuietStairs$House;", .fieldLink RX7 59 "QuietStairs$House" "mediators" "[LQuietStairs$Mediator;", .fieldLink RX7 69 "QuietStairs$Mediator" "kinBits" "I", .methodLink RX7 72 yX7_isMediator, .instanceMethod yX7_isMediator, .selects RX7 yX7_isMediator yX7_isMediator, .initialized RX7, .code yX7_isMediator cX7_isMediator 2 (some .boolean), .fieldLink RX7 56 "QuietStairs$House" "mediatorCount" "I", .methodLink RX7 37 yX7_isWithin, .static yX7_isWithin, .code yX7_isWithin cX7_isWithin 3 (some .boolean), .methodLink RX7 76 yX7_isParty, .instanceMethod yX7_isParty, .selects RX7 yX7_isParty yX7_isParty, .code yX7_isParty cX7_isParty 2 (some .boolean), .fieldLink RX7 41 "QuietStairs$House" "partyCount" "I", .methodLink RX7 79 yX7_hasBit, .static yX7_hasBit, .code yX7_hasBit cX7_hasBit 2 (some .boolean)] ++ wsX70 ++ wsX10 ++ wsX20)
def wsX7_open_r1 : List Cond := [Cond.fieldLink RX7 12 "QuietStairs" "now" "LQuietStairs$House;", Cond.fieldLink RX7 83 "QuietStairs$House" "caseCount" "I", Cond.fieldLink RX7 86 "QuietStairs$House" "cases" "[LQuietStairs$Case;", Cond.methodLink RX7 76 yX7_isParty, Cond.instanceMethod yX7_isParty, Cond.selects RX7 yX7_isParty yX7_isParty, Cond.initialized RX7, Cond.code yX7_isParty cX7_isParty 2 (some .boolean), Cond.fieldLink RX7 41 "QuietStairs$House" "partyCount" "I", Cond.methodLink RX7 37 yX7_isWithin, Cond.static yX7_isWithin, Cond.code yX7_isWithin cX7_isWithin 3 (some .boolean), Cond.methodLink RX7 90 yX0_begin, Cond.instanceMethod yX0_begin, Cond.selects RX0 yX0_begin yX0_begin, Cond.initialized RX0, Cond.code yX0_begin cX0_begin 5 none, Cond.fieldLink RX0 33 "QuietStairs$Case" "state" "I", Cond.fieldLink RX0 37 "QuietStairs$Case" "sum" "I", Cond.fieldLink RX0 40 "QuietStairs$Case" "roundsOver" "I", Cond.fieldLink RX0 43 "QuietStairs$Case" "weight" "I", Cond.fieldLink RX0 46 "QuietStairs$Case" "markedBits" "I", Cond.fieldLink RX0 49 "QuietStairs$Case" "termCount" "I", Cond.fieldLink RX0 9 "QuietStairs$Case" "parties" "[I"]
def wsX7_open_r2 : List Cond := [Cond.fieldLink RX0 15 "QuietStairs$Case" "box" "[I", Cond.fieldLink RX0 23 "QuietStairs$Case" "logs" "[[I"]
def wsX7_open : List Cond := .code yX7_open cX7_open 3 (some .int) :: ((wsX7_open_r1 ++ wsX7_open_r2) ++ wsX70 ++ wsX10 ++ wsX00)
def wsX7_isCase : List Cond := .code yX7_isCase cX7_isCase 2 (some .boolean) :: ([.fieldLink RX7 12 "QuietStairs" "now" "LQuietStairs$House;", .fieldLink RX7 83 "QuietStairs$House" "caseCount" "I", .methodLink RX7 37 yX7_isWithin, .static yX7_isWithin, .initialized RX7, .code yX7_isWithin cX7_isWithin 3 (some .boolean)] ++ wsX70 ++ wsX10)
def wsX7_close : List Cond := .code yX7_close cX7_close 2 (some .int) :: ([.fieldLink RX7 12 "QuietStairs" "now" "LQuietStairs$House;", .fieldLink RX7 86 "QuietStairs$House" "cases" "[LQuietStairs$Case;", .fieldLink RX7 99 "QuietStairs$Case" "state" "I", .methodLink RX7 96 yX7_isCase, .instanceMethod yX7_isCase, .selects RX7 yX7_isCase yX7_isCase, .initialized RX7, .code yX7_isCase cX7_isCase 2 (some .boolean), .fieldLink RX7 83 "QuietStairs$House" "caseCount" "I", .methodLink RX7 37 yX7_isWithin, .static yX7_isWithin, .code yX7_isWithin cX7_isWithin 3 (some .boolean)] ++ wsX70 ++ wsX10 ++ wsX00)
def wsX7_weight : List Cond := .code yX7_weight cX7_weight 4 (some .int) :: ([.fieldLink RX7 12 "QuietStairs" "now" "LQuietStairs$House;", .fieldLink RX7 86 "QuietStairs$House" "cases" "[LQuietStairs$Case;", .fieldLink RX7 102 "QuietStairs$Case" "weight" "I", .methodLink RX7 96 yX7_isCase, .instanceMethod yX7_isCase, .selects RX7 yX7_isCase yX7_isCase, .initialized RX7, .code yX7_isCase cX7_isCase 2 (some .boolean), .fieldLink RX7 83 "QuietStairs$House" "caseCount" "I", .methodLink RX7 37 yX7_isWithin, .static yX7_isWithin, .code yX7_isWithin cX7_isWithin 3 (some .boolean)] ++ wsX70 ++ wsX10 ++ wsX00)
def wsX7_mark : List Cond := .code yX7_mark cX7_mark 3 (some .int) :: ([.fieldLink RX7 12 "QuietStairs" "now" "LQuietStairs$House;", .fieldLink RX7 86 "QuietStairs$House" "cases" "[LQuietStairs$Case;", .fieldLink RX7 105 "QuietStairs$Case" "markedBits" "I", .fieldLink RX7 108 "QuietStairs$House" "markCount" "I", .methodLink RX7 96 yX7_isCase, .instanceMethod yX7_isCase, .selects RX7 yX7_isCase yX7_isCase, .initialized RX7, .code yX7_isCase cX7_isCase 2 (some .boolean), .fieldLink RX7 83 "QuietStairs$House" "caseCount" "I", .methodLink RX7 37 yX7_isWithin, .static yX7_isWithin, .code yX7_isWithin cX7_isWithin 3 (some .boolean), .methodLink RX7 79 yX7_hasBit, .static yX7_hasBit, .code yX7_hasBit cX7_hasBit 2 (some .boolean)] ++ wsX70 ++ wsX10 ++ wsX00)
def wsX7_of_r1 : List Cond := [Cond.fieldLink RX7 12 "QuietStairs" "now" "LQuietStairs$House;", Cond.fieldLink RX7 86 "QuietStairs$House" "cases" "[LQuietStairs$Case;", Cond.fieldLink RX7 111 "QuietStairs$Case" "parties" "[I", Cond.fieldLink RX7 99 "QuietStairs$Case" "state" "I", Cond.fieldLink RX7 114 "QuietStairs$Case" "sum" "I", Cond.fieldLink RX7 117 "QuietStairs$Case" "roundsOver" "I", Cond.fieldLink RX7 102 "QuietStairs$Case" "weight" "I", Cond.methodLink RX7 96 yX7_isCase, Cond.instanceMethod yX7_isCase, Cond.selects RX7 yX7_isCase yX7_isCase, Cond.initialized RX7, Cond.code yX7_isCase cX7_isCase 2 (some .boolean), Cond.fieldLink RX7 83 "QuietStairs$House" "caseCount" "I", Cond.methodLink RX7 37 yX7_isWithin, Cond.static yX7_isWithin, Cond.code yX7_isWithin cX7_isWithin 3 (some .boolean), Cond.methodLink RX7 120 yX1_headOfQuarrel, Cond.instanceMethod yX1_headOfQuarrel, Cond.selects RX1 yX1_headOfQuarrel yX1_headOfQuarrel, Cond.initialized RX1, Cond.code yX1_headOfQuarrel cX1_headOfQuarrel 4 (some .int), Cond.methodLink RX1 72 yX1_quarrelBits, Cond.instanceMethod yX1_quarrelBits, Cond.selects RX1 yX1_quarrelBits yX1_quarrelBits]
def wsX7_of_r2 : List Cond := [Cond.code yX1_quarrelBits cX1_quarrelBits 5 (some .int), Cond.fieldLink RX1 66 "QuietStairs$House" "caseCount" "I", Cond.fieldLink RX1 25 "QuietStairs$House" "cases" "[LQuietStairs$Case;", Cond.fieldLink RX1 69 "QuietStairs$Case" "markedBits" "I", Cond.static yX7_hasBit, Cond.code yX7_hasBit cX7_hasBit 2 (some .boolean), Cond.methodLink RX7 124 yX1_quarrelBits, Cond.methodLink RX7 127 yJ6_bitCount_0f7a4, Cond.static yJ6_bitCount_0f7a4, Cond.initialized RJ6, Cond.code yJ6_bitCount_0f7a4 cJ6_bitCount_0f7a4 1 (some .int), Cond.constant RJ6 265 (1431655765), Cond.constant RJ6 266 (858993459), Cond.constant RJ6 267 (252645135)]
def wsX7_of : List Cond := .code yX7_of cX7_of 4 (some .int) :: ((wsX7_of_r1 ++ wsX7_of_r2) ++ wsX70 ++ wsX10 ++ wsX00)
def wsX7_isSide : List Cond := .code yX7_isSide cX7_isSide 1 (some .boolean) :: ([.methodLink RX7 37 yX7_isWithin, .static yX7_isWithin, .initialized RX7, .code yX7_isWithin cX7_isWithin 3 (some .boolean)])
def wsX7_offer_r1 : List Cond := [Cond.fieldLink RX7 12 "QuietStairs" "now" "LQuietStairs$House;", Cond.fieldLink RX7 86 "QuietStairs$House" "cases" "[LQuietStairs$Case;", Cond.fieldLink RX7 99 "QuietStairs$Case" "state" "I", Cond.fieldLink RX7 135 "QuietStairs$Case" "box" "[I", Cond.fieldLink RX7 117 "QuietStairs$Case" "roundsOver" "I", Cond.methodLink RX7 96 yX7_isCase, Cond.instanceMethod yX7_isCase, Cond.selects RX7 yX7_isCase yX7_isCase, Cond.initialized RX7, Cond.code yX7_isCase cX7_isCase 2 (some .boolean), Cond.fieldLink RX7 83 "QuietStairs$House" "caseCount" "I", Cond.methodLink RX7 37 yX7_isWithin, Cond.static yX7_isWithin, Cond.code yX7_isWithin cX7_isWithin 3 (some .boolean), Cond.methodLink RX7 132 yX7_isSide, Cond.static yX7_isSide, Cond.code yX7_isSide cX7_isSide 1 (some .boolean), Cond.methodLink RX7 138 yX0_endRound, Cond.instanceMethod yX0_endRound, Cond.selects RX0 yX0_endRound yX0_endRound, Cond.initialized RX0, Cond.code yX0_endRound cX0_endRound 3 (some .boolean), Cond.fieldLink RX0 15 "QuietStairs$Case" "box" "[I", Cond.fieldLink RX0 40 "QuietStairs$Case" "roundsOver" "I"]
def wsX7_offer_r2 : List Cond := [Cond.fieldLink RX0 20 "QuietStairs$Case" "offers" "[[I", Cond.fieldLink RX0 33 "QuietStairs$Case" "state" "I", Cond.fieldLink RX0 37 "QuietStairs$Case" "sum" "I"]
def wsX7_offer : List Cond := .code yX7_offer cX7_offer 5 (some .int) :: ((wsX7_offer_r1 ++ wsX7_offer_r2) ++ wsX70 ++ wsX10 ++ wsX00)
def wsX7_put : List Cond := .code yX7_put cX7_put 3 (some .int) :: ([.fieldLink RX7 12 "QuietStairs" "now" "LQuietStairs$House;", .fieldLink RX7 86 "QuietStairs$House" "cases" "[LQuietStairs$Case;", .fieldLink RX7 135 "QuietStairs$Case" "box" "[I", .methodLink RX7 96 yX7_isCase, .instanceMethod yX7_isCase, .selects RX7 yX7_isCase yX7_isCase, .initialized RX7, .code yX7_isCase cX7_isCase 2 (some .boolean), .fieldLink RX7 83 "QuietStairs$House" "caseCount" "I", .methodLink RX7 37 yX7_isWithin, .static yX7_isWithin, .code yX7_isWithin cX7_isWithin 3 (some .boolean), .methodLink RX7 132 yX7_isSide, .static yX7_isSide, .code yX7_isSide cX7_isSide 1 (some .boolean)] ++ wsX70 ++ wsX10 ++ wsX00)
def wsX7_learns_r1 : List Cond := [Cond.fieldLink RX7 12 "QuietStairs" "now" "LQuietStairs$House;", Cond.fieldLink RX7 86 "QuietStairs$House" "cases" "[LQuietStairs$Case;", Cond.fieldLink RX7 117 "QuietStairs$Case" "roundsOver" "I", Cond.methodLink RX7 96 yX7_isCase, Cond.instanceMethod yX7_isCase, Cond.selects RX7 yX7_isCase yX7_isCase, Cond.initialized RX7, Cond.code yX7_isCase cX7_isCase 2 (some .boolean), Cond.fieldLink RX7 83 "QuietStairs$House" "caseCount" "I", Cond.methodLink RX7 37 yX7_isWithin, Cond.static yX7_isWithin, Cond.code yX7_isWithin cX7_isWithin 3 (some .boolean), Cond.methodLink RX7 132 yX7_isSide, Cond.static yX7_isSide, Cond.code yX7_isSide cX7_isSide 1 (some .boolean), Cond.methodLink RX7 142 yX0_greatestOfOther, Cond.instanceMethod yX0_greatestOfOther, Cond.selects RX0 yX0_greatestOfOther yX0_greatestOfOther, Cond.initialized RX0, Cond.code yX0_greatestOfOther cX0_greatestOfOther 5 (some .int), Cond.fieldLink RX0 20 "QuietStairs$Case" "offers" "[[I", Cond.fieldLink RX0 37 "QuietStairs$Case" "sum" "I", Cond.methodLink RX0 62 Lib.Math.min.name, Cond.static Lib.Math.min.name]
def wsX7_learns_r2 : List Cond := [Cond.initialized "java/lang/Math", Cond.code Lib.Math.min.name Lib.Math.min.code 2 (some .int), Cond.methodLink RX0 52 yX0_hasMet, Cond.instanceMethod yX0_hasMet, Cond.selects RX0 yX0_hasMet yX0_hasMet, Cond.code yX0_hasMet cX0_hasMet 2 (some .boolean), Cond.fieldLink RX0 33 "QuietStairs$Case" "state" "I", Cond.fieldLink RX0 40 "QuietStairs$Case" "roundsOver" "I", Cond.methodLink RX7 146 yX0_leastOfOther, Cond.instanceMethod yX0_leastOfOther, Cond.selects RX0 yX0_leastOfOther yX0_leastOfOther, Cond.code yX0_leastOfOther cX0_leastOfOther 5 (some .int), Cond.methodLink RX0 56 Lib.Math.max.name, Cond.static Lib.Math.max.name, Cond.code Lib.Math.max.name Lib.Math.max.code 2 (some .int)]
def wsX7_learns : List Cond := .code yX7_learns cX7_learns 6 (some .int) :: ((wsX7_learns_r1 ++ wsX7_learns_r2) ++ wsX70 ++ wsX10 ++ wsX00)
def wsX7_maySit_r1 : List Cond := [Cond.fieldLink RX7 12 "QuietStairs" "now" "LQuietStairs$House;", Cond.fieldLink RX7 86 "QuietStairs$House" "cases" "[LQuietStairs$Case;", Cond.methodLink RX7 37 yX7_isWithin, Cond.static yX7_isWithin, Cond.initialized RX7, Cond.code yX7_isWithin cX7_isWithin 3 (some .boolean), Cond.methodLink RX7 149 yX1_hasPair, Cond.instanceMethod yX1_hasPair, Cond.selects RX1 yX1_hasPair yX1_hasPair, Cond.initialized RX1, Cond.code yX1_hasPair cX1_hasPair 2 (some .boolean), Cond.fieldLink RX1 36 "QuietStairs$House" "mediatorCount" "I", Cond.methodLink RX7 96 yX7_isCase, Cond.instanceMethod yX7_isCase, Cond.selects RX7 yX7_isCase yX7_isCase, Cond.code yX7_isCase cX7_isCase 2 (some .boolean), Cond.fieldLink RX7 83 "QuietStairs$House" "caseCount" "I", Cond.methodLink RX7 152 yX1_pairFits, Cond.instanceMethod yX1_pairFits, Cond.selects RX1 yX1_pairFits yX1_pairFits, Cond.code yX1_pairFits cX1_pairFits 8 (some .boolean), Cond.fieldLink RX1 19 "QuietStairs$House" "mediators" "[LQuietStairs$Mediator;", Cond.fieldLink RX1 43 "QuietStairs$Mediator" "tongues" "I", Cond.fieldLink RX1 46 "QuietStairs$Case" "parties" "[I"]
def wsX7_maySit_r2 : List Cond := [Cond.fieldLink RX1 11 "QuietStairs$House" "parties" "[LQuietStairs$Party;", Cond.fieldLink RX1 48 "QuietStairs$Party" "tongue" "I", Cond.static yX7_hasBit, Cond.code yX7_hasBit cX7_hasBit 2 (some .boolean), Cond.methodLink RX1 55 yX1_isNear, Cond.instanceMethod yX1_isNear, Cond.selects RX1 yX1_isNear yX1_isNear, Cond.code yX1_isNear cX1_isNear 3 (some .boolean), Cond.fieldLink RX1 59 "QuietStairs$Mediator" "kinBits" "I", Cond.fieldLink RX1 62 "QuietStairs$Mediator" "floor" "I", Cond.fieldLink RX1 65 "QuietStairs$Party" "floor" "I"]
def wsX7_maySit : List Cond := .code yX7_maySit cX7_maySit 3 (some .int) :: ((wsX7_maySit_r1 ++ wsX7_maySit_r2) ++ wsX70 ++ wsX10 ++ wsX20 ++ wsX00 ++ wsX30)
def wsX7_rooms : List Cond := .code yX7_rooms cX7_rooms 3 (some .int) :: ([.fieldLink RX7 33 "QuietStairs" "roomCount" "I", .methodLink RX7 37 yX7_isWithin, .static yX7_isWithin, .initialized RX7, .code yX7_isWithin cX7_isWithin 3 (some .boolean)] ++ wsX70)
def wsX7_plan_r1 : List Cond := [Cond.fieldLink RX7 12 "QuietStairs" "now" "LQuietStairs$House;", Cond.fieldLink RX7 86 "QuietStairs$House" "cases" "[LQuietStairs$Case;", Cond.fieldLink RX7 99 "QuietStairs$Case" "state" "I", Cond.fieldLink RX7 19 "QuietStairs" "planner" "LQuietStairs$Planner;", Cond.fieldLink RX7 33 "QuietStairs" "roomCount" "I", Cond.methodLink RX7 96 yX7_isCase, Cond.instanceMethod yX7_isCase, Cond.selects RX7 yX7_isCase yX7_isCase, Cond.initialized RX7, Cond.code yX7_isCase cX7_isCase 2 (some .boolean), Cond.fieldLink RX7 83 "QuietStairs$House" "caseCount" "I", Cond.methodLink RX7 37 yX7_isWithin, Cond.static yX7_isWithin, Cond.code yX7_isWithin cX7_isWithin 3 (some .boolean), Cond.methodLink RX7 156 yX4_findPlan, Cond.instanceMethod yX4_findPlan, Cond.selects RX4 yX4_findPlan yX4_findPlan, Cond.initialized RX4, Cond.code yX4_findPlan cX4_findPlan 4 none, Cond.fieldLink RX4 36 "QuietStairs$House" "mediatorCount" "I", Cond.methodLink RX4 42 Lib.Math.min.name, Cond.static Lib.Math.min.name, Cond.initialized "java/lang/Math", Cond.code Lib.Math.min.name Lib.Math.min.code 2 (some .int)]
def wsX7_plan_r2 : List Cond := [Cond.fieldLink RX4 48 "QuietStairs$Planner" "seatsADay" "I", Cond.fieldLink RX4 58 "QuietStairs$Planner" "leastWait" "I", Cond.fieldLink RX4 61 "QuietStairs$Planner" "count" "I", Cond.fieldLink RX4 15 "QuietStairs$Planner" "weights" "[I", Cond.fieldLink RX4 30 "QuietStairs$Planner" "busyBits" "[I", Cond.fieldLink RX4 33 "QuietStairs$Planner" "sittings" "[I", Cond.methodLink RX4 51 yX4_gather, Cond.instanceMethod yX4_gather, Cond.selects RX4 yX4_gather yX4_gather, Cond.code yX4_gather cX4_gather 4 none, Cond.fieldLink RX4 68 "QuietStairs$House" "caseCount" "I", Cond.fieldLink RX4 71 "QuietStairs$House" "cases" "[LQuietStairs$Case;", Cond.fieldLink RX4 75 "QuietStairs$Case" "state" "I", Cond.fieldLink RX4 9 "QuietStairs$Planner" "numbers" "[I", Cond.fieldLink RX4 80 "QuietStairs$Case" "weight" "I", Cond.fieldLink RX4 18 "QuietStairs$Planner" "pairBits" "[I", Cond.methodLink RX4 83 yX4_fittingPairs, Cond.static yX4_fittingPairs, Cond.code yX4_fittingPairs cX4_fittingPairs 4 (some .int), Cond.methodLink RX4 87 yX1_hasPair, Cond.instanceMethod yX1_hasPair, Cond.selects RX1 yX1_hasPair yX1_hasPair, Cond.initialized RX1, Cond.code yX1_hasPair cX1_hasPair 2 (some .boolean)]
def wsX7_plan_r3 : List Cond := [Cond.fieldLink RX1 36 "QuietStairs$House" "mediatorCount" "I", Cond.methodLink RX4 91 yX1_pairFits, Cond.instanceMethod yX1_pairFits, Cond.selects RX1 yX1_pairFits yX1_pairFits, Cond.code yX1_pairFits cX1_pairFits 8 (some .boolean), Cond.fieldLink RX1 19 "QuietStairs$House" "mediators" "[LQuietStairs$Mediator;", Cond.fieldLink RX1 43 "QuietStairs$Mediator" "tongues" "I", Cond.fieldLink RX1 46 "QuietStairs$Case" "parties" "[I", Cond.fieldLink RX1 11 "QuietStairs$House" "parties" "[LQuietStairs$Party;", Cond.fieldLink RX1 48 "QuietStairs$Party" "tongue" "I", Cond.static yX7_hasBit, Cond.code yX7_hasBit cX7_hasBit 2 (some .boolean), Cond.methodLink RX1 55 yX1_isNear, Cond.instanceMethod yX1_isNear, Cond.selects RX1 yX1_isNear yX1_isNear, Cond.code yX1_isNear cX1_isNear 3 (some .boolean), Cond.fieldLink RX1 59 "QuietStairs$Mediator" "kinBits" "I", Cond.fieldLink RX1 62 "QuietStairs$Mediator" "floor" "I", Cond.fieldLink RX1 65 "QuietStairs$Party" "floor" "I", Cond.methodLink RX4 55 yX4_sortByWeight, Cond.instanceMethod yX4_sortByWeight, Cond.selects RX4 yX4_sortByWeight yX4_sortByWeight, Cond.code yX4_sortByWeight cX4_sortByWeight 3 none, Cond.fieldLink RX4 21 "QuietStairs$Planner" "heaviestFirst" "[I"]
def wsX7_plan_r4 : List Cond := [Cond.methodLink RX4 64 yX4_search, Cond.instanceMethod yX4_search, Cond.selects RX4 yX4_search yX4_search, Cond.code yX4_search cX4_search 4 none, Cond.fieldLink RX4 24 "QuietStairs$Planner" "seats" "[I", Cond.fieldLink RX4 27 "QuietStairs$Planner" "bestSeats" "[I", Cond.methodLink RX4 99 arraycopyName, Cond.native arraycopyName, Cond.static arraycopyName, Cond.initialized "java/lang/System", Cond.methodLink RX4 95 yX4_leastBehind, Cond.instanceMethod yX4_leastBehind, Cond.selects RX4 yX4_leastBehind yX4_leastBehind, Cond.code yX4_leastBehind cX4_leastBehind 8 (some .int), Cond.methodLink RX4 105 yX4_searchDay, Cond.instanceMethod yX4_searchDay, Cond.selects RX4 yX4_searchDay yX4_searchDay, Cond.code yX4_searchDay cX4_searchDay 6 none, Cond.methodLink RX7 160 yX4_seatOf, Cond.instanceMethod yX4_seatOf, Cond.selects RX4 yX4_seatOf yX4_seatOf, Cond.code yX4_seatOf cX4_seatOf 3 (some .int)]
def wsX7_plan : List Cond := .code yX7_plan cX7_plan 2 (some .int) :: ((wsX7_plan_r1 ++ (wsX7_plan_r2 ++ (wsX7_plan_r3 ++ wsX7_plan_r4))) ++ wsX70 ++ wsX10 ++ wsX00 ++ wsX40 ++ wsX20 ++ wsX30)
def wsX7_waits_r1 : List Cond := [Cond.fieldLink RX7 19 "QuietStairs" "planner" "LQuietStairs$Planner;", Cond.fieldLink RX7 12 "QuietStairs" "now" "LQuietStairs$House;", Cond.fieldLink RX7 33 "QuietStairs" "roomCount" "I", Cond.fieldLink RX7 163 "QuietStairs$Planner" "leastWait" "I", Cond.methodLink RX7 156 yX4_findPlan, Cond.instanceMethod yX4_findPlan, Cond.selects RX4 yX4_findPlan yX4_findPlan, Cond.initialized RX4, Cond.code yX4_findPlan cX4_findPlan 4 none, Cond.fieldLink RX4 36 "QuietStairs$House" "mediatorCount" "I", Cond.methodLink RX4 42 Lib.Math.min.name, Cond.static Lib.Math.min.name, Cond.initialized "java/lang/Math", Cond.code Lib.Math.min.name Lib.Math.min.code 2 (some .int), Cond.fieldLink RX4 48 "QuietStairs$Planner" "seatsADay" "I", Cond.fieldLink RX4 58 "QuietStairs$Planner" "leastWait" "I", Cond.fieldLink RX4 61 "QuietStairs$Planner" "count" "I", Cond.fieldLink RX4 15 "QuietStairs$Planner" "weights" "[I", Cond.fieldLink RX4 30 "QuietStairs$Planner" "busyBits" "[I", Cond.fieldLink RX4 33 "QuietStairs$Planner" "sittings" "[I", Cond.methodLink RX4 51 yX4_gather, Cond.instanceMethod yX4_gather, Cond.selects RX4 yX4_gather yX4_gather, Cond.code yX4_gather cX4_gather 4 none]
def wsX7_waits_r2 : List Cond := [Cond.fieldLink RX4 68 "QuietStairs$House" "caseCount" "I", Cond.fieldLink RX4 71 "QuietStairs$House" "cases" "[LQuietStairs$Case;", Cond.fieldLink RX4 75 "QuietStairs$Case" "state" "I", Cond.fieldLink RX4 9 "QuietStairs$Planner" "numbers" "[I", Cond.fieldLink RX4 80 "QuietStairs$Case" "weight" "I", Cond.fieldLink RX4 18 "QuietStairs$Planner" "pairBits" "[I", Cond.methodLink RX4 83 yX4_fittingPairs, Cond.static yX4_fittingPairs, Cond.code yX4_fittingPairs cX4_fittingPairs 4 (some .int), Cond.methodLink RX4 87 yX1_hasPair, Cond.instanceMethod yX1_hasPair, Cond.selects RX1 yX1_hasPair yX1_hasPair, Cond.initialized RX1, Cond.code yX1_hasPair cX1_hasPair 2 (some .boolean), Cond.fieldLink RX1 36 "QuietStairs$House" "mediatorCount" "I", Cond.methodLink RX4 91 yX1_pairFits, Cond.instanceMethod yX1_pairFits, Cond.selects RX1 yX1_pairFits yX1_pairFits, Cond.code yX1_pairFits cX1_pairFits 8 (some .boolean), Cond.fieldLink RX1 19 "QuietStairs$House" "mediators" "[LQuietStairs$Mediator;", Cond.fieldLink RX1 43 "QuietStairs$Mediator" "tongues" "I", Cond.fieldLink RX1 46 "QuietStairs$Case" "parties" "[I", Cond.fieldLink RX1 11 "QuietStairs$House" "parties" "[LQuietStairs$Party;", Cond.fieldLink RX1 48 "QuietStairs$Party" "tongue" "I"]
def wsX7_waits_r3 : List Cond := [Cond.static yX7_hasBit, Cond.initialized RX7, Cond.code yX7_hasBit cX7_hasBit 2 (some .boolean), Cond.methodLink RX1 55 yX1_isNear, Cond.instanceMethod yX1_isNear, Cond.selects RX1 yX1_isNear yX1_isNear, Cond.code yX1_isNear cX1_isNear 3 (some .boolean), Cond.fieldLink RX1 59 "QuietStairs$Mediator" "kinBits" "I", Cond.fieldLink RX1 62 "QuietStairs$Mediator" "floor" "I", Cond.fieldLink RX1 65 "QuietStairs$Party" "floor" "I", Cond.methodLink RX4 55 yX4_sortByWeight, Cond.instanceMethod yX4_sortByWeight, Cond.selects RX4 yX4_sortByWeight yX4_sortByWeight, Cond.code yX4_sortByWeight cX4_sortByWeight 3 none, Cond.fieldLink RX4 21 "QuietStairs$Planner" "heaviestFirst" "[I", Cond.methodLink RX4 64 yX4_search, Cond.instanceMethod yX4_search, Cond.selects RX4 yX4_search yX4_search, Cond.code yX4_search cX4_search 4 none, Cond.fieldLink RX4 24 "QuietStairs$Planner" "seats" "[I", Cond.fieldLink RX4 27 "QuietStairs$Planner" "bestSeats" "[I", Cond.methodLink RX4 99 arraycopyName, Cond.native arraycopyName, Cond.static arraycopyName]
def wsX7_waits_r4 : List Cond := [Cond.initialized "java/lang/System", Cond.methodLink RX4 95 yX4_leastBehind, Cond.instanceMethod yX4_leastBehind, Cond.selects RX4 yX4_leastBehind yX4_leastBehind, Cond.code yX4_leastBehind cX4_leastBehind 8 (some .int), Cond.methodLink RX4 105 yX4_searchDay, Cond.instanceMethod yX4_searchDay, Cond.selects RX4 yX4_searchDay yX4_searchDay, Cond.code yX4_searchDay cX4_searchDay 6 none]
def wsX7_waits : List Cond := .code yX7_waits cX7_waits 1 (some .int) :: ((wsX7_waits_r1 ++ (wsX7_waits_r2 ++ (wsX7_waits_r3 ++ wsX7_waits_r4))) ++ wsX70 ++ wsX40 ++ wsX10 ++ wsX00 ++ wsX20 ++ wsX30)
def wsX7_isHour : List Cond := .code yX7_isHour cX7_isHour 1 (some .boolean) :: ([.methodLink RX7 37 yX7_isWithin, .static yX7_isWithin, .initialized RX7, .code yX7_isWithin cX7_isWithin 3 (some .boolean)])
def wsX7_term_r1 : List Cond := [Cond.fieldLink RX7 12 "QuietStairs" "now" "LQuietStairs$House;", Cond.fieldLink RX7 86 "QuietStairs$House" "cases" "[LQuietStairs$Case;", Cond.fieldLink RX7 99 "QuietStairs$Case" "state" "I", Cond.fieldLink RX7 169 "QuietStairs$Case" "termCount" "I", Cond.fieldLink RX7 172 "QuietStairs$Case" "terms" "[LQuietStairs$Term;", Cond.fieldLink RX7 176 "QuietStairs$Term" "side" "I", Cond.fieldLink RX7 181 "QuietStairs$Term" "must" "Z", Cond.fieldLink RX7 185 "QuietStairs$Term" "act" "I", Cond.fieldLink RX7 188 "QuietStairs$Term" "first" "I", Cond.fieldLink RX7 191 "QuietStairs$Term" "last" "I", Cond.methodLink RX7 96 yX7_isCase, Cond.instanceMethod yX7_isCase, Cond.selects RX7 yX7_isCase yX7_isCase, Cond.initialized RX7, Cond.code yX7_isCase cX7_isCase 2 (some .boolean), Cond.fieldLink RX7 83 "QuietStairs$House" "caseCount" "I", Cond.methodLink RX7 37 yX7_isWithin, Cond.static yX7_isWithin, Cond.code yX7_isWithin cX7_isWithin 3 (some .boolean), Cond.methodLink RX7 132 yX7_isSide, Cond.static yX7_isSide, Cond.code yX7_isSide cX7_isSide 1 (some .boolean), Cond.methodLink RX7 166 yX7_isHour, Cond.static yX7_isHour]
def wsX7_term_r2 : List Cond := [Cond.code yX7_isHour cX7_isHour 1 (some .boolean)]
def wsX7_term : List Cond := .code yX7_term cX7_term 9 (some .int) :: ((wsX7_term_r1 ++ wsX7_term_r2) ++ wsX70 ++ wsX10 ++ wsX00 ++ wsX60)
def wsX7_strike : List Cond := .code yX7_strike cX7_strike 2 (some .int) :: ([.fieldLink RX7 12 "QuietStairs" "now" "LQuietStairs$House;", .fieldLink RX7 86 "QuietStairs$House" "cases" "[LQuietStairs$Case;", .fieldLink RX7 169 "QuietStairs$Case" "termCount" "I", .methodLink RX7 96 yX7_isCase, .instanceMethod yX7_isCase, .selects RX7 yX7_isCase yX7_isCase, .initialized RX7, .code yX7_isCase cX7_isCase 2 (some .boolean), .fieldLink RX7 83 "QuietStairs$House" "caseCount" "I", .methodLink RX7 37 yX7_isWithin, .static yX7_isWithin, .code yX7_isWithin cX7_isWithin 3 (some .boolean)] ++ wsX70 ++ wsX10 ++ wsX00)
def wsX7_isTerm : List Cond := .code yX7_isTerm cX7_isTerm 3 (some .boolean) :: ([.fieldLink RX7 12 "QuietStairs" "now" "LQuietStairs$House;", .fieldLink RX7 86 "QuietStairs$House" "cases" "[LQuietStairs$Case;", .fieldLink RX7 169 "QuietStairs$Case" "termCount" "I", .methodLink RX7 96 yX7_isCase, .instanceMethod yX7_isCase, .selects RX7 yX7_isCase yX7_isCase, .initialized RX7, .code yX7_isCase cX7_isCase 2 (some .boolean), .fieldLink RX7 83 "QuietStairs$House" "caseCount" "I", .methodLink RX7 37 yX7_isWithin, .static yX7_isWithin, .code yX7_isWithin cX7_isWithin 3 (some .boolean)] ++ wsX70 ++ wsX10 ++ wsX00)
def wsX7_termOf : List Cond := .code yX7_termOf cX7_termOf 5 (some .int) :: ([.fieldLink RX7 12 "QuietStairs" "now" "LQuietStairs$House;", .fieldLink RX7 86 "QuietStairs$House" "cases" "[LQuietStairs$Case;", .fieldLink RX7 172 "QuietStairs$Case" "terms" "[LQuietStairs$Term;", .fieldLink RX7 176 "QuietStairs$Term" "side" "I", .fieldLink RX7 181 "QuietStairs$Term" "must" "Z", .fieldLink RX7 185 "QuietStairs$Term" "act" "I", .fieldLink RX7 188 "QuietStairs$Term" "first" "I", .fieldLink RX7 191 "QuietStairs$Term" "last" "I", .methodLink RX7 194 yX7_isTerm, .instanceMethod yX7_isTerm, .selects RX7 yX7_isTerm yX7_isTerm, .initialized RX7, .code yX7_isTerm cX7_isTerm 3 (some .boolean), .fieldLink RX7 169 "QuietStairs$Case" "termCount" "I", .methodLink RX7 96 yX7_isCase, .instanceMethod yX7_isCase, .selects RX7 yX7_isCase yX7_isCase, .code yX7_isCase cX7_isCase 2 (some .boolean), .fieldLink RX7 83 "QuietStairs$House" "caseCount" "I", .methodLink RX7 37 yX7_isWithin, .static yX7_isWithin, .code yX7_isWithin cX7_isWithin 3 (some .boolean)] ++ wsX70 ++ wsX10 ++ wsX00 ++ wsX60)
def wsX7_hour_r1 : List Cond := [Cond.fieldLink RX7 12 "QuietStairs" "now" "LQuietStairs$House;", Cond.fieldLink RX7 86 "QuietStairs$House" "cases" "[LQuietStairs$Case;", Cond.fieldLink RX7 172 "QuietStairs$Case" "terms" "[LQuietStairs$Term;", Cond.fieldLink RX7 181 "QuietStairs$Term" "must" "Z", Cond.fieldLink RX7 26 "QuietStairs" "table" "LQuietStairs$Table;", Cond.fieldLink RX7 176 "QuietStairs$Term" "side" "I", Cond.fieldLink RX7 169 "QuietStairs$Case" "termCount" "I", Cond.methodLink RX7 194 yX7_isTerm, Cond.instanceMethod yX7_isTerm, Cond.selects RX7 yX7_isTerm yX7_isTerm, Cond.initialized RX7, Cond.code yX7_isTerm cX7_isTerm 3 (some .boolean), Cond.methodLink RX7 96 yX7_isCase, Cond.instanceMethod yX7_isCase, Cond.selects RX7 yX7_isCase yX7_isCase, Cond.code yX7_isCase cX7_isCase 2 (some .boolean), Cond.fieldLink RX7 83 "QuietStairs$House" "caseCount" "I", Cond.methodLink RX7 37 yX7_isWithin, Cond.static yX7_isWithin, Cond.code yX7_isWithin cX7_isWithin 3 (some .boolean), Cond.methodLink RX7 197 yX5_read, Cond.instanceMethod yX5_read, Cond.selects RX5 yX5_read yX5_read, Cond.initialized RX5]
def wsX7_hour_r2 : List Cond := [Cond.code yX5_read cX5_read 6 none, Cond.fieldLink RX5 18 "QuietStairs$Table" "count" "I", Cond.fieldLink RX5 22 "QuietStairs$Case" "terms" "[LQuietStairs$Term;", Cond.fieldLink RX5 28 "QuietStairs$Term" "side" "I", Cond.fieldLink RX5 33 "QuietStairs$Term" "must" "Z", Cond.fieldLink RX5 9 "QuietStairs$Table" "musts" "[I", Cond.fieldLink RX5 15 "QuietStairs$Table" "hourBits" "[I", Cond.methodLink RX5 37 yX5_allowedHours, Cond.static yX5_allowedHours, Cond.code yX5_allowedHours cX5_allowedHours 6 (some .int), Cond.fieldLink RX5 44 "QuietStairs$Term" "act" "I", Cond.methodLink RX5 41 yX6_hourBits, Cond.instanceMethod yX6_hourBits, Cond.selects RX6 yX6_hourBits yX6_hourBits, Cond.initialized RX6, Cond.code yX6_hourBits cX6_hourBits 1 (some .int), Cond.fieldLink RX6 7 "QuietStairs$Term" "last" "I", Cond.fieldLink RX6 13 "QuietStairs$Term" "first" "I", Cond.methodLink RX7 201 yX5_stands, Cond.instanceMethod yX5_stands, Cond.selects RX5 yX5_stands yX5_stands, Cond.code yX5_stands cX5_stands 4 (some .boolean), Cond.static yX7_hasBit, Cond.code yX7_hasBit cX7_hasBit 2 (some .boolean)]
def wsX7_hour_r3 : List Cond := [Cond.methodLink RX5 51 yJ6_bitCount_0f7a4, Cond.static yJ6_bitCount_0f7a4, Cond.initialized RJ6, Cond.code yJ6_bitCount_0f7a4 cJ6_bitCount_0f7a4 1 (some .int), Cond.constant RJ6 265 (1431655765), Cond.constant RJ6 266 (858993459), Cond.constant RJ6 267 (252645135), Cond.methodLink RX7 204 yX5_hourOf, Cond.instanceMethod yX5_hourOf, Cond.selects RX5 yX5_hourOf yX5_hourOf, Cond.code yX5_hourOf cX5_hourOf 4 (some .int), Cond.methodLink RX5 57 yX5_pinLeastHour, Cond.instanceMethod yX5_pinLeastHour, Cond.selects RX5 yX5_pinLeastHour yX5_pinLeastHour, Cond.code yX5_pinLeastHour cX5_pinLeastHour 4 (some .int), Cond.methodLink RX5 60 yX5_stands]
def wsX7_hour : List Cond := .code yX7_hour cX7_hour 4 (some .int) :: ((wsX7_hour_r1 ++ (wsX7_hour_r2 ++ wsX7_hour_r3)) ++ wsX70 ++ wsX10 ++ wsX00 ++ wsX60 ++ wsX50)
def wsX7_canHold_r1 : List Cond := [Cond.fieldLink RX7 26 "QuietStairs" "table" "LQuietStairs$Table;", Cond.fieldLink RX7 12 "QuietStairs" "now" "LQuietStairs$House;", Cond.fieldLink RX7 86 "QuietStairs$House" "cases" "[LQuietStairs$Case;", Cond.fieldLink RX7 169 "QuietStairs$Case" "termCount" "I", Cond.methodLink RX7 96 yX7_isCase, Cond.instanceMethod yX7_isCase, Cond.selects RX7 yX7_isCase yX7_isCase, Cond.initialized RX7, Cond.code yX7_isCase cX7_isCase 2 (some .boolean), Cond.fieldLink RX7 83 "QuietStairs$House" "caseCount" "I", Cond.methodLink RX7 37 yX7_isWithin, Cond.static yX7_isWithin, Cond.code yX7_isWithin cX7_isWithin 3 (some .boolean), Cond.methodLink RX7 132 yX7_isSide, Cond.static yX7_isSide, Cond.code yX7_isSide cX7_isSide 1 (some .boolean), Cond.methodLink RX7 197 yX5_read, Cond.instanceMethod yX5_read, Cond.selects RX5 yX5_read yX5_read, Cond.initialized RX5, Cond.code yX5_read cX5_read 6 none, Cond.fieldLink RX5 18 "QuietStairs$Table" "count" "I", Cond.fieldLink RX5 22 "QuietStairs$Case" "terms" "[LQuietStairs$Term;", Cond.fieldLink RX5 28 "QuietStairs$Term" "side" "I"]
def wsX7_canHold_r2 : List Cond := [Cond.fieldLink RX5 33 "QuietStairs$Term" "must" "Z", Cond.fieldLink RX5 9 "QuietStairs$Table" "musts" "[I", Cond.fieldLink RX5 15 "QuietStairs$Table" "hourBits" "[I", Cond.methodLink RX5 37 yX5_allowedHours, Cond.static yX5_allowedHours, Cond.code yX5_allowedHours cX5_allowedHours 6 (some .int), Cond.fieldLink RX5 44 "QuietStairs$Term" "act" "I", Cond.methodLink RX5 41 yX6_hourBits, Cond.instanceMethod yX6_hourBits, Cond.selects RX6 yX6_hourBits yX6_hourBits, Cond.initialized RX6, Cond.code yX6_hourBits cX6_hourBits 1 (some .int), Cond.fieldLink RX6 7 "QuietStairs$Term" "last" "I", Cond.fieldLink RX6 13 "QuietStairs$Term" "first" "I", Cond.methodLink RX7 201 yX5_stands, Cond.instanceMethod yX5_stands, Cond.selects RX5 yX5_stands yX5_stands, Cond.code yX5_stands cX5_stands 4 (some .boolean), Cond.static yX7_hasBit, Cond.code yX7_hasBit cX7_hasBit 2 (some .boolean), Cond.methodLink RX5 51 yJ6_bitCount_0f7a4, Cond.static yJ6_bitCount_0f7a4, Cond.initialized RJ6, Cond.code yJ6_bitCount_0f7a4 cJ6_bitCount_0f7a4 1 (some .int)]
def wsX7_canHold_r3 : List Cond := [Cond.constant RJ6 265 (1431655765), Cond.constant RJ6 266 (858993459), Cond.constant RJ6 267 (252645135)]
def wsX7_canHold : List Cond := .code yX7_canHold cX7_canHold 3 (some .int) :: ((wsX7_canHold_r1 ++ (wsX7_canHold_r2 ++ wsX7_canHold_r3)) ++ wsX70 ++ wsX10 ++ wsX00 ++ wsX50 ++ wsX60)
def wsX7_breaks_r1 : List Cond := [Cond.fieldLink RX7 12 "QuietStairs" "now" "LQuietStairs$House;", Cond.fieldLink RX7 86 "QuietStairs$House" "cases" "[LQuietStairs$Case;", Cond.fieldLink RX7 169 "QuietStairs$Case" "termCount" "I", Cond.fieldLink RX7 172 "QuietStairs$Case" "terms" "[LQuietStairs$Term;", Cond.fieldLink RX7 176 "QuietStairs$Term" "side" "I", Cond.fieldLink RX7 26 "QuietStairs" "table" "LQuietStairs$Table;", Cond.methodLink RX7 96 yX7_isCase, Cond.instanceMethod yX7_isCase, Cond.selects RX7 yX7_isCase yX7_isCase, Cond.initialized RX7, Cond.code yX7_isCase cX7_isCase 2 (some .boolean), Cond.fieldLink RX7 83 "QuietStairs$House" "caseCount" "I", Cond.methodLink RX7 37 yX7_isWithin, Cond.static yX7_isWithin, Cond.code yX7_isWithin cX7_isWithin 3 (some .boolean), Cond.methodLink RX7 132 yX7_isSide, Cond.static yX7_isSide, Cond.code yX7_isSide cX7_isSide 1 (some .boolean), Cond.methodLink RX7 197 yX5_read, Cond.instanceMethod yX5_read, Cond.selects RX5 yX5_read yX5_read, Cond.initialized RX5, Cond.code yX5_read cX5_read 6 none, Cond.fieldLink RX5 18 "QuietStairs$Table" "count" "I"]
def wsX7_breaks_r2 : List Cond := [Cond.fieldLink RX5 22 "QuietStairs$Case" "terms" "[LQuietStairs$Term;", Cond.fieldLink RX5 28 "QuietStairs$Term" "side" "I", Cond.fieldLink RX5 33 "QuietStairs$Term" "must" "Z", Cond.fieldLink RX5 9 "QuietStairs$Table" "musts" "[I", Cond.fieldLink RX5 15 "QuietStairs$Table" "hourBits" "[I", Cond.methodLink RX5 37 yX5_allowedHours, Cond.static yX5_allowedHours, Cond.code yX5_allowedHours cX5_allowedHours 6 (some .int), Cond.fieldLink RX5 44 "QuietStairs$Term" "act" "I", Cond.methodLink RX5 41 yX6_hourBits, Cond.instanceMethod yX6_hourBits, Cond.selects RX6 yX6_hourBits yX6_hourBits, Cond.initialized RX6, Cond.code yX6_hourBits cX6_hourBits 1 (some .int), Cond.fieldLink RX6 7 "QuietStairs$Term" "last" "I", Cond.fieldLink RX6 13 "QuietStairs$Term" "first" "I", Cond.methodLink RX7 201 yX5_stands, Cond.instanceMethod yX5_stands, Cond.selects RX5 yX5_stands yX5_stands, Cond.code yX5_stands cX5_stands 4 (some .boolean), Cond.static yX7_hasBit, Cond.code yX7_hasBit cX7_hasBit 2 (some .boolean), Cond.methodLink RX5 51 yJ6_bitCount_0f7a4, Cond.static yJ6_bitCount_0f7a4]
def wsX7_breaks_r3 : List Cond := [Cond.initialized RJ6, Cond.code yJ6_bitCount_0f7a4 cJ6_bitCount_0f7a4 1 (some .int), Cond.constant RJ6 265 (1431655765), Cond.constant RJ6 266 (858993459), Cond.constant RJ6 267 (252645135)]
def wsX7_breaks : List Cond := .code yX7_breaks cX7_breaks 5 (some .int) :: ((wsX7_breaks_r1 ++ (wsX7_breaks_r2 ++ wsX7_breaks_r3)) ++ wsX70 ++ wsX10 ++ wsX00 ++ wsX60 ++ wsX50)
def wsX7_log : List Cond := .code yX7_log cX7_log 7 (some .int) :: ([.fieldLink RX7 12 "QuietStairs" "now" "LQuietStairs$House;", .fieldLink RX7 86 "QuietStairs$House" "cases" "[LQuietStairs$Case;", .fieldLink RX7 207 "QuietStairs$Case" "logs" "[[I", .methodLink RX7 96 yX7_isCase, .instanceMethod yX7_isCase, .selects RX7 yX7_isCase yX7_isCase, .initialized RX7, .code yX7_isCase cX7_isCase 2 (some .boolean), .fieldLink RX7 83 "QuietStairs$House" "caseCount" "I", .methodLink RX7 37 yX7_isWithin, .static yX7_isWithin, .code yX7_isWithin cX7_isWithin 3 (some .boolean), .methodLink RX7 132 yX7_isSide, .static yX7_isSide, .code yX7_isSide cX7_isSide 1 (some .boolean), .methodLink RX7 166 yX7_isHour, .static yX7_isHour, .code yX7_isHour cX7_isHour 1 (some .boolean)] ++ wsX70 ++ wsX10 ++ wsX00)
def wsX7_judged_r1 : List Cond := [Cond.fieldLink RX7 12 "QuietStairs" "now" "LQuietStairs$House;", Cond.fieldLink RX7 86 "QuietStairs$House" "cases" "[LQuietStairs$Case;", Cond.methodLink RX7 194 yX7_isTerm, Cond.instanceMethod yX7_isTerm, Cond.selects RX7 yX7_isTerm yX7_isTerm, Cond.initialized RX7, Cond.code yX7_isTerm cX7_isTerm 3 (some .boolean), Cond.fieldLink RX7 169 "QuietStairs$Case" "termCount" "I", Cond.methodLink RX7 96 yX7_isCase, Cond.instanceMethod yX7_isCase, Cond.selects RX7 yX7_isCase yX7_isCase, Cond.code yX7_isCase cX7_isCase 2 (some .boolean), Cond.fieldLink RX7 83 "QuietStairs$House" "caseCount" "I", Cond.methodLink RX7 37 yX7_isWithin, Cond.static yX7_isWithin, Cond.code yX7_isWithin cX7_isWithin 3 (some .boolean), Cond.methodLink RX7 211 yX0_judge, Cond.instanceMethod yX0_judge, Cond.selects RX0 yX0_judge yX0_judge, Cond.initialized RX0, Cond.code yX0_judge cX0_judge 6 (some .int), Cond.fieldLink RX0 28 "QuietStairs$Case" "terms" "[LQuietStairs$Term;", Cond.fieldLink RX0 65 "QuietStairs$Term" "first" "I", Cond.fieldLink RX0 68 "QuietStairs$Term" "last" "I"]
def wsX7_judged_r2 : List Cond := [Cond.fieldLink RX0 23 "QuietStairs$Case" "logs" "[[I", Cond.fieldLink RX0 71 "QuietStairs$Term" "side" "I", Cond.fieldLink RX0 74 "QuietStairs$Term" "act" "I", Cond.fieldLink RX0 77 "QuietStairs$Term" "must" "Z"]
def wsX7_judged : List Cond := .code yX7_judged cX7_judged 3 (some .int) :: ((wsX7_judged_r1 ++ wsX7_judged_r2) ++ wsX70 ++ wsX10 ++ wsX00 ++ wsX60)
def wsX7_many_r1 : List Cond := [Cond.fieldLink RX7 12 "QuietStairs" "now" "LQuietStairs$House;", Cond.fieldLink RX7 41 "QuietStairs$House" "partyCount" "I", Cond.fieldLink RX7 56 "QuietStairs$House" "mediatorCount" "I", Cond.fieldLink RX7 83 "QuietStairs$House" "caseCount" "I", Cond.fieldLink RX7 108 "QuietStairs$House" "markCount" "I", Cond.methodLink RX7 214 yX1_countState, Cond.instanceMethod yX1_countState, Cond.selects RX1 yX1_countState yX1_countState, Cond.initialized RX1, Cond.code yX1_countState cX1_countState 4 (some .int), Cond.fieldLink RX1 66 "QuietStairs$House" "caseCount" "I", Cond.fieldLink RX1 25 "QuietStairs$House" "cases" "[LQuietStairs$Case;", Cond.fieldLink RX1 79 "QuietStairs$Case" "state" "I", Cond.methodLink RX7 217 yX1_countQuarrels, Cond.instanceMethod yX1_countQuarrels, Cond.selects RX1 yX1_countQuarrels yX1_countQuarrels, Cond.code yX1_countQuarrels cX1_countQuarrels 3 (some .int), Cond.methodLink RX1 76 yX1_headOfQuarrel, Cond.instanceMethod yX1_headOfQuarrel, Cond.selects RX1 yX1_headOfQuarrel yX1_headOfQuarrel, Cond.code yX1_headOfQuarrel cX1_headOfQuarrel 4 (some .int), Cond.methodLink RX1 72 yX1_quarrelBits, Cond.instanceMethod yX1_quarrelBits, Cond.selects RX1 yX1_quarrelBits yX1_quarrelBits]
def wsX7_many_r2 : List Cond := [Cond.code yX1_quarrelBits cX1_quarrelBits 5 (some .int), Cond.fieldLink RX1 69 "QuietStairs$Case" "markedBits" "I", Cond.static yX7_hasBit, Cond.initialized RX7, Cond.code yX7_hasBit cX7_hasBit 2 (some .boolean), Cond.methodLink RX7 221 yX1_countTerms, Cond.instanceMethod yX1_countTerms, Cond.selects RX1 yX1_countTerms yX1_countTerms, Cond.code yX1_countTerms cX1_countTerms 3 (some .int), Cond.fieldLink RX1 82 "QuietStairs$Case" "termCount" "I", Cond.methodLink RX7 224 yX1_countJudged, Cond.instanceMethod yX1_countJudged, Cond.selects RX1 yX1_countJudged yX1_countJudged, Cond.code yX1_countJudged cX1_countJudged 5 (some .int), Cond.methodLink RX1 85 yX0_judge, Cond.instanceMethod yX0_judge, Cond.selects RX0 yX0_judge yX0_judge, Cond.initialized RX0, Cond.code yX0_judge cX0_judge 6 (some .int), Cond.fieldLink RX0 28 "QuietStairs$Case" "terms" "[LQuietStairs$Term;", Cond.fieldLink RX0 65 "QuietStairs$Term" "first" "I", Cond.fieldLink RX0 68 "QuietStairs$Term" "last" "I", Cond.fieldLink RX0 23 "QuietStairs$Case" "logs" "[[I", Cond.fieldLink RX0 71 "QuietStairs$Term" "side" "I"]
def wsX7_many_r3 : List Cond := [Cond.fieldLink RX0 74 "QuietStairs$Term" "act" "I", Cond.fieldLink RX0 77 "QuietStairs$Term" "must" "Z"]
def wsX7_many : List Cond := .code yX7_many cX7_many 2 (some .int) :: ((wsX7_many_r1 ++ (wsX7_many_r2 ++ wsX7_many_r3)) ++ wsX70 ++ wsX10 ++ wsX00 ++ wsX60)
def wsX7_keep_r1 : List Cond := [Cond.fieldLink RX7 30 "QuietStairs" "kept" "LQuietStairs$House;", Cond.classLink RX7 9 RX1, Cond.instantiable RX1 7, Cond.initialized RX1, Cond.fieldLink RX7 12 "QuietStairs" "now" "LQuietStairs$House;", Cond.methodLink RX7 11 yX1_init, Cond.instanceMethod yX1_init, Cond.code yX1_init cX1_init 2 none, Cond.methodLink RX1 3 objectInit, Cond.instanceMethod objectInit, Cond.code objectInit ⟨#[0xb1]⟩ 1 none, Cond.classLink RX1 9 RX3, Cond.fieldLink RX1 11 "QuietStairs$House" "parties" "[LQuietStairs$Party;", Cond.classLink RX1 17 RX2, Cond.fieldLink RX1 19 "QuietStairs$House" "mediators" "[LQuietStairs$Mediator;", Cond.classLink RX1 23 RX0, Cond.fieldLink RX1 25 "QuietStairs$House" "cases" "[LQuietStairs$Case;", Cond.instantiable RX3 2, Cond.initialized RX3, Cond.instantiable RX2 3, Cond.initialized RX2, Cond.instantiable RX0 11, Cond.initialized RX0, Cond.instanceMethod yX3_init]
def wsX7_keep_r2 : List Cond := [Cond.code yX3_init cX3_init 1 none, Cond.methodLink RX3 1 objectInit, Cond.instanceMethod yX2_init, Cond.code yX2_init cX2_init 1 none, Cond.methodLink RX2 1 objectInit, Cond.methodLink RX1 31 yX0_init, Cond.instanceMethod yX0_init, Cond.code yX0_init cX0_init 2 none, Cond.methodLink RX0 3 objectInit, Cond.arrayClass .int, Cond.fieldLink RX0 9 "QuietStairs$Case" "parties" "[I", Cond.fieldLink RX0 15 "QuietStairs$Case" "box" "[I", Cond.classLink RX0 18 "[[I", Cond.fieldLink RX0 20 "QuietStairs$Case" "offers" "[[I", Cond.fieldLink RX0 23 "QuietStairs$Case" "logs" "[[I", Cond.classLink RX0 26 RX6, Cond.fieldLink RX0 28 "QuietStairs$Case" "terms" "[LQuietStairs$Term;", Cond.instantiable RX6 5, Cond.initialized RX6, Cond.instanceMethod yX6_init, Cond.code yX6_init cX6_init 1 none, Cond.methodLink RX6 1 objectInit, Cond.methodLink RX7 227 yX1_copyFrom, Cond.instanceMethod yX1_copyFrom]
def wsX7_keep_r3 : List Cond := [Cond.selects RX1 yX1_copyFrom yX1_copyFrom, Cond.code yX1_copyFrom cX1_copyFrom 3 none, Cond.fieldLink RX1 88 "QuietStairs$House" "partyCount" "I", Cond.fieldLink RX1 36 "QuietStairs$House" "mediatorCount" "I", Cond.fieldLink RX1 66 "QuietStairs$House" "caseCount" "I", Cond.fieldLink RX1 91 "QuietStairs$House" "markCount" "I", Cond.methodLink RX1 94 yX3_copyFrom, Cond.instanceMethod yX3_copyFrom, Cond.selects RX3 yX3_copyFrom yX3_copyFrom, Cond.code yX3_copyFrom cX3_copyFrom 2 none, Cond.fieldLink RX3 7 "QuietStairs$Party" "floor" "I", Cond.fieldLink RX3 13 "QuietStairs$Party" "tongue" "I", Cond.methodLink RX1 98 yX2_copyFrom, Cond.instanceMethod yX2_copyFrom, Cond.selects RX2 yX2_copyFrom yX2_copyFrom, Cond.code yX2_copyFrom cX2_copyFrom 2 none, Cond.fieldLink RX2 7 "QuietStairs$Mediator" "floor" "I", Cond.fieldLink RX2 13 "QuietStairs$Mediator" "tongues" "I", Cond.fieldLink RX2 16 "QuietStairs$Mediator" "kinBits" "I", Cond.methodLink RX1 101 yX0_copyFrom, Cond.instanceMethod yX0_copyFrom, Cond.selects RX0 yX0_copyFrom yX0_copyFrom, Cond.code yX0_copyFrom cX0_copyFrom 3 none, Cond.fieldLink RX0 33 "QuietStairs$Case" "state" "I"]
def wsX7_keep_r4 : List Cond := [Cond.fieldLink RX0 37 "QuietStairs$Case" "sum" "I", Cond.fieldLink RX0 40 "QuietStairs$Case" "roundsOver" "I", Cond.fieldLink RX0 43 "QuietStairs$Case" "weight" "I", Cond.fieldLink RX0 46 "QuietStairs$Case" "markedBits" "I", Cond.fieldLink RX0 49 "QuietStairs$Case" "termCount" "I", Cond.methodLink RX0 81 arraycopyName, Cond.native arraycopyName, Cond.static arraycopyName, Cond.initialized "java/lang/System", Cond.methodLink RX0 87 yX6_copyFrom, Cond.instanceMethod yX6_copyFrom, Cond.selects RX6 yX6_copyFrom yX6_copyFrom, Cond.code yX6_copyFrom cX6_copyFrom 2 none, Cond.fieldLink RX6 16 "QuietStairs$Term" "side" "I", Cond.fieldLink RX6 19 "QuietStairs$Term" "must" "Z", Cond.fieldLink RX6 23 "QuietStairs$Term" "act" "I", Cond.fieldLink RX6 13 "QuietStairs$Term" "first" "I", Cond.fieldLink RX6 7 "QuietStairs$Term" "last" "I"]
def wsX7_keep : List Cond := .code yX7_keep cX7_keep 1 (some .int) :: ((wsX7_keep_r1 ++ (wsX7_keep_r2 ++ (wsX7_keep_r3 ++ wsX7_keep_r4))) ++ wsX70 ++ wsX10 ++ wsX30 ++ wsX20 ++ wsX00 ++ wsX60)
def wsX7_back_r1 : List Cond := [Cond.fieldLink RX7 30 "QuietStairs" "kept" "LQuietStairs$House;", Cond.fieldLink RX7 12 "QuietStairs" "now" "LQuietStairs$House;", Cond.methodLink RX7 227 yX1_copyFrom, Cond.instanceMethod yX1_copyFrom, Cond.selects RX1 yX1_copyFrom yX1_copyFrom, Cond.initialized RX1, Cond.code yX1_copyFrom cX1_copyFrom 3 none, Cond.fieldLink RX1 88 "QuietStairs$House" "partyCount" "I", Cond.fieldLink RX1 36 "QuietStairs$House" "mediatorCount" "I", Cond.fieldLink RX1 66 "QuietStairs$House" "caseCount" "I", Cond.fieldLink RX1 91 "QuietStairs$House" "markCount" "I", Cond.fieldLink RX1 11 "QuietStairs$House" "parties" "[LQuietStairs$Party;", Cond.fieldLink RX1 19 "QuietStairs$House" "mediators" "[LQuietStairs$Mediator;", Cond.fieldLink RX1 25 "QuietStairs$House" "cases" "[LQuietStairs$Case;", Cond.methodLink RX1 94 yX3_copyFrom, Cond.instanceMethod yX3_copyFrom, Cond.selects RX3 yX3_copyFrom yX3_copyFrom, Cond.initialized RX3, Cond.code yX3_copyFrom cX3_copyFrom 2 none, Cond.fieldLink RX3 7 "QuietStairs$Party" "floor" "I", Cond.fieldLink RX3 13 "QuietStairs$Party" "tongue" "I", Cond.methodLink RX1 98 yX2_copyFrom, Cond.instanceMethod yX2_copyFrom, Cond.selects RX2 yX2_copyFrom yX2_copyFrom]
def wsX7_back_r2 : List Cond := [Cond.initialized RX2, Cond.code yX2_copyFrom cX2_copyFrom 2 none, Cond.fieldLink RX2 7 "QuietStairs$Mediator" "floor" "I", Cond.fieldLink RX2 13 "QuietStairs$Mediator" "tongues" "I", Cond.fieldLink RX2 16 "QuietStairs$Mediator" "kinBits" "I", Cond.methodLink RX1 101 yX0_copyFrom, Cond.instanceMethod yX0_copyFrom, Cond.selects RX0 yX0_copyFrom yX0_copyFrom, Cond.initialized RX0, Cond.code yX0_copyFrom cX0_copyFrom 3 none, Cond.fieldLink RX0 33 "QuietStairs$Case" "state" "I", Cond.fieldLink RX0 37 "QuietStairs$Case" "sum" "I", Cond.fieldLink RX0 40 "QuietStairs$Case" "roundsOver" "I", Cond.fieldLink RX0 43 "QuietStairs$Case" "weight" "I", Cond.fieldLink RX0 46 "QuietStairs$Case" "markedBits" "I", Cond.fieldLink RX0 49 "QuietStairs$Case" "termCount" "I", Cond.fieldLink RX0 9 "QuietStairs$Case" "parties" "[I", Cond.fieldLink RX0 15 "QuietStairs$Case" "box" "[I", Cond.fieldLink RX0 20 "QuietStairs$Case" "offers" "[[I", Cond.methodLink RX0 81 arraycopyName, Cond.native arraycopyName, Cond.static arraycopyName, Cond.initialized "java/lang/System", Cond.fieldLink RX0 23 "QuietStairs$Case" "logs" "[[I"]
def wsX7_back_r3 : List Cond := [Cond.fieldLink RX0 28 "QuietStairs$Case" "terms" "[LQuietStairs$Term;", Cond.methodLink RX0 87 yX6_copyFrom, Cond.instanceMethod yX6_copyFrom, Cond.selects RX6 yX6_copyFrom yX6_copyFrom, Cond.initialized RX6, Cond.code yX6_copyFrom cX6_copyFrom 2 none, Cond.fieldLink RX6 16 "QuietStairs$Term" "side" "I", Cond.fieldLink RX6 19 "QuietStairs$Term" "must" "Z", Cond.fieldLink RX6 23 "QuietStairs$Term" "act" "I", Cond.fieldLink RX6 13 "QuietStairs$Term" "first" "I", Cond.fieldLink RX6 7 "QuietStairs$Term" "last" "I"]
def wsX7_back : List Cond := .code yX7_back cX7_back 1 (some .int) :: ((wsX7_back_r1 ++ (wsX7_back_r2 ++ wsX7_back_r3)) ++ wsX70 ++ wsX10 ++ wsX30 ++ wsX20 ++ wsX00 ++ wsX60)
def wsX8_init : List Cond := .code yX8_init cX8_init 1 none :: ([.methodLink RX8 1 objectInit, .instanceMethod objectInit, .code objectInit ⟨#[0xb1]⟩ 1 none, .arrayClass .int, .fieldLink RX8 7 "QuietStairsModel" "s" "[I", .fieldLink RX8 13 "QuietStairsModel" "kept" "[I", .fieldLink RX8 16 "QuietStairsModel" "rooms" "I", .fieldLink RX8 20 "QuietStairsModel" "headOf" "[I", .fieldLink RX8 23 "QuietStairsModel" "planned" "[I", .fieldLink RX8 26 "QuietStairsModel" "tried" "[I", .fieldLink RX8 29 "QuietStairsModel" "best" "[I", .fieldLink RX8 32 "QuietStairsModel" "hours" "[I"] ++ wsX80)
def wsX8_in : List Cond := .code yX8_in cX8_in 3 (some .boolean) :: ([])
def wsX8_isParty : List Cond := .code yX8_isParty cX8_isParty 2 (some .boolean) :: ([.fieldLink RX8 7 "QuietStairsModel" "s" "[I", .methodLink RX8 35 yX8_in, .static yX8_in, .initialized RX8, .code yX8_in cX8_in 3 (some .boolean)] ++ wsX80)
def wsX8_isMediator : List Cond := .code yX8_isMediator cX8_isMediator 2 (some .boolean) :: ([.fieldLink RX8 7 "QuietStairsModel" "s" "[I", .methodLink RX8 35 yX8_in, .static yX8_in, .initialized RX8, .code yX8_in cX8_in 3 (some .boolean)] ++ wsX80)
def wsX8_isCase : List Cond := .code yX8_isCase cX8_isCase 2 (some .boolean) :: ([.fieldLink RX8 7 "QuietStairsModel" "s" "[I", .methodLink RX8 35 yX8_in, .static yX8_in, .initialized RX8, .code yX8_in cX8_in 3 (some .boolean)] ++ wsX80)
def wsX8_isSide : List Cond := .code yX8_isSide cX8_isSide 1 (some .boolean) :: ([.methodLink RX8 35 yX8_in, .static yX8_in, .initialized RX8, .code yX8_in cX8_in 3 (some .boolean)])
def wsX8_at : List Cond := .code yX8_at cX8_at 2 (some .int) :: ([])
def wsX8_party : List Cond := .code yX8_party cX8_party 5 (some .int) :: ([.fieldLink RX8 7 "QuietStairsModel" "s" "[I", .methodLink RX8 35 yX8_in, .static yX8_in, .initialized RX8, .code yX8_in cX8_in 3 (some .boolean)] ++ wsX80)
def wsX8_mediator : List Cond := .code yX8_mediator cX8_mediator 4 (some .int) :: ([.fieldLink RX8 7 "QuietStairsModel" "s" "[I", .methodLink RX8 35 yX8_in, .static yX8_in, .initialized RX8, .code yX8_in cX8_in 3 (some .boolean)] ++ wsX80)
def wsX8_kin : List Cond := .code yX8_kin cX8_kin 5 (some .int) :: ([.fieldLink RX8 7 "QuietStairsModel" "s" "[I", .methodLink RX8 39 yX8_isMediator, .instanceMethod yX8_isMediator, .selects RX8 yX8_isMediator yX8_isMediator, .initialized RX8, .code yX8_isMediator cX8_isMediator 2 (some .boolean), .methodLink RX8 35 yX8_in, .static yX8_in, .code yX8_in cX8_in 3 (some .boolean), .methodLink RX8 43 yX8_isParty, .instanceMethod yX8_isParty, .selects RX8 yX8_isParty yX8_isParty, .code yX8_isParty cX8_isParty 2 (some .boolean)] ++ wsX80)
def wsX8_open : List Cond := .code yX8_open cX8_open 5 (some .int) :: ([.fieldLink RX8 7 "QuietStairsModel" "s" "[I", .methodLink RX8 43 yX8_isParty, .instanceMethod yX8_isParty, .selects RX8 yX8_isParty yX8_isParty, .initialized RX8, .code yX8_isParty cX8_isParty 2 (some .boolean), .methodLink RX8 35 yX8_in, .static yX8_in, .code yX8_in cX8_in 3 (some .boolean), .methodLink RX8 46 yX8_at, .static yX8_at, .code yX8_at cX8_at 2 (some .int)] ++ wsX80)
def wsX8_close : List Cond := .code yX8_close cX8_close 2 (some .int) :: ([.fieldLink RX8 7 "QuietStairsModel" "s" "[I", .methodLink RX8 50 yX8_isCase, .instanceMethod yX8_isCase, .selects RX8 yX8_isCase yX8_isCase, .initialized RX8, .code yX8_isCase cX8_isCase 2 (some .boolean), .methodLink RX8 35 yX8_in, .static yX8_in, .code yX8_in cX8_in 3 (some .boolean), .methodLink RX8 46 yX8_at, .static yX8_at, .code yX8_at cX8_at 2 (some .int)] ++ wsX80)
def wsX8_weight : List Cond := .code yX8_weight cX8_weight 4 (some .int) :: ([.fieldLink RX8 7 "QuietStairsModel" "s" "[I", .methodLink RX8 50 yX8_isCase, .instanceMethod yX8_isCase, .selects RX8 yX8_isCase yX8_isCase, .initialized RX8, .code yX8_isCase cX8_isCase 2 (some .boolean), .methodLink RX8 35 yX8_in, .static yX8_in, .code yX8_in cX8_in 3 (some .boolean), .methodLink RX8 46 yX8_at, .static yX8_at, .code yX8_at cX8_at 2 (some .int)] ++ wsX80)
def wsX8_mark : List Cond := .code yX8_mark cX8_mark 6 (some .int) :: ([.fieldLink RX8 7 "QuietStairsModel" "s" "[I", .methodLink RX8 50 yX8_isCase, .instanceMethod yX8_isCase, .selects RX8 yX8_isCase yX8_isCase, .initialized RX8, .code yX8_isCase cX8_isCase 2 (some .boolean), .methodLink RX8 35 yX8_in, .static yX8_in, .code yX8_in cX8_in 3 (some .boolean)] ++ wsX80)
def wsX8_findHeads : List Cond := .code yX8_findHeads cX8_findHeads 6 none :: ([.fieldLink RX8 7 "QuietStairsModel" "s" "[I", .fieldLink RX8 20 "QuietStairsModel" "headOf" "[I"] ++ wsX80)
def wsX8_joined : List Cond := .code yX8_joined cX8_joined 4 (some .int) :: ([.fieldLink RX8 7 "QuietStairsModel" "s" "[I", .fieldLink RX8 20 "QuietStairsModel" "headOf" "[I"] ++ wsX80)
def wsX8_of : List Cond := .code yX8_of cX8_of 3 (some .int) :: ([.fieldLink RX8 20 "QuietStairsModel" "headOf" "[I", .fieldLink RX8 7 "QuietStairsModel" "s" "[I", .methodLink RX8 50 yX8_isCase, .instanceMethod yX8_isCase, .selects RX8 yX8_isCase yX8_isCase, .initialized RX8, .code yX8_isCase cX8_isCase 2 (some .boolean), .methodLink RX8 35 yX8_in, .static yX8_in, .code yX8_in cX8_in 3 (some .boolean), .methodLink RX8 53 yX8_findHeads, .instanceMethod yX8_findHeads, .selects RX8 yX8_findHeads yX8_findHeads, .code yX8_findHeads cX8_findHeads 6 none, .methodLink RX8 56 yX8_joined, .instanceMethod yX8_joined, .selects RX8 yX8_joined yX8_joined, .code yX8_joined cX8_joined 4 (some .int), .methodLink RX8 46 yX8_at, .static yX8_at, .code yX8_at cX8_at 2 (some .int)] ++ wsX80)
def wsX8_offer : List Cond := .code yX8_offer cX8_offer 7 (some .int) :: ([.fieldLink RX8 7 "QuietStairsModel" "s" "[I", .methodLink RX8 50 yX8_isCase, .instanceMethod yX8_isCase, .selects RX8 yX8_isCase yX8_isCase, .initialized RX8, .code yX8_isCase cX8_isCase 2 (some .boolean), .methodLink RX8 35 yX8_in, .static yX8_in, .code yX8_in cX8_in 3 (some .boolean), .methodLink RX8 60 yX8_isSide, .static yX8_isSide, .code yX8_isSide cX8_isSide 1 (some .boolean), .methodLink RX8 46 yX8_at, .static yX8_at, .code yX8_at cX8_at 2 (some .int)] ++ wsX80)
def wsX8_put : List Cond := .code yX8_put cX8_put 3 (some .int) :: ([.fieldLink RX8 7 "QuietStairsModel" "s" "[I", .methodLink RX8 50 yX8_isCase, .instanceMethod yX8_isCase, .selects RX8 yX8_isCase yX8_isCase, .initialized RX8, .code yX8_isCase cX8_isCase 2 (some .boolean), .methodLink RX8 35 yX8_in, .static yX8_in, .code yX8_in cX8_in 3 (some .boolean), .methodLink RX8 60 yX8_isSide, .static yX8_isSide, .code yX8_isSide cX8_isSide 1 (some .boolean)] ++ wsX80)
def wsX8_learns : List Cond := .code yX8_learns cX8_learns 14 (some .int) :: ([.fieldLink RX8 7 "QuietStairsModel" "s" "[I", .methodLink RX8 50 yX8_isCase, .instanceMethod yX8_isCase, .selects RX8 yX8_isCase yX8_isCase, .initialized RX8, .code yX8_isCase cX8_isCase 2 (some .boolean), .methodLink RX8 35 yX8_in, .static yX8_in, .code yX8_in cX8_in 3 (some .boolean), .methodLink RX8 60 yX8_isSide, .static yX8_isSide, .code yX8_isSide cX8_isSide 1 (some .boolean), .methodLink RX8 46 yX8_at, .static yX8_at, .code yX8_at cX8_at 2 (some .int)] ++ wsX80)
def wsX8_oneOf : List Cond := .code yX8_oneOf cX8_oneOf 1 (some .int) :: ([])
def wsX8_otherOf : List Cond := .code yX8_otherOf cX8_otherOf 1 (some .int) :: ([])
def wsX8_isPair : List Cond := .code yX8_isPair cX8_isPair 2 (some .boolean) :: ([.methodLink RX8 35 yX8_in, .static yX8_in, .initialized RX8, .code yX8_in cX8_in 3 (some .boolean), .methodLink RX8 63 yX8_otherOf, .static yX8_otherOf, .code yX8_otherOf cX8_otherOf 1 (some .int), .methodLink RX8 39 yX8_isMediator, .instanceMethod yX8_isMediator, .selects RX8 yX8_isMediator yX8_isMediator, .code yX8_isMediator cX8_isMediator 2 (some .boolean), .fieldLink RX8 7 "QuietStairsModel" "s" "[I"] ++ wsX80)
def wsX8_mayMeet : List Cond := .code yX8_mayMeet cX8_mayMeet 3 (some .boolean) :: ([.fieldLink RX8 7 "QuietStairsModel" "s" "[I"] ++ wsX80)
def wsX8_may : List Cond := .code yX8_may cX8_may 9 (some .boolean) :: ([.fieldLink RX8 7 "QuietStairsModel" "s" "[I", .methodLink RX8 66 yX8_oneOf, .static yX8_oneOf, .initialized RX8, .code yX8_oneOf cX8_oneOf 1 (some .int), .methodLink RX8 63 yX8_otherOf, .static yX8_otherOf, .code yX8_otherOf cX8_otherOf 1 (some .int), .methodLink RX8 46 yX8_at, .static yX8_at, .code yX8_at cX8_at 2 (some .int), .methodLink RX8 69 yX8_mayMeet, .instanceMethod yX8_mayMeet, .selects RX8 yX8_mayMeet yX8_mayMeet, .code yX8_mayMeet cX8_mayMeet 3 (some .boolean)] ++ wsX80)
def wsX8_maySit_r1 : List Cond := [Cond.methodLink RX8 73 yX8_isPair, Cond.instanceMethod yX8_isPair, Cond.selects RX8 yX8_isPair yX8_isPair, Cond.initialized RX8, Cond.code yX8_isPair cX8_isPair 2 (some .boolean), Cond.methodLink RX8 35 yX8_in, Cond.static yX8_in, Cond.code yX8_in cX8_in 3 (some .boolean), Cond.methodLink RX8 63 yX8_otherOf, Cond.static yX8_otherOf, Cond.code yX8_otherOf cX8_otherOf 1 (some .int), Cond.methodLink RX8 39 yX8_isMediator, Cond.instanceMethod yX8_isMediator, Cond.selects RX8 yX8_isMediator yX8_isMediator, Cond.code yX8_isMediator cX8_isMediator 2 (some .boolean), Cond.fieldLink RX8 7 "QuietStairsModel" "s" "[I", Cond.methodLink RX8 50 yX8_isCase, Cond.instanceMethod yX8_isCase, Cond.selects RX8 yX8_isCase yX8_isCase, Cond.code yX8_isCase cX8_isCase 2 (some .boolean), Cond.methodLink RX8 76 yX8_may, Cond.instanceMethod yX8_may, Cond.selects RX8 yX8_may yX8_may, Cond.code yX8_may cX8_may 9 (some .boolean)]
def wsX8_maySit_r2 : List Cond := [Cond.methodLink RX8 66 yX8_oneOf, Cond.static yX8_oneOf, Cond.code yX8_oneOf cX8_oneOf 1 (some .int), Cond.methodLink RX8 46 yX8_at, Cond.static yX8_at, Cond.code yX8_at cX8_at 2 (some .int), Cond.methodLink RX8 69 yX8_mayMeet, Cond.instanceMethod yX8_mayMeet, Cond.selects RX8 yX8_mayMeet yX8_mayMeet, Cond.code yX8_mayMeet cX8_mayMeet 3 (some .boolean)]
def wsX8_maySit : List Cond := .code yX8_maySit cX8_maySit 3 (some .int) :: ((wsX8_maySit_r1 ++ wsX8_maySit_r2) ++ wsX80)
def wsX8_rooms : List Cond := .code yX8_rooms cX8_rooms 3 (some .int) :: ([.fieldLink RX8 16 "QuietStairsModel" "rooms" "I", .methodLink RX8 35 yX8_in, .static yX8_in, .initialized RX8, .code yX8_in cX8_in 3 (some .boolean)] ++ wsX80)
def wsX8_fits_r1 : List Cond := [Cond.fieldLink RX8 26 "QuietStairsModel" "tried" "[I", Cond.fieldLink RX8 23 "QuietStairsModel" "planned" "[I", Cond.fieldLink RX8 16 "QuietStairsModel" "rooms" "I", Cond.methodLink RX8 73 yX8_isPair, Cond.instanceMethod yX8_isPair, Cond.selects RX8 yX8_isPair yX8_isPair, Cond.initialized RX8, Cond.code yX8_isPair cX8_isPair 2 (some .boolean), Cond.methodLink RX8 35 yX8_in, Cond.static yX8_in, Cond.code yX8_in cX8_in 3 (some .boolean), Cond.methodLink RX8 63 yX8_otherOf, Cond.static yX8_otherOf, Cond.code yX8_otherOf cX8_otherOf 1 (some .int), Cond.methodLink RX8 39 yX8_isMediator, Cond.instanceMethod yX8_isMediator, Cond.selects RX8 yX8_isMediator yX8_isMediator, Cond.code yX8_isMediator cX8_isMediator 2 (some .boolean), Cond.fieldLink RX8 7 "QuietStairsModel" "s" "[I", Cond.methodLink RX8 76 yX8_may, Cond.instanceMethod yX8_may, Cond.selects RX8 yX8_may yX8_may, Cond.code yX8_may cX8_may 9 (some .boolean), Cond.methodLink RX8 66 yX8_oneOf]
def wsX8_fits_r2 : List Cond := [Cond.static yX8_oneOf, Cond.code yX8_oneOf cX8_oneOf 1 (some .int), Cond.methodLink RX8 46 yX8_at, Cond.static yX8_at, Cond.code yX8_at cX8_at 2 (some .int), Cond.methodLink RX8 69 yX8_mayMeet, Cond.instanceMethod yX8_mayMeet, Cond.selects RX8 yX8_mayMeet yX8_mayMeet, Cond.code yX8_mayMeet cX8_mayMeet 3 (some .boolean)]
def wsX8_fits : List Cond := .code yX8_fits cX8_fits 8 (some .boolean) :: ((wsX8_fits_r1 ++ wsX8_fits_r2) ++ wsX80)
def wsX8_waitsOf : List Cond := .code yX8_waitsOf cX8_waitsOf 4 (some .int) :: ([.fieldLink RX8 7 "QuietStairsModel" "s" "[I", .fieldLink RX8 23 "QuietStairsModel" "planned" "[I", .fieldLink RX8 26 "QuietStairsModel" "tried" "[I", .methodLink RX8 46 yX8_at, .static yX8_at, .initialized RX8, .code yX8_at cX8_at 2 (some .int)] ++ wsX80)
def wsX8_note : List Cond := .code yX8_note cX8_note 3 none :: ([.fieldLink RX8 79 "QuietStairsModel" "many" "I", .fieldLink RX8 85 "QuietStairsModel" "least" "I", .fieldLink RX8 29 "QuietStairsModel" "best" "[I", .fieldLink RX8 26 "QuietStairsModel" "tried" "[I", .methodLink RX8 82 yX8_waitsOf, .instanceMethod yX8_waitsOf, .selects RX8 yX8_waitsOf yX8_waitsOf, .initialized RX8, .code yX8_waitsOf cX8_waitsOf 4 (some .int), .fieldLink RX8 7 "QuietStairsModel" "s" "[I", .fieldLink RX8 23 "QuietStairsModel" "planned" "[I", .methodLink RX8 46 yX8_at, .static yX8_at, .code yX8_at cX8_at 2 (some .int)] ++ wsX80)
def wsX8_makePlan_r1 : List Cond := [Cond.fieldLink RX8 79 "QuietStairsModel" "many" "I", Cond.fieldLink RX8 7 "QuietStairsModel" "s" "[I", Cond.fieldLink RX8 23 "QuietStairsModel" "planned" "[I", Cond.constant RX8 88 (1000000), Cond.fieldLink RX8 85 "QuietStairsModel" "least" "I", Cond.fieldLink RX8 26 "QuietStairsModel" "tried" "[I", Cond.methodLink RX8 46 yX8_at, Cond.static yX8_at, Cond.initialized RX8, Cond.code yX8_at cX8_at 2 (some .int), Cond.methodLink RX8 89 yX8_note, Cond.instanceMethod yX8_note, Cond.selects RX8 yX8_note yX8_note, Cond.code yX8_note cX8_note 3 none, Cond.fieldLink RX8 29 "QuietStairsModel" "best" "[I", Cond.methodLink RX8 82 yX8_waitsOf, Cond.instanceMethod yX8_waitsOf, Cond.selects RX8 yX8_waitsOf yX8_waitsOf, Cond.code yX8_waitsOf cX8_waitsOf 4 (some .int), Cond.methodLink RX8 92 yX8_fits, Cond.instanceMethod yX8_fits, Cond.selects RX8 yX8_fits yX8_fits, Cond.code yX8_fits cX8_fits 8 (some .boolean), Cond.fieldLink RX8 16 "QuietStairsModel" "rooms" "I"]
def wsX8_makePlan_r2 : List Cond := [Cond.methodLink RX8 73 yX8_isPair, Cond.instanceMethod yX8_isPair, Cond.selects RX8 yX8_isPair yX8_isPair, Cond.code yX8_isPair cX8_isPair 2 (some .boolean), Cond.methodLink RX8 35 yX8_in, Cond.static yX8_in, Cond.code yX8_in cX8_in 3 (some .boolean), Cond.methodLink RX8 63 yX8_otherOf, Cond.static yX8_otherOf, Cond.code yX8_otherOf cX8_otherOf 1 (some .int), Cond.methodLink RX8 39 yX8_isMediator, Cond.instanceMethod yX8_isMediator, Cond.selects RX8 yX8_isMediator yX8_isMediator, Cond.code yX8_isMediator cX8_isMediator 2 (some .boolean), Cond.methodLink RX8 76 yX8_may, Cond.instanceMethod yX8_may, Cond.selects RX8 yX8_may yX8_may, Cond.code yX8_may cX8_may 9 (some .boolean), Cond.methodLink RX8 66 yX8_oneOf, Cond.static yX8_oneOf, Cond.code yX8_oneOf cX8_oneOf 1 (some .int), Cond.methodLink RX8 69 yX8_mayMeet, Cond.instanceMethod yX8_mayMeet, Cond.selects RX8 yX8_mayMeet yX8_mayMeet]
def wsX8_makePlan_r3 : List Cond := [Cond.code yX8_mayMeet cX8_mayMeet 3 (some .boolean)]
def wsX8_makePlan : List Cond := .code yX8_makePlan cX8_makePlan 2 none :: ((wsX8_makePlan_r1 ++ (wsX8_makePlan_r2 ++ wsX8_makePlan_r3)) ++ wsX80)
def wsX8_plan_r1 : List Cond := [Cond.fieldLink RX8 7 "QuietStairsModel" "s" "[I", Cond.fieldLink RX8 79 "QuietStairsModel" "many" "I", Cond.fieldLink RX8 23 "QuietStairsModel" "planned" "[I", Cond.fieldLink RX8 29 "QuietStairsModel" "best" "[I", Cond.methodLink RX8 50 yX8_isCase, Cond.instanceMethod yX8_isCase, Cond.selects RX8 yX8_isCase yX8_isCase, Cond.initialized RX8, Cond.code yX8_isCase cX8_isCase 2 (some .boolean), Cond.methodLink RX8 35 yX8_in, Cond.static yX8_in, Cond.code yX8_in cX8_in 3 (some .boolean), Cond.methodLink RX8 46 yX8_at, Cond.static yX8_at, Cond.code yX8_at cX8_at 2 (some .int), Cond.methodLink RX8 95 yX8_makePlan, Cond.instanceMethod yX8_makePlan, Cond.selects RX8 yX8_makePlan yX8_makePlan, Cond.code yX8_makePlan cX8_makePlan 2 none, Cond.constant RX8 88 (1000000), Cond.fieldLink RX8 85 "QuietStairsModel" "least" "I", Cond.fieldLink RX8 26 "QuietStairsModel" "tried" "[I", Cond.methodLink RX8 89 yX8_note, Cond.instanceMethod yX8_note]
def wsX8_plan_r2 : List Cond := [Cond.selects RX8 yX8_note yX8_note, Cond.code yX8_note cX8_note 3 none, Cond.methodLink RX8 82 yX8_waitsOf, Cond.instanceMethod yX8_waitsOf, Cond.selects RX8 yX8_waitsOf yX8_waitsOf, Cond.code yX8_waitsOf cX8_waitsOf 4 (some .int), Cond.methodLink RX8 92 yX8_fits, Cond.instanceMethod yX8_fits, Cond.selects RX8 yX8_fits yX8_fits, Cond.code yX8_fits cX8_fits 8 (some .boolean), Cond.fieldLink RX8 16 "QuietStairsModel" "rooms" "I", Cond.methodLink RX8 73 yX8_isPair, Cond.instanceMethod yX8_isPair, Cond.selects RX8 yX8_isPair yX8_isPair, Cond.code yX8_isPair cX8_isPair 2 (some .boolean), Cond.methodLink RX8 63 yX8_otherOf, Cond.static yX8_otherOf, Cond.code yX8_otherOf cX8_otherOf 1 (some .int), Cond.methodLink RX8 39 yX8_isMediator, Cond.instanceMethod yX8_isMediator, Cond.selects RX8 yX8_isMediator yX8_isMediator, Cond.code yX8_isMediator cX8_isMediator 2 (some .boolean), Cond.methodLink RX8 76 yX8_may, Cond.instanceMethod yX8_may]
def wsX8_plan_r3 : List Cond := [Cond.selects RX8 yX8_may yX8_may, Cond.code yX8_may cX8_may 9 (some .boolean), Cond.methodLink RX8 66 yX8_oneOf, Cond.static yX8_oneOf, Cond.code yX8_oneOf cX8_oneOf 1 (some .int), Cond.methodLink RX8 69 yX8_mayMeet, Cond.instanceMethod yX8_mayMeet, Cond.selects RX8 yX8_mayMeet yX8_mayMeet, Cond.code yX8_mayMeet cX8_mayMeet 3 (some .boolean)]
def wsX8_plan : List Cond := .code yX8_plan cX8_plan 3 (some .int) :: ((wsX8_plan_r1 ++ (wsX8_plan_r2 ++ wsX8_plan_r3)) ++ wsX80)
def wsX8_waits_r1 : List Cond := [Cond.fieldLink RX8 85 "QuietStairsModel" "least" "I", Cond.methodLink RX8 95 yX8_makePlan, Cond.instanceMethod yX8_makePlan, Cond.selects RX8 yX8_makePlan yX8_makePlan, Cond.initialized RX8, Cond.code yX8_makePlan cX8_makePlan 2 none, Cond.fieldLink RX8 79 "QuietStairsModel" "many" "I", Cond.fieldLink RX8 7 "QuietStairsModel" "s" "[I", Cond.fieldLink RX8 23 "QuietStairsModel" "planned" "[I", Cond.constant RX8 88 (1000000), Cond.fieldLink RX8 26 "QuietStairsModel" "tried" "[I", Cond.methodLink RX8 46 yX8_at, Cond.static yX8_at, Cond.code yX8_at cX8_at 2 (some .int), Cond.methodLink RX8 89 yX8_note, Cond.instanceMethod yX8_note, Cond.selects RX8 yX8_note yX8_note, Cond.code yX8_note cX8_note 3 none, Cond.fieldLink RX8 29 "QuietStairsModel" "best" "[I", Cond.methodLink RX8 82 yX8_waitsOf, Cond.instanceMethod yX8_waitsOf, Cond.selects RX8 yX8_waitsOf yX8_waitsOf, Cond.code yX8_waitsOf cX8_waitsOf 4 (some .int), Cond.methodLink RX8 92 yX8_fits]
def wsX8_waits_r2 : List Cond := [Cond.instanceMethod yX8_fits, Cond.selects RX8 yX8_fits yX8_fits, Cond.code yX8_fits cX8_fits 8 (some .boolean), Cond.fieldLink RX8 16 "QuietStairsModel" "rooms" "I", Cond.methodLink RX8 73 yX8_isPair, Cond.instanceMethod yX8_isPair, Cond.selects RX8 yX8_isPair yX8_isPair, Cond.code yX8_isPair cX8_isPair 2 (some .boolean), Cond.methodLink RX8 35 yX8_in, Cond.static yX8_in, Cond.code yX8_in cX8_in 3 (some .boolean), Cond.methodLink RX8 63 yX8_otherOf, Cond.static yX8_otherOf, Cond.code yX8_otherOf cX8_otherOf 1 (some .int), Cond.methodLink RX8 39 yX8_isMediator, Cond.instanceMethod yX8_isMediator, Cond.selects RX8 yX8_isMediator yX8_isMediator, Cond.code yX8_isMediator cX8_isMediator 2 (some .boolean), Cond.methodLink RX8 76 yX8_may, Cond.instanceMethod yX8_may, Cond.selects RX8 yX8_may yX8_may, Cond.code yX8_may cX8_may 9 (some .boolean), Cond.methodLink RX8 66 yX8_oneOf, Cond.static yX8_oneOf]
def wsX8_waits_r3 : List Cond := [Cond.code yX8_oneOf cX8_oneOf 1 (some .int), Cond.methodLink RX8 69 yX8_mayMeet, Cond.instanceMethod yX8_mayMeet, Cond.selects RX8 yX8_mayMeet yX8_mayMeet, Cond.code yX8_mayMeet cX8_mayMeet 3 (some .boolean)]
def wsX8_waits : List Cond := .code yX8_waits cX8_waits 1 (some .int) :: ((wsX8_waits_r1 ++ (wsX8_waits_r2 ++ wsX8_waits_r3)) ++ wsX80)
def wsX8_termAt : List Cond := .code yX8_termAt cX8_termAt 2 (some .int) :: ([])
def wsX8_isTerm : List Cond := .code yX8_isTerm cX8_isTerm 3 (some .boolean) :: ([.fieldLink RX8 7 "QuietStairsModel" "s" "[I", .methodLink RX8 50 yX8_isCase, .instanceMethod yX8_isCase, .selects RX8 yX8_isCase yX8_isCase, .initialized RX8, .code yX8_isCase cX8_isCase 2 (some .boolean), .methodLink RX8 35 yX8_in, .static yX8_in, .code yX8_in cX8_in 3 (some .boolean), .methodLink RX8 46 yX8_at, .static yX8_at, .code yX8_at cX8_at 2 (some .int)] ++ wsX80)
def wsX8_term : List Cond := .code yX8_term cX8_term 8 (some .int) :: ([.fieldLink RX8 7 "QuietStairsModel" "s" "[I", .methodLink RX8 50 yX8_isCase, .instanceMethod yX8_isCase, .selects RX8 yX8_isCase yX8_isCase, .initialized RX8, .code yX8_isCase cX8_isCase 2 (some .boolean), .methodLink RX8 35 yX8_in, .static yX8_in, .code yX8_in cX8_in 3 (some .boolean), .methodLink RX8 60 yX8_isSide, .static yX8_isSide, .code yX8_isSide cX8_isSide 1 (some .boolean), .methodLink RX8 46 yX8_at, .static yX8_at, .code yX8_at cX8_at 2 (some .int), .methodLink RX8 98 yX8_termAt, .static yX8_termAt, .code yX8_termAt cX8_termAt 2 (some .int)] ++ wsX80)
def wsX8_strike : List Cond := .code yX8_strike cX8_strike 2 (some .int) :: ([.fieldLink RX8 7 "QuietStairsModel" "s" "[I", .methodLink RX8 50 yX8_isCase, .instanceMethod yX8_isCase, .selects RX8 yX8_isCase yX8_isCase, .initialized RX8, .code yX8_isCase cX8_isCase 2 (some .boolean), .methodLink RX8 35 yX8_in, .static yX8_in, .code yX8_in cX8_in 3 (some .boolean), .methodLink RX8 46 yX8_at, .static yX8_at, .code yX8_at cX8_at 2 (some .int)] ++ wsX80)
def wsX8_termOf : List Cond := .code yX8_termOf cX8_termOf 4 (some .int) :: ([.fieldLink RX8 7 "QuietStairsModel" "s" "[I", .methodLink RX8 101 yX8_isTerm, .instanceMethod yX8_isTerm, .selects RX8 yX8_isTerm yX8_isTerm, .initialized RX8, .code yX8_isTerm cX8_isTerm 3 (some .boolean), .methodLink RX8 50 yX8_isCase, .instanceMethod yX8_isCase, .selects RX8 yX8_isCase yX8_isCase, .code yX8_isCase cX8_isCase 2 (some .boolean), .methodLink RX8 35 yX8_in, .static yX8_in, .code yX8_in cX8_in 3 (some .boolean), .methodLink RX8 46 yX8_at, .static yX8_at, .code yX8_at cX8_at 2 (some .int), .methodLink RX8 98 yX8_termAt, .static yX8_termAt, .code yX8_termAt cX8_termAt 2 (some .int)] ++ wsX80)
def wsX8_isOwn : List Cond := .code yX8_isOwn cX8_isOwn 4 (some .boolean) :: ([.fieldLink RX8 7 "QuietStairsModel" "s" "[I", .methodLink RX8 98 yX8_termAt, .static yX8_termAt, .initialized RX8, .code yX8_termAt cX8_termAt 2 (some .int)] ++ wsX80)
def wsX8_mayBe : List Cond := .code yX8_mayBe cX8_mayBe 9 (some .boolean) :: ([.fieldLink RX8 7 "QuietStairsModel" "s" "[I", .fieldLink RX8 32 "QuietStairsModel" "hours" "[I", .methodLink RX8 98 yX8_termAt, .static yX8_termAt, .initialized RX8, .code yX8_termAt cX8_termAt 2 (some .int), .methodLink RX8 35 yX8_in, .static yX8_in, .code yX8_in cX8_in 3 (some .boolean)] ++ wsX80)
def wsX8_hourFrom : List Cond := .code yX8_hourFrom cX8_hourFrom 6 (some .int) :: ([.fieldLink RX8 32 "QuietStairsModel" "hours" "[I", .fieldLink RX8 7 "QuietStairsModel" "s" "[I", .methodLink RX8 98 yX8_termAt, .static yX8_termAt, .initialized RX8, .code yX8_termAt cX8_termAt 2 (some .int), .methodLink RX8 104 yX8_mayBe, .instanceMethod yX8_mayBe, .selects RX8 yX8_mayBe yX8_mayBe, .code yX8_mayBe cX8_mayBe 9 (some .boolean), .methodLink RX8 35 yX8_in, .static yX8_in, .code yX8_in cX8_in 3 (some .boolean)] ++ wsX80)
def wsX8_next : List Cond := .code yX8_next cX8_next 7 (some .int) :: ([.methodLink RX8 35 yX8_in, .static yX8_in, .initialized RX8, .code yX8_in cX8_in 3 (some .boolean), .methodLink RX8 108 yX8_isOwn, .instanceMethod yX8_isOwn, .selects RX8 yX8_isOwn yX8_isOwn, .code yX8_isOwn cX8_isOwn 4 (some .boolean), .fieldLink RX8 7 "QuietStairsModel" "s" "[I", .methodLink RX8 98 yX8_termAt, .static yX8_termAt, .code yX8_termAt cX8_termAt 2 (some .int)] ++ wsX80)
def wsX8_makeTable_r1 : List Cond := [Cond.fieldLink RX8 7 "QuietStairsModel" "s" "[I", Cond.fieldLink RX8 32 "QuietStairsModel" "hours" "[I", Cond.methodLink RX8 111 yX8_next, Cond.instanceMethod yX8_next, Cond.selects RX8 yX8_next yX8_next, Cond.initialized RX8, Cond.code yX8_next cX8_next 7 (some .int), Cond.methodLink RX8 35 yX8_in, Cond.static yX8_in, Cond.code yX8_in cX8_in 3 (some .boolean), Cond.methodLink RX8 108 yX8_isOwn, Cond.instanceMethod yX8_isOwn, Cond.selects RX8 yX8_isOwn yX8_isOwn, Cond.code yX8_isOwn cX8_isOwn 4 (some .boolean), Cond.methodLink RX8 98 yX8_termAt, Cond.static yX8_termAt, Cond.code yX8_termAt cX8_termAt 2 (some .int), Cond.methodLink RX8 115 yX8_hourFrom, Cond.instanceMethod yX8_hourFrom, Cond.selects RX8 yX8_hourFrom yX8_hourFrom, Cond.code yX8_hourFrom cX8_hourFrom 6 (some .int), Cond.methodLink RX8 104 yX8_mayBe, Cond.instanceMethod yX8_mayBe, Cond.selects RX8 yX8_mayBe yX8_mayBe]
def wsX8_makeTable_r2 : List Cond := [Cond.code yX8_mayBe cX8_mayBe 9 (some .boolean)]
def wsX8_makeTable : List Cond := .code yX8_makeTable cX8_makeTable 7 (some .boolean) :: ((wsX8_makeTable_r1 ++ wsX8_makeTable_r2) ++ wsX80)
def wsX8_hour_r1 : List Cond := [Cond.fieldLink RX8 7 "QuietStairsModel" "s" "[I", Cond.fieldLink RX8 32 "QuietStairsModel" "hours" "[I", Cond.methodLink RX8 101 yX8_isTerm, Cond.instanceMethod yX8_isTerm, Cond.selects RX8 yX8_isTerm yX8_isTerm, Cond.initialized RX8, Cond.code yX8_isTerm cX8_isTerm 3 (some .boolean), Cond.methodLink RX8 50 yX8_isCase, Cond.instanceMethod yX8_isCase, Cond.selects RX8 yX8_isCase yX8_isCase, Cond.code yX8_isCase cX8_isCase 2 (some .boolean), Cond.methodLink RX8 35 yX8_in, Cond.static yX8_in, Cond.code yX8_in cX8_in 3 (some .boolean), Cond.methodLink RX8 46 yX8_at, Cond.static yX8_at, Cond.code yX8_at cX8_at 2 (some .int), Cond.methodLink RX8 98 yX8_termAt, Cond.static yX8_termAt, Cond.code yX8_termAt cX8_termAt 2 (some .int), Cond.methodLink RX8 118 yX8_makeTable, Cond.instanceMethod yX8_makeTable, Cond.selects RX8 yX8_makeTable yX8_makeTable, Cond.code yX8_makeTable cX8_makeTable 7 (some .boolean)]
def wsX8_hour_r2 : List Cond := [Cond.methodLink RX8 111 yX8_next, Cond.instanceMethod yX8_next, Cond.selects RX8 yX8_next yX8_next, Cond.code yX8_next cX8_next 7 (some .int), Cond.methodLink RX8 108 yX8_isOwn, Cond.instanceMethod yX8_isOwn, Cond.selects RX8 yX8_isOwn yX8_isOwn, Cond.code yX8_isOwn cX8_isOwn 4 (some .boolean), Cond.methodLink RX8 115 yX8_hourFrom, Cond.instanceMethod yX8_hourFrom, Cond.selects RX8 yX8_hourFrom yX8_hourFrom, Cond.code yX8_hourFrom cX8_hourFrom 6 (some .int), Cond.methodLink RX8 104 yX8_mayBe, Cond.instanceMethod yX8_mayBe, Cond.selects RX8 yX8_mayBe yX8_mayBe, Cond.code yX8_mayBe cX8_mayBe 9 (some .boolean)]
def wsX8_hour : List Cond := .code yX8_hour cX8_hour 4 (some .int) :: ((wsX8_hour_r1 ++ wsX8_hour_r2) ++ wsX80)
def wsX8_canHold_r1 : List Cond := [Cond.fieldLink RX8 7 "QuietStairsModel" "s" "[I", Cond.methodLink RX8 50 yX8_isCase, Cond.instanceMethod yX8_isCase, Cond.selects RX8 yX8_isCase yX8_isCase, Cond.initialized RX8, Cond.code yX8_isCase cX8_isCase 2 (some .boolean), Cond.methodLink RX8 35 yX8_in, Cond.static yX8_in, Cond.code yX8_in cX8_in 3 (some .boolean), Cond.methodLink RX8 60 yX8_isSide, Cond.static yX8_isSide, Cond.code yX8_isSide cX8_isSide 1 (some .boolean), Cond.methodLink RX8 46 yX8_at, Cond.static yX8_at, Cond.code yX8_at cX8_at 2 (some .int), Cond.methodLink RX8 118 yX8_makeTable, Cond.instanceMethod yX8_makeTable, Cond.selects RX8 yX8_makeTable yX8_makeTable, Cond.code yX8_makeTable cX8_makeTable 7 (some .boolean), Cond.fieldLink RX8 32 "QuietStairsModel" "hours" "[I", Cond.methodLink RX8 111 yX8_next, Cond.instanceMethod yX8_next, Cond.selects RX8 yX8_next yX8_next, Cond.code yX8_next cX8_next 7 (some .int)]
def wsX8_canHold_r2 : List Cond := [Cond.methodLink RX8 108 yX8_isOwn, Cond.instanceMethod yX8_isOwn, Cond.selects RX8 yX8_isOwn yX8_isOwn, Cond.code yX8_isOwn cX8_isOwn 4 (some .boolean), Cond.methodLink RX8 98 yX8_termAt, Cond.static yX8_termAt, Cond.code yX8_termAt cX8_termAt 2 (some .int), Cond.methodLink RX8 115 yX8_hourFrom, Cond.instanceMethod yX8_hourFrom, Cond.selects RX8 yX8_hourFrom yX8_hourFrom, Cond.code yX8_hourFrom cX8_hourFrom 6 (some .int), Cond.methodLink RX8 104 yX8_mayBe, Cond.instanceMethod yX8_mayBe, Cond.selects RX8 yX8_mayBe yX8_mayBe, Cond.code yX8_mayBe cX8_mayBe 9 (some .boolean)]
def wsX8_canHold : List Cond := .code yX8_canHold cX8_canHold 3 (some .int) :: ((wsX8_canHold_r1 ++ wsX8_canHold_r2) ++ wsX80)
def wsX8_breaks_r1 : List Cond := [Cond.fieldLink RX8 7 "QuietStairsModel" "s" "[I", Cond.methodLink RX8 50 yX8_isCase, Cond.instanceMethod yX8_isCase, Cond.selects RX8 yX8_isCase yX8_isCase, Cond.initialized RX8, Cond.code yX8_isCase cX8_isCase 2 (some .boolean), Cond.methodLink RX8 35 yX8_in, Cond.static yX8_in, Cond.code yX8_in cX8_in 3 (some .boolean), Cond.methodLink RX8 60 yX8_isSide, Cond.static yX8_isSide, Cond.code yX8_isSide cX8_isSide 1 (some .boolean), Cond.methodLink RX8 46 yX8_at, Cond.static yX8_at, Cond.code yX8_at cX8_at 2 (some .int), Cond.methodLink RX8 98 yX8_termAt, Cond.static yX8_termAt, Cond.code yX8_termAt cX8_termAt 2 (some .int), Cond.methodLink RX8 118 yX8_makeTable, Cond.instanceMethod yX8_makeTable, Cond.selects RX8 yX8_makeTable yX8_makeTable, Cond.code yX8_makeTable cX8_makeTable 7 (some .boolean), Cond.fieldLink RX8 32 "QuietStairsModel" "hours" "[I", Cond.methodLink RX8 111 yX8_next]
def wsX8_breaks_r2 : List Cond := [Cond.instanceMethod yX8_next, Cond.selects RX8 yX8_next yX8_next, Cond.code yX8_next cX8_next 7 (some .int), Cond.methodLink RX8 108 yX8_isOwn, Cond.instanceMethod yX8_isOwn, Cond.selects RX8 yX8_isOwn yX8_isOwn, Cond.code yX8_isOwn cX8_isOwn 4 (some .boolean), Cond.methodLink RX8 115 yX8_hourFrom, Cond.instanceMethod yX8_hourFrom, Cond.selects RX8 yX8_hourFrom yX8_hourFrom, Cond.code yX8_hourFrom cX8_hourFrom 6 (some .int), Cond.methodLink RX8 104 yX8_mayBe, Cond.instanceMethod yX8_mayBe, Cond.selects RX8 yX8_mayBe yX8_mayBe, Cond.code yX8_mayBe cX8_mayBe 9 (some .boolean)]
def wsX8_breaks : List Cond := .code yX8_breaks cX8_breaks 4 (some .int) :: ((wsX8_breaks_r1 ++ wsX8_breaks_r2) ++ wsX80)
def wsX8_log : List Cond := .code yX8_log cX8_log 7 (some .int) :: ([.fieldLink RX8 7 "QuietStairsModel" "s" "[I", .methodLink RX8 50 yX8_isCase, .instanceMethod yX8_isCase, .selects RX8 yX8_isCase yX8_isCase, .initialized RX8, .code yX8_isCase cX8_isCase 2 (some .boolean), .methodLink RX8 35 yX8_in, .static yX8_in, .code yX8_in cX8_in 3 (some .boolean), .methodLink RX8 60 yX8_isSide, .static yX8_isSide, .code yX8_isSide cX8_isSide 1 (some .boolean)] ++ wsX80)
def wsX8_judge : List Cond := .code yX8_judge cX8_judge 8 (some .int) :: ([.fieldLink RX8 7 "QuietStairsModel" "s" "[I", .methodLink RX8 98 yX8_termAt, .static yX8_termAt, .initialized RX8, .code yX8_termAt cX8_termAt 2 (some .int)] ++ wsX80)
def wsX8_judged : List Cond := .code yX8_judged cX8_judged 3 (some .int) :: ([.methodLink RX8 101 yX8_isTerm, .instanceMethod yX8_isTerm, .selects RX8 yX8_isTerm yX8_isTerm, .initialized RX8, .code yX8_isTerm cX8_isTerm 3 (some .boolean), .fieldLink RX8 7 "QuietStairsModel" "s" "[I", .methodLink RX8 50 yX8_isCase, .instanceMethod yX8_isCase, .selects RX8 yX8_isCase yX8_isCase, .code yX8_isCase cX8_isCase 2 (some .boolean), .methodLink RX8 35 yX8_in, .static yX8_in, .code yX8_in cX8_in 3 (some .boolean), .methodLink RX8 46 yX8_at, .static yX8_at, .code yX8_at cX8_at 2 (some .int), .methodLink RX8 121 yX8_judge, .instanceMethod yX8_judge, .selects RX8 yX8_judge yX8_judge, .code yX8_judge cX8_judge 8 (some .int), .methodLink RX8 98 yX8_termAt, .static yX8_termAt, .code yX8_termAt cX8_termAt 2 (some .int)] ++ wsX80)
def wsX8_casesThat : List Cond := .code yX8_casesThat cX8_casesThat 4 (some .int) :: ([.fieldLink RX8 7 "QuietStairsModel" "s" "[I", .methodLink RX8 46 yX8_at, .static yX8_at, .initialized RX8, .code yX8_at cX8_at 2 (some .int)] ++ wsX80)
def wsX8_quarrels : List Cond := .code yX8_quarrels cX8_quarrels 3 (some .int) :: ([.fieldLink RX8 7 "QuietStairsModel" "s" "[I", .fieldLink RX8 20 "QuietStairsModel" "headOf" "[I", .methodLink RX8 53 yX8_findHeads, .instanceMethod yX8_findHeads, .selects RX8 yX8_findHeads yX8_findHeads, .initialized RX8, .code yX8_findHeads cX8_findHeads 6 none] ++ wsX80)
def wsX8_termsThat : List Cond := .code yX8_termsThat cX8_termsThat 5 (some .int) :: ([.fieldLink RX8 7 "QuietStairsModel" "s" "[I", .methodLink RX8 46 yX8_at, .static yX8_at, .initialized RX8, .code yX8_at cX8_at 2 (some .int), .methodLink RX8 121 yX8_judge, .instanceMethod yX8_judge, .selects RX8 yX8_judge yX8_judge, .code yX8_judge cX8_judge 8 (some .int), .methodLink RX8 98 yX8_termAt, .static yX8_termAt, .code yX8_termAt cX8_termAt 2 (some .int)] ++ wsX80)
def wsX8_many_r1 : List Cond := [Cond.fieldLink RX8 7 "QuietStairsModel" "s" "[I", Cond.methodLink RX8 124 yX8_casesThat, Cond.instanceMethod yX8_casesThat, Cond.selects RX8 yX8_casesThat yX8_casesThat, Cond.initialized RX8, Cond.code yX8_casesThat cX8_casesThat 4 (some .int), Cond.methodLink RX8 46 yX8_at, Cond.static yX8_at, Cond.code yX8_at cX8_at 2 (some .int), Cond.methodLink RX8 127 yX8_quarrels, Cond.instanceMethod yX8_quarrels, Cond.selects RX8 yX8_quarrels yX8_quarrels, Cond.code yX8_quarrels cX8_quarrels 3 (some .int), Cond.fieldLink RX8 20 "QuietStairsModel" "headOf" "[I", Cond.methodLink RX8 53 yX8_findHeads, Cond.instanceMethod yX8_findHeads, Cond.selects RX8 yX8_findHeads yX8_findHeads, Cond.code yX8_findHeads cX8_findHeads 6 none, Cond.methodLink RX8 131 yX8_termsThat, Cond.instanceMethod yX8_termsThat, Cond.selects RX8 yX8_termsThat yX8_termsThat, Cond.code yX8_termsThat cX8_termsThat 5 (some .int), Cond.methodLink RX8 121 yX8_judge, Cond.instanceMethod yX8_judge]
def wsX8_many_r2 : List Cond := [Cond.selects RX8 yX8_judge yX8_judge, Cond.code yX8_judge cX8_judge 8 (some .int), Cond.methodLink RX8 98 yX8_termAt, Cond.static yX8_termAt, Cond.code yX8_termAt cX8_termAt 2 (some .int)]
def wsX8_many : List Cond := .code yX8_many cX8_many 2 (some .int) :: ((wsX8_many_r1 ++ wsX8_many_r2) ++ wsX80)
def wsX8_keep : List Cond := .code yX8_keep cX8_keep 2 (some .int) :: ([.fieldLink RX8 13 "QuietStairsModel" "kept" "[I", .fieldLink RX8 7 "QuietStairsModel" "s" "[I", .fieldLink RX8 134 "QuietStairsModel" "isKept" "Z"] ++ wsX80)
def wsX8_back : List Cond := .code yX8_back cX8_back 2 (some .int) :: ([.fieldLink RX8 134 "QuietStairsModel" "isKept" "Z", .fieldLink RX8 7 "QuietStairsModel" "s" "[I", .fieldLink RX8 13 "QuietStairsModel" "kept" "[I"] ++ wsX80)
def wsJ9_max_7cf53 : List Cond := .code yJ9_max_7cf53 cJ9_max_7cf53 2 (some .int) :: ([])
def wsJ9_min_7cf53 : List Cond := .code yJ9_min_7cf53 cJ9_min_7cf53 2 (some .int) :: ([])
abbrev vwCl : List vw_C := [(RX0, TX0, 11), (RX1, TX1, 7), (RX2, TX2, 3), (RX3, TX3, 2), (RX4, TX4, 11), (RX5, TX5, 3), (RX6, TX6, 5), (RX7, TX7, 5), (RX8, TX8, 11)]
end
section
set_option maxRecDepth 20000 in
theorem ggX0_init_X6_init : GoodIn wsX0_init wsX6_init := goodIn_r _ [15, 16, 2, 3] (by decide +kernel) (by decide +kernel)
set_option maxRecDepth 20000 in
theorem gX0_init_X6_init_n32 : GoodIn wsX0_init (wsX6_init) := ggX0_init_X6_init
theorem dX0_init_0 : decode cX0_init 0 = .ok (.aload_n 0, 1) := by decide +kernel
theorem dX0_init_1 : decode cX0_init 1 = .ok (.invokespecial 3, 3) := by decide +kernel
theorem dX0_init_4 : decode cX0_init 4 = .ok (.aload_n 0, 1) := by decide +kernel
theorem dX0_init_5 : decode cX0_init 5 = .ok (.iconst 2, 1) := by decide +kernel
theorem dX0_init_6 : decode cX0_init 6 = .ok (.newarray .int, 2) := by decide +kernel
theorem dX0_init_8 : decode cX0_init 8 = .ok (.putfield 9, 3) := by decide +kernel
theorem dX0_init_11 : decode cX0_init 11 = .ok (.aload_n 0, 1) := by decide +kernel
theorem dX0_init_12 : decode cX0_init 12 = .ok (.iconst 2, 1) := by decide +kernel
theorem dX0_init_13 : decode cX0_init 13 = .ok (.newarray .int, 2) := by decide +kernel
theorem dX0_init_15 : decode cX0_init 15 = .ok (.putfield 15, 3) := by decide +kernel
theorem dX0_init_18 : decode cX0_init 18 = .ok (.aload_n 0, 1) := by decide +kernel
theorem dX0_init_19 : decode cX0_init 19 = .ok (.iconst 2, 1) := by decide +kernel
theorem dX0_init_20 : decode cX0_init 20 = .ok (.iconst 5, 1) := by decide +kernel
theorem dX0_init_21 : decode cX0_init 21 = .ok (.multianewarray 18 2, 4) := by decide +kernel
theorem dX0_init_25 : decode cX0_init 25 = .ok (.putfield 20, 3) := by decide +kernel
theorem dX0_init_28 : decode cX0_init 28 = .ok (.aload_n 0, 1) := by decide +kernel
theorem dX0_init_29 : decode cX0_init 29 = .ok (.iconst 2, 1) := by decide +kernel
theorem dX0_init_30 : decode cX0_init 30 = .ok (.bipush 24, 2) := by decide +kernel
theorem dX0_init_32 : decode cX0_init 32 = .ok (.multianewarray 18 2, 4) := by decide +kernel
theorem dX0_init_36 : decode cX0_init 36 = .ok (.putfield 23, 3) := by decide +kernel
theorem dX0_init_39 : decode cX0_init 39 = .ok (.aload_n 0, 1) := by decide +kernel
theorem dX0_init_40 : decode cX0_init 40 = .ok (.iconst 5, 1) := by decide +kernel
theorem dX0_init_41 : decode cX0_init 41 = .ok (.anewarray 26, 3) := by decide +kernel
theorem dX0_init_44 : decode cX0_init 44 = .ok (.putfield 28, 3) := by decide +kernel
theorem dX0_init_47 : decode cX0_init 47 = .ok (.iconst 0, 1) := by decide +kernel
theorem dX0_init_48 : decode cX0_init 48 = .ok (.istore_n 1, 1) := by decide +kernel
theorem dX0_init_49 : decode cX0_init 49 = .ok (.iload_n 1, 1) := by decide +kernel
theorem dX0_init_50 : decode cX0_init 50 = .ok (.iconst 5, 1) := by decide +kernel
theorem dX0_init_51 : decode cX0_init 51 = .ok (.if_icmp .ge 22, 3) := by decide +kernel
theorem dX0_init_54 : decode cX0_init 54 = .ok (.aload_n 0, 1) := by decide +kernel
theorem dX0_init_55 : decode cX0_init 55 = .ok (.getfield 28, 3) := by decide +kernel
theorem dX0_init_58 : decode cX0_init 58 = .ok (.iload_n 1, 1) := by decide +kernel
theorem dX0_init_59 : decode cX0_init 59 = .ok (.new 26, 3) := by decide +kernel
theorem dX0_init_62 : decode cX0_init 62 = .ok (.dup, 1) := by decide +kernel
theorem dX0_init_63 : decode cX0_init 63 = .ok (.invokespecial 32, 3) := by decide +kernel
theorem dX0_init_66 : decode cX0_init 66 = .ok (.aastore, 1) := by decide +kernel
theorem dX0_init_67 : decode cX0_init 67 = .ok (.iinc 1 1, 3) := by decide +kernel
theorem dX0_init_70 : decode cX0_init 70 = .ok (.goto (-21), 3) := by decide +kernel
theorem dX0_init_73 : decode cX0_init 73 = .ok (.return_, 1) := by decide +kernel
theorem dX0_begin_0 : decode cX0_begin 0 = .ok (.aload_n 0, 1) := by decide +kernel
theorem dX0_begin_1 : decode cX0_begin 1 = .ok (.iconst 0, 1) := by decide +kernel
theorem dX0_begin_2 : decode cX0_begin 2 = .ok (.putfield 33, 3) := by decide +kernel
theorem dX0_begin_5 : decode cX0_begin 5 = .ok (.aload_n 0, 1) := by decide +kernel
theorem dX0_begin_6 : decode cX0_begin 6 = .ok (.iconst 0, 1) := by decide +kernel
theorem dX0_begin_7 : decode cX0_begin 7 = .ok (.putfield 37, 3) := by decide +kernel
theorem dX0_begin_10 : decode cX0_begin 10 = .ok (.aload_n 0, 1) := by decide +kernel
theorem dX0_begin_11 : decode cX0_begin 11 = .ok (.iconst 0, 1) := by decide +kernel
theorem dX0_begin_12 : decode cX0_begin 12 = .ok (.putfield 40, 3) := by decide +kernel
theorem dX0_begin_15 : decode cX0_begin 15 = .ok (.aload_n 0, 1) := by decide +kernel
theorem dX0_begin_16 : decode cX0_begin 16 = .ok (.iconst 1, 1) := by decide +kernel
theorem dX0_begin_17 : decode cX0_begin 17 = .ok (.putfield 43, 3) := by decide +kernel
theorem dX0_begin_20 : decode cX0_begin 20 = .ok (.aload_n 0, 1) := by decide +kernel
theorem dX0_begin_21 : decode cX0_begin 21 = .ok (.iconst 0, 1) := by decide +kernel
theorem dX0_begin_22 : decode cX0_begin 22 = .ok (.putfield 46, 3) := by decide +kernel
theorem dX0_begin_25 : decode cX0_begin 25 = .ok (.aload_n 0, 1) := by decide +kernel
theorem dX0_begin_26 : decode cX0_begin 26 = .ok (.iconst 0, 1) := by decide +kernel
theorem dX0_begin_27 : decode cX0_begin 27 = .ok (.putfield 49, 3) := by decide +kernel
theorem dX0_begin_30 : decode cX0_begin 30 = .ok (.aload_n 0, 1) := by decide +kernel
theorem dX0_begin_31 : decode cX0_begin 31 = .ok (.getfield 9, 3) := by decide +kernel
theorem dX0_begin_34 : decode cX0_begin 34 = .ok (.iconst 0, 1) := by decide +kernel
theorem dX0_begin_35 : decode cX0_begin 35 = .ok (.iload_n 1, 1) := by decide +kernel
theorem dX0_begin_36 : decode cX0_begin 36 = .ok (.iastore, 1) := by decide +kernel
theorem dX0_begin_37 : decode cX0_begin 37 = .ok (.aload_n 0, 1) := by decide +kernel
theorem dX0_begin_38 : decode cX0_begin 38 = .ok (.getfield 9, 3) := by decide +kernel
theorem dX0_begin_41 : decode cX0_begin 41 = .ok (.iconst 1, 1) := by decide +kernel
theorem dX0_begin_42 : decode cX0_begin 42 = .ok (.iload_n 2, 1) := by decide +kernel
theorem dX0_begin_43 : decode cX0_begin 43 = .ok (.iastore, 1) := by decide +kernel
theorem dX0_begin_44 : decode cX0_begin 44 = .ok (.iconst 0, 1) := by decide +kernel
theorem dX0_begin_45 : decode cX0_begin 45 = .ok (.istore_n 3, 1) := by decide +kernel
theorem dX0_begin_46 : decode cX0_begin 46 = .ok (.iload_n 3, 1) := by decide +kernel
theorem dX0_begin_47 : decode cX0_begin 47 = .ok (.iconst 2, 1) := by decide +kernel
theorem dX0_begin_48 : decode cX0_begin 48 = .ok (.if_icmp .ge 43, 3) := by decide +kernel
theorem dX0_begin_51 : decode cX0_begin 51 = .ok (.aload_n 0, 1) := by decide +kernel
theorem dX0_begin_52 : decode cX0_begin 52 = .ok (.getfield 15, 3) := by decide +kernel
theorem dX0_begin_55 : decode cX0_begin 55 = .ok (.iload_n 3, 1) := by decide +kernel
theorem dX0_begin_56 : decode cX0_begin 56 = .ok (.iconst (-1), 1) := by decide +kernel
theorem dX0_begin_57 : decode cX0_begin 57 = .ok (.iastore, 1) := by decide +kernel
theorem dX0_begin_58 : decode cX0_begin 58 = .ok (.iconst 0, 1) := by decide +kernel
theorem dX0_begin_59 : decode cX0_begin 59 = .ok (.istore 4, 2) := by decide +kernel
theorem dX0_begin_61 : decode cX0_begin 61 = .ok (.iload 4, 2) := by decide +kernel
theorem dX0_begin_63 : decode cX0_begin 63 = .ok (.bipush 24, 2) := by decide +kernel
theorem dX0_begin_65 : decode cX0_begin 65 = .ok (.if_icmp .ge 20, 3) := by decide +kernel
theorem dX0_begin_68 : decode cX0_begin 68 = .ok (.aload_n 0, 1) := by decide +kernel
theorem dX0_begin_69 : decode cX0_begin 69 = .ok (.getfield 23, 3) := by decide +kernel
theorem dX0_begin_72 : decode cX0_begin 72 = .ok (.iload_n 3, 1) := by decide +kernel
theorem dX0_begin_73 : decode cX0_begin 73 = .ok (.aaload, 1) := by decide +kernel
theorem dX0_begin_74 : decode cX0_begin 74 = .ok (.iload 4, 2) := by decide +kernel
theorem dX0_begin_76 : decode cX0_begin 76 = .ok (.bipush 7, 2) := by decide +kernel
theorem dX0_begin_78 : decode cX0_begin 78 = .ok (.iastore, 1) := by decide +kernel
theorem dX0_begin_79 : decode cX0_begin 79 = .ok (.iinc 4 1, 3) := by decide +kernel
theorem dX0_begin_82 : decode cX0_begin 82 = .ok (.goto (-21), 3) := by decide +kernel
theorem dX0_begin_85 : decode cX0_begin 85 = .ok (.iinc 3 1, 3) := by decide +kernel
theorem dX0_begin_88 : decode cX0_begin 88 = .ok (.goto (-42), 3) := by decide +kernel
theorem dX0_begin_91 : decode cX0_begin 91 = .ok (.return_, 1) := by decide +kernel
theorem dX0_endRound_0 : decode cX0_endRound 0 = .ok (.aload_n 0, 1) := by decide +kernel
theorem dX0_endRound_1 : decode cX0_endRound 1 = .ok (.getfield 15, 3) := by decide +kernel
theorem dX0_endRound_4 : decode cX0_endRound 4 = .ok (.iconst 0, 1) := by decide +kernel
theorem dX0_endRound_5 : decode cX0_endRound 5 = .ok (.iaload, 1) := by decide +kernel
theorem dX0_endRound_6 : decode cX0_endRound 6 = .ok (.istore_n 1, 1) := by decide +kernel
theorem dX0_endRound_7 : decode cX0_endRound 7 = .ok (.aload_n 0, 1) := by decide +kernel
theorem dX0_endRound_8 : decode cX0_endRound 8 = .ok (.getfield 15, 3) := by decide +kernel
theorem dX0_endRound_11 : decode cX0_endRound 11 = .ok (.iconst 1, 1) := by decide +kernel
theorem dX0_endRound_12 : decode cX0_endRound 12 = .ok (.iaload, 1) := by decide +kernel
theorem dX0_endRound_13 : decode cX0_endRound 13 = .ok (.istore_n 2, 1) := by decide +kernel
theorem dX0_endRound_14 : decode cX0_endRound 14 = .ok (.aload_n 0, 1) := by decide +kernel
theorem dX0_endRound_15 : decode cX0_endRound 15 = .ok (.getfield 40, 3) := by decide +kernel
theorem dX0_endRound_18 : decode cX0_endRound 18 = .ok (.iconst 5, 1) := by decide +kernel
theorem dX0_endRound_19 : decode cX0_endRound 19 = .ok (.if_icmp .ge 37, 3) := by decide +kernel
theorem dX0_endRound_22 : decode cX0_endRound 22 = .ok (.aload_n 0, 1) := by decide +kernel
theorem dX0_endRound_23 : decode cX0_endRound 23 = .ok (.getfield 20, 3) := by decide +kernel
theorem dX0_endRound_26 : decode cX0_endRound 26 = .ok (.iconst 0, 1) := by decide +kernel
theorem dX0_endRound_27 : decode cX0_endRound 27 = .ok (.aaload, 1) := by decide +kernel
theorem dX0_endRound_28 : decode cX0_endRound 28 = .ok (.aload_n 0, 1) := by decide +kernel
theorem dX0_endRound_29 : decode cX0_endRound 29 = .ok (.getfield 40, 3) := by decide +kernel
theorem dX0_endRound_32 : decode cX0_endRound 32 = .ok (.iload_n 1, 1) := by decide +kernel
theorem dX0_endRound_33 : decode cX0_endRound 33 = .ok (.iastore, 1) := by decide +kernel
theorem dX0_endRound_34 : decode cX0_endRound 34 = .ok (.aload_n 0, 1) := by decide +kernel
theorem dX0_endRound_35 : decode cX0_endRound 35 = .ok (.getfield 20, 3) := by decide +kernel
theorem dX0_endRound_38 : decode cX0_endRound 38 = .ok (.iconst 1, 1) := by decide +kernel
theorem dX0_endRound_39 : decode cX0_endRound 39 = .ok (.aaload, 1) := by decide +kernel
theorem dX0_endRound_40 : decode cX0_endRound 40 = .ok (.aload_n 0, 1) := by decide +kernel
theorem dX0_endRound_41 : decode cX0_endRound 41 = .ok (.getfield 40, 3) := by decide +kernel
theorem dX0_endRound_44 : decode cX0_endRound 44 = .ok (.iload_n 2, 1) := by decide +kernel
theorem dX0_endRound_45 : decode cX0_endRound 45 = .ok (.iastore, 1) := by decide +kernel
theorem dX0_endRound_46 : decode cX0_endRound 46 = .ok (.aload_n 0, 1) := by decide +kernel
theorem dX0_endRound_47 : decode cX0_endRound 47 = .ok (.dup, 1) := by decide +kernel
theorem dX0_endRound_48 : decode cX0_endRound 48 = .ok (.getfield 40, 3) := by decide +kernel
theorem dX0_endRound_51 : decode cX0_endRound 51 = .ok (.iconst 1, 1) := by decide +kernel
theorem dX0_endRound_52 : decode cX0_endRound 52 = .ok (.iadd, 1) := by decide +kernel
theorem dX0_endRound_53 : decode cX0_endRound 53 = .ok (.putfield 40, 3) := by decide +kernel
theorem dX0_endRound_56 : decode cX0_endRound 56 = .ok (.iload_n 2, 1) := by decide +kernel
theorem dX0_endRound_57 : decode cX0_endRound 57 = .ok (.iload_n 1, 1) := by decide +kernel
theorem dX0_endRound_58 : decode cX0_endRound 58 = .ok (.if_icmp .lt 19, 3) := by decide +kernel
theorem dX0_endRound_61 : decode cX0_endRound 61 = .ok (.aload_n 0, 1) := by decide +kernel
theorem dX0_endRound_62 : decode cX0_endRound 62 = .ok (.iconst 1, 1) := by decide +kernel
theorem dX0_endRound_63 : decode cX0_endRound 63 = .ok (.putfield 33, 3) := by decide +kernel
theorem dX0_endRound_66 : decode cX0_endRound 66 = .ok (.aload_n 0, 1) := by decide +kernel
theorem dX0_endRound_67 : decode cX0_endRound 67 = .ok (.iload_n 1, 1) := by decide +kernel
theorem dX0_endRound_68 : decode cX0_endRound 68 = .ok (.iload_n 2, 1) := by decide +kernel
theorem dX0_endRound_69 : decode cX0_endRound 69 = .ok (.iadd, 1) := by decide +kernel
theorem dX0_endRound_70 : decode cX0_endRound 70 = .ok (.iconst 2, 1) := by decide +kernel
theorem dX0_endRound_71 : decode cX0_endRound 71 = .ok (.idiv, 1) := by decide +kernel
theorem dX0_endRound_72 : decode cX0_endRound 72 = .ok (.putfield 37, 3) := by decide +kernel
theorem dX0_endRound_75 : decode cX0_endRound 75 = .ok (.iconst 1, 1) := by decide +kernel
theorem dX0_endRound_76 : decode cX0_endRound 76 = .ok (.ireturn, 1) := by decide +kernel
theorem dX0_endRound_77 : decode cX0_endRound 77 = .ok (.aload_n 0, 1) := by decide +kernel
theorem dX0_endRound_78 : decode cX0_endRound 78 = .ok (.getfield 15, 3) := by decide +kernel
theorem dX0_endRound_81 : decode cX0_endRound 81 = .ok (.iconst 0, 1) := by decide +kernel
theorem dX0_endRound_82 : decode cX0_endRound 82 = .ok (.iconst (-1), 1) := by decide +kernel
theorem dX0_endRound_83 : decode cX0_endRound 83 = .ok (.iastore, 1) := by decide +kernel
theorem dX0_endRound_84 : decode cX0_endRound 84 = .ok (.aload_n 0, 1) := by decide +kernel
theorem dX0_endRound_85 : decode cX0_endRound 85 = .ok (.getfield 15, 3) := by decide +kernel
theorem dX0_endRound_88 : decode cX0_endRound 88 = .ok (.iconst 1, 1) := by decide +kernel
theorem dX0_endRound_89 : decode cX0_endRound 89 = .ok (.iconst (-1), 1) := by decide +kernel
theorem dX0_endRound_90 : decode cX0_endRound 90 = .ok (.iastore, 1) := by decide +kernel
theorem dX0_endRound_91 : decode cX0_endRound 91 = .ok (.iconst 0, 1) := by decide +kernel
theorem dX0_endRound_92 : decode cX0_endRound 92 = .ok (.ireturn, 1) := by decide +kernel
theorem dX0_hasMet_0 : decode cX0_hasMet 0 = .ok (.aload_n 0, 1) := by decide +kernel
theorem dX0_hasMet_1 : decode cX0_hasMet 1 = .ok (.getfield 33, 3) := by decide +kernel
theorem dX0_hasMet_4 : decode cX0_hasMet 4 = .ok (.iconst 1, 1) := by decide +kernel
theorem dX0_hasMet_5 : decode cX0_hasMet 5 = .ok (.if_icmp .ne 17, 3) := by decide +kernel
theorem dX0_hasMet_8 : decode cX0_hasMet 8 = .ok (.iload_n 1, 1) := by decide +kernel
theorem dX0_hasMet_9 : decode cX0_hasMet 9 = .ok (.aload_n 0, 1) := by decide +kernel
theorem dX0_hasMet_10 : decode cX0_hasMet 10 = .ok (.getfield 40, 3) := by decide +kernel
theorem dX0_hasMet_13 : decode cX0_hasMet 13 = .ok (.iconst 1, 1) := by decide +kernel
theorem dX0_hasMet_14 : decode cX0_hasMet 14 = .ok (.isub, 1) := by decide +kernel
theorem dX0_hasMet_15 : decode cX0_hasMet 15 = .ok (.if_icmp .ne 7, 3) := by decide +kernel
theorem dX0_hasMet_18 : decode cX0_hasMet 18 = .ok (.iconst 1, 1) := by decide +kernel
theorem dX0_hasMet_19 : decode cX0_hasMet 19 = .ok (.goto 4, 3) := by decide +kernel
theorem dX0_hasMet_22 : decode cX0_hasMet 22 = .ok (.iconst 0, 1) := by decide +kernel
theorem dX0_hasMet_23 : decode cX0_hasMet 23 = .ok (.ireturn, 1) := by decide +kernel
set_option maxRecDepth 20000 in
theorem ggX0_leastOfOther_X0_hasMet : GoodIn wsX0_leastOfOther wsX0_hasMet := goodIn_r _ [11, 12, 13, 14, 15, 16, 17, 18, 19, 20, 21, 22, 23, 24] (by decide +kernel) (by decide +kernel)
set_option maxRecDepth 20000 in
theorem gX0_leastOfOther_X0_hasMet : GoodIn wsX0_leastOfOther (wsV RX0 52 RX0 yX0_hasMet wsX0_hasMet) := goodIn_app (goodIn_of _ (by decide +kernel)) ggX0_leastOfOther_X0_hasMet
theorem dX0_leastOfOther_0 : decode cX0_leastOfOther 0 = .ok (.aload_n 0, 1) := by decide +kernel
theorem dX0_leastOfOther_1 : decode cX0_leastOfOther 1 = .ok (.getfield 20, 3) := by decide +kernel
theorem dX0_leastOfOther_4 : decode cX0_leastOfOther 4 = .ok (.iload_n 1, 1) := by decide +kernel
theorem dX0_leastOfOther_5 : decode cX0_leastOfOther 5 = .ok (.aaload, 1) := by decide +kernel
theorem dX0_leastOfOther_6 : decode cX0_leastOfOther 6 = .ok (.iload_n 2, 1) := by decide +kernel
theorem dX0_leastOfOther_7 : decode cX0_leastOfOther 7 = .ok (.iaload, 1) := by decide +kernel
theorem dX0_leastOfOther_8 : decode cX0_leastOfOther 8 = .ok (.istore_n 3, 1) := by decide +kernel
theorem dX0_leastOfOther_9 : decode cX0_leastOfOther 9 = .ok (.aload_n 0, 1) := by decide +kernel
theorem dX0_leastOfOther_10 : decode cX0_leastOfOther 10 = .ok (.iload_n 2, 1) := by decide +kernel
theorem dX0_leastOfOther_11 : decode cX0_leastOfOther 11 = .ok (.invokevirtual 52, 3) := by decide +kernel
theorem dX0_leastOfOther_14 : decode cX0_leastOfOther 14 = .ok (.ifCond .ne 15, 3) := by decide +kernel
theorem dX0_leastOfOther_17 : decode cX0_leastOfOther 17 = .ok (.iload_n 1, 1) := by decide +kernel
theorem dX0_leastOfOther_18 : decode cX0_leastOfOther 18 = .ok (.ifCond .ne 7, 3) := by decide +kernel
theorem dX0_leastOfOther_21 : decode cX0_leastOfOther 21 = .ok (.iconst 0, 1) := by decide +kernel
theorem dX0_leastOfOther_22 : decode cX0_leastOfOther 22 = .ok (.goto 6, 3) := by decide +kernel
theorem dX0_leastOfOther_25 : decode cX0_leastOfOther 25 = .ok (.iload_n 3, 1) := by decide +kernel
theorem dX0_leastOfOther_26 : decode cX0_leastOfOther 26 = .ok (.iconst 1, 1) := by decide +kernel
theorem dX0_leastOfOther_27 : decode cX0_leastOfOther 27 = .ok (.iadd, 1) := by decide +kernel
theorem dX0_leastOfOther_28 : decode cX0_leastOfOther 28 = .ok (.ireturn, 1) := by decide +kernel
theorem dX0_leastOfOther_29 : decode cX0_leastOfOther 29 = .ok (.iload_n 1, 1) := by decide +kernel
theorem dX0_leastOfOther_30 : decode cX0_leastOfOther 30 = .ok (.ifCond .ne 7, 3) := by decide +kernel
theorem dX0_leastOfOther_33 : decode cX0_leastOfOther 33 = .ok (.iload_n 3, 1) := by decide +kernel
theorem dX0_leastOfOther_34 : decode cX0_leastOfOther 34 = .ok (.goto 4, 3) := by decide +kernel
theorem dX0_leastOfOther_37 : decode cX0_leastOfOther 37 = .ok (.iconst 0, 1) := by decide +kernel
theorem dX0_leastOfOther_38 : decode cX0_leastOfOther 38 = .ok (.istore 4, 2) := by decide +kernel
theorem dX0_leastOfOther_40 : decode cX0_leastOfOther 40 = .ok (.iload 4, 2) := by decide +kernel
theorem dX0_leastOfOther_42 : decode cX0_leastOfOther 42 = .ok (.iconst 2, 1) := by decide +kernel
theorem dX0_leastOfOther_43 : decode cX0_leastOfOther 43 = .ok (.aload_n 0, 1) := by decide +kernel
theorem dX0_leastOfOther_44 : decode cX0_leastOfOther 44 = .ok (.getfield 37, 3) := by decide +kernel
theorem dX0_leastOfOther_47 : decode cX0_leastOfOther 47 = .ok (.imul, 1) := by decide +kernel
theorem dX0_leastOfOther_48 : decode cX0_leastOfOther 48 = .ok (.iload_n 3, 1) := by decide +kernel
theorem dX0_leastOfOther_49 : decode cX0_leastOfOther 49 = .ok (.isub, 1) := by decide +kernel
theorem dX0_leastOfOther_50 : decode cX0_leastOfOther 50 = .ok (.invokestatic 56, 3) := by decide +kernel
theorem dX0_leastOfOther_53 : decode cX0_leastOfOther 53 = .ok (.ireturn, 1) := by decide +kernel
set_option maxRecDepth 20000 in
theorem ggX0_greatestOfOther_X0_hasMet : GoodIn wsX0_greatestOfOther wsX0_hasMet := goodIn_r _ [11, 12, 13, 14, 15, 16, 17, 18, 19, 20, 21, 22, 23, 24] (by decide +kernel) (by decide +kernel)
set_option maxRecDepth 20000 in
theorem gX0_greatestOfOther_X0_hasMet : GoodIn wsX0_greatestOfOther (wsV RX0 52 RX0 yX0_hasMet wsX0_hasMet) := goodIn_app (goodIn_of _ (by decide +kernel)) ggX0_greatestOfOther_X0_hasMet
theorem dX0_greatestOfOther_0 : decode cX0_greatestOfOther 0 = .ok (.aload_n 0, 1) := by decide +kernel
theorem dX0_greatestOfOther_1 : decode cX0_greatestOfOther 1 = .ok (.getfield 20, 3) := by decide +kernel
theorem dX0_greatestOfOther_4 : decode cX0_greatestOfOther 4 = .ok (.iload_n 1, 1) := by decide +kernel
theorem dX0_greatestOfOther_5 : decode cX0_greatestOfOther 5 = .ok (.aaload, 1) := by decide +kernel
theorem dX0_greatestOfOther_6 : decode cX0_greatestOfOther 6 = .ok (.iload_n 2, 1) := by decide +kernel
theorem dX0_greatestOfOther_7 : decode cX0_greatestOfOther 7 = .ok (.iaload, 1) := by decide +kernel
theorem dX0_greatestOfOther_8 : decode cX0_greatestOfOther 8 = .ok (.istore_n 3, 1) := by decide +kernel
theorem dX0_greatestOfOther_9 : decode cX0_greatestOfOther 9 = .ok (.aload_n 0, 1) := by decide +kernel
theorem dX0_greatestOfOther_10 : decode cX0_greatestOfOther 10 = .ok (.iload_n 2, 1) := by decide +kernel
theorem dX0_greatestOfOther_11 : decode cX0_greatestOfOther 11 = .ok (.invokevirtual 52, 3) := by decide +kernel
theorem dX0_greatestOfOther_14 : decode cX0_greatestOfOther 14 = .ok (.ifCond .ne 16, 3) := by decide +kernel
theorem dX0_greatestOfOther_17 : decode cX0_greatestOfOther 17 = .ok (.iload_n 1, 1) := by decide +kernel
theorem dX0_greatestOfOther_18 : decode cX0_greatestOfOther 18 = .ok (.ifCond .ne 9, 3) := by decide +kernel
theorem dX0_greatestOfOther_21 : decode cX0_greatestOfOther 21 = .ok (.iload_n 3, 1) := by decide +kernel
theorem dX0_greatestOfOther_22 : decode cX0_greatestOfOther 22 = .ok (.iconst 1, 1) := by decide +kernel
theorem dX0_greatestOfOther_23 : decode cX0_greatestOfOther 23 = .ok (.isub, 1) := by decide +kernel
theorem dX0_greatestOfOther_24 : decode cX0_greatestOfOther 24 = .ok (.goto 5, 3) := by decide +kernel
theorem dX0_greatestOfOther_27 : decode cX0_greatestOfOther 27 = .ok (.bipush 100, 2) := by decide +kernel
theorem dX0_greatestOfOther_29 : decode cX0_greatestOfOther 29 = .ok (.ireturn, 1) := by decide +kernel
theorem dX0_greatestOfOther_30 : decode cX0_greatestOfOther 30 = .ok (.iload_n 1, 1) := by decide +kernel
theorem dX0_greatestOfOther_31 : decode cX0_greatestOfOther 31 = .ok (.ifCond .ne 8, 3) := by decide +kernel
theorem dX0_greatestOfOther_34 : decode cX0_greatestOfOther 34 = .ok (.bipush 100, 2) := by decide +kernel
theorem dX0_greatestOfOther_36 : decode cX0_greatestOfOther 36 = .ok (.goto 4, 3) := by decide +kernel
theorem dX0_greatestOfOther_39 : decode cX0_greatestOfOther 39 = .ok (.iload_n 3, 1) := by decide +kernel
theorem dX0_greatestOfOther_40 : decode cX0_greatestOfOther 40 = .ok (.istore 4, 2) := by decide +kernel
theorem dX0_greatestOfOther_42 : decode cX0_greatestOfOther 42 = .ok (.iload 4, 2) := by decide +kernel
theorem dX0_greatestOfOther_44 : decode cX0_greatestOfOther 44 = .ok (.iconst 2, 1) := by decide +kernel
theorem dX0_greatestOfOther_45 : decode cX0_greatestOfOther 45 = .ok (.aload_n 0, 1) := by decide +kernel
theorem dX0_greatestOfOther_46 : decode cX0_greatestOfOther 46 = .ok (.getfield 37, 3) := by decide +kernel
theorem dX0_greatestOfOther_49 : decode cX0_greatestOfOther 49 = .ok (.imul, 1) := by decide +kernel
theorem dX0_greatestOfOther_50 : decode cX0_greatestOfOther 50 = .ok (.iconst 1, 1) := by decide +kernel
theorem dX0_greatestOfOther_51 : decode cX0_greatestOfOther 51 = .ok (.iadd, 1) := by decide +kernel
theorem dX0_greatestOfOther_52 : decode cX0_greatestOfOther 52 = .ok (.iload_n 3, 1) := by decide +kernel
theorem dX0_greatestOfOther_53 : decode cX0_greatestOfOther 53 = .ok (.isub, 1) := by decide +kernel
theorem dX0_greatestOfOther_54 : decode cX0_greatestOfOther 54 = .ok (.invokestatic 62, 3) := by decide +kernel
theorem dX0_greatestOfOther_57 : decode cX0_greatestOfOther 57 = .ok (.ireturn, 1) := by decide +kernel
theorem dX0_judge_0 : decode cX0_judge 0 = .ok (.aload_n 0, 1) := by decide +kernel
theorem dX0_judge_1 : decode cX0_judge 1 = .ok (.getfield 28, 3) := by decide +kernel
theorem dX0_judge_4 : decode cX0_judge 4 = .ok (.iload_n 1, 1) := by decide +kernel
theorem dX0_judge_5 : decode cX0_judge 5 = .ok (.aaload, 1) := by decide +kernel
theorem dX0_judge_6 : decode cX0_judge 6 = .ok (.astore_n 2, 1) := by decide +kernel
theorem dX0_judge_7 : decode cX0_judge 7 = .ok (.iconst 1, 1) := by decide +kernel
theorem dX0_judge_8 : decode cX0_judge 8 = .ok (.istore_n 3, 1) := by decide +kernel
theorem dX0_judge_9 : decode cX0_judge 9 = .ok (.aload_n 2, 1) := by decide +kernel
theorem dX0_judge_10 : decode cX0_judge 10 = .ok (.getfield 65, 3) := by decide +kernel
theorem dX0_judge_13 : decode cX0_judge 13 = .ok (.istore 4, 2) := by decide +kernel
theorem dX0_judge_15 : decode cX0_judge 15 = .ok (.iload 4, 2) := by decide +kernel
theorem dX0_judge_17 : decode cX0_judge 17 = .ok (.aload_n 2, 1) := by decide +kernel
theorem dX0_judge_18 : decode cX0_judge 18 = .ok (.getfield 68, 3) := by decide +kernel
theorem dX0_judge_21 : decode cX0_judge 21 = .ok (.if_icmp .gt 54, 3) := by decide +kernel
theorem dX0_judge_24 : decode cX0_judge 24 = .ok (.aload_n 0, 1) := by decide +kernel
theorem dX0_judge_25 : decode cX0_judge 25 = .ok (.getfield 23, 3) := by decide +kernel
theorem dX0_judge_28 : decode cX0_judge 28 = .ok (.aload_n 2, 1) := by decide +kernel
theorem dX0_judge_29 : decode cX0_judge 29 = .ok (.getfield 71, 3) := by decide +kernel
theorem dX0_judge_32 : decode cX0_judge 32 = .ok (.aaload, 1) := by decide +kernel
theorem dX0_judge_33 : decode cX0_judge 33 = .ok (.iload 4, 2) := by decide +kernel
theorem dX0_judge_35 : decode cX0_judge 35 = .ok (.iaload, 1) := by decide +kernel
theorem dX0_judge_36 : decode cX0_judge 36 = .ok (.istore 5, 2) := by decide +kernel
theorem dX0_judge_38 : decode cX0_judge 38 = .ok (.iload 5, 2) := by decide +kernel
theorem dX0_judge_40 : decode cX0_judge 40 = .ok (.aload_n 2, 1) := by decide +kernel
theorem dX0_judge_41 : decode cX0_judge 41 = .ok (.getfield 74, 3) := by decide +kernel
theorem dX0_judge_44 : decode cX0_judge 44 = .ok (.if_icmp .ne 16, 3) := by decide +kernel
theorem dX0_judge_47 : decode cX0_judge 47 = .ok (.aload_n 2, 1) := by decide +kernel
theorem dX0_judge_48 : decode cX0_judge 48 = .ok (.getfield 77, 3) := by decide +kernel
theorem dX0_judge_51 : decode cX0_judge 51 = .ok (.ifCond .eq 7, 3) := by decide +kernel
theorem dX0_judge_54 : decode cX0_judge 54 = .ok (.iconst 1, 1) := by decide +kernel
theorem dX0_judge_55 : decode cX0_judge 55 = .ok (.goto 4, 3) := by decide +kernel
theorem dX0_judge_58 : decode cX0_judge 58 = .ok (.iconst 0, 1) := by decide +kernel
theorem dX0_judge_59 : decode cX0_judge 59 = .ok (.ireturn, 1) := by decide +kernel
theorem dX0_judge_60 : decode cX0_judge 60 = .ok (.iload 5, 2) := by decide +kernel
theorem dX0_judge_62 : decode cX0_judge 62 = .ok (.bipush 7, 2) := by decide +kernel
theorem dX0_judge_64 : decode cX0_judge 64 = .ok (.if_icmp .ne 5, 3) := by decide +kernel
theorem dX0_judge_67 : decode cX0_judge 67 = .ok (.iconst 0, 1) := by decide +kernel
theorem dX0_judge_68 : decode cX0_judge 68 = .ok (.istore_n 3, 1) := by decide +kernel
theorem dX0_judge_69 : decode cX0_judge 69 = .ok (.iinc 4 1, 3) := by decide +kernel
theorem dX0_judge_72 : decode cX0_judge 72 = .ok (.goto (-57), 3) := by decide +kernel
theorem dX0_judge_75 : decode cX0_judge 75 = .ok (.iload_n 3, 1) := by decide +kernel
theorem dX0_judge_76 : decode cX0_judge 76 = .ok (.ifCond .ne 5, 3) := by decide +kernel
theorem dX0_judge_79 : decode cX0_judge 79 = .ok (.iconst 2, 1) := by decide +kernel
theorem dX0_judge_80 : decode cX0_judge 80 = .ok (.ireturn, 1) := by decide +kernel
theorem dX0_judge_81 : decode cX0_judge 81 = .ok (.aload_n 2, 1) := by decide +kernel
theorem dX0_judge_82 : decode cX0_judge 82 = .ok (.getfield 77, 3) := by decide +kernel
theorem dX0_judge_85 : decode cX0_judge 85 = .ok (.ifCond .eq 7, 3) := by decide +kernel
theorem dX0_judge_88 : decode cX0_judge 88 = .ok (.iconst 0, 1) := by decide +kernel
theorem dX0_judge_89 : decode cX0_judge 89 = .ok (.goto 4, 3) := by decide +kernel
theorem dX0_judge_92 : decode cX0_judge 92 = .ok (.iconst 1, 1) := by decide +kernel
theorem dX0_judge_93 : decode cX0_judge 93 = .ok (.ireturn, 1) := by decide +kernel
set_option maxRecDepth 20000 in
theorem ggX0_copyFrom_X6_copyFrom : GoodIn wsX0_copyFrom wsX6_copyFrom := goodIn_r _ [20, 21, 22, 23, 24, 25, 37, 38, 39, 40, 41] (by decide +kernel) (by decide +kernel)
set_option maxRecDepth 20000 in
theorem gX0_copyFrom_X6_copyFrom : GoodIn wsX0_copyFrom (wsV RX0 87 RX6 yX6_copyFrom wsX6_copyFrom) := goodIn_app (goodIn_of _ (by decide +kernel)) ggX0_copyFrom_X6_copyFrom
theorem dX0_copyFrom_0 : decode cX0_copyFrom 0 = .ok (.aload_n 0, 1) := by decide +kernel
theorem dX0_copyFrom_1 : decode cX0_copyFrom 1 = .ok (.aload_n 1, 1) := by decide +kernel
theorem dX0_copyFrom_2 : decode cX0_copyFrom 2 = .ok (.getfield 33, 3) := by decide +kernel
theorem dX0_copyFrom_5 : decode cX0_copyFrom 5 = .ok (.putfield 33, 3) := by decide +kernel
theorem dX0_copyFrom_8 : decode cX0_copyFrom 8 = .ok (.aload_n 0, 1) := by decide +kernel
theorem dX0_copyFrom_9 : decode cX0_copyFrom 9 = .ok (.aload_n 1, 1) := by decide +kernel
theorem dX0_copyFrom_10 : decode cX0_copyFrom 10 = .ok (.getfield 37, 3) := by decide +kernel
theorem dX0_copyFrom_13 : decode cX0_copyFrom 13 = .ok (.putfield 37, 3) := by decide +kernel
theorem dX0_copyFrom_16 : decode cX0_copyFrom 16 = .ok (.aload_n 0, 1) := by decide +kernel
theorem dX0_copyFrom_17 : decode cX0_copyFrom 17 = .ok (.aload_n 1, 1) := by decide +kernel
theorem dX0_copyFrom_18 : decode cX0_copyFrom 18 = .ok (.getfield 40, 3) := by decide +kernel
theorem dX0_copyFrom_21 : decode cX0_copyFrom 21 = .ok (.putfield 40, 3) := by decide +kernel
theorem dX0_copyFrom_24 : decode cX0_copyFrom 24 = .ok (.aload_n 0, 1) := by decide +kernel
theorem dX0_copyFrom_25 : decode cX0_copyFrom 25 = .ok (.aload_n 1, 1) := by decide +kernel
theorem dX0_copyFrom_26 : decode cX0_copyFrom 26 = .ok (.getfield 43, 3) := by decide +kernel
theorem dX0_copyFrom_29 : decode cX0_copyFrom 29 = .ok (.putfield 43, 3) := by decide +kernel
theorem dX0_copyFrom_32 : decode cX0_copyFrom 32 = .ok (.aload_n 0, 1) := by decide +kernel
theorem dX0_copyFrom_33 : decode cX0_copyFrom 33 = .ok (.aload_n 1, 1) := by decide +kernel
theorem dX0_copyFrom_34 : decode cX0_copyFrom 34 = .ok (.getfield 46, 3) := by decide +kernel
theorem dX0_copyFrom_37 : decode cX0_copyFrom 37 = .ok (.putfield 46, 3) := by decide +kernel
theorem dX0_copyFrom_40 : decode cX0_copyFrom 40 = .ok (.aload_n 0, 1) := by decide +kernel
theorem dX0_copyFrom_41 : decode cX0_copyFrom 41 = .ok (.aload_n 1, 1) := by decide +kernel
theorem dX0_copyFrom_42 : decode cX0_copyFrom 42 = .ok (.getfield 49, 3) := by decide +kernel
theorem dX0_copyFrom_45 : decode cX0_copyFrom 45 = .ok (.putfield 49, 3) := by decide +kernel
theorem dX0_copyFrom_48 : decode cX0_copyFrom 48 = .ok (.iconst 0, 1) := by decide +kernel
theorem dX0_copyFrom_49 : decode cX0_copyFrom 49 = .ok (.istore_n 2, 1) := by decide +kernel
theorem dX0_copyFrom_50 : decode cX0_copyFrom 50 = .ok (.iload_n 2, 1) := by decide +kernel
theorem dX0_copyFrom_51 : decode cX0_copyFrom 51 = .ok (.iconst 2, 1) := by decide +kernel
theorem dX0_copyFrom_52 : decode cX0_copyFrom 52 = .ok (.if_icmp .ge 73, 3) := by decide +kernel
theorem dX0_copyFrom_55 : decode cX0_copyFrom 55 = .ok (.aload_n 0, 1) := by decide +kernel
theorem dX0_copyFrom_56 : decode cX0_copyFrom 56 = .ok (.getfield 9, 3) := by decide +kernel
theorem dX0_copyFrom_59 : decode cX0_copyFrom 59 = .ok (.iload_n 2, 1) := by decide +kernel
theorem dX0_copyFrom_60 : decode cX0_copyFrom 60 = .ok (.aload_n 1, 1) := by decide +kernel
theorem dX0_copyFrom_61 : decode cX0_copyFrom 61 = .ok (.getfield 9, 3) := by decide +kernel
theorem dX0_copyFrom_64 : decode cX0_copyFrom 64 = .ok (.iload_n 2, 1) := by decide +kernel
theorem dX0_copyFrom_65 : decode cX0_copyFrom 65 = .ok (.iaload, 1) := by decide +kernel
theorem dX0_copyFrom_66 : decode cX0_copyFrom 66 = .ok (.iastore, 1) := by decide +kernel
theorem dX0_copyFrom_67 : decode cX0_copyFrom 67 = .ok (.aload_n 0, 1) := by decide +kernel
theorem dX0_copyFrom_68 : decode cX0_copyFrom 68 = .ok (.getfield 15, 3) := by decide +kernel
theorem dX0_copyFrom_71 : decode cX0_copyFrom 71 = .ok (.iload_n 2, 1) := by decide +kernel
theorem dX0_copyFrom_72 : decode cX0_copyFrom 72 = .ok (.aload_n 1, 1) := by decide +kernel
theorem dX0_copyFrom_73 : decode cX0_copyFrom 73 = .ok (.getfield 15, 3) := by decide +kernel
theorem dX0_copyFrom_76 : decode cX0_copyFrom 76 = .ok (.iload_n 2, 1) := by decide +kernel
theorem dX0_copyFrom_77 : decode cX0_copyFrom 77 = .ok (.iaload, 1) := by decide +kernel
theorem dX0_copyFrom_78 : decode cX0_copyFrom 78 = .ok (.iastore, 1) := by decide +kernel
theorem dX0_copyFrom_79 : decode cX0_copyFrom 79 = .ok (.aload_n 1, 1) := by decide +kernel
theorem dX0_copyFrom_80 : decode cX0_copyFrom 80 = .ok (.getfield 20, 3) := by decide +kernel
theorem dX0_copyFrom_83 : decode cX0_copyFrom 83 = .ok (.iload_n 2, 1) := by decide +kernel
theorem dX0_copyFrom_84 : decode cX0_copyFrom 84 = .ok (.aaload, 1) := by decide +kernel
theorem dX0_copyFrom_85 : decode cX0_copyFrom 85 = .ok (.iconst 0, 1) := by decide +kernel
theorem dX0_copyFrom_86 : decode cX0_copyFrom 86 = .ok (.aload_n 0, 1) := by decide +kernel
theorem dX0_copyFrom_87 : decode cX0_copyFrom 87 = .ok (.getfield 20, 3) := by decide +kernel
theorem dX0_copyFrom_90 : decode cX0_copyFrom 90 = .ok (.iload_n 2, 1) := by decide +kernel
theorem dX0_copyFrom_91 : decode cX0_copyFrom 91 = .ok (.aaload, 1) := by decide +kernel
theorem dX0_copyFrom_92 : decode cX0_copyFrom 92 = .ok (.iconst 0, 1) := by decide +kernel
theorem dX0_copyFrom_93 : decode cX0_copyFrom 93 = .ok (.aload_n 0, 1) := by decide +kernel
theorem dX0_copyFrom_94 : decode cX0_copyFrom 94 = .ok (.getfield 40, 3) := by decide +kernel
theorem dX0_copyFrom_97 : decode cX0_copyFrom 97 = .ok (.invokestatic 81, 3) := by decide +kernel
theorem dX0_copyFrom_100 : decode cX0_copyFrom 100 = .ok (.aload_n 1, 1) := by decide +kernel
theorem dX0_copyFrom_101 : decode cX0_copyFrom 101 = .ok (.getfield 23, 3) := by decide +kernel
theorem dX0_copyFrom_104 : decode cX0_copyFrom 104 = .ok (.iload_n 2, 1) := by decide +kernel
theorem dX0_copyFrom_105 : decode cX0_copyFrom 105 = .ok (.aaload, 1) := by decide +kernel
theorem dX0_copyFrom_106 : decode cX0_copyFrom 106 = .ok (.iconst 0, 1) := by decide +kernel
theorem dX0_copyFrom_107 : decode cX0_copyFrom 107 = .ok (.aload_n 0, 1) := by decide +kernel
theorem dX0_copyFrom_108 : decode cX0_copyFrom 108 = .ok (.getfield 23, 3) := by decide +kernel
theorem dX0_copyFrom_111 : decode cX0_copyFrom 111 = .ok (.iload_n 2, 1) := by decide +kernel
theorem dX0_copyFrom_112 : decode cX0_copyFrom 112 = .ok (.aaload, 1) := by decide +kernel
theorem dX0_copyFrom_113 : decode cX0_copyFrom 113 = .ok (.iconst 0, 1) := by decide +kernel
theorem dX0_copyFrom_114 : decode cX0_copyFrom 114 = .ok (.bipush 24, 2) := by decide +kernel
theorem dX0_copyFrom_116 : decode cX0_copyFrom 116 = .ok (.invokestatic 81, 3) := by decide +kernel
theorem dX0_copyFrom_119 : decode cX0_copyFrom 119 = .ok (.iinc 2 1, 3) := by decide +kernel
theorem dX0_copyFrom_122 : decode cX0_copyFrom 122 = .ok (.goto (-72), 3) := by decide +kernel
theorem dX0_copyFrom_125 : decode cX0_copyFrom 125 = .ok (.iconst 0, 1) := by decide +kernel
theorem dX0_copyFrom_126 : decode cX0_copyFrom 126 = .ok (.istore_n 2, 1) := by decide +kernel
theorem dX0_copyFrom_127 : decode cX0_copyFrom 127 = .ok (.iload_n 2, 1) := by decide +kernel
theorem dX0_copyFrom_128 : decode cX0_copyFrom 128 = .ok (.aload_n 0, 1) := by decide +kernel
theorem dX0_copyFrom_129 : decode cX0_copyFrom 129 = .ok (.getfield 49, 3) := by decide +kernel
theorem dX0_copyFrom_132 : decode cX0_copyFrom 132 = .ok (.if_icmp .ge 24, 3) := by decide +kernel
theorem dX0_copyFrom_135 : decode cX0_copyFrom 135 = .ok (.aload_n 0, 1) := by decide +kernel
theorem dX0_copyFrom_136 : decode cX0_copyFrom 136 = .ok (.getfield 28, 3) := by decide +kernel
theorem dX0_copyFrom_139 : decode cX0_copyFrom 139 = .ok (.iload_n 2, 1) := by decide +kernel
theorem dX0_copyFrom_140 : decode cX0_copyFrom 140 = .ok (.aaload, 1) := by decide +kernel
theorem dX0_copyFrom_141 : decode cX0_copyFrom 141 = .ok (.aload_n 1, 1) := by decide +kernel
theorem dX0_copyFrom_142 : decode cX0_copyFrom 142 = .ok (.getfield 28, 3) := by decide +kernel
theorem dX0_copyFrom_145 : decode cX0_copyFrom 145 = .ok (.iload_n 2, 1) := by decide +kernel
theorem dX0_copyFrom_146 : decode cX0_copyFrom 146 = .ok (.aaload, 1) := by decide +kernel
theorem dX0_copyFrom_147 : decode cX0_copyFrom 147 = .ok (.invokevirtual 87, 3) := by decide +kernel
theorem dX0_copyFrom_150 : decode cX0_copyFrom 150 = .ok (.iinc 2 1, 3) := by decide +kernel
theorem dX0_copyFrom_153 : decode cX0_copyFrom 153 = .ok (.goto (-26), 3) := by decide +kernel
theorem dX0_copyFrom_156 : decode cX0_copyFrom 156 = .ok (.return_, 1) := by decide +kernel
set_option maxRecDepth 20000 in
theorem ggX1_init_X3_init : GoodIn wsX1_init wsX3_init := goodIn_r _ [17, 18, 2, 3] (by decide +kernel) (by decide +kernel)
set_option maxRecDepth 20000 in
theorem gX1_init_X3_init_n29 : GoodIn wsX1_init (wsX3_init) := ggX1_init_X3_init
set_option maxRecDepth 20000 in
theorem ggX1_init_X2_init : GoodIn wsX1_init wsX2_init := goodIn_r _ [20, 21, 2, 3] (by decide +kernel) (by decide +kernel)
set_option maxRecDepth 20000 in
theorem gX1_init_X2_init_n30 : GoodIn wsX1_init (wsX2_init) := ggX1_init_X2_init
set_option maxRecDepth 20000 in
theorem ggX1_init_X0_init : GoodIn wsX1_init wsX0_init := goodIn_r _ [24, 25, 2, 3, 26, 27, 28, 29, 30, 31, 32, 33, 34, 35, 36, 37, 38, 51, 52, 53, 54, 55, 56, 57, 58, 59, 60, 61, 62, 63, 64, 65, 66] (by decide +kernel) (by decide +kernel)
set_option maxRecDepth 20000 in
theorem gX1_init_X0_init : GoodIn wsX1_init (wsX0_init) := ggX1_init_X0_init
theorem dX1_init_0 : decode cX1_init 0 = .ok (.aload_n 0, 1) := by decide +kernel
theorem dX1_init_1 : decode cX1_init 1 = .ok (.invokespecial 3, 3) := by decide +kernel
theorem dX1_init_4 : decode cX1_init 4 = .ok (.aload_n 0, 1) := by decide +kernel
theorem dX1_init_5 : decode cX1_init 5 = .ok (.bipush 8, 2) := by decide +kernel
theorem dX1_init_7 : decode cX1_init 7 = .ok (.anewarray 9, 3) := by decide +kernel
theorem dX1_init_10 : decode cX1_init 10 = .ok (.putfield 11, 3) := by decide +kernel
theorem dX1_init_13 : decode cX1_init 13 = .ok (.aload_n 0, 1) := by decide +kernel
theorem dX1_init_14 : decode cX1_init 14 = .ok (.iconst 4, 1) := by decide +kernel
theorem dX1_init_15 : decode cX1_init 15 = .ok (.anewarray 17, 3) := by decide +kernel
theorem dX1_init_18 : decode cX1_init 18 = .ok (.putfield 19, 3) := by decide +kernel
theorem dX1_init_21 : decode cX1_init 21 = .ok (.aload_n 0, 1) := by decide +kernel
theorem dX1_init_22 : decode cX1_init 22 = .ok (.bipush 6, 2) := by decide +kernel
theorem dX1_init_24 : decode cX1_init 24 = .ok (.anewarray 23, 3) := by decide +kernel
theorem dX1_init_27 : decode cX1_init 27 = .ok (.putfield 25, 3) := by decide +kernel
theorem dX1_init_30 : decode cX1_init 30 = .ok (.iconst 0, 1) := by decide +kernel
theorem dX1_init_31 : decode cX1_init 31 = .ok (.istore_n 1, 1) := by decide +kernel
theorem dX1_init_32 : decode cX1_init 32 = .ok (.iload_n 1, 1) := by decide +kernel
theorem dX1_init_33 : decode cX1_init 33 = .ok (.bipush 8, 2) := by decide +kernel
theorem dX1_init_35 : decode cX1_init 35 = .ok (.if_icmp .ge 22, 3) := by decide +kernel
theorem dX1_init_38 : decode cX1_init 38 = .ok (.aload_n 0, 1) := by decide +kernel
theorem dX1_init_39 : decode cX1_init 39 = .ok (.getfield 11, 3) := by decide +kernel
theorem dX1_init_42 : decode cX1_init 42 = .ok (.iload_n 1, 1) := by decide +kernel
theorem dX1_init_43 : decode cX1_init 43 = .ok (.new 9, 3) := by decide +kernel
theorem dX1_init_46 : decode cX1_init 46 = .ok (.dup, 1) := by decide +kernel
theorem dX1_init_47 : decode cX1_init 47 = .ok (.invokespecial 29, 3) := by decide +kernel
theorem dX1_init_50 : decode cX1_init 50 = .ok (.aastore, 1) := by decide +kernel
theorem dX1_init_51 : decode cX1_init 51 = .ok (.iinc 1 1, 3) := by decide +kernel
theorem dX1_init_54 : decode cX1_init 54 = .ok (.goto (-22), 3) := by decide +kernel
theorem dX1_init_57 : decode cX1_init 57 = .ok (.iconst 0, 1) := by decide +kernel
theorem dX1_init_58 : decode cX1_init 58 = .ok (.istore_n 1, 1) := by decide +kernel
theorem dX1_init_59 : decode cX1_init 59 = .ok (.iload_n 1, 1) := by decide +kernel
theorem dX1_init_60 : decode cX1_init 60 = .ok (.iconst 4, 1) := by decide +kernel
theorem dX1_init_61 : decode cX1_init 61 = .ok (.if_icmp .ge 22, 3) := by decide +kernel
theorem dX1_init_64 : decode cX1_init 64 = .ok (.aload_n 0, 1) := by decide +kernel
theorem dX1_init_65 : decode cX1_init 65 = .ok (.getfield 19, 3) := by decide +kernel
theorem dX1_init_68 : decode cX1_init 68 = .ok (.iload_n 1, 1) := by decide +kernel
theorem dX1_init_69 : decode cX1_init 69 = .ok (.new 17, 3) := by decide +kernel
theorem dX1_init_72 : decode cX1_init 72 = .ok (.dup, 1) := by decide +kernel
theorem dX1_init_73 : decode cX1_init 73 = .ok (.invokespecial 30, 3) := by decide +kernel
theorem dX1_init_76 : decode cX1_init 76 = .ok (.aastore, 1) := by decide +kernel
theorem dX1_init_77 : decode cX1_init 77 = .ok (.iinc 1 1, 3) := by decide +kernel
theorem dX1_init_80 : decode cX1_init 80 = .ok (.goto (-21), 3) := by decide +kernel
theorem dX1_init_83 : decode cX1_init 83 = .ok (.iconst 0, 1) := by decide +kernel
theorem dX1_init_84 : decode cX1_init 84 = .ok (.istore_n 1, 1) := by decide +kernel
theorem dX1_init_85 : decode cX1_init 85 = .ok (.iload_n 1, 1) := by decide +kernel
theorem dX1_init_86 : decode cX1_init 86 = .ok (.bipush 6, 2) := by decide +kernel
theorem dX1_init_88 : decode cX1_init 88 = .ok (.if_icmp .ge 22, 3) := by decide +kernel
theorem dX1_init_91 : decode cX1_init 91 = .ok (.aload_n 0, 1) := by decide +kernel
theorem dX1_init_92 : decode cX1_init 92 = .ok (.getfield 25, 3) := by decide +kernel
theorem dX1_init_95 : decode cX1_init 95 = .ok (.iload_n 1, 1) := by decide +kernel
theorem dX1_init_96 : decode cX1_init 96 = .ok (.new 23, 3) := by decide +kernel
theorem dX1_init_99 : decode cX1_init 99 = .ok (.dup, 1) := by decide +kernel
theorem dX1_init_100 : decode cX1_init 100 = .ok (.invokespecial 31, 3) := by decide +kernel
theorem dX1_init_103 : decode cX1_init 103 = .ok (.aastore, 1) := by decide +kernel
theorem dX1_init_104 : decode cX1_init 104 = .ok (.iinc 1 1, 3) := by decide +kernel
theorem dX1_init_107 : decode cX1_init 107 = .ok (.goto (-22), 3) := by decide +kernel
theorem dX1_init_110 : decode cX1_init 110 = .ok (.return_, 1) := by decide +kernel
theorem dX1_hasPair_0 : decode cX1_hasPair 0 = .ok (.getstatic 32, 3) := by decide +kernel
theorem dX1_hasPair_3 : decode cX1_hasPair 3 = .ok (.iload_n 1, 1) := by decide +kernel
theorem dX1_hasPair_4 : decode cX1_hasPair 4 = .ok (.iaload, 1) := by decide +kernel
theorem dX1_hasPair_5 : decode cX1_hasPair 5 = .ok (.aload_n 0, 1) := by decide +kernel
theorem dX1_hasPair_6 : decode cX1_hasPair 6 = .ok (.getfield 36, 3) := by decide +kernel
theorem dX1_hasPair_9 : decode cX1_hasPair 9 = .ok (.if_icmp .ge 7, 3) := by decide +kernel
theorem dX1_hasPair_12 : decode cX1_hasPair 12 = .ok (.iconst 1, 1) := by decide +kernel
theorem dX1_hasPair_13 : decode cX1_hasPair 13 = .ok (.goto 4, 3) := by decide +kernel
theorem dX1_hasPair_16 : decode cX1_hasPair 16 = .ok (.iconst 0, 1) := by decide +kernel
theorem dX1_hasPair_17 : decode cX1_hasPair 17 = .ok (.ireturn, 1) := by decide +kernel
set_option maxRecDepth 20000 in
theorem ggX1_pairFits_X7_hasBit : GoodIn wsX1_pairFits wsX7_hasBit := goodIn_r _ [8] (by decide +kernel) (by decide +kernel)
set_option maxRecDepth 20000 in
theorem gX1_pairFits_X7_hasBit_n51 : GoodIn wsX1_pairFits (wsX7_hasBit) := ggX1_pairFits_X7_hasBit
set_option maxRecDepth 20000 in
theorem ggX1_pairFits_X1_isNear : GoodIn wsX1_pairFits wsX1_isNear := goodIn_r _ [13, 14, 15, 4, 16, 6, 7, 8, 24, 25, 26, 17, 18, 19, 20, 21, 22, 23, 38, 39] (by decide +kernel) (by decide +kernel)
set_option maxRecDepth 20000 in
theorem gX1_pairFits_X1_isNear : GoodIn wsX1_pairFits (wsV RX1 55 RX1 yX1_isNear wsX1_isNear) := goodIn_app (goodIn_of _ (by decide +kernel)) ggX1_pairFits_X1_isNear
theorem dX1_pairFits_0 : decode cX1_pairFits 0 = .ok (.aload_n 0, 1) := by decide +kernel
theorem dX1_pairFits_1 : decode cX1_pairFits 1 = .ok (.getfield 19, 3) := by decide +kernel
theorem dX1_pairFits_4 : decode cX1_pairFits 4 = .ok (.getstatic 40, 3) := by decide +kernel
theorem dX1_pairFits_7 : decode cX1_pairFits 7 = .ok (.iload_n 1, 1) := by decide +kernel
theorem dX1_pairFits_8 : decode cX1_pairFits 8 = .ok (.iaload, 1) := by decide +kernel
theorem dX1_pairFits_9 : decode cX1_pairFits 9 = .ok (.aaload, 1) := by decide +kernel
theorem dX1_pairFits_10 : decode cX1_pairFits 10 = .ok (.astore_n 3, 1) := by decide +kernel
theorem dX1_pairFits_11 : decode cX1_pairFits 11 = .ok (.aload_n 0, 1) := by decide +kernel
theorem dX1_pairFits_12 : decode cX1_pairFits 12 = .ok (.getfield 19, 3) := by decide +kernel
theorem dX1_pairFits_15 : decode cX1_pairFits 15 = .ok (.getstatic 32, 3) := by decide +kernel
theorem dX1_pairFits_18 : decode cX1_pairFits 18 = .ok (.iload_n 1, 1) := by decide +kernel
theorem dX1_pairFits_19 : decode cX1_pairFits 19 = .ok (.iaload, 1) := by decide +kernel
theorem dX1_pairFits_20 : decode cX1_pairFits 20 = .ok (.aaload, 1) := by decide +kernel
theorem dX1_pairFits_21 : decode cX1_pairFits 21 = .ok (.astore 4, 2) := by decide +kernel
theorem dX1_pairFits_23 : decode cX1_pairFits 23 = .ok (.aload_n 3, 1) := by decide +kernel
theorem dX1_pairFits_24 : decode cX1_pairFits 24 = .ok (.getfield 43, 3) := by decide +kernel
theorem dX1_pairFits_27 : decode cX1_pairFits 27 = .ok (.aload 4, 2) := by decide +kernel
theorem dX1_pairFits_29 : decode cX1_pairFits 29 = .ok (.getfield 43, 3) := by decide +kernel
theorem dX1_pairFits_32 : decode cX1_pairFits 32 = .ok (.ior, 1) := by decide +kernel
theorem dX1_pairFits_33 : decode cX1_pairFits 33 = .ok (.istore 5, 2) := by decide +kernel
theorem dX1_pairFits_35 : decode cX1_pairFits 35 = .ok (.iconst 0, 1) := by decide +kernel
theorem dX1_pairFits_36 : decode cX1_pairFits 36 = .ok (.istore 6, 2) := by decide +kernel
theorem dX1_pairFits_38 : decode cX1_pairFits 38 = .ok (.iload 6, 2) := by decide +kernel
theorem dX1_pairFits_40 : decode cX1_pairFits 40 = .ok (.iconst 2, 1) := by decide +kernel
theorem dX1_pairFits_41 : decode cX1_pairFits 41 = .ok (.if_icmp .ge 59, 3) := by decide +kernel
theorem dX1_pairFits_44 : decode cX1_pairFits 44 = .ok (.aload_n 2, 1) := by decide +kernel
theorem dX1_pairFits_45 : decode cX1_pairFits 45 = .ok (.getfield 46, 3) := by decide +kernel
theorem dX1_pairFits_48 : decode cX1_pairFits 48 = .ok (.iload 6, 2) := by decide +kernel
theorem dX1_pairFits_50 : decode cX1_pairFits 50 = .ok (.iaload, 1) := by decide +kernel
theorem dX1_pairFits_51 : decode cX1_pairFits 51 = .ok (.istore 7, 2) := by decide +kernel
theorem dX1_pairFits_53 : decode cX1_pairFits 53 = .ok (.iload 5, 2) := by decide +kernel
theorem dX1_pairFits_55 : decode cX1_pairFits 55 = .ok (.aload_n 0, 1) := by decide +kernel
theorem dX1_pairFits_56 : decode cX1_pairFits 56 = .ok (.getfield 11, 3) := by decide +kernel
theorem dX1_pairFits_59 : decode cX1_pairFits 59 = .ok (.iload 7, 2) := by decide +kernel
theorem dX1_pairFits_61 : decode cX1_pairFits 61 = .ok (.aaload, 1) := by decide +kernel
theorem dX1_pairFits_62 : decode cX1_pairFits 62 = .ok (.getfield 48, 3) := by decide +kernel
theorem dX1_pairFits_65 : decode cX1_pairFits 65 = .ok (.invokestatic 51, 3) := by decide +kernel
theorem dX1_pairFits_68 : decode cX1_pairFits 68 = .ok (.ifCond .eq 24, 3) := by decide +kernel
theorem dX1_pairFits_71 : decode cX1_pairFits 71 = .ok (.aload_n 0, 1) := by decide +kernel
theorem dX1_pairFits_72 : decode cX1_pairFits 72 = .ok (.aload_n 3, 1) := by decide +kernel
theorem dX1_pairFits_73 : decode cX1_pairFits 73 = .ok (.iload 7, 2) := by decide +kernel
theorem dX1_pairFits_75 : decode cX1_pairFits 75 = .ok (.invokevirtual 55, 3) := by decide +kernel
theorem dX1_pairFits_78 : decode cX1_pairFits 78 = .ok (.ifCond .ne 14, 3) := by decide +kernel
theorem dX1_pairFits_81 : decode cX1_pairFits 81 = .ok (.aload_n 0, 1) := by decide +kernel
theorem dX1_pairFits_82 : decode cX1_pairFits 82 = .ok (.aload 4, 2) := by decide +kernel
theorem dX1_pairFits_84 : decode cX1_pairFits 84 = .ok (.iload 7, 2) := by decide +kernel
theorem dX1_pairFits_86 : decode cX1_pairFits 86 = .ok (.invokevirtual 55, 3) := by decide +kernel
theorem dX1_pairFits_89 : decode cX1_pairFits 89 = .ok (.ifCond .eq 5, 3) := by decide +kernel
theorem dX1_pairFits_92 : decode cX1_pairFits 92 = .ok (.iconst 0, 1) := by decide +kernel
theorem dX1_pairFits_93 : decode cX1_pairFits 93 = .ok (.ireturn, 1) := by decide +kernel
theorem dX1_pairFits_94 : decode cX1_pairFits 94 = .ok (.iinc 6 1, 3) := by decide +kernel
theorem dX1_pairFits_97 : decode cX1_pairFits 97 = .ok (.goto (-59), 3) := by decide +kernel
theorem dX1_pairFits_100 : decode cX1_pairFits 100 = .ok (.iconst 1, 1) := by decide +kernel
theorem dX1_pairFits_101 : decode cX1_pairFits 101 = .ok (.ireturn, 1) := by decide +kernel
set_option maxRecDepth 20000 in
theorem ggX1_isNear_X7_hasBit : GoodIn wsX1_isNear wsX7_hasBit := goodIn_r _ [7] (by decide +kernel) (by decide +kernel)
set_option maxRecDepth 20000 in
theorem gX1_isNear_X7_hasBit_n51 : GoodIn wsX1_isNear (wsX7_hasBit) := ggX1_isNear_X7_hasBit
theorem dX1_isNear_0 : decode cX1_isNear 0 = .ok (.aload_n 1, 1) := by decide +kernel
theorem dX1_isNear_1 : decode cX1_isNear 1 = .ok (.getfield 59, 3) := by decide +kernel
theorem dX1_isNear_4 : decode cX1_isNear 4 = .ok (.iload_n 2, 1) := by decide +kernel
theorem dX1_isNear_5 : decode cX1_isNear 5 = .ok (.invokestatic 51, 3) := by decide +kernel
theorem dX1_isNear_8 : decode cX1_isNear 8 = .ok (.ifCond .ne 19, 3) := by decide +kernel
theorem dX1_isNear_11 : decode cX1_isNear 11 = .ok (.aload_n 1, 1) := by decide +kernel
theorem dX1_isNear_12 : decode cX1_isNear 12 = .ok (.getfield 62, 3) := by decide +kernel
theorem dX1_isNear_15 : decode cX1_isNear 15 = .ok (.aload_n 0, 1) := by decide +kernel
theorem dX1_isNear_16 : decode cX1_isNear 16 = .ok (.getfield 11, 3) := by decide +kernel
theorem dX1_isNear_19 : decode cX1_isNear 19 = .ok (.iload_n 2, 1) := by decide +kernel
theorem dX1_isNear_20 : decode cX1_isNear 20 = .ok (.aaload, 1) := by decide +kernel
theorem dX1_isNear_21 : decode cX1_isNear 21 = .ok (.getfield 65, 3) := by decide +kernel
theorem dX1_isNear_24 : decode cX1_isNear 24 = .ok (.if_icmp .ne 7, 3) := by decide +kernel
theorem dX1_isNear_27 : decode cX1_isNear 27 = .ok (.iconst 1, 1) := by decide +kernel
theorem dX1_isNear_28 : decode cX1_isNear 28 = .ok (.goto 4, 3) := by decide +kernel
theorem dX1_isNear_31 : decode cX1_isNear 31 = .ok (.iconst 0, 1) := by decide +kernel
theorem dX1_isNear_32 : decode cX1_isNear 32 = .ok (.ireturn, 1) := by decide +kernel
set_option maxRecDepth 20000 in
theorem ggX1_quarrelBits_X7_hasBit : GoodIn wsX1_quarrelBits wsX7_hasBit := goodIn_r _ [6] (by decide +kernel) (by decide +kernel)
set_option maxRecDepth 20000 in
theorem gX1_quarrelBits_X7_hasBit_n51 : GoodIn wsX1_quarrelBits (wsX7_hasBit) := ggX1_quarrelBits_X7_hasBit
theorem dX1_quarrelBits_0 : decode cX1_quarrelBits 0 = .ok (.iconst 1, 1) := by decide +kernel
theorem dX1_quarrelBits_1 : decode cX1_quarrelBits 1 = .ok (.iload_n 1, 1) := by decide +kernel
theorem dX1_quarrelBits_2 : decode cX1_quarrelBits 2 = .ok (.ishl, 1) := by decide +kernel
theorem dX1_quarrelBits_3 : decode cX1_quarrelBits 3 = .ok (.istore_n 2, 1) := by decide +kernel
theorem dX1_quarrelBits_4 : decode cX1_quarrelBits 4 = .ok (.iconst 1, 1) := by decide +kernel
theorem dX1_quarrelBits_5 : decode cX1_quarrelBits 5 = .ok (.istore_n 3, 1) := by decide +kernel
theorem dX1_quarrelBits_6 : decode cX1_quarrelBits 6 = .ok (.iload_n 3, 1) := by decide +kernel
theorem dX1_quarrelBits_7 : decode cX1_quarrelBits 7 = .ok (.aload_n 0, 1) := by decide +kernel
theorem dX1_quarrelBits_8 : decode cX1_quarrelBits 8 = .ok (.getfield 66, 3) := by decide +kernel
theorem dX1_quarrelBits_11 : decode cX1_quarrelBits 11 = .ok (.if_icmp .ge 49, 3) := by decide +kernel
theorem dX1_quarrelBits_14 : decode cX1_quarrelBits 14 = .ok (.iconst 0, 1) := by decide +kernel
theorem dX1_quarrelBits_15 : decode cX1_quarrelBits 15 = .ok (.istore 4, 2) := by decide +kernel
theorem dX1_quarrelBits_17 : decode cX1_quarrelBits 17 = .ok (.iload 4, 2) := by decide +kernel
theorem dX1_quarrelBits_19 : decode cX1_quarrelBits 19 = .ok (.aload_n 0, 1) := by decide +kernel
theorem dX1_quarrelBits_20 : decode cX1_quarrelBits 20 = .ok (.getfield 66, 3) := by decide +kernel
theorem dX1_quarrelBits_23 : decode cX1_quarrelBits 23 = .ok (.if_icmp .ge 31, 3) := by decide +kernel
theorem dX1_quarrelBits_26 : decode cX1_quarrelBits 26 = .ok (.iload_n 2, 1) := by decide +kernel
theorem dX1_quarrelBits_27 : decode cX1_quarrelBits 27 = .ok (.iload 4, 2) := by decide +kernel
theorem dX1_quarrelBits_29 : decode cX1_quarrelBits 29 = .ok (.invokestatic 51, 3) := by decide +kernel
theorem dX1_quarrelBits_32 : decode cX1_quarrelBits 32 = .ok (.ifCond .eq 16, 3) := by decide +kernel
theorem dX1_quarrelBits_35 : decode cX1_quarrelBits 35 = .ok (.iload_n 2, 1) := by decide +kernel
theorem dX1_quarrelBits_36 : decode cX1_quarrelBits 36 = .ok (.aload_n 0, 1) := by decide +kernel
theorem dX1_quarrelBits_37 : decode cX1_quarrelBits 37 = .ok (.getfield 25, 3) := by decide +kernel
theorem dX1_quarrelBits_40 : decode cX1_quarrelBits 40 = .ok (.iload 4, 2) := by decide +kernel
theorem dX1_quarrelBits_42 : decode cX1_quarrelBits 42 = .ok (.aaload, 1) := by decide +kernel
theorem dX1_quarrelBits_43 : decode cX1_quarrelBits 43 = .ok (.getfield 69, 3) := by decide +kernel
theorem dX1_quarrelBits_46 : decode cX1_quarrelBits 46 = .ok (.ior, 1) := by decide +kernel
theorem dX1_quarrelBits_47 : decode cX1_quarrelBits 47 = .ok (.istore_n 2, 1) := by decide +kernel
theorem dX1_quarrelBits_48 : decode cX1_quarrelBits 48 = .ok (.iinc 4 1, 3) := by decide +kernel
theorem dX1_quarrelBits_51 : decode cX1_quarrelBits 51 = .ok (.goto (-34), 3) := by decide +kernel
theorem dX1_quarrelBits_54 : decode cX1_quarrelBits 54 = .ok (.iinc 3 1, 3) := by decide +kernel
theorem dX1_quarrelBits_57 : decode cX1_quarrelBits 57 = .ok (.goto (-51), 3) := by decide +kernel
theorem dX1_quarrelBits_60 : decode cX1_quarrelBits 60 = .ok (.iload_n 2, 1) := by decide +kernel
theorem dX1_quarrelBits_61 : decode cX1_quarrelBits 61 = .ok (.ireturn, 1) := by decide +kernel
set_option maxRecDepth 20000 in
theorem ggX1_headOfQuarrel_X1_quarrelBits : GoodIn wsX1_headOfQuarrel wsX1_quarrelBits := goodIn_r _ [5, 6, 7, 8, 9, 10, 11, 12, 13, 14, 15, 16, 17, 18, 19, 20, 21, 22, 23, 24, 25, 26, 27, 28, 29] (by decide +kernel) (by decide +kernel)
set_option maxRecDepth 20000 in
theorem gX1_headOfQuarrel_X1_quarrelBits : GoodIn wsX1_headOfQuarrel (wsV RX1 72 RX1 yX1_quarrelBits wsX1_quarrelBits) := goodIn_app (goodIn_of _ (by decide +kernel)) ggX1_headOfQuarrel_X1_quarrelBits
set_option maxRecDepth 20000 in
theorem ggX1_headOfQuarrel_X7_hasBit : GoodIn wsX1_headOfQuarrel wsX7_hasBit := goodIn_r _ [11] (by decide +kernel) (by decide +kernel)
set_option maxRecDepth 20000 in
theorem gX1_headOfQuarrel_X7_hasBit_n51 : GoodIn wsX1_headOfQuarrel (wsX7_hasBit) := ggX1_headOfQuarrel_X7_hasBit
theorem dX1_headOfQuarrel_0 : decode cX1_headOfQuarrel 0 = .ok (.aload_n 0, 1) := by decide +kernel
theorem dX1_headOfQuarrel_1 : decode cX1_headOfQuarrel 1 = .ok (.iload_n 1, 1) := by decide +kernel
theorem dX1_headOfQuarrel_2 : decode cX1_headOfQuarrel 2 = .ok (.invokevirtual 72, 3) := by decide +kernel
theorem dX1_headOfQuarrel_5 : decode cX1_headOfQuarrel 5 = .ok (.istore_n 2, 1) := by decide +kernel
theorem dX1_headOfQuarrel_6 : decode cX1_headOfQuarrel 6 = .ok (.iconst 0, 1) := by decide +kernel
theorem dX1_headOfQuarrel_7 : decode cX1_headOfQuarrel 7 = .ok (.istore_n 3, 1) := by decide +kernel
theorem dX1_headOfQuarrel_8 : decode cX1_headOfQuarrel 8 = .ok (.iload_n 3, 1) := by decide +kernel
theorem dX1_headOfQuarrel_9 : decode cX1_headOfQuarrel 9 = .ok (.iload_n 1, 1) := by decide +kernel
theorem dX1_headOfQuarrel_10 : decode cX1_headOfQuarrel 10 = .ok (.if_icmp .ge 19, 3) := by decide +kernel
theorem dX1_headOfQuarrel_13 : decode cX1_headOfQuarrel 13 = .ok (.iload_n 2, 1) := by decide +kernel
theorem dX1_headOfQuarrel_14 : decode cX1_headOfQuarrel 14 = .ok (.iload_n 3, 1) := by decide +kernel
theorem dX1_headOfQuarrel_15 : decode cX1_headOfQuarrel 15 = .ok (.invokestatic 51, 3) := by decide +kernel
theorem dX1_headOfQuarrel_18 : decode cX1_headOfQuarrel 18 = .ok (.ifCond .eq 5, 3) := by decide +kernel
theorem dX1_headOfQuarrel_21 : decode cX1_headOfQuarrel 21 = .ok (.iload_n 3, 1) := by decide +kernel
theorem dX1_headOfQuarrel_22 : decode cX1_headOfQuarrel 22 = .ok (.ireturn, 1) := by decide +kernel
theorem dX1_headOfQuarrel_23 : decode cX1_headOfQuarrel 23 = .ok (.iinc 3 1, 3) := by decide +kernel
theorem dX1_headOfQuarrel_26 : decode cX1_headOfQuarrel 26 = .ok (.goto (-18), 3) := by decide +kernel
theorem dX1_headOfQuarrel_29 : decode cX1_headOfQuarrel 29 = .ok (.iload_n 1, 1) := by decide +kernel
theorem dX1_headOfQuarrel_30 : decode cX1_headOfQuarrel 30 = .ok (.ireturn, 1) := by decide +kernel
set_option maxRecDepth 20000 in
theorem ggX1_countQuarrels_X1_headOfQuarrel : GoodIn wsX1_countQuarrels wsX1_headOfQuarrel := goodIn_r _ [6, 7, 8, 9, 5, 10, 1, 11, 12, 13, 14, 15, 16, 17, 18, 19, 20, 21, 22, 23, 24, 25, 26, 27, 28, 29, 30, 31, 32, 33] (by decide +kernel) (by decide +kernel)
set_option maxRecDepth 20000 in
theorem gX1_countQuarrels_X1_headOfQuarrel : GoodIn wsX1_countQuarrels (wsV RX1 76 RX1 yX1_headOfQuarrel wsX1_headOfQuarrel) := goodIn_app (goodIn_of _ (by decide +kernel)) ggX1_countQuarrels_X1_headOfQuarrel
theorem dX1_countQuarrels_0 : decode cX1_countQuarrels 0 = .ok (.iconst 0, 1) := by decide +kernel
theorem dX1_countQuarrels_1 : decode cX1_countQuarrels 1 = .ok (.istore_n 1, 1) := by decide +kernel
theorem dX1_countQuarrels_2 : decode cX1_countQuarrels 2 = .ok (.iconst 0, 1) := by decide +kernel
theorem dX1_countQuarrels_3 : decode cX1_countQuarrels 3 = .ok (.istore_n 2, 1) := by decide +kernel
theorem dX1_countQuarrels_4 : decode cX1_countQuarrels 4 = .ok (.iload_n 2, 1) := by decide +kernel
theorem dX1_countQuarrels_5 : decode cX1_countQuarrels 5 = .ok (.aload_n 0, 1) := by decide +kernel
theorem dX1_countQuarrels_6 : decode cX1_countQuarrels 6 = .ok (.getfield 66, 3) := by decide +kernel
theorem dX1_countQuarrels_9 : decode cX1_countQuarrels 9 = .ok (.if_icmp .ge 21, 3) := by decide +kernel
theorem dX1_countQuarrels_12 : decode cX1_countQuarrels 12 = .ok (.aload_n 0, 1) := by decide +kernel
theorem dX1_countQuarrels_13 : decode cX1_countQuarrels 13 = .ok (.iload_n 2, 1) := by decide +kernel
theorem dX1_countQuarrels_14 : decode cX1_countQuarrels 14 = .ok (.invokevirtual 76, 3) := by decide +kernel
theorem dX1_countQuarrels_17 : decode cX1_countQuarrels 17 = .ok (.iload_n 2, 1) := by decide +kernel
theorem dX1_countQuarrels_18 : decode cX1_countQuarrels 18 = .ok (.if_icmp .ne 6, 3) := by decide +kernel
theorem dX1_countQuarrels_21 : decode cX1_countQuarrels 21 = .ok (.iinc 1 1, 3) := by decide +kernel
theorem dX1_countQuarrels_24 : decode cX1_countQuarrels 24 = .ok (.iinc 2 1, 3) := by decide +kernel
theorem dX1_countQuarrels_27 : decode cX1_countQuarrels 27 = .ok (.goto (-23), 3) := by decide +kernel
theorem dX1_countQuarrels_30 : decode cX1_countQuarrels 30 = .ok (.iload_n 1, 1) := by decide +kernel
theorem dX1_countQuarrels_31 : decode cX1_countQuarrels 31 = .ok (.ireturn, 1) := by decide +kernel
theorem dX1_countState_0 : decode cX1_countState 0 = .ok (.iconst 0, 1) := by decide +kernel
theorem dX1_countState_1 : decode cX1_countState 1 = .ok (.istore_n 2, 1) := by decide +kernel
theorem dX1_countState_2 : decode cX1_countState 2 = .ok (.iconst 0, 1) := by decide +kernel
theorem dX1_countState_3 : decode cX1_countState 3 = .ok (.istore_n 3, 1) := by decide +kernel
theorem dX1_countState_4 : decode cX1_countState 4 = .ok (.iload_n 3, 1) := by decide +kernel
theorem dX1_countState_5 : decode cX1_countState 5 = .ok (.aload_n 0, 1) := by decide +kernel
theorem dX1_countState_6 : decode cX1_countState 6 = .ok (.getfield 66, 3) := by decide +kernel
theorem dX1_countState_9 : decode cX1_countState 9 = .ok (.if_icmp .ge 25, 3) := by decide +kernel
theorem dX1_countState_12 : decode cX1_countState 12 = .ok (.aload_n 0, 1) := by decide +kernel
theorem dX1_countState_13 : decode cX1_countState 13 = .ok (.getfield 25, 3) := by decide +kernel
theorem dX1_countState_16 : decode cX1_countState 16 = .ok (.iload_n 3, 1) := by decide +kernel
theorem dX1_countState_17 : decode cX1_countState 17 = .ok (.aaload, 1) := by decide +kernel
theorem dX1_countState_18 : decode cX1_countState 18 = .ok (.getfield 79, 3) := by decide +kernel
theorem dX1_countState_21 : decode cX1_countState 21 = .ok (.iload_n 1, 1) := by decide +kernel
theorem dX1_countState_22 : decode cX1_countState 22 = .ok (.if_icmp .ne 6, 3) := by decide +kernel
theorem dX1_countState_25 : decode cX1_countState 25 = .ok (.iinc 2 1, 3) := by decide +kernel
theorem dX1_countState_28 : decode cX1_countState 28 = .ok (.iinc 3 1, 3) := by decide +kernel
theorem dX1_countState_31 : decode cX1_countState 31 = .ok (.goto (-27), 3) := by decide +kernel
theorem dX1_countState_34 : decode cX1_countState 34 = .ok (.iload_n 2, 1) := by decide +kernel
theorem dX1_countState_35 : decode cX1_countState 35 = .ok (.ireturn, 1) := by decide +kernel
theorem dX1_countTerms_0 : decode cX1_countTerms 0 = .ok (.iconst 0, 1) := by decide +kernel
theorem dX1_countTerms_1 : decode cX1_countTerms 1 = .ok (.istore_n 1, 1) := by decide +kernel
theorem dX1_countTerms_2 : decode cX1_countTerms 2 = .ok (.iconst 0, 1) := by decide +kernel
theorem dX1_countTerms_3 : decode cX1_countTerms 3 = .ok (.istore_n 2, 1) := by decide +kernel
theorem dX1_countTerms_4 : decode cX1_countTerms 4 = .ok (.iload_n 2, 1) := by decide +kernel
theorem dX1_countTerms_5 : decode cX1_countTerms 5 = .ok (.aload_n 0, 1) := by decide +kernel
theorem dX1_countTerms_6 : decode cX1_countTerms 6 = .ok (.getfield 66, 3) := by decide +kernel
theorem dX1_countTerms_9 : decode cX1_countTerms 9 = .ok (.if_icmp .ge 21, 3) := by decide +kernel
theorem dX1_countTerms_12 : decode cX1_countTerms 12 = .ok (.iload_n 1, 1) := by decide +kernel
theorem dX1_countTerms_13 : decode cX1_countTerms 13 = .ok (.aload_n 0, 1) := by decide +kernel
theorem dX1_countTerms_14 : decode cX1_countTerms 14 = .ok (.getfield 25, 3) := by decide +kernel
theorem dX1_countTerms_17 : decode cX1_countTerms 17 = .ok (.iload_n 2, 1) := by decide +kernel
theorem dX1_countTerms_18 : decode cX1_countTerms 18 = .ok (.aaload, 1) := by decide +kernel
theorem dX1_countTerms_19 : decode cX1_countTerms 19 = .ok (.getfield 82, 3) := by decide +kernel
theorem dX1_countTerms_22 : decode cX1_countTerms 22 = .ok (.iadd, 1) := by decide +kernel
theorem dX1_countTerms_23 : decode cX1_countTerms 23 = .ok (.istore_n 1, 1) := by decide +kernel
theorem dX1_countTerms_24 : decode cX1_countTerms 24 = .ok (.iinc 2 1, 3) := by decide +kernel
theorem dX1_countTerms_27 : decode cX1_countTerms 27 = .ok (.goto (-23), 3) := by decide +kernel
theorem dX1_countTerms_30 : decode cX1_countTerms 30 = .ok (.iload_n 1, 1) := by decide +kernel
theorem dX1_countTerms_31 : decode cX1_countTerms 31 = .ok (.ireturn, 1) := by decide +kernel
set_option maxRecDepth 20000 in
theorem ggX1_countJudged_X0_judge : GoodIn wsX1_countJudged wsX0_judge := goodIn_r _ [8, 9, 10, 11, 12, 13, 14, 15, 23, 24, 25, 26, 27, 28, 29, 30, 31, 32, 33, 34, 35, 36, 37, 38] (by decide +kernel) (by decide +kernel)
set_option maxRecDepth 20000 in
theorem gX1_countJudged_X0_judge : GoodIn wsX1_countJudged (wsV RX1 85 RX0 yX0_judge wsX0_judge) := goodIn_app (goodIn_of _ (by decide +kernel)) ggX1_countJudged_X0_judge
theorem dX1_countJudged_0 : decode cX1_countJudged 0 = .ok (.iconst 0, 1) := by decide +kernel
theorem dX1_countJudged_1 : decode cX1_countJudged 1 = .ok (.istore_n 2, 1) := by decide +kernel
theorem dX1_countJudged_2 : decode cX1_countJudged 2 = .ok (.iconst 0, 1) := by decide +kernel
theorem dX1_countJudged_3 : decode cX1_countJudged 3 = .ok (.istore_n 3, 1) := by decide +kernel
theorem dX1_countJudged_4 : decode cX1_countJudged 4 = .ok (.iload_n 3, 1) := by decide +kernel
theorem dX1_countJudged_5 : decode cX1_countJudged 5 = .ok (.aload_n 0, 1) := by decide +kernel
theorem dX1_countJudged_6 : decode cX1_countJudged 6 = .ok (.getfield 66, 3) := by decide +kernel
theorem dX1_countJudged_9 : decode cX1_countJudged 9 = .ok (.if_icmp .ge 50, 3) := by decide +kernel
theorem dX1_countJudged_12 : decode cX1_countJudged 12 = .ok (.iconst 0, 1) := by decide +kernel
theorem dX1_countJudged_13 : decode cX1_countJudged 13 = .ok (.istore 4, 2) := by decide +kernel
theorem dX1_countJudged_15 : decode cX1_countJudged 15 = .ok (.iload 4, 2) := by decide +kernel
theorem dX1_countJudged_17 : decode cX1_countJudged 17 = .ok (.aload_n 0, 1) := by decide +kernel
theorem dX1_countJudged_18 : decode cX1_countJudged 18 = .ok (.getfield 25, 3) := by decide +kernel
theorem dX1_countJudged_21 : decode cX1_countJudged 21 = .ok (.iload_n 3, 1) := by decide +kernel
theorem dX1_countJudged_22 : decode cX1_countJudged 22 = .ok (.aaload, 1) := by decide +kernel
theorem dX1_countJudged_23 : decode cX1_countJudged 23 = .ok (.getfield 82, 3) := by decide +kernel
theorem dX1_countJudged_26 : decode cX1_countJudged 26 = .ok (.if_icmp .ge 27, 3) := by decide +kernel
theorem dX1_countJudged_29 : decode cX1_countJudged 29 = .ok (.aload_n 0, 1) := by decide +kernel
theorem dX1_countJudged_30 : decode cX1_countJudged 30 = .ok (.getfield 25, 3) := by decide +kernel
theorem dX1_countJudged_33 : decode cX1_countJudged 33 = .ok (.iload_n 3, 1) := by decide +kernel
theorem dX1_countJudged_34 : decode cX1_countJudged 34 = .ok (.aaload, 1) := by decide +kernel
theorem dX1_countJudged_35 : decode cX1_countJudged 35 = .ok (.iload 4, 2) := by decide +kernel
theorem dX1_countJudged_37 : decode cX1_countJudged 37 = .ok (.invokevirtual 85, 3) := by decide +kernel
theorem dX1_countJudged_40 : decode cX1_countJudged 40 = .ok (.iload_n 1, 1) := by decide +kernel
theorem dX1_countJudged_41 : decode cX1_countJudged 41 = .ok (.if_icmp .ne 6, 3) := by decide +kernel
theorem dX1_countJudged_44 : decode cX1_countJudged 44 = .ok (.iinc 2 1, 3) := by decide +kernel
theorem dX1_countJudged_47 : decode cX1_countJudged 47 = .ok (.iinc 4 1, 3) := by decide +kernel
theorem dX1_countJudged_50 : decode cX1_countJudged 50 = .ok (.goto (-35), 3) := by decide +kernel
theorem dX1_countJudged_53 : decode cX1_countJudged 53 = .ok (.iinc 3 1, 3) := by decide +kernel
theorem dX1_countJudged_56 : decode cX1_countJudged 56 = .ok (.goto (-52), 3) := by decide +kernel
theorem dX1_countJudged_59 : decode cX1_countJudged 59 = .ok (.iload_n 2, 1) := by decide +kernel
theorem dX1_countJudged_60 : decode cX1_countJudged 60 = .ok (.ireturn, 1) := by decide +kernel
set_option maxRecDepth 20000 in
theorem ggX1_copyFrom_X3_copyFrom : GoodIn wsX1_copyFrom wsX3_copyFrom := goodIn_r _ [12, 13, 14, 60, 61] (by decide +kernel) (by decide +kernel)
set_option maxRecDepth 20000 in
theorem gX1_copyFrom_X3_copyFrom : GoodIn wsX1_copyFrom (wsV RX1 94 RX3 yX3_copyFrom wsX3_copyFrom) := goodIn_app (goodIn_of _ (by decide +kernel)) ggX1_copyFrom_X3_copyFrom
set_option maxRecDepth 20000 in
theorem ggX1_copyFrom_X2_copyFrom : GoodIn wsX1_copyFrom wsX2_copyFrom := goodIn_r _ [19, 20, 21, 22, 62, 63, 64] (by decide +kernel) (by decide +kernel)
set_option maxRecDepth 20000 in
theorem gX1_copyFrom_X2_copyFrom : GoodIn wsX1_copyFrom (wsV RX1 98 RX2 yX2_copyFrom wsX2_copyFrom) := goodIn_app (goodIn_of _ (by decide +kernel)) ggX1_copyFrom_X2_copyFrom
set_option maxRecDepth 20000 in
theorem ggX1_copyFrom_X0_copyFrom : GoodIn wsX1_copyFrom wsX0_copyFrom := goodIn_r _ [27, 28, 29, 30, 31, 32, 33, 34, 35, 36, 37, 38, 39, 40, 41, 42, 43, 44, 45, 46, 47, 48, 49, 50, 51, 52, 65, 66, 67, 68, 69, 70, 71, 72, 73, 74, 75, 76, 77, 78, 79, 80] (by decide +kernel) (by decide +kernel)
set_option maxRecDepth 20000 in
theorem gX1_copyFrom_X0_copyFrom : GoodIn wsX1_copyFrom (wsV RX1 101 RX0 yX0_copyFrom wsX0_copyFrom) := goodIn_app (goodIn_of _ (by decide +kernel)) ggX1_copyFrom_X0_copyFrom
theorem dX1_copyFrom_0 : decode cX1_copyFrom 0 = .ok (.aload_n 0, 1) := by decide +kernel
theorem dX1_copyFrom_1 : decode cX1_copyFrom 1 = .ok (.aload_n 1, 1) := by decide +kernel
theorem dX1_copyFrom_2 : decode cX1_copyFrom 2 = .ok (.getfield 88, 3) := by decide +kernel
theorem dX1_copyFrom_5 : decode cX1_copyFrom 5 = .ok (.putfield 88, 3) := by decide +kernel
theorem dX1_copyFrom_8 : decode cX1_copyFrom 8 = .ok (.aload_n 0, 1) := by decide +kernel
theorem dX1_copyFrom_9 : decode cX1_copyFrom 9 = .ok (.aload_n 1, 1) := by decide +kernel
theorem dX1_copyFrom_10 : decode cX1_copyFrom 10 = .ok (.getfield 36, 3) := by decide +kernel
theorem dX1_copyFrom_13 : decode cX1_copyFrom 13 = .ok (.putfield 36, 3) := by decide +kernel
theorem dX1_copyFrom_16 : decode cX1_copyFrom 16 = .ok (.aload_n 0, 1) := by decide +kernel
theorem dX1_copyFrom_17 : decode cX1_copyFrom 17 = .ok (.aload_n 1, 1) := by decide +kernel
theorem dX1_copyFrom_18 : decode cX1_copyFrom 18 = .ok (.getfield 66, 3) := by decide +kernel
theorem dX1_copyFrom_21 : decode cX1_copyFrom 21 = .ok (.putfield 66, 3) := by decide +kernel
theorem dX1_copyFrom_24 : decode cX1_copyFrom 24 = .ok (.aload_n 0, 1) := by decide +kernel
theorem dX1_copyFrom_25 : decode cX1_copyFrom 25 = .ok (.aload_n 1, 1) := by decide +kernel
theorem dX1_copyFrom_26 : decode cX1_copyFrom 26 = .ok (.getfield 91, 3) := by decide +kernel
theorem dX1_copyFrom_29 : decode cX1_copyFrom 29 = .ok (.putfield 91, 3) := by decide +kernel
theorem dX1_copyFrom_32 : decode cX1_copyFrom 32 = .ok (.iconst 0, 1) := by decide +kernel
theorem dX1_copyFrom_33 : decode cX1_copyFrom 33 = .ok (.istore_n 2, 1) := by decide +kernel
theorem dX1_copyFrom_34 : decode cX1_copyFrom 34 = .ok (.iload_n 2, 1) := by decide +kernel
theorem dX1_copyFrom_35 : decode cX1_copyFrom 35 = .ok (.aload_n 0, 1) := by decide +kernel
theorem dX1_copyFrom_36 : decode cX1_copyFrom 36 = .ok (.getfield 88, 3) := by decide +kernel
theorem dX1_copyFrom_39 : decode cX1_copyFrom 39 = .ok (.if_icmp .ge 24, 3) := by decide +kernel
theorem dX1_copyFrom_42 : decode cX1_copyFrom 42 = .ok (.aload_n 0, 1) := by decide +kernel
theorem dX1_copyFrom_43 : decode cX1_copyFrom 43 = .ok (.getfield 11, 3) := by decide +kernel
theorem dX1_copyFrom_46 : decode cX1_copyFrom 46 = .ok (.iload_n 2, 1) := by decide +kernel
theorem dX1_copyFrom_47 : decode cX1_copyFrom 47 = .ok (.aaload, 1) := by decide +kernel
theorem dX1_copyFrom_48 : decode cX1_copyFrom 48 = .ok (.aload_n 1, 1) := by decide +kernel
theorem dX1_copyFrom_49 : decode cX1_copyFrom 49 = .ok (.getfield 11, 3) := by decide +kernel
theorem dX1_copyFrom_52 : decode cX1_copyFrom 52 = .ok (.iload_n 2, 1) := by decide +kernel
theorem dX1_copyFrom_53 : decode cX1_copyFrom 53 = .ok (.aaload, 1) := by decide +kernel
theorem dX1_copyFrom_54 : decode cX1_copyFrom 54 = .ok (.invokevirtual 94, 3) := by decide +kernel
theorem dX1_copyFrom_57 : decode cX1_copyFrom 57 = .ok (.iinc 2 1, 3) := by decide +kernel
theorem dX1_copyFrom_60 : decode cX1_copyFrom 60 = .ok (.goto (-26), 3) := by decide +kernel
theorem dX1_copyFrom_63 : decode cX1_copyFrom 63 = .ok (.iconst 0, 1) := by decide +kernel
theorem dX1_copyFrom_64 : decode cX1_copyFrom 64 = .ok (.istore_n 2, 1) := by decide +kernel
theorem dX1_copyFrom_65 : decode cX1_copyFrom 65 = .ok (.iload_n 2, 1) := by decide +kernel
theorem dX1_copyFrom_66 : decode cX1_copyFrom 66 = .ok (.aload_n 0, 1) := by decide +kernel
theorem dX1_copyFrom_67 : decode cX1_copyFrom 67 = .ok (.getfield 36, 3) := by decide +kernel
theorem dX1_copyFrom_70 : decode cX1_copyFrom 70 = .ok (.if_icmp .ge 24, 3) := by decide +kernel
theorem dX1_copyFrom_73 : decode cX1_copyFrom 73 = .ok (.aload_n 0, 1) := by decide +kernel
theorem dX1_copyFrom_74 : decode cX1_copyFrom 74 = .ok (.getfield 19, 3) := by decide +kernel
theorem dX1_copyFrom_77 : decode cX1_copyFrom 77 = .ok (.iload_n 2, 1) := by decide +kernel
theorem dX1_copyFrom_78 : decode cX1_copyFrom 78 = .ok (.aaload, 1) := by decide +kernel
theorem dX1_copyFrom_79 : decode cX1_copyFrom 79 = .ok (.aload_n 1, 1) := by decide +kernel
theorem dX1_copyFrom_80 : decode cX1_copyFrom 80 = .ok (.getfield 19, 3) := by decide +kernel
theorem dX1_copyFrom_83 : decode cX1_copyFrom 83 = .ok (.iload_n 2, 1) := by decide +kernel
theorem dX1_copyFrom_84 : decode cX1_copyFrom 84 = .ok (.aaload, 1) := by decide +kernel
theorem dX1_copyFrom_85 : decode cX1_copyFrom 85 = .ok (.invokevirtual 98, 3) := by decide +kernel
theorem dX1_copyFrom_88 : decode cX1_copyFrom 88 = .ok (.iinc 2 1, 3) := by decide +kernel
theorem dX1_copyFrom_91 : decode cX1_copyFrom 91 = .ok (.goto (-26), 3) := by decide +kernel
theorem dX1_copyFrom_94 : decode cX1_copyFrom 94 = .ok (.iconst 0, 1) := by decide +kernel
theorem dX1_copyFrom_95 : decode cX1_copyFrom 95 = .ok (.istore_n 2, 1) := by decide +kernel
theorem dX1_copyFrom_96 : decode cX1_copyFrom 96 = .ok (.iload_n 2, 1) := by decide +kernel
theorem dX1_copyFrom_97 : decode cX1_copyFrom 97 = .ok (.aload_n 0, 1) := by decide +kernel
theorem dX1_copyFrom_98 : decode cX1_copyFrom 98 = .ok (.getfield 66, 3) := by decide +kernel
theorem dX1_copyFrom_101 : decode cX1_copyFrom 101 = .ok (.if_icmp .ge 24, 3) := by decide +kernel
theorem dX1_copyFrom_104 : decode cX1_copyFrom 104 = .ok (.aload_n 0, 1) := by decide +kernel
theorem dX1_copyFrom_105 : decode cX1_copyFrom 105 = .ok (.getfield 25, 3) := by decide +kernel
theorem dX1_copyFrom_108 : decode cX1_copyFrom 108 = .ok (.iload_n 2, 1) := by decide +kernel
theorem dX1_copyFrom_109 : decode cX1_copyFrom 109 = .ok (.aaload, 1) := by decide +kernel
theorem dX1_copyFrom_110 : decode cX1_copyFrom 110 = .ok (.aload_n 1, 1) := by decide +kernel
theorem dX1_copyFrom_111 : decode cX1_copyFrom 111 = .ok (.getfield 25, 3) := by decide +kernel
theorem dX1_copyFrom_114 : decode cX1_copyFrom 114 = .ok (.iload_n 2, 1) := by decide +kernel
theorem dX1_copyFrom_115 : decode cX1_copyFrom 115 = .ok (.aaload, 1) := by decide +kernel
theorem dX1_copyFrom_116 : decode cX1_copyFrom 116 = .ok (.invokevirtual 101, 3) := by decide +kernel
theorem dX1_copyFrom_119 : decode cX1_copyFrom 119 = .ok (.iinc 2 1, 3) := by decide +kernel
theorem dX1_copyFrom_122 : decode cX1_copyFrom 122 = .ok (.goto (-26), 3) := by decide +kernel
theorem dX1_copyFrom_125 : decode cX1_copyFrom 125 = .ok (.return_, 1) := by decide +kernel
theorem dX2_init_0 : decode cX2_init 0 = .ok (.aload_n 0, 1) := by decide +kernel
theorem dX2_init_1 : decode cX2_init 1 = .ok (.invokespecial 1, 3) := by decide +kernel
theorem dX2_init_4 : decode cX2_init 4 = .ok (.return_, 1) := by decide +kernel
theorem dX2_copyFrom_0 : decode cX2_copyFrom 0 = .ok (.aload_n 0, 1) := by decide +kernel
theorem dX2_copyFrom_1 : decode cX2_copyFrom 1 = .ok (.aload_n 1, 1) := by decide +kernel
theorem dX2_copyFrom_2 : decode cX2_copyFrom 2 = .ok (.getfield 7, 3) := by decide +kernel
theorem dX2_copyFrom_5 : decode cX2_copyFrom 5 = .ok (.putfield 7, 3) := by decide +kernel
theorem dX2_copyFrom_8 : decode cX2_copyFrom 8 = .ok (.aload_n 0, 1) := by decide +kernel
theorem dX2_copyFrom_9 : decode cX2_copyFrom 9 = .ok (.aload_n 1, 1) := by decide +kernel
theorem dX2_copyFrom_10 : decode cX2_copyFrom 10 = .ok (.getfield 13, 3) := by decide +kernel
theorem dX2_copyFrom_13 : decode cX2_copyFrom 13 = .ok (.putfield 13, 3) := by decide +kernel
theorem dX2_copyFrom_16 : decode cX2_copyFrom 16 = .ok (.aload_n 0, 1) := by decide +kernel
theorem dX2_copyFrom_17 : decode cX2_copyFrom 17 = .ok (.aload_n 1, 1) := by decide +kernel
theorem dX2_copyFrom_18 : decode cX2_copyFrom 18 = .ok (.getfield 16, 3) := by decide +kernel
theorem dX2_copyFrom_21 : decode cX2_copyFrom 21 = .ok (.putfield 16, 3) := by decide +kernel
theorem dX2_copyFrom_24 : decode cX2_copyFrom 24 = .ok (.return_, 1) := by decide +kernel
theorem dX3_init_0 : decode cX3_init 0 = .ok (.aload_n 0, 1) := by decide +kernel
theorem dX3_init_1 : decode cX3_init 1 = .ok (.invokespecial 1, 3) := by decide +kernel
theorem dX3_init_4 : decode cX3_init 4 = .ok (.return_, 1) := by decide +kernel
theorem dX3_copyFrom_0 : decode cX3_copyFrom 0 = .ok (.aload_n 0, 1) := by decide +kernel
theorem dX3_copyFrom_1 : decode cX3_copyFrom 1 = .ok (.aload_n 1, 1) := by decide +kernel
theorem dX3_copyFrom_2 : decode cX3_copyFrom 2 = .ok (.getfield 7, 3) := by decide +kernel
theorem dX3_copyFrom_5 : decode cX3_copyFrom 5 = .ok (.putfield 7, 3) := by decide +kernel
theorem dX3_copyFrom_8 : decode cX3_copyFrom 8 = .ok (.aload_n 0, 1) := by decide +kernel
theorem dX3_copyFrom_9 : decode cX3_copyFrom 9 = .ok (.aload_n 1, 1) := by decide +kernel
theorem dX3_copyFrom_10 : decode cX3_copyFrom 10 = .ok (.getfield 13, 3) := by decide +kernel
theorem dX3_copyFrom_13 : decode cX3_copyFrom 13 = .ok (.putfield 13, 3) := by decide +kernel
theorem dX3_copyFrom_16 : decode cX3_copyFrom 16 = .ok (.return_, 1) := by decide +kernel
theorem dX4_init_0 : decode cX4_init 0 = .ok (.aload_n 0, 1) := by decide +kernel
theorem dX4_init_1 : decode cX4_init 1 = .ok (.invokespecial 3, 3) := by decide +kernel
theorem dX4_init_4 : decode cX4_init 4 = .ok (.aload_n 0, 1) := by decide +kernel
theorem dX4_init_5 : decode cX4_init 5 = .ok (.iconst 4, 1) := by decide +kernel
theorem dX4_init_6 : decode cX4_init 6 = .ok (.newarray .int, 2) := by decide +kernel
theorem dX4_init_8 : decode cX4_init 8 = .ok (.putfield 9, 3) := by decide +kernel
theorem dX4_init_11 : decode cX4_init 11 = .ok (.aload_n 0, 1) := by decide +kernel
theorem dX4_init_12 : decode cX4_init 12 = .ok (.iconst 4, 1) := by decide +kernel
theorem dX4_init_13 : decode cX4_init 13 = .ok (.newarray .int, 2) := by decide +kernel
theorem dX4_init_15 : decode cX4_init 15 = .ok (.putfield 15, 3) := by decide +kernel
theorem dX4_init_18 : decode cX4_init 18 = .ok (.aload_n 0, 1) := by decide +kernel
theorem dX4_init_19 : decode cX4_init 19 = .ok (.iconst 4, 1) := by decide +kernel
theorem dX4_init_20 : decode cX4_init 20 = .ok (.newarray .int, 2) := by decide +kernel
theorem dX4_init_22 : decode cX4_init 22 = .ok (.putfield 18, 3) := by decide +kernel
theorem dX4_init_25 : decode cX4_init 25 = .ok (.aload_n 0, 1) := by decide +kernel
theorem dX4_init_26 : decode cX4_init 26 = .ok (.iconst 4, 1) := by decide +kernel
theorem dX4_init_27 : decode cX4_init 27 = .ok (.newarray .int, 2) := by decide +kernel
theorem dX4_init_29 : decode cX4_init 29 = .ok (.putfield 21, 3) := by decide +kernel
theorem dX4_init_32 : decode cX4_init 32 = .ok (.aload_n 0, 1) := by decide +kernel
theorem dX4_init_33 : decode cX4_init 33 = .ok (.iconst 4, 1) := by decide +kernel
theorem dX4_init_34 : decode cX4_init 34 = .ok (.newarray .int, 2) := by decide +kernel
theorem dX4_init_36 : decode cX4_init 36 = .ok (.putfield 24, 3) := by decide +kernel
theorem dX4_init_39 : decode cX4_init 39 = .ok (.aload_n 0, 1) := by decide +kernel
theorem dX4_init_40 : decode cX4_init 40 = .ok (.iconst 4, 1) := by decide +kernel
theorem dX4_init_41 : decode cX4_init 41 = .ok (.newarray .int, 2) := by decide +kernel
theorem dX4_init_43 : decode cX4_init 43 = .ok (.putfield 27, 3) := by decide +kernel
theorem dX4_init_46 : decode cX4_init 46 = .ok (.aload_n 0, 1) := by decide +kernel
theorem dX4_init_47 : decode cX4_init 47 = .ok (.iconst 3, 1) := by decide +kernel
theorem dX4_init_48 : decode cX4_init 48 = .ok (.newarray .int, 2) := by decide +kernel
theorem dX4_init_50 : decode cX4_init 50 = .ok (.putfield 30, 3) := by decide +kernel
theorem dX4_init_53 : decode cX4_init 53 = .ok (.aload_n 0, 1) := by decide +kernel
theorem dX4_init_54 : decode cX4_init 54 = .ok (.iconst 3, 1) := by decide +kernel
theorem dX4_init_55 : decode cX4_init 55 = .ok (.newarray .int, 2) := by decide +kernel
theorem dX4_init_57 : decode cX4_init 57 = .ok (.putfield 33, 3) := by decide +kernel
theorem dX4_init_60 : decode cX4_init 60 = .ok (.return_, 1) := by decide +kernel
set_option maxRecDepth 20000 in
theorem ggX4_findPlan_X4_gather : GoodIn wsX4_findPlan wsX4_gather := goodIn_r _ [16, 8, 17, 18, 19, 20, 9, 21, 22, 23, 24, 15, 25, 26, 27, 28, 29, 30, 31, 32, 33, 34, 35, 36, 37, 38, 39, 40, 41, 42, 43, 44, 45, 46, 47, 48, 49, 50, 81, 82, 83, 84, 85, 86, 87, 88, 89, 90, 91, 74, 75, 76, 77, 78, 79, 80, 92, 93, 94, 95, 96, 97, 98, 99, 100, 101, 102, 103, 104, 105, 106, 107] (by decide +kernel) (by decide +kernel)
set_option maxRecDepth 20000 in
theorem gX4_findPlan_X4_gather : GoodIn wsX4_findPlan (wsV RX4 51 RX4 yX4_gather wsX4_gather) := goodIn_app (goodIn_of _ (by decide +kernel)) ggX4_findPlan_X4_gather
set_option maxRecDepth 20000 in
theorem ggX4_findPlan_X4_sortByWeight : GoodIn wsX4_findPlan wsX4_sortByWeight := goodIn_r _ [54, 8, 9, 55, 81, 82, 83, 84, 85, 86, 87, 88, 89, 90, 91] (by decide +kernel) (by decide +kernel)
set_option maxRecDepth 20000 in
theorem gX4_findPlan_X4_sortByWeight : GoodIn wsX4_findPlan (wsV RX4 55 RX4 yX4_sortByWeight wsX4_sortByWeight) := goodIn_app (goodIn_of _ (by decide +kernel)) ggX4_findPlan_X4_sortByWeight
set_option maxRecDepth 20000 in
theorem ggX4_findPlan_X4_search : GoodIn wsX4_findPlan wsX4_search := goodIn_r _ [59, 7, 8, 60, 61, 62, 63, 64, 65, 11, 6, 9, 66, 67, 68, 15, 69, 55, 22, 70, 71, 72, 56, 57, 58, 73, 10, 41, 42, 43, 81, 82, 83, 84, 85, 86, 87, 88, 89, 90, 91] (by decide +kernel) (by decide +kernel)
set_option maxRecDepth 20000 in
theorem gX4_findPlan_X4_search : GoodIn wsX4_findPlan (wsV RX4 64 RX4 yX4_search wsX4_search) := goodIn_app (goodIn_of _ (by decide +kernel)) ggX4_findPlan_X4_search
theorem dX4_findPlan_0 : decode cX4_findPlan 0 = .ok (.aload_n 0, 1) := by decide +kernel
theorem dX4_findPlan_1 : decode cX4_findPlan 1 = .ok (.iload_n 2, 1) := by decide +kernel
theorem dX4_findPlan_2 : decode cX4_findPlan 2 = .ok (.aload_n 1, 1) := by decide +kernel
theorem dX4_findPlan_3 : decode cX4_findPlan 3 = .ok (.getfield 36, 3) := by decide +kernel
theorem dX4_findPlan_6 : decode cX4_findPlan 6 = .ok (.iconst 2, 1) := by decide +kernel
theorem dX4_findPlan_7 : decode cX4_findPlan 7 = .ok (.idiv, 1) := by decide +kernel
theorem dX4_findPlan_8 : decode cX4_findPlan 8 = .ok (.invokestatic 42, 3) := by decide +kernel
theorem dX4_findPlan_11 : decode cX4_findPlan 11 = .ok (.putfield 48, 3) := by decide +kernel
theorem dX4_findPlan_14 : decode cX4_findPlan 14 = .ok (.aload_n 0, 1) := by decide +kernel
theorem dX4_findPlan_15 : decode cX4_findPlan 15 = .ok (.aload_n 1, 1) := by decide +kernel
theorem dX4_findPlan_16 : decode cX4_findPlan 16 = .ok (.invokevirtual 51, 3) := by decide +kernel
theorem dX4_findPlan_19 : decode cX4_findPlan 19 = .ok (.aload_n 0, 1) := by decide +kernel
theorem dX4_findPlan_20 : decode cX4_findPlan 20 = .ok (.invokevirtual 55, 3) := by decide +kernel
theorem dX4_findPlan_23 : decode cX4_findPlan 23 = .ok (.aload_n 0, 1) := by decide +kernel
theorem dX4_findPlan_24 : decode cX4_findPlan 24 = .ok (.iconst 1, 1) := by decide +kernel
theorem dX4_findPlan_25 : decode cX4_findPlan 25 = .ok (.putfield 58, 3) := by decide +kernel
theorem dX4_findPlan_28 : decode cX4_findPlan 28 = .ok (.iconst 0, 1) := by decide +kernel
theorem dX4_findPlan_29 : decode cX4_findPlan 29 = .ok (.istore_n 3, 1) := by decide +kernel
theorem dX4_findPlan_30 : decode cX4_findPlan 30 = .ok (.iload_n 3, 1) := by decide +kernel
theorem dX4_findPlan_31 : decode cX4_findPlan 31 = .ok (.aload_n 0, 1) := by decide +kernel
theorem dX4_findPlan_32 : decode cX4_findPlan 32 = .ok (.getfield 61, 3) := by decide +kernel
theorem dX4_findPlan_35 : decode cX4_findPlan 35 = .ok (.if_icmp .ge 26, 3) := by decide +kernel
theorem dX4_findPlan_38 : decode cX4_findPlan 38 = .ok (.aload_n 0, 1) := by decide +kernel
theorem dX4_findPlan_39 : decode cX4_findPlan 39 = .ok (.dup, 1) := by decide +kernel
theorem dX4_findPlan_40 : decode cX4_findPlan 40 = .ok (.getfield 58, 3) := by decide +kernel
theorem dX4_findPlan_43 : decode cX4_findPlan 43 = .ok (.iconst 4, 1) := by decide +kernel
theorem dX4_findPlan_44 : decode cX4_findPlan 44 = .ok (.aload_n 0, 1) := by decide +kernel
theorem dX4_findPlan_45 : decode cX4_findPlan 45 = .ok (.getfield 15, 3) := by decide +kernel
theorem dX4_findPlan_48 : decode cX4_findPlan 48 = .ok (.iload_n 3, 1) := by decide +kernel
theorem dX4_findPlan_49 : decode cX4_findPlan 49 = .ok (.iaload, 1) := by decide +kernel
theorem dX4_findPlan_50 : decode cX4_findPlan 50 = .ok (.imul, 1) := by decide +kernel
theorem dX4_findPlan_51 : decode cX4_findPlan 51 = .ok (.iadd, 1) := by decide +kernel
theorem dX4_findPlan_52 : decode cX4_findPlan 52 = .ok (.putfield 58, 3) := by decide +kernel
theorem dX4_findPlan_55 : decode cX4_findPlan 55 = .ok (.iinc 3 1, 3) := by decide +kernel
theorem dX4_findPlan_58 : decode cX4_findPlan 58 = .ok (.goto (-28), 3) := by decide +kernel
theorem dX4_findPlan_61 : decode cX4_findPlan 61 = .ok (.iconst 0, 1) := by decide +kernel
theorem dX4_findPlan_62 : decode cX4_findPlan 62 = .ok (.istore_n 3, 1) := by decide +kernel
theorem dX4_findPlan_63 : decode cX4_findPlan 63 = .ok (.iload_n 3, 1) := by decide +kernel
theorem dX4_findPlan_64 : decode cX4_findPlan 64 = .ok (.iconst 3, 1) := by decide +kernel
theorem dX4_findPlan_65 : decode cX4_findPlan 65 = .ok (.if_icmp .ge 23, 3) := by decide +kernel
theorem dX4_findPlan_68 : decode cX4_findPlan 68 = .ok (.aload_n 0, 1) := by decide +kernel
theorem dX4_findPlan_69 : decode cX4_findPlan 69 = .ok (.getfield 30, 3) := by decide +kernel
theorem dX4_findPlan_72 : decode cX4_findPlan 72 = .ok (.iload_n 3, 1) := by decide +kernel
theorem dX4_findPlan_73 : decode cX4_findPlan 73 = .ok (.iconst 0, 1) := by decide +kernel
theorem dX4_findPlan_74 : decode cX4_findPlan 74 = .ok (.iastore, 1) := by decide +kernel
theorem dX4_findPlan_75 : decode cX4_findPlan 75 = .ok (.aload_n 0, 1) := by decide +kernel
theorem dX4_findPlan_76 : decode cX4_findPlan 76 = .ok (.getfield 33, 3) := by decide +kernel
theorem dX4_findPlan_79 : decode cX4_findPlan 79 = .ok (.iload_n 3, 1) := by decide +kernel
theorem dX4_findPlan_80 : decode cX4_findPlan 80 = .ok (.iconst 0, 1) := by decide +kernel
theorem dX4_findPlan_81 : decode cX4_findPlan 81 = .ok (.iastore, 1) := by decide +kernel
theorem dX4_findPlan_82 : decode cX4_findPlan 82 = .ok (.iinc 3 1, 3) := by decide +kernel
theorem dX4_findPlan_85 : decode cX4_findPlan 85 = .ok (.goto (-22), 3) := by decide +kernel
theorem dX4_findPlan_88 : decode cX4_findPlan 88 = .ok (.aload_n 0, 1) := by decide +kernel
theorem dX4_findPlan_89 : decode cX4_findPlan 89 = .ok (.iconst 0, 1) := by decide +kernel
theorem dX4_findPlan_90 : decode cX4_findPlan 90 = .ok (.iconst 0, 1) := by decide +kernel
theorem dX4_findPlan_91 : decode cX4_findPlan 91 = .ok (.invokevirtual 64, 3) := by decide +kernel
theorem dX4_findPlan_94 : decode cX4_findPlan 94 = .ok (.return_, 1) := by decide +kernel
theorem dX4_seatOf_0 : decode cX4_seatOf 0 = .ok (.iconst 0, 1) := by decide +kernel
theorem dX4_seatOf_1 : decode cX4_seatOf 1 = .ok (.istore_n 2, 1) := by decide +kernel
theorem dX4_seatOf_2 : decode cX4_seatOf 2 = .ok (.iload_n 2, 1) := by decide +kernel
theorem dX4_seatOf_3 : decode cX4_seatOf 3 = .ok (.aload_n 0, 1) := by decide +kernel
theorem dX4_seatOf_4 : decode cX4_seatOf 4 = .ok (.getfield 61, 3) := by decide +kernel
theorem dX4_seatOf_7 : decode cX4_seatOf 7 = .ok (.if_icmp .ge 37, 3) := by decide +kernel
theorem dX4_seatOf_10 : decode cX4_seatOf 10 = .ok (.aload_n 0, 1) := by decide +kernel
theorem dX4_seatOf_11 : decode cX4_seatOf 11 = .ok (.getfield 9, 3) := by decide +kernel
theorem dX4_seatOf_14 : decode cX4_seatOf 14 = .ok (.iload_n 2, 1) := by decide +kernel
theorem dX4_seatOf_15 : decode cX4_seatOf 15 = .ok (.iaload, 1) := by decide +kernel
theorem dX4_seatOf_16 : decode cX4_seatOf 16 = .ok (.iload_n 1, 1) := by decide +kernel
theorem dX4_seatOf_17 : decode cX4_seatOf 17 = .ok (.if_icmp .ne 21, 3) := by decide +kernel
theorem dX4_seatOf_20 : decode cX4_seatOf 20 = .ok (.aload_n 0, 1) := by decide +kernel
theorem dX4_seatOf_21 : decode cX4_seatOf 21 = .ok (.getfield 27, 3) := by decide +kernel
theorem dX4_seatOf_24 : decode cX4_seatOf 24 = .ok (.iload_n 2, 1) := by decide +kernel
theorem dX4_seatOf_25 : decode cX4_seatOf 25 = .ok (.iaload, 1) := by decide +kernel
theorem dX4_seatOf_26 : decode cX4_seatOf 26 = .ok (.bipush 18, 2) := by decide +kernel
theorem dX4_seatOf_28 : decode cX4_seatOf 28 = .ok (.if_icmp .eq 10, 3) := by decide +kernel
theorem dX4_seatOf_31 : decode cX4_seatOf 31 = .ok (.aload_n 0, 1) := by decide +kernel
theorem dX4_seatOf_32 : decode cX4_seatOf 32 = .ok (.getfield 27, 3) := by decide +kernel
theorem dX4_seatOf_35 : decode cX4_seatOf 35 = .ok (.iload_n 2, 1) := by decide +kernel
theorem dX4_seatOf_36 : decode cX4_seatOf 36 = .ok (.iaload, 1) := by decide +kernel
theorem dX4_seatOf_37 : decode cX4_seatOf 37 = .ok (.ireturn, 1) := by decide +kernel
theorem dX4_seatOf_38 : decode cX4_seatOf 38 = .ok (.iinc 2 1, 3) := by decide +kernel
theorem dX4_seatOf_41 : decode cX4_seatOf 41 = .ok (.goto (-39), 3) := by decide +kernel
theorem dX4_seatOf_44 : decode cX4_seatOf 44 = .ok (.bipush (-5), 2) := by decide +kernel
theorem dX4_seatOf_46 : decode cX4_seatOf 46 = .ok (.ireturn, 1) := by decide +kernel
set_option maxRecDepth 20000 in
theorem ggX4_gather_X4_fittingPairs : GoodIn wsX4_gather wsX4_fittingPairs := goodIn_r _ [12, 13, 14, 15, 16, 17, 18, 19, 20, 21, 22, 23, 24, 25, 26, 27, 28, 29, 30, 31, 32, 33, 34, 35, 36, 37, 49, 50, 51, 52, 53, 54, 55, 67, 68, 69, 56, 57, 58, 59, 60, 61, 62, 63, 64, 65, 66, 70, 71] (by decide +kernel) (by decide +kernel)
set_option maxRecDepth 20000 in
theorem gX4_gather_X4_fittingPairs : GoodIn wsX4_gather (va_wsS RX4 83 yX4_fittingPairs wsX4_fittingPairs) := goodIn_app (goodIn_of _ (by decide +kernel)) ggX4_gather_X4_fittingPairs
theorem dX4_gather_0 : decode cX4_gather 0 = .ok (.aload_n 0, 1) := by decide +kernel
theorem dX4_gather_1 : decode cX4_gather 1 = .ok (.iconst 0, 1) := by decide +kernel
theorem dX4_gather_2 : decode cX4_gather 2 = .ok (.putfield 61, 3) := by decide +kernel
theorem dX4_gather_5 : decode cX4_gather 5 = .ok (.iconst 0, 1) := by decide +kernel
theorem dX4_gather_6 : decode cX4_gather 6 = .ok (.istore_n 2, 1) := by decide +kernel
theorem dX4_gather_7 : decode cX4_gather 7 = .ok (.iload_n 2, 1) := by decide +kernel
theorem dX4_gather_8 : decode cX4_gather 8 = .ok (.aload_n 1, 1) := by decide +kernel
theorem dX4_gather_9 : decode cX4_gather 9 = .ok (.getfield 68, 3) := by decide +kernel
theorem dX4_gather_12 : decode cX4_gather 12 = .ok (.if_icmp .ge 78, 3) := by decide +kernel
theorem dX4_gather_15 : decode cX4_gather 15 = .ok (.aload_n 0, 1) := by decide +kernel
theorem dX4_gather_16 : decode cX4_gather 16 = .ok (.getfield 61, 3) := by decide +kernel
theorem dX4_gather_19 : decode cX4_gather 19 = .ok (.iconst 4, 1) := by decide +kernel
theorem dX4_gather_20 : decode cX4_gather 20 = .ok (.if_icmp .ge 70, 3) := by decide +kernel
theorem dX4_gather_23 : decode cX4_gather 23 = .ok (.aload_n 1, 1) := by decide +kernel
theorem dX4_gather_24 : decode cX4_gather 24 = .ok (.getfield 71, 3) := by decide +kernel
theorem dX4_gather_27 : decode cX4_gather 27 = .ok (.iload_n 2, 1) := by decide +kernel
theorem dX4_gather_28 : decode cX4_gather 28 = .ok (.aaload, 1) := by decide +kernel
theorem dX4_gather_29 : decode cX4_gather 29 = .ok (.astore_n 3, 1) := by decide +kernel
theorem dX4_gather_30 : decode cX4_gather 30 = .ok (.aload_n 3, 1) := by decide +kernel
theorem dX4_gather_31 : decode cX4_gather 31 = .ok (.getfield 75, 3) := by decide +kernel
theorem dX4_gather_34 : decode cX4_gather 34 = .ok (.ifCond .ne 50, 3) := by decide +kernel
theorem dX4_gather_37 : decode cX4_gather 37 = .ok (.aload_n 0, 1) := by decide +kernel
theorem dX4_gather_38 : decode cX4_gather 38 = .ok (.getfield 9, 3) := by decide +kernel
theorem dX4_gather_41 : decode cX4_gather 41 = .ok (.aload_n 0, 1) := by decide +kernel
theorem dX4_gather_42 : decode cX4_gather 42 = .ok (.getfield 61, 3) := by decide +kernel
theorem dX4_gather_45 : decode cX4_gather 45 = .ok (.iload_n 2, 1) := by decide +kernel
theorem dX4_gather_46 : decode cX4_gather 46 = .ok (.iastore, 1) := by decide +kernel
theorem dX4_gather_47 : decode cX4_gather 47 = .ok (.aload_n 0, 1) := by decide +kernel
theorem dX4_gather_48 : decode cX4_gather 48 = .ok (.getfield 15, 3) := by decide +kernel
theorem dX4_gather_51 : decode cX4_gather 51 = .ok (.aload_n 0, 1) := by decide +kernel
theorem dX4_gather_52 : decode cX4_gather 52 = .ok (.getfield 61, 3) := by decide +kernel
theorem dX4_gather_55 : decode cX4_gather 55 = .ok (.aload_n 3, 1) := by decide +kernel
theorem dX4_gather_56 : decode cX4_gather 56 = .ok (.getfield 80, 3) := by decide +kernel
theorem dX4_gather_59 : decode cX4_gather 59 = .ok (.iastore, 1) := by decide +kernel
theorem dX4_gather_60 : decode cX4_gather 60 = .ok (.aload_n 0, 1) := by decide +kernel
end
section
theorem dX4_gather_61 : decode cX4_gather 61 = .ok (.getfield 18, 3) := by decide +kernel
theorem dX4_gather_64 : decode cX4_gather 64 = .ok (.aload_n 0, 1) := by decide +kernel
theorem dX4_gather_65 : decode cX4_gather 65 = .ok (.getfield 61, 3) := by decide +kernel
theorem dX4_gather_68 : decode cX4_gather 68 = .ok (.aload_n 1, 1) := by decide +kernel
theorem dX4_gather_69 : decode cX4_gather 69 = .ok (.aload_n 3, 1) := by decide +kernel
theorem dX4_gather_70 : decode cX4_gather 70 = .ok (.invokestatic 83, 3) := by decide +kernel
theorem dX4_gather_73 : decode cX4_gather 73 = .ok (.iastore, 1) := by decide +kernel
theorem dX4_gather_74 : decode cX4_gather 74 = .ok (.aload_n 0, 1) := by decide +kernel
theorem dX4_gather_75 : decode cX4_gather 75 = .ok (.dup, 1) := by decide +kernel
theorem dX4_gather_76 : decode cX4_gather 76 = .ok (.getfield 61, 3) := by decide +kernel
theorem dX4_gather_79 : decode cX4_gather 79 = .ok (.iconst 1, 1) := by decide +kernel
theorem dX4_gather_80 : decode cX4_gather 80 = .ok (.iadd, 1) := by decide +kernel
theorem dX4_gather_81 : decode cX4_gather 81 = .ok (.putfield 61, 3) := by decide +kernel
theorem dX4_gather_84 : decode cX4_gather 84 = .ok (.iinc 2 1, 3) := by decide +kernel
theorem dX4_gather_87 : decode cX4_gather 87 = .ok (.goto (-80), 3) := by decide +kernel
theorem dX4_gather_90 : decode cX4_gather 90 = .ok (.return_, 1) := by decide +kernel
set_option maxRecDepth 20000 in
theorem ggX4_fittingPairs_X1_hasPair : GoodIn wsX4_fittingPairs wsX1_hasPair := goodIn_r _ [5, 6, 26, 27, 28, 29, 30, 31, 32] (by decide +kernel) (by decide +kernel)
set_option maxRecDepth 20000 in
theorem gX4_fittingPairs_X1_hasPair : GoodIn wsX4_fittingPairs (wsV RX4 87 RX1 yX1_hasPair wsX1_hasPair) := goodIn_app (goodIn_of _ (by decide +kernel)) ggX4_fittingPairs_X1_hasPair
set_option maxRecDepth 20000 in
theorem ggX4_fittingPairs_X1_pairFits : GoodIn wsX4_fittingPairs wsX1_pairFits := goodIn_r _ [10, 11, 12, 13, 14, 15, 16, 17, 18, 19, 20, 21, 4, 22, 23, 24, 25, 26, 27, 28, 29, 30, 31, 32, 33, 34, 35, 36, 37, 38, 39, 40, 41, 42, 43, 44, 45, 46, 47, 48] (by decide +kernel) (by decide +kernel)
set_option maxRecDepth 20000 in
theorem gX4_fittingPairs_X1_pairFits : GoodIn wsX4_fittingPairs (wsV RX4 91 RX1 yX1_pairFits wsX1_pairFits) := goodIn_app (goodIn_of _ (by decide +kernel)) ggX4_fittingPairs_X1_pairFits
theorem dX4_fittingPairs_0 : decode cX4_fittingPairs 0 = .ok (.iconst 0, 1) := by decide +kernel
theorem dX4_fittingPairs_1 : decode cX4_fittingPairs 1 = .ok (.istore_n 2, 1) := by decide +kernel
theorem dX4_fittingPairs_2 : decode cX4_fittingPairs 2 = .ok (.iconst 0, 1) := by decide +kernel
theorem dX4_fittingPairs_3 : decode cX4_fittingPairs 3 = .ok (.istore_n 3, 1) := by decide +kernel
theorem dX4_fittingPairs_4 : decode cX4_fittingPairs 4 = .ok (.iload_n 3, 1) := by decide +kernel
theorem dX4_fittingPairs_5 : decode cX4_fittingPairs 5 = .ok (.bipush 6, 2) := by decide +kernel
theorem dX4_fittingPairs_7 : decode cX4_fittingPairs 7 = .ok (.if_icmp .ge 32, 3) := by decide +kernel
theorem dX4_fittingPairs_10 : decode cX4_fittingPairs 10 = .ok (.aload_n 0, 1) := by decide +kernel
theorem dX4_fittingPairs_11 : decode cX4_fittingPairs 11 = .ok (.iload_n 3, 1) := by decide +kernel
theorem dX4_fittingPairs_12 : decode cX4_fittingPairs 12 = .ok (.invokevirtual 87, 3) := by decide +kernel
theorem dX4_fittingPairs_15 : decode cX4_fittingPairs 15 = .ok (.ifCond .eq 18, 3) := by decide +kernel
theorem dX4_fittingPairs_18 : decode cX4_fittingPairs 18 = .ok (.aload_n 0, 1) := by decide +kernel
theorem dX4_fittingPairs_19 : decode cX4_fittingPairs 19 = .ok (.iload_n 3, 1) := by decide +kernel
theorem dX4_fittingPairs_20 : decode cX4_fittingPairs 20 = .ok (.aload_n 1, 1) := by decide +kernel
theorem dX4_fittingPairs_21 : decode cX4_fittingPairs 21 = .ok (.invokevirtual 91, 3) := by decide +kernel
theorem dX4_fittingPairs_24 : decode cX4_fittingPairs 24 = .ok (.ifCond .eq 9, 3) := by decide +kernel
theorem dX4_fittingPairs_27 : decode cX4_fittingPairs 27 = .ok (.iload_n 2, 1) := by decide +kernel
theorem dX4_fittingPairs_28 : decode cX4_fittingPairs 28 = .ok (.iconst 1, 1) := by decide +kernel
theorem dX4_fittingPairs_29 : decode cX4_fittingPairs 29 = .ok (.iload_n 3, 1) := by decide +kernel
theorem dX4_fittingPairs_30 : decode cX4_fittingPairs 30 = .ok (.ishl, 1) := by decide +kernel
theorem dX4_fittingPairs_31 : decode cX4_fittingPairs 31 = .ok (.ior, 1) := by decide +kernel
theorem dX4_fittingPairs_32 : decode cX4_fittingPairs 32 = .ok (.istore_n 2, 1) := by decide +kernel
theorem dX4_fittingPairs_33 : decode cX4_fittingPairs 33 = .ok (.iinc 3 1, 3) := by decide +kernel
theorem dX4_fittingPairs_36 : decode cX4_fittingPairs 36 = .ok (.goto (-32), 3) := by decide +kernel
theorem dX4_fittingPairs_39 : decode cX4_fittingPairs 39 = .ok (.iload_n 2, 1) := by decide +kernel
theorem dX4_fittingPairs_40 : decode cX4_fittingPairs 40 = .ok (.ireturn, 1) := by decide +kernel
theorem dX4_sortByWeight_0 : decode cX4_sortByWeight 0 = .ok (.iconst 0, 1) := by decide +kernel
theorem dX4_sortByWeight_1 : decode cX4_sortByWeight 1 = .ok (.istore_n 1, 1) := by decide +kernel
theorem dX4_sortByWeight_2 : decode cX4_sortByWeight 2 = .ok (.iload_n 1, 1) := by decide +kernel
theorem dX4_sortByWeight_3 : decode cX4_sortByWeight 3 = .ok (.aload_n 0, 1) := by decide +kernel
theorem dX4_sortByWeight_4 : decode cX4_sortByWeight 4 = .ok (.getfield 61, 3) := by decide +kernel
theorem dX4_sortByWeight_7 : decode cX4_sortByWeight 7 = .ok (.if_icmp .ge 64, 3) := by decide +kernel
theorem dX4_sortByWeight_10 : decode cX4_sortByWeight 10 = .ok (.iload_n 1, 1) := by decide +kernel
theorem dX4_sortByWeight_11 : decode cX4_sortByWeight 11 = .ok (.istore_n 2, 1) := by decide +kernel
theorem dX4_sortByWeight_12 : decode cX4_sortByWeight 12 = .ok (.iload_n 2, 1) := by decide +kernel
theorem dX4_sortByWeight_13 : decode cX4_sortByWeight 13 = .ok (.ifCond .le 45, 3) := by decide +kernel
theorem dX4_sortByWeight_16 : decode cX4_sortByWeight 16 = .ok (.aload_n 0, 1) := by decide +kernel
theorem dX4_sortByWeight_17 : decode cX4_sortByWeight 17 = .ok (.getfield 15, 3) := by decide +kernel
theorem dX4_sortByWeight_20 : decode cX4_sortByWeight 20 = .ok (.aload_n 0, 1) := by decide +kernel
theorem dX4_sortByWeight_21 : decode cX4_sortByWeight 21 = .ok (.getfield 21, 3) := by decide +kernel
theorem dX4_sortByWeight_24 : decode cX4_sortByWeight 24 = .ok (.iload_n 2, 1) := by decide +kernel
theorem dX4_sortByWeight_25 : decode cX4_sortByWeight 25 = .ok (.iconst 1, 1) := by decide +kernel
theorem dX4_sortByWeight_26 : decode cX4_sortByWeight 26 = .ok (.isub, 1) := by decide +kernel
theorem dX4_sortByWeight_27 : decode cX4_sortByWeight 27 = .ok (.iaload, 1) := by decide +kernel
theorem dX4_sortByWeight_28 : decode cX4_sortByWeight 28 = .ok (.iaload, 1) := by decide +kernel
theorem dX4_sortByWeight_29 : decode cX4_sortByWeight 29 = .ok (.aload_n 0, 1) := by decide +kernel
theorem dX4_sortByWeight_30 : decode cX4_sortByWeight 30 = .ok (.getfield 15, 3) := by decide +kernel
theorem dX4_sortByWeight_33 : decode cX4_sortByWeight 33 = .ok (.iload_n 1, 1) := by decide +kernel
theorem dX4_sortByWeight_34 : decode cX4_sortByWeight 34 = .ok (.iaload, 1) := by decide +kernel
theorem dX4_sortByWeight_35 : decode cX4_sortByWeight 35 = .ok (.if_icmp .ge 23, 3) := by decide +kernel
theorem dX4_sortByWeight_38 : decode cX4_sortByWeight 38 = .ok (.aload_n 0, 1) := by decide +kernel
theorem dX4_sortByWeight_39 : decode cX4_sortByWeight 39 = .ok (.getfield 21, 3) := by decide +kernel
theorem dX4_sortByWeight_42 : decode cX4_sortByWeight 42 = .ok (.iload_n 2, 1) := by decide +kernel
theorem dX4_sortByWeight_43 : decode cX4_sortByWeight 43 = .ok (.aload_n 0, 1) := by decide +kernel
theorem dX4_sortByWeight_44 : decode cX4_sortByWeight 44 = .ok (.getfield 21, 3) := by decide +kernel
theorem dX4_sortByWeight_47 : decode cX4_sortByWeight 47 = .ok (.iload_n 2, 1) := by decide +kernel
theorem dX4_sortByWeight_48 : decode cX4_sortByWeight 48 = .ok (.iconst 1, 1) := by decide +kernel
theorem dX4_sortByWeight_49 : decode cX4_sortByWeight 49 = .ok (.isub, 1) := by decide +kernel
theorem dX4_sortByWeight_50 : decode cX4_sortByWeight 50 = .ok (.iaload, 1) := by decide +kernel
theorem dX4_sortByWeight_51 : decode cX4_sortByWeight 51 = .ok (.iastore, 1) := by decide +kernel
theorem dX4_sortByWeight_52 : decode cX4_sortByWeight 52 = .ok (.iinc 2 (-1), 3) := by decide +kernel
theorem dX4_sortByWeight_55 : decode cX4_sortByWeight 55 = .ok (.goto (-43), 3) := by decide +kernel
theorem dX4_sortByWeight_58 : decode cX4_sortByWeight 58 = .ok (.aload_n 0, 1) := by decide +kernel
theorem dX4_sortByWeight_59 : decode cX4_sortByWeight 59 = .ok (.getfield 21, 3) := by decide +kernel
theorem dX4_sortByWeight_62 : decode cX4_sortByWeight 62 = .ok (.iload_n 2, 1) := by decide +kernel
theorem dX4_sortByWeight_63 : decode cX4_sortByWeight 63 = .ok (.iload_n 1, 1) := by decide +kernel
theorem dX4_sortByWeight_64 : decode cX4_sortByWeight 64 = .ok (.iastore, 1) := by decide +kernel
theorem dX4_sortByWeight_65 : decode cX4_sortByWeight 65 = .ok (.iinc 1 1, 3) := by decide +kernel
theorem dX4_sortByWeight_68 : decode cX4_sortByWeight 68 = .ok (.goto (-66), 3) := by decide +kernel
theorem dX4_sortByWeight_71 : decode cX4_sortByWeight 71 = .ok (.return_, 1) := by decide +kernel
set_option maxRecDepth 20000 in
theorem ggX4_search_X4_leastBehind : GoodIn wsX4_search wsX4_leastBehind := goodIn_r _ [16, 9, 2, 17, 10, 18, 11, 30, 31, 32, 33, 34, 35, 36, 37, 38, 39, 40] (by decide +kernel) (by decide +kernel)
set_option maxRecDepth 20000 in
theorem gX4_search_X4_leastBehind : GoodIn wsX4_search (wsV RX4 95 RX4 yX4_leastBehind wsX4_leastBehind) := goodIn_app (goodIn_of _ (by decide +kernel)) ggX4_search_X4_leastBehind
set_option maxRecDepth 20000 in
theorem ggX4_search_X4_searchDay : GoodIn wsX4_search wsX4_searchDay := goodIn_r _ [25, 18, 26, 3, 9, 27, 28, 29, 22, 23, 24, 15, 0, 1, 2, 4, 5, 6, 7, 8, 10, 11, 12, 13, 14, 16, 17, 19, 20, 21, 30, 31, 32, 33, 34, 35, 36, 37, 38, 39, 40] (by decide +kernel) (by decide +kernel)
set_option maxRecDepth 20000 in
theorem gX4_search_X4_searchDay : GoodIn wsX4_search (wsV RX4 105 RX4 yX4_searchDay wsX4_searchDay) := goodIn_app (goodIn_of _ (by decide +kernel)) ggX4_search_X4_searchDay
set_option maxRecDepth 20000 in
theorem ggX4_search_X4_search : GoodIn wsX4_search wsX4_search := goodIn_r _ [0, 1, 2, 3, 4, 5, 6, 7, 8, 9, 10, 11, 12, 13, 14, 15, 16, 17, 18, 19, 20, 21, 22, 23, 24, 25, 26, 27, 28, 29, 30, 31, 32, 33, 34, 35, 36, 37, 38, 39, 40] (by decide +kernel) (by decide +kernel)
set_option maxRecDepth 20000 in
theorem gX4_search_X4_search : GoodIn wsX4_search (wsV RX4 64 RX4 yX4_search wsX4_search) := goodIn_app (goodIn_of _ (by decide +kernel)) ggX4_search_X4_search
theorem dX4_search_0 : decode cX4_search 0 = .ok (.iload_n 2, 1) := by decide +kernel
theorem dX4_search_1 : decode cX4_search 1 = .ok (.aload_n 0, 1) := by decide +kernel
theorem dX4_search_2 : decode cX4_search 2 = .ok (.iload_n 1, 1) := by decide +kernel
theorem dX4_search_3 : decode cX4_search 3 = .ok (.invokevirtual 95, 3) := by decide +kernel
theorem dX4_search_6 : decode cX4_search 6 = .ok (.iadd, 1) := by decide +kernel
theorem dX4_search_7 : decode cX4_search 7 = .ok (.aload_n 0, 1) := by decide +kernel
theorem dX4_search_8 : decode cX4_search 8 = .ok (.getfield 58, 3) := by decide +kernel
theorem dX4_search_11 : decode cX4_search 11 = .ok (.if_icmp .lt 4, 3) := by decide +kernel
theorem dX4_search_14 : decode cX4_search 14 = .ok (.return_, 1) := by decide +kernel
theorem dX4_search_15 : decode cX4_search 15 = .ok (.iload_n 1, 1) := by decide +kernel
theorem dX4_search_16 : decode cX4_search 16 = .ok (.aload_n 0, 1) := by decide +kernel
theorem dX4_search_17 : decode cX4_search 17 = .ok (.getfield 61, 3) := by decide +kernel
theorem dX4_search_20 : decode cX4_search 20 = .ok (.if_icmp .lt 26, 3) := by decide +kernel
theorem dX4_search_23 : decode cX4_search 23 = .ok (.aload_n 0, 1) := by decide +kernel
theorem dX4_search_24 : decode cX4_search 24 = .ok (.iload_n 2, 1) := by decide +kernel
theorem dX4_search_25 : decode cX4_search 25 = .ok (.putfield 58, 3) := by decide +kernel
theorem dX4_search_28 : decode cX4_search 28 = .ok (.aload_n 0, 1) := by decide +kernel
theorem dX4_search_29 : decode cX4_search 29 = .ok (.getfield 24, 3) := by decide +kernel
theorem dX4_search_32 : decode cX4_search 32 = .ok (.iconst 0, 1) := by decide +kernel
theorem dX4_search_33 : decode cX4_search 33 = .ok (.aload_n 0, 1) := by decide +kernel
theorem dX4_search_34 : decode cX4_search 34 = .ok (.getfield 27, 3) := by decide +kernel
theorem dX4_search_37 : decode cX4_search 37 = .ok (.iconst 0, 1) := by decide +kernel
theorem dX4_search_38 : decode cX4_search 38 = .ok (.aload_n 0, 1) := by decide +kernel
theorem dX4_search_39 : decode cX4_search 39 = .ok (.getfield 61, 3) := by decide +kernel
theorem dX4_search_42 : decode cX4_search 42 = .ok (.invokestatic 99, 3) := by decide +kernel
theorem dX4_search_45 : decode cX4_search 45 = .ok (.return_, 1) := by decide +kernel
theorem dX4_search_46 : decode cX4_search 46 = .ok (.iconst 0, 1) := by decide +kernel
theorem dX4_search_47 : decode cX4_search 47 = .ok (.istore_n 3, 1) := by decide +kernel
theorem dX4_search_48 : decode cX4_search 48 = .ok (.iload_n 3, 1) := by decide +kernel
theorem dX4_search_49 : decode cX4_search 49 = .ok (.iconst 3, 1) := by decide +kernel
theorem dX4_search_50 : decode cX4_search 50 = .ok (.if_icmp .ge 38, 3) := by decide +kernel
theorem dX4_search_53 : decode cX4_search 53 = .ok (.aload_n 0, 1) := by decide +kernel
theorem dX4_search_54 : decode cX4_search 54 = .ok (.getfield 33, 3) := by decide +kernel
theorem dX4_search_57 : decode cX4_search 57 = .ok (.iload_n 3, 1) := by decide +kernel
theorem dX4_search_58 : decode cX4_search 58 = .ok (.iaload, 1) := by decide +kernel
theorem dX4_search_59 : decode cX4_search 59 = .ok (.aload_n 0, 1) := by decide +kernel
theorem dX4_search_60 : decode cX4_search 60 = .ok (.getfield 48, 3) := by decide +kernel
theorem dX4_search_63 : decode cX4_search 63 = .ok (.if_icmp .ge 19, 3) := by decide +kernel
theorem dX4_search_66 : decode cX4_search 66 = .ok (.aload_n 0, 1) := by decide +kernel
theorem dX4_search_67 : decode cX4_search 67 = .ok (.iload_n 1, 1) := by decide +kernel
theorem dX4_search_68 : decode cX4_search 68 = .ok (.iload_n 2, 1) := by decide +kernel
theorem dX4_search_69 : decode cX4_search 69 = .ok (.aload_n 0, 1) := by decide +kernel
theorem dX4_search_70 : decode cX4_search 70 = .ok (.getfield 15, 3) := by decide +kernel
theorem dX4_search_73 : decode cX4_search 73 = .ok (.iload_n 1, 1) := by decide +kernel
theorem dX4_search_74 : decode cX4_search 74 = .ok (.iaload, 1) := by decide +kernel
theorem dX4_search_75 : decode cX4_search 75 = .ok (.iload_n 3, 1) := by decide +kernel
theorem dX4_search_76 : decode cX4_search 76 = .ok (.imul, 1) := by decide +kernel
theorem dX4_search_77 : decode cX4_search 77 = .ok (.iadd, 1) := by decide +kernel
theorem dX4_search_78 : decode cX4_search 78 = .ok (.iload_n 3, 1) := by decide +kernel
theorem dX4_search_79 : decode cX4_search 79 = .ok (.invokevirtual 105, 3) := by decide +kernel
theorem dX4_search_82 : decode cX4_search 82 = .ok (.iinc 3 1, 3) := by decide +kernel
theorem dX4_search_85 : decode cX4_search 85 = .ok (.goto (-37), 3) := by decide +kernel
theorem dX4_search_88 : decode cX4_search 88 = .ok (.aload_n 0, 1) := by decide +kernel
theorem dX4_search_89 : decode cX4_search 89 = .ok (.getfield 24, 3) := by decide +kernel
theorem dX4_search_92 : decode cX4_search 92 = .ok (.iload_n 1, 1) := by decide +kernel
theorem dX4_search_93 : decode cX4_search 93 = .ok (.bipush 18, 2) := by decide +kernel
theorem dX4_search_95 : decode cX4_search 95 = .ok (.iastore, 1) := by decide +kernel
theorem dX4_search_96 : decode cX4_search 96 = .ok (.aload_n 0, 1) := by decide +kernel
theorem dX4_search_97 : decode cX4_search 97 = .ok (.iload_n 1, 1) := by decide +kernel
theorem dX4_search_98 : decode cX4_search 98 = .ok (.iconst 1, 1) := by decide +kernel
theorem dX4_search_99 : decode cX4_search 99 = .ok (.iadd, 1) := by decide +kernel
theorem dX4_search_100 : decode cX4_search 100 = .ok (.iload_n 2, 1) := by decide +kernel
theorem dX4_search_101 : decode cX4_search 101 = .ok (.aload_n 0, 1) := by decide +kernel
theorem dX4_search_102 : decode cX4_search 102 = .ok (.getfield 15, 3) := by decide +kernel
theorem dX4_search_105 : decode cX4_search 105 = .ok (.iload_n 1, 1) := by decide +kernel
theorem dX4_search_106 : decode cX4_search 106 = .ok (.iaload, 1) := by decide +kernel
theorem dX4_search_107 : decode cX4_search 107 = .ok (.iconst 4, 1) := by decide +kernel
theorem dX4_search_108 : decode cX4_search 108 = .ok (.imul, 1) := by decide +kernel
theorem dX4_search_109 : decode cX4_search 109 = .ok (.iadd, 1) := by decide +kernel
theorem dX4_search_110 : decode cX4_search 110 = .ok (.invokevirtual 64, 3) := by decide +kernel
theorem dX4_search_113 : decode cX4_search 113 = .ok (.return_, 1) := by decide +kernel
set_option maxRecDepth 20000 in
theorem ggX4_searchDay_X7_hasBit : GoodIn wsX4_searchDay wsX7_hasBit := goodIn_r _ [7] (by decide +kernel) (by decide +kernel)
set_option maxRecDepth 20000 in
theorem gX4_searchDay_X7_hasBit_n115 : GoodIn wsX4_searchDay (wsX7_hasBit) := ggX4_searchDay_X7_hasBit
set_option maxRecDepth 20000 in
theorem ggX4_searchDay_X4_search : GoodIn wsX4_searchDay wsX4_search := goodIn_r _ [12, 13, 14, 3, 15, 16, 17, 18, 19, 4, 20, 21, 22, 23, 24, 11, 25, 26, 1, 27, 28, 29, 8, 9, 10, 0, 2, 5, 6, 7, 30, 31, 32, 33, 34, 35, 36, 37, 38, 39, 40] (by decide +kernel) (by decide +kernel)
set_option maxRecDepth 20000 in
theorem gX4_searchDay_X4_search : GoodIn wsX4_searchDay (wsV RX4 64 RX4 yX4_search wsX4_search) := goodIn_app (goodIn_of _ (by decide +kernel)) ggX4_searchDay_X4_search
theorem dX4_searchDay_0 : decode cX4_searchDay 0 = .ok (.iconst 0, 1) := by decide +kernel
theorem dX4_searchDay_1 : decode cX4_searchDay 1 = .ok (.istore 4, 2) := by decide +kernel
theorem dX4_searchDay_3 : decode cX4_searchDay 3 = .ok (.iload 4, 2) := by decide +kernel
theorem dX4_searchDay_5 : decode cX4_searchDay 5 = .ok (.bipush 6, 2) := by decide +kernel
theorem dX4_searchDay_7 : decode cX4_searchDay 7 = .ok (.if_icmp .ge 117, 3) := by decide +kernel
theorem dX4_searchDay_10 : decode cX4_searchDay 10 = .ok (.iconst 1, 1) := by decide +kernel
theorem dX4_searchDay_11 : decode cX4_searchDay 11 = .ok (.getstatic 109, 3) := by decide +kernel
theorem dX4_searchDay_14 : decode cX4_searchDay 14 = .ok (.iload 4, 2) := by decide +kernel
theorem dX4_searchDay_16 : decode cX4_searchDay 16 = .ok (.iaload, 1) := by decide +kernel
theorem dX4_searchDay_17 : decode cX4_searchDay 17 = .ok (.ishl, 1) := by decide +kernel
theorem dX4_searchDay_18 : decode cX4_searchDay 18 = .ok (.iconst 1, 1) := by decide +kernel
theorem dX4_searchDay_19 : decode cX4_searchDay 19 = .ok (.getstatic 112, 3) := by decide +kernel
theorem dX4_searchDay_22 : decode cX4_searchDay 22 = .ok (.iload 4, 2) := by decide +kernel
theorem dX4_searchDay_24 : decode cX4_searchDay 24 = .ok (.iaload, 1) := by decide +kernel
theorem dX4_searchDay_25 : decode cX4_searchDay 25 = .ok (.ishl, 1) := by decide +kernel
theorem dX4_searchDay_26 : decode cX4_searchDay 26 = .ok (.ior, 1) := by decide +kernel
theorem dX4_searchDay_27 : decode cX4_searchDay 27 = .ok (.istore 5, 2) := by decide +kernel
theorem dX4_searchDay_29 : decode cX4_searchDay 29 = .ok (.aload_n 0, 1) := by decide +kernel
theorem dX4_searchDay_30 : decode cX4_searchDay 30 = .ok (.getfield 18, 3) := by decide +kernel
theorem dX4_searchDay_33 : decode cX4_searchDay 33 = .ok (.iload_n 1, 1) := by decide +kernel
theorem dX4_searchDay_34 : decode cX4_searchDay 34 = .ok (.iaload, 1) := by decide +kernel
theorem dX4_searchDay_35 : decode cX4_searchDay 35 = .ok (.iload 4, 2) := by decide +kernel
theorem dX4_searchDay_37 : decode cX4_searchDay 37 = .ok (.invokestatic 115, 3) := by decide +kernel
theorem dX4_searchDay_40 : decode cX4_searchDay 40 = .ok (.ifCond .eq 78, 3) := by decide +kernel
theorem dX4_searchDay_43 : decode cX4_searchDay 43 = .ok (.aload_n 0, 1) := by decide +kernel
theorem dX4_searchDay_44 : decode cX4_searchDay 44 = .ok (.getfield 30, 3) := by decide +kernel
theorem dX4_searchDay_47 : decode cX4_searchDay 47 = .ok (.iload_n 3, 1) := by decide +kernel
theorem dX4_searchDay_48 : decode cX4_searchDay 48 = .ok (.iaload, 1) := by decide +kernel
theorem dX4_searchDay_49 : decode cX4_searchDay 49 = .ok (.iload 5, 2) := by decide +kernel
theorem dX4_searchDay_51 : decode cX4_searchDay 51 = .ok (.iand, 1) := by decide +kernel
theorem dX4_searchDay_52 : decode cX4_searchDay 52 = .ok (.ifCond .ne 66, 3) := by decide +kernel
theorem dX4_searchDay_55 : decode cX4_searchDay 55 = .ok (.aload_n 0, 1) := by decide +kernel
theorem dX4_searchDay_56 : decode cX4_searchDay 56 = .ok (.getfield 24, 3) := by decide +kernel
theorem dX4_searchDay_59 : decode cX4_searchDay 59 = .ok (.iload_n 1, 1) := by decide +kernel
theorem dX4_searchDay_60 : decode cX4_searchDay 60 = .ok (.bipush 6, 2) := by decide +kernel
theorem dX4_searchDay_62 : decode cX4_searchDay 62 = .ok (.iload_n 3, 1) := by decide +kernel
theorem dX4_searchDay_63 : decode cX4_searchDay 63 = .ok (.imul, 1) := by decide +kernel
theorem dX4_searchDay_64 : decode cX4_searchDay 64 = .ok (.iload 4, 2) := by decide +kernel
theorem dX4_searchDay_66 : decode cX4_searchDay 66 = .ok (.iadd, 1) := by decide +kernel
theorem dX4_searchDay_67 : decode cX4_searchDay 67 = .ok (.iastore, 1) := by decide +kernel
theorem dX4_searchDay_68 : decode cX4_searchDay 68 = .ok (.aload_n 0, 1) := by decide +kernel
theorem dX4_searchDay_69 : decode cX4_searchDay 69 = .ok (.getfield 30, 3) := by decide +kernel
theorem dX4_searchDay_72 : decode cX4_searchDay 72 = .ok (.iload_n 3, 1) := by decide +kernel
theorem dX4_searchDay_73 : decode cX4_searchDay 73 = .ok (.dup2, 1) := by decide +kernel
theorem dX4_searchDay_74 : decode cX4_searchDay 74 = .ok (.iaload, 1) := by decide +kernel
theorem dX4_searchDay_75 : decode cX4_searchDay 75 = .ok (.iload 5, 2) := by decide +kernel
theorem dX4_searchDay_77 : decode cX4_searchDay 77 = .ok (.ior, 1) := by decide +kernel
theorem dX4_searchDay_78 : decode cX4_searchDay 78 = .ok (.iastore, 1) := by decide +kernel
theorem dX4_searchDay_79 : decode cX4_searchDay 79 = .ok (.aload_n 0, 1) := by decide +kernel
theorem dX4_searchDay_80 : decode cX4_searchDay 80 = .ok (.getfield 33, 3) := by decide +kernel
theorem dX4_searchDay_83 : decode cX4_searchDay 83 = .ok (.iload_n 3, 1) := by decide +kernel
theorem dX4_searchDay_84 : decode cX4_searchDay 84 = .ok (.dup2, 1) := by decide +kernel
theorem dX4_searchDay_85 : decode cX4_searchDay 85 = .ok (.iaload, 1) := by decide +kernel
theorem dX4_searchDay_86 : decode cX4_searchDay 86 = .ok (.iconst 1, 1) := by decide +kernel
theorem dX4_searchDay_87 : decode cX4_searchDay 87 = .ok (.iadd, 1) := by decide +kernel
theorem dX4_searchDay_88 : decode cX4_searchDay 88 = .ok (.iastore, 1) := by decide +kernel
theorem dX4_searchDay_89 : decode cX4_searchDay 89 = .ok (.aload_n 0, 1) := by decide +kernel
theorem dX4_searchDay_90 : decode cX4_searchDay 90 = .ok (.iload_n 1, 1) := by decide +kernel
theorem dX4_searchDay_91 : decode cX4_searchDay 91 = .ok (.iconst 1, 1) := by decide +kernel
theorem dX4_searchDay_92 : decode cX4_searchDay 92 = .ok (.iadd, 1) := by decide +kernel
theorem dX4_searchDay_93 : decode cX4_searchDay 93 = .ok (.iload_n 2, 1) := by decide +kernel
theorem dX4_searchDay_94 : decode cX4_searchDay 94 = .ok (.invokevirtual 64, 3) := by decide +kernel
theorem dX4_searchDay_97 : decode cX4_searchDay 97 = .ok (.aload_n 0, 1) := by decide +kernel
theorem dX4_searchDay_98 : decode cX4_searchDay 98 = .ok (.getfield 33, 3) := by decide +kernel
theorem dX4_searchDay_101 : decode cX4_searchDay 101 = .ok (.iload_n 3, 1) := by decide +kernel
theorem dX4_searchDay_102 : decode cX4_searchDay 102 = .ok (.dup2, 1) := by decide +kernel
theorem dX4_searchDay_103 : decode cX4_searchDay 103 = .ok (.iaload, 1) := by decide +kernel
theorem dX4_searchDay_104 : decode cX4_searchDay 104 = .ok (.iconst 1, 1) := by decide +kernel
theorem dX4_searchDay_105 : decode cX4_searchDay 105 = .ok (.isub, 1) := by decide +kernel
theorem dX4_searchDay_106 : decode cX4_searchDay 106 = .ok (.iastore, 1) := by decide +kernel
theorem dX4_searchDay_107 : decode cX4_searchDay 107 = .ok (.aload_n 0, 1) := by decide +kernel
theorem dX4_searchDay_108 : decode cX4_searchDay 108 = .ok (.getfield 30, 3) := by decide +kernel
theorem dX4_searchDay_111 : decode cX4_searchDay 111 = .ok (.iload_n 3, 1) := by decide +kernel
theorem dX4_searchDay_112 : decode cX4_searchDay 112 = .ok (.dup2, 1) := by decide +kernel
theorem dX4_searchDay_113 : decode cX4_searchDay 113 = .ok (.iaload, 1) := by decide +kernel
theorem dX4_searchDay_114 : decode cX4_searchDay 114 = .ok (.iload 5, 2) := by decide +kernel
theorem dX4_searchDay_116 : decode cX4_searchDay 116 = .ok (.ixor, 1) := by decide +kernel
theorem dX4_searchDay_117 : decode cX4_searchDay 117 = .ok (.iastore, 1) := by decide +kernel
theorem dX4_searchDay_118 : decode cX4_searchDay 118 = .ok (.iinc 4 1, 3) := by decide +kernel
theorem dX4_searchDay_121 : decode cX4_searchDay 121 = .ok (.goto (-118), 3) := by decide +kernel
theorem dX4_searchDay_124 : decode cX4_searchDay 124 = .ok (.return_, 1) := by decide +kernel
theorem dX4_leastBehind_0 : decode cX4_leastBehind 0 = .ok (.iconst 0, 1) := by decide +kernel
theorem dX4_leastBehind_1 : decode cX4_leastBehind 1 = .ok (.istore_n 2, 1) := by decide +kernel
theorem dX4_leastBehind_2 : decode cX4_leastBehind 2 = .ok (.iconst 0, 1) := by decide +kernel
theorem dX4_leastBehind_3 : decode cX4_leastBehind 3 = .ok (.istore_n 3, 1) := by decide +kernel
theorem dX4_leastBehind_4 : decode cX4_leastBehind 4 = .ok (.aload_n 0, 1) := by decide +kernel
theorem dX4_leastBehind_5 : decode cX4_leastBehind 5 = .ok (.getfield 33, 3) := by decide +kernel
theorem dX4_leastBehind_8 : decode cX4_leastBehind 8 = .ok (.iconst 0, 1) := by decide +kernel
theorem dX4_leastBehind_9 : decode cX4_leastBehind 9 = .ok (.iaload, 1) := by decide +kernel
theorem dX4_leastBehind_10 : decode cX4_leastBehind 10 = .ok (.istore 4, 2) := by decide +kernel
theorem dX4_leastBehind_12 : decode cX4_leastBehind 12 = .ok (.iconst 0, 1) := by decide +kernel
theorem dX4_leastBehind_13 : decode cX4_leastBehind 13 = .ok (.istore 5, 2) := by decide +kernel
theorem dX4_leastBehind_15 : decode cX4_leastBehind 15 = .ok (.iload 5, 2) := by decide +kernel
theorem dX4_leastBehind_17 : decode cX4_leastBehind 17 = .ok (.aload_n 0, 1) := by decide +kernel
theorem dX4_leastBehind_18 : decode cX4_leastBehind 18 = .ok (.getfield 61, 3) := by decide +kernel
theorem dX4_leastBehind_21 : decode cX4_leastBehind 21 = .ok (.if_icmp .ge 119, 3) := by decide +kernel
theorem dX4_leastBehind_24 : decode cX4_leastBehind 24 = .ok (.aload_n 0, 1) := by decide +kernel
theorem dX4_leastBehind_25 : decode cX4_leastBehind 25 = .ok (.getfield 21, 3) := by decide +kernel
theorem dX4_leastBehind_28 : decode cX4_leastBehind 28 = .ok (.iload 5, 2) := by decide +kernel
theorem dX4_leastBehind_30 : decode cX4_leastBehind 30 = .ok (.iaload, 1) := by decide +kernel
theorem dX4_leastBehind_31 : decode cX4_leastBehind 31 = .ok (.istore 6, 2) := by decide +kernel
theorem dX4_leastBehind_33 : decode cX4_leastBehind 33 = .ok (.iload 6, 2) := by decide +kernel
theorem dX4_leastBehind_35 : decode cX4_leastBehind 35 = .ok (.iload_n 1, 1) := by decide +kernel
theorem dX4_leastBehind_36 : decode cX4_leastBehind 36 = .ok (.if_icmp .lt 98, 3) := by decide +kernel
theorem dX4_leastBehind_39 : decode cX4_leastBehind 39 = .ok (.iload_n 3, 1) := by decide +kernel
theorem dX4_leastBehind_40 : decode cX4_leastBehind 40 = .ok (.iconst 3, 1) := by decide +kernel
theorem dX4_leastBehind_41 : decode cX4_leastBehind 41 = .ok (.if_icmp .ge 35, 3) := by decide +kernel
theorem dX4_leastBehind_44 : decode cX4_leastBehind 44 = .ok (.iload 4, 2) := by decide +kernel
theorem dX4_leastBehind_46 : decode cX4_leastBehind 46 = .ok (.aload_n 0, 1) := by decide +kernel
theorem dX4_leastBehind_47 : decode cX4_leastBehind 47 = .ok (.getfield 48, 3) := by decide +kernel
theorem dX4_leastBehind_50 : decode cX4_leastBehind 50 = .ok (.if_icmp .lt 26, 3) := by decide +kernel
theorem dX4_leastBehind_53 : decode cX4_leastBehind 53 = .ok (.iinc 3 1, 3) := by decide +kernel
theorem dX4_leastBehind_56 : decode cX4_leastBehind 56 = .ok (.iload_n 3, 1) := by decide +kernel
theorem dX4_leastBehind_57 : decode cX4_leastBehind 57 = .ok (.iconst 3, 1) := by decide +kernel
theorem dX4_leastBehind_58 : decode cX4_leastBehind 58 = .ok (.if_icmp .ge 12, 3) := by decide +kernel
theorem dX4_leastBehind_61 : decode cX4_leastBehind 61 = .ok (.aload_n 0, 1) := by decide +kernel
theorem dX4_leastBehind_62 : decode cX4_leastBehind 62 = .ok (.getfield 33, 3) := by decide +kernel
theorem dX4_leastBehind_65 : decode cX4_leastBehind 65 = .ok (.iload_n 3, 1) := by decide +kernel
theorem dX4_leastBehind_66 : decode cX4_leastBehind 66 = .ok (.iaload, 1) := by decide +kernel
theorem dX4_leastBehind_67 : decode cX4_leastBehind 67 = .ok (.goto 4, 3) := by decide +kernel
theorem dX4_leastBehind_70 : decode cX4_leastBehind 70 = .ok (.iconst 0, 1) := by decide +kernel
theorem dX4_leastBehind_71 : decode cX4_leastBehind 71 = .ok (.istore 4, 2) := by decide +kernel
theorem dX4_leastBehind_73 : decode cX4_leastBehind 73 = .ok (.goto (-34), 3) := by decide +kernel
theorem dX4_leastBehind_76 : decode cX4_leastBehind 76 = .ok (.iload_n 3, 1) := by decide +kernel
theorem dX4_leastBehind_77 : decode cX4_leastBehind 77 = .ok (.iconst 3, 1) := by decide +kernel
theorem dX4_leastBehind_78 : decode cX4_leastBehind 78 = .ok (.if_icmp .ge 17, 3) := by decide +kernel
theorem dX4_leastBehind_81 : decode cX4_leastBehind 81 = .ok (.aload_n 0, 1) := by decide +kernel
theorem dX4_leastBehind_82 : decode cX4_leastBehind 82 = .ok (.getfield 18, 3) := by decide +kernel
theorem dX4_leastBehind_85 : decode cX4_leastBehind 85 = .ok (.iload 6, 2) := by decide +kernel
theorem dX4_leastBehind_87 : decode cX4_leastBehind 87 = .ok (.iaload, 1) := by decide +kernel
theorem dX4_leastBehind_88 : decode cX4_leastBehind 88 = .ok (.ifCond .eq 7, 3) := by decide +kernel
theorem dX4_leastBehind_91 : decode cX4_leastBehind 91 = .ok (.iconst 1, 1) := by decide +kernel
theorem dX4_leastBehind_92 : decode cX4_leastBehind 92 = .ok (.goto 4, 3) := by decide +kernel
theorem dX4_leastBehind_95 : decode cX4_leastBehind 95 = .ok (.iconst 0, 1) := by decide +kernel
theorem dX4_leastBehind_96 : decode cX4_leastBehind 96 = .ok (.istore 7, 2) := by decide +kernel
theorem dX4_leastBehind_98 : decode cX4_leastBehind 98 = .ok (.iload_n 2, 1) := by decide +kernel
theorem dX4_leastBehind_99 : decode cX4_leastBehind 99 = .ok (.aload_n 0, 1) := by decide +kernel
theorem dX4_leastBehind_100 : decode cX4_leastBehind 100 = .ok (.getfield 15, 3) := by decide +kernel
theorem dX4_leastBehind_103 : decode cX4_leastBehind 103 = .ok (.iload 6, 2) := by decide +kernel
theorem dX4_leastBehind_105 : decode cX4_leastBehind 105 = .ok (.iaload, 1) := by decide +kernel
theorem dX4_leastBehind_106 : decode cX4_leastBehind 106 = .ok (.iload 7, 2) := by decide +kernel
theorem dX4_leastBehind_108 : decode cX4_leastBehind 108 = .ok (.ifCond .eq 7, 3) := by decide +kernel
theorem dX4_leastBehind_111 : decode cX4_leastBehind 111 = .ok (.iload_n 3, 1) := by decide +kernel
theorem dX4_leastBehind_112 : decode cX4_leastBehind 112 = .ok (.goto 4, 3) := by decide +kernel
theorem dX4_leastBehind_115 : decode cX4_leastBehind 115 = .ok (.iconst 4, 1) := by decide +kernel
theorem dX4_leastBehind_116 : decode cX4_leastBehind 116 = .ok (.imul, 1) := by decide +kernel
theorem dX4_leastBehind_117 : decode cX4_leastBehind 117 = .ok (.iadd, 1) := by decide +kernel
theorem dX4_leastBehind_118 : decode cX4_leastBehind 118 = .ok (.istore_n 2, 1) := by decide +kernel
theorem dX4_leastBehind_119 : decode cX4_leastBehind 119 = .ok (.iload 4, 2) := by decide +kernel
theorem dX4_leastBehind_121 : decode cX4_leastBehind 121 = .ok (.iload 7, 2) := by decide +kernel
theorem dX4_leastBehind_123 : decode cX4_leastBehind 123 = .ok (.ifCond .eq 7, 3) := by decide +kernel
theorem dX4_leastBehind_126 : decode cX4_leastBehind 126 = .ok (.iconst 1, 1) := by decide +kernel
theorem dX4_leastBehind_127 : decode cX4_leastBehind 127 = .ok (.goto 4, 3) := by decide +kernel
theorem dX4_leastBehind_130 : decode cX4_leastBehind 130 = .ok (.iconst 0, 1) := by decide +kernel
theorem dX4_leastBehind_131 : decode cX4_leastBehind 131 = .ok (.iadd, 1) := by decide +kernel
theorem dX4_leastBehind_132 : decode cX4_leastBehind 132 = .ok (.istore 4, 2) := by decide +kernel
theorem dX4_leastBehind_134 : decode cX4_leastBehind 134 = .ok (.iinc 5 1, 3) := by decide +kernel
theorem dX4_leastBehind_137 : decode cX4_leastBehind 137 = .ok (.goto (-122), 3) := by decide +kernel
theorem dX4_leastBehind_140 : decode cX4_leastBehind 140 = .ok (.iload_n 2, 1) := by decide +kernel
theorem dX4_leastBehind_141 : decode cX4_leastBehind 141 = .ok (.ireturn, 1) := by decide +kernel
theorem dX5_init_0 : decode cX5_init 0 = .ok (.aload_n 0, 1) := by decide +kernel
theorem dX5_init_1 : decode cX5_init 1 = .ok (.invokespecial 3, 3) := by decide +kernel
theorem dX5_init_4 : decode cX5_init 4 = .ok (.aload_n 0, 1) := by decide +kernel
theorem dX5_init_5 : decode cX5_init 5 = .ok (.iconst 5, 1) := by decide +kernel
theorem dX5_init_6 : decode cX5_init 6 = .ok (.newarray .int, 2) := by decide +kernel
theorem dX5_init_8 : decode cX5_init 8 = .ok (.putfield 9, 3) := by decide +kernel
theorem dX5_init_11 : decode cX5_init 11 = .ok (.aload_n 0, 1) := by decide +kernel
theorem dX5_init_12 : decode cX5_init 12 = .ok (.iconst 5, 1) := by decide +kernel
theorem dX5_init_13 : decode cX5_init 13 = .ok (.newarray .int, 2) := by decide +kernel
theorem dX5_init_15 : decode cX5_init 15 = .ok (.putfield 15, 3) := by decide +kernel
theorem dX5_init_18 : decode cX5_init 18 = .ok (.return_, 1) := by decide +kernel
set_option maxRecDepth 20000 in
theorem ggX5_read_X5_allowedHours : GoodIn wsX5_read wsX5_allowedHours := goodIn_r _ [10, 2, 3, 4, 11, 12, 13, 14, 15, 16, 17, 18, 22, 23, 24, 25, 26, 27, 28, 29, 30, 31, 32, 33, 34, 35, 36, 37] (by decide +kernel) (by decide +kernel)
set_option maxRecDepth 20000 in
theorem gX5_read_X5_allowedHours : GoodIn wsX5_read (va_wsS RX5 37 yX5_allowedHours wsX5_allowedHours) := goodIn_app (goodIn_of _ (by decide +kernel)) ggX5_read_X5_allowedHours
theorem dX5_read_0 : decode cX5_read 0 = .ok (.aload_n 0, 1) := by decide +kernel
theorem dX5_read_1 : decode cX5_read 1 = .ok (.iconst 0, 1) := by decide +kernel
theorem dX5_read_2 : decode cX5_read 2 = .ok (.putfield 18, 3) := by decide +kernel
theorem dX5_read_5 : decode cX5_read 5 = .ok (.iconst 0, 1) := by decide +kernel
theorem dX5_read_6 : decode cX5_read 6 = .ok (.istore 4, 2) := by decide +kernel
theorem dX5_read_8 : decode cX5_read 8 = .ok (.iload 4, 2) := by decide +kernel
theorem dX5_read_10 : decode cX5_read 10 = .ok (.iload_n 3, 1) := by decide +kernel
theorem dX5_read_11 : decode cX5_read 11 = .ok (.if_icmp .ge 72, 3) := by decide +kernel
theorem dX5_read_14 : decode cX5_read 14 = .ok (.aload_n 1, 1) := by decide +kernel
theorem dX5_read_15 : decode cX5_read 15 = .ok (.getfield 22, 3) := by decide +kernel
theorem dX5_read_18 : decode cX5_read 18 = .ok (.iload 4, 2) := by decide +kernel
theorem dX5_read_20 : decode cX5_read 20 = .ok (.aaload, 1) := by decide +kernel
theorem dX5_read_21 : decode cX5_read 21 = .ok (.astore 5, 2) := by decide +kernel
theorem dX5_read_23 : decode cX5_read 23 = .ok (.aload 5, 2) := by decide +kernel
theorem dX5_read_25 : decode cX5_read 25 = .ok (.getfield 28, 3) := by decide +kernel
theorem dX5_read_28 : decode cX5_read 28 = .ok (.iload_n 2, 1) := by decide +kernel
theorem dX5_read_29 : decode cX5_read 29 = .ok (.if_icmp .ne 48, 3) := by decide +kernel
theorem dX5_read_32 : decode cX5_read 32 = .ok (.aload 5, 2) := by decide +kernel
theorem dX5_read_34 : decode cX5_read 34 = .ok (.getfield 33, 3) := by decide +kernel
theorem dX5_read_37 : decode cX5_read 37 = .ok (.ifCond .eq 40, 3) := by decide +kernel
theorem dX5_read_40 : decode cX5_read 40 = .ok (.aload_n 0, 1) := by decide +kernel
theorem dX5_read_41 : decode cX5_read 41 = .ok (.getfield 9, 3) := by decide +kernel
theorem dX5_read_44 : decode cX5_read 44 = .ok (.aload_n 0, 1) := by decide +kernel
theorem dX5_read_45 : decode cX5_read 45 = .ok (.getfield 18, 3) := by decide +kernel
theorem dX5_read_48 : decode cX5_read 48 = .ok (.iload 4, 2) := by decide +kernel
theorem dX5_read_50 : decode cX5_read 50 = .ok (.iastore, 1) := by decide +kernel
theorem dX5_read_51 : decode cX5_read 51 = .ok (.aload_n 0, 1) := by decide +kernel
theorem dX5_read_52 : decode cX5_read 52 = .ok (.getfield 15, 3) := by decide +kernel
theorem dX5_read_55 : decode cX5_read 55 = .ok (.aload_n 0, 1) := by decide +kernel
theorem dX5_read_56 : decode cX5_read 56 = .ok (.getfield 18, 3) := by decide +kernel
theorem dX5_read_59 : decode cX5_read 59 = .ok (.aload_n 1, 1) := by decide +kernel
theorem dX5_read_60 : decode cX5_read 60 = .ok (.aload 5, 2) := by decide +kernel
theorem dX5_read_62 : decode cX5_read 62 = .ok (.iload_n 3, 1) := by decide +kernel
theorem dX5_read_63 : decode cX5_read 63 = .ok (.invokestatic 37, 3) := by decide +kernel
theorem dX5_read_66 : decode cX5_read 66 = .ok (.iastore, 1) := by decide +kernel
theorem dX5_read_67 : decode cX5_read 67 = .ok (.aload_n 0, 1) := by decide +kernel
theorem dX5_read_68 : decode cX5_read 68 = .ok (.dup, 1) := by decide +kernel
theorem dX5_read_69 : decode cX5_read 69 = .ok (.getfield 18, 3) := by decide +kernel
theorem dX5_read_72 : decode cX5_read 72 = .ok (.iconst 1, 1) := by decide +kernel
theorem dX5_read_73 : decode cX5_read 73 = .ok (.iadd, 1) := by decide +kernel
theorem dX5_read_74 : decode cX5_read 74 = .ok (.putfield 18, 3) := by decide +kernel
theorem dX5_read_77 : decode cX5_read 77 = .ok (.iinc 4 1, 3) := by decide +kernel
theorem dX5_read_80 : decode cX5_read 80 = .ok (.goto (-72), 3) := by decide +kernel
theorem dX5_read_83 : decode cX5_read 83 = .ok (.return_, 1) := by decide +kernel
set_option maxRecDepth 20000 in
theorem ggX5_allowedHours_X6_hourBits : GoodIn wsX5_allowedHours wsX6_hourBits := goodIn_r _ [9, 10, 11, 23, 24, 25, 26, 27] (by decide +kernel) (by decide +kernel)
set_option maxRecDepth 20000 in
theorem gX5_allowedHours_X6_hourBits : GoodIn wsX5_allowedHours (wsV RX5 41 RX6 yX6_hourBits wsX6_hourBits) := goodIn_app (goodIn_of _ (by decide +kernel)) ggX5_allowedHours_X6_hourBits
theorem dX5_allowedHours_0 : decode cX5_allowedHours 0 = .ok (.aload_n 1, 1) := by decide +kernel
theorem dX5_allowedHours_1 : decode cX5_allowedHours 1 = .ok (.invokevirtual 41, 3) := by decide +kernel
theorem dX5_allowedHours_4 : decode cX5_allowedHours 4 = .ok (.istore_n 3, 1) := by decide +kernel
theorem dX5_allowedHours_5 : decode cX5_allowedHours 5 = .ok (.iconst 0, 1) := by decide +kernel
theorem dX5_allowedHours_6 : decode cX5_allowedHours 6 = .ok (.istore 4, 2) := by decide +kernel
theorem dX5_allowedHours_8 : decode cX5_allowedHours 8 = .ok (.iload 4, 2) := by decide +kernel
theorem dX5_allowedHours_10 : decode cX5_allowedHours 10 = .ok (.iload_n 2, 1) := by decide +kernel
theorem dX5_allowedHours_11 : decode cX5_allowedHours 11 = .ok (.if_icmp .ge 60, 3) := by decide +kernel
theorem dX5_allowedHours_14 : decode cX5_allowedHours 14 = .ok (.aload_n 0, 1) := by decide +kernel
theorem dX5_allowedHours_15 : decode cX5_allowedHours 15 = .ok (.getfield 22, 3) := by decide +kernel
theorem dX5_allowedHours_18 : decode cX5_allowedHours 18 = .ok (.iload 4, 2) := by decide +kernel
theorem dX5_allowedHours_20 : decode cX5_allowedHours 20 = .ok (.aaload, 1) := by decide +kernel
theorem dX5_allowedHours_21 : decode cX5_allowedHours 21 = .ok (.astore 5, 2) := by decide +kernel
theorem dX5_allowedHours_23 : decode cX5_allowedHours 23 = .ok (.aload 5, 2) := by decide +kernel
theorem dX5_allowedHours_25 : decode cX5_allowedHours 25 = .ok (.getfield 28, 3) := by decide +kernel
theorem dX5_allowedHours_28 : decode cX5_allowedHours 28 = .ok (.aload_n 1, 1) := by decide +kernel
theorem dX5_allowedHours_29 : decode cX5_allowedHours 29 = .ok (.getfield 28, 3) := by decide +kernel
theorem dX5_allowedHours_32 : decode cX5_allowedHours 32 = .ok (.if_icmp .ne 33, 3) := by decide +kernel
theorem dX5_allowedHours_35 : decode cX5_allowedHours 35 = .ok (.aload 5, 2) := by decide +kernel
theorem dX5_allowedHours_37 : decode cX5_allowedHours 37 = .ok (.getfield 33, 3) := by decide +kernel
theorem dX5_allowedHours_40 : decode cX5_allowedHours 40 = .ok (.ifCond .ne 25, 3) := by decide +kernel
theorem dX5_allowedHours_43 : decode cX5_allowedHours 43 = .ok (.aload 5, 2) := by decide +kernel
theorem dX5_allowedHours_45 : decode cX5_allowedHours 45 = .ok (.getfield 44, 3) := by decide +kernel
theorem dX5_allowedHours_48 : decode cX5_allowedHours 48 = .ok (.aload_n 1, 1) := by decide +kernel
theorem dX5_allowedHours_49 : decode cX5_allowedHours 49 = .ok (.getfield 44, 3) := by decide +kernel
theorem dX5_allowedHours_52 : decode cX5_allowedHours 52 = .ok (.if_icmp .ne 13, 3) := by decide +kernel
theorem dX5_allowedHours_55 : decode cX5_allowedHours 55 = .ok (.iload_n 3, 1) := by decide +kernel
theorem dX5_allowedHours_56 : decode cX5_allowedHours 56 = .ok (.aload 5, 2) := by decide +kernel
theorem dX5_allowedHours_58 : decode cX5_allowedHours 58 = .ok (.invokevirtual 41, 3) := by decide +kernel
theorem dX5_allowedHours_61 : decode cX5_allowedHours 61 = .ok (.iconst (-1), 1) := by decide +kernel
theorem dX5_allowedHours_62 : decode cX5_allowedHours 62 = .ok (.ixor, 1) := by decide +kernel
theorem dX5_allowedHours_63 : decode cX5_allowedHours 63 = .ok (.iand, 1) := by decide +kernel
theorem dX5_allowedHours_64 : decode cX5_allowedHours 64 = .ok (.istore_n 3, 1) := by decide +kernel
theorem dX5_allowedHours_65 : decode cX5_allowedHours 65 = .ok (.iinc 4 1, 3) := by decide +kernel
theorem dX5_allowedHours_68 : decode cX5_allowedHours 68 = .ok (.goto (-60), 3) := by decide +kernel
theorem dX5_allowedHours_71 : decode cX5_allowedHours 71 = .ok (.iload_n 3, 1) := by decide +kernel
theorem dX5_allowedHours_72 : decode cX5_allowedHours 72 = .ok (.ireturn, 1) := by decide +kernel
set_option maxRecDepth 20000 in
theorem ggX5_stands_X7_hasBit : GoodIn wsX5_stands wsX7_hasBit := goodIn_r _ [5] (by decide +kernel) (by decide +kernel)
set_option maxRecDepth 20000 in
theorem gX5_stands_X7_hasBit_n47 : GoodIn wsX5_stands (wsX7_hasBit) := ggX5_stands_X7_hasBit
set_option maxRecDepth 20000 in
theorem ggX5_stands_J6_bitCount_0f7a4 : GoodIn wsX5_stands wsJ6_bitCount_0f7a4 := goodIn_r _ [9, 10, 11, 12] (by decide +kernel) (by decide +kernel)
set_option maxRecDepth 20000 in
theorem gX5_stands_J6_bitCount_0f7a4 : GoodIn wsX5_stands (va_wsS RX5 51 yJ6_bitCount_0f7a4 wsJ6_bitCount_0f7a4) := goodIn_app (goodIn_of _ (by decide +kernel)) ggX5_stands_J6_bitCount_0f7a4
theorem dX5_stands_0 : decode cX5_stands 0 = .ok (.iconst 1, 1) := by decide +kernel
theorem dX5_stands_1 : decode cX5_stands 1 = .ok (.istore_n 1, 1) := by decide +kernel
theorem dX5_stands_2 : decode cX5_stands 2 = .ok (.iload_n 1, 1) := by decide +kernel
theorem dX5_stands_3 : decode cX5_stands 3 = .ok (.iconst 1, 1) := by decide +kernel
theorem dX5_stands_4 : decode cX5_stands 4 = .ok (.aload_n 0, 1) := by decide +kernel
theorem dX5_stands_5 : decode cX5_stands 5 = .ok (.getfield 18, 3) := by decide +kernel
theorem dX5_stands_8 : decode cX5_stands 8 = .ok (.ishl, 1) := by decide +kernel
theorem dX5_stands_9 : decode cX5_stands 9 = .ok (.if_icmp .ge 57, 3) := by decide +kernel
theorem dX5_stands_12 : decode cX5_stands 12 = .ok (.iconst 0, 1) := by decide +kernel
theorem dX5_stands_13 : decode cX5_stands 13 = .ok (.istore_n 2, 1) := by decide +kernel
theorem dX5_stands_14 : decode cX5_stands 14 = .ok (.iconst 0, 1) := by decide +kernel
theorem dX5_stands_15 : decode cX5_stands 15 = .ok (.istore_n 3, 1) := by decide +kernel
theorem dX5_stands_16 : decode cX5_stands 16 = .ok (.iload_n 3, 1) := by decide +kernel
theorem dX5_stands_17 : decode cX5_stands 17 = .ok (.aload_n 0, 1) := by decide +kernel
theorem dX5_stands_18 : decode cX5_stands 18 = .ok (.getfield 18, 3) := by decide +kernel
theorem dX5_stands_21 : decode cX5_stands 21 = .ok (.if_icmp .ge 26, 3) := by decide +kernel
theorem dX5_stands_24 : decode cX5_stands 24 = .ok (.iload_n 1, 1) := by decide +kernel
theorem dX5_stands_25 : decode cX5_stands 25 = .ok (.iload_n 3, 1) := by decide +kernel
theorem dX5_stands_26 : decode cX5_stands 26 = .ok (.invokestatic 47, 3) := by decide +kernel
theorem dX5_stands_29 : decode cX5_stands 29 = .ok (.ifCond .eq 12, 3) := by decide +kernel
theorem dX5_stands_32 : decode cX5_stands 32 = .ok (.iload_n 2, 1) := by decide +kernel
theorem dX5_stands_33 : decode cX5_stands 33 = .ok (.aload_n 0, 1) := by decide +kernel
theorem dX5_stands_34 : decode cX5_stands 34 = .ok (.getfield 15, 3) := by decide +kernel
theorem dX5_stands_37 : decode cX5_stands 37 = .ok (.iload_n 3, 1) := by decide +kernel
theorem dX5_stands_38 : decode cX5_stands 38 = .ok (.iaload, 1) := by decide +kernel
theorem dX5_stands_39 : decode cX5_stands 39 = .ok (.ior, 1) := by decide +kernel
theorem dX5_stands_40 : decode cX5_stands 40 = .ok (.istore_n 2, 1) := by decide +kernel
theorem dX5_stands_41 : decode cX5_stands 41 = .ok (.iinc 3 1, 3) := by decide +kernel
theorem dX5_stands_44 : decode cX5_stands 44 = .ok (.goto (-28), 3) := by decide +kernel
theorem dX5_stands_47 : decode cX5_stands 47 = .ok (.iload_n 2, 1) := by decide +kernel
theorem dX5_stands_48 : decode cX5_stands 48 = .ok (.invokestatic 51, 3) := by decide +kernel
theorem dX5_stands_51 : decode cX5_stands 51 = .ok (.iload_n 1, 1) := by decide +kernel
theorem dX5_stands_52 : decode cX5_stands 52 = .ok (.invokestatic 51, 3) := by decide +kernel
theorem dX5_stands_55 : decode cX5_stands 55 = .ok (.if_icmp .ge 5, 3) := by decide +kernel
theorem dX5_stands_58 : decode cX5_stands 58 = .ok (.iconst 0, 1) := by decide +kernel
theorem dX5_stands_59 : decode cX5_stands 59 = .ok (.ireturn, 1) := by decide +kernel
theorem dX5_stands_60 : decode cX5_stands 60 = .ok (.iinc 1 1, 3) := by decide +kernel
theorem dX5_stands_63 : decode cX5_stands 63 = .ok (.goto (-61), 3) := by decide +kernel
theorem dX5_stands_66 : decode cX5_stands 66 = .ok (.iconst 1, 1) := by decide +kernel
theorem dX5_stands_67 : decode cX5_stands 67 = .ok (.ireturn, 1) := by decide +kernel
set_option maxRecDepth 20000 in
theorem ggX5_hourOf_X5_pinLeastHour : GoodIn wsX5_hourOf wsX5_pinLeastHour := goodIn_r _ [7, 8, 9, 10, 11, 12, 13, 14, 6, 15, 1, 16, 17, 18, 19, 20, 21, 22, 23, 24, 25] (by decide +kernel) (by decide +kernel)
set_option maxRecDepth 20000 in
theorem gX5_hourOf_X5_pinLeastHour : GoodIn wsX5_hourOf (wsV RX5 57 RX5 yX5_pinLeastHour wsX5_pinLeastHour) := goodIn_app (goodIn_of _ (by decide +kernel)) ggX5_hourOf_X5_pinLeastHour
theorem dX5_hourOf_0 : decode cX5_hourOf 0 = .ok (.iconst 0, 1) := by decide +kernel
theorem dX5_hourOf_1 : decode cX5_hourOf 1 = .ok (.istore_n 2, 1) := by decide +kernel
theorem dX5_hourOf_2 : decode cX5_hourOf 2 = .ok (.iload_n 2, 1) := by decide +kernel
theorem dX5_hourOf_3 : decode cX5_hourOf 3 = .ok (.aload_n 0, 1) := by decide +kernel
theorem dX5_hourOf_4 : decode cX5_hourOf 4 = .ok (.getfield 18, 3) := by decide +kernel
theorem dX5_hourOf_7 : decode cX5_hourOf 7 = .ok (.if_icmp .ge 27, 3) := by decide +kernel
theorem dX5_hourOf_10 : decode cX5_hourOf 10 = .ok (.aload_n 0, 1) := by decide +kernel
theorem dX5_hourOf_11 : decode cX5_hourOf 11 = .ok (.iload_n 2, 1) := by decide +kernel
theorem dX5_hourOf_12 : decode cX5_hourOf 12 = .ok (.invokevirtual 57, 3) := by decide +kernel
theorem dX5_hourOf_15 : decode cX5_hourOf 15 = .ok (.istore_n 3, 1) := by decide +kernel
theorem dX5_hourOf_16 : decode cX5_hourOf 16 = .ok (.aload_n 0, 1) := by decide +kernel
theorem dX5_hourOf_17 : decode cX5_hourOf 17 = .ok (.getfield 9, 3) := by decide +kernel
theorem dX5_hourOf_20 : decode cX5_hourOf 20 = .ok (.iload_n 2, 1) := by decide +kernel
theorem dX5_hourOf_21 : decode cX5_hourOf 21 = .ok (.iaload, 1) := by decide +kernel
theorem dX5_hourOf_22 : decode cX5_hourOf 22 = .ok (.iload_n 1, 1) := by decide +kernel
theorem dX5_hourOf_23 : decode cX5_hourOf 23 = .ok (.if_icmp .ne 5, 3) := by decide +kernel
theorem dX5_hourOf_26 : decode cX5_hourOf 26 = .ok (.iload_n 3, 1) := by decide +kernel
theorem dX5_hourOf_27 : decode cX5_hourOf 27 = .ok (.ireturn, 1) := by decide +kernel
theorem dX5_hourOf_28 : decode cX5_hourOf 28 = .ok (.iinc 2 1, 3) := by decide +kernel
theorem dX5_hourOf_31 : decode cX5_hourOf 31 = .ok (.goto (-29), 3) := by decide +kernel
theorem dX5_hourOf_34 : decode cX5_hourOf 34 = .ok (.bipush (-5), 2) := by decide +kernel
theorem dX5_hourOf_36 : decode cX5_hourOf 36 = .ok (.ireturn, 1) := by decide +kernel
set_option maxRecDepth 20000 in
theorem ggX5_pinLeastHour_X7_hasBit : GoodIn wsX5_pinLeastHour wsX7_hasBit := goodIn_r _ [4] (by decide +kernel) (by decide +kernel)
set_option maxRecDepth 20000 in
theorem gX5_pinLeastHour_X7_hasBit_n47 : GoodIn wsX5_pinLeastHour (wsX7_hasBit) := ggX5_pinLeastHour_X7_hasBit
set_option maxRecDepth 20000 in
theorem ggX5_pinLeastHour_X5_stands : GoodIn wsX5_pinLeastHour wsX5_stands := goodIn_r _ [9, 10, 1, 2, 3, 4, 11, 12, 13, 14, 15, 16, 17, 18, 19, 20] (by decide +kernel) (by decide +kernel)
set_option maxRecDepth 20000 in
theorem gX5_pinLeastHour_X5_stands : GoodIn wsX5_pinLeastHour (wsV RX5 60 RX5 yX5_stands wsX5_stands) := goodIn_app (goodIn_of _ (by decide +kernel)) ggX5_pinLeastHour_X5_stands
theorem dX5_pinLeastHour_0 : decode cX5_pinLeastHour 0 = .ok (.aload_n 0, 1) := by decide +kernel
theorem dX5_pinLeastHour_1 : decode cX5_pinLeastHour 1 = .ok (.getfield 15, 3) := by decide +kernel
theorem dX5_pinLeastHour_4 : decode cX5_pinLeastHour 4 = .ok (.iload_n 1, 1) := by decide +kernel
theorem dX5_pinLeastHour_5 : decode cX5_pinLeastHour 5 = .ok (.iaload, 1) := by decide +kernel
theorem dX5_pinLeastHour_6 : decode cX5_pinLeastHour 6 = .ok (.istore_n 2, 1) := by decide +kernel
theorem dX5_pinLeastHour_7 : decode cX5_pinLeastHour 7 = .ok (.iconst 0, 1) := by decide +kernel
theorem dX5_pinLeastHour_8 : decode cX5_pinLeastHour 8 = .ok (.istore_n 3, 1) := by decide +kernel
theorem dX5_pinLeastHour_9 : decode cX5_pinLeastHour 9 = .ok (.iload_n 3, 1) := by decide +kernel
theorem dX5_pinLeastHour_10 : decode cX5_pinLeastHour 10 = .ok (.bipush 24, 2) := by decide +kernel
theorem dX5_pinLeastHour_12 : decode cX5_pinLeastHour 12 = .ok (.if_icmp .ge 35, 3) := by decide +kernel
theorem dX5_pinLeastHour_15 : decode cX5_pinLeastHour 15 = .ok (.iload_n 2, 1) := by decide +kernel
theorem dX5_pinLeastHour_16 : decode cX5_pinLeastHour 16 = .ok (.iload_n 3, 1) := by decide +kernel
theorem dX5_pinLeastHour_17 : decode cX5_pinLeastHour 17 = .ok (.invokestatic 47, 3) := by decide +kernel
theorem dX5_pinLeastHour_20 : decode cX5_pinLeastHour 20 = .ok (.ifCond .eq 21, 3) := by decide +kernel
theorem dX5_pinLeastHour_23 : decode cX5_pinLeastHour 23 = .ok (.aload_n 0, 1) := by decide +kernel
theorem dX5_pinLeastHour_24 : decode cX5_pinLeastHour 24 = .ok (.getfield 15, 3) := by decide +kernel
theorem dX5_pinLeastHour_27 : decode cX5_pinLeastHour 27 = .ok (.iload_n 1, 1) := by decide +kernel
theorem dX5_pinLeastHour_28 : decode cX5_pinLeastHour 28 = .ok (.iconst 1, 1) := by decide +kernel
theorem dX5_pinLeastHour_29 : decode cX5_pinLeastHour 29 = .ok (.iload_n 3, 1) := by decide +kernel
theorem dX5_pinLeastHour_30 : decode cX5_pinLeastHour 30 = .ok (.ishl, 1) := by decide +kernel
theorem dX5_pinLeastHour_31 : decode cX5_pinLeastHour 31 = .ok (.iastore, 1) := by decide +kernel
theorem dX5_pinLeastHour_32 : decode cX5_pinLeastHour 32 = .ok (.aload_n 0, 1) := by decide +kernel
theorem dX5_pinLeastHour_33 : decode cX5_pinLeastHour 33 = .ok (.invokevirtual 60, 3) := by decide +kernel
theorem dX5_pinLeastHour_36 : decode cX5_pinLeastHour 36 = .ok (.ifCond .eq 5, 3) := by decide +kernel
theorem dX5_pinLeastHour_39 : decode cX5_pinLeastHour 39 = .ok (.iload_n 3, 1) := by decide +kernel
theorem dX5_pinLeastHour_40 : decode cX5_pinLeastHour 40 = .ok (.ireturn, 1) := by decide +kernel
theorem dX5_pinLeastHour_41 : decode cX5_pinLeastHour 41 = .ok (.iinc 3 1, 3) := by decide +kernel
theorem dX5_pinLeastHour_44 : decode cX5_pinLeastHour 44 = .ok (.goto (-35), 3) := by decide +kernel
theorem dX5_pinLeastHour_47 : decode cX5_pinLeastHour 47 = .ok (.aload_n 0, 1) := by decide +kernel
theorem dX5_pinLeastHour_48 : decode cX5_pinLeastHour 48 = .ok (.getfield 15, 3) := by decide +kernel
theorem dX5_pinLeastHour_51 : decode cX5_pinLeastHour 51 = .ok (.iload_n 1, 1) := by decide +kernel
theorem dX5_pinLeastHour_52 : decode cX5_pinLeastHour 52 = .ok (.iload_n 2, 1) := by decide +kernel
theorem dX5_pinLeastHour_53 : decode cX5_pinLeastHour 53 = .ok (.iastore, 1) := by decide +kernel
theorem dX5_pinLeastHour_54 : decode cX5_pinLeastHour 54 = .ok (.bipush (-5), 2) := by decide +kernel
theorem dX5_pinLeastHour_56 : decode cX5_pinLeastHour 56 = .ok (.ireturn, 1) := by decide +kernel
theorem dX6_init_0 : decode cX6_init 0 = .ok (.aload_n 0, 1) := by decide +kernel
theorem dX6_init_1 : decode cX6_init 1 = .ok (.invokespecial 1, 3) := by decide +kernel
theorem dX6_init_4 : decode cX6_init 4 = .ok (.return_, 1) := by decide +kernel
theorem dX6_hourBits_0 : decode cX6_hourBits 0 = .ok (.iconst 1, 1) := by decide +kernel
theorem dX6_hourBits_1 : decode cX6_hourBits 1 = .ok (.aload_n 0, 1) := by decide +kernel
theorem dX6_hourBits_2 : decode cX6_hourBits 2 = .ok (.getfield 7, 3) := by decide +kernel
theorem dX6_hourBits_5 : decode cX6_hourBits 5 = .ok (.iconst 1, 1) := by decide +kernel
theorem dX6_hourBits_6 : decode cX6_hourBits 6 = .ok (.iadd, 1) := by decide +kernel
theorem dX6_hourBits_7 : decode cX6_hourBits 7 = .ok (.ishl, 1) := by decide +kernel
theorem dX6_hourBits_8 : decode cX6_hourBits 8 = .ok (.iconst 1, 1) := by decide +kernel
theorem dX6_hourBits_9 : decode cX6_hourBits 9 = .ok (.aload_n 0, 1) := by decide +kernel
theorem dX6_hourBits_10 : decode cX6_hourBits 10 = .ok (.getfield 13, 3) := by decide +kernel
theorem dX6_hourBits_13 : decode cX6_hourBits 13 = .ok (.ishl, 1) := by decide +kernel
theorem dX6_hourBits_14 : decode cX6_hourBits 14 = .ok (.isub, 1) := by decide +kernel
theorem dX6_hourBits_15 : decode cX6_hourBits 15 = .ok (.ireturn, 1) := by decide +kernel
theorem dX6_copyFrom_0 : decode cX6_copyFrom 0 = .ok (.aload_n 0, 1) := by decide +kernel
theorem dX6_copyFrom_1 : decode cX6_copyFrom 1 = .ok (.aload_n 1, 1) := by decide +kernel
theorem dX6_copyFrom_2 : decode cX6_copyFrom 2 = .ok (.getfield 16, 3) := by decide +kernel
theorem dX6_copyFrom_5 : decode cX6_copyFrom 5 = .ok (.putfield 16, 3) := by decide +kernel
theorem dX6_copyFrom_8 : decode cX6_copyFrom 8 = .ok (.aload_n 0, 1) := by decide +kernel
theorem dX6_copyFrom_9 : decode cX6_copyFrom 9 = .ok (.aload_n 1, 1) := by decide +kernel
theorem dX6_copyFrom_10 : decode cX6_copyFrom 10 = .ok (.getfield 19, 3) := by decide +kernel
theorem dX6_copyFrom_13 : decode cX6_copyFrom 13 = .ok (.putfield 19, 3) := by decide +kernel
theorem dX6_copyFrom_16 : decode cX6_copyFrom 16 = .ok (.aload_n 0, 1) := by decide +kernel
theorem dX6_copyFrom_17 : decode cX6_copyFrom 17 = .ok (.aload_n 1, 1) := by decide +kernel
theorem dX6_copyFrom_18 : decode cX6_copyFrom 18 = .ok (.getfield 23, 3) := by decide +kernel
theorem dX6_copyFrom_21 : decode cX6_copyFrom 21 = .ok (.putfield 23, 3) := by decide +kernel
theorem dX6_copyFrom_24 : decode cX6_copyFrom 24 = .ok (.aload_n 0, 1) := by decide +kernel
theorem dX6_copyFrom_25 : decode cX6_copyFrom 25 = .ok (.aload_n 1, 1) := by decide +kernel
theorem dX6_copyFrom_26 : decode cX6_copyFrom 26 = .ok (.getfield 13, 3) := by decide +kernel
theorem dX6_copyFrom_29 : decode cX6_copyFrom 29 = .ok (.putfield 13, 3) := by decide +kernel
theorem dX6_copyFrom_32 : decode cX6_copyFrom 32 = .ok (.aload_n 0, 1) := by decide +kernel
theorem dX6_copyFrom_33 : decode cX6_copyFrom 33 = .ok (.aload_n 1, 1) := by decide +kernel
theorem dX6_copyFrom_34 : decode cX6_copyFrom 34 = .ok (.getfield 7, 3) := by decide +kernel
theorem dX6_copyFrom_37 : decode cX6_copyFrom 37 = .ok (.putfield 7, 3) := by decide +kernel
theorem dX6_copyFrom_40 : decode cX6_copyFrom 40 = .ok (.return_, 1) := by decide +kernel
set_option maxRecDepth 20000 in
theorem ggX7_init_X1_init : GoodIn wsX7_init wsX1_init := goodIn_r _ [20, 21, 2, 3, 22, 23, 24, 25, 26, 27, 28, 29, 30, 31, 32, 33, 34, 35, 36, 37, 38, 39, 40, 41, 42, 43, 44, 45, 46, 47, 48, 49, 50, 51, 52, 53, 54, 55, 56, 73, 74, 75, 76, 77, 78, 79, 99, 100, 101, 102, 103, 104, 105, 106, 107, 108, 109, 110, 111, 112, 113, 114, 115, 116, 117, 118, 119] (by decide +kernel) (by decide +kernel)
set_option maxRecDepth 20000 in
theorem gX7_init_X1_init : GoodIn wsX7_init (wsX1_init) := ggX7_init_X1_init
set_option maxRecDepth 20000 in
theorem ggX7_init_X4_init : GoodIn wsX7_init wsX4_init := goodIn_r _ [58, 59, 2, 3, 44, 60, 61, 62, 63, 64, 65, 66, 67, 85, 86, 87, 88, 89, 90, 91, 92, 93, 94, 95] (by decide +kernel) (by decide +kernel)
set_option maxRecDepth 20000 in
theorem gX7_init_X4_init_n18 : GoodIn wsX7_init (wsX4_init) := ggX7_init_X4_init
set_option maxRecDepth 20000 in
theorem ggX7_init_X5_init : GoodIn wsX7_init wsX5_init := goodIn_r _ [69, 70, 2, 3, 44, 71, 72, 96, 97, 98] (by decide +kernel) (by decide +kernel)
set_option maxRecDepth 20000 in
theorem gX7_init_X5_init_n25 : GoodIn wsX7_init (wsX5_init) := ggX7_init_X5_init
theorem dX7_init_0 : decode cX7_init 0 = .ok (.aload_n 0, 1) := by decide +kernel
theorem dX7_init_1 : decode cX7_init 1 = .ok (.invokespecial 3, 3) := by decide +kernel
theorem dX7_init_4 : decode cX7_init 4 = .ok (.aload_n 0, 1) := by decide +kernel
theorem dX7_init_5 : decode cX7_init 5 = .ok (.new 9, 3) := by decide +kernel
theorem dX7_init_8 : decode cX7_init 8 = .ok (.dup, 1) := by decide +kernel
theorem dX7_init_9 : decode cX7_init 9 = .ok (.invokespecial 11, 3) := by decide +kernel
theorem dX7_init_12 : decode cX7_init 12 = .ok (.putfield 12, 3) := by decide +kernel
theorem dX7_init_15 : decode cX7_init 15 = .ok (.aload_n 0, 1) := by decide +kernel
theorem dX7_init_16 : decode cX7_init 16 = .ok (.new 16, 3) := by decide +kernel
theorem dX7_init_19 : decode cX7_init 19 = .ok (.dup, 1) := by decide +kernel
theorem dX7_init_20 : decode cX7_init 20 = .ok (.invokespecial 18, 3) := by decide +kernel
theorem dX7_init_23 : decode cX7_init 23 = .ok (.putfield 19, 3) := by decide +kernel
theorem dX7_init_26 : decode cX7_init 26 = .ok (.aload_n 0, 1) := by decide +kernel
theorem dX7_init_27 : decode cX7_init 27 = .ok (.new 23, 3) := by decide +kernel
theorem dX7_init_30 : decode cX7_init 30 = .ok (.dup, 1) := by decide +kernel
theorem dX7_init_31 : decode cX7_init 31 = .ok (.invokespecial 25, 3) := by decide +kernel
theorem dX7_init_34 : decode cX7_init 34 = .ok (.putfield 26, 3) := by decide +kernel
theorem dX7_init_37 : decode cX7_init 37 = .ok (.aload_n 0, 1) := by decide +kernel
theorem dX7_init_38 : decode cX7_init 38 = .ok (.aconst_null, 1) := by decide +kernel
theorem dX7_init_39 : decode cX7_init 39 = .ok (.putfield 30, 3) := by decide +kernel
theorem dX7_init_42 : decode cX7_init 42 = .ok (.aload_n 0, 1) := by decide +kernel
theorem dX7_init_43 : decode cX7_init 43 = .ok (.iconst 1, 1) := by decide +kernel
theorem dX7_init_44 : decode cX7_init 44 = .ok (.putfield 33, 3) := by decide +kernel
theorem dX7_init_47 : decode cX7_init 47 = .ok (.return_, 1) := by decide +kernel
set_option maxRecDepth 20000 in
theorem ggX7_party_X7_isWithin : GoodIn wsX7_party wsX7_isWithin := goodIn_r _ [9] (by decide +kernel) (by decide +kernel)
set_option maxRecDepth 20000 in
theorem gX7_party_X7_isWithin : GoodIn wsX7_party (va_wsS RX7 37 yX7_isWithin wsX7_isWithin) := goodIn_app (goodIn_of _ (by decide +kernel)) ggX7_party_X7_isWithin
theorem dX7_party_0 : decode cX7_party 0 = .ok (.iload_n 1, 1) := by decide +kernel
theorem dX7_party_1 : decode cX7_party 1 = .ok (.iconst 0, 1) := by decide +kernel
theorem dX7_party_2 : decode cX7_party 2 = .ok (.bipush 9, 2) := by decide +kernel
theorem dX7_party_4 : decode cX7_party 4 = .ok (.invokestatic 37, 3) := by decide +kernel
theorem dX7_party_7 : decode cX7_party 7 = .ok (.ifCond .eq 12, 3) := by decide +kernel
theorem dX7_party_10 : decode cX7_party 10 = .ok (.iload_n 2, 1) := by decide +kernel
theorem dX7_party_11 : decode cX7_party 11 = .ok (.iconst 0, 1) := by decide +kernel
theorem dX7_party_12 : decode cX7_party 12 = .ok (.iconst 2, 1) := by decide +kernel
theorem dX7_party_13 : decode cX7_party 13 = .ok (.invokestatic 37, 3) := by decide +kernel
theorem dX7_party_16 : decode cX7_party 16 = .ok (.ifCond .ne 5, 3) := by decide +kernel
theorem dX7_party_19 : decode cX7_party 19 = .ok (.iconst (-1), 1) := by decide +kernel
theorem dX7_party_20 : decode cX7_party 20 = .ok (.ireturn, 1) := by decide +kernel
theorem dX7_party_21 : decode cX7_party 21 = .ok (.aload_n 0, 1) := by decide +kernel
theorem dX7_party_22 : decode cX7_party 22 = .ok (.getfield 12, 3) := by decide +kernel
theorem dX7_party_25 : decode cX7_party 25 = .ok (.getfield 41, 3) := by decide +kernel
theorem dX7_party_28 : decode cX7_party 28 = .ok (.bipush 8, 2) := by decide +kernel
theorem dX7_party_30 : decode cX7_party 30 = .ok (.if_icmp .lt 6, 3) := by decide +kernel
theorem dX7_party_33 : decode cX7_party 33 = .ok (.bipush (-2), 2) := by decide +kernel
theorem dX7_party_35 : decode cX7_party 35 = .ok (.ireturn, 1) := by decide +kernel
theorem dX7_party_36 : decode cX7_party 36 = .ok (.aload_n 0, 1) := by decide +kernel
theorem dX7_party_37 : decode cX7_party 37 = .ok (.getfield 12, 3) := by decide +kernel
theorem dX7_party_40 : decode cX7_party 40 = .ok (.getfield 44, 3) := by decide +kernel
theorem dX7_party_43 : decode cX7_party 43 = .ok (.aload_n 0, 1) := by decide +kernel
theorem dX7_party_44 : decode cX7_party 44 = .ok (.getfield 12, 3) := by decide +kernel
theorem dX7_party_47 : decode cX7_party 47 = .ok (.getfield 41, 3) := by decide +kernel
theorem dX7_party_50 : decode cX7_party 50 = .ok (.aaload, 1) := by decide +kernel
theorem dX7_party_51 : decode cX7_party 51 = .ok (.astore_n 3, 1) := by decide +kernel
theorem dX7_party_52 : decode cX7_party 52 = .ok (.aload_n 3, 1) := by decide +kernel
theorem dX7_party_53 : decode cX7_party 53 = .ok (.iload_n 1, 1) := by decide +kernel
theorem dX7_party_54 : decode cX7_party 54 = .ok (.putfield 48, 3) := by decide +kernel
theorem dX7_party_57 : decode cX7_party 57 = .ok (.aload_n 3, 1) := by decide +kernel
theorem dX7_party_58 : decode cX7_party 58 = .ok (.iload_n 2, 1) := by decide +kernel
theorem dX7_party_59 : decode cX7_party 59 = .ok (.putfield 53, 3) := by decide +kernel
theorem dX7_party_62 : decode cX7_party 62 = .ok (.aload_n 0, 1) := by decide +kernel
theorem dX7_party_63 : decode cX7_party 63 = .ok (.getfield 12, 3) := by decide +kernel
theorem dX7_party_66 : decode cX7_party 66 = .ok (.dup, 1) := by decide +kernel
theorem dX7_party_67 : decode cX7_party 67 = .ok (.getfield 41, 3) := by decide +kernel
theorem dX7_party_70 : decode cX7_party 70 = .ok (.dup_x1, 1) := by decide +kernel
theorem dX7_party_71 : decode cX7_party 71 = .ok (.iconst 1, 1) := by decide +kernel
theorem dX7_party_72 : decode cX7_party 72 = .ok (.iadd, 1) := by decide +kernel
theorem dX7_party_73 : decode cX7_party 73 = .ok (.putfield 41, 3) := by decide +kernel
theorem dX7_party_76 : decode cX7_party 76 = .ok (.ireturn, 1) := by decide +kernel
set_option maxRecDepth 20000 in
theorem ggX7_mediator_X7_isWithin : GoodIn wsX7_mediator wsX7_isWithin := goodIn_r _ [10] (by decide +kernel) (by decide +kernel)
set_option maxRecDepth 20000 in
theorem gX7_mediator_X7_isWithin : GoodIn wsX7_mediator (va_wsS RX7 37 yX7_isWithin wsX7_isWithin) := goodIn_app (goodIn_of _ (by decide +kernel)) ggX7_mediator_X7_isWithin
theorem dX7_mediator_0 : decode cX7_mediator 0 = .ok (.iload_n 1, 1) := by decide +kernel
theorem dX7_mediator_1 : decode cX7_mediator 1 = .ok (.iconst 0, 1) := by decide +kernel
theorem dX7_mediator_2 : decode cX7_mediator 2 = .ok (.bipush 9, 2) := by decide +kernel
theorem dX7_mediator_4 : decode cX7_mediator 4 = .ok (.invokestatic 37, 3) := by decide +kernel
theorem dX7_mediator_7 : decode cX7_mediator 7 = .ok (.ifCond .eq 13, 3) := by decide +kernel
theorem dX7_mediator_10 : decode cX7_mediator 10 = .ok (.iload_n 2, 1) := by decide +kernel
theorem dX7_mediator_11 : decode cX7_mediator 11 = .ok (.iconst 1, 1) := by decide +kernel
theorem dX7_mediator_12 : decode cX7_mediator 12 = .ok (.bipush 7, 2) := by decide +kernel
theorem dX7_mediator_14 : decode cX7_mediator 14 = .ok (.invokestatic 37, 3) := by decide +kernel
theorem dX7_mediator_17 : decode cX7_mediator 17 = .ok (.ifCond .ne 5, 3) := by decide +kernel
theorem dX7_mediator_20 : decode cX7_mediator 20 = .ok (.iconst (-1), 1) := by decide +kernel
theorem dX7_mediator_21 : decode cX7_mediator 21 = .ok (.ireturn, 1) := by decide +kernel
theorem dX7_mediator_22 : decode cX7_mediator 22 = .ok (.aload_n 0, 1) := by decide +kernel
theorem dX7_mediator_23 : decode cX7_mediator 23 = .ok (.getfield 12, 3) := by decide +kernel
theorem dX7_mediator_26 : decode cX7_mediator 26 = .ok (.getfield 56, 3) := by decide +kernel
theorem dX7_mediator_29 : decode cX7_mediator 29 = .ok (.iconst 4, 1) := by decide +kernel
theorem dX7_mediator_30 : decode cX7_mediator 30 = .ok (.if_icmp .lt 6, 3) := by decide +kernel
theorem dX7_mediator_33 : decode cX7_mediator 33 = .ok (.bipush (-2), 2) := by decide +kernel
theorem dX7_mediator_35 : decode cX7_mediator 35 = .ok (.ireturn, 1) := by decide +kernel
theorem dX7_mediator_36 : decode cX7_mediator 36 = .ok (.aload_n 0, 1) := by decide +kernel
theorem dX7_mediator_37 : decode cX7_mediator 37 = .ok (.getfield 12, 3) := by decide +kernel
theorem dX7_mediator_40 : decode cX7_mediator 40 = .ok (.getfield 59, 3) := by decide +kernel
theorem dX7_mediator_43 : decode cX7_mediator 43 = .ok (.aload_n 0, 1) := by decide +kernel
theorem dX7_mediator_44 : decode cX7_mediator 44 = .ok (.getfield 12, 3) := by decide +kernel
theorem dX7_mediator_47 : decode cX7_mediator 47 = .ok (.getfield 56, 3) := by decide +kernel
theorem dX7_mediator_50 : decode cX7_mediator 50 = .ok (.aaload, 1) := by decide +kernel
theorem dX7_mediator_51 : decode cX7_mediator 51 = .ok (.astore_n 3, 1) := by decide +kernel
theorem dX7_mediator_52 : decode cX7_mediator 52 = .ok (.aload_n 3, 1) := by decide +kernel
theorem dX7_mediator_53 : decode cX7_mediator 53 = .ok (.iload_n 1, 1) := by decide +kernel
theorem dX7_mediator_54 : decode cX7_mediator 54 = .ok (.putfield 63, 3) := by decide +kernel
theorem dX7_mediator_57 : decode cX7_mediator 57 = .ok (.aload_n 3, 1) := by decide +kernel
theorem dX7_mediator_58 : decode cX7_mediator 58 = .ok (.iload_n 2, 1) := by decide +kernel
theorem dX7_mediator_59 : decode cX7_mediator 59 = .ok (.putfield 66, 3) := by decide +kernel
theorem dX7_mediator_62 : decode cX7_mediator 62 = .ok (.aload_n 3, 1) := by decide +kernel
theorem dX7_mediator_63 : decode cX7_mediator 63 = .ok (.iconst 0, 1) := by decide +kernel
theorem dX7_mediator_64 : decode cX7_mediator 64 = .ok (.putfield 69, 3) := by decide +kernel
theorem dX7_mediator_67 : decode cX7_mediator 67 = .ok (.aload_n 0, 1) := by decide +kernel
theorem dX7_mediator_68 : decode cX7_mediator 68 = .ok (.getfield 12, 3) := by decide +kernel
theorem dX7_mediator_71 : decode cX7_mediator 71 = .ok (.dup, 1) := by decide +kernel
theorem dX7_mediator_72 : decode cX7_mediator 72 = .ok (.getfield 56, 3) := by decide +kernel
theorem dX7_mediator_75 : decode cX7_mediator 75 = .ok (.dup_x1, 1) := by decide +kernel
theorem dX7_mediator_76 : decode cX7_mediator 76 = .ok (.iconst 1, 1) := by decide +kernel
theorem dX7_mediator_77 : decode cX7_mediator 77 = .ok (.iadd, 1) := by decide +kernel
theorem dX7_mediator_78 : decode cX7_mediator 78 = .ok (.putfield 56, 3) := by decide +kernel
theorem dX7_mediator_81 : decode cX7_mediator 81 = .ok (.ireturn, 1) := by decide +kernel
set_option maxRecDepth 20000 in
theorem ggX7_kin_X7_isMediator : GoodIn wsX7_kin wsX7_isMediator := goodIn_r _ [8, 1, 9, 10, 11, 7, 12, 21, 22, 23, 24, 25, 26, 27, 28, 29, 30, 31, 32] (by decide +kernel) (by decide +kernel)
set_option maxRecDepth 20000 in
theorem gX7_kin_X7_isMediator : GoodIn wsX7_kin (wsV RX7 72 RX7 yX7_isMediator wsX7_isMediator) := goodIn_app (goodIn_of _ (by decide +kernel)) ggX7_kin_X7_isMediator
set_option maxRecDepth 20000 in
theorem ggX7_kin_X7_isParty : GoodIn wsX7_kin wsX7_isParty := goodIn_r _ [16, 1, 17, 10, 11, 7, 12, 21, 22, 23, 24, 25, 26, 27, 28, 29, 30, 31, 32] (by decide +kernel) (by decide +kernel)
set_option maxRecDepth 20000 in
theorem gX7_kin_X7_isParty : GoodIn wsX7_kin (wsV RX7 76 RX7 yX7_isParty wsX7_isParty) := goodIn_app (goodIn_of _ (by decide +kernel)) ggX7_kin_X7_isParty
set_option maxRecDepth 20000 in
theorem ggX7_kin_X7_hasBit : GoodIn wsX7_kin wsX7_hasBit := goodIn_r _ [20] (by decide +kernel) (by decide +kernel)
set_option maxRecDepth 20000 in
theorem gX7_kin_X7_hasBit : GoodIn wsX7_kin (va_wsS RX7 79 yX7_hasBit wsX7_hasBit) := goodIn_app (goodIn_of _ (by decide +kernel)) ggX7_kin_X7_hasBit
theorem dX7_kin_0 : decode cX7_kin 0 = .ok (.aload_n 0, 1) := by decide +kernel
theorem dX7_kin_1 : decode cX7_kin 1 = .ok (.iload_n 1, 1) := by decide +kernel
theorem dX7_kin_2 : decode cX7_kin 2 = .ok (.invokevirtual 72, 3) := by decide +kernel
theorem dX7_kin_5 : decode cX7_kin 5 = .ok (.ifCond .eq 11, 3) := by decide +kernel
theorem dX7_kin_8 : decode cX7_kin 8 = .ok (.aload_n 0, 1) := by decide +kernel
theorem dX7_kin_9 : decode cX7_kin 9 = .ok (.iload_n 2, 1) := by decide +kernel
theorem dX7_kin_10 : decode cX7_kin 10 = .ok (.invokevirtual 76, 3) := by decide +kernel
theorem dX7_kin_13 : decode cX7_kin 13 = .ok (.ifCond .ne 5, 3) := by decide +kernel
theorem dX7_kin_16 : decode cX7_kin 16 = .ok (.iconst (-1), 1) := by decide +kernel
theorem dX7_kin_17 : decode cX7_kin 17 = .ok (.ireturn, 1) := by decide +kernel
theorem dX7_kin_18 : decode cX7_kin 18 = .ok (.aload_n 0, 1) := by decide +kernel
theorem dX7_kin_19 : decode cX7_kin 19 = .ok (.getfield 12, 3) := by decide +kernel
theorem dX7_kin_22 : decode cX7_kin 22 = .ok (.getfield 59, 3) := by decide +kernel
theorem dX7_kin_25 : decode cX7_kin 25 = .ok (.iload_n 1, 1) := by decide +kernel
theorem dX7_kin_26 : decode cX7_kin 26 = .ok (.aaload, 1) := by decide +kernel
theorem dX7_kin_27 : decode cX7_kin 27 = .ok (.astore 4, 2) := by decide +kernel
theorem dX7_kin_29 : decode cX7_kin 29 = .ok (.aload 4, 2) := by decide +kernel
theorem dX7_kin_31 : decode cX7_kin 31 = .ok (.getfield 69, 3) := by decide +kernel
theorem dX7_kin_34 : decode cX7_kin 34 = .ok (.iload_n 2, 1) := by decide +kernel
theorem dX7_kin_35 : decode cX7_kin 35 = .ok (.invokestatic 79, 3) := by decide +kernel
theorem dX7_kin_38 : decode cX7_kin 38 = .ok (.iload_n 3, 1) := by decide +kernel
theorem dX7_kin_39 : decode cX7_kin 39 = .ok (.if_icmp .ne 5, 3) := by decide +kernel
theorem dX7_kin_42 : decode cX7_kin 42 = .ok (.iconst 0, 1) := by decide +kernel
theorem dX7_kin_43 : decode cX7_kin 43 = .ok (.ireturn, 1) := by decide +kernel
theorem dX7_kin_44 : decode cX7_kin 44 = .ok (.aload 4, 2) := by decide +kernel
theorem dX7_kin_46 : decode cX7_kin 46 = .ok (.dup, 1) := by decide +kernel
theorem dX7_kin_47 : decode cX7_kin 47 = .ok (.getfield 69, 3) := by decide +kernel
theorem dX7_kin_50 : decode cX7_kin 50 = .ok (.iconst 1, 1) := by decide +kernel
theorem dX7_kin_51 : decode cX7_kin 51 = .ok (.iload_n 2, 1) := by decide +kernel
theorem dX7_kin_52 : decode cX7_kin 52 = .ok (.ishl, 1) := by decide +kernel
theorem dX7_kin_53 : decode cX7_kin 53 = .ok (.ixor, 1) := by decide +kernel
theorem dX7_kin_54 : decode cX7_kin 54 = .ok (.putfield 69, 3) := by decide +kernel
theorem dX7_kin_57 : decode cX7_kin 57 = .ok (.iconst 1, 1) := by decide +kernel
theorem dX7_kin_58 : decode cX7_kin 58 = .ok (.ireturn, 1) := by decide +kernel
set_option maxRecDepth 20000 in
theorem ggX7_open_X7_isParty : GoodIn wsX7_open wsX7_isParty := goodIn_r _ [8, 1, 9, 10, 11, 7, 12, 27, 28, 29, 30, 31, 32, 33, 34, 35, 36, 37, 38] (by decide +kernel) (by decide +kernel)
set_option maxRecDepth 20000 in
theorem gX7_open_X7_isParty : GoodIn wsX7_open (wsV RX7 76 RX7 yX7_isParty wsX7_isParty) := goodIn_app (goodIn_of _ (by decide +kernel)) ggX7_open_X7_isParty
set_option maxRecDepth 20000 in
theorem ggX7_open_X0_begin : GoodIn wsX7_open wsX0_begin := goodIn_r _ [17, 18, 19, 20, 21, 22, 23, 24, 25, 26, 39, 40, 41, 42, 43, 44, 45, 46, 47, 48, 49] (by decide +kernel) (by decide +kernel)
set_option maxRecDepth 20000 in
theorem gX7_open_X0_begin : GoodIn wsX7_open (wsV RX7 90 RX0 yX0_begin wsX0_begin) := goodIn_app (goodIn_of _ (by decide +kernel)) ggX7_open_X0_begin
theorem dX7_open_0 : decode cX7_open 0 = .ok (.aload_n 0, 1) := by decide +kernel
theorem dX7_open_1 : decode cX7_open 1 = .ok (.iload_n 1, 1) := by decide +kernel
theorem dX7_open_2 : decode cX7_open 2 = .ok (.invokevirtual 76, 3) := by decide +kernel
theorem dX7_open_5 : decode cX7_open 5 = .ok (.ifCond .eq 16, 3) := by decide +kernel
theorem dX7_open_8 : decode cX7_open 8 = .ok (.aload_n 0, 1) := by decide +kernel
theorem dX7_open_9 : decode cX7_open 9 = .ok (.iload_n 2, 1) := by decide +kernel
theorem dX7_open_10 : decode cX7_open 10 = .ok (.invokevirtual 76, 3) := by decide +kernel
theorem dX7_open_13 : decode cX7_open 13 = .ok (.ifCond .eq 8, 3) := by decide +kernel
theorem dX7_open_16 : decode cX7_open 16 = .ok (.iload_n 1, 1) := by decide +kernel
theorem dX7_open_17 : decode cX7_open 17 = .ok (.iload_n 2, 1) := by decide +kernel
theorem dX7_open_18 : decode cX7_open 18 = .ok (.if_icmp .ne 5, 3) := by decide +kernel
theorem dX7_open_21 : decode cX7_open 21 = .ok (.iconst (-1), 1) := by decide +kernel
theorem dX7_open_22 : decode cX7_open 22 = .ok (.ireturn, 1) := by decide +kernel
theorem dX7_open_23 : decode cX7_open 23 = .ok (.aload_n 0, 1) := by decide +kernel
theorem dX7_open_24 : decode cX7_open 24 = .ok (.getfield 12, 3) := by decide +kernel
theorem dX7_open_27 : decode cX7_open 27 = .ok (.getfield 83, 3) := by decide +kernel
theorem dX7_open_30 : decode cX7_open 30 = .ok (.bipush 6, 2) := by decide +kernel
theorem dX7_open_32 : decode cX7_open 32 = .ok (.if_icmp .lt 6, 3) := by decide +kernel
theorem dX7_open_35 : decode cX7_open 35 = .ok (.bipush (-2), 2) := by decide +kernel
theorem dX7_open_37 : decode cX7_open 37 = .ok (.ireturn, 1) := by decide +kernel
theorem dX7_open_38 : decode cX7_open 38 = .ok (.aload_n 0, 1) := by decide +kernel
theorem dX7_open_39 : decode cX7_open 39 = .ok (.getfield 12, 3) := by decide +kernel
theorem dX7_open_42 : decode cX7_open 42 = .ok (.getfield 86, 3) := by decide +kernel
theorem dX7_open_45 : decode cX7_open 45 = .ok (.aload_n 0, 1) := by decide +kernel
theorem dX7_open_46 : decode cX7_open 46 = .ok (.getfield 12, 3) := by decide +kernel
theorem dX7_open_49 : decode cX7_open 49 = .ok (.getfield 83, 3) := by decide +kernel
theorem dX7_open_52 : decode cX7_open 52 = .ok (.aaload, 1) := by decide +kernel
theorem dX7_open_53 : decode cX7_open 53 = .ok (.iload_n 1, 1) := by decide +kernel
theorem dX7_open_54 : decode cX7_open 54 = .ok (.iload_n 2, 1) := by decide +kernel
theorem dX7_open_55 : decode cX7_open 55 = .ok (.invokevirtual 90, 3) := by decide +kernel
theorem dX7_open_58 : decode cX7_open 58 = .ok (.aload_n 0, 1) := by decide +kernel
theorem dX7_open_59 : decode cX7_open 59 = .ok (.getfield 12, 3) := by decide +kernel
theorem dX7_open_62 : decode cX7_open 62 = .ok (.dup, 1) := by decide +kernel
theorem dX7_open_63 : decode cX7_open 63 = .ok (.getfield 83, 3) := by decide +kernel
theorem dX7_open_66 : decode cX7_open 66 = .ok (.dup_x1, 1) := by decide +kernel
theorem dX7_open_67 : decode cX7_open 67 = .ok (.iconst 1, 1) := by decide +kernel
theorem dX7_open_68 : decode cX7_open 68 = .ok (.iadd, 1) := by decide +kernel
theorem dX7_open_69 : decode cX7_open 69 = .ok (.putfield 83, 3) := by decide +kernel
theorem dX7_open_72 : decode cX7_open 72 = .ok (.ireturn, 1) := by decide +kernel
set_option maxRecDepth 20000 in
theorem ggX7_close_X7_isCase : GoodIn wsX7_close wsX7_isCase := goodIn_r _ [8, 1, 9, 10, 11, 7, 12, 13, 14, 15, 16, 17, 18, 19, 20, 21, 22, 23, 24] (by decide +kernel) (by decide +kernel)
set_option maxRecDepth 20000 in
theorem gX7_close_X7_isCase : GoodIn wsX7_close (wsV RX7 96 RX7 yX7_isCase wsX7_isCase) := goodIn_app (goodIn_of _ (by decide +kernel)) ggX7_close_X7_isCase
theorem dX7_close_0 : decode cX7_close 0 = .ok (.aload_n 0, 1) := by decide +kernel
theorem dX7_close_1 : decode cX7_close 1 = .ok (.iload_n 1, 1) := by decide +kernel
theorem dX7_close_2 : decode cX7_close 2 = .ok (.invokevirtual 96, 3) := by decide +kernel
theorem dX7_close_5 : decode cX7_close 5 = .ok (.ifCond .ne 5, 3) := by decide +kernel
theorem dX7_close_8 : decode cX7_close 8 = .ok (.iconst (-1), 1) := by decide +kernel
theorem dX7_close_9 : decode cX7_close 9 = .ok (.ireturn, 1) := by decide +kernel
theorem dX7_close_10 : decode cX7_close 10 = .ok (.aload_n 0, 1) := by decide +kernel
theorem dX7_close_11 : decode cX7_close 11 = .ok (.getfield 12, 3) := by decide +kernel
theorem dX7_close_14 : decode cX7_close 14 = .ok (.getfield 86, 3) := by decide +kernel
theorem dX7_close_17 : decode cX7_close 17 = .ok (.iload_n 1, 1) := by decide +kernel
theorem dX7_close_18 : decode cX7_close 18 = .ok (.aaload, 1) := by decide +kernel
theorem dX7_close_19 : decode cX7_close 19 = .ok (.getfield 99, 3) := by decide +kernel
theorem dX7_close_22 : decode cX7_close 22 = .ok (.ifCond .eq 6, 3) := by decide +kernel
theorem dX7_close_25 : decode cX7_close 25 = .ok (.bipush (-4), 2) := by decide +kernel
theorem dX7_close_27 : decode cX7_close 27 = .ok (.ireturn, 1) := by decide +kernel
theorem dX7_close_28 : decode cX7_close 28 = .ok (.aload_n 0, 1) := by decide +kernel
theorem dX7_close_29 : decode cX7_close 29 = .ok (.getfield 12, 3) := by decide +kernel
theorem dX7_close_32 : decode cX7_close 32 = .ok (.getfield 86, 3) := by decide +kernel
theorem dX7_close_35 : decode cX7_close 35 = .ok (.iload_n 1, 1) := by decide +kernel
theorem dX7_close_36 : decode cX7_close 36 = .ok (.aaload, 1) := by decide +kernel
theorem dX7_close_37 : decode cX7_close 37 = .ok (.iconst 2, 1) := by decide +kernel
theorem dX7_close_38 : decode cX7_close 38 = .ok (.putfield 99, 3) := by decide +kernel
theorem dX7_close_41 : decode cX7_close 41 = .ok (.iconst 1, 1) := by decide +kernel
theorem dX7_close_42 : decode cX7_close 42 = .ok (.ireturn, 1) := by decide +kernel
set_option maxRecDepth 20000 in
theorem ggX7_weight_X7_isCase : GoodIn wsX7_weight wsX7_isCase := goodIn_r _ [8, 1, 9, 10, 11, 7, 12, 13, 14, 15, 16, 17, 18, 19, 20, 21, 22, 23, 24] (by decide +kernel) (by decide +kernel)
set_option maxRecDepth 20000 in
theorem gX7_weight_X7_isCase : GoodIn wsX7_weight (wsV RX7 96 RX7 yX7_isCase wsX7_isCase) := goodIn_app (goodIn_of _ (by decide +kernel)) ggX7_weight_X7_isCase
set_option maxRecDepth 20000 in
theorem ggX7_weight_X7_isWithin : GoodIn wsX7_weight wsX7_isWithin := goodIn_r _ [12] (by decide +kernel) (by decide +kernel)
set_option maxRecDepth 20000 in
theorem gX7_weight_X7_isWithin : GoodIn wsX7_weight (va_wsS RX7 37 yX7_isWithin wsX7_isWithin) := goodIn_app (goodIn_of _ (by decide +kernel)) ggX7_weight_X7_isWithin
theorem dX7_weight_0 : decode cX7_weight 0 = .ok (.aload_n 0, 1) := by decide +kernel
theorem dX7_weight_1 : decode cX7_weight 1 = .ok (.iload_n 1, 1) := by decide +kernel
theorem dX7_weight_2 : decode cX7_weight 2 = .ok (.invokevirtual 96, 3) := by decide +kernel
theorem dX7_weight_5 : decode cX7_weight 5 = .ok (.ifCond .eq 13, 3) := by decide +kernel
theorem dX7_weight_8 : decode cX7_weight 8 = .ok (.iload_n 2, 1) := by decide +kernel
theorem dX7_weight_9 : decode cX7_weight 9 = .ok (.iconst 1, 1) := by decide +kernel
theorem dX7_weight_10 : decode cX7_weight 10 = .ok (.bipush 9, 2) := by decide +kernel
theorem dX7_weight_12 : decode cX7_weight 12 = .ok (.invokestatic 37, 3) := by decide +kernel
theorem dX7_weight_15 : decode cX7_weight 15 = .ok (.ifCond .ne 5, 3) := by decide +kernel
theorem dX7_weight_18 : decode cX7_weight 18 = .ok (.iconst (-1), 1) := by decide +kernel
theorem dX7_weight_19 : decode cX7_weight 19 = .ok (.ireturn, 1) := by decide +kernel
theorem dX7_weight_20 : decode cX7_weight 20 = .ok (.aload_n 0, 1) := by decide +kernel
theorem dX7_weight_21 : decode cX7_weight 21 = .ok (.getfield 12, 3) := by decide +kernel
theorem dX7_weight_24 : decode cX7_weight 24 = .ok (.getfield 86, 3) := by decide +kernel
theorem dX7_weight_27 : decode cX7_weight 27 = .ok (.iload_n 1, 1) := by decide +kernel
theorem dX7_weight_28 : decode cX7_weight 28 = .ok (.aaload, 1) := by decide +kernel
theorem dX7_weight_29 : decode cX7_weight 29 = .ok (.getfield 102, 3) := by decide +kernel
theorem dX7_weight_32 : decode cX7_weight 32 = .ok (.istore_n 3, 1) := by decide +kernel
theorem dX7_weight_33 : decode cX7_weight 33 = .ok (.aload_n 0, 1) := by decide +kernel
theorem dX7_weight_34 : decode cX7_weight 34 = .ok (.getfield 12, 3) := by decide +kernel
theorem dX7_weight_37 : decode cX7_weight 37 = .ok (.getfield 86, 3) := by decide +kernel
theorem dX7_weight_40 : decode cX7_weight 40 = .ok (.iload_n 1, 1) := by decide +kernel
theorem dX7_weight_41 : decode cX7_weight 41 = .ok (.aaload, 1) := by decide +kernel
theorem dX7_weight_42 : decode cX7_weight 42 = .ok (.iload_n 2, 1) := by decide +kernel
theorem dX7_weight_43 : decode cX7_weight 43 = .ok (.putfield 102, 3) := by decide +kernel
theorem dX7_weight_46 : decode cX7_weight 46 = .ok (.iload_n 3, 1) := by decide +kernel
theorem dX7_weight_47 : decode cX7_weight 47 = .ok (.ireturn, 1) := by decide +kernel
set_option maxRecDepth 20000 in
theorem ggX7_mark_X7_isCase : GoodIn wsX7_mark wsX7_isCase := goodIn_r _ [9, 1, 10, 11, 12, 8, 13, 17, 18, 19, 20, 21, 22, 23, 24, 25, 26, 27, 28] (by decide +kernel) (by decide +kernel)
set_option maxRecDepth 20000 in
theorem gX7_mark_X7_isCase : GoodIn wsX7_mark (wsV RX7 96 RX7 yX7_isCase wsX7_isCase) := goodIn_app (goodIn_of _ (by decide +kernel)) ggX7_mark_X7_isCase
set_option maxRecDepth 20000 in
theorem ggX7_mark_X7_hasBit : GoodIn wsX7_mark wsX7_hasBit := goodIn_r _ [16] (by decide +kernel) (by decide +kernel)
set_option maxRecDepth 20000 in
theorem gX7_mark_X7_hasBit : GoodIn wsX7_mark (va_wsS RX7 79 yX7_hasBit wsX7_hasBit) := goodIn_app (goodIn_of _ (by decide +kernel)) ggX7_mark_X7_hasBit
theorem dX7_mark_0 : decode cX7_mark 0 = .ok (.aload_n 0, 1) := by decide +kernel
theorem dX7_mark_1 : decode cX7_mark 1 = .ok (.iload_n 1, 1) := by decide +kernel
theorem dX7_mark_2 : decode cX7_mark 2 = .ok (.invokevirtual 96, 3) := by decide +kernel
theorem dX7_mark_5 : decode cX7_mark 5 = .ok (.ifCond .eq 16, 3) := by decide +kernel
theorem dX7_mark_8 : decode cX7_mark 8 = .ok (.aload_n 0, 1) := by decide +kernel
theorem dX7_mark_9 : decode cX7_mark 9 = .ok (.iload_n 2, 1) := by decide +kernel
theorem dX7_mark_10 : decode cX7_mark 10 = .ok (.invokevirtual 96, 3) := by decide +kernel
theorem dX7_mark_13 : decode cX7_mark 13 = .ok (.ifCond .eq 8, 3) := by decide +kernel
theorem dX7_mark_16 : decode cX7_mark 16 = .ok (.iload_n 1, 1) := by decide +kernel
theorem dX7_mark_17 : decode cX7_mark 17 = .ok (.iload_n 2, 1) := by decide +kernel
theorem dX7_mark_18 : decode cX7_mark 18 = .ok (.if_icmp .ne 5, 3) := by decide +kernel
theorem dX7_mark_21 : decode cX7_mark 21 = .ok (.iconst (-1), 1) := by decide +kernel
theorem dX7_mark_22 : decode cX7_mark 22 = .ok (.ireturn, 1) := by decide +kernel
theorem dX7_mark_23 : decode cX7_mark 23 = .ok (.aload_n 0, 1) := by decide +kernel
theorem dX7_mark_24 : decode cX7_mark 24 = .ok (.getfield 12, 3) := by decide +kernel
theorem dX7_mark_27 : decode cX7_mark 27 = .ok (.getfield 86, 3) := by decide +kernel
theorem dX7_mark_30 : decode cX7_mark 30 = .ok (.iload_n 1, 1) := by decide +kernel
theorem dX7_mark_31 : decode cX7_mark 31 = .ok (.aaload, 1) := by decide +kernel
theorem dX7_mark_32 : decode cX7_mark 32 = .ok (.getfield 105, 3) := by decide +kernel
theorem dX7_mark_35 : decode cX7_mark 35 = .ok (.iload_n 2, 1) := by decide +kernel
theorem dX7_mark_36 : decode cX7_mark 36 = .ok (.invokestatic 79, 3) := by decide +kernel
theorem dX7_mark_39 : decode cX7_mark 39 = .ok (.ifCond .eq 6, 3) := by decide +kernel
theorem dX7_mark_42 : decode cX7_mark 42 = .ok (.bipush (-3), 2) := by decide +kernel
theorem dX7_mark_44 : decode cX7_mark 44 = .ok (.ireturn, 1) := by decide +kernel
theorem dX7_mark_45 : decode cX7_mark 45 = .ok (.aload_n 0, 1) := by decide +kernel
theorem dX7_mark_46 : decode cX7_mark 46 = .ok (.getfield 12, 3) := by decide +kernel
theorem dX7_mark_49 : decode cX7_mark 49 = .ok (.getfield 108, 3) := by decide +kernel
theorem dX7_mark_52 : decode cX7_mark 52 = .ok (.bipush 6, 2) := by decide +kernel
theorem dX7_mark_54 : decode cX7_mark 54 = .ok (.if_icmp .lt 6, 3) := by decide +kernel
theorem dX7_mark_57 : decode cX7_mark 57 = .ok (.bipush (-2), 2) := by decide +kernel
theorem dX7_mark_59 : decode cX7_mark 59 = .ok (.ireturn, 1) := by decide +kernel
theorem dX7_mark_60 : decode cX7_mark 60 = .ok (.aload_n 0, 1) := by decide +kernel
theorem dX7_mark_61 : decode cX7_mark 61 = .ok (.getfield 12, 3) := by decide +kernel
theorem dX7_mark_64 : decode cX7_mark 64 = .ok (.getfield 86, 3) := by decide +kernel
theorem dX7_mark_67 : decode cX7_mark 67 = .ok (.iload_n 1, 1) := by decide +kernel
theorem dX7_mark_68 : decode cX7_mark 68 = .ok (.aaload, 1) := by decide +kernel
theorem dX7_mark_69 : decode cX7_mark 69 = .ok (.dup, 1) := by decide +kernel
theorem dX7_mark_70 : decode cX7_mark 70 = .ok (.getfield 105, 3) := by decide +kernel
theorem dX7_mark_73 : decode cX7_mark 73 = .ok (.iconst 1, 1) := by decide +kernel
theorem dX7_mark_74 : decode cX7_mark 74 = .ok (.iload_n 2, 1) := by decide +kernel
theorem dX7_mark_75 : decode cX7_mark 75 = .ok (.ishl, 1) := by decide +kernel
theorem dX7_mark_76 : decode cX7_mark 76 = .ok (.ior, 1) := by decide +kernel
theorem dX7_mark_77 : decode cX7_mark 77 = .ok (.putfield 105, 3) := by decide +kernel
theorem dX7_mark_80 : decode cX7_mark 80 = .ok (.aload_n 0, 1) := by decide +kernel
theorem dX7_mark_81 : decode cX7_mark 81 = .ok (.getfield 12, 3) := by decide +kernel
theorem dX7_mark_84 : decode cX7_mark 84 = .ok (.getfield 86, 3) := by decide +kernel
theorem dX7_mark_87 : decode cX7_mark 87 = .ok (.iload_n 2, 1) := by decide +kernel
theorem dX7_mark_88 : decode cX7_mark 88 = .ok (.aaload, 1) := by decide +kernel
theorem dX7_mark_89 : decode cX7_mark 89 = .ok (.dup, 1) := by decide +kernel
theorem dX7_mark_90 : decode cX7_mark 90 = .ok (.getfield 105, 3) := by decide +kernel
theorem dX7_mark_93 : decode cX7_mark 93 = .ok (.iconst 1, 1) := by decide +kernel
theorem dX7_mark_94 : decode cX7_mark 94 = .ok (.iload_n 1, 1) := by decide +kernel
theorem dX7_mark_95 : decode cX7_mark 95 = .ok (.ishl, 1) := by decide +kernel
theorem dX7_mark_96 : decode cX7_mark 96 = .ok (.ior, 1) := by decide +kernel
theorem dX7_mark_97 : decode cX7_mark 97 = .ok (.putfield 105, 3) := by decide +kernel
theorem dX7_mark_100 : decode cX7_mark 100 = .ok (.aload_n 0, 1) := by decide +kernel
theorem dX7_mark_101 : decode cX7_mark 101 = .ok (.getfield 12, 3) := by decide +kernel
theorem dX7_mark_104 : decode cX7_mark 104 = .ok (.dup, 1) := by decide +kernel
theorem dX7_mark_105 : decode cX7_mark 105 = .ok (.getfield 108, 3) := by decide +kernel
theorem dX7_mark_108 : decode cX7_mark 108 = .ok (.iconst 1, 1) := by decide +kernel
theorem dX7_mark_109 : decode cX7_mark 109 = .ok (.iadd, 1) := by decide +kernel
theorem dX7_mark_110 : decode cX7_mark 110 = .ok (.putfield 108, 3) := by decide +kernel
theorem dX7_mark_113 : decode cX7_mark 113 = .ok (.aload_n 0, 1) := by decide +kernel
theorem dX7_mark_114 : decode cX7_mark 114 = .ok (.getfield 12, 3) := by decide +kernel
theorem dX7_mark_117 : decode cX7_mark 117 = .ok (.getfield 108, 3) := by decide +kernel
theorem dX7_mark_120 : decode cX7_mark 120 = .ok (.ireturn, 1) := by decide +kernel
set_option maxRecDepth 20000 in
theorem ggX7_of_X7_isCase : GoodIn wsX7_of wsX7_isCase := goodIn_r _ [12, 1, 13, 14, 15, 11, 16, 39, 40, 41, 42, 43, 44, 45, 46, 47, 48, 49, 50] (by decide +kernel) (by decide +kernel)
set_option maxRecDepth 20000 in
theorem gX7_of_X7_isCase : GoodIn wsX7_of (wsV RX7 96 RX7 yX7_isCase wsX7_isCase) := goodIn_app (goodIn_of _ (by decide +kernel)) ggX7_of_X7_isCase
set_option maxRecDepth 20000 in
theorem ggX7_of_X1_headOfQuarrel : GoodIn wsX7_of wsX1_headOfQuarrel := goodIn_r _ [21, 22, 23, 24, 20, 25, 26, 27, 28, 29, 11, 30, 44, 45, 46, 47, 48, 49, 50, 51, 52, 53, 54, 55, 56, 57, 58, 59, 60, 61] (by decide +kernel) (by decide +kernel)
set_option maxRecDepth 20000 in
theorem gX7_of_X1_headOfQuarrel : GoodIn wsX7_of (wsV RX7 120 RX1 yX1_headOfQuarrel wsX1_headOfQuarrel) := goodIn_app (goodIn_of _ (by decide +kernel)) ggX7_of_X1_headOfQuarrel
set_option maxRecDepth 20000 in
theorem ggX7_of_X1_quarrelBits : GoodIn wsX7_of wsX1_quarrelBits := goodIn_r _ [25, 26, 27, 28, 29, 11, 30, 44, 45, 46, 47, 48, 49, 50, 51, 52, 53, 54, 55, 56, 57, 58, 59, 60, 61] (by decide +kernel) (by decide +kernel)
set_option maxRecDepth 20000 in
theorem gX7_of_X1_quarrelBits : GoodIn wsX7_of (wsV RX7 124 RX1 yX1_quarrelBits wsX1_quarrelBits) := goodIn_app (goodIn_of _ (by decide +kernel)) ggX7_of_X1_quarrelBits
set_option maxRecDepth 20000 in
theorem ggX7_of_J6_bitCount_0f7a4 : GoodIn wsX7_of wsJ6_bitCount_0f7a4 := goodIn_r _ [35, 36, 37, 38] (by decide +kernel) (by decide +kernel)
set_option maxRecDepth 20000 in
theorem gX7_of_J6_bitCount_0f7a4 : GoodIn wsX7_of (va_wsS RX7 127 yJ6_bitCount_0f7a4 wsJ6_bitCount_0f7a4) := goodIn_app (goodIn_of _ (by decide +kernel)) ggX7_of_J6_bitCount_0f7a4
theorem dX7_of_0 : decode cX7_of 0 = .ok (.aload_n 0, 1) := by decide +kernel
theorem dX7_of_1 : decode cX7_of 1 = .ok (.iload_n 1, 1) := by decide +kernel
theorem dX7_of_2 : decode cX7_of 2 = .ok (.invokevirtual 96, 3) := by decide +kernel
theorem dX7_of_5 : decode cX7_of 5 = .ok (.ifCond .ne 5, 3) := by decide +kernel
theorem dX7_of_8 : decode cX7_of 8 = .ok (.iconst (-1), 1) := by decide +kernel
theorem dX7_of_9 : decode cX7_of 9 = .ok (.ireturn, 1) := by decide +kernel
theorem dX7_of_10 : decode cX7_of 10 = .ok (.aload_n 0, 1) := by decide +kernel
theorem dX7_of_11 : decode cX7_of 11 = .ok (.getfield 12, 3) := by decide +kernel
theorem dX7_of_14 : decode cX7_of 14 = .ok (.getfield 86, 3) := by decide +kernel
theorem dX7_of_17 : decode cX7_of 17 = .ok (.iload_n 1, 1) := by decide +kernel
theorem dX7_of_18 : decode cX7_of 18 = .ok (.aaload, 1) := by decide +kernel
theorem dX7_of_19 : decode cX7_of 19 = .ok (.astore_n 3, 1) := by decide +kernel
theorem dX7_of_20 : decode cX7_of 20 = .ok (.iload_n 2, 1) := by decide +kernel
theorem dX7_of_21 : decode cX7_of 21 = .ok (.tableswitch 115 0 7 #[47, 54, 61, 66, 84, 89, 98, 110], 47) := by decide +kernel
theorem dX7_of_68 : decode cX7_of 68 = .ok (.aload_n 3, 1) := by decide +kernel
theorem dX7_of_69 : decode cX7_of 69 = .ok (.getfield 111, 3) := by decide +kernel
theorem dX7_of_72 : decode cX7_of 72 = .ok (.iconst 0, 1) := by decide +kernel
theorem dX7_of_73 : decode cX7_of 73 = .ok (.iaload, 1) := by decide +kernel
theorem dX7_of_74 : decode cX7_of 74 = .ok (.ireturn, 1) := by decide +kernel
theorem dX7_of_75 : decode cX7_of 75 = .ok (.aload_n 3, 1) := by decide +kernel
theorem dX7_of_76 : decode cX7_of 76 = .ok (.getfield 111, 3) := by decide +kernel
theorem dX7_of_79 : decode cX7_of 79 = .ok (.iconst 1, 1) := by decide +kernel
theorem dX7_of_80 : decode cX7_of 80 = .ok (.iaload, 1) := by decide +kernel
theorem dX7_of_81 : decode cX7_of 81 = .ok (.ireturn, 1) := by decide +kernel
theorem dX7_of_82 : decode cX7_of 82 = .ok (.aload_n 3, 1) := by decide +kernel
theorem dX7_of_83 : decode cX7_of 83 = .ok (.getfield 99, 3) := by decide +kernel
end
section
theorem dX7_of_86 : decode cX7_of 86 = .ok (.ireturn, 1) := by decide +kernel
theorem dX7_of_87 : decode cX7_of 87 = .ok (.aload_n 3, 1) := by decide +kernel
theorem dX7_of_88 : decode cX7_of 88 = .ok (.getfield 99, 3) := by decide +kernel
theorem dX7_of_91 : decode cX7_of 91 = .ok (.iconst 1, 1) := by decide +kernel
theorem dX7_of_92 : decode cX7_of 92 = .ok (.if_icmp .ne 10, 3) := by decide +kernel
theorem dX7_of_95 : decode cX7_of 95 = .ok (.aload_n 3, 1) := by decide +kernel
theorem dX7_of_96 : decode cX7_of 96 = .ok (.getfield 114, 3) := by decide +kernel
theorem dX7_of_99 : decode cX7_of 99 = .ok (.goto 5, 3) := by decide +kernel
theorem dX7_of_102 : decode cX7_of 102 = .ok (.bipush (-5), 2) := by decide +kernel
theorem dX7_of_104 : decode cX7_of 104 = .ok (.ireturn, 1) := by decide +kernel
theorem dX7_of_105 : decode cX7_of 105 = .ok (.aload_n 3, 1) := by decide +kernel
theorem dX7_of_106 : decode cX7_of 106 = .ok (.getfield 117, 3) := by decide +kernel
theorem dX7_of_109 : decode cX7_of 109 = .ok (.ireturn, 1) := by decide +kernel
theorem dX7_of_110 : decode cX7_of 110 = .ok (.aload_n 0, 1) := by decide +kernel
theorem dX7_of_111 : decode cX7_of 111 = .ok (.getfield 12, 3) := by decide +kernel
theorem dX7_of_114 : decode cX7_of 114 = .ok (.iload_n 1, 1) := by decide +kernel
theorem dX7_of_115 : decode cX7_of 115 = .ok (.invokevirtual 120, 3) := by decide +kernel
theorem dX7_of_118 : decode cX7_of 118 = .ok (.ireturn, 1) := by decide +kernel
theorem dX7_of_119 : decode cX7_of 119 = .ok (.aload_n 0, 1) := by decide +kernel
theorem dX7_of_120 : decode cX7_of 120 = .ok (.getfield 12, 3) := by decide +kernel
theorem dX7_of_123 : decode cX7_of 123 = .ok (.iload_n 1, 1) := by decide +kernel
theorem dX7_of_124 : decode cX7_of 124 = .ok (.invokevirtual 124, 3) := by decide +kernel
theorem dX7_of_127 : decode cX7_of 127 = .ok (.invokestatic 127, 3) := by decide +kernel
theorem dX7_of_130 : decode cX7_of 130 = .ok (.ireturn, 1) := by decide +kernel
theorem dX7_of_131 : decode cX7_of 131 = .ok (.aload_n 3, 1) := by decide +kernel
theorem dX7_of_132 : decode cX7_of 132 = .ok (.getfield 102, 3) := by decide +kernel
theorem dX7_of_135 : decode cX7_of 135 = .ok (.ireturn, 1) := by decide +kernel
theorem dX7_of_136 : decode cX7_of 136 = .ok (.iconst (-1), 1) := by decide +kernel
theorem dX7_of_137 : decode cX7_of 137 = .ok (.ireturn, 1) := by decide +kernel
set_option maxRecDepth 20000 in
theorem ggX7_offer_X7_isCase : GoodIn wsX7_offer wsX7_isCase := goodIn_r _ [10, 1, 11, 12, 13, 9, 14, 28, 29, 30, 31, 32, 33, 34, 35, 36, 37, 38, 39] (by decide +kernel) (by decide +kernel)
set_option maxRecDepth 20000 in
theorem gX7_offer_X7_isCase : GoodIn wsX7_offer (wsV RX7 96 RX7 yX7_isCase wsX7_isCase) := goodIn_app (goodIn_of _ (by decide +kernel)) ggX7_offer_X7_isCase
set_option maxRecDepth 20000 in
theorem ggX7_offer_X7_isSide : GoodIn wsX7_offer wsX7_isSide := goodIn_r _ [17, 12, 13, 9, 14] (by decide +kernel) (by decide +kernel)
set_option maxRecDepth 20000 in
theorem gX7_offer_X7_isSide : GoodIn wsX7_offer (va_wsS RX7 132 yX7_isSide wsX7_isSide) := goodIn_app (goodIn_of _ (by decide +kernel)) ggX7_offer_X7_isSide
set_option maxRecDepth 20000 in
theorem ggX7_offer_X7_isWithin : GoodIn wsX7_offer wsX7_isWithin := goodIn_r _ [14] (by decide +kernel) (by decide +kernel)
set_option maxRecDepth 20000 in
theorem gX7_offer_X7_isWithin : GoodIn wsX7_offer (va_wsS RX7 37 yX7_isWithin wsX7_isWithin) := goodIn_app (goodIn_of _ (by decide +kernel)) ggX7_offer_X7_isWithin
set_option maxRecDepth 20000 in
theorem ggX7_offer_X0_endRound : GoodIn wsX7_offer wsX0_endRound := goodIn_r _ [22, 23, 24, 25, 26, 27, 40, 41, 42, 43, 44, 45, 46, 47, 48, 49, 50] (by decide +kernel) (by decide +kernel)
set_option maxRecDepth 20000 in
theorem gX7_offer_X0_endRound : GoodIn wsX7_offer (wsV RX7 138 RX0 yX0_endRound wsX0_endRound) := goodIn_app (goodIn_of _ (by decide +kernel)) ggX7_offer_X0_endRound
theorem dX7_offer_0 : decode cX7_offer 0 = .ok (.aload_n 0, 1) := by decide +kernel
theorem dX7_offer_1 : decode cX7_offer 1 = .ok (.iload_n 1, 1) := by decide +kernel
theorem dX7_offer_2 : decode cX7_offer 2 = .ok (.invokevirtual 96, 3) := by decide +kernel
theorem dX7_offer_5 : decode cX7_offer 5 = .ok (.ifCond .eq 20, 3) := by decide +kernel
theorem dX7_offer_8 : decode cX7_offer 8 = .ok (.iload_n 2, 1) := by decide +kernel
theorem dX7_offer_9 : decode cX7_offer 9 = .ok (.invokestatic 132, 3) := by decide +kernel
theorem dX7_offer_12 : decode cX7_offer 12 = .ok (.ifCond .eq 13, 3) := by decide +kernel
theorem dX7_offer_15 : decode cX7_offer 15 = .ok (.iload_n 3, 1) := by decide +kernel
theorem dX7_offer_16 : decode cX7_offer 16 = .ok (.iconst 0, 1) := by decide +kernel
theorem dX7_offer_17 : decode cX7_offer 17 = .ok (.bipush 100, 2) := by decide +kernel
theorem dX7_offer_19 : decode cX7_offer 19 = .ok (.invokestatic 37, 3) := by decide +kernel
theorem dX7_offer_22 : decode cX7_offer 22 = .ok (.ifCond .ne 5, 3) := by decide +kernel
theorem dX7_offer_25 : decode cX7_offer 25 = .ok (.iconst (-1), 1) := by decide +kernel
theorem dX7_offer_26 : decode cX7_offer 26 = .ok (.ireturn, 1) := by decide +kernel
theorem dX7_offer_27 : decode cX7_offer 27 = .ok (.aload_n 0, 1) := by decide +kernel
theorem dX7_offer_28 : decode cX7_offer 28 = .ok (.getfield 12, 3) := by decide +kernel
theorem dX7_offer_31 : decode cX7_offer 31 = .ok (.getfield 86, 3) := by decide +kernel
theorem dX7_offer_34 : decode cX7_offer 34 = .ok (.iload_n 1, 1) := by decide +kernel
theorem dX7_offer_35 : decode cX7_offer 35 = .ok (.aaload, 1) := by decide +kernel
theorem dX7_offer_36 : decode cX7_offer 36 = .ok (.astore 4, 2) := by decide +kernel
theorem dX7_offer_38 : decode cX7_offer 38 = .ok (.aload 4, 2) := by decide +kernel
theorem dX7_offer_40 : decode cX7_offer 40 = .ok (.getfield 99, 3) := by decide +kernel
theorem dX7_offer_43 : decode cX7_offer 43 = .ok (.ifCond .eq 6, 3) := by decide +kernel
theorem dX7_offer_46 : decode cX7_offer 46 = .ok (.bipush (-4), 2) := by decide +kernel
theorem dX7_offer_48 : decode cX7_offer 48 = .ok (.ireturn, 1) := by decide +kernel
theorem dX7_offer_49 : decode cX7_offer 49 = .ok (.aload 4, 2) := by decide +kernel
theorem dX7_offer_51 : decode cX7_offer 51 = .ok (.getfield 135, 3) := by decide +kernel
theorem dX7_offer_54 : decode cX7_offer 54 = .ok (.iload_n 2, 1) := by decide +kernel
theorem dX7_offer_55 : decode cX7_offer 55 = .ok (.iaload, 1) := by decide +kernel
theorem dX7_offer_56 : decode cX7_offer 56 = .ok (.iconst (-1), 1) := by decide +kernel
theorem dX7_offer_57 : decode cX7_offer 57 = .ok (.if_icmp .eq 6, 3) := by decide +kernel
theorem dX7_offer_60 : decode cX7_offer 60 = .ok (.bipush (-3), 2) := by decide +kernel
theorem dX7_offer_62 : decode cX7_offer 62 = .ok (.ireturn, 1) := by decide +kernel
theorem dX7_offer_63 : decode cX7_offer 63 = .ok (.aload 4, 2) := by decide +kernel
theorem dX7_offer_65 : decode cX7_offer 65 = .ok (.getfield 117, 3) := by decide +kernel
theorem dX7_offer_68 : decode cX7_offer 68 = .ok (.iconst 5, 1) := by decide +kernel
theorem dX7_offer_69 : decode cX7_offer 69 = .ok (.if_icmp .lt 6, 3) := by decide +kernel
theorem dX7_offer_72 : decode cX7_offer 72 = .ok (.bipush (-2), 2) := by decide +kernel
theorem dX7_offer_74 : decode cX7_offer 74 = .ok (.ireturn, 1) := by decide +kernel
theorem dX7_offer_75 : decode cX7_offer 75 = .ok (.aload 4, 2) := by decide +kernel
theorem dX7_offer_77 : decode cX7_offer 77 = .ok (.getfield 135, 3) := by decide +kernel
theorem dX7_offer_80 : decode cX7_offer 80 = .ok (.iload_n 2, 1) := by decide +kernel
theorem dX7_offer_81 : decode cX7_offer 81 = .ok (.iload_n 3, 1) := by decide +kernel
theorem dX7_offer_82 : decode cX7_offer 82 = .ok (.iastore, 1) := by decide +kernel
theorem dX7_offer_83 : decode cX7_offer 83 = .ok (.aload 4, 2) := by decide +kernel
theorem dX7_offer_85 : decode cX7_offer 85 = .ok (.getfield 135, 3) := by decide +kernel
theorem dX7_offer_88 : decode cX7_offer 88 = .ok (.iconst 1, 1) := by decide +kernel
theorem dX7_offer_89 : decode cX7_offer 89 = .ok (.iload_n 2, 1) := by decide +kernel
theorem dX7_offer_90 : decode cX7_offer 90 = .ok (.isub, 1) := by decide +kernel
theorem dX7_offer_91 : decode cX7_offer 91 = .ok (.iaload, 1) := by decide +kernel
theorem dX7_offer_92 : decode cX7_offer 92 = .ok (.iconst (-1), 1) := by decide +kernel
theorem dX7_offer_93 : decode cX7_offer 93 = .ok (.if_icmp .ne 5, 3) := by decide +kernel
theorem dX7_offer_96 : decode cX7_offer 96 = .ok (.iconst 0, 1) := by decide +kernel
theorem dX7_offer_97 : decode cX7_offer 97 = .ok (.ireturn, 1) := by decide +kernel
theorem dX7_offer_98 : decode cX7_offer 98 = .ok (.aload 4, 2) := by decide +kernel
theorem dX7_offer_100 : decode cX7_offer 100 = .ok (.invokevirtual 138, 3) := by decide +kernel
theorem dX7_offer_103 : decode cX7_offer 103 = .ok (.ifCond .eq 7, 3) := by decide +kernel
theorem dX7_offer_106 : decode cX7_offer 106 = .ok (.iconst 1, 1) := by decide +kernel
theorem dX7_offer_107 : decode cX7_offer 107 = .ok (.goto 4, 3) := by decide +kernel
theorem dX7_offer_110 : decode cX7_offer 110 = .ok (.iconst 2, 1) := by decide +kernel
theorem dX7_offer_111 : decode cX7_offer 111 = .ok (.ireturn, 1) := by decide +kernel
set_option maxRecDepth 20000 in
theorem ggX7_put_X7_isCase : GoodIn wsX7_put wsX7_isCase := goodIn_r _ [8, 1, 9, 10, 11, 7, 12, 16, 17, 18, 19, 20, 21, 22, 23, 24, 25, 26, 27] (by decide +kernel) (by decide +kernel)
set_option maxRecDepth 20000 in
theorem gX7_put_X7_isCase : GoodIn wsX7_put (wsV RX7 96 RX7 yX7_isCase wsX7_isCase) := goodIn_app (goodIn_of _ (by decide +kernel)) ggX7_put_X7_isCase
set_option maxRecDepth 20000 in
theorem ggX7_put_X7_isSide : GoodIn wsX7_put wsX7_isSide := goodIn_r _ [15, 10, 11, 7, 12] (by decide +kernel) (by decide +kernel)
set_option maxRecDepth 20000 in
theorem gX7_put_X7_isSide : GoodIn wsX7_put (va_wsS RX7 132 yX7_isSide wsX7_isSide) := goodIn_app (goodIn_of _ (by decide +kernel)) ggX7_put_X7_isSide
theorem dX7_put_0 : decode cX7_put 0 = .ok (.aload_n 0, 1) := by decide +kernel
theorem dX7_put_1 : decode cX7_put 1 = .ok (.iload_n 1, 1) := by decide +kernel
theorem dX7_put_2 : decode cX7_put 2 = .ok (.invokevirtual 96, 3) := by decide +kernel
theorem dX7_put_5 : decode cX7_put 5 = .ok (.ifCond .eq 10, 3) := by decide +kernel
theorem dX7_put_8 : decode cX7_put 8 = .ok (.iload_n 2, 1) := by decide +kernel
theorem dX7_put_9 : decode cX7_put 9 = .ok (.invokestatic 132, 3) := by decide +kernel
theorem dX7_put_12 : decode cX7_put 12 = .ok (.ifCond .ne 5, 3) := by decide +kernel
theorem dX7_put_15 : decode cX7_put 15 = .ok (.iconst (-1), 1) := by decide +kernel
theorem dX7_put_16 : decode cX7_put 16 = .ok (.ireturn, 1) := by decide +kernel
theorem dX7_put_17 : decode cX7_put 17 = .ok (.aload_n 0, 1) := by decide +kernel
theorem dX7_put_18 : decode cX7_put 18 = .ok (.getfield 12, 3) := by decide +kernel
theorem dX7_put_21 : decode cX7_put 21 = .ok (.getfield 86, 3) := by decide +kernel
theorem dX7_put_24 : decode cX7_put 24 = .ok (.iload_n 1, 1) := by decide +kernel
theorem dX7_put_25 : decode cX7_put 25 = .ok (.aaload, 1) := by decide +kernel
theorem dX7_put_26 : decode cX7_put 26 = .ok (.getfield 135, 3) := by decide +kernel
theorem dX7_put_29 : decode cX7_put 29 = .ok (.iload_n 2, 1) := by decide +kernel
theorem dX7_put_30 : decode cX7_put 30 = .ok (.iaload, 1) := by decide +kernel
theorem dX7_put_31 : decode cX7_put 31 = .ok (.iconst (-1), 1) := by decide +kernel
theorem dX7_put_32 : decode cX7_put 32 = .ok (.if_icmp .ne 7, 3) := by decide +kernel
theorem dX7_put_35 : decode cX7_put 35 = .ok (.iconst 0, 1) := by decide +kernel
theorem dX7_put_36 : decode cX7_put 36 = .ok (.goto 4, 3) := by decide +kernel
theorem dX7_put_39 : decode cX7_put 39 = .ok (.iconst 1, 1) := by decide +kernel
theorem dX7_put_40 : decode cX7_put 40 = .ok (.ireturn, 1) := by decide +kernel
set_option maxRecDepth 20000 in
theorem ggX7_learns_X7_isCase : GoodIn wsX7_learns wsX7_isCase := goodIn_r _ [8, 1, 9, 10, 11, 7, 12, 40, 41, 42, 43, 44, 45, 46, 47, 48, 49, 50, 51] (by decide +kernel) (by decide +kernel)
set_option maxRecDepth 20000 in
theorem gX7_learns_X7_isCase : GoodIn wsX7_learns (wsV RX7 96 RX7 yX7_isCase wsX7_isCase) := goodIn_app (goodIn_of _ (by decide +kernel)) ggX7_learns_X7_isCase
set_option maxRecDepth 20000 in
theorem ggX7_learns_X7_isSide : GoodIn wsX7_learns wsX7_isSide := goodIn_r _ [15, 10, 11, 7, 12] (by decide +kernel) (by decide +kernel)
set_option maxRecDepth 20000 in
theorem gX7_learns_X7_isSide : GoodIn wsX7_learns (va_wsS RX7 132 yX7_isSide wsX7_isSide) := goodIn_app (goodIn_of _ (by decide +kernel)) ggX7_learns_X7_isSide
set_option maxRecDepth 20000 in
theorem ggX7_learns_X7_isWithin : GoodIn wsX7_learns wsX7_isWithin := goodIn_r _ [12] (by decide +kernel) (by decide +kernel)
set_option maxRecDepth 20000 in
theorem gX7_learns_X7_isWithin : GoodIn wsX7_learns (va_wsS RX7 37 yX7_isWithin wsX7_isWithin) := goodIn_app (goodIn_of _ (by decide +kernel)) ggX7_learns_X7_isWithin
set_option maxRecDepth 20000 in
theorem ggX7_learns_X0_greatestOfOther : GoodIn wsX7_learns wsX0_greatestOfOther := goodIn_r _ [20, 21, 22, 23, 24, 25, 26, 27, 28, 29, 19, 30, 31, 32, 52, 53, 54, 55, 56, 57, 58, 59, 60, 61, 62] (by decide +kernel) (by decide +kernel)
set_option maxRecDepth 20000 in
theorem gX7_learns_X0_greatestOfOther : GoodIn wsX7_learns (wsV RX7 142 RX0 yX0_greatestOfOther wsX0_greatestOfOther) := goodIn_app (goodIn_of _ (by decide +kernel)) ggX7_learns_X0_greatestOfOther
set_option maxRecDepth 20000 in
theorem ggX7_learns_X0_leastOfOther : GoodIn wsX7_learns wsX0_leastOfOther := goodIn_r _ [36, 21, 22, 37, 38, 25, 39, 27, 28, 29, 19, 30, 31, 32, 52, 53, 54, 55, 56, 57, 58, 59, 60, 61, 62] (by decide +kernel) (by decide +kernel)
set_option maxRecDepth 20000 in
theorem gX7_learns_X0_leastOfOther : GoodIn wsX7_learns (wsV RX7 146 RX0 yX0_leastOfOther wsX0_leastOfOther) := goodIn_app (goodIn_of _ (by decide +kernel)) ggX7_learns_X0_leastOfOther
theorem dX7_learns_0 : decode cX7_learns 0 = .ok (.aload_n 0, 1) := by decide +kernel
theorem dX7_learns_1 : decode cX7_learns 1 = .ok (.iload_n 1, 1) := by decide +kernel
theorem dX7_learns_2 : decode cX7_learns 2 = .ok (.invokevirtual 96, 3) := by decide +kernel
theorem dX7_learns_5 : decode cX7_learns 5 = .ok (.ifCond .eq 10, 3) := by decide +kernel
theorem dX7_learns_8 : decode cX7_learns 8 = .ok (.iload_n 2, 1) := by decide +kernel
theorem dX7_learns_9 : decode cX7_learns 9 = .ok (.invokestatic 132, 3) := by decide +kernel
theorem dX7_learns_12 : decode cX7_learns 12 = .ok (.ifCond .ne 5, 3) := by decide +kernel
theorem dX7_learns_15 : decode cX7_learns 15 = .ok (.iconst (-1), 1) := by decide +kernel
theorem dX7_learns_16 : decode cX7_learns 16 = .ok (.ireturn, 1) := by decide +kernel
theorem dX7_learns_17 : decode cX7_learns 17 = .ok (.aload_n 0, 1) := by decide +kernel
theorem dX7_learns_18 : decode cX7_learns 18 = .ok (.getfield 12, 3) := by decide +kernel
theorem dX7_learns_21 : decode cX7_learns 21 = .ok (.getfield 86, 3) := by decide +kernel
theorem dX7_learns_24 : decode cX7_learns 24 = .ok (.iload_n 1, 1) := by decide +kernel
theorem dX7_learns_25 : decode cX7_learns 25 = .ok (.aaload, 1) := by decide +kernel
theorem dX7_learns_26 : decode cX7_learns 26 = .ok (.astore 5, 2) := by decide +kernel
theorem dX7_learns_28 : decode cX7_learns 28 = .ok (.iload_n 3, 1) := by decide +kernel
theorem dX7_learns_29 : decode cX7_learns 29 = .ok (.iconst 0, 1) := by decide +kernel
theorem dX7_learns_30 : decode cX7_learns 30 = .ok (.aload 5, 2) := by decide +kernel
theorem dX7_learns_32 : decode cX7_learns 32 = .ok (.getfield 117, 3) := by decide +kernel
theorem dX7_learns_35 : decode cX7_learns 35 = .ok (.iconst 1, 1) := by decide +kernel
theorem dX7_learns_36 : decode cX7_learns 36 = .ok (.isub, 1) := by decide +kernel
theorem dX7_learns_37 : decode cX7_learns 37 = .ok (.invokestatic 37, 3) := by decide +kernel
theorem dX7_learns_40 : decode cX7_learns 40 = .ok (.ifCond .ne 6, 3) := by decide +kernel
theorem dX7_learns_43 : decode cX7_learns 43 = .ok (.bipush (-5), 2) := by decide +kernel
theorem dX7_learns_45 : decode cX7_learns 45 = .ok (.ireturn, 1) := by decide +kernel
theorem dX7_learns_46 : decode cX7_learns 46 = .ok (.iload 4, 2) := by decide +kernel
theorem dX7_learns_48 : decode cX7_learns 48 = .ok (.ifCond .eq 13, 3) := by decide +kernel
theorem dX7_learns_51 : decode cX7_learns 51 = .ok (.aload 5, 2) := by decide +kernel
theorem dX7_learns_53 : decode cX7_learns 53 = .ok (.iload_n 2, 1) := by decide +kernel
theorem dX7_learns_54 : decode cX7_learns 54 = .ok (.iload_n 3, 1) := by decide +kernel
theorem dX7_learns_55 : decode cX7_learns 55 = .ok (.invokevirtual 142, 3) := by decide +kernel
theorem dX7_learns_58 : decode cX7_learns 58 = .ok (.goto 10, 3) := by decide +kernel
theorem dX7_learns_61 : decode cX7_learns 61 = .ok (.aload 5, 2) := by decide +kernel
theorem dX7_learns_63 : decode cX7_learns 63 = .ok (.iload_n 2, 1) := by decide +kernel
theorem dX7_learns_64 : decode cX7_learns 64 = .ok (.iload_n 3, 1) := by decide +kernel
theorem dX7_learns_65 : decode cX7_learns 65 = .ok (.invokevirtual 146, 3) := by decide +kernel
theorem dX7_learns_68 : decode cX7_learns 68 = .ok (.ireturn, 1) := by decide +kernel
set_option maxRecDepth 20000 in
theorem ggX7_maySit_X7_isWithin : GoodIn wsX7_maySit wsX7_isWithin := goodIn_r _ [6] (by decide +kernel) (by decide +kernel)
set_option maxRecDepth 20000 in
theorem gX7_maySit_X7_isWithin : GoodIn wsX7_maySit (va_wsS RX7 37 yX7_isWithin wsX7_isWithin) := goodIn_app (goodIn_of _ (by decide +kernel)) ggX7_maySit_X7_isWithin
set_option maxRecDepth 20000 in
theorem ggX7_maySit_X1_hasPair : GoodIn wsX7_maySit wsX1_hasPair := goodIn_r _ [11, 12, 41, 42, 43, 44, 45, 46, 47] (by decide +kernel) (by decide +kernel)
set_option maxRecDepth 20000 in
theorem gX7_maySit_X1_hasPair : GoodIn wsX7_maySit (wsV RX7 149 RX1 yX1_hasPair wsX1_hasPair) := goodIn_app (goodIn_of _ (by decide +kernel)) ggX7_maySit_X1_hasPair
set_option maxRecDepth 20000 in
theorem ggX7_maySit_X7_isCase : GoodIn wsX7_maySit wsX7_isCase := goodIn_r _ [16, 1, 17, 3, 4, 5, 6, 36, 37, 38, 39, 40, 41, 42, 43, 44, 45, 46, 47] (by decide +kernel) (by decide +kernel)
set_option maxRecDepth 20000 in
theorem gX7_maySit_X7_isCase : GoodIn wsX7_maySit (wsV RX7 96 RX7 yX7_isCase wsX7_isCase) := goodIn_app (goodIn_of _ (by decide +kernel)) ggX7_maySit_X7_isCase
set_option maxRecDepth 20000 in
theorem ggX7_maySit_X1_pairFits : GoodIn wsX7_maySit wsX1_pairFits := goodIn_r _ [21, 22, 23, 24, 25, 26, 27, 5, 28, 29, 30, 31, 10, 32, 33, 34, 35, 41, 42, 43, 44, 45, 46, 47, 48, 49, 50, 51, 52, 53, 54, 55, 56, 57, 58, 59, 60, 61, 62, 63] (by decide +kernel) (by decide +kernel)
set_option maxRecDepth 20000 in
theorem gX7_maySit_X1_pairFits : GoodIn wsX7_maySit (wsV RX7 152 RX1 yX1_pairFits wsX1_pairFits) := goodIn_app (goodIn_of _ (by decide +kernel)) ggX7_maySit_X1_pairFits
theorem dX7_maySit_0 : decode cX7_maySit 0 = .ok (.iload_n 1, 1) := by decide +kernel
theorem dX7_maySit_1 : decode cX7_maySit 1 = .ok (.iconst 0, 1) := by decide +kernel
theorem dX7_maySit_2 : decode cX7_maySit 2 = .ok (.iconst 5, 1) := by decide +kernel
theorem dX7_maySit_3 : decode cX7_maySit 3 = .ok (.invokestatic 37, 3) := by decide +kernel
theorem dX7_maySit_6 : decode cX7_maySit 6 = .ok (.ifCond .eq 22, 3) := by decide +kernel
theorem dX7_maySit_9 : decode cX7_maySit 9 = .ok (.aload_n 0, 1) := by decide +kernel
theorem dX7_maySit_10 : decode cX7_maySit 10 = .ok (.getfield 12, 3) := by decide +kernel
theorem dX7_maySit_13 : decode cX7_maySit 13 = .ok (.iload_n 1, 1) := by decide +kernel
theorem dX7_maySit_14 : decode cX7_maySit 14 = .ok (.invokevirtual 149, 3) := by decide +kernel
theorem dX7_maySit_17 : decode cX7_maySit 17 = .ok (.ifCond .eq 11, 3) := by decide +kernel
theorem dX7_maySit_20 : decode cX7_maySit 20 = .ok (.aload_n 0, 1) := by decide +kernel
theorem dX7_maySit_21 : decode cX7_maySit 21 = .ok (.iload_n 2, 1) := by decide +kernel
theorem dX7_maySit_22 : decode cX7_maySit 22 = .ok (.invokevirtual 96, 3) := by decide +kernel
theorem dX7_maySit_25 : decode cX7_maySit 25 = .ok (.ifCond .ne 5, 3) := by decide +kernel
theorem dX7_maySit_28 : decode cX7_maySit 28 = .ok (.iconst (-1), 1) := by decide +kernel
theorem dX7_maySit_29 : decode cX7_maySit 29 = .ok (.ireturn, 1) := by decide +kernel
theorem dX7_maySit_30 : decode cX7_maySit 30 = .ok (.aload_n 0, 1) := by decide +kernel
theorem dX7_maySit_31 : decode cX7_maySit 31 = .ok (.getfield 12, 3) := by decide +kernel
theorem dX7_maySit_34 : decode cX7_maySit 34 = .ok (.iload_n 1, 1) := by decide +kernel
theorem dX7_maySit_35 : decode cX7_maySit 35 = .ok (.aload_n 0, 1) := by decide +kernel
theorem dX7_maySit_36 : decode cX7_maySit 36 = .ok (.getfield 12, 3) := by decide +kernel
theorem dX7_maySit_39 : decode cX7_maySit 39 = .ok (.getfield 86, 3) := by decide +kernel
theorem dX7_maySit_42 : decode cX7_maySit 42 = .ok (.iload_n 2, 1) := by decide +kernel
theorem dX7_maySit_43 : decode cX7_maySit 43 = .ok (.aaload, 1) := by decide +kernel
theorem dX7_maySit_44 : decode cX7_maySit 44 = .ok (.invokevirtual 152, 3) := by decide +kernel
theorem dX7_maySit_47 : decode cX7_maySit 47 = .ok (.ifCond .eq 7, 3) := by decide +kernel
theorem dX7_maySit_50 : decode cX7_maySit 50 = .ok (.iconst 1, 1) := by decide +kernel
theorem dX7_maySit_51 : decode cX7_maySit 51 = .ok (.goto 4, 3) := by decide +kernel
theorem dX7_maySit_54 : decode cX7_maySit 54 = .ok (.iconst 0, 1) := by decide +kernel
theorem dX7_maySit_55 : decode cX7_maySit 55 = .ok (.ireturn, 1) := by decide +kernel
set_option maxRecDepth 20000 in
theorem ggX7_rooms_X7_isWithin : GoodIn wsX7_rooms wsX7_isWithin := goodIn_r _ [5] (by decide +kernel) (by decide +kernel)
set_option maxRecDepth 20000 in
theorem gX7_rooms_X7_isWithin : GoodIn wsX7_rooms (va_wsS RX7 37 yX7_isWithin wsX7_isWithin) := goodIn_app (goodIn_of _ (by decide +kernel)) ggX7_rooms_X7_isWithin
theorem dX7_rooms_0 : decode cX7_rooms 0 = .ok (.iload_n 1, 1) := by decide +kernel
theorem dX7_rooms_1 : decode cX7_rooms 1 = .ok (.iconst 1, 1) := by decide +kernel
theorem dX7_rooms_2 : decode cX7_rooms 2 = .ok (.iconst 2, 1) := by decide +kernel
theorem dX7_rooms_3 : decode cX7_rooms 3 = .ok (.invokestatic 37, 3) := by decide +kernel
theorem dX7_rooms_6 : decode cX7_rooms 6 = .ok (.ifCond .ne 5, 3) := by decide +kernel
theorem dX7_rooms_9 : decode cX7_rooms 9 = .ok (.iconst (-1), 1) := by decide +kernel
theorem dX7_rooms_10 : decode cX7_rooms 10 = .ok (.ireturn, 1) := by decide +kernel
theorem dX7_rooms_11 : decode cX7_rooms 11 = .ok (.aload_n 0, 1) := by decide +kernel
theorem dX7_rooms_12 : decode cX7_rooms 12 = .ok (.getfield 33, 3) := by decide +kernel
theorem dX7_rooms_15 : decode cX7_rooms 15 = .ok (.istore_n 2, 1) := by decide +kernel
theorem dX7_rooms_16 : decode cX7_rooms 16 = .ok (.aload_n 0, 1) := by decide +kernel
theorem dX7_rooms_17 : decode cX7_rooms 17 = .ok (.iload_n 1, 1) := by decide +kernel
theorem dX7_rooms_18 : decode cX7_rooms 18 = .ok (.putfield 33, 3) := by decide +kernel
theorem dX7_rooms_21 : decode cX7_rooms 21 = .ok (.iload_n 2, 1) := by decide +kernel
theorem dX7_rooms_22 : decode cX7_rooms 22 = .ok (.ireturn, 1) := by decide +kernel
set_option maxRecDepth 20000 in
theorem ggX7_plan_X7_isCase : GoodIn wsX7_plan wsX7_isCase := goodIn_r _ [10, 1, 11, 12, 13, 9, 14, 95, 96, 97, 98, 99, 100, 101, 102, 103, 104, 105, 106] (by decide +kernel) (by decide +kernel)
set_option maxRecDepth 20000 in
theorem gX7_plan_X7_isCase : GoodIn wsX7_plan (wsV RX7 96 RX7 yX7_isCase wsX7_isCase) := goodIn_app (goodIn_of _ (by decide +kernel)) ggX7_plan_X7_isCase
set_option maxRecDepth 20000 in
theorem ggX7_plan_X4_findPlan : GoodIn wsX7_plan wsX4_findPlan := goodIn_r _ [19, 20, 21, 22, 23, 24, 25, 26, 27, 28, 29, 30, 31, 32, 33, 18, 34, 35, 36, 37, 38, 39, 40, 41, 42, 43, 44, 45, 46, 47, 48, 49, 50, 51, 52, 53, 54, 55, 56, 57, 58, 59, 9, 60, 61, 62, 63, 64, 65, 66, 67, 68, 69, 70, 71, 72, 73, 74, 75, 76, 77, 78, 79, 80, 81, 82, 83, 84, 85, 86, 87, 88, 89, 90, 100, 101, 102, 103, 104, 105, 106, 118, 119, 120, 121, 122, 123, 124, 125, 126, 127, 128, 107, 108, 109, 110, 111, 112, 113, 114, 115, 116, 117, 129, 130, 131, 132, 133] (by decide +kernel) (by decide +kernel)
set_option maxRecDepth 20000 in
theorem gX7_plan_X4_findPlan : GoodIn wsX7_plan (wsV RX7 156 RX4 yX4_findPlan wsX4_findPlan) := goodIn_app (goodIn_of _ (by decide +kernel)) ggX7_plan_X4_findPlan
set_option maxRecDepth 20000 in
theorem ggX7_plan_X4_seatOf : GoodIn wsX7_plan wsX4_seatOf := goodIn_r _ [94, 27, 38, 78, 118, 119, 120, 121, 122, 123, 124, 125, 126, 127, 128] (by decide +kernel) (by decide +kernel)
set_option maxRecDepth 20000 in
theorem gX7_plan_X4_seatOf : GoodIn wsX7_plan (wsV RX7 160 RX4 yX4_seatOf wsX4_seatOf) := goodIn_app (goodIn_of _ (by decide +kernel)) ggX7_plan_X4_seatOf
theorem dX7_plan_0 : decode cX7_plan 0 = .ok (.aload_n 0, 1) := by decide +kernel
theorem dX7_plan_1 : decode cX7_plan 1 = .ok (.iload_n 1, 1) := by decide +kernel
theorem dX7_plan_2 : decode cX7_plan 2 = .ok (.invokevirtual 96, 3) := by decide +kernel
theorem dX7_plan_5 : decode cX7_plan 5 = .ok (.ifCond .ne 5, 3) := by decide +kernel
theorem dX7_plan_8 : decode cX7_plan 8 = .ok (.iconst (-1), 1) := by decide +kernel
theorem dX7_plan_9 : decode cX7_plan 9 = .ok (.ireturn, 1) := by decide +kernel
theorem dX7_plan_10 : decode cX7_plan 10 = .ok (.aload_n 0, 1) := by decide +kernel
theorem dX7_plan_11 : decode cX7_plan 11 = .ok (.getfield 12, 3) := by decide +kernel
theorem dX7_plan_14 : decode cX7_plan 14 = .ok (.getfield 86, 3) := by decide +kernel
theorem dX7_plan_17 : decode cX7_plan 17 = .ok (.iload_n 1, 1) := by decide +kernel
theorem dX7_plan_18 : decode cX7_plan 18 = .ok (.aaload, 1) := by decide +kernel
theorem dX7_plan_19 : decode cX7_plan 19 = .ok (.getfield 99, 3) := by decide +kernel
theorem dX7_plan_22 : decode cX7_plan 22 = .ok (.ifCond .eq 6, 3) := by decide +kernel
theorem dX7_plan_25 : decode cX7_plan 25 = .ok (.bipush (-4), 2) := by decide +kernel
theorem dX7_plan_27 : decode cX7_plan 27 = .ok (.ireturn, 1) := by decide +kernel
theorem dX7_plan_28 : decode cX7_plan 28 = .ok (.aload_n 0, 1) := by decide +kernel
theorem dX7_plan_29 : decode cX7_plan 29 = .ok (.getfield 19, 3) := by decide +kernel
theorem dX7_plan_32 : decode cX7_plan 32 = .ok (.aload_n 0, 1) := by decide +kernel
theorem dX7_plan_33 : decode cX7_plan 33 = .ok (.getfield 12, 3) := by decide +kernel
theorem dX7_plan_36 : decode cX7_plan 36 = .ok (.aload_n 0, 1) := by decide +kernel
theorem dX7_plan_37 : decode cX7_plan 37 = .ok (.getfield 33, 3) := by decide +kernel
theorem dX7_plan_40 : decode cX7_plan 40 = .ok (.invokevirtual 156, 3) := by decide +kernel
theorem dX7_plan_43 : decode cX7_plan 43 = .ok (.aload_n 0, 1) := by decide +kernel
theorem dX7_plan_44 : decode cX7_plan 44 = .ok (.getfield 19, 3) := by decide +kernel
theorem dX7_plan_47 : decode cX7_plan 47 = .ok (.iload_n 1, 1) := by decide +kernel
theorem dX7_plan_48 : decode cX7_plan 48 = .ok (.invokevirtual 160, 3) := by decide +kernel
theorem dX7_plan_51 : decode cX7_plan 51 = .ok (.ireturn, 1) := by decide +kernel
set_option maxRecDepth 20000 in
theorem ggX7_waits_X4_findPlan : GoodIn wsX7_waits wsX4_findPlan := goodIn_r _ [9, 10, 11, 12, 13, 14, 15, 16, 17, 18, 19, 20, 21, 22, 23, 8, 24, 25, 26, 27, 28, 29, 30, 31, 32, 33, 34, 35, 36, 37, 38, 39, 40, 41, 42, 43, 44, 45, 46, 47, 48, 49, 50, 51, 52, 53, 54, 55, 56, 57, 58, 59, 60, 61, 62, 63, 64, 65, 66, 67, 68, 69, 70, 71, 72, 73, 74, 75, 76, 77, 78, 79, 80, 81, 98, 99, 100, 101, 102, 103, 104, 87, 88, 89, 90, 91, 92, 93, 94, 95, 96, 97, 105, 106, 107, 108, 109, 110, 111, 112, 113, 114, 115, 116, 117, 118, 119, 120] (by decide +kernel) (by decide +kernel)
set_option maxRecDepth 20000 in
theorem gX7_waits_X4_findPlan : GoodIn wsX7_waits (wsV RX7 156 RX4 yX4_findPlan wsX4_findPlan) := goodIn_app (goodIn_of _ (by decide +kernel)) ggX7_waits_X4_findPlan
theorem dX7_waits_0 : decode cX7_waits 0 = .ok (.aload_n 0, 1) := by decide +kernel
theorem dX7_waits_1 : decode cX7_waits 1 = .ok (.getfield 19, 3) := by decide +kernel
theorem dX7_waits_4 : decode cX7_waits 4 = .ok (.aload_n 0, 1) := by decide +kernel
theorem dX7_waits_5 : decode cX7_waits 5 = .ok (.getfield 12, 3) := by decide +kernel
theorem dX7_waits_8 : decode cX7_waits 8 = .ok (.aload_n 0, 1) := by decide +kernel
theorem dX7_waits_9 : decode cX7_waits 9 = .ok (.getfield 33, 3) := by decide +kernel
theorem dX7_waits_12 : decode cX7_waits 12 = .ok (.invokevirtual 156, 3) := by decide +kernel
theorem dX7_waits_15 : decode cX7_waits 15 = .ok (.aload_n 0, 1) := by decide +kernel
theorem dX7_waits_16 : decode cX7_waits 16 = .ok (.getfield 19, 3) := by decide +kernel
theorem dX7_waits_19 : decode cX7_waits 19 = .ok (.getfield 163, 3) := by decide +kernel
theorem dX7_waits_22 : decode cX7_waits 22 = .ok (.ireturn, 1) := by decide +kernel
set_option maxRecDepth 20000 in
theorem ggX7_term_X7_isCase : GoodIn wsX7_term wsX7_isCase := goodIn_r _ [15, 1, 16, 17, 18, 14, 19, 26, 27, 28, 29, 30, 31, 32, 33, 34, 35, 36, 37] (by decide +kernel) (by decide +kernel)
set_option maxRecDepth 20000 in
theorem gX7_term_X7_isCase : GoodIn wsX7_term (wsV RX7 96 RX7 yX7_isCase wsX7_isCase) := goodIn_app (goodIn_of _ (by decide +kernel)) ggX7_term_X7_isCase
set_option maxRecDepth 20000 in
theorem ggX7_term_X7_isSide : GoodIn wsX7_term wsX7_isSide := goodIn_r _ [22, 17, 18, 14, 19] (by decide +kernel) (by decide +kernel)
set_option maxRecDepth 20000 in
theorem gX7_term_X7_isSide : GoodIn wsX7_term (va_wsS RX7 132 yX7_isSide wsX7_isSide) := goodIn_app (goodIn_of _ (by decide +kernel)) ggX7_term_X7_isSide
set_option maxRecDepth 20000 in
theorem ggX7_term_X7_isWithin : GoodIn wsX7_term wsX7_isWithin := goodIn_r _ [19] (by decide +kernel) (by decide +kernel)
set_option maxRecDepth 20000 in
theorem gX7_term_X7_isWithin : GoodIn wsX7_term (va_wsS RX7 37 yX7_isWithin wsX7_isWithin) := goodIn_app (goodIn_of _ (by decide +kernel)) ggX7_term_X7_isWithin
set_option maxRecDepth 20000 in
theorem ggX7_term_X7_isHour : GoodIn wsX7_term wsX7_isHour := goodIn_r _ [25, 17, 18, 14, 19] (by decide +kernel) (by decide +kernel)
set_option maxRecDepth 20000 in
theorem gX7_term_X7_isHour : GoodIn wsX7_term (va_wsS RX7 166 yX7_isHour wsX7_isHour) := goodIn_app (goodIn_of _ (by decide +kernel)) ggX7_term_X7_isHour
theorem dX7_term_0 : decode cX7_term 0 = .ok (.aload_n 0, 1) := by decide +kernel
theorem dX7_term_1 : decode cX7_term 1 = .ok (.iload_n 1, 1) := by decide +kernel
theorem dX7_term_2 : decode cX7_term 2 = .ok (.invokevirtual 96, 3) := by decide +kernel
theorem dX7_term_5 : decode cX7_term 5 = .ok (.ifCond .eq 43, 3) := by decide +kernel
theorem dX7_term_8 : decode cX7_term 8 = .ok (.iload_n 2, 1) := by decide +kernel
theorem dX7_term_9 : decode cX7_term 9 = .ok (.invokestatic 132, 3) := by decide +kernel
theorem dX7_term_12 : decode cX7_term 12 = .ok (.ifCond .eq 36, 3) := by decide +kernel
theorem dX7_term_15 : decode cX7_term 15 = .ok (.iload 4, 2) := by decide +kernel
theorem dX7_term_17 : decode cX7_term 17 = .ok (.iconst 0, 1) := by decide +kernel
theorem dX7_term_18 : decode cX7_term 18 = .ok (.iconst 5, 1) := by decide +kernel
theorem dX7_term_19 : decode cX7_term 19 = .ok (.invokestatic 37, 3) := by decide +kernel
theorem dX7_term_22 : decode cX7_term 22 = .ok (.ifCond .eq 26, 3) := by decide +kernel
theorem dX7_term_25 : decode cX7_term 25 = .ok (.iload 5, 2) := by decide +kernel
theorem dX7_term_27 : decode cX7_term 27 = .ok (.invokestatic 166, 3) := by decide +kernel
theorem dX7_term_30 : decode cX7_term 30 = .ok (.ifCond .eq 18, 3) := by decide +kernel
theorem dX7_term_33 : decode cX7_term 33 = .ok (.iload 6, 2) := by decide +kernel
theorem dX7_term_35 : decode cX7_term 35 = .ok (.invokestatic 166, 3) := by decide +kernel
theorem dX7_term_38 : decode cX7_term 38 = .ok (.ifCond .eq 10, 3) := by decide +kernel
theorem dX7_term_41 : decode cX7_term 41 = .ok (.iload 5, 2) := by decide +kernel
theorem dX7_term_43 : decode cX7_term 43 = .ok (.iload 6, 2) := by decide +kernel
theorem dX7_term_45 : decode cX7_term 45 = .ok (.if_icmp .le 5, 3) := by decide +kernel
theorem dX7_term_48 : decode cX7_term 48 = .ok (.iconst (-1), 1) := by decide +kernel
theorem dX7_term_49 : decode cX7_term 49 = .ok (.ireturn, 1) := by decide +kernel
theorem dX7_term_50 : decode cX7_term 50 = .ok (.aload_n 0, 1) := by decide +kernel
theorem dX7_term_51 : decode cX7_term 51 = .ok (.getfield 12, 3) := by decide +kernel
theorem dX7_term_54 : decode cX7_term 54 = .ok (.getfield 86, 3) := by decide +kernel
theorem dX7_term_57 : decode cX7_term 57 = .ok (.iload_n 1, 1) := by decide +kernel
theorem dX7_term_58 : decode cX7_term 58 = .ok (.aaload, 1) := by decide +kernel
theorem dX7_term_59 : decode cX7_term 59 = .ok (.astore 7, 2) := by decide +kernel
theorem dX7_term_61 : decode cX7_term 61 = .ok (.aload 7, 2) := by decide +kernel
theorem dX7_term_63 : decode cX7_term 63 = .ok (.getfield 99, 3) := by decide +kernel
theorem dX7_term_66 : decode cX7_term 66 = .ok (.iconst 1, 1) := by decide +kernel
theorem dX7_term_67 : decode cX7_term 67 = .ok (.if_icmp .eq 6, 3) := by decide +kernel
theorem dX7_term_70 : decode cX7_term 70 = .ok (.bipush (-4), 2) := by decide +kernel
theorem dX7_term_72 : decode cX7_term 72 = .ok (.ireturn, 1) := by decide +kernel
theorem dX7_term_73 : decode cX7_term 73 = .ok (.aload 7, 2) := by decide +kernel
theorem dX7_term_75 : decode cX7_term 75 = .ok (.getfield 169, 3) := by decide +kernel
theorem dX7_term_78 : decode cX7_term 78 = .ok (.iconst 5, 1) := by decide +kernel
theorem dX7_term_79 : decode cX7_term 79 = .ok (.if_icmp .lt 6, 3) := by decide +kernel
theorem dX7_term_82 : decode cX7_term 82 = .ok (.bipush (-2), 2) := by decide +kernel
theorem dX7_term_84 : decode cX7_term 84 = .ok (.ireturn, 1) := by decide +kernel
theorem dX7_term_85 : decode cX7_term 85 = .ok (.aload 7, 2) := by decide +kernel
theorem dX7_term_87 : decode cX7_term 87 = .ok (.getfield 172, 3) := by decide +kernel
theorem dX7_term_90 : decode cX7_term 90 = .ok (.aload 7, 2) := by decide +kernel
theorem dX7_term_92 : decode cX7_term 92 = .ok (.getfield 169, 3) := by decide +kernel
theorem dX7_term_95 : decode cX7_term 95 = .ok (.aaload, 1) := by decide +kernel
theorem dX7_term_96 : decode cX7_term 96 = .ok (.astore 8, 2) := by decide +kernel
theorem dX7_term_98 : decode cX7_term 98 = .ok (.aload 8, 2) := by decide +kernel
theorem dX7_term_100 : decode cX7_term 100 = .ok (.iload_n 2, 1) := by decide +kernel
theorem dX7_term_101 : decode cX7_term 101 = .ok (.putfield 176, 3) := by decide +kernel
theorem dX7_term_104 : decode cX7_term 104 = .ok (.aload 8, 2) := by decide +kernel
theorem dX7_term_106 : decode cX7_term 106 = .ok (.iload_n 3, 1) := by decide +kernel
theorem dX7_term_107 : decode cX7_term 107 = .ok (.putfield 181, 3) := by decide +kernel
theorem dX7_term_110 : decode cX7_term 110 = .ok (.aload 8, 2) := by decide +kernel
theorem dX7_term_112 : decode cX7_term 112 = .ok (.iload 4, 2) := by decide +kernel
theorem dX7_term_114 : decode cX7_term 114 = .ok (.putfield 185, 3) := by decide +kernel
theorem dX7_term_117 : decode cX7_term 117 = .ok (.aload 8, 2) := by decide +kernel
theorem dX7_term_119 : decode cX7_term 119 = .ok (.iload 5, 2) := by decide +kernel
theorem dX7_term_121 : decode cX7_term 121 = .ok (.putfield 188, 3) := by decide +kernel
theorem dX7_term_124 : decode cX7_term 124 = .ok (.aload 8, 2) := by decide +kernel
theorem dX7_term_126 : decode cX7_term 126 = .ok (.iload 6, 2) := by decide +kernel
theorem dX7_term_128 : decode cX7_term 128 = .ok (.putfield 191, 3) := by decide +kernel
theorem dX7_term_131 : decode cX7_term 131 = .ok (.aload 7, 2) := by decide +kernel
theorem dX7_term_133 : decode cX7_term 133 = .ok (.dup, 1) := by decide +kernel
theorem dX7_term_134 : decode cX7_term 134 = .ok (.getfield 169, 3) := by decide +kernel
theorem dX7_term_137 : decode cX7_term 137 = .ok (.dup_x1, 1) := by decide +kernel
theorem dX7_term_138 : decode cX7_term 138 = .ok (.iconst 1, 1) := by decide +kernel
theorem dX7_term_139 : decode cX7_term 139 = .ok (.iadd, 1) := by decide +kernel
theorem dX7_term_140 : decode cX7_term 140 = .ok (.putfield 169, 3) := by decide +kernel
theorem dX7_term_143 : decode cX7_term 143 = .ok (.ireturn, 1) := by decide +kernel
set_option maxRecDepth 20000 in
theorem ggX7_strike_X7_isCase : GoodIn wsX7_strike wsX7_isCase := goodIn_r _ [8, 1, 9, 10, 11, 7, 12, 13, 14, 15, 16, 17, 18, 19, 20, 21, 22, 23, 24] (by decide +kernel) (by decide +kernel)
set_option maxRecDepth 20000 in
theorem gX7_strike_X7_isCase : GoodIn wsX7_strike (wsV RX7 96 RX7 yX7_isCase wsX7_isCase) := goodIn_app (goodIn_of _ (by decide +kernel)) ggX7_strike_X7_isCase
theorem dX7_strike_0 : decode cX7_strike 0 = .ok (.aload_n 0, 1) := by decide +kernel
theorem dX7_strike_1 : decode cX7_strike 1 = .ok (.iload_n 1, 1) := by decide +kernel
theorem dX7_strike_2 : decode cX7_strike 2 = .ok (.invokevirtual 96, 3) := by decide +kernel
theorem dX7_strike_5 : decode cX7_strike 5 = .ok (.ifCond .ne 5, 3) := by decide +kernel
theorem dX7_strike_8 : decode cX7_strike 8 = .ok (.iconst (-1), 1) := by decide +kernel
theorem dX7_strike_9 : decode cX7_strike 9 = .ok (.ireturn, 1) := by decide +kernel
theorem dX7_strike_10 : decode cX7_strike 10 = .ok (.aload_n 0, 1) := by decide +kernel
theorem dX7_strike_11 : decode cX7_strike 11 = .ok (.getfield 12, 3) := by decide +kernel
theorem dX7_strike_14 : decode cX7_strike 14 = .ok (.getfield 86, 3) := by decide +kernel
theorem dX7_strike_17 : decode cX7_strike 17 = .ok (.iload_n 1, 1) := by decide +kernel
theorem dX7_strike_18 : decode cX7_strike 18 = .ok (.aaload, 1) := by decide +kernel
theorem dX7_strike_19 : decode cX7_strike 19 = .ok (.getfield 169, 3) := by decide +kernel
theorem dX7_strike_22 : decode cX7_strike 22 = .ok (.ifCond .ne 6, 3) := by decide +kernel
theorem dX7_strike_25 : decode cX7_strike 25 = .ok (.bipush (-5), 2) := by decide +kernel
theorem dX7_strike_27 : decode cX7_strike 27 = .ok (.ireturn, 1) := by decide +kernel
theorem dX7_strike_28 : decode cX7_strike 28 = .ok (.aload_n 0, 1) := by decide +kernel
theorem dX7_strike_29 : decode cX7_strike 29 = .ok (.getfield 12, 3) := by decide +kernel
theorem dX7_strike_32 : decode cX7_strike 32 = .ok (.getfield 86, 3) := by decide +kernel
theorem dX7_strike_35 : decode cX7_strike 35 = .ok (.iload_n 1, 1) := by decide +kernel
theorem dX7_strike_36 : decode cX7_strike 36 = .ok (.aaload, 1) := by decide +kernel
theorem dX7_strike_37 : decode cX7_strike 37 = .ok (.dup, 1) := by decide +kernel
theorem dX7_strike_38 : decode cX7_strike 38 = .ok (.getfield 169, 3) := by decide +kernel
theorem dX7_strike_41 : decode cX7_strike 41 = .ok (.iconst 1, 1) := by decide +kernel
theorem dX7_strike_42 : decode cX7_strike 42 = .ok (.isub, 1) := by decide +kernel
theorem dX7_strike_43 : decode cX7_strike 43 = .ok (.putfield 169, 3) := by decide +kernel
theorem dX7_strike_46 : decode cX7_strike 46 = .ok (.aload_n 0, 1) := by decide +kernel
theorem dX7_strike_47 : decode cX7_strike 47 = .ok (.getfield 12, 3) := by decide +kernel
theorem dX7_strike_50 : decode cX7_strike 50 = .ok (.getfield 86, 3) := by decide +kernel
theorem dX7_strike_53 : decode cX7_strike 53 = .ok (.iload_n 1, 1) := by decide +kernel
theorem dX7_strike_54 : decode cX7_strike 54 = .ok (.aaload, 1) := by decide +kernel
theorem dX7_strike_55 : decode cX7_strike 55 = .ok (.getfield 169, 3) := by decide +kernel
theorem dX7_strike_58 : decode cX7_strike 58 = .ok (.ireturn, 1) := by decide +kernel
set_option maxRecDepth 20000 in
theorem ggX7_termOf_X7_isTerm : GoodIn wsX7_termOf wsX7_isTerm := goodIn_r _ [13, 1, 2, 14, 15, 16, 17, 12, 18, 19, 20, 21, 22, 23, 24, 25, 26, 27, 28, 29, 30, 31, 32, 33, 34, 35, 36, 37, 38, 39, 40, 41, 42, 43, 44, 45] (by decide +kernel) (by decide +kernel)
set_option maxRecDepth 20000 in
theorem gX7_termOf_X7_isTerm : GoodIn wsX7_termOf (wsV RX7 194 RX7 yX7_isTerm wsX7_isTerm) := goodIn_app (goodIn_of _ (by decide +kernel)) ggX7_termOf_X7_isTerm
theorem dX7_termOf_0 : decode cX7_termOf 0 = .ok (.aload_n 0, 1) := by decide +kernel
theorem dX7_termOf_1 : decode cX7_termOf 1 = .ok (.iload_n 1, 1) := by decide +kernel
theorem dX7_termOf_2 : decode cX7_termOf 2 = .ok (.iload_n 2, 1) := by decide +kernel
theorem dX7_termOf_3 : decode cX7_termOf 3 = .ok (.invokevirtual 194, 3) := by decide +kernel
theorem dX7_termOf_6 : decode cX7_termOf 6 = .ok (.ifCond .ne 5, 3) := by decide +kernel
theorem dX7_termOf_9 : decode cX7_termOf 9 = .ok (.iconst (-1), 1) := by decide +kernel
theorem dX7_termOf_10 : decode cX7_termOf 10 = .ok (.ireturn, 1) := by decide +kernel
theorem dX7_termOf_11 : decode cX7_termOf 11 = .ok (.aload_n 0, 1) := by decide +kernel
theorem dX7_termOf_12 : decode cX7_termOf 12 = .ok (.getfield 12, 3) := by decide +kernel
theorem dX7_termOf_15 : decode cX7_termOf 15 = .ok (.getfield 86, 3) := by decide +kernel
theorem dX7_termOf_18 : decode cX7_termOf 18 = .ok (.iload_n 1, 1) := by decide +kernel
theorem dX7_termOf_19 : decode cX7_termOf 19 = .ok (.aaload, 1) := by decide +kernel
theorem dX7_termOf_20 : decode cX7_termOf 20 = .ok (.getfield 172, 3) := by decide +kernel
theorem dX7_termOf_23 : decode cX7_termOf 23 = .ok (.iload_n 2, 1) := by decide +kernel
theorem dX7_termOf_24 : decode cX7_termOf 24 = .ok (.aaload, 1) := by decide +kernel
theorem dX7_termOf_25 : decode cX7_termOf 25 = .ok (.astore 4, 2) := by decide +kernel
theorem dX7_termOf_27 : decode cX7_termOf 27 = .ok (.iload_n 3, 1) := by decide +kernel
theorem dX7_termOf_28 : decode cX7_termOf 28 = .ok (.tableswitch 74 0 4 #[36, 42, 56, 62, 68], 36) := by decide +kernel
theorem dX7_termOf_64 : decode cX7_termOf 64 = .ok (.aload 4, 2) := by decide +kernel
theorem dX7_termOf_66 : decode cX7_termOf 66 = .ok (.getfield 176, 3) := by decide +kernel
theorem dX7_termOf_69 : decode cX7_termOf 69 = .ok (.ireturn, 1) := by decide +kernel
theorem dX7_termOf_70 : decode cX7_termOf 70 = .ok (.aload 4, 2) := by decide +kernel
theorem dX7_termOf_72 : decode cX7_termOf 72 = .ok (.getfield 181, 3) := by decide +kernel
theorem dX7_termOf_75 : decode cX7_termOf 75 = .ok (.ifCond .eq 7, 3) := by decide +kernel
theorem dX7_termOf_78 : decode cX7_termOf 78 = .ok (.iconst 1, 1) := by decide +kernel
theorem dX7_termOf_79 : decode cX7_termOf 79 = .ok (.goto 4, 3) := by decide +kernel
theorem dX7_termOf_82 : decode cX7_termOf 82 = .ok (.iconst 0, 1) := by decide +kernel
theorem dX7_termOf_83 : decode cX7_termOf 83 = .ok (.ireturn, 1) := by decide +kernel
theorem dX7_termOf_84 : decode cX7_termOf 84 = .ok (.aload 4, 2) := by decide +kernel
theorem dX7_termOf_86 : decode cX7_termOf 86 = .ok (.getfield 185, 3) := by decide +kernel
theorem dX7_termOf_89 : decode cX7_termOf 89 = .ok (.ireturn, 1) := by decide +kernel
theorem dX7_termOf_90 : decode cX7_termOf 90 = .ok (.aload 4, 2) := by decide +kernel
theorem dX7_termOf_92 : decode cX7_termOf 92 = .ok (.getfield 188, 3) := by decide +kernel
theorem dX7_termOf_95 : decode cX7_termOf 95 = .ok (.ireturn, 1) := by decide +kernel
theorem dX7_termOf_96 : decode cX7_termOf 96 = .ok (.aload 4, 2) := by decide +kernel
theorem dX7_termOf_98 : decode cX7_termOf 98 = .ok (.getfield 191, 3) := by decide +kernel
theorem dX7_termOf_101 : decode cX7_termOf 101 = .ok (.ireturn, 1) := by decide +kernel
theorem dX7_termOf_102 : decode cX7_termOf 102 = .ok (.iconst (-1), 1) := by decide +kernel
theorem dX7_termOf_103 : decode cX7_termOf 103 = .ok (.ireturn, 1) := by decide +kernel
set_option maxRecDepth 20000 in
theorem ggX7_hour_X7_isTerm : GoodIn wsX7_hour wsX7_isTerm := goodIn_r _ [12, 1, 2, 7, 13, 14, 15, 11, 16, 17, 18, 19, 20, 65, 66, 67, 68, 69, 70, 71, 72, 73, 74, 75, 76, 77, 78, 79, 80, 81, 82, 83, 84, 85, 86, 87] (by decide +kernel) (by decide +kernel)
set_option maxRecDepth 20000 in
theorem gX7_hour_X7_isTerm : GoodIn wsX7_hour (wsV RX7 194 RX7 yX7_isTerm wsX7_isTerm) := goodIn_app (goodIn_of _ (by decide +kernel)) ggX7_hour_X7_isTerm
set_option maxRecDepth 20000 in
theorem ggX7_hour_X5_read : GoodIn wsX7_hour wsX5_read := goodIn_r _ [25, 26, 27, 28, 29, 30, 31, 32, 33, 24, 34, 35, 36, 37, 38, 39, 40, 41, 42, 93, 94, 95, 77, 78, 79, 80, 81, 82, 83, 84, 85, 86, 87, 88, 89, 90, 91, 92] (by decide +kernel) (by decide +kernel)
set_option maxRecDepth 20000 in
theorem gX7_hour_X5_read : GoodIn wsX7_hour (wsV RX7 197 RX5 yX5_read wsX5_read) := goodIn_app (goodIn_of _ (by decide +kernel)) ggX7_hour_X5_read
set_option maxRecDepth 20000 in
theorem ggX7_hour_X5_stands : GoodIn wsX7_hour wsX5_stands := goodIn_r _ [46, 26, 31, 47, 11, 48, 49, 50, 51, 52, 53, 54, 55, 93, 94, 95] (by decide +kernel) (by decide +kernel)
set_option maxRecDepth 20000 in
theorem gX7_hour_X5_stands : GoodIn wsX7_hour (wsV RX7 201 RX5 yX5_stands wsX5_stands) := goodIn_app (goodIn_of _ (by decide +kernel)) ggX7_hour_X5_stands
set_option maxRecDepth 20000 in
theorem ggX7_hour_X5_hourOf : GoodIn wsX7_hour wsX5_hourOf := goodIn_r _ [59, 26, 30, 60, 61, 62, 24, 63, 31, 47, 11, 48, 64, 44, 45, 46, 49, 50, 51, 52, 53, 54, 55, 93, 94, 95] (by decide +kernel) (by decide +kernel)
set_option maxRecDepth 20000 in
theorem gX7_hour_X5_hourOf : GoodIn wsX7_hour (wsV RX7 204 RX5 yX5_hourOf wsX5_hourOf) := goodIn_app (goodIn_of _ (by decide +kernel)) ggX7_hour_X5_hourOf
theorem dX7_hour_0 : decode cX7_hour 0 = .ok (.aload_n 0, 1) := by decide +kernel
theorem dX7_hour_1 : decode cX7_hour 1 = .ok (.iload_n 1, 1) := by decide +kernel
theorem dX7_hour_2 : decode cX7_hour 2 = .ok (.iload_n 2, 1) := by decide +kernel
theorem dX7_hour_3 : decode cX7_hour 3 = .ok (.invokevirtual 194, 3) := by decide +kernel
theorem dX7_hour_6 : decode cX7_hour 6 = .ok (.ifCond .ne 5, 3) := by decide +kernel
theorem dX7_hour_9 : decode cX7_hour 9 = .ok (.iconst (-1), 1) := by decide +kernel
theorem dX7_hour_10 : decode cX7_hour 10 = .ok (.ireturn, 1) := by decide +kernel
theorem dX7_hour_11 : decode cX7_hour 11 = .ok (.aload_n 0, 1) := by decide +kernel
theorem dX7_hour_12 : decode cX7_hour 12 = .ok (.getfield 12, 3) := by decide +kernel
theorem dX7_hour_15 : decode cX7_hour 15 = .ok (.getfield 86, 3) := by decide +kernel
theorem dX7_hour_18 : decode cX7_hour 18 = .ok (.iload_n 1, 1) := by decide +kernel
theorem dX7_hour_19 : decode cX7_hour 19 = .ok (.aaload, 1) := by decide +kernel
theorem dX7_hour_20 : decode cX7_hour 20 = .ok (.astore_n 3, 1) := by decide +kernel
theorem dX7_hour_21 : decode cX7_hour 21 = .ok (.aload_n 3, 1) := by decide +kernel
theorem dX7_hour_22 : decode cX7_hour 22 = .ok (.getfield 172, 3) := by decide +kernel
theorem dX7_hour_25 : decode cX7_hour 25 = .ok (.iload_n 2, 1) := by decide +kernel
theorem dX7_hour_26 : decode cX7_hour 26 = .ok (.aaload, 1) := by decide +kernel
theorem dX7_hour_27 : decode cX7_hour 27 = .ok (.getfield 181, 3) := by decide +kernel
theorem dX7_hour_30 : decode cX7_hour 30 = .ok (.ifCond .ne 6, 3) := by decide +kernel
theorem dX7_hour_33 : decode cX7_hour 33 = .ok (.bipush (-4), 2) := by decide +kernel
theorem dX7_hour_35 : decode cX7_hour 35 = .ok (.ireturn, 1) := by decide +kernel
theorem dX7_hour_36 : decode cX7_hour 36 = .ok (.aload_n 0, 1) := by decide +kernel
theorem dX7_hour_37 : decode cX7_hour 37 = .ok (.getfield 26, 3) := by decide +kernel
theorem dX7_hour_40 : decode cX7_hour 40 = .ok (.aload_n 3, 1) := by decide +kernel
theorem dX7_hour_41 : decode cX7_hour 41 = .ok (.aload_n 3, 1) := by decide +kernel
theorem dX7_hour_42 : decode cX7_hour 42 = .ok (.getfield 172, 3) := by decide +kernel
theorem dX7_hour_45 : decode cX7_hour 45 = .ok (.iload_n 2, 1) := by decide +kernel
theorem dX7_hour_46 : decode cX7_hour 46 = .ok (.aaload, 1) := by decide +kernel
theorem dX7_hour_47 : decode cX7_hour 47 = .ok (.getfield 176, 3) := by decide +kernel
theorem dX7_hour_50 : decode cX7_hour 50 = .ok (.aload_n 3, 1) := by decide +kernel
theorem dX7_hour_51 : decode cX7_hour 51 = .ok (.getfield 169, 3) := by decide +kernel
theorem dX7_hour_54 : decode cX7_hour 54 = .ok (.invokevirtual 197, 3) := by decide +kernel
theorem dX7_hour_57 : decode cX7_hour 57 = .ok (.aload_n 0, 1) := by decide +kernel
theorem dX7_hour_58 : decode cX7_hour 58 = .ok (.getfield 26, 3) := by decide +kernel
theorem dX7_hour_61 : decode cX7_hour 61 = .ok (.invokevirtual 201, 3) := by decide +kernel
theorem dX7_hour_64 : decode cX7_hour 64 = .ok (.ifCond .eq 14, 3) := by decide +kernel
theorem dX7_hour_67 : decode cX7_hour 67 = .ok (.aload_n 0, 1) := by decide +kernel
theorem dX7_hour_68 : decode cX7_hour 68 = .ok (.getfield 26, 3) := by decide +kernel
theorem dX7_hour_71 : decode cX7_hour 71 = .ok (.iload_n 2, 1) := by decide +kernel
theorem dX7_hour_72 : decode cX7_hour 72 = .ok (.invokevirtual 204, 3) := by decide +kernel
theorem dX7_hour_75 : decode cX7_hour 75 = .ok (.goto 5, 3) := by decide +kernel
theorem dX7_hour_78 : decode cX7_hour 78 = .ok (.bipush (-5), 2) := by decide +kernel
theorem dX7_hour_80 : decode cX7_hour 80 = .ok (.ireturn, 1) := by decide +kernel
set_option maxRecDepth 20000 in
theorem ggX7_canHold_X7_isCase : GoodIn wsX7_canHold wsX7_isCase := goodIn_r _ [9, 2, 10, 11, 12, 8, 13, 52, 53, 54, 55, 56, 57, 58, 59, 60, 61, 62, 63] (by decide +kernel) (by decide +kernel)
set_option maxRecDepth 20000 in
theorem gX7_canHold_X7_isCase : GoodIn wsX7_canHold (wsV RX7 96 RX7 yX7_isCase wsX7_isCase) := goodIn_app (goodIn_of _ (by decide +kernel)) ggX7_canHold_X7_isCase
set_option maxRecDepth 20000 in
theorem ggX7_canHold_X7_isSide : GoodIn wsX7_canHold wsX7_isSide := goodIn_r _ [16, 11, 12, 8, 13] (by decide +kernel) (by decide +kernel)
set_option maxRecDepth 20000 in
theorem gX7_canHold_X7_isSide : GoodIn wsX7_canHold (va_wsS RX7 132 yX7_isSide wsX7_isSide) := goodIn_app (goodIn_of _ (by decide +kernel)) ggX7_canHold_X7_isSide
set_option maxRecDepth 20000 in
theorem ggX7_canHold_X5_read : GoodIn wsX7_canHold wsX5_read := goodIn_r _ [21, 22, 23, 24, 25, 26, 27, 28, 29, 20, 30, 31, 32, 33, 34, 35, 36, 37, 38, 75, 76, 77, 64, 65, 66, 67, 68, 69, 70, 71, 72, 73, 74, 78, 79, 80, 81, 82] (by decide +kernel) (by decide +kernel)
set_option maxRecDepth 20000 in
theorem gX7_canHold_X5_read : GoodIn wsX7_canHold (wsV RX7 197 RX5 yX5_read wsX5_read) := goodIn_app (goodIn_of _ (by decide +kernel)) ggX7_canHold_X5_read
set_option maxRecDepth 20000 in
theorem ggX7_canHold_X5_stands : GoodIn wsX7_canHold wsX5_stands := goodIn_r _ [42, 22, 27, 43, 8, 44, 45, 46, 47, 48, 49, 50, 51, 75, 76, 77] (by decide +kernel) (by decide +kernel)
set_option maxRecDepth 20000 in
theorem gX7_canHold_X5_stands : GoodIn wsX7_canHold (wsV RX7 201 RX5 yX5_stands wsX5_stands) := goodIn_app (goodIn_of _ (by decide +kernel)) ggX7_canHold_X5_stands
theorem dX7_canHold_0 : decode cX7_canHold 0 = .ok (.aload_n 0, 1) := by decide +kernel
theorem dX7_canHold_1 : decode cX7_canHold 1 = .ok (.iload_n 1, 1) := by decide +kernel
theorem dX7_canHold_2 : decode cX7_canHold 2 = .ok (.invokevirtual 96, 3) := by decide +kernel
theorem dX7_canHold_5 : decode cX7_canHold 5 = .ok (.ifCond .eq 10, 3) := by decide +kernel
theorem dX7_canHold_8 : decode cX7_canHold 8 = .ok (.iload_n 2, 1) := by decide +kernel
theorem dX7_canHold_9 : decode cX7_canHold 9 = .ok (.invokestatic 132, 3) := by decide +kernel
theorem dX7_canHold_12 : decode cX7_canHold 12 = .ok (.ifCond .ne 5, 3) := by decide +kernel
theorem dX7_canHold_15 : decode cX7_canHold 15 = .ok (.iconst (-1), 1) := by decide +kernel
theorem dX7_canHold_16 : decode cX7_canHold 16 = .ok (.ireturn, 1) := by decide +kernel
theorem dX7_canHold_17 : decode cX7_canHold 17 = .ok (.aload_n 0, 1) := by decide +kernel
theorem dX7_canHold_18 : decode cX7_canHold 18 = .ok (.getfield 26, 3) := by decide +kernel
theorem dX7_canHold_21 : decode cX7_canHold 21 = .ok (.aload_n 0, 1) := by decide +kernel
theorem dX7_canHold_22 : decode cX7_canHold 22 = .ok (.getfield 12, 3) := by decide +kernel
theorem dX7_canHold_25 : decode cX7_canHold 25 = .ok (.getfield 86, 3) := by decide +kernel
theorem dX7_canHold_28 : decode cX7_canHold 28 = .ok (.iload_n 1, 1) := by decide +kernel
theorem dX7_canHold_29 : decode cX7_canHold 29 = .ok (.aaload, 1) := by decide +kernel
theorem dX7_canHold_30 : decode cX7_canHold 30 = .ok (.iload_n 2, 1) := by decide +kernel
theorem dX7_canHold_31 : decode cX7_canHold 31 = .ok (.aload_n 0, 1) := by decide +kernel
theorem dX7_canHold_32 : decode cX7_canHold 32 = .ok (.getfield 12, 3) := by decide +kernel
theorem dX7_canHold_35 : decode cX7_canHold 35 = .ok (.getfield 86, 3) := by decide +kernel
theorem dX7_canHold_38 : decode cX7_canHold 38 = .ok (.iload_n 1, 1) := by decide +kernel
theorem dX7_canHold_39 : decode cX7_canHold 39 = .ok (.aaload, 1) := by decide +kernel
theorem dX7_canHold_40 : decode cX7_canHold 40 = .ok (.getfield 169, 3) := by decide +kernel
theorem dX7_canHold_43 : decode cX7_canHold 43 = .ok (.invokevirtual 197, 3) := by decide +kernel
theorem dX7_canHold_46 : decode cX7_canHold 46 = .ok (.aload_n 0, 1) := by decide +kernel
theorem dX7_canHold_47 : decode cX7_canHold 47 = .ok (.getfield 26, 3) := by decide +kernel
theorem dX7_canHold_50 : decode cX7_canHold 50 = .ok (.invokevirtual 201, 3) := by decide +kernel
theorem dX7_canHold_53 : decode cX7_canHold 53 = .ok (.ifCond .eq 7, 3) := by decide +kernel
theorem dX7_canHold_56 : decode cX7_canHold 56 = .ok (.iconst 1, 1) := by decide +kernel
theorem dX7_canHold_57 : decode cX7_canHold 57 = .ok (.goto 4, 3) := by decide +kernel
theorem dX7_canHold_60 : decode cX7_canHold 60 = .ok (.iconst 0, 1) := by decide +kernel
theorem dX7_canHold_61 : decode cX7_canHold 61 = .ok (.ireturn, 1) := by decide +kernel
set_option maxRecDepth 20000 in
theorem ggX7_breaks_X7_isCase : GoodIn wsX7_breaks wsX7_isCase := goodIn_r _ [11, 1, 12, 13, 14, 10, 15, 54, 55, 56, 57, 58, 59, 60, 61, 62, 63, 64, 65] (by decide +kernel) (by decide +kernel)
set_option maxRecDepth 20000 in
theorem gX7_breaks_X7_isCase : GoodIn wsX7_breaks (wsV RX7 96 RX7 yX7_isCase wsX7_isCase) := goodIn_app (goodIn_of _ (by decide +kernel)) ggX7_breaks_X7_isCase
set_option maxRecDepth 20000 in
theorem ggX7_breaks_X7_isSide : GoodIn wsX7_breaks wsX7_isSide := goodIn_r _ [18, 13, 14, 10, 15] (by decide +kernel) (by decide +kernel)
set_option maxRecDepth 20000 in
theorem gX7_breaks_X7_isSide : GoodIn wsX7_breaks (va_wsS RX7 132 yX7_isSide wsX7_isSide) := goodIn_app (goodIn_of _ (by decide +kernel)) ggX7_breaks_X7_isSide
set_option maxRecDepth 20000 in
theorem ggX7_breaks_X5_read : GoodIn wsX7_breaks wsX5_read := goodIn_r _ [23, 24, 25, 26, 27, 28, 29, 30, 31, 22, 32, 33, 34, 35, 36, 37, 38, 39, 40, 82, 83, 84, 66, 67, 68, 69, 70, 71, 72, 73, 74, 75, 76, 77, 78, 79, 80, 81] (by decide +kernel) (by decide +kernel)
set_option maxRecDepth 20000 in
theorem gX7_breaks_X5_read : GoodIn wsX7_breaks (wsV RX7 197 RX5 yX5_read wsX5_read) := goodIn_app (goodIn_of _ (by decide +kernel)) ggX7_breaks_X5_read
set_option maxRecDepth 20000 in
theorem ggX7_breaks_X5_stands : GoodIn wsX7_breaks wsX5_stands := goodIn_r _ [44, 24, 29, 45, 10, 46, 47, 48, 49, 50, 51, 52, 53, 82, 83, 84] (by decide +kernel) (by decide +kernel)
set_option maxRecDepth 20000 in
theorem gX7_breaks_X5_stands : GoodIn wsX7_breaks (wsV RX7 201 RX5 yX5_stands wsX5_stands) := goodIn_app (goodIn_of _ (by decide +kernel)) ggX7_breaks_X5_stands
theorem dX7_breaks_0 : decode cX7_breaks 0 = .ok (.aload_n 0, 1) := by decide +kernel
theorem dX7_breaks_1 : decode cX7_breaks 1 = .ok (.iload_n 1, 1) := by decide +kernel
theorem dX7_breaks_2 : decode cX7_breaks 2 = .ok (.invokevirtual 96, 3) := by decide +kernel
theorem dX7_breaks_5 : decode cX7_breaks 5 = .ok (.ifCond .eq 10, 3) := by decide +kernel
theorem dX7_breaks_8 : decode cX7_breaks 8 = .ok (.iload_n 2, 1) := by decide +kernel
theorem dX7_breaks_9 : decode cX7_breaks 9 = .ok (.invokestatic 132, 3) := by decide +kernel
theorem dX7_breaks_12 : decode cX7_breaks 12 = .ok (.ifCond .ne 5, 3) := by decide +kernel
theorem dX7_breaks_15 : decode cX7_breaks 15 = .ok (.iconst (-1), 1) := by decide +kernel
theorem dX7_breaks_16 : decode cX7_breaks 16 = .ok (.ireturn, 1) := by decide +kernel
theorem dX7_breaks_17 : decode cX7_breaks 17 = .ok (.aload_n 0, 1) := by decide +kernel
theorem dX7_breaks_18 : decode cX7_breaks 18 = .ok (.getfield 12, 3) := by decide +kernel
theorem dX7_breaks_21 : decode cX7_breaks 21 = .ok (.getfield 86, 3) := by decide +kernel
theorem dX7_breaks_24 : decode cX7_breaks 24 = .ok (.iload_n 1, 1) := by decide +kernel
theorem dX7_breaks_25 : decode cX7_breaks 25 = .ok (.aaload, 1) := by decide +kernel
theorem dX7_breaks_26 : decode cX7_breaks 26 = .ok (.astore_n 3, 1) := by decide +kernel
theorem dX7_breaks_27 : decode cX7_breaks 27 = .ok (.iconst 0, 1) := by decide +kernel
theorem dX7_breaks_28 : decode cX7_breaks 28 = .ok (.istore 4, 2) := by decide +kernel
theorem dX7_breaks_30 : decode cX7_breaks 30 = .ok (.iload 4, 2) := by decide +kernel
theorem dX7_breaks_32 : decode cX7_breaks 32 = .ok (.aload_n 3, 1) := by decide +kernel
theorem dX7_breaks_33 : decode cX7_breaks 33 = .ok (.getfield 169, 3) := by decide +kernel
theorem dX7_breaks_36 : decode cX7_breaks 36 = .ok (.if_icmp .ge 49, 3) := by decide +kernel
theorem dX7_breaks_39 : decode cX7_breaks 39 = .ok (.aload_n 3, 1) := by decide +kernel
theorem dX7_breaks_40 : decode cX7_breaks 40 = .ok (.getfield 172, 3) := by decide +kernel
theorem dX7_breaks_43 : decode cX7_breaks 43 = .ok (.iload 4, 2) := by decide +kernel
theorem dX7_breaks_45 : decode cX7_breaks 45 = .ok (.aaload, 1) := by decide +kernel
theorem dX7_breaks_46 : decode cX7_breaks 46 = .ok (.getfield 176, 3) := by decide +kernel
theorem dX7_breaks_49 : decode cX7_breaks 49 = .ok (.iload_n 2, 1) := by decide +kernel
theorem dX7_breaks_50 : decode cX7_breaks 50 = .ok (.if_icmp .ne 29, 3) := by decide +kernel
theorem dX7_breaks_53 : decode cX7_breaks 53 = .ok (.aload_n 0, 1) := by decide +kernel
theorem dX7_breaks_54 : decode cX7_breaks 54 = .ok (.getfield 26, 3) := by decide +kernel
theorem dX7_breaks_57 : decode cX7_breaks 57 = .ok (.aload_n 3, 1) := by decide +kernel
theorem dX7_breaks_58 : decode cX7_breaks 58 = .ok (.iload_n 2, 1) := by decide +kernel
theorem dX7_breaks_59 : decode cX7_breaks 59 = .ok (.iload 4, 2) := by decide +kernel
theorem dX7_breaks_61 : decode cX7_breaks 61 = .ok (.iconst 1, 1) := by decide +kernel
theorem dX7_breaks_62 : decode cX7_breaks 62 = .ok (.iadd, 1) := by decide +kernel
theorem dX7_breaks_63 : decode cX7_breaks 63 = .ok (.invokevirtual 197, 3) := by decide +kernel
theorem dX7_breaks_66 : decode cX7_breaks 66 = .ok (.aload_n 0, 1) := by decide +kernel
theorem dX7_breaks_67 : decode cX7_breaks 67 = .ok (.getfield 26, 3) := by decide +kernel
theorem dX7_breaks_70 : decode cX7_breaks 70 = .ok (.invokevirtual 201, 3) := by decide +kernel
theorem dX7_breaks_73 : decode cX7_breaks 73 = .ok (.ifCond .ne 6, 3) := by decide +kernel
theorem dX7_breaks_76 : decode cX7_breaks 76 = .ok (.iload 4, 2) := by decide +kernel
theorem dX7_breaks_78 : decode cX7_breaks 78 = .ok (.ireturn, 1) := by decide +kernel
theorem dX7_breaks_79 : decode cX7_breaks 79 = .ok (.iinc 4 1, 3) := by decide +kernel
theorem dX7_breaks_82 : decode cX7_breaks 82 = .ok (.goto (-52), 3) := by decide +kernel
theorem dX7_breaks_85 : decode cX7_breaks 85 = .ok (.bipush (-5), 2) := by decide +kernel
theorem dX7_breaks_87 : decode cX7_breaks 87 = .ok (.ireturn, 1) := by decide +kernel
set_option maxRecDepth 20000 in
theorem ggX7_log_X7_isCase : GoodIn wsX7_log wsX7_isCase := goodIn_r _ [8, 1, 9, 10, 11, 7, 12, 19, 20, 21, 22, 23, 24, 25, 26, 27, 28, 29, 30] (by decide +kernel) (by decide +kernel)
set_option maxRecDepth 20000 in
theorem gX7_log_X7_isCase : GoodIn wsX7_log (wsV RX7 96 RX7 yX7_isCase wsX7_isCase) := goodIn_app (goodIn_of _ (by decide +kernel)) ggX7_log_X7_isCase
set_option maxRecDepth 20000 in
theorem ggX7_log_X7_isSide : GoodIn wsX7_log wsX7_isSide := goodIn_r _ [15, 10, 11, 7, 12] (by decide +kernel) (by decide +kernel)
set_option maxRecDepth 20000 in
theorem gX7_log_X7_isSide : GoodIn wsX7_log (va_wsS RX7 132 yX7_isSide wsX7_isSide) := goodIn_app (goodIn_of _ (by decide +kernel)) ggX7_log_X7_isSide
set_option maxRecDepth 20000 in
theorem ggX7_log_X7_isHour : GoodIn wsX7_log wsX7_isHour := goodIn_r _ [18, 10, 11, 7, 12] (by decide +kernel) (by decide +kernel)
set_option maxRecDepth 20000 in
theorem gX7_log_X7_isHour : GoodIn wsX7_log (va_wsS RX7 166 yX7_isHour wsX7_isHour) := goodIn_app (goodIn_of _ (by decide +kernel)) ggX7_log_X7_isHour
set_option maxRecDepth 20000 in
theorem ggX7_log_X7_isWithin : GoodIn wsX7_log wsX7_isWithin := goodIn_r _ [12] (by decide +kernel) (by decide +kernel)
set_option maxRecDepth 20000 in
theorem gX7_log_X7_isWithin : GoodIn wsX7_log (va_wsS RX7 37 yX7_isWithin wsX7_isWithin) := goodIn_app (goodIn_of _ (by decide +kernel)) ggX7_log_X7_isWithin
theorem dX7_log_0 : decode cX7_log 0 = .ok (.aload_n 0, 1) := by decide +kernel
theorem dX7_log_1 : decode cX7_log 1 = .ok (.iload_n 1, 1) := by decide +kernel
theorem dX7_log_2 : decode cX7_log 2 = .ok (.invokevirtual 96, 3) := by decide +kernel
theorem dX7_log_5 : decode cX7_log 5 = .ok (.ifCond .eq 28, 3) := by decide +kernel
theorem dX7_log_8 : decode cX7_log 8 = .ok (.iload_n 2, 1) := by decide +kernel
theorem dX7_log_9 : decode cX7_log 9 = .ok (.invokestatic 132, 3) := by decide +kernel
theorem dX7_log_12 : decode cX7_log 12 = .ok (.ifCond .eq 21, 3) := by decide +kernel
theorem dX7_log_15 : decode cX7_log 15 = .ok (.iload_n 3, 1) := by decide +kernel
theorem dX7_log_16 : decode cX7_log 16 = .ok (.invokestatic 166, 3) := by decide +kernel
theorem dX7_log_19 : decode cX7_log 19 = .ok (.ifCond .eq 14, 3) := by decide +kernel
theorem dX7_log_22 : decode cX7_log 22 = .ok (.iload 4, 2) := by decide +kernel
theorem dX7_log_24 : decode cX7_log 24 = .ok (.iconst 0, 1) := by decide +kernel
theorem dX7_log_25 : decode cX7_log 25 = .ok (.bipush 7, 2) := by decide +kernel
theorem dX7_log_27 : decode cX7_log 27 = .ok (.invokestatic 37, 3) := by decide +kernel
theorem dX7_log_30 : decode cX7_log 30 = .ok (.ifCond .ne 5, 3) := by decide +kernel
theorem dX7_log_33 : decode cX7_log 33 = .ok (.iconst (-1), 1) := by decide +kernel
theorem dX7_log_34 : decode cX7_log 34 = .ok (.ireturn, 1) := by decide +kernel
theorem dX7_log_35 : decode cX7_log 35 = .ok (.aload_n 0, 1) := by decide +kernel
theorem dX7_log_36 : decode cX7_log 36 = .ok (.getfield 12, 3) := by decide +kernel
theorem dX7_log_39 : decode cX7_log 39 = .ok (.getfield 86, 3) := by decide +kernel
theorem dX7_log_42 : decode cX7_log 42 = .ok (.iload_n 1, 1) := by decide +kernel
theorem dX7_log_43 : decode cX7_log 43 = .ok (.aaload, 1) := by decide +kernel
theorem dX7_log_44 : decode cX7_log 44 = .ok (.getfield 207, 3) := by decide +kernel
theorem dX7_log_47 : decode cX7_log 47 = .ok (.iload_n 2, 1) := by decide +kernel
theorem dX7_log_48 : decode cX7_log 48 = .ok (.aaload, 1) := by decide +kernel
theorem dX7_log_49 : decode cX7_log 49 = .ok (.astore 5, 2) := by decide +kernel
theorem dX7_log_51 : decode cX7_log 51 = .ok (.aload 5, 2) := by decide +kernel
theorem dX7_log_53 : decode cX7_log 53 = .ok (.iload_n 3, 1) := by decide +kernel
theorem dX7_log_54 : decode cX7_log 54 = .ok (.iaload, 1) := by decide +kernel
theorem dX7_log_55 : decode cX7_log 55 = .ok (.istore 6, 2) := by decide +kernel
theorem dX7_log_57 : decode cX7_log 57 = .ok (.aload 5, 2) := by decide +kernel
theorem dX7_log_59 : decode cX7_log 59 = .ok (.iload_n 3, 1) := by decide +kernel
theorem dX7_log_60 : decode cX7_log 60 = .ok (.iload 4, 2) := by decide +kernel
theorem dX7_log_62 : decode cX7_log 62 = .ok (.iastore, 1) := by decide +kernel
theorem dX7_log_63 : decode cX7_log 63 = .ok (.iload 6, 2) := by decide +kernel
theorem dX7_log_65 : decode cX7_log 65 = .ok (.ireturn, 1) := by decide +kernel
set_option maxRecDepth 20000 in
theorem ggX7_judged_X7_isTerm : GoodIn wsX7_judged wsX7_isTerm := goodIn_r _ [7, 1, 2, 8, 9, 10, 11, 6, 12, 13, 14, 15, 16, 29, 30, 31, 32, 33, 34, 35, 36, 37, 38, 39, 40, 41, 42, 43, 44, 45, 46, 47, 48, 49, 50, 51] (by decide +kernel) (by decide +kernel)
set_option maxRecDepth 20000 in
theorem gX7_judged_X7_isTerm : GoodIn wsX7_judged (wsV RX7 194 RX7 yX7_isTerm wsX7_isTerm) := goodIn_app (goodIn_of _ (by decide +kernel)) ggX7_judged_X7_isTerm
set_option maxRecDepth 20000 in
theorem ggX7_judged_X0_judge : GoodIn wsX7_judged wsX0_judge := goodIn_r _ [21, 22, 23, 24, 25, 26, 27, 28, 41, 42, 43, 44, 45, 46, 47, 48, 49, 50, 51, 52, 53, 54, 55, 56] (by decide +kernel) (by decide +kernel)
set_option maxRecDepth 20000 in
theorem gX7_judged_X0_judge : GoodIn wsX7_judged (wsV RX7 211 RX0 yX0_judge wsX0_judge) := goodIn_app (goodIn_of _ (by decide +kernel)) ggX7_judged_X0_judge
theorem dX7_judged_0 : decode cX7_judged 0 = .ok (.aload_n 0, 1) := by decide +kernel
theorem dX7_judged_1 : decode cX7_judged 1 = .ok (.iload_n 1, 1) := by decide +kernel
theorem dX7_judged_2 : decode cX7_judged 2 = .ok (.iload_n 2, 1) := by decide +kernel
theorem dX7_judged_3 : decode cX7_judged 3 = .ok (.invokevirtual 194, 3) := by decide +kernel
theorem dX7_judged_6 : decode cX7_judged 6 = .ok (.ifCond .ne 5, 3) := by decide +kernel
theorem dX7_judged_9 : decode cX7_judged 9 = .ok (.iconst (-1), 1) := by decide +kernel
theorem dX7_judged_10 : decode cX7_judged 10 = .ok (.ireturn, 1) := by decide +kernel
theorem dX7_judged_11 : decode cX7_judged 11 = .ok (.aload_n 0, 1) := by decide +kernel
theorem dX7_judged_12 : decode cX7_judged 12 = .ok (.getfield 12, 3) := by decide +kernel
theorem dX7_judged_15 : decode cX7_judged 15 = .ok (.getfield 86, 3) := by decide +kernel
theorem dX7_judged_18 : decode cX7_judged 18 = .ok (.iload_n 1, 1) := by decide +kernel
theorem dX7_judged_19 : decode cX7_judged 19 = .ok (.aaload, 1) := by decide +kernel
theorem dX7_judged_20 : decode cX7_judged 20 = .ok (.iload_n 2, 1) := by decide +kernel
theorem dX7_judged_21 : decode cX7_judged 21 = .ok (.invokevirtual 211, 3) := by decide +kernel
theorem dX7_judged_24 : decode cX7_judged 24 = .ok (.ireturn, 1) := by decide +kernel
set_option maxRecDepth 20000 in
theorem ggX7_many_X1_countState : GoodIn wsX7_many wsX1_countState := goodIn_r _ [10, 11, 12, 13, 56, 57, 58, 59, 60, 61, 62, 63, 64, 65, 66, 67, 68, 69, 70, 71, 72, 73] (by decide +kernel) (by decide +kernel)
set_option maxRecDepth 20000 in
theorem gX7_many_X1_countState : GoodIn wsX7_many (wsV RX7 214 RX1 yX1_countState wsX1_countState) := goodIn_app (goodIn_of _ (by decide +kernel)) ggX7_many_X1_countState
set_option maxRecDepth 20000 in
theorem ggX7_many_X1_countQuarrels : GoodIn wsX7_many wsX1_countQuarrels := goodIn_r _ [17, 11, 18, 19, 20, 9, 21, 22, 23, 24, 25, 12, 26, 27, 28, 29, 56, 57, 58, 59, 60, 61, 62, 63, 64, 65, 66, 67, 68, 69, 70, 71, 72, 73] (by decide +kernel) (by decide +kernel)
set_option maxRecDepth 20000 in
theorem gX7_many_X1_countQuarrels : GoodIn wsX7_many (wsV RX7 217 RX1 yX1_countQuarrels wsX1_countQuarrels) := goodIn_app (goodIn_of _ (by decide +kernel)) ggX7_many_X1_countQuarrels
set_option maxRecDepth 20000 in
theorem ggX7_many_X1_countTerms : GoodIn wsX7_many wsX1_countTerms := goodIn_r _ [33, 11, 12, 34, 56, 57, 58, 59, 60, 61, 62, 63, 64, 65, 66, 67, 68, 69, 70, 71, 72, 73] (by decide +kernel) (by decide +kernel)
set_option maxRecDepth 20000 in
theorem gX7_many_X1_countTerms : GoodIn wsX7_many (wsV RX7 221 RX1 yX1_countTerms wsX1_countTerms) := goodIn_app (goodIn_of _ (by decide +kernel)) ggX7_many_X1_countTerms
set_option maxRecDepth 20000 in
theorem ggX7_many_X1_countJudged : GoodIn wsX7_many wsX1_countJudged := goodIn_r _ [38, 11, 12, 34, 39, 40, 41, 42, 43, 44, 45, 46, 47, 48, 49, 50, 56, 57, 58, 59, 60, 61, 62, 63, 64, 65, 66, 67, 68, 69, 70, 71, 72, 73, 74, 75, 76, 77, 78] (by decide +kernel) (by decide +kernel)
set_option maxRecDepth 20000 in
theorem gX7_many_X1_countJudged : GoodIn wsX7_many (wsV RX7 224 RX1 yX1_countJudged wsX1_countJudged) := goodIn_app (goodIn_of _ (by decide +kernel)) ggX7_many_X1_countJudged
theorem dX7_many_0 : decode cX7_many 0 = .ok (.iload_n 1, 1) := by decide +kernel
theorem dX7_many_1 : decode cX7_many 1 = .ok (.tableswitch 152 0 10 #[59, 67, 75, 83, 92, 101, 109, 117, 125, 134, 143], 59) := by decide +kernel
theorem dX7_many_60 : decode cX7_many 60 = .ok (.aload_n 0, 1) := by decide +kernel
theorem dX7_many_61 : decode cX7_many 61 = .ok (.getfield 12, 3) := by decide +kernel
theorem dX7_many_64 : decode cX7_many 64 = .ok (.getfield 41, 3) := by decide +kernel
theorem dX7_many_67 : decode cX7_many 67 = .ok (.ireturn, 1) := by decide +kernel
theorem dX7_many_68 : decode cX7_many 68 = .ok (.aload_n 0, 1) := by decide +kernel
theorem dX7_many_69 : decode cX7_many 69 = .ok (.getfield 12, 3) := by decide +kernel
theorem dX7_many_72 : decode cX7_many 72 = .ok (.getfield 56, 3) := by decide +kernel
theorem dX7_many_75 : decode cX7_many 75 = .ok (.ireturn, 1) := by decide +kernel
theorem dX7_many_76 : decode cX7_many 76 = .ok (.aload_n 0, 1) := by decide +kernel
theorem dX7_many_77 : decode cX7_many 77 = .ok (.getfield 12, 3) := by decide +kernel
theorem dX7_many_80 : decode cX7_many 80 = .ok (.getfield 83, 3) := by decide +kernel
theorem dX7_many_83 : decode cX7_many 83 = .ok (.ireturn, 1) := by decide +kernel
theorem dX7_many_84 : decode cX7_many 84 = .ok (.aload_n 0, 1) := by decide +kernel
theorem dX7_many_85 : decode cX7_many 85 = .ok (.getfield 12, 3) := by decide +kernel
theorem dX7_many_88 : decode cX7_many 88 = .ok (.iconst 0, 1) := by decide +kernel
theorem dX7_many_89 : decode cX7_many 89 = .ok (.invokevirtual 214, 3) := by decide +kernel
theorem dX7_many_92 : decode cX7_many 92 = .ok (.ireturn, 1) := by decide +kernel
theorem dX7_many_93 : decode cX7_many 93 = .ok (.aload_n 0, 1) := by decide +kernel
theorem dX7_many_94 : decode cX7_many 94 = .ok (.getfield 12, 3) := by decide +kernel
theorem dX7_many_97 : decode cX7_many 97 = .ok (.iconst 1, 1) := by decide +kernel
theorem dX7_many_98 : decode cX7_many 98 = .ok (.invokevirtual 214, 3) := by decide +kernel
theorem dX7_many_101 : decode cX7_many 101 = .ok (.ireturn, 1) := by decide +kernel
theorem dX7_many_102 : decode cX7_many 102 = .ok (.aload_n 0, 1) := by decide +kernel
theorem dX7_many_103 : decode cX7_many 103 = .ok (.getfield 12, 3) := by decide +kernel
theorem dX7_many_106 : decode cX7_many 106 = .ok (.getfield 108, 3) := by decide +kernel
theorem dX7_many_109 : decode cX7_many 109 = .ok (.ireturn, 1) := by decide +kernel
theorem dX7_many_110 : decode cX7_many 110 = .ok (.aload_n 0, 1) := by decide +kernel
theorem dX7_many_111 : decode cX7_many 111 = .ok (.getfield 12, 3) := by decide +kernel
theorem dX7_many_114 : decode cX7_many 114 = .ok (.invokevirtual 217, 3) := by decide +kernel
theorem dX7_many_117 : decode cX7_many 117 = .ok (.ireturn, 1) := by decide +kernel
theorem dX7_many_118 : decode cX7_many 118 = .ok (.aload_n 0, 1) := by decide +kernel
theorem dX7_many_119 : decode cX7_many 119 = .ok (.getfield 12, 3) := by decide +kernel
theorem dX7_many_122 : decode cX7_many 122 = .ok (.invokevirtual 221, 3) := by decide +kernel
theorem dX7_many_125 : decode cX7_many 125 = .ok (.ireturn, 1) := by decide +kernel
theorem dX7_many_126 : decode cX7_many 126 = .ok (.aload_n 0, 1) := by decide +kernel
theorem dX7_many_127 : decode cX7_many 127 = .ok (.getfield 12, 3) := by decide +kernel
theorem dX7_many_130 : decode cX7_many 130 = .ok (.iconst 1, 1) := by decide +kernel
theorem dX7_many_131 : decode cX7_many 131 = .ok (.invokevirtual 224, 3) := by decide +kernel
theorem dX7_many_134 : decode cX7_many 134 = .ok (.ireturn, 1) := by decide +kernel
theorem dX7_many_135 : decode cX7_many 135 = .ok (.aload_n 0, 1) := by decide +kernel
theorem dX7_many_136 : decode cX7_many 136 = .ok (.getfield 12, 3) := by decide +kernel
theorem dX7_many_139 : decode cX7_many 139 = .ok (.iconst 0, 1) := by decide +kernel
theorem dX7_many_140 : decode cX7_many 140 = .ok (.invokevirtual 224, 3) := by decide +kernel
theorem dX7_many_143 : decode cX7_many 143 = .ok (.ireturn, 1) := by decide +kernel
theorem dX7_many_144 : decode cX7_many 144 = .ok (.aload_n 0, 1) := by decide +kernel
theorem dX7_many_145 : decode cX7_many 145 = .ok (.getfield 12, 3) := by decide +kernel
theorem dX7_many_148 : decode cX7_many 148 = .ok (.iconst 2, 1) := by decide +kernel
theorem dX7_many_149 : decode cX7_many 149 = .ok (.invokevirtual 224, 3) := by decide +kernel
theorem dX7_many_152 : decode cX7_many 152 = .ok (.ireturn, 1) := by decide +kernel
theorem dX7_many_153 : decode cX7_many 153 = .ok (.iconst (-1), 1) := by decide +kernel
theorem dX7_many_154 : decode cX7_many 154 = .ok (.ireturn, 1) := by decide +kernel
set_option maxRecDepth 20000 in
theorem ggX7_keep_X1_init : GoodIn wsX7_keep wsX1_init := goodIn_r _ [8, 9, 10, 11, 12, 13, 14, 15, 16, 17, 18, 19, 20, 21, 22, 23, 24, 25, 26, 27, 28, 29, 30, 31, 32, 33, 34, 35, 36, 37, 38, 39, 40, 41, 42, 43, 44, 45, 46, 96, 97, 98, 99, 100, 101, 102, 103, 104, 105, 106, 107, 108, 109, 110, 111, 112, 113, 114, 115, 116, 117, 118, 119, 120, 121, 122, 123] (by decide +kernel) (by decide +kernel)
set_option maxRecDepth 20000 in
theorem gX7_keep_X1_init : GoodIn wsX7_keep (wsX1_init) := ggX7_keep_X1_init
set_option maxRecDepth 20000 in
theorem ggX7_keep_X1_copyFrom : GoodIn wsX7_keep wsX1_copyFrom := goodIn_r _ [50, 51, 52, 53, 54, 13, 15, 17, 55, 56, 57, 19, 58, 59, 60, 61, 62, 63, 21, 64, 65, 66, 67, 68, 69, 70, 23, 71, 72, 73, 74, 75, 76, 77, 35, 36, 38, 78, 79, 80, 81, 39, 41, 82, 83, 84, 43, 85, 86, 87, 88, 89, 90, 96, 97, 98, 99, 100, 101, 102, 103, 104, 105, 106, 107, 108, 109, 110, 111, 112, 113, 114, 115, 116, 117, 118, 119, 120, 121, 122, 123] (by decide +kernel) (by decide +kernel)
set_option maxRecDepth 20000 in
theorem gX7_keep_X1_copyFrom : GoodIn wsX7_keep (wsV RX7 227 RX1 yX1_copyFrom wsX1_copyFrom) := goodIn_app (goodIn_of _ (by decide +kernel)) ggX7_keep_X1_copyFrom
theorem dX7_keep_0 : decode cX7_keep 0 = .ok (.aload_n 0, 1) := by decide +kernel
theorem dX7_keep_1 : decode cX7_keep 1 = .ok (.getfield 30, 3) := by decide +kernel
theorem dX7_keep_4 : decode cX7_keep 4 = .ok (.ifnonnull 14, 3) := by decide +kernel
theorem dX7_keep_7 : decode cX7_keep 7 = .ok (.aload_n 0, 1) := by decide +kernel
theorem dX7_keep_8 : decode cX7_keep 8 = .ok (.new 9, 3) := by decide +kernel
theorem dX7_keep_11 : decode cX7_keep 11 = .ok (.dup, 1) := by decide +kernel
theorem dX7_keep_12 : decode cX7_keep 12 = .ok (.invokespecial 11, 3) := by decide +kernel
theorem dX7_keep_15 : decode cX7_keep 15 = .ok (.putfield 30, 3) := by decide +kernel
theorem dX7_keep_18 : decode cX7_keep 18 = .ok (.aload_n 0, 1) := by decide +kernel
theorem dX7_keep_19 : decode cX7_keep 19 = .ok (.getfield 30, 3) := by decide +kernel
theorem dX7_keep_22 : decode cX7_keep 22 = .ok (.aload_n 0, 1) := by decide +kernel
theorem dX7_keep_23 : decode cX7_keep 23 = .ok (.getfield 12, 3) := by decide +kernel
theorem dX7_keep_26 : decode cX7_keep 26 = .ok (.invokevirtual 227, 3) := by decide +kernel
theorem dX7_keep_29 : decode cX7_keep 29 = .ok (.iconst 1, 1) := by decide +kernel
theorem dX7_keep_30 : decode cX7_keep 30 = .ok (.ireturn, 1) := by decide +kernel
set_option maxRecDepth 20000 in
theorem ggX7_back_X1_copyFrom : GoodIn wsX7_back wsX1_copyFrom := goodIn_r _ [7, 8, 9, 10, 11, 12, 13, 14, 15, 16, 17, 18, 19, 20, 21, 22, 23, 24, 25, 26, 27, 28, 29, 30, 31, 32, 33, 34, 35, 36, 37, 38, 39, 40, 41, 42, 43, 44, 45, 46, 47, 48, 49, 50, 51, 52, 53, 54, 55, 56, 57, 58, 59, 65, 66, 67, 68, 69, 70, 71, 72, 73, 74, 75, 76, 77, 78, 79, 80, 81, 82, 83, 84, 85, 86, 87, 88, 89, 90, 91, 92] (by decide +kernel) (by decide +kernel)
set_option maxRecDepth 20000 in
theorem gX7_back_X1_copyFrom : GoodIn wsX7_back (wsV RX7 227 RX1 yX1_copyFrom wsX1_copyFrom) := goodIn_app (goodIn_of _ (by decide +kernel)) ggX7_back_X1_copyFrom
theorem dX7_back_0 : decode cX7_back 0 = .ok (.aload_n 0, 1) := by decide +kernel
theorem dX7_back_1 : decode cX7_back 1 = .ok (.getfield 30, 3) := by decide +kernel
theorem dX7_back_4 : decode cX7_back 4 = .ok (.ifnonnull 6, 3) := by decide +kernel
theorem dX7_back_7 : decode cX7_back 7 = .ok (.bipush (-5), 2) := by decide +kernel
theorem dX7_back_9 : decode cX7_back 9 = .ok (.ireturn, 1) := by decide +kernel
theorem dX7_back_10 : decode cX7_back 10 = .ok (.aload_n 0, 1) := by decide +kernel
theorem dX7_back_11 : decode cX7_back 11 = .ok (.getfield 12, 3) := by decide +kernel
theorem dX7_back_14 : decode cX7_back 14 = .ok (.aload_n 0, 1) := by decide +kernel
theorem dX7_back_15 : decode cX7_back 15 = .ok (.getfield 30, 3) := by decide +kernel
theorem dX7_back_18 : decode cX7_back 18 = .ok (.invokevirtual 227, 3) := by decide +kernel
theorem dX7_back_21 : decode cX7_back 21 = .ok (.iconst 1, 1) := by decide +kernel
theorem dX7_back_22 : decode cX7_back 22 = .ok (.ireturn, 1) := by decide +kernel
set_option maxRecDepth 20000 in
theorem ggX7_isParty_X7_isWithin : GoodIn wsX7_isParty wsX7_isWithin := goodIn_r _ [6] (by decide +kernel) (by decide +kernel)
set_option maxRecDepth 20000 in
theorem gX7_isParty_X7_isWithin : GoodIn wsX7_isParty (va_wsS RX7 37 yX7_isWithin wsX7_isWithin) := goodIn_app (goodIn_of _ (by decide +kernel)) ggX7_isParty_X7_isWithin
theorem dX7_isParty_0 : decode cX7_isParty 0 = .ok (.iload_n 1, 1) := by decide +kernel
theorem dX7_isParty_1 : decode cX7_isParty 1 = .ok (.iconst 0, 1) := by decide +kernel
theorem dX7_isParty_2 : decode cX7_isParty 2 = .ok (.aload_n 0, 1) := by decide +kernel
theorem dX7_isParty_3 : decode cX7_isParty 3 = .ok (.getfield 12, 3) := by decide +kernel
theorem dX7_isParty_6 : decode cX7_isParty 6 = .ok (.getfield 41, 3) := by decide +kernel
theorem dX7_isParty_9 : decode cX7_isParty 9 = .ok (.iconst 1, 1) := by decide +kernel
theorem dX7_isParty_10 : decode cX7_isParty 10 = .ok (.isub, 1) := by decide +kernel
theorem dX7_isParty_11 : decode cX7_isParty 11 = .ok (.invokestatic 37, 3) := by decide +kernel
theorem dX7_isParty_14 : decode cX7_isParty 14 = .ok (.ireturn, 1) := by decide +kernel
set_option maxRecDepth 20000 in
theorem ggX7_isMediator_X7_isWithin : GoodIn wsX7_isMediator wsX7_isWithin := goodIn_r _ [6] (by decide +kernel) (by decide +kernel)
set_option maxRecDepth 20000 in
theorem gX7_isMediator_X7_isWithin : GoodIn wsX7_isMediator (va_wsS RX7 37 yX7_isWithin wsX7_isWithin) := goodIn_app (goodIn_of _ (by decide +kernel)) ggX7_isMediator_X7_isWithin
theorem dX7_isMediator_0 : decode cX7_isMediator 0 = .ok (.iload_n 1, 1) := by decide +kernel
theorem dX7_isMediator_1 : decode cX7_isMediator 1 = .ok (.iconst 0, 1) := by decide +kernel
theorem dX7_isMediator_2 : decode cX7_isMediator 2 = .ok (.aload_n 0, 1) := by decide +kernel
theorem dX7_isMediator_3 : decode cX7_isMediator 3 = .ok (.getfield 12, 3) := by decide +kernel
theorem dX7_isMediator_6 : decode cX7_isMediator 6 = .ok (.getfield 56, 3) := by decide +kernel
theorem dX7_isMediator_9 : decode cX7_isMediator 9 = .ok (.iconst 1, 1) := by decide +kernel
theorem dX7_isMediator_10 : decode cX7_isMediator 10 = .ok (.isub, 1) := by decide +kernel
theorem dX7_isMediator_11 : decode cX7_isMediator 11 = .ok (.invokestatic 37, 3) := by decide +kernel
theorem dX7_isMediator_14 : decode cX7_isMediator 14 = .ok (.ireturn, 1) := by decide +kernel
set_option maxRecDepth 20000 in
theorem ggX7_isCase_X7_isWithin : GoodIn wsX7_isCase wsX7_isWithin := goodIn_r _ [6] (by decide +kernel) (by decide +kernel)
set_option maxRecDepth 20000 in
theorem gX7_isCase_X7_isWithin : GoodIn wsX7_isCase (va_wsS RX7 37 yX7_isWithin wsX7_isWithin) := goodIn_app (goodIn_of _ (by decide +kernel)) ggX7_isCase_X7_isWithin
theorem dX7_isCase_0 : decode cX7_isCase 0 = .ok (.iload_n 1, 1) := by decide +kernel
theorem dX7_isCase_1 : decode cX7_isCase 1 = .ok (.iconst 0, 1) := by decide +kernel
theorem dX7_isCase_2 : decode cX7_isCase 2 = .ok (.aload_n 0, 1) := by decide +kernel
theorem dX7_isCase_3 : decode cX7_isCase 3 = .ok (.getfield 12, 3) := by decide +kernel
theorem dX7_isCase_6 : decode cX7_isCase 6 = .ok (.getfield 83, 3) := by decide +kernel
theorem dX7_isCase_9 : decode cX7_isCase 9 = .ok (.iconst 1, 1) := by decide +kernel
theorem dX7_isCase_10 : decode cX7_isCase 10 = .ok (.isub, 1) := by decide +kernel
theorem dX7_isCase_11 : decode cX7_isCase 11 = .ok (.invokestatic 37, 3) := by decide +kernel
theorem dX7_isCase_14 : decode cX7_isCase 14 = .ok (.ireturn, 1) := by decide +kernel
set_option maxRecDepth 20000 in
theorem ggX7_isTerm_X7_isCase : GoodIn wsX7_isTerm wsX7_isCase := goodIn_r _ [8, 1, 9, 10, 11, 7, 12, 13, 14, 15, 16, 17, 18, 19, 20, 21, 22, 23, 24] (by decide +kernel) (by decide +kernel)
set_option maxRecDepth 20000 in
theorem gX7_isTerm_X7_isCase : GoodIn wsX7_isTerm (wsV RX7 96 RX7 yX7_isCase wsX7_isCase) := goodIn_app (goodIn_of _ (by decide +kernel)) ggX7_isTerm_X7_isCase
set_option maxRecDepth 20000 in
theorem ggX7_isTerm_X7_isWithin : GoodIn wsX7_isTerm wsX7_isWithin := goodIn_r _ [12] (by decide +kernel) (by decide +kernel)
set_option maxRecDepth 20000 in
theorem gX7_isTerm_X7_isWithin : GoodIn wsX7_isTerm (va_wsS RX7 37 yX7_isWithin wsX7_isWithin) := goodIn_app (goodIn_of _ (by decide +kernel)) ggX7_isTerm_X7_isWithin
theorem dX7_isTerm_0 : decode cX7_isTerm 0 = .ok (.aload_n 0, 1) := by decide +kernel
theorem dX7_isTerm_1 : decode cX7_isTerm 1 = .ok (.iload_n 1, 1) := by decide +kernel
theorem dX7_isTerm_2 : decode cX7_isTerm 2 = .ok (.invokevirtual 96, 3) := by decide +kernel
theorem dX7_isTerm_5 : decode cX7_isTerm 5 = .ok (.ifCond .eq 29, 3) := by decide +kernel
theorem dX7_isTerm_8 : decode cX7_isTerm 8 = .ok (.iload_n 2, 1) := by decide +kernel
theorem dX7_isTerm_9 : decode cX7_isTerm 9 = .ok (.iconst 0, 1) := by decide +kernel
theorem dX7_isTerm_10 : decode cX7_isTerm 10 = .ok (.aload_n 0, 1) := by decide +kernel
theorem dX7_isTerm_11 : decode cX7_isTerm 11 = .ok (.getfield 12, 3) := by decide +kernel
theorem dX7_isTerm_14 : decode cX7_isTerm 14 = .ok (.getfield 86, 3) := by decide +kernel
theorem dX7_isTerm_17 : decode cX7_isTerm 17 = .ok (.iload_n 1, 1) := by decide +kernel
theorem dX7_isTerm_18 : decode cX7_isTerm 18 = .ok (.aaload, 1) := by decide +kernel
theorem dX7_isTerm_19 : decode cX7_isTerm 19 = .ok (.getfield 169, 3) := by decide +kernel
theorem dX7_isTerm_22 : decode cX7_isTerm 22 = .ok (.iconst 1, 1) := by decide +kernel
theorem dX7_isTerm_23 : decode cX7_isTerm 23 = .ok (.isub, 1) := by decide +kernel
theorem dX7_isTerm_24 : decode cX7_isTerm 24 = .ok (.invokestatic 37, 3) := by decide +kernel
theorem dX7_isTerm_27 : decode cX7_isTerm 27 = .ok (.ifCond .eq 7, 3) := by decide +kernel
theorem dX7_isTerm_30 : decode cX7_isTerm 30 = .ok (.iconst 1, 1) := by decide +kernel
theorem dX7_isTerm_31 : decode cX7_isTerm 31 = .ok (.goto 4, 3) := by decide +kernel
theorem dX7_isTerm_34 : decode cX7_isTerm 34 = .ok (.iconst 0, 1) := by decide +kernel
theorem dX7_isTerm_35 : decode cX7_isTerm 35 = .ok (.ireturn, 1) := by decide +kernel
set_option maxRecDepth 20000 in
theorem ggX7_isSide_X7_isWithin : GoodIn wsX7_isSide wsX7_isWithin := goodIn_r _ [4] (by decide +kernel) (by decide +kernel)
set_option maxRecDepth 20000 in
theorem gX7_isSide_X7_isWithin : GoodIn wsX7_isSide (va_wsS RX7 37 yX7_isWithin wsX7_isWithin) := goodIn_app (goodIn_of _ (by decide +kernel)) ggX7_isSide_X7_isWithin
theorem dX7_isSide_0 : decode cX7_isSide 0 = .ok (.iload_n 0, 1) := by decide +kernel
theorem dX7_isSide_1 : decode cX7_isSide 1 = .ok (.iconst 0, 1) := by decide +kernel
theorem dX7_isSide_2 : decode cX7_isSide 2 = .ok (.iconst 1, 1) := by decide +kernel
theorem dX7_isSide_3 : decode cX7_isSide 3 = .ok (.invokestatic 37, 3) := by decide +kernel
theorem dX7_isSide_6 : decode cX7_isSide 6 = .ok (.ireturn, 1) := by decide +kernel
set_option maxRecDepth 20000 in
theorem ggX7_isHour_X7_isWithin : GoodIn wsX7_isHour wsX7_isWithin := goodIn_r _ [4] (by decide +kernel) (by decide +kernel)
set_option maxRecDepth 20000 in
theorem gX7_isHour_X7_isWithin : GoodIn wsX7_isHour (va_wsS RX7 37 yX7_isWithin wsX7_isWithin) := goodIn_app (goodIn_of _ (by decide +kernel)) ggX7_isHour_X7_isWithin
theorem dX7_isHour_0 : decode cX7_isHour 0 = .ok (.iload_n 0, 1) := by decide +kernel
theorem dX7_isHour_1 : decode cX7_isHour 1 = .ok (.iconst 0, 1) := by decide +kernel
theorem dX7_isHour_2 : decode cX7_isHour 2 = .ok (.bipush 23, 2) := by decide +kernel
theorem dX7_isHour_4 : decode cX7_isHour 4 = .ok (.invokestatic 37, 3) := by decide +kernel
theorem dX7_isHour_7 : decode cX7_isHour 7 = .ok (.ireturn, 1) := by decide +kernel
theorem dX7_isWithin_0 : decode cX7_isWithin 0 = .ok (.iload_n 0, 1) := by decide +kernel
theorem dX7_isWithin_1 : decode cX7_isWithin 1 = .ok (.iload_n 1, 1) := by decide +kernel
theorem dX7_isWithin_2 : decode cX7_isWithin 2 = .ok (.if_icmp .lt 12, 3) := by decide +kernel
theorem dX7_isWithin_5 : decode cX7_isWithin 5 = .ok (.iload_n 0, 1) := by decide +kernel
theorem dX7_isWithin_6 : decode cX7_isWithin 6 = .ok (.iload_n 2, 1) := by decide +kernel
theorem dX7_isWithin_7 : decode cX7_isWithin 7 = .ok (.if_icmp .gt 7, 3) := by decide +kernel
theorem dX7_isWithin_10 : decode cX7_isWithin 10 = .ok (.iconst 1, 1) := by decide +kernel
theorem dX7_isWithin_11 : decode cX7_isWithin 11 = .ok (.goto 4, 3) := by decide +kernel
theorem dX7_isWithin_14 : decode cX7_isWithin 14 = .ok (.iconst 0, 1) := by decide +kernel
theorem dX7_isWithin_15 : decode cX7_isWithin 15 = .ok (.ireturn, 1) := by decide +kernel
theorem dX7_hasBit_0 : decode cX7_hasBit 0 = .ok (.iload_n 0, 1) := by decide +kernel
theorem dX7_hasBit_1 : decode cX7_hasBit 1 = .ok (.iload_n 1, 1) := by decide +kernel
theorem dX7_hasBit_2 : decode cX7_hasBit 2 = .ok (.ishr, 1) := by decide +kernel
theorem dX7_hasBit_3 : decode cX7_hasBit 3 = .ok (.iconst 1, 1) := by decide +kernel
theorem dX7_hasBit_4 : decode cX7_hasBit 4 = .ok (.iand, 1) := by decide +kernel
theorem dX7_hasBit_5 : decode cX7_hasBit 5 = .ok (.iconst 1, 1) := by decide +kernel
theorem dX7_hasBit_6 : decode cX7_hasBit 6 = .ok (.if_icmp .ne 7, 3) := by decide +kernel
theorem dX7_hasBit_9 : decode cX7_hasBit 9 = .ok (.iconst 1, 1) := by decide +kernel
theorem dX7_hasBit_10 : decode cX7_hasBit 10 = .ok (.goto 4, 3) := by decide +kernel
theorem dX7_hasBit_13 : decode cX7_hasBit 13 = .ok (.iconst 0, 1) := by decide +kernel
theorem dX7_hasBit_14 : decode cX7_hasBit 14 = .ok (.ireturn, 1) := by decide +kernel
theorem dX8_init_0 : decode cX8_init 0 = .ok (.aload_n 0, 1) := by decide +kernel
theorem dX8_init_1 : decode cX8_init 1 = .ok (.invokespecial 1, 3) := by decide +kernel
theorem dX8_init_4 : decode cX8_init 4 = .ok (.aload_n 0, 1) := by decide +kernel
theorem dX8_init_5 : decode cX8_init 5 = .ok (.sipush 596, 3) := by decide +kernel
theorem dX8_init_8 : decode cX8_init 8 = .ok (.newarray .int, 2) := by decide +kernel
theorem dX8_init_10 : decode cX8_init 10 = .ok (.putfield 7, 3) := by decide +kernel
theorem dX8_init_13 : decode cX8_init 13 = .ok (.aload_n 0, 1) := by decide +kernel
theorem dX8_init_14 : decode cX8_init 14 = .ok (.sipush 596, 3) := by decide +kernel
theorem dX8_init_17 : decode cX8_init 17 = .ok (.newarray .int, 2) := by decide +kernel
theorem dX8_init_19 : decode cX8_init 19 = .ok (.putfield 13, 3) := by decide +kernel
theorem dX8_init_22 : decode cX8_init 22 = .ok (.aload_n 0, 1) := by decide +kernel
theorem dX8_init_23 : decode cX8_init 23 = .ok (.iconst 1, 1) := by decide +kernel
theorem dX8_init_24 : decode cX8_init 24 = .ok (.putfield 16, 3) := by decide +kernel
theorem dX8_init_27 : decode cX8_init 27 = .ok (.aload_n 0, 1) := by decide +kernel
theorem dX8_init_28 : decode cX8_init 28 = .ok (.bipush 6, 2) := by decide +kernel
theorem dX8_init_30 : decode cX8_init 30 = .ok (.newarray .int, 2) := by decide +kernel
theorem dX8_init_32 : decode cX8_init 32 = .ok (.putfield 20, 3) := by decide +kernel
theorem dX8_init_35 : decode cX8_init 35 = .ok (.aload_n 0, 1) := by decide +kernel
theorem dX8_init_36 : decode cX8_init 36 = .ok (.iconst 4, 1) := by decide +kernel
theorem dX8_init_37 : decode cX8_init 37 = .ok (.newarray .int, 2) := by decide +kernel
theorem dX8_init_39 : decode cX8_init 39 = .ok (.putfield 23, 3) := by decide +kernel
theorem dX8_init_42 : decode cX8_init 42 = .ok (.aload_n 0, 1) := by decide +kernel
theorem dX8_init_43 : decode cX8_init 43 = .ok (.iconst 5, 1) := by decide +kernel
theorem dX8_init_44 : decode cX8_init 44 = .ok (.newarray .int, 2) := by decide +kernel
theorem dX8_init_46 : decode cX8_init 46 = .ok (.putfield 26, 3) := by decide +kernel
theorem dX8_init_49 : decode cX8_init 49 = .ok (.aload_n 0, 1) := by decide +kernel
theorem dX8_init_50 : decode cX8_init 50 = .ok (.iconst 4, 1) := by decide +kernel
theorem dX8_init_51 : decode cX8_init 51 = .ok (.newarray .int, 2) := by decide +kernel
theorem dX8_init_53 : decode cX8_init 53 = .ok (.putfield 29, 3) := by decide +kernel
theorem dX8_init_56 : decode cX8_init 56 = .ok (.aload_n 0, 1) := by decide +kernel
theorem dX8_init_57 : decode cX8_init 57 = .ok (.bipush 6, 2) := by decide +kernel
theorem dX8_init_59 : decode cX8_init 59 = .ok (.newarray .int, 2) := by decide +kernel
theorem dX8_init_61 : decode cX8_init 61 = .ok (.putfield 32, 3) := by decide +kernel
theorem dX8_init_64 : decode cX8_init 64 = .ok (.aload_n 0, 1) := by decide +kernel
theorem dX8_init_65 : decode cX8_init 65 = .ok (.getfield 7, 3) := by decide +kernel
theorem dX8_init_68 : decode cX8_init 68 = .ok (.iconst 0, 1) := by decide +kernel
theorem dX8_init_69 : decode cX8_init 69 = .ok (.iconst 0, 1) := by decide +kernel
theorem dX8_init_70 : decode cX8_init 70 = .ok (.iastore, 1) := by decide +kernel
theorem dX8_init_71 : decode cX8_init 71 = .ok (.return_, 1) := by decide +kernel
theorem dX8_in_0 : decode cX8_in 0 = .ok (.iload_n 0, 1) := by decide +kernel
theorem dX8_in_1 : decode cX8_in 1 = .ok (.iload_n 1, 1) := by decide +kernel
theorem dX8_in_2 : decode cX8_in 2 = .ok (.if_icmp .lt 12, 3) := by decide +kernel
theorem dX8_in_5 : decode cX8_in 5 = .ok (.iload_n 0, 1) := by decide +kernel
theorem dX8_in_6 : decode cX8_in 6 = .ok (.iload_n 2, 1) := by decide +kernel
theorem dX8_in_7 : decode cX8_in 7 = .ok (.if_icmp .gt 7, 3) := by decide +kernel
theorem dX8_in_10 : decode cX8_in 10 = .ok (.iconst 1, 1) := by decide +kernel
theorem dX8_in_11 : decode cX8_in 11 = .ok (.goto 4, 3) := by decide +kernel
theorem dX8_in_14 : decode cX8_in 14 = .ok (.iconst 0, 1) := by decide +kernel
theorem dX8_in_15 : decode cX8_in 15 = .ok (.ireturn, 1) := by decide +kernel
set_option maxRecDepth 20000 in
theorem ggX8_isParty_X8_in : GoodIn wsX8_isParty wsX8_in := goodIn_r _ [5] (by decide +kernel) (by decide +kernel)
set_option maxRecDepth 20000 in
theorem gX8_isParty_X8_in : GoodIn wsX8_isParty (va_wsS RX8 35 yX8_in wsX8_in) := goodIn_app (goodIn_of _ (by decide +kernel)) ggX8_isParty_X8_in
theorem dX8_isParty_0 : decode cX8_isParty 0 = .ok (.iload_n 1, 1) := by decide +kernel
theorem dX8_isParty_1 : decode cX8_isParty 1 = .ok (.iconst 0, 1) := by decide +kernel
theorem dX8_isParty_2 : decode cX8_isParty 2 = .ok (.aload_n 0, 1) := by decide +kernel
theorem dX8_isParty_3 : decode cX8_isParty 3 = .ok (.getfield 7, 3) := by decide +kernel
theorem dX8_isParty_6 : decode cX8_isParty 6 = .ok (.iconst 0, 1) := by decide +kernel
theorem dX8_isParty_7 : decode cX8_isParty 7 = .ok (.iaload, 1) := by decide +kernel
theorem dX8_isParty_8 : decode cX8_isParty 8 = .ok (.iconst 1, 1) := by decide +kernel
theorem dX8_isParty_9 : decode cX8_isParty 9 = .ok (.isub, 1) := by decide +kernel
theorem dX8_isParty_10 : decode cX8_isParty 10 = .ok (.invokestatic 35, 3) := by decide +kernel
theorem dX8_isParty_13 : decode cX8_isParty 13 = .ok (.ireturn, 1) := by decide +kernel
set_option maxRecDepth 20000 in
theorem ggX8_isMediator_X8_in : GoodIn wsX8_isMediator wsX8_in := goodIn_r _ [5] (by decide +kernel) (by decide +kernel)
end
section
set_option maxRecDepth 20000 in
theorem gX8_isMediator_X8_in : GoodIn wsX8_isMediator (va_wsS RX8 35 yX8_in wsX8_in) := goodIn_app (goodIn_of _ (by decide +kernel)) ggX8_isMediator_X8_in
theorem dX8_isMediator_0 : decode cX8_isMediator 0 = .ok (.iload_n 1, 1) := by decide +kernel
theorem dX8_isMediator_1 : decode cX8_isMediator 1 = .ok (.iconst 0, 1) := by decide +kernel
theorem dX8_isMediator_2 : decode cX8_isMediator 2 = .ok (.aload_n 0, 1) := by decide +kernel
theorem dX8_isMediator_3 : decode cX8_isMediator 3 = .ok (.getfield 7, 3) := by decide +kernel
theorem dX8_isMediator_6 : decode cX8_isMediator 6 = .ok (.iconst 1, 1) := by decide +kernel
theorem dX8_isMediator_7 : decode cX8_isMediator 7 = .ok (.iaload, 1) := by decide +kernel
theorem dX8_isMediator_8 : decode cX8_isMediator 8 = .ok (.iconst 1, 1) := by decide +kernel
theorem dX8_isMediator_9 : decode cX8_isMediator 9 = .ok (.isub, 1) := by decide +kernel
theorem dX8_isMediator_10 : decode cX8_isMediator 10 = .ok (.invokestatic 35, 3) := by decide +kernel
theorem dX8_isMediator_13 : decode cX8_isMediator 13 = .ok (.ireturn, 1) := by decide +kernel
set_option maxRecDepth 20000 in
theorem ggX8_isCase_X8_in : GoodIn wsX8_isCase wsX8_in := goodIn_r _ [5] (by decide +kernel) (by decide +kernel)
set_option maxRecDepth 20000 in
theorem gX8_isCase_X8_in : GoodIn wsX8_isCase (va_wsS RX8 35 yX8_in wsX8_in) := goodIn_app (goodIn_of _ (by decide +kernel)) ggX8_isCase_X8_in
theorem dX8_isCase_0 : decode cX8_isCase 0 = .ok (.iload_n 1, 1) := by decide +kernel
theorem dX8_isCase_1 : decode cX8_isCase 1 = .ok (.iconst 0, 1) := by decide +kernel
theorem dX8_isCase_2 : decode cX8_isCase 2 = .ok (.aload_n 0, 1) := by decide +kernel
theorem dX8_isCase_3 : decode cX8_isCase 3 = .ok (.getfield 7, 3) := by decide +kernel
theorem dX8_isCase_6 : decode cX8_isCase 6 = .ok (.iconst 2, 1) := by decide +kernel
theorem dX8_isCase_7 : decode cX8_isCase 7 = .ok (.iaload, 1) := by decide +kernel
theorem dX8_isCase_8 : decode cX8_isCase 8 = .ok (.iconst 1, 1) := by decide +kernel
theorem dX8_isCase_9 : decode cX8_isCase 9 = .ok (.isub, 1) := by decide +kernel
theorem dX8_isCase_10 : decode cX8_isCase 10 = .ok (.invokestatic 35, 3) := by decide +kernel
theorem dX8_isCase_13 : decode cX8_isCase 13 = .ok (.ireturn, 1) := by decide +kernel
set_option maxRecDepth 20000 in
theorem ggX8_isSide_X8_in : GoodIn wsX8_isSide wsX8_in := goodIn_r _ [4] (by decide +kernel) (by decide +kernel)
set_option maxRecDepth 20000 in
theorem gX8_isSide_X8_in : GoodIn wsX8_isSide (va_wsS RX8 35 yX8_in wsX8_in) := goodIn_app (goodIn_of _ (by decide +kernel)) ggX8_isSide_X8_in
theorem dX8_isSide_0 : decode cX8_isSide 0 = .ok (.iload_n 0, 1) := by decide +kernel
theorem dX8_isSide_1 : decode cX8_isSide 1 = .ok (.iconst 0, 1) := by decide +kernel
theorem dX8_isSide_2 : decode cX8_isSide 2 = .ok (.iconst 1, 1) := by decide +kernel
theorem dX8_isSide_3 : decode cX8_isSide 3 = .ok (.invokestatic 35, 3) := by decide +kernel
theorem dX8_isSide_6 : decode cX8_isSide 6 = .ok (.ireturn, 1) := by decide +kernel
theorem dX8_at_0 : decode cX8_at 0 = .ok (.bipush 32, 2) := by decide +kernel
theorem dX8_at_2 : decode cX8_at 2 = .ok (.bipush 7, 2) := by decide +kernel
theorem dX8_at_4 : decode cX8_at 4 = .ok (.iload_n 0, 1) := by decide +kernel
theorem dX8_at_5 : decode cX8_at 5 = .ok (.imul, 1) := by decide +kernel
theorem dX8_at_6 : decode cX8_at 6 = .ok (.iadd, 1) := by decide +kernel
theorem dX8_at_7 : decode cX8_at 7 = .ok (.iload_n 1, 1) := by decide +kernel
theorem dX8_at_8 : decode cX8_at 8 = .ok (.iadd, 1) := by decide +kernel
theorem dX8_at_9 : decode cX8_at 9 = .ok (.ireturn, 1) := by decide +kernel
set_option maxRecDepth 20000 in
theorem ggX8_party_X8_in : GoodIn wsX8_party wsX8_in := goodIn_r _ [5] (by decide +kernel) (by decide +kernel)
set_option maxRecDepth 20000 in
theorem gX8_party_X8_in : GoodIn wsX8_party (va_wsS RX8 35 yX8_in wsX8_in) := goodIn_app (goodIn_of _ (by decide +kernel)) ggX8_party_X8_in
theorem dX8_party_0 : decode cX8_party 0 = .ok (.iload_n 1, 1) := by decide +kernel
theorem dX8_party_1 : decode cX8_party 1 = .ok (.iconst 0, 1) := by decide +kernel
theorem dX8_party_2 : decode cX8_party 2 = .ok (.bipush 9, 2) := by decide +kernel
theorem dX8_party_4 : decode cX8_party 4 = .ok (.invokestatic 35, 3) := by decide +kernel
theorem dX8_party_7 : decode cX8_party 7 = .ok (.ifCond .eq 12, 3) := by decide +kernel
theorem dX8_party_10 : decode cX8_party 10 = .ok (.iload_n 2, 1) := by decide +kernel
theorem dX8_party_11 : decode cX8_party 11 = .ok (.iconst 0, 1) := by decide +kernel
theorem dX8_party_12 : decode cX8_party 12 = .ok (.iconst 2, 1) := by decide +kernel
theorem dX8_party_13 : decode cX8_party 13 = .ok (.invokestatic 35, 3) := by decide +kernel
theorem dX8_party_16 : decode cX8_party 16 = .ok (.ifCond .ne 5, 3) := by decide +kernel
theorem dX8_party_19 : decode cX8_party 19 = .ok (.iconst (-1), 1) := by decide +kernel
theorem dX8_party_20 : decode cX8_party 20 = .ok (.ireturn, 1) := by decide +kernel
theorem dX8_party_21 : decode cX8_party 21 = .ok (.aload_n 0, 1) := by decide +kernel
theorem dX8_party_22 : decode cX8_party 22 = .ok (.getfield 7, 3) := by decide +kernel
theorem dX8_party_25 : decode cX8_party 25 = .ok (.iconst 0, 1) := by decide +kernel
theorem dX8_party_26 : decode cX8_party 26 = .ok (.iaload, 1) := by decide +kernel
theorem dX8_party_27 : decode cX8_party 27 = .ok (.bipush 8, 2) := by decide +kernel
theorem dX8_party_29 : decode cX8_party 29 = .ok (.if_icmp .ne 6, 3) := by decide +kernel
theorem dX8_party_32 : decode cX8_party 32 = .ok (.bipush (-2), 2) := by decide +kernel
theorem dX8_party_34 : decode cX8_party 34 = .ok (.ireturn, 1) := by decide +kernel
theorem dX8_party_35 : decode cX8_party 35 = .ok (.aload_n 0, 1) := by decide +kernel
theorem dX8_party_36 : decode cX8_party 36 = .ok (.getfield 7, 3) := by decide +kernel
theorem dX8_party_39 : decode cX8_party 39 = .ok (.iconst 0, 1) := by decide +kernel
theorem dX8_party_40 : decode cX8_party 40 = .ok (.iaload, 1) := by decide +kernel
theorem dX8_party_41 : decode cX8_party 41 = .ok (.istore_n 3, 1) := by decide +kernel
theorem dX8_party_42 : decode cX8_party 42 = .ok (.aload_n 0, 1) := by decide +kernel
theorem dX8_party_43 : decode cX8_party 43 = .ok (.getfield 7, 3) := by decide +kernel
theorem dX8_party_46 : decode cX8_party 46 = .ok (.iconst 4, 1) := by decide +kernel
theorem dX8_party_47 : decode cX8_party 47 = .ok (.iconst 2, 1) := by decide +kernel
theorem dX8_party_48 : decode cX8_party 48 = .ok (.iload_n 3, 1) := by decide +kernel
theorem dX8_party_49 : decode cX8_party 49 = .ok (.imul, 1) := by decide +kernel
theorem dX8_party_50 : decode cX8_party 50 = .ok (.iadd, 1) := by decide +kernel
theorem dX8_party_51 : decode cX8_party 51 = .ok (.iload_n 1, 1) := by decide +kernel
theorem dX8_party_52 : decode cX8_party 52 = .ok (.iastore, 1) := by decide +kernel
theorem dX8_party_53 : decode cX8_party 53 = .ok (.aload_n 0, 1) := by decide +kernel
theorem dX8_party_54 : decode cX8_party 54 = .ok (.getfield 7, 3) := by decide +kernel
theorem dX8_party_57 : decode cX8_party 57 = .ok (.iconst 4, 1) := by decide +kernel
theorem dX8_party_58 : decode cX8_party 58 = .ok (.iconst 2, 1) := by decide +kernel
theorem dX8_party_59 : decode cX8_party 59 = .ok (.iload_n 3, 1) := by decide +kernel
theorem dX8_party_60 : decode cX8_party 60 = .ok (.imul, 1) := by decide +kernel
theorem dX8_party_61 : decode cX8_party 61 = .ok (.iadd, 1) := by decide +kernel
theorem dX8_party_62 : decode cX8_party 62 = .ok (.iconst 1, 1) := by decide +kernel
theorem dX8_party_63 : decode cX8_party 63 = .ok (.iadd, 1) := by decide +kernel
theorem dX8_party_64 : decode cX8_party 64 = .ok (.iload_n 2, 1) := by decide +kernel
theorem dX8_party_65 : decode cX8_party 65 = .ok (.iastore, 1) := by decide +kernel
theorem dX8_party_66 : decode cX8_party 66 = .ok (.iconst 0, 1) := by decide +kernel
theorem dX8_party_67 : decode cX8_party 67 = .ok (.istore 4, 2) := by decide +kernel
theorem dX8_party_69 : decode cX8_party 69 = .ok (.iload 4, 2) := by decide +kernel
theorem dX8_party_71 : decode cX8_party 71 = .ok (.iconst 4, 1) := by decide +kernel
theorem dX8_party_72 : decode cX8_party 72 = .ok (.if_icmp .ge 35, 3) := by decide +kernel
theorem dX8_party_75 : decode cX8_party 75 = .ok (.aload_n 0, 1) := by decide +kernel
theorem dX8_party_76 : decode cX8_party 76 = .ok (.getfield 7, 3) := by decide +kernel
theorem dX8_party_79 : decode cX8_party 79 = .ok (.bipush 28, 2) := by decide +kernel
theorem dX8_party_81 : decode cX8_party 81 = .ok (.iload 4, 2) := by decide +kernel
theorem dX8_party_83 : decode cX8_party 83 = .ok (.iadd, 1) := by decide +kernel
theorem dX8_party_84 : decode cX8_party 84 = .ok (.aload_n 0, 1) := by decide +kernel
theorem dX8_party_85 : decode cX8_party 85 = .ok (.getfield 7, 3) := by decide +kernel
theorem dX8_party_88 : decode cX8_party 88 = .ok (.bipush 28, 2) := by decide +kernel
theorem dX8_party_90 : decode cX8_party 90 = .ok (.iload 4, 2) := by decide +kernel
theorem dX8_party_92 : decode cX8_party 92 = .ok (.iadd, 1) := by decide +kernel
theorem dX8_party_93 : decode cX8_party 93 = .ok (.iaload, 1) := by decide +kernel
theorem dX8_party_94 : decode cX8_party 94 = .ok (.iconst 1, 1) := by decide +kernel
theorem dX8_party_95 : decode cX8_party 95 = .ok (.iload_n 3, 1) := by decide +kernel
theorem dX8_party_96 : decode cX8_party 96 = .ok (.ishl, 1) := by decide +kernel
theorem dX8_party_97 : decode cX8_party 97 = .ok (.iconst (-1), 1) := by decide +kernel
theorem dX8_party_98 : decode cX8_party 98 = .ok (.ixor, 1) := by decide +kernel
theorem dX8_party_99 : decode cX8_party 99 = .ok (.iand, 1) := by decide +kernel
theorem dX8_party_100 : decode cX8_party 100 = .ok (.iastore, 1) := by decide +kernel
theorem dX8_party_101 : decode cX8_party 101 = .ok (.iinc 4 1, 3) := by decide +kernel
theorem dX8_party_104 : decode cX8_party 104 = .ok (.goto (-35), 3) := by decide +kernel
theorem dX8_party_107 : decode cX8_party 107 = .ok (.aload_n 0, 1) := by decide +kernel
theorem dX8_party_108 : decode cX8_party 108 = .ok (.getfield 7, 3) := by decide +kernel
theorem dX8_party_111 : decode cX8_party 111 = .ok (.iconst 0, 1) := by decide +kernel
theorem dX8_party_112 : decode cX8_party 112 = .ok (.dup2, 1) := by decide +kernel
theorem dX8_party_113 : decode cX8_party 113 = .ok (.iaload, 1) := by decide +kernel
theorem dX8_party_114 : decode cX8_party 114 = .ok (.iconst 1, 1) := by decide +kernel
theorem dX8_party_115 : decode cX8_party 115 = .ok (.iadd, 1) := by decide +kernel
theorem dX8_party_116 : decode cX8_party 116 = .ok (.iastore, 1) := by decide +kernel
theorem dX8_party_117 : decode cX8_party 117 = .ok (.iload_n 3, 1) := by decide +kernel
theorem dX8_party_118 : decode cX8_party 118 = .ok (.ireturn, 1) := by decide +kernel
set_option maxRecDepth 20000 in
theorem ggX8_mediator_X8_in : GoodIn wsX8_mediator wsX8_in := goodIn_r _ [5] (by decide +kernel) (by decide +kernel)
set_option maxRecDepth 20000 in
theorem gX8_mediator_X8_in : GoodIn wsX8_mediator (va_wsS RX8 35 yX8_in wsX8_in) := goodIn_app (goodIn_of _ (by decide +kernel)) ggX8_mediator_X8_in
theorem dX8_mediator_0 : decode cX8_mediator 0 = .ok (.iload_n 1, 1) := by decide +kernel
theorem dX8_mediator_1 : decode cX8_mediator 1 = .ok (.iconst 0, 1) := by decide +kernel
theorem dX8_mediator_2 : decode cX8_mediator 2 = .ok (.bipush 9, 2) := by decide +kernel
theorem dX8_mediator_4 : decode cX8_mediator 4 = .ok (.invokestatic 35, 3) := by decide +kernel
theorem dX8_mediator_7 : decode cX8_mediator 7 = .ok (.ifCond .eq 13, 3) := by decide +kernel
theorem dX8_mediator_10 : decode cX8_mediator 10 = .ok (.iload_n 2, 1) := by decide +kernel
theorem dX8_mediator_11 : decode cX8_mediator 11 = .ok (.iconst 1, 1) := by decide +kernel
theorem dX8_mediator_12 : decode cX8_mediator 12 = .ok (.bipush 7, 2) := by decide +kernel
theorem dX8_mediator_14 : decode cX8_mediator 14 = .ok (.invokestatic 35, 3) := by decide +kernel
theorem dX8_mediator_17 : decode cX8_mediator 17 = .ok (.ifCond .ne 5, 3) := by decide +kernel
theorem dX8_mediator_20 : decode cX8_mediator 20 = .ok (.iconst (-1), 1) := by decide +kernel
theorem dX8_mediator_21 : decode cX8_mediator 21 = .ok (.ireturn, 1) := by decide +kernel
theorem dX8_mediator_22 : decode cX8_mediator 22 = .ok (.aload_n 0, 1) := by decide +kernel
theorem dX8_mediator_23 : decode cX8_mediator 23 = .ok (.getfield 7, 3) := by decide +kernel
theorem dX8_mediator_26 : decode cX8_mediator 26 = .ok (.iconst 1, 1) := by decide +kernel
theorem dX8_mediator_27 : decode cX8_mediator 27 = .ok (.iaload, 1) := by decide +kernel
theorem dX8_mediator_28 : decode cX8_mediator 28 = .ok (.iconst 4, 1) := by decide +kernel
theorem dX8_mediator_29 : decode cX8_mediator 29 = .ok (.if_icmp .ne 6, 3) := by decide +kernel
theorem dX8_mediator_32 : decode cX8_mediator 32 = .ok (.bipush (-2), 2) := by decide +kernel
theorem dX8_mediator_34 : decode cX8_mediator 34 = .ok (.ireturn, 1) := by decide +kernel
theorem dX8_mediator_35 : decode cX8_mediator 35 = .ok (.aload_n 0, 1) := by decide +kernel
theorem dX8_mediator_36 : decode cX8_mediator 36 = .ok (.getfield 7, 3) := by decide +kernel
theorem dX8_mediator_39 : decode cX8_mediator 39 = .ok (.iconst 1, 1) := by decide +kernel
theorem dX8_mediator_40 : decode cX8_mediator 40 = .ok (.iaload, 1) := by decide +kernel
theorem dX8_mediator_41 : decode cX8_mediator 41 = .ok (.istore_n 3, 1) := by decide +kernel
theorem dX8_mediator_42 : decode cX8_mediator 42 = .ok (.aload_n 0, 1) := by decide +kernel
theorem dX8_mediator_43 : decode cX8_mediator 43 = .ok (.getfield 7, 3) := by decide +kernel
theorem dX8_mediator_46 : decode cX8_mediator 46 = .ok (.bipush 20, 2) := by decide +kernel
theorem dX8_mediator_48 : decode cX8_mediator 48 = .ok (.iconst 2, 1) := by decide +kernel
theorem dX8_mediator_49 : decode cX8_mediator 49 = .ok (.iload_n 3, 1) := by decide +kernel
theorem dX8_mediator_50 : decode cX8_mediator 50 = .ok (.imul, 1) := by decide +kernel
theorem dX8_mediator_51 : decode cX8_mediator 51 = .ok (.iadd, 1) := by decide +kernel
theorem dX8_mediator_52 : decode cX8_mediator 52 = .ok (.iload_n 1, 1) := by decide +kernel
theorem dX8_mediator_53 : decode cX8_mediator 53 = .ok (.iastore, 1) := by decide +kernel
theorem dX8_mediator_54 : decode cX8_mediator 54 = .ok (.aload_n 0, 1) := by decide +kernel
theorem dX8_mediator_55 : decode cX8_mediator 55 = .ok (.getfield 7, 3) := by decide +kernel
theorem dX8_mediator_58 : decode cX8_mediator 58 = .ok (.bipush 20, 2) := by decide +kernel
theorem dX8_mediator_60 : decode cX8_mediator 60 = .ok (.iconst 2, 1) := by decide +kernel
theorem dX8_mediator_61 : decode cX8_mediator 61 = .ok (.iload_n 3, 1) := by decide +kernel
theorem dX8_mediator_62 : decode cX8_mediator 62 = .ok (.imul, 1) := by decide +kernel
theorem dX8_mediator_63 : decode cX8_mediator 63 = .ok (.iadd, 1) := by decide +kernel
theorem dX8_mediator_64 : decode cX8_mediator 64 = .ok (.iconst 1, 1) := by decide +kernel
theorem dX8_mediator_65 : decode cX8_mediator 65 = .ok (.iadd, 1) := by decide +kernel
theorem dX8_mediator_66 : decode cX8_mediator 66 = .ok (.iload_n 2, 1) := by decide +kernel
theorem dX8_mediator_67 : decode cX8_mediator 67 = .ok (.iastore, 1) := by decide +kernel
theorem dX8_mediator_68 : decode cX8_mediator 68 = .ok (.aload_n 0, 1) := by decide +kernel
theorem dX8_mediator_69 : decode cX8_mediator 69 = .ok (.getfield 7, 3) := by decide +kernel
theorem dX8_mediator_72 : decode cX8_mediator 72 = .ok (.bipush 28, 2) := by decide +kernel
theorem dX8_mediator_74 : decode cX8_mediator 74 = .ok (.iload_n 3, 1) := by decide +kernel
theorem dX8_mediator_75 : decode cX8_mediator 75 = .ok (.iadd, 1) := by decide +kernel
theorem dX8_mediator_76 : decode cX8_mediator 76 = .ok (.iconst 0, 1) := by decide +kernel
theorem dX8_mediator_77 : decode cX8_mediator 77 = .ok (.iastore, 1) := by decide +kernel
theorem dX8_mediator_78 : decode cX8_mediator 78 = .ok (.aload_n 0, 1) := by decide +kernel
theorem dX8_mediator_79 : decode cX8_mediator 79 = .ok (.getfield 7, 3) := by decide +kernel
theorem dX8_mediator_82 : decode cX8_mediator 82 = .ok (.iconst 1, 1) := by decide +kernel
theorem dX8_mediator_83 : decode cX8_mediator 83 = .ok (.dup2, 1) := by decide +kernel
theorem dX8_mediator_84 : decode cX8_mediator 84 = .ok (.iaload, 1) := by decide +kernel
theorem dX8_mediator_85 : decode cX8_mediator 85 = .ok (.iconst 1, 1) := by decide +kernel
theorem dX8_mediator_86 : decode cX8_mediator 86 = .ok (.iadd, 1) := by decide +kernel
theorem dX8_mediator_87 : decode cX8_mediator 87 = .ok (.iastore, 1) := by decide +kernel
theorem dX8_mediator_88 : decode cX8_mediator 88 = .ok (.iload_n 3, 1) := by decide +kernel
theorem dX8_mediator_89 : decode cX8_mediator 89 = .ok (.ireturn, 1) := by decide +kernel
set_option maxRecDepth 20000 in
theorem ggX8_kin_X8_isMediator : GoodIn wsX8_kin wsX8_isMediator := goodIn_r _ [6, 1, 7, 8, 5, 9, 14, 15, 16, 17, 18, 19, 20, 21, 22, 23, 24] (by decide +kernel) (by decide +kernel)
set_option maxRecDepth 20000 in
theorem gX8_kin_X8_isMediator : GoodIn wsX8_kin (wsV RX8 39 RX8 yX8_isMediator wsX8_isMediator) := goodIn_app (goodIn_of _ (by decide +kernel)) ggX8_kin_X8_isMediator
set_option maxRecDepth 20000 in
theorem ggX8_kin_X8_isParty : GoodIn wsX8_kin wsX8_isParty := goodIn_r _ [13, 1, 7, 8, 5, 9, 14, 15, 16, 17, 18, 19, 20, 21, 22, 23, 24] (by decide +kernel) (by decide +kernel)
set_option maxRecDepth 20000 in
theorem gX8_kin_X8_isParty : GoodIn wsX8_kin (wsV RX8 43 RX8 yX8_isParty wsX8_isParty) := goodIn_app (goodIn_of _ (by decide +kernel)) ggX8_kin_X8_isParty
theorem dX8_kin_0 : decode cX8_kin 0 = .ok (.aload_n 0, 1) := by decide +kernel
theorem dX8_kin_1 : decode cX8_kin 1 = .ok (.iload_n 1, 1) := by decide +kernel
theorem dX8_kin_2 : decode cX8_kin 2 = .ok (.invokevirtual 39, 3) := by decide +kernel
theorem dX8_kin_5 : decode cX8_kin 5 = .ok (.ifCond .eq 11, 3) := by decide +kernel
theorem dX8_kin_8 : decode cX8_kin 8 = .ok (.aload_n 0, 1) := by decide +kernel
theorem dX8_kin_9 : decode cX8_kin 9 = .ok (.iload_n 2, 1) := by decide +kernel
theorem dX8_kin_10 : decode cX8_kin 10 = .ok (.invokevirtual 43, 3) := by decide +kernel
theorem dX8_kin_13 : decode cX8_kin 13 = .ok (.ifCond .ne 5, 3) := by decide +kernel
theorem dX8_kin_16 : decode cX8_kin 16 = .ok (.iconst (-1), 1) := by decide +kernel
theorem dX8_kin_17 : decode cX8_kin 17 = .ok (.ireturn, 1) := by decide +kernel
theorem dX8_kin_18 : decode cX8_kin 18 = .ok (.aload_n 0, 1) := by decide +kernel
theorem dX8_kin_19 : decode cX8_kin 19 = .ok (.getfield 7, 3) := by decide +kernel
theorem dX8_kin_22 : decode cX8_kin 22 = .ok (.bipush 28, 2) := by decide +kernel
theorem dX8_kin_24 : decode cX8_kin 24 = .ok (.iload_n 1, 1) := by decide +kernel
theorem dX8_kin_25 : decode cX8_kin 25 = .ok (.iadd, 1) := by decide +kernel
theorem dX8_kin_26 : decode cX8_kin 26 = .ok (.iaload, 1) := by decide +kernel
theorem dX8_kin_27 : decode cX8_kin 27 = .ok (.iload_n 2, 1) := by decide +kernel
theorem dX8_kin_28 : decode cX8_kin 28 = .ok (.ishr, 1) := by decide +kernel
theorem dX8_kin_29 : decode cX8_kin 29 = .ok (.iconst 1, 1) := by decide +kernel
theorem dX8_kin_30 : decode cX8_kin 30 = .ok (.iand, 1) := by decide +kernel
theorem dX8_kin_31 : decode cX8_kin 31 = .ok (.iconst 1, 1) := by decide +kernel
theorem dX8_kin_32 : decode cX8_kin 32 = .ok (.if_icmp .ne 7, 3) := by decide +kernel
theorem dX8_kin_35 : decode cX8_kin 35 = .ok (.iconst 1, 1) := by decide +kernel
theorem dX8_kin_36 : decode cX8_kin 36 = .ok (.goto 4, 3) := by decide +kernel
theorem dX8_kin_39 : decode cX8_kin 39 = .ok (.iconst 0, 1) := by decide +kernel
theorem dX8_kin_40 : decode cX8_kin 40 = .ok (.istore 4, 2) := by decide +kernel
theorem dX8_kin_42 : decode cX8_kin 42 = .ok (.aload_n 0, 1) := by decide +kernel
theorem dX8_kin_43 : decode cX8_kin 43 = .ok (.getfield 7, 3) := by decide +kernel
theorem dX8_kin_46 : decode cX8_kin 46 = .ok (.bipush 28, 2) := by decide +kernel
theorem dX8_kin_48 : decode cX8_kin 48 = .ok (.iload_n 1, 1) := by decide +kernel
theorem dX8_kin_49 : decode cX8_kin 49 = .ok (.iadd, 1) := by decide +kernel
theorem dX8_kin_50 : decode cX8_kin 50 = .ok (.iload_n 3, 1) := by decide +kernel
theorem dX8_kin_51 : decode cX8_kin 51 = .ok (.ifCond .eq 19, 3) := by decide +kernel
theorem dX8_kin_54 : decode cX8_kin 54 = .ok (.aload_n 0, 1) := by decide +kernel
theorem dX8_kin_55 : decode cX8_kin 55 = .ok (.getfield 7, 3) := by decide +kernel
theorem dX8_kin_58 : decode cX8_kin 58 = .ok (.bipush 28, 2) := by decide +kernel
theorem dX8_kin_60 : decode cX8_kin 60 = .ok (.iload_n 1, 1) := by decide +kernel
theorem dX8_kin_61 : decode cX8_kin 61 = .ok (.iadd, 1) := by decide +kernel
theorem dX8_kin_62 : decode cX8_kin 62 = .ok (.iaload, 1) := by decide +kernel
theorem dX8_kin_63 : decode cX8_kin 63 = .ok (.iconst 1, 1) := by decide +kernel
theorem dX8_kin_64 : decode cX8_kin 64 = .ok (.iload_n 2, 1) := by decide +kernel
theorem dX8_kin_65 : decode cX8_kin 65 = .ok (.ishl, 1) := by decide +kernel
theorem dX8_kin_66 : decode cX8_kin 66 = .ok (.ior, 1) := by decide +kernel
theorem dX8_kin_67 : decode cX8_kin 67 = .ok (.goto 18, 3) := by decide +kernel
theorem dX8_kin_70 : decode cX8_kin 70 = .ok (.aload_n 0, 1) := by decide +kernel
theorem dX8_kin_71 : decode cX8_kin 71 = .ok (.getfield 7, 3) := by decide +kernel
theorem dX8_kin_74 : decode cX8_kin 74 = .ok (.bipush 28, 2) := by decide +kernel
theorem dX8_kin_76 : decode cX8_kin 76 = .ok (.iload_n 1, 1) := by decide +kernel
theorem dX8_kin_77 : decode cX8_kin 77 = .ok (.iadd, 1) := by decide +kernel
theorem dX8_kin_78 : decode cX8_kin 78 = .ok (.iaload, 1) := by decide +kernel
theorem dX8_kin_79 : decode cX8_kin 79 = .ok (.iconst 1, 1) := by decide +kernel
theorem dX8_kin_80 : decode cX8_kin 80 = .ok (.iload_n 2, 1) := by decide +kernel
theorem dX8_kin_81 : decode cX8_kin 81 = .ok (.ishl, 1) := by decide +kernel
theorem dX8_kin_82 : decode cX8_kin 82 = .ok (.iconst (-1), 1) := by decide +kernel
theorem dX8_kin_83 : decode cX8_kin 83 = .ok (.ixor, 1) := by decide +kernel
theorem dX8_kin_84 : decode cX8_kin 84 = .ok (.iand, 1) := by decide +kernel
theorem dX8_kin_85 : decode cX8_kin 85 = .ok (.iastore, 1) := by decide +kernel
theorem dX8_kin_86 : decode cX8_kin 86 = .ok (.iload 4, 2) := by decide +kernel
theorem dX8_kin_88 : decode cX8_kin 88 = .ok (.iload_n 3, 1) := by decide +kernel
theorem dX8_kin_89 : decode cX8_kin 89 = .ok (.if_icmp .ne 7, 3) := by decide +kernel
theorem dX8_kin_92 : decode cX8_kin 92 = .ok (.iconst 0, 1) := by decide +kernel
theorem dX8_kin_93 : decode cX8_kin 93 = .ok (.goto 4, 3) := by decide +kernel
theorem dX8_kin_96 : decode cX8_kin 96 = .ok (.iconst 1, 1) := by decide +kernel
theorem dX8_kin_97 : decode cX8_kin 97 = .ok (.ireturn, 1) := by decide +kernel
set_option maxRecDepth 20000 in
theorem ggX8_open_X8_isParty : GoodIn wsX8_open wsX8_isParty := goodIn_r _ [6, 1, 7, 8, 5, 9, 13, 14, 15, 16, 17, 18, 19, 20, 21, 22, 23] (by decide +kernel) (by decide +kernel)
set_option maxRecDepth 20000 in
theorem gX8_open_X8_isParty : GoodIn wsX8_open (wsV RX8 43 RX8 yX8_isParty wsX8_isParty) := goodIn_app (goodIn_of _ (by decide +kernel)) ggX8_open_X8_isParty
set_option maxRecDepth 20000 in
theorem ggX8_open_X8_at : GoodIn wsX8_open wsX8_at := goodIn_r _ [12] (by decide +kernel) (by decide +kernel)
set_option maxRecDepth 20000 in
theorem gX8_open_X8_at : GoodIn wsX8_open (va_wsS RX8 46 yX8_at wsX8_at) := goodIn_app (goodIn_of _ (by decide +kernel)) ggX8_open_X8_at
theorem dX8_open_0 : decode cX8_open 0 = .ok (.aload_n 0, 1) := by decide +kernel
theorem dX8_open_1 : decode cX8_open 1 = .ok (.iload_n 1, 1) := by decide +kernel
theorem dX8_open_2 : decode cX8_open 2 = .ok (.invokevirtual 43, 3) := by decide +kernel
theorem dX8_open_5 : decode cX8_open 5 = .ok (.ifCond .eq 16, 3) := by decide +kernel
theorem dX8_open_8 : decode cX8_open 8 = .ok (.aload_n 0, 1) := by decide +kernel
theorem dX8_open_9 : decode cX8_open 9 = .ok (.iload_n 2, 1) := by decide +kernel
theorem dX8_open_10 : decode cX8_open 10 = .ok (.invokevirtual 43, 3) := by decide +kernel
theorem dX8_open_13 : decode cX8_open 13 = .ok (.ifCond .eq 8, 3) := by decide +kernel
theorem dX8_open_16 : decode cX8_open 16 = .ok (.iload_n 1, 1) := by decide +kernel
theorem dX8_open_17 : decode cX8_open 17 = .ok (.iload_n 2, 1) := by decide +kernel
theorem dX8_open_18 : decode cX8_open 18 = .ok (.if_icmp .ne 5, 3) := by decide +kernel
theorem dX8_open_21 : decode cX8_open 21 = .ok (.iconst (-1), 1) := by decide +kernel
theorem dX8_open_22 : decode cX8_open 22 = .ok (.ireturn, 1) := by decide +kernel
theorem dX8_open_23 : decode cX8_open 23 = .ok (.aload_n 0, 1) := by decide +kernel
theorem dX8_open_24 : decode cX8_open 24 = .ok (.getfield 7, 3) := by decide +kernel
theorem dX8_open_27 : decode cX8_open 27 = .ok (.iconst 2, 1) := by decide +kernel
theorem dX8_open_28 : decode cX8_open 28 = .ok (.iaload, 1) := by decide +kernel
theorem dX8_open_29 : decode cX8_open 29 = .ok (.bipush 6, 2) := by decide +kernel
theorem dX8_open_31 : decode cX8_open 31 = .ok (.if_icmp .ne 6, 3) := by decide +kernel
theorem dX8_open_34 : decode cX8_open 34 = .ok (.bipush (-2), 2) := by decide +kernel
theorem dX8_open_36 : decode cX8_open 36 = .ok (.ireturn, 1) := by decide +kernel
theorem dX8_open_37 : decode cX8_open 37 = .ok (.aload_n 0, 1) := by decide +kernel
theorem dX8_open_38 : decode cX8_open 38 = .ok (.getfield 7, 3) := by decide +kernel
theorem dX8_open_41 : decode cX8_open 41 = .ok (.iconst 2, 1) := by decide +kernel
theorem dX8_open_42 : decode cX8_open 42 = .ok (.iaload, 1) := by decide +kernel
theorem dX8_open_43 : decode cX8_open 43 = .ok (.istore_n 3, 1) := by decide +kernel
theorem dX8_open_44 : decode cX8_open 44 = .ok (.aload_n 0, 1) := by decide +kernel
theorem dX8_open_45 : decode cX8_open 45 = .ok (.getfield 7, 3) := by decide +kernel
theorem dX8_open_48 : decode cX8_open 48 = .ok (.iload_n 3, 1) := by decide +kernel
theorem dX8_open_49 : decode cX8_open 49 = .ok (.iconst 0, 1) := by decide +kernel
theorem dX8_open_50 : decode cX8_open 50 = .ok (.invokestatic 46, 3) := by decide +kernel
theorem dX8_open_53 : decode cX8_open 53 = .ok (.iload_n 1, 1) := by decide +kernel
theorem dX8_open_54 : decode cX8_open 54 = .ok (.iastore, 1) := by decide +kernel
theorem dX8_open_55 : decode cX8_open 55 = .ok (.aload_n 0, 1) := by decide +kernel
theorem dX8_open_56 : decode cX8_open 56 = .ok (.getfield 7, 3) := by decide +kernel
theorem dX8_open_59 : decode cX8_open 59 = .ok (.iload_n 3, 1) := by decide +kernel
theorem dX8_open_60 : decode cX8_open 60 = .ok (.iconst 1, 1) := by decide +kernel
theorem dX8_open_61 : decode cX8_open 61 = .ok (.invokestatic 46, 3) := by decide +kernel
theorem dX8_open_64 : decode cX8_open 64 = .ok (.iload_n 2, 1) := by decide +kernel
theorem dX8_open_65 : decode cX8_open 65 = .ok (.iastore, 1) := by decide +kernel
theorem dX8_open_66 : decode cX8_open 66 = .ok (.aload_n 0, 1) := by decide +kernel
theorem dX8_open_67 : decode cX8_open 67 = .ok (.getfield 7, 3) := by decide +kernel
theorem dX8_open_70 : decode cX8_open 70 = .ok (.iload_n 3, 1) := by decide +kernel
theorem dX8_open_71 : decode cX8_open 71 = .ok (.iconst 2, 1) := by decide +kernel
theorem dX8_open_72 : decode cX8_open 72 = .ok (.invokestatic 46, 3) := by decide +kernel
theorem dX8_open_75 : decode cX8_open 75 = .ok (.iconst 0, 1) := by decide +kernel
theorem dX8_open_76 : decode cX8_open 76 = .ok (.iastore, 1) := by decide +kernel
theorem dX8_open_77 : decode cX8_open 77 = .ok (.aload_n 0, 1) := by decide +kernel
theorem dX8_open_78 : decode cX8_open 78 = .ok (.getfield 7, 3) := by decide +kernel
theorem dX8_open_81 : decode cX8_open 81 = .ok (.iload_n 3, 1) := by decide +kernel
theorem dX8_open_82 : decode cX8_open 82 = .ok (.iconst 3, 1) := by decide +kernel
theorem dX8_open_83 : decode cX8_open 83 = .ok (.invokestatic 46, 3) := by decide +kernel
theorem dX8_open_86 : decode cX8_open 86 = .ok (.bipush (-5), 2) := by decide +kernel
theorem dX8_open_88 : decode cX8_open 88 = .ok (.iastore, 1) := by decide +kernel
theorem dX8_open_89 : decode cX8_open 89 = .ok (.aload_n 0, 1) := by decide +kernel
theorem dX8_open_90 : decode cX8_open 90 = .ok (.getfield 7, 3) := by decide +kernel
theorem dX8_open_93 : decode cX8_open 93 = .ok (.iload_n 3, 1) := by decide +kernel
theorem dX8_open_94 : decode cX8_open 94 = .ok (.iconst 4, 1) := by decide +kernel
theorem dX8_open_95 : decode cX8_open 95 = .ok (.invokestatic 46, 3) := by decide +kernel
theorem dX8_open_98 : decode cX8_open 98 = .ok (.iconst 0, 1) := by decide +kernel
theorem dX8_open_99 : decode cX8_open 99 = .ok (.iastore, 1) := by decide +kernel
theorem dX8_open_100 : decode cX8_open 100 = .ok (.aload_n 0, 1) := by decide +kernel
theorem dX8_open_101 : decode cX8_open 101 = .ok (.getfield 7, 3) := by decide +kernel
theorem dX8_open_104 : decode cX8_open 104 = .ok (.iload_n 3, 1) := by decide +kernel
theorem dX8_open_105 : decode cX8_open 105 = .ok (.iconst 5, 1) := by decide +kernel
theorem dX8_open_106 : decode cX8_open 106 = .ok (.invokestatic 46, 3) := by decide +kernel
theorem dX8_open_109 : decode cX8_open 109 = .ok (.iconst 1, 1) := by decide +kernel
theorem dX8_open_110 : decode cX8_open 110 = .ok (.iastore, 1) := by decide +kernel
theorem dX8_open_111 : decode cX8_open 111 = .ok (.aload_n 0, 1) := by decide +kernel
theorem dX8_open_112 : decode cX8_open 112 = .ok (.getfield 7, 3) := by decide +kernel
theorem dX8_open_115 : decode cX8_open 115 = .ok (.iload_n 3, 1) := by decide +kernel
theorem dX8_open_116 : decode cX8_open 116 = .ok (.bipush 6, 2) := by decide +kernel
theorem dX8_open_118 : decode cX8_open 118 = .ok (.invokestatic 46, 3) := by decide +kernel
theorem dX8_open_121 : decode cX8_open 121 = .ok (.iconst 0, 1) := by decide +kernel
theorem dX8_open_122 : decode cX8_open 122 = .ok (.iastore, 1) := by decide +kernel
theorem dX8_open_123 : decode cX8_open 123 = .ok (.aload_n 0, 1) := by decide +kernel
theorem dX8_open_124 : decode cX8_open 124 = .ok (.getfield 7, 3) := by decide +kernel
theorem dX8_open_127 : decode cX8_open 127 = .ok (.bipush 74, 2) := by decide +kernel
theorem dX8_open_129 : decode cX8_open 129 = .ok (.iconst 2, 1) := by decide +kernel
theorem dX8_open_130 : decode cX8_open 130 = .ok (.iload_n 3, 1) := by decide +kernel
theorem dX8_open_131 : decode cX8_open 131 = .ok (.imul, 1) := by decide +kernel
theorem dX8_open_132 : decode cX8_open 132 = .ok (.iadd, 1) := by decide +kernel
theorem dX8_open_133 : decode cX8_open 133 = .ok (.bipush (-5), 2) := by decide +kernel
theorem dX8_open_135 : decode cX8_open 135 = .ok (.iastore, 1) := by decide +kernel
theorem dX8_open_136 : decode cX8_open 136 = .ok (.aload_n 0, 1) := by decide +kernel
theorem dX8_open_137 : decode cX8_open 137 = .ok (.getfield 7, 3) := by decide +kernel
theorem dX8_open_140 : decode cX8_open 140 = .ok (.bipush 74, 2) := by decide +kernel
theorem dX8_open_142 : decode cX8_open 142 = .ok (.iconst 2, 1) := by decide +kernel
theorem dX8_open_143 : decode cX8_open 143 = .ok (.iload_n 3, 1) := by decide +kernel
theorem dX8_open_144 : decode cX8_open 144 = .ok (.imul, 1) := by decide +kernel
theorem dX8_open_145 : decode cX8_open 145 = .ok (.iadd, 1) := by decide +kernel
theorem dX8_open_146 : decode cX8_open 146 = .ok (.iconst 1, 1) := by decide +kernel
theorem dX8_open_147 : decode cX8_open 147 = .ok (.iadd, 1) := by decide +kernel
theorem dX8_open_148 : decode cX8_open 148 = .ok (.bipush (-5), 2) := by decide +kernel
theorem dX8_open_150 : decode cX8_open 150 = .ok (.iastore, 1) := by decide +kernel
theorem dX8_open_151 : decode cX8_open 151 = .ok (.iconst 0, 1) := by decide +kernel
theorem dX8_open_152 : decode cX8_open 152 = .ok (.istore 4, 2) := by decide +kernel
theorem dX8_open_154 : decode cX8_open 154 = .ok (.iload 4, 2) := by decide +kernel
theorem dX8_open_156 : decode cX8_open 156 = .ok (.bipush 48, 2) := by decide +kernel
theorem dX8_open_158 : decode cX8_open 158 = .ok (.if_icmp .ge 27, 3) := by decide +kernel
theorem dX8_open_161 : decode cX8_open 161 = .ok (.aload_n 0, 1) := by decide +kernel
theorem dX8_open_162 : decode cX8_open 162 = .ok (.getfield 7, 3) := by decide +kernel
theorem dX8_open_165 : decode cX8_open 165 = .ok (.sipush 308, 3) := by decide +kernel
theorem dX8_open_168 : decode cX8_open 168 = .ok (.bipush 48, 2) := by decide +kernel
theorem dX8_open_170 : decode cX8_open 170 = .ok (.iload_n 3, 1) := by decide +kernel
theorem dX8_open_171 : decode cX8_open 171 = .ok (.imul, 1) := by decide +kernel
theorem dX8_open_172 : decode cX8_open 172 = .ok (.iadd, 1) := by decide +kernel
theorem dX8_open_173 : decode cX8_open 173 = .ok (.iload 4, 2) := by decide +kernel
theorem dX8_open_175 : decode cX8_open 175 = .ok (.iadd, 1) := by decide +kernel
theorem dX8_open_176 : decode cX8_open 176 = .ok (.bipush 7, 2) := by decide +kernel
theorem dX8_open_178 : decode cX8_open 178 = .ok (.iastore, 1) := by decide +kernel
theorem dX8_open_179 : decode cX8_open 179 = .ok (.iinc 4 1, 3) := by decide +kernel
theorem dX8_open_182 : decode cX8_open 182 = .ok (.goto (-28), 3) := by decide +kernel
theorem dX8_open_185 : decode cX8_open 185 = .ok (.aload_n 0, 1) := by decide +kernel
theorem dX8_open_186 : decode cX8_open 186 = .ok (.getfield 7, 3) := by decide +kernel
theorem dX8_open_189 : decode cX8_open 189 = .ok (.iconst 2, 1) := by decide +kernel
theorem dX8_open_190 : decode cX8_open 190 = .ok (.dup2, 1) := by decide +kernel
theorem dX8_open_191 : decode cX8_open 191 = .ok (.iaload, 1) := by decide +kernel
theorem dX8_open_192 : decode cX8_open 192 = .ok (.iconst 1, 1) := by decide +kernel
theorem dX8_open_193 : decode cX8_open 193 = .ok (.iadd, 1) := by decide +kernel
theorem dX8_open_194 : decode cX8_open 194 = .ok (.iastore, 1) := by decide +kernel
theorem dX8_open_195 : decode cX8_open 195 = .ok (.iload_n 3, 1) := by decide +kernel
theorem dX8_open_196 : decode cX8_open 196 = .ok (.ireturn, 1) := by decide +kernel
set_option maxRecDepth 20000 in
theorem ggX8_close_X8_isCase : GoodIn wsX8_close wsX8_isCase := goodIn_r _ [6, 1, 7, 8, 5, 9, 13, 14, 15, 16, 17, 18, 19, 20, 21, 22, 23] (by decide +kernel) (by decide +kernel)
set_option maxRecDepth 20000 in
theorem gX8_close_X8_isCase : GoodIn wsX8_close (wsV RX8 50 RX8 yX8_isCase wsX8_isCase) := goodIn_app (goodIn_of _ (by decide +kernel)) ggX8_close_X8_isCase
set_option maxRecDepth 20000 in
theorem ggX8_close_X8_at : GoodIn wsX8_close wsX8_at := goodIn_r _ [12] (by decide +kernel) (by decide +kernel)
set_option maxRecDepth 20000 in
theorem gX8_close_X8_at : GoodIn wsX8_close (va_wsS RX8 46 yX8_at wsX8_at) := goodIn_app (goodIn_of _ (by decide +kernel)) ggX8_close_X8_at
theorem dX8_close_0 : decode cX8_close 0 = .ok (.aload_n 0, 1) := by decide +kernel
theorem dX8_close_1 : decode cX8_close 1 = .ok (.iload_n 1, 1) := by decide +kernel
theorem dX8_close_2 : decode cX8_close 2 = .ok (.invokevirtual 50, 3) := by decide +kernel
theorem dX8_close_5 : decode cX8_close 5 = .ok (.ifCond .ne 5, 3) := by decide +kernel
theorem dX8_close_8 : decode cX8_close 8 = .ok (.iconst (-1), 1) := by decide +kernel
theorem dX8_close_9 : decode cX8_close 9 = .ok (.ireturn, 1) := by decide +kernel
theorem dX8_close_10 : decode cX8_close 10 = .ok (.aload_n 0, 1) := by decide +kernel
theorem dX8_close_11 : decode cX8_close 11 = .ok (.getfield 7, 3) := by decide +kernel
theorem dX8_close_14 : decode cX8_close 14 = .ok (.iload_n 1, 1) := by decide +kernel
theorem dX8_close_15 : decode cX8_close 15 = .ok (.iconst 2, 1) := by decide +kernel
theorem dX8_close_16 : decode cX8_close 16 = .ok (.invokestatic 46, 3) := by decide +kernel
theorem dX8_close_19 : decode cX8_close 19 = .ok (.iaload, 1) := by decide +kernel
theorem dX8_close_20 : decode cX8_close 20 = .ok (.ifCond .eq 6, 3) := by decide +kernel
theorem dX8_close_23 : decode cX8_close 23 = .ok (.bipush (-4), 2) := by decide +kernel
theorem dX8_close_25 : decode cX8_close 25 = .ok (.ireturn, 1) := by decide +kernel
theorem dX8_close_26 : decode cX8_close 26 = .ok (.aload_n 0, 1) := by decide +kernel
theorem dX8_close_27 : decode cX8_close 27 = .ok (.getfield 7, 3) := by decide +kernel
theorem dX8_close_30 : decode cX8_close 30 = .ok (.iload_n 1, 1) := by decide +kernel
theorem dX8_close_31 : decode cX8_close 31 = .ok (.iconst 2, 1) := by decide +kernel
theorem dX8_close_32 : decode cX8_close 32 = .ok (.invokestatic 46, 3) := by decide +kernel
theorem dX8_close_35 : decode cX8_close 35 = .ok (.iconst 2, 1) := by decide +kernel
theorem dX8_close_36 : decode cX8_close 36 = .ok (.iastore, 1) := by decide +kernel
theorem dX8_close_37 : decode cX8_close 37 = .ok (.iconst 1, 1) := by decide +kernel
theorem dX8_close_38 : decode cX8_close 38 = .ok (.ireturn, 1) := by decide +kernel
set_option maxRecDepth 20000 in
theorem ggX8_weight_X8_isCase : GoodIn wsX8_weight wsX8_isCase := goodIn_r _ [6, 1, 7, 8, 5, 9, 13, 14, 15, 16, 17, 18, 19, 20, 21, 22, 23] (by decide +kernel) (by decide +kernel)
set_option maxRecDepth 20000 in
theorem gX8_weight_X8_isCase : GoodIn wsX8_weight (wsV RX8 50 RX8 yX8_isCase wsX8_isCase) := goodIn_app (goodIn_of _ (by decide +kernel)) ggX8_weight_X8_isCase
set_option maxRecDepth 20000 in
theorem ggX8_weight_X8_in : GoodIn wsX8_weight wsX8_in := goodIn_r _ [9] (by decide +kernel) (by decide +kernel)
set_option maxRecDepth 20000 in
theorem gX8_weight_X8_in : GoodIn wsX8_weight (va_wsS RX8 35 yX8_in wsX8_in) := goodIn_app (goodIn_of _ (by decide +kernel)) ggX8_weight_X8_in
set_option maxRecDepth 20000 in
theorem ggX8_weight_X8_at : GoodIn wsX8_weight wsX8_at := goodIn_r _ [12] (by decide +kernel) (by decide +kernel)
set_option maxRecDepth 20000 in
theorem gX8_weight_X8_at : GoodIn wsX8_weight (va_wsS RX8 46 yX8_at wsX8_at) := goodIn_app (goodIn_of _ (by decide +kernel)) ggX8_weight_X8_at
theorem dX8_weight_0 : decode cX8_weight 0 = .ok (.aload_n 0, 1) := by decide +kernel
theorem dX8_weight_1 : decode cX8_weight 1 = .ok (.iload_n 1, 1) := by decide +kernel
theorem dX8_weight_2 : decode cX8_weight 2 = .ok (.invokevirtual 50, 3) := by decide +kernel
theorem dX8_weight_5 : decode cX8_weight 5 = .ok (.ifCond .eq 13, 3) := by decide +kernel
theorem dX8_weight_8 : decode cX8_weight 8 = .ok (.iload_n 2, 1) := by decide +kernel
theorem dX8_weight_9 : decode cX8_weight 9 = .ok (.iconst 1, 1) := by decide +kernel
theorem dX8_weight_10 : decode cX8_weight 10 = .ok (.bipush 9, 2) := by decide +kernel
theorem dX8_weight_12 : decode cX8_weight 12 = .ok (.invokestatic 35, 3) := by decide +kernel
theorem dX8_weight_15 : decode cX8_weight 15 = .ok (.ifCond .ne 5, 3) := by decide +kernel
theorem dX8_weight_18 : decode cX8_weight 18 = .ok (.iconst (-1), 1) := by decide +kernel
theorem dX8_weight_19 : decode cX8_weight 19 = .ok (.ireturn, 1) := by decide +kernel
theorem dX8_weight_20 : decode cX8_weight 20 = .ok (.aload_n 0, 1) := by decide +kernel
theorem dX8_weight_21 : decode cX8_weight 21 = .ok (.getfield 7, 3) := by decide +kernel
theorem dX8_weight_24 : decode cX8_weight 24 = .ok (.iload_n 1, 1) := by decide +kernel
theorem dX8_weight_25 : decode cX8_weight 25 = .ok (.iconst 5, 1) := by decide +kernel
theorem dX8_weight_26 : decode cX8_weight 26 = .ok (.invokestatic 46, 3) := by decide +kernel
theorem dX8_weight_29 : decode cX8_weight 29 = .ok (.iaload, 1) := by decide +kernel
theorem dX8_weight_30 : decode cX8_weight 30 = .ok (.istore_n 3, 1) := by decide +kernel
theorem dX8_weight_31 : decode cX8_weight 31 = .ok (.aload_n 0, 1) := by decide +kernel
theorem dX8_weight_32 : decode cX8_weight 32 = .ok (.getfield 7, 3) := by decide +kernel
theorem dX8_weight_35 : decode cX8_weight 35 = .ok (.iload_n 1, 1) := by decide +kernel
theorem dX8_weight_36 : decode cX8_weight 36 = .ok (.iconst 5, 1) := by decide +kernel
theorem dX8_weight_37 : decode cX8_weight 37 = .ok (.invokestatic 46, 3) := by decide +kernel
theorem dX8_weight_40 : decode cX8_weight 40 = .ok (.iload_n 2, 1) := by decide +kernel
theorem dX8_weight_41 : decode cX8_weight 41 = .ok (.iastore, 1) := by decide +kernel
theorem dX8_weight_42 : decode cX8_weight 42 = .ok (.iload_n 3, 1) := by decide +kernel
theorem dX8_weight_43 : decode cX8_weight 43 = .ok (.ireturn, 1) := by decide +kernel
set_option maxRecDepth 20000 in
theorem ggX8_mark_X8_isCase : GoodIn wsX8_mark wsX8_isCase := goodIn_r _ [6, 1, 7, 8, 5, 9, 10, 11, 12, 13, 14, 15, 16, 17, 18, 19, 20] (by decide +kernel) (by decide +kernel)
set_option maxRecDepth 20000 in
theorem gX8_mark_X8_isCase : GoodIn wsX8_mark (wsV RX8 50 RX8 yX8_isCase wsX8_isCase) := goodIn_app (goodIn_of _ (by decide +kernel)) ggX8_mark_X8_isCase
theorem dX8_mark_0 : decode cX8_mark 0 = .ok (.aload_n 0, 1) := by decide +kernel
theorem dX8_mark_1 : decode cX8_mark 1 = .ok (.iload_n 1, 1) := by decide +kernel
theorem dX8_mark_2 : decode cX8_mark 2 = .ok (.invokevirtual 50, 3) := by decide +kernel
theorem dX8_mark_5 : decode cX8_mark 5 = .ok (.ifCond .eq 16, 3) := by decide +kernel
theorem dX8_mark_8 : decode cX8_mark 8 = .ok (.aload_n 0, 1) := by decide +kernel
theorem dX8_mark_9 : decode cX8_mark 9 = .ok (.iload_n 2, 1) := by decide +kernel
theorem dX8_mark_10 : decode cX8_mark 10 = .ok (.invokevirtual 50, 3) := by decide +kernel
theorem dX8_mark_13 : decode cX8_mark 13 = .ok (.ifCond .eq 8, 3) := by decide +kernel
theorem dX8_mark_16 : decode cX8_mark 16 = .ok (.iload_n 1, 1) := by decide +kernel
theorem dX8_mark_17 : decode cX8_mark 17 = .ok (.iload_n 2, 1) := by decide +kernel
theorem dX8_mark_18 : decode cX8_mark 18 = .ok (.if_icmp .ne 5, 3) := by decide +kernel
theorem dX8_mark_21 : decode cX8_mark 21 = .ok (.iconst (-1), 1) := by decide +kernel
theorem dX8_mark_22 : decode cX8_mark 22 = .ok (.ireturn, 1) := by decide +kernel
theorem dX8_mark_23 : decode cX8_mark 23 = .ok (.iconst 0, 1) := by decide +kernel
theorem dX8_mark_24 : decode cX8_mark 24 = .ok (.istore_n 3, 1) := by decide +kernel
theorem dX8_mark_25 : decode cX8_mark 25 = .ok (.iload_n 3, 1) := by decide +kernel
theorem dX8_mark_26 : decode cX8_mark 26 = .ok (.aload_n 0, 1) := by decide +kernel
theorem dX8_mark_27 : decode cX8_mark 27 = .ok (.getfield 7, 3) := by decide +kernel
theorem dX8_mark_30 : decode cX8_mark 30 = .ok (.iconst 3, 1) := by decide +kernel
theorem dX8_mark_31 : decode cX8_mark 31 = .ok (.iaload, 1) := by decide +kernel
theorem dX8_mark_32 : decode cX8_mark 32 = .ok (.if_icmp .ge 66, 3) := by decide +kernel
theorem dX8_mark_35 : decode cX8_mark 35 = .ok (.aload_n 0, 1) := by decide +kernel
theorem dX8_mark_36 : decode cX8_mark 36 = .ok (.getfield 7, 3) := by decide +kernel
theorem dX8_mark_39 : decode cX8_mark 39 = .ok (.sipush 146, 3) := by decide +kernel
theorem dX8_mark_42 : decode cX8_mark 42 = .ok (.iconst 2, 1) := by decide +kernel
theorem dX8_mark_43 : decode cX8_mark 43 = .ok (.iload_n 3, 1) := by decide +kernel
theorem dX8_mark_44 : decode cX8_mark 44 = .ok (.imul, 1) := by decide +kernel
theorem dX8_mark_45 : decode cX8_mark 45 = .ok (.iadd, 1) := by decide +kernel
theorem dX8_mark_46 : decode cX8_mark 46 = .ok (.iaload, 1) := by decide +kernel
theorem dX8_mark_47 : decode cX8_mark 47 = .ok (.istore 4, 2) := by decide +kernel
theorem dX8_mark_49 : decode cX8_mark 49 = .ok (.aload_n 0, 1) := by decide +kernel
theorem dX8_mark_50 : decode cX8_mark 50 = .ok (.getfield 7, 3) := by decide +kernel
theorem dX8_mark_53 : decode cX8_mark 53 = .ok (.sipush 146, 3) := by decide +kernel
theorem dX8_mark_56 : decode cX8_mark 56 = .ok (.iconst 2, 1) := by decide +kernel
theorem dX8_mark_57 : decode cX8_mark 57 = .ok (.iload_n 3, 1) := by decide +kernel
theorem dX8_mark_58 : decode cX8_mark 58 = .ok (.imul, 1) := by decide +kernel
theorem dX8_mark_59 : decode cX8_mark 59 = .ok (.iadd, 1) := by decide +kernel
theorem dX8_mark_60 : decode cX8_mark 60 = .ok (.iconst 1, 1) := by decide +kernel
theorem dX8_mark_61 : decode cX8_mark 61 = .ok (.iadd, 1) := by decide +kernel
theorem dX8_mark_62 : decode cX8_mark 62 = .ok (.iaload, 1) := by decide +kernel
theorem dX8_mark_63 : decode cX8_mark 63 = .ok (.istore 5, 2) := by decide +kernel
theorem dX8_mark_65 : decode cX8_mark 65 = .ok (.iload 4, 2) := by decide +kernel
theorem dX8_mark_67 : decode cX8_mark 67 = .ok (.iload_n 1, 1) := by decide +kernel
theorem dX8_mark_68 : decode cX8_mark 68 = .ok (.if_icmp .ne 9, 3) := by decide +kernel
theorem dX8_mark_71 : decode cX8_mark 71 = .ok (.iload 5, 2) := by decide +kernel
theorem dX8_mark_73 : decode cX8_mark 73 = .ok (.iload_n 2, 1) := by decide +kernel
theorem dX8_mark_74 : decode cX8_mark 74 = .ok (.if_icmp .eq 15, 3) := by decide +kernel
theorem dX8_mark_77 : decode cX8_mark 77 = .ok (.iload 4, 2) := by decide +kernel
theorem dX8_mark_79 : decode cX8_mark 79 = .ok (.iload_n 2, 1) := by decide +kernel
theorem dX8_mark_80 : decode cX8_mark 80 = .ok (.if_icmp .ne 12, 3) := by decide +kernel
theorem dX8_mark_83 : decode cX8_mark 83 = .ok (.iload 5, 2) := by decide +kernel
theorem dX8_mark_85 : decode cX8_mark 85 = .ok (.iload_n 1, 1) := by decide +kernel
theorem dX8_mark_86 : decode cX8_mark 86 = .ok (.if_icmp .ne 6, 3) := by decide +kernel
theorem dX8_mark_89 : decode cX8_mark 89 = .ok (.bipush (-3), 2) := by decide +kernel
theorem dX8_mark_91 : decode cX8_mark 91 = .ok (.ireturn, 1) := by decide +kernel
theorem dX8_mark_92 : decode cX8_mark 92 = .ok (.iinc 3 1, 3) := by decide +kernel
theorem dX8_mark_95 : decode cX8_mark 95 = .ok (.goto (-70), 3) := by decide +kernel
theorem dX8_mark_98 : decode cX8_mark 98 = .ok (.aload_n 0, 1) := by decide +kernel
theorem dX8_mark_99 : decode cX8_mark 99 = .ok (.getfield 7, 3) := by decide +kernel
theorem dX8_mark_102 : decode cX8_mark 102 = .ok (.iconst 3, 1) := by decide +kernel
theorem dX8_mark_103 : decode cX8_mark 103 = .ok (.iaload, 1) := by decide +kernel
theorem dX8_mark_104 : decode cX8_mark 104 = .ok (.bipush 6, 2) := by decide +kernel
theorem dX8_mark_106 : decode cX8_mark 106 = .ok (.if_icmp .ne 6, 3) := by decide +kernel
theorem dX8_mark_109 : decode cX8_mark 109 = .ok (.bipush (-2), 2) := by decide +kernel
theorem dX8_mark_111 : decode cX8_mark 111 = .ok (.ireturn, 1) := by decide +kernel
theorem dX8_mark_112 : decode cX8_mark 112 = .ok (.aload_n 0, 1) := by decide +kernel
theorem dX8_mark_113 : decode cX8_mark 113 = .ok (.getfield 7, 3) := by decide +kernel
theorem dX8_mark_116 : decode cX8_mark 116 = .ok (.sipush 146, 3) := by decide +kernel
theorem dX8_mark_119 : decode cX8_mark 119 = .ok (.iconst 2, 1) := by decide +kernel
theorem dX8_mark_120 : decode cX8_mark 120 = .ok (.aload_n 0, 1) := by decide +kernel
theorem dX8_mark_121 : decode cX8_mark 121 = .ok (.getfield 7, 3) := by decide +kernel
theorem dX8_mark_124 : decode cX8_mark 124 = .ok (.iconst 3, 1) := by decide +kernel
theorem dX8_mark_125 : decode cX8_mark 125 = .ok (.iaload, 1) := by decide +kernel
theorem dX8_mark_126 : decode cX8_mark 126 = .ok (.imul, 1) := by decide +kernel
theorem dX8_mark_127 : decode cX8_mark 127 = .ok (.iadd, 1) := by decide +kernel
theorem dX8_mark_128 : decode cX8_mark 128 = .ok (.iload_n 1, 1) := by decide +kernel
theorem dX8_mark_129 : decode cX8_mark 129 = .ok (.iastore, 1) := by decide +kernel
theorem dX8_mark_130 : decode cX8_mark 130 = .ok (.aload_n 0, 1) := by decide +kernel
theorem dX8_mark_131 : decode cX8_mark 131 = .ok (.getfield 7, 3) := by decide +kernel
theorem dX8_mark_134 : decode cX8_mark 134 = .ok (.sipush 146, 3) := by decide +kernel
theorem dX8_mark_137 : decode cX8_mark 137 = .ok (.iconst 2, 1) := by decide +kernel
theorem dX8_mark_138 : decode cX8_mark 138 = .ok (.aload_n 0, 1) := by decide +kernel
theorem dX8_mark_139 : decode cX8_mark 139 = .ok (.getfield 7, 3) := by decide +kernel
theorem dX8_mark_142 : decode cX8_mark 142 = .ok (.iconst 3, 1) := by decide +kernel
theorem dX8_mark_143 : decode cX8_mark 143 = .ok (.iaload, 1) := by decide +kernel
theorem dX8_mark_144 : decode cX8_mark 144 = .ok (.imul, 1) := by decide +kernel
theorem dX8_mark_145 : decode cX8_mark 145 = .ok (.iadd, 1) := by decide +kernel
theorem dX8_mark_146 : decode cX8_mark 146 = .ok (.iconst 1, 1) := by decide +kernel
theorem dX8_mark_147 : decode cX8_mark 147 = .ok (.iadd, 1) := by decide +kernel
theorem dX8_mark_148 : decode cX8_mark 148 = .ok (.iload_n 2, 1) := by decide +kernel
theorem dX8_mark_149 : decode cX8_mark 149 = .ok (.iastore, 1) := by decide +kernel
theorem dX8_mark_150 : decode cX8_mark 150 = .ok (.aload_n 0, 1) := by decide +kernel
theorem dX8_mark_151 : decode cX8_mark 151 = .ok (.getfield 7, 3) := by decide +kernel
theorem dX8_mark_154 : decode cX8_mark 154 = .ok (.iconst 3, 1) := by decide +kernel
theorem dX8_mark_155 : decode cX8_mark 155 = .ok (.dup2, 1) := by decide +kernel
theorem dX8_mark_156 : decode cX8_mark 156 = .ok (.iaload, 1) := by decide +kernel
theorem dX8_mark_157 : decode cX8_mark 157 = .ok (.iconst 1, 1) := by decide +kernel
theorem dX8_mark_158 : decode cX8_mark 158 = .ok (.iadd, 1) := by decide +kernel
theorem dX8_mark_159 : decode cX8_mark 159 = .ok (.iastore, 1) := by decide +kernel
theorem dX8_mark_160 : decode cX8_mark 160 = .ok (.aload_n 0, 1) := by decide +kernel
theorem dX8_mark_161 : decode cX8_mark 161 = .ok (.getfield 7, 3) := by decide +kernel
theorem dX8_mark_164 : decode cX8_mark 164 = .ok (.iconst 3, 1) := by decide +kernel
theorem dX8_mark_165 : decode cX8_mark 165 = .ok (.iaload, 1) := by decide +kernel
theorem dX8_mark_166 : decode cX8_mark 166 = .ok (.ireturn, 1) := by decide +kernel
theorem dX8_findHeads_0 : decode cX8_findHeads 0 = .ok (.iconst 0, 1) := by decide +kernel
theorem dX8_findHeads_1 : decode cX8_findHeads 1 = .ok (.istore_n 1, 1) := by decide +kernel
theorem dX8_findHeads_2 : decode cX8_findHeads 2 = .ok (.iload_n 1, 1) := by decide +kernel
theorem dX8_findHeads_3 : decode cX8_findHeads 3 = .ok (.aload_n 0, 1) := by decide +kernel
theorem dX8_findHeads_4 : decode cX8_findHeads 4 = .ok (.getfield 7, 3) := by decide +kernel
theorem dX8_findHeads_7 : decode cX8_findHeads 7 = .ok (.iconst 2, 1) := by decide +kernel
theorem dX8_findHeads_8 : decode cX8_findHeads 8 = .ok (.iaload, 1) := by decide +kernel
theorem dX8_findHeads_9 : decode cX8_findHeads 9 = .ok (.if_icmp .ge 16, 3) := by decide +kernel
theorem dX8_findHeads_12 : decode cX8_findHeads 12 = .ok (.aload_n 0, 1) := by decide +kernel
theorem dX8_findHeads_13 : decode cX8_findHeads 13 = .ok (.getfield 20, 3) := by decide +kernel
theorem dX8_findHeads_16 : decode cX8_findHeads 16 = .ok (.iload_n 1, 1) := by decide +kernel
theorem dX8_findHeads_17 : decode cX8_findHeads 17 = .ok (.iload_n 1, 1) := by decide +kernel
theorem dX8_findHeads_18 : decode cX8_findHeads 18 = .ok (.iastore, 1) := by decide +kernel
theorem dX8_findHeads_19 : decode cX8_findHeads 19 = .ok (.iinc 1 1, 3) := by decide +kernel
theorem dX8_findHeads_22 : decode cX8_findHeads 22 = .ok (.goto (-20), 3) := by decide +kernel
theorem dX8_findHeads_25 : decode cX8_findHeads 25 = .ok (.iconst 1, 1) := by decide +kernel
theorem dX8_findHeads_26 : decode cX8_findHeads 26 = .ok (.istore_n 1, 1) := by decide +kernel
theorem dX8_findHeads_27 : decode cX8_findHeads 27 = .ok (.iload_n 1, 1) := by decide +kernel
theorem dX8_findHeads_28 : decode cX8_findHeads 28 = .ok (.ifCond .eq 124, 3) := by decide +kernel
theorem dX8_findHeads_31 : decode cX8_findHeads 31 = .ok (.iconst 0, 1) := by decide +kernel
theorem dX8_findHeads_32 : decode cX8_findHeads 32 = .ok (.istore_n 1, 1) := by decide +kernel
theorem dX8_findHeads_33 : decode cX8_findHeads 33 = .ok (.iconst 0, 1) := by decide +kernel
theorem dX8_findHeads_34 : decode cX8_findHeads 34 = .ok (.istore_n 2, 1) := by decide +kernel
theorem dX8_findHeads_35 : decode cX8_findHeads 35 = .ok (.iload_n 2, 1) := by decide +kernel
theorem dX8_findHeads_36 : decode cX8_findHeads 36 = .ok (.aload_n 0, 1) := by decide +kernel
theorem dX8_findHeads_37 : decode cX8_findHeads 37 = .ok (.getfield 7, 3) := by decide +kernel
theorem dX8_findHeads_40 : decode cX8_findHeads 40 = .ok (.iconst 3, 1) := by decide +kernel
theorem dX8_findHeads_41 : decode cX8_findHeads 41 = .ok (.iaload, 1) := by decide +kernel
theorem dX8_findHeads_42 : decode cX8_findHeads 42 = .ok (.if_icmp .ge 107, 3) := by decide +kernel
theorem dX8_findHeads_45 : decode cX8_findHeads 45 = .ok (.aload_n 0, 1) := by decide +kernel
theorem dX8_findHeads_46 : decode cX8_findHeads 46 = .ok (.getfield 7, 3) := by decide +kernel
theorem dX8_findHeads_49 : decode cX8_findHeads 49 = .ok (.sipush 146, 3) := by decide +kernel
theorem dX8_findHeads_52 : decode cX8_findHeads 52 = .ok (.iconst 2, 1) := by decide +kernel
theorem dX8_findHeads_53 : decode cX8_findHeads 53 = .ok (.iload_n 2, 1) := by decide +kernel
theorem dX8_findHeads_54 : decode cX8_findHeads 54 = .ok (.imul, 1) := by decide +kernel
theorem dX8_findHeads_55 : decode cX8_findHeads 55 = .ok (.iadd, 1) := by decide +kernel
theorem dX8_findHeads_56 : decode cX8_findHeads 56 = .ok (.iaload, 1) := by decide +kernel
theorem dX8_findHeads_57 : decode cX8_findHeads 57 = .ok (.istore_n 3, 1) := by decide +kernel
theorem dX8_findHeads_58 : decode cX8_findHeads 58 = .ok (.aload_n 0, 1) := by decide +kernel
theorem dX8_findHeads_59 : decode cX8_findHeads 59 = .ok (.getfield 7, 3) := by decide +kernel
theorem dX8_findHeads_62 : decode cX8_findHeads 62 = .ok (.sipush 146, 3) := by decide +kernel
theorem dX8_findHeads_65 : decode cX8_findHeads 65 = .ok (.iconst 2, 1) := by decide +kernel
theorem dX8_findHeads_66 : decode cX8_findHeads 66 = .ok (.iload_n 2, 1) := by decide +kernel
theorem dX8_findHeads_67 : decode cX8_findHeads 67 = .ok (.imul, 1) := by decide +kernel
theorem dX8_findHeads_68 : decode cX8_findHeads 68 = .ok (.iadd, 1) := by decide +kernel
theorem dX8_findHeads_69 : decode cX8_findHeads 69 = .ok (.iconst 1, 1) := by decide +kernel
theorem dX8_findHeads_70 : decode cX8_findHeads 70 = .ok (.iadd, 1) := by decide +kernel
theorem dX8_findHeads_71 : decode cX8_findHeads 71 = .ok (.iaload, 1) := by decide +kernel
theorem dX8_findHeads_72 : decode cX8_findHeads 72 = .ok (.istore 4, 2) := by decide +kernel
theorem dX8_findHeads_74 : decode cX8_findHeads 74 = .ok (.aload_n 0, 1) := by decide +kernel
theorem dX8_findHeads_75 : decode cX8_findHeads 75 = .ok (.getfield 20, 3) := by decide +kernel
theorem dX8_findHeads_78 : decode cX8_findHeads 78 = .ok (.iload_n 3, 1) := by decide +kernel
theorem dX8_findHeads_79 : decode cX8_findHeads 79 = .ok (.iaload, 1) := by decide +kernel
theorem dX8_findHeads_80 : decode cX8_findHeads 80 = .ok (.aload_n 0, 1) := by decide +kernel
theorem dX8_findHeads_81 : decode cX8_findHeads 81 = .ok (.getfield 20, 3) := by decide +kernel
theorem dX8_findHeads_84 : decode cX8_findHeads 84 = .ok (.iload 4, 2) := by decide +kernel
theorem dX8_findHeads_86 : decode cX8_findHeads 86 = .ok (.iaload, 1) := by decide +kernel
theorem dX8_findHeads_87 : decode cX8_findHeads 87 = .ok (.if_icmp .eq 56, 3) := by decide +kernel
theorem dX8_findHeads_90 : decode cX8_findHeads 90 = .ok (.aload_n 0, 1) := by decide +kernel
theorem dX8_findHeads_91 : decode cX8_findHeads 91 = .ok (.getfield 20, 3) := by decide +kernel
theorem dX8_findHeads_94 : decode cX8_findHeads 94 = .ok (.iload_n 3, 1) := by decide +kernel
theorem dX8_findHeads_95 : decode cX8_findHeads 95 = .ok (.iaload, 1) := by decide +kernel
theorem dX8_findHeads_96 : decode cX8_findHeads 96 = .ok (.aload_n 0, 1) := by decide +kernel
theorem dX8_findHeads_97 : decode cX8_findHeads 97 = .ok (.getfield 20, 3) := by decide +kernel
theorem dX8_findHeads_100 : decode cX8_findHeads 100 = .ok (.iload 4, 2) := by decide +kernel
theorem dX8_findHeads_102 : decode cX8_findHeads 102 = .ok (.iaload, 1) := by decide +kernel
theorem dX8_findHeads_103 : decode cX8_findHeads 103 = .ok (.if_icmp .ge 12, 3) := by decide +kernel
theorem dX8_findHeads_106 : decode cX8_findHeads 106 = .ok (.aload_n 0, 1) := by decide +kernel
theorem dX8_findHeads_107 : decode cX8_findHeads 107 = .ok (.getfield 20, 3) := by decide +kernel
theorem dX8_findHeads_110 : decode cX8_findHeads 110 = .ok (.iload_n 3, 1) := by decide +kernel
theorem dX8_findHeads_111 : decode cX8_findHeads 111 = .ok (.iaload, 1) := by decide +kernel
theorem dX8_findHeads_112 : decode cX8_findHeads 112 = .ok (.goto 10, 3) := by decide +kernel
theorem dX8_findHeads_115 : decode cX8_findHeads 115 = .ok (.aload_n 0, 1) := by decide +kernel
theorem dX8_findHeads_116 : decode cX8_findHeads 116 = .ok (.getfield 20, 3) := by decide +kernel
theorem dX8_findHeads_119 : decode cX8_findHeads 119 = .ok (.iload 4, 2) := by decide +kernel
theorem dX8_findHeads_121 : decode cX8_findHeads 121 = .ok (.iaload, 1) := by decide +kernel
theorem dX8_findHeads_122 : decode cX8_findHeads 122 = .ok (.istore 5, 2) := by decide +kernel
theorem dX8_findHeads_124 : decode cX8_findHeads 124 = .ok (.aload_n 0, 1) := by decide +kernel
theorem dX8_findHeads_125 : decode cX8_findHeads 125 = .ok (.getfield 20, 3) := by decide +kernel
theorem dX8_findHeads_128 : decode cX8_findHeads 128 = .ok (.iload_n 3, 1) := by decide +kernel
theorem dX8_findHeads_129 : decode cX8_findHeads 129 = .ok (.iload 5, 2) := by decide +kernel
theorem dX8_findHeads_131 : decode cX8_findHeads 131 = .ok (.iastore, 1) := by decide +kernel
theorem dX8_findHeads_132 : decode cX8_findHeads 132 = .ok (.aload_n 0, 1) := by decide +kernel
theorem dX8_findHeads_133 : decode cX8_findHeads 133 = .ok (.getfield 20, 3) := by decide +kernel
theorem dX8_findHeads_136 : decode cX8_findHeads 136 = .ok (.iload 4, 2) := by decide +kernel
theorem dX8_findHeads_138 : decode cX8_findHeads 138 = .ok (.iload 5, 2) := by decide +kernel
theorem dX8_findHeads_140 : decode cX8_findHeads 140 = .ok (.iastore, 1) := by decide +kernel
theorem dX8_findHeads_141 : decode cX8_findHeads 141 = .ok (.iconst 1, 1) := by decide +kernel
theorem dX8_findHeads_142 : decode cX8_findHeads 142 = .ok (.istore_n 1, 1) := by decide +kernel
theorem dX8_findHeads_143 : decode cX8_findHeads 143 = .ok (.iinc 2 1, 3) := by decide +kernel
theorem dX8_findHeads_146 : decode cX8_findHeads 146 = .ok (.goto (-111), 3) := by decide +kernel
theorem dX8_findHeads_149 : decode cX8_findHeads 149 = .ok (.goto (-122), 3) := by decide +kernel
theorem dX8_findHeads_152 : decode cX8_findHeads 152 = .ok (.return_, 1) := by decide +kernel
theorem dX8_joined_0 : decode cX8_joined 0 = .ok (.iconst 0, 1) := by decide +kernel
theorem dX8_joined_1 : decode cX8_joined 1 = .ok (.istore_n 2, 1) := by decide +kernel
theorem dX8_joined_2 : decode cX8_joined 2 = .ok (.iconst 0, 1) := by decide +kernel
theorem dX8_joined_3 : decode cX8_joined 3 = .ok (.istore_n 3, 1) := by decide +kernel
theorem dX8_joined_4 : decode cX8_joined 4 = .ok (.iload_n 3, 1) := by decide +kernel
theorem dX8_joined_5 : decode cX8_joined 5 = .ok (.aload_n 0, 1) := by decide +kernel
theorem dX8_joined_6 : decode cX8_joined 6 = .ok (.getfield 7, 3) := by decide +kernel
theorem dX8_joined_9 : decode cX8_joined 9 = .ok (.iconst 2, 1) := by decide +kernel
theorem dX8_joined_10 : decode cX8_joined 10 = .ok (.iaload, 1) := by decide +kernel
theorem dX8_joined_11 : decode cX8_joined 11 = .ok (.if_icmp .ge 32, 3) := by decide +kernel
theorem dX8_joined_14 : decode cX8_joined 14 = .ok (.iload_n 2, 1) := by decide +kernel
theorem dX8_joined_15 : decode cX8_joined 15 = .ok (.aload_n 0, 1) := by decide +kernel
theorem dX8_joined_16 : decode cX8_joined 16 = .ok (.getfield 20, 3) := by decide +kernel
theorem dX8_joined_19 : decode cX8_joined 19 = .ok (.iload_n 3, 1) := by decide +kernel
theorem dX8_joined_20 : decode cX8_joined 20 = .ok (.iaload, 1) := by decide +kernel
theorem dX8_joined_21 : decode cX8_joined 21 = .ok (.aload_n 0, 1) := by decide +kernel
theorem dX8_joined_22 : decode cX8_joined 22 = .ok (.getfield 20, 3) := by decide +kernel
theorem dX8_joined_25 : decode cX8_joined 25 = .ok (.iload_n 1, 1) := by decide +kernel
theorem dX8_joined_26 : decode cX8_joined 26 = .ok (.iaload, 1) := by decide +kernel
theorem dX8_joined_27 : decode cX8_joined 27 = .ok (.if_icmp .ne 7, 3) := by decide +kernel
theorem dX8_joined_30 : decode cX8_joined 30 = .ok (.iconst 1, 1) := by decide +kernel
theorem dX8_joined_31 : decode cX8_joined 31 = .ok (.goto 4, 3) := by decide +kernel
theorem dX8_joined_34 : decode cX8_joined 34 = .ok (.iconst 0, 1) := by decide +kernel
theorem dX8_joined_35 : decode cX8_joined 35 = .ok (.iadd, 1) := by decide +kernel
theorem dX8_joined_36 : decode cX8_joined 36 = .ok (.istore_n 2, 1) := by decide +kernel
theorem dX8_joined_37 : decode cX8_joined 37 = .ok (.iinc 3 1, 3) := by decide +kernel
theorem dX8_joined_40 : decode cX8_joined 40 = .ok (.goto (-36), 3) := by decide +kernel
theorem dX8_joined_43 : decode cX8_joined 43 = .ok (.iload_n 2, 1) := by decide +kernel
theorem dX8_joined_44 : decode cX8_joined 44 = .ok (.ireturn, 1) := by decide +kernel
set_option maxRecDepth 20000 in
theorem ggX8_of_X8_isCase : GoodIn wsX8_of wsX8_isCase := goodIn_r _ [7, 2, 8, 9, 6, 10, 22, 23, 24, 25, 26, 27, 28, 29, 30, 31, 32] (by decide +kernel) (by decide +kernel)
set_option maxRecDepth 20000 in
theorem gX8_of_X8_isCase : GoodIn wsX8_of (wsV RX8 50 RX8 yX8_isCase wsX8_isCase) := goodIn_app (goodIn_of _ (by decide +kernel)) ggX8_of_X8_isCase
set_option maxRecDepth 20000 in
theorem ggX8_of_X8_in : GoodIn wsX8_of wsX8_in := goodIn_r _ [10] (by decide +kernel) (by decide +kernel)
set_option maxRecDepth 20000 in
theorem gX8_of_X8_in : GoodIn wsX8_of (va_wsS RX8 35 yX8_in wsX8_in) := goodIn_app (goodIn_of _ (by decide +kernel)) ggX8_of_X8_in
set_option maxRecDepth 20000 in
theorem ggX8_of_X8_findHeads : GoodIn wsX8_of wsX8_findHeads := goodIn_r _ [14, 2, 1, 22, 23, 24, 25, 26, 27, 28, 29, 30, 31, 32] (by decide +kernel) (by decide +kernel)
set_option maxRecDepth 20000 in
theorem gX8_of_X8_findHeads : GoodIn wsX8_of (wsV RX8 53 RX8 yX8_findHeads wsX8_findHeads) := goodIn_app (goodIn_of _ (by decide +kernel)) ggX8_of_X8_findHeads
set_option maxRecDepth 20000 in
theorem ggX8_of_X8_joined : GoodIn wsX8_of wsX8_joined := goodIn_r _ [18, 2, 1, 22, 23, 24, 25, 26, 27, 28, 29, 30, 31, 32] (by decide +kernel) (by decide +kernel)
set_option maxRecDepth 20000 in
theorem gX8_of_X8_joined : GoodIn wsX8_of (wsV RX8 56 RX8 yX8_joined wsX8_joined) := goodIn_app (goodIn_of _ (by decide +kernel)) ggX8_of_X8_joined
set_option maxRecDepth 20000 in
theorem ggX8_of_X8_at : GoodIn wsX8_of wsX8_at := goodIn_r _ [21] (by decide +kernel) (by decide +kernel)
set_option maxRecDepth 20000 in
theorem gX8_of_X8_at : GoodIn wsX8_of (va_wsS RX8 46 yX8_at wsX8_at) := goodIn_app (goodIn_of _ (by decide +kernel)) ggX8_of_X8_at
theorem dX8_of_0 : decode cX8_of 0 = .ok (.aload_n 0, 1) := by decide +kernel
theorem dX8_of_1 : decode cX8_of 1 = .ok (.iload_n 1, 1) := by decide +kernel
theorem dX8_of_2 : decode cX8_of 2 = .ok (.invokevirtual 50, 3) := by decide +kernel
theorem dX8_of_5 : decode cX8_of 5 = .ok (.ifCond .eq 13, 3) := by decide +kernel
theorem dX8_of_8 : decode cX8_of 8 = .ok (.iload_n 2, 1) := by decide +kernel
theorem dX8_of_9 : decode cX8_of 9 = .ok (.iconst 0, 1) := by decide +kernel
theorem dX8_of_10 : decode cX8_of 10 = .ok (.bipush 7, 2) := by decide +kernel
theorem dX8_of_12 : decode cX8_of 12 = .ok (.invokestatic 35, 3) := by decide +kernel
theorem dX8_of_15 : decode cX8_of 15 = .ok (.ifCond .ne 5, 3) := by decide +kernel
theorem dX8_of_18 : decode cX8_of 18 = .ok (.iconst (-1), 1) := by decide +kernel
theorem dX8_of_19 : decode cX8_of 19 = .ok (.ireturn, 1) := by decide +kernel
theorem dX8_of_20 : decode cX8_of 20 = .ok (.iload_n 2, 1) := by decide +kernel
theorem dX8_of_21 : decode cX8_of 21 = .ok (.iconst 5, 1) := by decide +kernel
theorem dX8_of_22 : decode cX8_of 22 = .ok (.if_icmp .eq 9, 3) := by decide +kernel
theorem dX8_of_25 : decode cX8_of 25 = .ok (.iload_n 2, 1) := by decide +kernel
theorem dX8_of_26 : decode cX8_of 26 = .ok (.bipush 6, 2) := by decide +kernel
theorem dX8_of_28 : decode cX8_of 28 = .ok (.if_icmp .ne 27, 3) := by decide +kernel
theorem dX8_of_31 : decode cX8_of 31 = .ok (.aload_n 0, 1) := by decide +kernel
theorem dX8_of_32 : decode cX8_of 32 = .ok (.invokevirtual 53, 3) := by decide +kernel
theorem dX8_of_35 : decode cX8_of 35 = .ok (.iload_n 2, 1) := by decide +kernel
theorem dX8_of_36 : decode cX8_of 36 = .ok (.iconst 5, 1) := by decide +kernel
theorem dX8_of_37 : decode cX8_of 37 = .ok (.if_icmp .ne 12, 3) := by decide +kernel
theorem dX8_of_40 : decode cX8_of 40 = .ok (.aload_n 0, 1) := by decide +kernel
theorem dX8_of_41 : decode cX8_of 41 = .ok (.getfield 20, 3) := by decide +kernel
theorem dX8_of_44 : decode cX8_of 44 = .ok (.iload_n 1, 1) := by decide +kernel
theorem dX8_of_45 : decode cX8_of 45 = .ok (.iaload, 1) := by decide +kernel
theorem dX8_of_46 : decode cX8_of 46 = .ok (.goto 8, 3) := by decide +kernel
theorem dX8_of_49 : decode cX8_of 49 = .ok (.aload_n 0, 1) := by decide +kernel
theorem dX8_of_50 : decode cX8_of 50 = .ok (.iload_n 1, 1) := by decide +kernel
theorem dX8_of_51 : decode cX8_of 51 = .ok (.invokevirtual 56, 3) := by decide +kernel
theorem dX8_of_54 : decode cX8_of 54 = .ok (.ireturn, 1) := by decide +kernel
theorem dX8_of_55 : decode cX8_of 55 = .ok (.aload_n 0, 1) := by decide +kernel
theorem dX8_of_56 : decode cX8_of 56 = .ok (.getfield 7, 3) := by decide +kernel
theorem dX8_of_59 : decode cX8_of 59 = .ok (.iload_n 1, 1) := by decide +kernel
theorem dX8_of_60 : decode cX8_of 60 = .ok (.iload_n 2, 1) := by decide +kernel
theorem dX8_of_61 : decode cX8_of 61 = .ok (.bipush 7, 2) := by decide +kernel
theorem dX8_of_63 : decode cX8_of 63 = .ok (.if_icmp .ne 7, 3) := by decide +kernel
theorem dX8_of_66 : decode cX8_of 66 = .ok (.iconst 5, 1) := by decide +kernel
theorem dX8_of_67 : decode cX8_of 67 = .ok (.goto 4, 3) := by decide +kernel
theorem dX8_of_70 : decode cX8_of 70 = .ok (.iload_n 2, 1) := by decide +kernel
theorem dX8_of_71 : decode cX8_of 71 = .ok (.invokestatic 46, 3) := by decide +kernel
theorem dX8_of_74 : decode cX8_of 74 = .ok (.iaload, 1) := by decide +kernel
theorem dX8_of_75 : decode cX8_of 75 = .ok (.ireturn, 1) := by decide +kernel
set_option maxRecDepth 20000 in
theorem ggX8_offer_X8_isCase : GoodIn wsX8_offer wsX8_isCase := goodIn_r _ [6, 1, 7, 8, 5, 9, 16, 17, 18, 19, 20, 21, 22, 23, 24, 25, 26] (by decide +kernel) (by decide +kernel)
set_option maxRecDepth 20000 in
theorem gX8_offer_X8_isCase : GoodIn wsX8_offer (wsV RX8 50 RX8 yX8_isCase wsX8_isCase) := goodIn_app (goodIn_of _ (by decide +kernel)) ggX8_offer_X8_isCase
set_option maxRecDepth 20000 in
theorem ggX8_offer_X8_isSide : GoodIn wsX8_offer wsX8_isSide := goodIn_r _ [12, 7, 8, 5, 9] (by decide +kernel) (by decide +kernel)
set_option maxRecDepth 20000 in
theorem gX8_offer_X8_isSide : GoodIn wsX8_offer (va_wsS RX8 60 yX8_isSide wsX8_isSide) := goodIn_app (goodIn_of _ (by decide +kernel)) ggX8_offer_X8_isSide
set_option maxRecDepth 20000 in
theorem ggX8_offer_X8_in : GoodIn wsX8_offer wsX8_in := goodIn_r _ [9] (by decide +kernel) (by decide +kernel)
set_option maxRecDepth 20000 in
theorem gX8_offer_X8_in : GoodIn wsX8_offer (va_wsS RX8 35 yX8_in wsX8_in) := goodIn_app (goodIn_of _ (by decide +kernel)) ggX8_offer_X8_in
set_option maxRecDepth 20000 in
theorem ggX8_offer_X8_at : GoodIn wsX8_offer wsX8_at := goodIn_r _ [15] (by decide +kernel) (by decide +kernel)
set_option maxRecDepth 20000 in
theorem gX8_offer_X8_at : GoodIn wsX8_offer (va_wsS RX8 46 yX8_at wsX8_at) := goodIn_app (goodIn_of _ (by decide +kernel)) ggX8_offer_X8_at
theorem dX8_offer_0 : decode cX8_offer 0 = .ok (.aload_n 0, 1) := by decide +kernel
theorem dX8_offer_1 : decode cX8_offer 1 = .ok (.iload_n 1, 1) := by decide +kernel
theorem dX8_offer_2 : decode cX8_offer 2 = .ok (.invokevirtual 50, 3) := by decide +kernel
theorem dX8_offer_5 : decode cX8_offer 5 = .ok (.ifCond .eq 20, 3) := by decide +kernel
theorem dX8_offer_8 : decode cX8_offer 8 = .ok (.iload_n 2, 1) := by decide +kernel
theorem dX8_offer_9 : decode cX8_offer 9 = .ok (.invokestatic 60, 3) := by decide +kernel
theorem dX8_offer_12 : decode cX8_offer 12 = .ok (.ifCond .eq 13, 3) := by decide +kernel
theorem dX8_offer_15 : decode cX8_offer 15 = .ok (.iload_n 3, 1) := by decide +kernel
theorem dX8_offer_16 : decode cX8_offer 16 = .ok (.iconst 0, 1) := by decide +kernel
theorem dX8_offer_17 : decode cX8_offer 17 = .ok (.bipush 100, 2) := by decide +kernel
theorem dX8_offer_19 : decode cX8_offer 19 = .ok (.invokestatic 35, 3) := by decide +kernel
theorem dX8_offer_22 : decode cX8_offer 22 = .ok (.ifCond .ne 5, 3) := by decide +kernel
theorem dX8_offer_25 : decode cX8_offer 25 = .ok (.iconst (-1), 1) := by decide +kernel
theorem dX8_offer_26 : decode cX8_offer 26 = .ok (.ireturn, 1) := by decide +kernel
theorem dX8_offer_27 : decode cX8_offer 27 = .ok (.aload_n 0, 1) := by decide +kernel
theorem dX8_offer_28 : decode cX8_offer 28 = .ok (.getfield 7, 3) := by decide +kernel
theorem dX8_offer_31 : decode cX8_offer 31 = .ok (.iload_n 1, 1) := by decide +kernel
theorem dX8_offer_32 : decode cX8_offer 32 = .ok (.iconst 2, 1) := by decide +kernel
theorem dX8_offer_33 : decode cX8_offer 33 = .ok (.invokestatic 46, 3) := by decide +kernel
theorem dX8_offer_36 : decode cX8_offer 36 = .ok (.iaload, 1) := by decide +kernel
theorem dX8_offer_37 : decode cX8_offer 37 = .ok (.ifCond .eq 6, 3) := by decide +kernel
theorem dX8_offer_40 : decode cX8_offer 40 = .ok (.bipush (-4), 2) := by decide +kernel
theorem dX8_offer_42 : decode cX8_offer 42 = .ok (.ireturn, 1) := by decide +kernel
theorem dX8_offer_43 : decode cX8_offer 43 = .ok (.aload_n 0, 1) := by decide +kernel
theorem dX8_offer_44 : decode cX8_offer 44 = .ok (.getfield 7, 3) := by decide +kernel
theorem dX8_offer_47 : decode cX8_offer 47 = .ok (.bipush 74, 2) := by decide +kernel
theorem dX8_offer_49 : decode cX8_offer 49 = .ok (.iconst 2, 1) := by decide +kernel
theorem dX8_offer_50 : decode cX8_offer 50 = .ok (.iload_n 1, 1) := by decide +kernel
theorem dX8_offer_51 : decode cX8_offer 51 = .ok (.imul, 1) := by decide +kernel
theorem dX8_offer_52 : decode cX8_offer 52 = .ok (.iadd, 1) := by decide +kernel
theorem dX8_offer_53 : decode cX8_offer 53 = .ok (.iload_n 2, 1) := by decide +kernel
theorem dX8_offer_54 : decode cX8_offer 54 = .ok (.iadd, 1) := by decide +kernel
theorem dX8_offer_55 : decode cX8_offer 55 = .ok (.iaload, 1) := by decide +kernel
theorem dX8_offer_56 : decode cX8_offer 56 = .ok (.ifCond .lt 6, 3) := by decide +kernel
theorem dX8_offer_59 : decode cX8_offer 59 = .ok (.bipush (-3), 2) := by decide +kernel
theorem dX8_offer_61 : decode cX8_offer 61 = .ok (.ireturn, 1) := by decide +kernel
theorem dX8_offer_62 : decode cX8_offer 62 = .ok (.aload_n 0, 1) := by decide +kernel
theorem dX8_offer_63 : decode cX8_offer 63 = .ok (.getfield 7, 3) := by decide +kernel
theorem dX8_offer_66 : decode cX8_offer 66 = .ok (.iload_n 1, 1) := by decide +kernel
theorem dX8_offer_67 : decode cX8_offer 67 = .ok (.iconst 4, 1) := by decide +kernel
theorem dX8_offer_68 : decode cX8_offer 68 = .ok (.invokestatic 46, 3) := by decide +kernel
theorem dX8_offer_71 : decode cX8_offer 71 = .ok (.iaload, 1) := by decide +kernel
theorem dX8_offer_72 : decode cX8_offer 72 = .ok (.istore 4, 2) := by decide +kernel
theorem dX8_offer_74 : decode cX8_offer 74 = .ok (.iload 4, 2) := by decide +kernel
theorem dX8_offer_76 : decode cX8_offer 76 = .ok (.iconst 5, 1) := by decide +kernel
theorem dX8_offer_77 : decode cX8_offer 77 = .ok (.if_icmp .ne 6, 3) := by decide +kernel
theorem dX8_offer_80 : decode cX8_offer 80 = .ok (.bipush (-2), 2) := by decide +kernel
theorem dX8_offer_82 : decode cX8_offer 82 = .ok (.ireturn, 1) := by decide +kernel
theorem dX8_offer_83 : decode cX8_offer 83 = .ok (.aload_n 0, 1) := by decide +kernel
theorem dX8_offer_84 : decode cX8_offer 84 = .ok (.getfield 7, 3) := by decide +kernel
theorem dX8_offer_87 : decode cX8_offer 87 = .ok (.bipush 74, 2) := by decide +kernel
theorem dX8_offer_89 : decode cX8_offer 89 = .ok (.iconst 2, 1) := by decide +kernel
theorem dX8_offer_90 : decode cX8_offer 90 = .ok (.iload_n 1, 1) := by decide +kernel
theorem dX8_offer_91 : decode cX8_offer 91 = .ok (.imul, 1) := by decide +kernel
theorem dX8_offer_92 : decode cX8_offer 92 = .ok (.iadd, 1) := by decide +kernel
theorem dX8_offer_93 : decode cX8_offer 93 = .ok (.iload_n 2, 1) := by decide +kernel
theorem dX8_offer_94 : decode cX8_offer 94 = .ok (.iadd, 1) := by decide +kernel
theorem dX8_offer_95 : decode cX8_offer 95 = .ok (.iload_n 3, 1) := by decide +kernel
theorem dX8_offer_96 : decode cX8_offer 96 = .ok (.iastore, 1) := by decide +kernel
theorem dX8_offer_97 : decode cX8_offer 97 = .ok (.aload_n 0, 1) := by decide +kernel
theorem dX8_offer_98 : decode cX8_offer 98 = .ok (.getfield 7, 3) := by decide +kernel
theorem dX8_offer_101 : decode cX8_offer 101 = .ok (.bipush 74, 2) := by decide +kernel
theorem dX8_offer_103 : decode cX8_offer 103 = .ok (.iconst 2, 1) := by decide +kernel
theorem dX8_offer_104 : decode cX8_offer 104 = .ok (.iload_n 1, 1) := by decide +kernel
theorem dX8_offer_105 : decode cX8_offer 105 = .ok (.imul, 1) := by decide +kernel
theorem dX8_offer_106 : decode cX8_offer 106 = .ok (.iadd, 1) := by decide +kernel
theorem dX8_offer_107 : decode cX8_offer 107 = .ok (.iconst 1, 1) := by decide +kernel
theorem dX8_offer_108 : decode cX8_offer 108 = .ok (.iadd, 1) := by decide +kernel
theorem dX8_offer_109 : decode cX8_offer 109 = .ok (.iload_n 2, 1) := by decide +kernel
theorem dX8_offer_110 : decode cX8_offer 110 = .ok (.isub, 1) := by decide +kernel
theorem dX8_offer_111 : decode cX8_offer 111 = .ok (.iaload, 1) := by decide +kernel
theorem dX8_offer_112 : decode cX8_offer 112 = .ok (.ifCond .ge 5, 3) := by decide +kernel
theorem dX8_offer_115 : decode cX8_offer 115 = .ok (.iconst 0, 1) := by decide +kernel
theorem dX8_offer_116 : decode cX8_offer 116 = .ok (.ireturn, 1) := by decide +kernel
theorem dX8_offer_117 : decode cX8_offer 117 = .ok (.aload_n 0, 1) := by decide +kernel
theorem dX8_offer_118 : decode cX8_offer 118 = .ok (.getfield 7, 3) := by decide +kernel
theorem dX8_offer_121 : decode cX8_offer 121 = .ok (.bipush 74, 2) := by decide +kernel
theorem dX8_offer_123 : decode cX8_offer 123 = .ok (.iconst 2, 1) := by decide +kernel
theorem dX8_offer_124 : decode cX8_offer 124 = .ok (.iload_n 1, 1) := by decide +kernel
theorem dX8_offer_125 : decode cX8_offer 125 = .ok (.imul, 1) := by decide +kernel
theorem dX8_offer_126 : decode cX8_offer 126 = .ok (.iadd, 1) := by decide +kernel
theorem dX8_offer_127 : decode cX8_offer 127 = .ok (.iaload, 1) := by decide +kernel
theorem dX8_offer_128 : decode cX8_offer 128 = .ok (.istore 5, 2) := by decide +kernel
theorem dX8_offer_130 : decode cX8_offer 130 = .ok (.aload_n 0, 1) := by decide +kernel
theorem dX8_offer_131 : decode cX8_offer 131 = .ok (.getfield 7, 3) := by decide +kernel
theorem dX8_offer_134 : decode cX8_offer 134 = .ok (.bipush 74, 2) := by decide +kernel
theorem dX8_offer_136 : decode cX8_offer 136 = .ok (.iconst 2, 1) := by decide +kernel
theorem dX8_offer_137 : decode cX8_offer 137 = .ok (.iload_n 1, 1) := by decide +kernel
theorem dX8_offer_138 : decode cX8_offer 138 = .ok (.imul, 1) := by decide +kernel
theorem dX8_offer_139 : decode cX8_offer 139 = .ok (.iadd, 1) := by decide +kernel
theorem dX8_offer_140 : decode cX8_offer 140 = .ok (.iconst 1, 1) := by decide +kernel
theorem dX8_offer_141 : decode cX8_offer 141 = .ok (.iadd, 1) := by decide +kernel
theorem dX8_offer_142 : decode cX8_offer 142 = .ok (.iaload, 1) := by decide +kernel
theorem dX8_offer_143 : decode cX8_offer 143 = .ok (.istore 6, 2) := by decide +kernel
theorem dX8_offer_145 : decode cX8_offer 145 = .ok (.aload_n 0, 1) := by decide +kernel
theorem dX8_offer_146 : decode cX8_offer 146 = .ok (.getfield 7, 3) := by decide +kernel
theorem dX8_offer_149 : decode cX8_offer 149 = .ok (.bipush 86, 2) := by decide +kernel
theorem dX8_offer_151 : decode cX8_offer 151 = .ok (.bipush 10, 2) := by decide +kernel
theorem dX8_offer_153 : decode cX8_offer 153 = .ok (.iload_n 1, 1) := by decide +kernel
theorem dX8_offer_154 : decode cX8_offer 154 = .ok (.imul, 1) := by decide +kernel
theorem dX8_offer_155 : decode cX8_offer 155 = .ok (.iadd, 1) := by decide +kernel
theorem dX8_offer_156 : decode cX8_offer 156 = .ok (.iconst 2, 1) := by decide +kernel
theorem dX8_offer_157 : decode cX8_offer 157 = .ok (.iload 4, 2) := by decide +kernel
theorem dX8_offer_159 : decode cX8_offer 159 = .ok (.imul, 1) := by decide +kernel
theorem dX8_offer_160 : decode cX8_offer 160 = .ok (.iadd, 1) := by decide +kernel
theorem dX8_offer_161 : decode cX8_offer 161 = .ok (.iload 5, 2) := by decide +kernel
theorem dX8_offer_163 : decode cX8_offer 163 = .ok (.iastore, 1) := by decide +kernel
theorem dX8_offer_164 : decode cX8_offer 164 = .ok (.aload_n 0, 1) := by decide +kernel
theorem dX8_offer_165 : decode cX8_offer 165 = .ok (.getfield 7, 3) := by decide +kernel
theorem dX8_offer_168 : decode cX8_offer 168 = .ok (.bipush 86, 2) := by decide +kernel
theorem dX8_offer_170 : decode cX8_offer 170 = .ok (.bipush 10, 2) := by decide +kernel
theorem dX8_offer_172 : decode cX8_offer 172 = .ok (.iload_n 1, 1) := by decide +kernel
theorem dX8_offer_173 : decode cX8_offer 173 = .ok (.imul, 1) := by decide +kernel
theorem dX8_offer_174 : decode cX8_offer 174 = .ok (.iadd, 1) := by decide +kernel
theorem dX8_offer_175 : decode cX8_offer 175 = .ok (.iconst 2, 1) := by decide +kernel
theorem dX8_offer_176 : decode cX8_offer 176 = .ok (.iload 4, 2) := by decide +kernel
theorem dX8_offer_178 : decode cX8_offer 178 = .ok (.imul, 1) := by decide +kernel
theorem dX8_offer_179 : decode cX8_offer 179 = .ok (.iadd, 1) := by decide +kernel
theorem dX8_offer_180 : decode cX8_offer 180 = .ok (.iconst 1, 1) := by decide +kernel
theorem dX8_offer_181 : decode cX8_offer 181 = .ok (.iadd, 1) := by decide +kernel
theorem dX8_offer_182 : decode cX8_offer 182 = .ok (.iload 6, 2) := by decide +kernel
theorem dX8_offer_184 : decode cX8_offer 184 = .ok (.iastore, 1) := by decide +kernel
theorem dX8_offer_185 : decode cX8_offer 185 = .ok (.aload_n 0, 1) := by decide +kernel
theorem dX8_offer_186 : decode cX8_offer 186 = .ok (.getfield 7, 3) := by decide +kernel
theorem dX8_offer_189 : decode cX8_offer 189 = .ok (.iload_n 1, 1) := by decide +kernel
theorem dX8_offer_190 : decode cX8_offer 190 = .ok (.iconst 4, 1) := by decide +kernel
theorem dX8_offer_191 : decode cX8_offer 191 = .ok (.invokestatic 46, 3) := by decide +kernel
theorem dX8_offer_194 : decode cX8_offer 194 = .ok (.dup2, 1) := by decide +kernel
theorem dX8_offer_195 : decode cX8_offer 195 = .ok (.iaload, 1) := by decide +kernel
theorem dX8_offer_196 : decode cX8_offer 196 = .ok (.iconst 1, 1) := by decide +kernel
theorem dX8_offer_197 : decode cX8_offer 197 = .ok (.iadd, 1) := by decide +kernel
theorem dX8_offer_198 : decode cX8_offer 198 = .ok (.iastore, 1) := by decide +kernel
theorem dX8_offer_199 : decode cX8_offer 199 = .ok (.aload_n 0, 1) := by decide +kernel
theorem dX8_offer_200 : decode cX8_offer 200 = .ok (.getfield 7, 3) := by decide +kernel
theorem dX8_offer_203 : decode cX8_offer 203 = .ok (.bipush 74, 2) := by decide +kernel
theorem dX8_offer_205 : decode cX8_offer 205 = .ok (.iconst 2, 1) := by decide +kernel
theorem dX8_offer_206 : decode cX8_offer 206 = .ok (.iload_n 1, 1) := by decide +kernel
theorem dX8_offer_207 : decode cX8_offer 207 = .ok (.imul, 1) := by decide +kernel
theorem dX8_offer_208 : decode cX8_offer 208 = .ok (.iadd, 1) := by decide +kernel
theorem dX8_offer_209 : decode cX8_offer 209 = .ok (.bipush (-5), 2) := by decide +kernel
theorem dX8_offer_211 : decode cX8_offer 211 = .ok (.iastore, 1) := by decide +kernel
theorem dX8_offer_212 : decode cX8_offer 212 = .ok (.aload_n 0, 1) := by decide +kernel
theorem dX8_offer_213 : decode cX8_offer 213 = .ok (.getfield 7, 3) := by decide +kernel
theorem dX8_offer_216 : decode cX8_offer 216 = .ok (.bipush 74, 2) := by decide +kernel
theorem dX8_offer_218 : decode cX8_offer 218 = .ok (.iconst 2, 1) := by decide +kernel
theorem dX8_offer_219 : decode cX8_offer 219 = .ok (.iload_n 1, 1) := by decide +kernel
theorem dX8_offer_220 : decode cX8_offer 220 = .ok (.imul, 1) := by decide +kernel
theorem dX8_offer_221 : decode cX8_offer 221 = .ok (.iadd, 1) := by decide +kernel
theorem dX8_offer_222 : decode cX8_offer 222 = .ok (.iconst 1, 1) := by decide +kernel
theorem dX8_offer_223 : decode cX8_offer 223 = .ok (.iadd, 1) := by decide +kernel
theorem dX8_offer_224 : decode cX8_offer 224 = .ok (.bipush (-5), 2) := by decide +kernel
theorem dX8_offer_226 : decode cX8_offer 226 = .ok (.iastore, 1) := by decide +kernel
theorem dX8_offer_227 : decode cX8_offer 227 = .ok (.iload 6, 2) := by decide +kernel
theorem dX8_offer_229 : decode cX8_offer 229 = .ok (.iload 5, 2) := by decide +kernel
theorem dX8_offer_231 : decode cX8_offer 231 = .ok (.if_icmp .ge 5, 3) := by decide +kernel
theorem dX8_offer_234 : decode cX8_offer 234 = .ok (.iconst 2, 1) := by decide +kernel
theorem dX8_offer_235 : decode cX8_offer 235 = .ok (.ireturn, 1) := by decide +kernel
theorem dX8_offer_236 : decode cX8_offer 236 = .ok (.aload_n 0, 1) := by decide +kernel
theorem dX8_offer_237 : decode cX8_offer 237 = .ok (.getfield 7, 3) := by decide +kernel
theorem dX8_offer_240 : decode cX8_offer 240 = .ok (.iload_n 1, 1) := by decide +kernel
theorem dX8_offer_241 : decode cX8_offer 241 = .ok (.iconst 2, 1) := by decide +kernel
theorem dX8_offer_242 : decode cX8_offer 242 = .ok (.invokestatic 46, 3) := by decide +kernel
theorem dX8_offer_245 : decode cX8_offer 245 = .ok (.iconst 1, 1) := by decide +kernel
theorem dX8_offer_246 : decode cX8_offer 246 = .ok (.iastore, 1) := by decide +kernel
theorem dX8_offer_247 : decode cX8_offer 247 = .ok (.aload_n 0, 1) := by decide +kernel
theorem dX8_offer_248 : decode cX8_offer 248 = .ok (.getfield 7, 3) := by decide +kernel
theorem dX8_offer_251 : decode cX8_offer 251 = .ok (.iload_n 1, 1) := by decide +kernel
theorem dX8_offer_252 : decode cX8_offer 252 = .ok (.iconst 3, 1) := by decide +kernel
theorem dX8_offer_253 : decode cX8_offer 253 = .ok (.invokestatic 46, 3) := by decide +kernel
theorem dX8_offer_256 : decode cX8_offer 256 = .ok (.iload 5, 2) := by decide +kernel
theorem dX8_offer_258 : decode cX8_offer 258 = .ok (.iload 6, 2) := by decide +kernel
theorem dX8_offer_260 : decode cX8_offer 260 = .ok (.iadd, 1) := by decide +kernel
theorem dX8_offer_261 : decode cX8_offer 261 = .ok (.iconst 2, 1) := by decide +kernel
theorem dX8_offer_262 : decode cX8_offer 262 = .ok (.idiv, 1) := by decide +kernel
theorem dX8_offer_263 : decode cX8_offer 263 = .ok (.iastore, 1) := by decide +kernel
theorem dX8_offer_264 : decode cX8_offer 264 = .ok (.iconst 1, 1) := by decide +kernel
theorem dX8_offer_265 : decode cX8_offer 265 = .ok (.ireturn, 1) := by decide +kernel
set_option maxRecDepth 20000 in
theorem ggX8_put_X8_isCase : GoodIn wsX8_put wsX8_isCase := goodIn_r _ [6, 1, 7, 8, 5, 9, 13, 14, 15, 16, 17, 18, 19, 20, 21, 22, 23] (by decide +kernel) (by decide +kernel)
set_option maxRecDepth 20000 in
theorem gX8_put_X8_isCase : GoodIn wsX8_put (wsV RX8 50 RX8 yX8_isCase wsX8_isCase) := goodIn_app (goodIn_of _ (by decide +kernel)) ggX8_put_X8_isCase
set_option maxRecDepth 20000 in
theorem ggX8_put_X8_isSide : GoodIn wsX8_put wsX8_isSide := goodIn_r _ [12, 7, 8, 5, 9] (by decide +kernel) (by decide +kernel)
set_option maxRecDepth 20000 in
theorem gX8_put_X8_isSide : GoodIn wsX8_put (va_wsS RX8 60 yX8_isSide wsX8_isSide) := goodIn_app (goodIn_of _ (by decide +kernel)) ggX8_put_X8_isSide
theorem dX8_put_0 : decode cX8_put 0 = .ok (.aload_n 0, 1) := by decide +kernel
theorem dX8_put_1 : decode cX8_put 1 = .ok (.iload_n 1, 1) := by decide +kernel
theorem dX8_put_2 : decode cX8_put 2 = .ok (.invokevirtual 50, 3) := by decide +kernel
theorem dX8_put_5 : decode cX8_put 5 = .ok (.ifCond .eq 10, 3) := by decide +kernel
theorem dX8_put_8 : decode cX8_put 8 = .ok (.iload_n 2, 1) := by decide +kernel
theorem dX8_put_9 : decode cX8_put 9 = .ok (.invokestatic 60, 3) := by decide +kernel
theorem dX8_put_12 : decode cX8_put 12 = .ok (.ifCond .ne 5, 3) := by decide +kernel
theorem dX8_put_15 : decode cX8_put 15 = .ok (.iconst (-1), 1) := by decide +kernel
theorem dX8_put_16 : decode cX8_put 16 = .ok (.ireturn, 1) := by decide +kernel
theorem dX8_put_17 : decode cX8_put 17 = .ok (.aload_n 0, 1) := by decide +kernel
theorem dX8_put_18 : decode cX8_put 18 = .ok (.getfield 7, 3) := by decide +kernel
theorem dX8_put_21 : decode cX8_put 21 = .ok (.bipush 74, 2) := by decide +kernel
theorem dX8_put_23 : decode cX8_put 23 = .ok (.iconst 2, 1) := by decide +kernel
theorem dX8_put_24 : decode cX8_put 24 = .ok (.iload_n 1, 1) := by decide +kernel
theorem dX8_put_25 : decode cX8_put 25 = .ok (.imul, 1) := by decide +kernel
theorem dX8_put_26 : decode cX8_put 26 = .ok (.iadd, 1) := by decide +kernel
theorem dX8_put_27 : decode cX8_put 27 = .ok (.iload_n 2, 1) := by decide +kernel
theorem dX8_put_28 : decode cX8_put 28 = .ok (.iadd, 1) := by decide +kernel
theorem dX8_put_29 : decode cX8_put 29 = .ok (.iaload, 1) := by decide +kernel
theorem dX8_put_30 : decode cX8_put 30 = .ok (.ifCond .lt 7, 3) := by decide +kernel
theorem dX8_put_33 : decode cX8_put 33 = .ok (.iconst 1, 1) := by decide +kernel
theorem dX8_put_34 : decode cX8_put 34 = .ok (.goto 4, 3) := by decide +kernel
theorem dX8_put_37 : decode cX8_put 37 = .ok (.iconst 0, 1) := by decide +kernel
theorem dX8_put_38 : decode cX8_put 38 = .ok (.ireturn, 1) := by decide +kernel
set_option maxRecDepth 20000 in
theorem ggX8_learns_X8_isCase : GoodIn wsX8_learns wsX8_isCase := goodIn_r _ [6, 1, 7, 8, 5, 9, 16, 17, 18, 19, 20, 21, 22, 23, 24, 25, 26] (by decide +kernel) (by decide +kernel)
set_option maxRecDepth 20000 in
theorem gX8_learns_X8_isCase : GoodIn wsX8_learns (wsV RX8 50 RX8 yX8_isCase wsX8_isCase) := goodIn_app (goodIn_of _ (by decide +kernel)) ggX8_learns_X8_isCase
set_option maxRecDepth 20000 in
theorem ggX8_learns_X8_isSide : GoodIn wsX8_learns wsX8_isSide := goodIn_r _ [12, 7, 8, 5, 9] (by decide +kernel) (by decide +kernel)
set_option maxRecDepth 20000 in
theorem gX8_learns_X8_isSide : GoodIn wsX8_learns (va_wsS RX8 60 yX8_isSide wsX8_isSide) := goodIn_app (goodIn_of _ (by decide +kernel)) ggX8_learns_X8_isSide
set_option maxRecDepth 20000 in
theorem ggX8_learns_X8_at : GoodIn wsX8_learns wsX8_at := goodIn_r _ [15] (by decide +kernel) (by decide +kernel)
set_option maxRecDepth 20000 in
theorem gX8_learns_X8_at : GoodIn wsX8_learns (va_wsS RX8 46 yX8_at wsX8_at) := goodIn_app (goodIn_of _ (by decide +kernel)) ggX8_learns_X8_at
set_option maxRecDepth 20000 in
theorem ggX8_learns_X8_in : GoodIn wsX8_learns wsX8_in := goodIn_r _ [9] (by decide +kernel) (by decide +kernel)
set_option maxRecDepth 20000 in
theorem gX8_learns_X8_in : GoodIn wsX8_learns (va_wsS RX8 35 yX8_in wsX8_in) := goodIn_app (goodIn_of _ (by decide +kernel)) ggX8_learns_X8_in
end
section
theorem dX8_learns_0 : decode cX8_learns 0 = .ok (.aload_n 0, 1) := by decide +kernel
theorem dX8_learns_1 : decode cX8_learns 1 = .ok (.iload_n 1, 1) := by decide +kernel
theorem dX8_learns_2 : decode cX8_learns 2 = .ok (.invokevirtual 50, 3) := by decide +kernel
theorem dX8_learns_5 : decode cX8_learns 5 = .ok (.ifCond .eq 10, 3) := by decide +kernel
theorem dX8_learns_8 : decode cX8_learns 8 = .ok (.iload_n 2, 1) := by decide +kernel
theorem dX8_learns_9 : decode cX8_learns 9 = .ok (.invokestatic 60, 3) := by decide +kernel
theorem dX8_learns_12 : decode cX8_learns 12 = .ok (.ifCond .ne 5, 3) := by decide +kernel
theorem dX8_learns_15 : decode cX8_learns 15 = .ok (.iconst (-1), 1) := by decide +kernel
theorem dX8_learns_16 : decode cX8_learns 16 = .ok (.ireturn, 1) := by decide +kernel
theorem dX8_learns_17 : decode cX8_learns 17 = .ok (.iload_n 3, 1) := by decide +kernel
theorem dX8_learns_18 : decode cX8_learns 18 = .ok (.iconst 0, 1) := by decide +kernel
theorem dX8_learns_19 : decode cX8_learns 19 = .ok (.aload_n 0, 1) := by decide +kernel
theorem dX8_learns_20 : decode cX8_learns 20 = .ok (.getfield 7, 3) := by decide +kernel
theorem dX8_learns_23 : decode cX8_learns 23 = .ok (.iload_n 1, 1) := by decide +kernel
theorem dX8_learns_24 : decode cX8_learns 24 = .ok (.iconst 4, 1) := by decide +kernel
theorem dX8_learns_25 : decode cX8_learns 25 = .ok (.invokestatic 46, 3) := by decide +kernel
theorem dX8_learns_28 : decode cX8_learns 28 = .ok (.iaload, 1) := by decide +kernel
theorem dX8_learns_29 : decode cX8_learns 29 = .ok (.iconst 1, 1) := by decide +kernel
theorem dX8_learns_30 : decode cX8_learns 30 = .ok (.isub, 1) := by decide +kernel
theorem dX8_learns_31 : decode cX8_learns 31 = .ok (.invokestatic 35, 3) := by decide +kernel
theorem dX8_learns_34 : decode cX8_learns 34 = .ok (.ifCond .ne 6, 3) := by decide +kernel
theorem dX8_learns_37 : decode cX8_learns 37 = .ok (.bipush (-5), 2) := by decide +kernel
theorem dX8_learns_39 : decode cX8_learns 39 = .ok (.ireturn, 1) := by decide +kernel
theorem dX8_learns_40 : decode cX8_learns 40 = .ok (.aload_n 0, 1) := by decide +kernel
theorem dX8_learns_41 : decode cX8_learns 41 = .ok (.getfield 7, 3) := by decide +kernel
theorem dX8_learns_44 : decode cX8_learns 44 = .ok (.bipush 86, 2) := by decide +kernel
theorem dX8_learns_46 : decode cX8_learns 46 = .ok (.bipush 10, 2) := by decide +kernel
theorem dX8_learns_48 : decode cX8_learns 48 = .ok (.iload_n 1, 1) := by decide +kernel
theorem dX8_learns_49 : decode cX8_learns 49 = .ok (.imul, 1) := by decide +kernel
theorem dX8_learns_50 : decode cX8_learns 50 = .ok (.iadd, 1) := by decide +kernel
theorem dX8_learns_51 : decode cX8_learns 51 = .ok (.iconst 2, 1) := by decide +kernel
theorem dX8_learns_52 : decode cX8_learns 52 = .ok (.iload_n 3, 1) := by decide +kernel
theorem dX8_learns_53 : decode cX8_learns 53 = .ok (.imul, 1) := by decide +kernel
theorem dX8_learns_54 : decode cX8_learns 54 = .ok (.iadd, 1) := by decide +kernel
theorem dX8_learns_55 : decode cX8_learns 55 = .ok (.iload_n 2, 1) := by decide +kernel
theorem dX8_learns_56 : decode cX8_learns 56 = .ok (.iadd, 1) := by decide +kernel
theorem dX8_learns_57 : decode cX8_learns 57 = .ok (.iaload, 1) := by decide +kernel
theorem dX8_learns_58 : decode cX8_learns 58 = .ok (.istore 5, 2) := by decide +kernel
theorem dX8_learns_60 : decode cX8_learns 60 = .ok (.aload_n 0, 1) := by decide +kernel
theorem dX8_learns_61 : decode cX8_learns 61 = .ok (.getfield 7, 3) := by decide +kernel
theorem dX8_learns_64 : decode cX8_learns 64 = .ok (.bipush 86, 2) := by decide +kernel
theorem dX8_learns_66 : decode cX8_learns 66 = .ok (.bipush 10, 2) := by decide +kernel
theorem dX8_learns_68 : decode cX8_learns 68 = .ok (.iload_n 1, 1) := by decide +kernel
theorem dX8_learns_69 : decode cX8_learns 69 = .ok (.imul, 1) := by decide +kernel
theorem dX8_learns_70 : decode cX8_learns 70 = .ok (.iadd, 1) := by decide +kernel
theorem dX8_learns_71 : decode cX8_learns 71 = .ok (.iconst 2, 1) := by decide +kernel
theorem dX8_learns_72 : decode cX8_learns 72 = .ok (.iload_n 3, 1) := by decide +kernel
theorem dX8_learns_73 : decode cX8_learns 73 = .ok (.imul, 1) := by decide +kernel
theorem dX8_learns_74 : decode cX8_learns 74 = .ok (.iadd, 1) := by decide +kernel
theorem dX8_learns_75 : decode cX8_learns 75 = .ok (.iconst 1, 1) := by decide +kernel
theorem dX8_learns_76 : decode cX8_learns 76 = .ok (.iadd, 1) := by decide +kernel
theorem dX8_learns_77 : decode cX8_learns 77 = .ok (.iload_n 2, 1) := by decide +kernel
theorem dX8_learns_78 : decode cX8_learns 78 = .ok (.isub, 1) := by decide +kernel
theorem dX8_learns_79 : decode cX8_learns 79 = .ok (.iaload, 1) := by decide +kernel
theorem dX8_learns_80 : decode cX8_learns 80 = .ok (.istore 6, 2) := by decide +kernel
theorem dX8_learns_82 : decode cX8_learns 82 = .ok (.iload_n 2, 1) := by decide +kernel
theorem dX8_learns_83 : decode cX8_learns 83 = .ok (.ifCond .ne 8, 3) := by decide +kernel
theorem dX8_learns_86 : decode cX8_learns 86 = .ok (.iload 5, 2) := by decide +kernel
theorem dX8_learns_88 : decode cX8_learns 88 = .ok (.goto 5, 3) := by decide +kernel
theorem dX8_learns_91 : decode cX8_learns 91 = .ok (.iload 6, 2) := by decide +kernel
theorem dX8_learns_93 : decode cX8_learns 93 = .ok (.istore 7, 2) := by decide +kernel
theorem dX8_learns_95 : decode cX8_learns 95 = .ok (.iload_n 2, 1) := by decide +kernel
theorem dX8_learns_96 : decode cX8_learns 96 = .ok (.ifCond .ne 8, 3) := by decide +kernel
theorem dX8_learns_99 : decode cX8_learns 99 = .ok (.iload 6, 2) := by decide +kernel
theorem dX8_learns_101 : decode cX8_learns 101 = .ok (.goto 5, 3) := by decide +kernel
theorem dX8_learns_104 : decode cX8_learns 104 = .ok (.iload 5, 2) := by decide +kernel
theorem dX8_learns_106 : decode cX8_learns 106 = .ok (.istore 8, 2) := by decide +kernel
theorem dX8_learns_108 : decode cX8_learns 108 = .ok (.bipush (-5), 2) := by decide +kernel
theorem dX8_learns_110 : decode cX8_learns 110 = .ok (.istore 9, 2) := by decide +kernel
theorem dX8_learns_112 : decode cX8_learns 112 = .ok (.iconst 0, 1) := by decide +kernel
theorem dX8_learns_113 : decode cX8_learns 113 = .ok (.istore 10, 2) := by decide +kernel
theorem dX8_learns_115 : decode cX8_learns 115 = .ok (.iload 10, 2) := by decide +kernel
theorem dX8_learns_117 : decode cX8_learns 117 = .ok (.bipush 100, 2) := by decide +kernel
theorem dX8_learns_119 : decode cX8_learns 119 = .ok (.if_icmp .gt 112, 3) := by decide +kernel
theorem dX8_learns_122 : decode cX8_learns 122 = .ok (.iload_n 2, 1) := by decide +kernel
theorem dX8_learns_123 : decode cX8_learns 123 = .ok (.ifCond .ne 8, 3) := by decide +kernel
theorem dX8_learns_126 : decode cX8_learns 126 = .ok (.iload 5, 2) := by decide +kernel
theorem dX8_learns_128 : decode cX8_learns 128 = .ok (.goto 5, 3) := by decide +kernel
theorem dX8_learns_131 : decode cX8_learns 131 = .ok (.iload 10, 2) := by decide +kernel
theorem dX8_learns_133 : decode cX8_learns 133 = .ok (.istore 11, 2) := by decide +kernel
theorem dX8_learns_135 : decode cX8_learns 135 = .ok (.iload_n 2, 1) := by decide +kernel
theorem dX8_learns_136 : decode cX8_learns 136 = .ok (.ifCond .ne 8, 3) := by decide +kernel
theorem dX8_learns_139 : decode cX8_learns 139 = .ok (.iload 10, 2) := by decide +kernel
theorem dX8_learns_141 : decode cX8_learns 141 = .ok (.goto 5, 3) := by decide +kernel
theorem dX8_learns_144 : decode cX8_learns 144 = .ok (.iload 5, 2) := by decide +kernel
theorem dX8_learns_146 : decode cX8_learns 146 = .ok (.istore 12, 2) := by decide +kernel
theorem dX8_learns_148 : decode cX8_learns 148 = .ok (.iload 8, 2) := by decide +kernel
theorem dX8_learns_150 : decode cX8_learns 150 = .ok (.iload 7, 2) := by decide +kernel
theorem dX8_learns_152 : decode cX8_learns 152 = .ok (.if_icmp .ge 18, 3) := by decide +kernel
theorem dX8_learns_155 : decode cX8_learns 155 = .ok (.iload 12, 2) := by decide +kernel
theorem dX8_learns_157 : decode cX8_learns 157 = .ok (.iload 11, 2) := by decide +kernel
theorem dX8_learns_159 : decode cX8_learns 159 = .ok (.if_icmp .ge 7, 3) := by decide +kernel
theorem dX8_learns_162 : decode cX8_learns 162 = .ok (.iconst 1, 1) := by decide +kernel
theorem dX8_learns_163 : decode cX8_learns 163 = .ok (.goto 36, 3) := by decide +kernel
theorem dX8_learns_166 : decode cX8_learns 166 = .ok (.iconst 0, 1) := by decide +kernel
theorem dX8_learns_167 : decode cX8_learns 167 = .ok (.goto 32, 3) := by decide +kernel
theorem dX8_learns_170 : decode cX8_learns 170 = .ok (.iload 12, 2) := by decide +kernel
theorem dX8_learns_172 : decode cX8_learns 172 = .ok (.iload 11, 2) := by decide +kernel
theorem dX8_learns_174 : decode cX8_learns 174 = .ok (.if_icmp .lt 24, 3) := by decide +kernel
theorem dX8_learns_177 : decode cX8_learns 177 = .ok (.iload 11, 2) := by decide +kernel
theorem dX8_learns_179 : decode cX8_learns 179 = .ok (.iload 12, 2) := by decide +kernel
theorem dX8_learns_181 : decode cX8_learns 181 = .ok (.iadd, 1) := by decide +kernel
theorem dX8_learns_182 : decode cX8_learns 182 = .ok (.iconst 2, 1) := by decide +kernel
theorem dX8_learns_183 : decode cX8_learns 183 = .ok (.idiv, 1) := by decide +kernel
theorem dX8_learns_184 : decode cX8_learns 184 = .ok (.iload 7, 2) := by decide +kernel
theorem dX8_learns_186 : decode cX8_learns 186 = .ok (.iload 8, 2) := by decide +kernel
theorem dX8_learns_188 : decode cX8_learns 188 = .ok (.iadd, 1) := by decide +kernel
theorem dX8_learns_189 : decode cX8_learns 189 = .ok (.iconst 2, 1) := by decide +kernel
theorem dX8_learns_190 : decode cX8_learns 190 = .ok (.idiv, 1) := by decide +kernel
theorem dX8_learns_191 : decode cX8_learns 191 = .ok (.if_icmp .ne 7, 3) := by decide +kernel
theorem dX8_learns_194 : decode cX8_learns 194 = .ok (.iconst 1, 1) := by decide +kernel
theorem dX8_learns_195 : decode cX8_learns 195 = .ok (.goto 4, 3) := by decide +kernel
theorem dX8_learns_198 : decode cX8_learns 198 = .ok (.iconst 0, 1) := by decide +kernel
theorem dX8_learns_199 : decode cX8_learns 199 = .ok (.istore 13, 2) := by decide +kernel
theorem dX8_learns_201 : decode cX8_learns 201 = .ok (.iload 13, 2) := by decide +kernel
theorem dX8_learns_203 : decode cX8_learns 203 = .ok (.ifCond .eq 18, 3) := by decide +kernel
theorem dX8_learns_206 : decode cX8_learns 206 = .ok (.iload 9, 2) := by decide +kernel
theorem dX8_learns_208 : decode cX8_learns 208 = .ok (.ifCond .lt 8, 3) := by decide +kernel
theorem dX8_learns_211 : decode cX8_learns 211 = .ok (.iload 4, 2) := by decide +kernel
theorem dX8_learns_213 : decode cX8_learns 213 = .ok (.ifCond .eq 8, 3) := by decide +kernel
theorem dX8_learns_216 : decode cX8_learns 216 = .ok (.iload 10, 2) := by decide +kernel
theorem dX8_learns_218 : decode cX8_learns 218 = .ok (.goto 5, 3) := by decide +kernel
theorem dX8_learns_221 : decode cX8_learns 221 = .ok (.iload 9, 2) := by decide +kernel
theorem dX8_learns_223 : decode cX8_learns 223 = .ok (.istore 9, 2) := by decide +kernel
theorem dX8_learns_225 : decode cX8_learns 225 = .ok (.iinc 10 1, 3) := by decide +kernel
theorem dX8_learns_228 : decode cX8_learns 228 = .ok (.goto (-113), 3) := by decide +kernel
theorem dX8_learns_231 : decode cX8_learns 231 = .ok (.iload 9, 2) := by decide +kernel
theorem dX8_learns_233 : decode cX8_learns 233 = .ok (.ireturn, 1) := by decide +kernel
theorem dX8_oneOf_0 : decode cX8_oneOf 0 = .ok (.iload_n 0, 1) := by decide +kernel
theorem dX8_oneOf_1 : decode cX8_oneOf 1 = .ok (.iconst 3, 1) := by decide +kernel
theorem dX8_oneOf_2 : decode cX8_oneOf 2 = .ok (.if_icmp .ge 7, 3) := by decide +kernel
theorem dX8_oneOf_5 : decode cX8_oneOf 5 = .ok (.iconst 0, 1) := by decide +kernel
theorem dX8_oneOf_6 : decode cX8_oneOf 6 = .ok (.goto 13, 3) := by decide +kernel
theorem dX8_oneOf_9 : decode cX8_oneOf 9 = .ok (.iload_n 0, 1) := by decide +kernel
theorem dX8_oneOf_10 : decode cX8_oneOf 10 = .ok (.iconst 5, 1) := by decide +kernel
theorem dX8_oneOf_11 : decode cX8_oneOf 11 = .ok (.if_icmp .ge 7, 3) := by decide +kernel
theorem dX8_oneOf_14 : decode cX8_oneOf 14 = .ok (.iconst 1, 1) := by decide +kernel
theorem dX8_oneOf_15 : decode cX8_oneOf 15 = .ok (.goto 4, 3) := by decide +kernel
theorem dX8_oneOf_18 : decode cX8_oneOf 18 = .ok (.iconst 2, 1) := by decide +kernel
theorem dX8_oneOf_19 : decode cX8_oneOf 19 = .ok (.ireturn, 1) := by decide +kernel
theorem dX8_otherOf_0 : decode cX8_otherOf 0 = .ok (.iload_n 0, 1) := by decide +kernel
theorem dX8_otherOf_1 : decode cX8_otherOf 1 = .ok (.iconst 3, 1) := by decide +kernel
theorem dX8_otherOf_2 : decode cX8_otherOf 2 = .ok (.if_icmp .ge 9, 3) := by decide +kernel
theorem dX8_otherOf_5 : decode cX8_otherOf 5 = .ok (.iload_n 0, 1) := by decide +kernel
theorem dX8_otherOf_6 : decode cX8_otherOf 6 = .ok (.iconst 1, 1) := by decide +kernel
theorem dX8_otherOf_7 : decode cX8_otherOf 7 = .ok (.iadd, 1) := by decide +kernel
theorem dX8_otherOf_8 : decode cX8_otherOf 8 = .ok (.goto 15, 3) := by decide +kernel
theorem dX8_otherOf_11 : decode cX8_otherOf 11 = .ok (.iload_n 0, 1) := by decide +kernel
theorem dX8_otherOf_12 : decode cX8_otherOf 12 = .ok (.iconst 5, 1) := by decide +kernel
theorem dX8_otherOf_13 : decode cX8_otherOf 13 = .ok (.if_icmp .ge 9, 3) := by decide +kernel
theorem dX8_otherOf_16 : decode cX8_otherOf 16 = .ok (.iload_n 0, 1) := by decide +kernel
theorem dX8_otherOf_17 : decode cX8_otherOf 17 = .ok (.iconst 1, 1) := by decide +kernel
theorem dX8_otherOf_18 : decode cX8_otherOf 18 = .ok (.isub, 1) := by decide +kernel
theorem dX8_otherOf_19 : decode cX8_otherOf 19 = .ok (.goto 4, 3) := by decide +kernel
theorem dX8_otherOf_22 : decode cX8_otherOf 22 = .ok (.iconst 3, 1) := by decide +kernel
theorem dX8_otherOf_23 : decode cX8_otherOf 23 = .ok (.ireturn, 1) := by decide +kernel
set_option maxRecDepth 20000 in
theorem ggX8_isPair_X8_in : GoodIn wsX8_isPair wsX8_in := goodIn_r _ [4] (by decide +kernel) (by decide +kernel)
set_option maxRecDepth 20000 in
theorem gX8_isPair_X8_in : GoodIn wsX8_isPair (va_wsS RX8 35 yX8_in wsX8_in) := goodIn_app (goodIn_of _ (by decide +kernel)) ggX8_isPair_X8_in
set_option maxRecDepth 20000 in
theorem ggX8_isPair_X8_otherOf : GoodIn wsX8_isPair wsX8_otherOf := goodIn_r _ [7] (by decide +kernel) (by decide +kernel)
set_option maxRecDepth 20000 in
theorem gX8_isPair_X8_otherOf : GoodIn wsX8_isPair (va_wsS RX8 63 yX8_otherOf wsX8_otherOf) := goodIn_app (goodIn_of _ (by decide +kernel)) ggX8_isPair_X8_otherOf
set_option maxRecDepth 20000 in
theorem ggX8_isPair_X8_isMediator : GoodIn wsX8_isPair wsX8_isMediator := goodIn_r _ [11, 12, 1, 2, 3, 4, 13, 14, 15, 16, 17, 18, 19, 20, 21, 22, 23] (by decide +kernel) (by decide +kernel)
set_option maxRecDepth 20000 in
theorem gX8_isPair_X8_isMediator : GoodIn wsX8_isPair (wsV RX8 39 RX8 yX8_isMediator wsX8_isMediator) := goodIn_app (goodIn_of _ (by decide +kernel)) ggX8_isPair_X8_isMediator
theorem dX8_isPair_0 : decode cX8_isPair 0 = .ok (.iload_n 1, 1) := by decide +kernel
theorem dX8_isPair_1 : decode cX8_isPair 1 = .ok (.iconst 0, 1) := by decide +kernel
theorem dX8_isPair_2 : decode cX8_isPair 2 = .ok (.iconst 5, 1) := by decide +kernel
theorem dX8_isPair_3 : decode cX8_isPair 3 = .ok (.invokestatic 35, 3) := by decide +kernel
theorem dX8_isPair_6 : decode cX8_isPair 6 = .ok (.ifCond .eq 18, 3) := by decide +kernel
theorem dX8_isPair_9 : decode cX8_isPair 9 = .ok (.aload_n 0, 1) := by decide +kernel
theorem dX8_isPair_10 : decode cX8_isPair 10 = .ok (.iload_n 1, 1) := by decide +kernel
theorem dX8_isPair_11 : decode cX8_isPair 11 = .ok (.invokestatic 63, 3) := by decide +kernel
theorem dX8_isPair_14 : decode cX8_isPair 14 = .ok (.invokevirtual 39, 3) := by decide +kernel
theorem dX8_isPair_17 : decode cX8_isPair 17 = .ok (.ifCond .eq 7, 3) := by decide +kernel
theorem dX8_isPair_20 : decode cX8_isPair 20 = .ok (.iconst 1, 1) := by decide +kernel
theorem dX8_isPair_21 : decode cX8_isPair 21 = .ok (.goto 4, 3) := by decide +kernel
theorem dX8_isPair_24 : decode cX8_isPair 24 = .ok (.iconst 0, 1) := by decide +kernel
theorem dX8_isPair_25 : decode cX8_isPair 25 = .ok (.ireturn, 1) := by decide +kernel
theorem dX8_mayMeet_0 : decode cX8_mayMeet 0 = .ok (.aload_n 0, 1) := by decide +kernel
theorem dX8_mayMeet_1 : decode cX8_mayMeet 1 = .ok (.getfield 7, 3) := by decide +kernel
theorem dX8_mayMeet_4 : decode cX8_mayMeet 4 = .ok (.bipush 20, 2) := by decide +kernel
theorem dX8_mayMeet_6 : decode cX8_mayMeet 6 = .ok (.iconst 2, 1) := by decide +kernel
theorem dX8_mayMeet_7 : decode cX8_mayMeet 7 = .ok (.iload_n 1, 1) := by decide +kernel
theorem dX8_mayMeet_8 : decode cX8_mayMeet 8 = .ok (.imul, 1) := by decide +kernel
theorem dX8_mayMeet_9 : decode cX8_mayMeet 9 = .ok (.iadd, 1) := by decide +kernel
theorem dX8_mayMeet_10 : decode cX8_mayMeet 10 = .ok (.iaload, 1) := by decide +kernel
theorem dX8_mayMeet_11 : decode cX8_mayMeet 11 = .ok (.aload_n 0, 1) := by decide +kernel
theorem dX8_mayMeet_12 : decode cX8_mayMeet 12 = .ok (.getfield 7, 3) := by decide +kernel
theorem dX8_mayMeet_15 : decode cX8_mayMeet 15 = .ok (.iconst 4, 1) := by decide +kernel
theorem dX8_mayMeet_16 : decode cX8_mayMeet 16 = .ok (.iconst 2, 1) := by decide +kernel
theorem dX8_mayMeet_17 : decode cX8_mayMeet 17 = .ok (.iload_n 2, 1) := by decide +kernel
theorem dX8_mayMeet_18 : decode cX8_mayMeet 18 = .ok (.imul, 1) := by decide +kernel
theorem dX8_mayMeet_19 : decode cX8_mayMeet 19 = .ok (.iadd, 1) := by decide +kernel
theorem dX8_mayMeet_20 : decode cX8_mayMeet 20 = .ok (.iaload, 1) := by decide +kernel
theorem dX8_mayMeet_21 : decode cX8_mayMeet 21 = .ok (.if_icmp .eq 23, 3) := by decide +kernel
theorem dX8_mayMeet_24 : decode cX8_mayMeet 24 = .ok (.aload_n 0, 1) := by decide +kernel
theorem dX8_mayMeet_25 : decode cX8_mayMeet 25 = .ok (.getfield 7, 3) := by decide +kernel
theorem dX8_mayMeet_28 : decode cX8_mayMeet 28 = .ok (.bipush 28, 2) := by decide +kernel
theorem dX8_mayMeet_30 : decode cX8_mayMeet 30 = .ok (.iload_n 1, 1) := by decide +kernel
theorem dX8_mayMeet_31 : decode cX8_mayMeet 31 = .ok (.iadd, 1) := by decide +kernel
theorem dX8_mayMeet_32 : decode cX8_mayMeet 32 = .ok (.iaload, 1) := by decide +kernel
theorem dX8_mayMeet_33 : decode cX8_mayMeet 33 = .ok (.iload_n 2, 1) := by decide +kernel
theorem dX8_mayMeet_34 : decode cX8_mayMeet 34 = .ok (.ishr, 1) := by decide +kernel
theorem dX8_mayMeet_35 : decode cX8_mayMeet 35 = .ok (.iconst 1, 1) := by decide +kernel
theorem dX8_mayMeet_36 : decode cX8_mayMeet 36 = .ok (.iand, 1) := by decide +kernel
theorem dX8_mayMeet_37 : decode cX8_mayMeet 37 = .ok (.ifCond .ne 7, 3) := by decide +kernel
theorem dX8_mayMeet_40 : decode cX8_mayMeet 40 = .ok (.iconst 1, 1) := by decide +kernel
theorem dX8_mayMeet_41 : decode cX8_mayMeet 41 = .ok (.goto 4, 3) := by decide +kernel
theorem dX8_mayMeet_44 : decode cX8_mayMeet 44 = .ok (.iconst 0, 1) := by decide +kernel
theorem dX8_mayMeet_45 : decode cX8_mayMeet 45 = .ok (.ireturn, 1) := by decide +kernel
set_option maxRecDepth 20000 in
theorem ggX8_may_X8_oneOf : GoodIn wsX8_may wsX8_oneOf := goodIn_r _ [5] (by decide +kernel) (by decide +kernel)
set_option maxRecDepth 20000 in
theorem gX8_may_X8_oneOf : GoodIn wsX8_may (va_wsS RX8 66 yX8_oneOf wsX8_oneOf) := goodIn_app (goodIn_of _ (by decide +kernel)) ggX8_may_X8_oneOf
set_option maxRecDepth 20000 in
theorem ggX8_may_X8_otherOf : GoodIn wsX8_may wsX8_otherOf := goodIn_r _ [8] (by decide +kernel) (by decide +kernel)
set_option maxRecDepth 20000 in
theorem gX8_may_X8_otherOf : GoodIn wsX8_may (va_wsS RX8 63 yX8_otherOf wsX8_otherOf) := goodIn_app (goodIn_of _ (by decide +kernel)) ggX8_may_X8_otherOf
set_option maxRecDepth 20000 in
theorem ggX8_may_X8_at : GoodIn wsX8_may wsX8_at := goodIn_r _ [11] (by decide +kernel) (by decide +kernel)
set_option maxRecDepth 20000 in
theorem gX8_may_X8_at : GoodIn wsX8_may (va_wsS RX8 46 yX8_at wsX8_at) := goodIn_app (goodIn_of _ (by decide +kernel)) ggX8_may_X8_at
set_option maxRecDepth 20000 in
theorem ggX8_may_X8_mayMeet : GoodIn wsX8_may wsX8_mayMeet := goodIn_r _ [15, 1, 16, 17, 18, 19, 20, 21, 22, 23, 24, 25, 26] (by decide +kernel) (by decide +kernel)
set_option maxRecDepth 20000 in
theorem gX8_may_X8_mayMeet : GoodIn wsX8_may (wsV RX8 69 RX8 yX8_mayMeet wsX8_mayMeet) := goodIn_app (goodIn_of _ (by decide +kernel)) ggX8_may_X8_mayMeet
theorem dX8_may_0 : decode cX8_may 0 = .ok (.iload_n 1, 1) := by decide +kernel
theorem dX8_may_1 : decode cX8_may 1 = .ok (.invokestatic 66, 3) := by decide +kernel
theorem dX8_may_4 : decode cX8_may 4 = .ok (.istore_n 3, 1) := by decide +kernel
theorem dX8_may_5 : decode cX8_may 5 = .ok (.iload_n 1, 1) := by decide +kernel
theorem dX8_may_6 : decode cX8_may 6 = .ok (.invokestatic 63, 3) := by decide +kernel
theorem dX8_may_9 : decode cX8_may 9 = .ok (.istore 4, 2) := by decide +kernel
theorem dX8_may_11 : decode cX8_may 11 = .ok (.aload_n 0, 1) := by decide +kernel
theorem dX8_may_12 : decode cX8_may 12 = .ok (.getfield 7, 3) := by decide +kernel
theorem dX8_may_15 : decode cX8_may 15 = .ok (.bipush 20, 2) := by decide +kernel
theorem dX8_may_17 : decode cX8_may 17 = .ok (.iconst 2, 1) := by decide +kernel
theorem dX8_may_18 : decode cX8_may 18 = .ok (.iload_n 3, 1) := by decide +kernel
theorem dX8_may_19 : decode cX8_may 19 = .ok (.imul, 1) := by decide +kernel
theorem dX8_may_20 : decode cX8_may 20 = .ok (.iadd, 1) := by decide +kernel
theorem dX8_may_21 : decode cX8_may 21 = .ok (.iconst 1, 1) := by decide +kernel
theorem dX8_may_22 : decode cX8_may 22 = .ok (.iadd, 1) := by decide +kernel
theorem dX8_may_23 : decode cX8_may 23 = .ok (.iaload, 1) := by decide +kernel
theorem dX8_may_24 : decode cX8_may 24 = .ok (.aload_n 0, 1) := by decide +kernel
theorem dX8_may_25 : decode cX8_may 25 = .ok (.getfield 7, 3) := by decide +kernel
theorem dX8_may_28 : decode cX8_may 28 = .ok (.bipush 20, 2) := by decide +kernel
theorem dX8_may_30 : decode cX8_may 30 = .ok (.iconst 2, 1) := by decide +kernel
theorem dX8_may_31 : decode cX8_may 31 = .ok (.iload 4, 2) := by decide +kernel
theorem dX8_may_33 : decode cX8_may 33 = .ok (.imul, 1) := by decide +kernel
theorem dX8_may_34 : decode cX8_may 34 = .ok (.iadd, 1) := by decide +kernel
theorem dX8_may_35 : decode cX8_may 35 = .ok (.iconst 1, 1) := by decide +kernel
theorem dX8_may_36 : decode cX8_may 36 = .ok (.iadd, 1) := by decide +kernel
theorem dX8_may_37 : decode cX8_may 37 = .ok (.iaload, 1) := by decide +kernel
theorem dX8_may_38 : decode cX8_may 38 = .ok (.ior, 1) := by decide +kernel
theorem dX8_may_39 : decode cX8_may 39 = .ok (.istore 5, 2) := by decide +kernel
theorem dX8_may_41 : decode cX8_may 41 = .ok (.iconst 1, 1) := by decide +kernel
theorem dX8_may_42 : decode cX8_may 42 = .ok (.istore 6, 2) := by decide +kernel
theorem dX8_may_44 : decode cX8_may 44 = .ok (.iconst 0, 1) := by decide +kernel
theorem dX8_may_45 : decode cX8_may 45 = .ok (.istore 7, 2) := by decide +kernel
theorem dX8_may_47 : decode cX8_may 47 = .ok (.iload 7, 2) := by decide +kernel
theorem dX8_may_49 : decode cX8_may 49 = .ok (.iconst 2, 1) := by decide +kernel
theorem dX8_may_50 : decode cX8_may 50 = .ok (.if_icmp .ge 77, 3) := by decide +kernel
theorem dX8_may_53 : decode cX8_may 53 = .ok (.aload_n 0, 1) := by decide +kernel
theorem dX8_may_54 : decode cX8_may 54 = .ok (.getfield 7, 3) := by decide +kernel
theorem dX8_may_57 : decode cX8_may 57 = .ok (.iload_n 2, 1) := by decide +kernel
theorem dX8_may_58 : decode cX8_may 58 = .ok (.iload 7, 2) := by decide +kernel
theorem dX8_may_60 : decode cX8_may 60 = .ok (.invokestatic 46, 3) := by decide +kernel
theorem dX8_may_63 : decode cX8_may 63 = .ok (.iaload, 1) := by decide +kernel
theorem dX8_may_64 : decode cX8_may 64 = .ok (.istore 8, 2) := by decide +kernel
theorem dX8_may_66 : decode cX8_may 66 = .ok (.iload 6, 2) := by decide +kernel
theorem dX8_may_68 : decode cX8_may 68 = .ok (.ifCond .eq 50, 3) := by decide +kernel
theorem dX8_may_71 : decode cX8_may 71 = .ok (.iload 5, 2) := by decide +kernel
theorem dX8_may_73 : decode cX8_may 73 = .ok (.aload_n 0, 1) := by decide +kernel
theorem dX8_may_74 : decode cX8_may 74 = .ok (.getfield 7, 3) := by decide +kernel
theorem dX8_may_77 : decode cX8_may 77 = .ok (.iconst 4, 1) := by decide +kernel
theorem dX8_may_78 : decode cX8_may 78 = .ok (.iconst 2, 1) := by decide +kernel
theorem dX8_may_79 : decode cX8_may 79 = .ok (.iload 8, 2) := by decide +kernel
theorem dX8_may_81 : decode cX8_may 81 = .ok (.imul, 1) := by decide +kernel
theorem dX8_may_82 : decode cX8_may 82 = .ok (.iadd, 1) := by decide +kernel
theorem dX8_may_83 : decode cX8_may 83 = .ok (.iconst 1, 1) := by decide +kernel
theorem dX8_may_84 : decode cX8_may 84 = .ok (.iadd, 1) := by decide +kernel
theorem dX8_may_85 : decode cX8_may 85 = .ok (.iaload, 1) := by decide +kernel
theorem dX8_may_86 : decode cX8_may 86 = .ok (.ishr, 1) := by decide +kernel
theorem dX8_may_87 : decode cX8_may 87 = .ok (.iconst 1, 1) := by decide +kernel
theorem dX8_may_88 : decode cX8_may 88 = .ok (.iand, 1) := by decide +kernel
theorem dX8_may_89 : decode cX8_may 89 = .ok (.iconst 1, 1) := by decide +kernel
theorem dX8_may_90 : decode cX8_may 90 = .ok (.if_icmp .ne 28, 3) := by decide +kernel
theorem dX8_may_93 : decode cX8_may 93 = .ok (.aload_n 0, 1) := by decide +kernel
theorem dX8_may_94 : decode cX8_may 94 = .ok (.iload_n 3, 1) := by decide +kernel
theorem dX8_may_95 : decode cX8_may 95 = .ok (.iload 8, 2) := by decide +kernel
theorem dX8_may_97 : decode cX8_may 97 = .ok (.invokevirtual 69, 3) := by decide +kernel
theorem dX8_may_100 : decode cX8_may 100 = .ok (.ifCond .eq 18, 3) := by decide +kernel
theorem dX8_may_103 : decode cX8_may 103 = .ok (.aload_n 0, 1) := by decide +kernel
theorem dX8_may_104 : decode cX8_may 104 = .ok (.iload 4, 2) := by decide +kernel
theorem dX8_may_106 : decode cX8_may 106 = .ok (.iload 8, 2) := by decide +kernel
theorem dX8_may_108 : decode cX8_may 108 = .ok (.invokevirtual 69, 3) := by decide +kernel
theorem dX8_may_111 : decode cX8_may 111 = .ok (.ifCond .eq 7, 3) := by decide +kernel
theorem dX8_may_114 : decode cX8_may 114 = .ok (.iconst 1, 1) := by decide +kernel
theorem dX8_may_115 : decode cX8_may 115 = .ok (.goto 4, 3) := by decide +kernel
theorem dX8_may_118 : decode cX8_may 118 = .ok (.iconst 0, 1) := by decide +kernel
theorem dX8_may_119 : decode cX8_may 119 = .ok (.istore 6, 2) := by decide +kernel
theorem dX8_may_121 : decode cX8_may 121 = .ok (.iinc 7 1, 3) := by decide +kernel
theorem dX8_may_124 : decode cX8_may 124 = .ok (.goto (-77), 3) := by decide +kernel
theorem dX8_may_127 : decode cX8_may 127 = .ok (.iload 6, 2) := by decide +kernel
theorem dX8_may_129 : decode cX8_may 129 = .ok (.ireturn, 1) := by decide +kernel
set_option maxRecDepth 20000 in
theorem ggX8_maySit_X8_isPair : GoodIn wsX8_maySit wsX8_isPair := goodIn_r _ [5, 6, 7, 4, 8, 9, 10, 11, 12, 13, 14, 15, 16, 35, 36, 37, 38, 39, 40, 41, 42, 43, 44, 45] (by decide +kernel) (by decide +kernel)
set_option maxRecDepth 20000 in
theorem gX8_maySit_X8_isPair : GoodIn wsX8_maySit (wsV RX8 73 RX8 yX8_isPair wsX8_isPair) := goodIn_app (goodIn_of _ (by decide +kernel)) ggX8_maySit_X8_isPair
set_option maxRecDepth 20000 in
theorem ggX8_maySit_X8_isCase : GoodIn wsX8_maySit wsX8_isCase := goodIn_r _ [20, 16, 6, 7, 4, 8, 35, 36, 37, 38, 39, 40, 41, 42, 43, 44, 45] (by decide +kernel) (by decide +kernel)
set_option maxRecDepth 20000 in
theorem gX8_maySit_X8_isCase : GoodIn wsX8_maySit (wsV RX8 50 RX8 yX8_isCase wsX8_isCase) := goodIn_app (goodIn_of _ (by decide +kernel)) ggX8_maySit_X8_isCase
set_option maxRecDepth 20000 in
theorem ggX8_maySit_X8_may : GoodIn wsX8_maySit wsX8_may := goodIn_r _ [24, 16, 25, 26, 4, 27, 9, 10, 11, 28, 29, 30, 31, 32, 33, 34, 35, 36, 37, 38, 39, 40, 41, 42, 43, 44, 45] (by decide +kernel) (by decide +kernel)
set_option maxRecDepth 20000 in
theorem gX8_maySit_X8_may : GoodIn wsX8_maySit (wsV RX8 76 RX8 yX8_may wsX8_may) := goodIn_app (goodIn_of _ (by decide +kernel)) ggX8_maySit_X8_may
theorem dX8_maySit_0 : decode cX8_maySit 0 = .ok (.aload_n 0, 1) := by decide +kernel
theorem dX8_maySit_1 : decode cX8_maySit 1 = .ok (.iload_n 1, 1) := by decide +kernel
theorem dX8_maySit_2 : decode cX8_maySit 2 = .ok (.invokevirtual 73, 3) := by decide +kernel
theorem dX8_maySit_5 : decode cX8_maySit 5 = .ok (.ifCond .eq 11, 3) := by decide +kernel
theorem dX8_maySit_8 : decode cX8_maySit 8 = .ok (.aload_n 0, 1) := by decide +kernel
theorem dX8_maySit_9 : decode cX8_maySit 9 = .ok (.iload_n 2, 1) := by decide +kernel
theorem dX8_maySit_10 : decode cX8_maySit 10 = .ok (.invokevirtual 50, 3) := by decide +kernel
theorem dX8_maySit_13 : decode cX8_maySit 13 = .ok (.ifCond .ne 5, 3) := by decide +kernel
theorem dX8_maySit_16 : decode cX8_maySit 16 = .ok (.iconst (-1), 1) := by decide +kernel
theorem dX8_maySit_17 : decode cX8_maySit 17 = .ok (.ireturn, 1) := by decide +kernel
theorem dX8_maySit_18 : decode cX8_maySit 18 = .ok (.aload_n 0, 1) := by decide +kernel
theorem dX8_maySit_19 : decode cX8_maySit 19 = .ok (.iload_n 1, 1) := by decide +kernel
theorem dX8_maySit_20 : decode cX8_maySit 20 = .ok (.iload_n 2, 1) := by decide +kernel
theorem dX8_maySit_21 : decode cX8_maySit 21 = .ok (.invokevirtual 76, 3) := by decide +kernel
theorem dX8_maySit_24 : decode cX8_maySit 24 = .ok (.ifCond .eq 7, 3) := by decide +kernel
theorem dX8_maySit_27 : decode cX8_maySit 27 = .ok (.iconst 1, 1) := by decide +kernel
theorem dX8_maySit_28 : decode cX8_maySit 28 = .ok (.goto 4, 3) := by decide +kernel
theorem dX8_maySit_31 : decode cX8_maySit 31 = .ok (.iconst 0, 1) := by decide +kernel
theorem dX8_maySit_32 : decode cX8_maySit 32 = .ok (.ireturn, 1) := by decide +kernel
set_option maxRecDepth 20000 in
theorem ggX8_rooms_X8_in : GoodIn wsX8_rooms wsX8_in := goodIn_r _ [5] (by decide +kernel) (by decide +kernel)
set_option maxRecDepth 20000 in
theorem gX8_rooms_X8_in : GoodIn wsX8_rooms (va_wsS RX8 35 yX8_in wsX8_in) := goodIn_app (goodIn_of _ (by decide +kernel)) ggX8_rooms_X8_in
theorem dX8_rooms_0 : decode cX8_rooms 0 = .ok (.iload_n 1, 1) := by decide +kernel
theorem dX8_rooms_1 : decode cX8_rooms 1 = .ok (.iconst 1, 1) := by decide +kernel
theorem dX8_rooms_2 : decode cX8_rooms 2 = .ok (.iconst 2, 1) := by decide +kernel
theorem dX8_rooms_3 : decode cX8_rooms 3 = .ok (.invokestatic 35, 3) := by decide +kernel
theorem dX8_rooms_6 : decode cX8_rooms 6 = .ok (.ifCond .ne 5, 3) := by decide +kernel
theorem dX8_rooms_9 : decode cX8_rooms 9 = .ok (.iconst (-1), 1) := by decide +kernel
theorem dX8_rooms_10 : decode cX8_rooms 10 = .ok (.ireturn, 1) := by decide +kernel
theorem dX8_rooms_11 : decode cX8_rooms 11 = .ok (.aload_n 0, 1) := by decide +kernel
theorem dX8_rooms_12 : decode cX8_rooms 12 = .ok (.getfield 16, 3) := by decide +kernel
theorem dX8_rooms_15 : decode cX8_rooms 15 = .ok (.istore_n 2, 1) := by decide +kernel
theorem dX8_rooms_16 : decode cX8_rooms 16 = .ok (.aload_n 0, 1) := by decide +kernel
theorem dX8_rooms_17 : decode cX8_rooms 17 = .ok (.iload_n 1, 1) := by decide +kernel
theorem dX8_rooms_18 : decode cX8_rooms 18 = .ok (.putfield 16, 3) := by decide +kernel
theorem dX8_rooms_21 : decode cX8_rooms 21 = .ok (.iload_n 2, 1) := by decide +kernel
theorem dX8_rooms_22 : decode cX8_rooms 22 = .ok (.ireturn, 1) := by decide +kernel
set_option maxRecDepth 20000 in
theorem ggX8_fits_X8_isPair : GoodIn wsX8_fits wsX8_isPair := goodIn_r _ [8, 9, 10, 7, 11, 12, 13, 14, 15, 16, 17, 18, 19, 34, 35, 36, 37, 38, 39, 40, 41, 42, 43, 44] (by decide +kernel) (by decide +kernel)
set_option maxRecDepth 20000 in
theorem gX8_fits_X8_isPair : GoodIn wsX8_fits (wsV RX8 73 RX8 yX8_isPair wsX8_isPair) := goodIn_app (goodIn_of _ (by decide +kernel)) ggX8_fits_X8_isPair
set_option maxRecDepth 20000 in
theorem ggX8_fits_X8_may : GoodIn wsX8_fits wsX8_may := goodIn_r _ [23, 19, 24, 25, 7, 26, 12, 13, 14, 27, 28, 29, 30, 31, 32, 33, 34, 35, 36, 37, 38, 39, 40, 41, 42, 43, 44] (by decide +kernel) (by decide +kernel)
set_option maxRecDepth 20000 in
theorem gX8_fits_X8_may : GoodIn wsX8_fits (wsV RX8 76 RX8 yX8_may wsX8_may) := goodIn_app (goodIn_of _ (by decide +kernel)) ggX8_fits_X8_may
set_option maxRecDepth 20000 in
theorem ggX8_fits_X8_oneOf : GoodIn wsX8_fits wsX8_oneOf := goodIn_r _ [26] (by decide +kernel) (by decide +kernel)
set_option maxRecDepth 20000 in
theorem gX8_fits_X8_oneOf : GoodIn wsX8_fits (va_wsS RX8 66 yX8_oneOf wsX8_oneOf) := goodIn_app (goodIn_of _ (by decide +kernel)) ggX8_fits_X8_oneOf
set_option maxRecDepth 20000 in
theorem ggX8_fits_X8_otherOf : GoodIn wsX8_fits wsX8_otherOf := goodIn_r _ [14] (by decide +kernel) (by decide +kernel)
set_option maxRecDepth 20000 in
theorem gX8_fits_X8_otherOf : GoodIn wsX8_fits (va_wsS RX8 63 yX8_otherOf wsX8_otherOf) := goodIn_app (goodIn_of _ (by decide +kernel)) ggX8_fits_X8_otherOf
theorem dX8_fits_0 : decode cX8_fits 0 = .ok (.aload_n 0, 1) := by decide +kernel
theorem dX8_fits_1 : decode cX8_fits 1 = .ok (.getfield 26, 3) := by decide +kernel
theorem dX8_fits_4 : decode cX8_fits 4 = .ok (.iload_n 1, 1) := by decide +kernel
theorem dX8_fits_5 : decode cX8_fits 5 = .ok (.iaload, 1) := by decide +kernel
theorem dX8_fits_6 : decode cX8_fits 6 = .ok (.istore_n 2, 1) := by decide +kernel
theorem dX8_fits_7 : decode cX8_fits 7 = .ok (.iload_n 2, 1) := by decide +kernel
theorem dX8_fits_8 : decode cX8_fits 8 = .ok (.bipush 18, 2) := by decide +kernel
theorem dX8_fits_10 : decode cX8_fits 10 = .ok (.if_icmp .ne 5, 3) := by decide +kernel
theorem dX8_fits_13 : decode cX8_fits 13 = .ok (.iconst 1, 1) := by decide +kernel
theorem dX8_fits_14 : decode cX8_fits 14 = .ok (.ireturn, 1) := by decide +kernel
theorem dX8_fits_15 : decode cX8_fits 15 = .ok (.iload_n 2, 1) := by decide +kernel
theorem dX8_fits_16 : decode cX8_fits 16 = .ok (.bipush 6, 2) := by decide +kernel
theorem dX8_fits_18 : decode cX8_fits 18 = .ok (.irem, 1) := by decide +kernel
theorem dX8_fits_19 : decode cX8_fits 19 = .ok (.istore_n 3, 1) := by decide +kernel
theorem dX8_fits_20 : decode cX8_fits 20 = .ok (.aload_n 0, 1) := by decide +kernel
theorem dX8_fits_21 : decode cX8_fits 21 = .ok (.iload_n 3, 1) := by decide +kernel
theorem dX8_fits_22 : decode cX8_fits 22 = .ok (.invokevirtual 73, 3) := by decide +kernel
theorem dX8_fits_25 : decode cX8_fits 25 = .ok (.ifCond .eq 17, 3) := by decide +kernel
theorem dX8_fits_28 : decode cX8_fits 28 = .ok (.aload_n 0, 1) := by decide +kernel
theorem dX8_fits_29 : decode cX8_fits 29 = .ok (.iload_n 3, 1) := by decide +kernel
theorem dX8_fits_30 : decode cX8_fits 30 = .ok (.aload_n 0, 1) := by decide +kernel
theorem dX8_fits_31 : decode cX8_fits 31 = .ok (.getfield 23, 3) := by decide +kernel
theorem dX8_fits_34 : decode cX8_fits 34 = .ok (.iload_n 1, 1) := by decide +kernel
theorem dX8_fits_35 : decode cX8_fits 35 = .ok (.iaload, 1) := by decide +kernel
theorem dX8_fits_36 : decode cX8_fits 36 = .ok (.invokevirtual 76, 3) := by decide +kernel
theorem dX8_fits_39 : decode cX8_fits 39 = .ok (.ifCond .ne 5, 3) := by decide +kernel
theorem dX8_fits_42 : decode cX8_fits 42 = .ok (.iconst 0, 1) := by decide +kernel
theorem dX8_fits_43 : decode cX8_fits 43 = .ok (.ireturn, 1) := by decide +kernel
theorem dX8_fits_44 : decode cX8_fits 44 = .ok (.iconst 0, 1) := by decide +kernel
theorem dX8_fits_45 : decode cX8_fits 45 = .ok (.istore 4, 2) := by decide +kernel
theorem dX8_fits_47 : decode cX8_fits 47 = .ok (.iconst 0, 1) := by decide +kernel
theorem dX8_fits_48 : decode cX8_fits 48 = .ok (.istore 5, 2) := by decide +kernel
theorem dX8_fits_50 : decode cX8_fits 50 = .ok (.iload 5, 2) := by decide +kernel
theorem dX8_fits_52 : decode cX8_fits 52 = .ok (.iload_n 1, 1) := by decide +kernel
theorem dX8_fits_53 : decode cX8_fits 53 = .ok (.if_icmp .ge 118, 3) := by decide +kernel
theorem dX8_fits_56 : decode cX8_fits 56 = .ok (.aload_n 0, 1) := by decide +kernel
theorem dX8_fits_57 : decode cX8_fits 57 = .ok (.getfield 26, 3) := by decide +kernel
theorem dX8_fits_60 : decode cX8_fits 60 = .ok (.iload 5, 2) := by decide +kernel
theorem dX8_fits_62 : decode cX8_fits 62 = .ok (.iaload, 1) := by decide +kernel
theorem dX8_fits_63 : decode cX8_fits 63 = .ok (.bipush 18, 2) := by decide +kernel
theorem dX8_fits_65 : decode cX8_fits 65 = .ok (.if_icmp .eq 100, 3) := by decide +kernel
theorem dX8_fits_68 : decode cX8_fits 68 = .ok (.aload_n 0, 1) := by decide +kernel
theorem dX8_fits_69 : decode cX8_fits 69 = .ok (.getfield 26, 3) := by decide +kernel
theorem dX8_fits_72 : decode cX8_fits 72 = .ok (.iload 5, 2) := by decide +kernel
theorem dX8_fits_74 : decode cX8_fits 74 = .ok (.iaload, 1) := by decide +kernel
theorem dX8_fits_75 : decode cX8_fits 75 = .ok (.bipush 6, 2) := by decide +kernel
theorem dX8_fits_77 : decode cX8_fits 77 = .ok (.idiv, 1) := by decide +kernel
theorem dX8_fits_78 : decode cX8_fits 78 = .ok (.iload_n 2, 1) := by decide +kernel
theorem dX8_fits_79 : decode cX8_fits 79 = .ok (.bipush 6, 2) := by decide +kernel
theorem dX8_fits_81 : decode cX8_fits 81 = .ok (.idiv, 1) := by decide +kernel
theorem dX8_fits_82 : decode cX8_fits 82 = .ok (.if_icmp .eq 6, 3) := by decide +kernel
theorem dX8_fits_85 : decode cX8_fits 85 = .ok (.goto 80, 3) := by decide +kernel
theorem dX8_fits_88 : decode cX8_fits 88 = .ok (.aload_n 0, 1) := by decide +kernel
theorem dX8_fits_89 : decode cX8_fits 89 = .ok (.getfield 26, 3) := by decide +kernel
theorem dX8_fits_92 : decode cX8_fits 92 = .ok (.iload 5, 2) := by decide +kernel
theorem dX8_fits_94 : decode cX8_fits 94 = .ok (.iaload, 1) := by decide +kernel
theorem dX8_fits_95 : decode cX8_fits 95 = .ok (.bipush 6, 2) := by decide +kernel
theorem dX8_fits_97 : decode cX8_fits 97 = .ok (.irem, 1) := by decide +kernel
theorem dX8_fits_98 : decode cX8_fits 98 = .ok (.istore 6, 2) := by decide +kernel
theorem dX8_fits_100 : decode cX8_fits 100 = .ok (.iload 6, 2) := by decide +kernel
theorem dX8_fits_102 : decode cX8_fits 102 = .ok (.invokestatic 66, 3) := by decide +kernel
theorem dX8_fits_105 : decode cX8_fits 105 = .ok (.iload_n 3, 1) := by decide +kernel
theorem dX8_fits_106 : decode cX8_fits 106 = .ok (.invokestatic 66, 3) := by decide +kernel
theorem dX8_fits_109 : decode cX8_fits 109 = .ok (.if_icmp .eq 39, 3) := by decide +kernel
theorem dX8_fits_112 : decode cX8_fits 112 = .ok (.iload 6, 2) := by decide +kernel
theorem dX8_fits_114 : decode cX8_fits 114 = .ok (.invokestatic 66, 3) := by decide +kernel
theorem dX8_fits_117 : decode cX8_fits 117 = .ok (.iload_n 3, 1) := by decide +kernel
theorem dX8_fits_118 : decode cX8_fits 118 = .ok (.invokestatic 63, 3) := by decide +kernel
theorem dX8_fits_121 : decode cX8_fits 121 = .ok (.if_icmp .eq 27, 3) := by decide +kernel
theorem dX8_fits_124 : decode cX8_fits 124 = .ok (.iload 6, 2) := by decide +kernel
theorem dX8_fits_126 : decode cX8_fits 126 = .ok (.invokestatic 63, 3) := by decide +kernel
theorem dX8_fits_129 : decode cX8_fits 129 = .ok (.iload_n 3, 1) := by decide +kernel
theorem dX8_fits_130 : decode cX8_fits 130 = .ok (.invokestatic 66, 3) := by decide +kernel
theorem dX8_fits_133 : decode cX8_fits 133 = .ok (.if_icmp .eq 15, 3) := by decide +kernel
theorem dX8_fits_136 : decode cX8_fits 136 = .ok (.iload 6, 2) := by decide +kernel
theorem dX8_fits_138 : decode cX8_fits 138 = .ok (.invokestatic 63, 3) := by decide +kernel
theorem dX8_fits_141 : decode cX8_fits 141 = .ok (.iload_n 3, 1) := by decide +kernel
theorem dX8_fits_142 : decode cX8_fits 142 = .ok (.invokestatic 63, 3) := by decide +kernel
theorem dX8_fits_145 : decode cX8_fits 145 = .ok (.if_icmp .ne 7, 3) := by decide +kernel
theorem dX8_fits_148 : decode cX8_fits 148 = .ok (.iconst 1, 1) := by decide +kernel
theorem dX8_fits_149 : decode cX8_fits 149 = .ok (.goto 4, 3) := by decide +kernel
theorem dX8_fits_152 : decode cX8_fits 152 = .ok (.iconst 0, 1) := by decide +kernel
theorem dX8_fits_153 : decode cX8_fits 153 = .ok (.istore 7, 2) := by decide +kernel
theorem dX8_fits_155 : decode cX8_fits 155 = .ok (.iload 7, 2) := by decide +kernel
theorem dX8_fits_157 : decode cX8_fits 157 = .ok (.ifCond .eq 5, 3) := by decide +kernel
theorem dX8_fits_160 : decode cX8_fits 160 = .ok (.iconst 0, 1) := by decide +kernel
theorem dX8_fits_161 : decode cX8_fits 161 = .ok (.ireturn, 1) := by decide +kernel
theorem dX8_fits_162 : decode cX8_fits 162 = .ok (.iinc 4 1, 3) := by decide +kernel
theorem dX8_fits_165 : decode cX8_fits 165 = .ok (.iinc 5 1, 3) := by decide +kernel
theorem dX8_fits_168 : decode cX8_fits 168 = .ok (.goto (-118), 3) := by decide +kernel
theorem dX8_fits_171 : decode cX8_fits 171 = .ok (.iload 4, 2) := by decide +kernel
theorem dX8_fits_173 : decode cX8_fits 173 = .ok (.aload_n 0, 1) := by decide +kernel
theorem dX8_fits_174 : decode cX8_fits 174 = .ok (.getfield 16, 3) := by decide +kernel
theorem dX8_fits_177 : decode cX8_fits 177 = .ok (.if_icmp .ge 7, 3) := by decide +kernel
theorem dX8_fits_180 : decode cX8_fits 180 = .ok (.iconst 1, 1) := by decide +kernel
theorem dX8_fits_181 : decode cX8_fits 181 = .ok (.goto 4, 3) := by decide +kernel
theorem dX8_fits_184 : decode cX8_fits 184 = .ok (.iconst 0, 1) := by decide +kernel
theorem dX8_fits_185 : decode cX8_fits 185 = .ok (.ireturn, 1) := by decide +kernel
set_option maxRecDepth 20000 in
theorem ggX8_waitsOf_X8_at : GoodIn wsX8_waitsOf wsX8_at := goodIn_r _ [7] (by decide +kernel) (by decide +kernel)
set_option maxRecDepth 20000 in
theorem gX8_waitsOf_X8_at : GoodIn wsX8_waitsOf (va_wsS RX8 46 yX8_at wsX8_at) := goodIn_app (goodIn_of _ (by decide +kernel)) ggX8_waitsOf_X8_at
theorem dX8_waitsOf_0 : decode cX8_waitsOf 0 = .ok (.iconst 0, 1) := by decide +kernel
theorem dX8_waitsOf_1 : decode cX8_waitsOf 1 = .ok (.istore_n 2, 1) := by decide +kernel
theorem dX8_waitsOf_2 : decode cX8_waitsOf 2 = .ok (.iconst 0, 1) := by decide +kernel
theorem dX8_waitsOf_3 : decode cX8_waitsOf 3 = .ok (.istore_n 3, 1) := by decide +kernel
theorem dX8_waitsOf_4 : decode cX8_waitsOf 4 = .ok (.iload_n 3, 1) := by decide +kernel
theorem dX8_waitsOf_5 : decode cX8_waitsOf 5 = .ok (.iload_n 1, 1) := by decide +kernel
theorem dX8_waitsOf_6 : decode cX8_waitsOf 6 = .ok (.if_icmp .gt 52, 3) := by decide +kernel
theorem dX8_waitsOf_9 : decode cX8_waitsOf 9 = .ok (.iload_n 2, 1) := by decide +kernel
theorem dX8_waitsOf_10 : decode cX8_waitsOf 10 = .ok (.aload_n 0, 1) := by decide +kernel
theorem dX8_waitsOf_11 : decode cX8_waitsOf 11 = .ok (.getfield 7, 3) := by decide +kernel
theorem dX8_waitsOf_14 : decode cX8_waitsOf 14 = .ok (.aload_n 0, 1) := by decide +kernel
theorem dX8_waitsOf_15 : decode cX8_waitsOf 15 = .ok (.getfield 23, 3) := by decide +kernel
theorem dX8_waitsOf_18 : decode cX8_waitsOf 18 = .ok (.iload_n 3, 1) := by decide +kernel
theorem dX8_waitsOf_19 : decode cX8_waitsOf 19 = .ok (.iaload, 1) := by decide +kernel
theorem dX8_waitsOf_20 : decode cX8_waitsOf 20 = .ok (.iconst 5, 1) := by decide +kernel
theorem dX8_waitsOf_21 : decode cX8_waitsOf 21 = .ok (.invokestatic 46, 3) := by decide +kernel
theorem dX8_waitsOf_24 : decode cX8_waitsOf 24 = .ok (.iaload, 1) := by decide +kernel
theorem dX8_waitsOf_25 : decode cX8_waitsOf 25 = .ok (.aload_n 0, 1) := by decide +kernel
theorem dX8_waitsOf_26 : decode cX8_waitsOf 26 = .ok (.getfield 26, 3) := by decide +kernel
theorem dX8_waitsOf_29 : decode cX8_waitsOf 29 = .ok (.iload_n 3, 1) := by decide +kernel
theorem dX8_waitsOf_30 : decode cX8_waitsOf 30 = .ok (.iaload, 1) := by decide +kernel
theorem dX8_waitsOf_31 : decode cX8_waitsOf 31 = .ok (.bipush 18, 2) := by decide +kernel
theorem dX8_waitsOf_33 : decode cX8_waitsOf 33 = .ok (.if_icmp .ne 7, 3) := by decide +kernel
theorem dX8_waitsOf_36 : decode cX8_waitsOf 36 = .ok (.iconst 4, 1) := by decide +kernel
theorem dX8_waitsOf_37 : decode cX8_waitsOf 37 = .ok (.goto 12, 3) := by decide +kernel
theorem dX8_waitsOf_40 : decode cX8_waitsOf 40 = .ok (.aload_n 0, 1) := by decide +kernel
theorem dX8_waitsOf_41 : decode cX8_waitsOf 41 = .ok (.getfield 26, 3) := by decide +kernel
theorem dX8_waitsOf_44 : decode cX8_waitsOf 44 = .ok (.iload_n 3, 1) := by decide +kernel
theorem dX8_waitsOf_45 : decode cX8_waitsOf 45 = .ok (.iaload, 1) := by decide +kernel
theorem dX8_waitsOf_46 : decode cX8_waitsOf 46 = .ok (.bipush 6, 2) := by decide +kernel
theorem dX8_waitsOf_48 : decode cX8_waitsOf 48 = .ok (.idiv, 1) := by decide +kernel
theorem dX8_waitsOf_49 : decode cX8_waitsOf 49 = .ok (.imul, 1) := by decide +kernel
theorem dX8_waitsOf_50 : decode cX8_waitsOf 50 = .ok (.iadd, 1) := by decide +kernel
theorem dX8_waitsOf_51 : decode cX8_waitsOf 51 = .ok (.istore_n 2, 1) := by decide +kernel
theorem dX8_waitsOf_52 : decode cX8_waitsOf 52 = .ok (.iinc 3 1, 3) := by decide +kernel
theorem dX8_waitsOf_55 : decode cX8_waitsOf 55 = .ok (.goto (-51), 3) := by decide +kernel
theorem dX8_waitsOf_58 : decode cX8_waitsOf 58 = .ok (.iload_n 2, 1) := by decide +kernel
theorem dX8_waitsOf_59 : decode cX8_waitsOf 59 = .ok (.ireturn, 1) := by decide +kernel
set_option maxRecDepth 20000 in
theorem ggX8_note_X8_waitsOf : GoodIn wsX8_note wsX8_waitsOf := goodIn_r _ [9, 10, 11, 4, 12, 13, 8, 14, 15, 16, 17, 18, 19, 20, 21, 22, 23, 24, 25] (by decide +kernel) (by decide +kernel)
set_option maxRecDepth 20000 in
theorem gX8_note_X8_waitsOf : GoodIn wsX8_note (wsV RX8 82 RX8 yX8_waitsOf wsX8_waitsOf) := goodIn_app (goodIn_of _ (by decide +kernel)) ggX8_note_X8_waitsOf
theorem dX8_note_0 : decode cX8_note 0 = .ok (.aload_n 0, 1) := by decide +kernel
theorem dX8_note_1 : decode cX8_note 1 = .ok (.aload_n 0, 1) := by decide +kernel
theorem dX8_note_2 : decode cX8_note 2 = .ok (.getfield 79, 3) := by decide +kernel
theorem dX8_note_5 : decode cX8_note 5 = .ok (.iconst 1, 1) := by decide +kernel
theorem dX8_note_6 : decode cX8_note 6 = .ok (.isub, 1) := by decide +kernel
theorem dX8_note_7 : decode cX8_note 7 = .ok (.invokevirtual 82, 3) := by decide +kernel
theorem dX8_note_10 : decode cX8_note 10 = .ok (.istore_n 1, 1) := by decide +kernel
theorem dX8_note_11 : decode cX8_note 11 = .ok (.iload_n 1, 1) := by decide +kernel
theorem dX8_note_12 : decode cX8_note 12 = .ok (.aload_n 0, 1) := by decide +kernel
theorem dX8_note_13 : decode cX8_note 13 = .ok (.getfield 85, 3) := by decide +kernel
theorem dX8_note_16 : decode cX8_note 16 = .ok (.if_icmp .ge 36, 3) := by decide +kernel
theorem dX8_note_19 : decode cX8_note 19 = .ok (.aload_n 0, 1) := by decide +kernel
theorem dX8_note_20 : decode cX8_note 20 = .ok (.iload_n 1, 1) := by decide +kernel
theorem dX8_note_21 : decode cX8_note 21 = .ok (.putfield 85, 3) := by decide +kernel
theorem dX8_note_24 : decode cX8_note 24 = .ok (.iconst 0, 1) := by decide +kernel
theorem dX8_note_25 : decode cX8_note 25 = .ok (.istore_n 2, 1) := by decide +kernel
theorem dX8_note_26 : decode cX8_note 26 = .ok (.iload_n 2, 1) := by decide +kernel
theorem dX8_note_27 : decode cX8_note 27 = .ok (.aload_n 0, 1) := by decide +kernel
theorem dX8_note_28 : decode cX8_note 28 = .ok (.getfield 79, 3) := by decide +kernel
theorem dX8_note_31 : decode cX8_note 31 = .ok (.if_icmp .ge 21, 3) := by decide +kernel
theorem dX8_note_34 : decode cX8_note 34 = .ok (.aload_n 0, 1) := by decide +kernel
theorem dX8_note_35 : decode cX8_note 35 = .ok (.getfield 29, 3) := by decide +kernel
theorem dX8_note_38 : decode cX8_note 38 = .ok (.iload_n 2, 1) := by decide +kernel
theorem dX8_note_39 : decode cX8_note 39 = .ok (.aload_n 0, 1) := by decide +kernel
theorem dX8_note_40 : decode cX8_note 40 = .ok (.getfield 26, 3) := by decide +kernel
theorem dX8_note_43 : decode cX8_note 43 = .ok (.iload_n 2, 1) := by decide +kernel
theorem dX8_note_44 : decode cX8_note 44 = .ok (.iaload, 1) := by decide +kernel
theorem dX8_note_45 : decode cX8_note 45 = .ok (.iastore, 1) := by decide +kernel
theorem dX8_note_46 : decode cX8_note 46 = .ok (.iinc 2 1, 3) := by decide +kernel
theorem dX8_note_49 : decode cX8_note 49 = .ok (.goto (-23), 3) := by decide +kernel
theorem dX8_note_52 : decode cX8_note 52 = .ok (.return_, 1) := by decide +kernel
set_option maxRecDepth 20000 in
theorem ggX8_makePlan_X8_at : GoodIn wsX8_makePlan wsX8_at := goodIn_r _ [10] (by decide +kernel) (by decide +kernel)
set_option maxRecDepth 20000 in
theorem gX8_makePlan_X8_at : GoodIn wsX8_makePlan (va_wsS RX8 46 yX8_at wsX8_at) := goodIn_app (goodIn_of _ (by decide +kernel)) ggX8_makePlan_X8_at
set_option maxRecDepth 20000 in
theorem ggX8_makePlan_X8_note : GoodIn wsX8_makePlan wsX8_note := goodIn_r _ [14, 1, 5, 15, 6, 16, 17, 18, 9, 19, 2, 3, 7, 8, 10, 50, 51, 52, 53, 54, 55, 56, 57, 58, 59, 60] (by decide +kernel) (by decide +kernel)
set_option maxRecDepth 20000 in
theorem gX8_makePlan_X8_note : GoodIn wsX8_makePlan (wsV RX8 89 RX8 yX8_note wsX8_note) := goodIn_app (goodIn_of _ (by decide +kernel)) ggX8_makePlan_X8_note
set_option maxRecDepth 20000 in
theorem ggX8_makePlan_X8_fits : GoodIn wsX8_makePlan wsX8_fits := goodIn_r _ [23, 6, 3, 24, 25, 26, 27, 9, 28, 29, 30, 31, 32, 33, 34, 35, 36, 37, 38, 2, 39, 40, 41, 42, 43, 44, 45, 7, 8, 10, 46, 47, 48, 49, 50, 51, 52, 53, 54, 55, 56, 57, 58, 59, 60] (by decide +kernel) (by decide +kernel)
set_option maxRecDepth 20000 in
theorem gX8_makePlan_X8_fits : GoodIn wsX8_makePlan (wsV RX8 92 RX8 yX8_fits wsX8_fits) := goodIn_app (goodIn_of _ (by decide +kernel)) ggX8_makePlan_X8_fits
set_option maxRecDepth 20000 in
theorem ggX8_makePlan_X8_waitsOf : GoodIn wsX8_makePlan wsX8_waitsOf := goodIn_r _ [19, 2, 3, 6, 7, 8, 9, 10, 50, 51, 52, 53, 54, 55, 56, 57, 58, 59, 60] (by decide +kernel) (by decide +kernel)
set_option maxRecDepth 20000 in
theorem gX8_makePlan_X8_waitsOf : GoodIn wsX8_makePlan (wsV RX8 82 RX8 yX8_waitsOf wsX8_waitsOf) := goodIn_app (goodIn_of _ (by decide +kernel)) ggX8_makePlan_X8_waitsOf
theorem dX8_makePlan_0 : decode cX8_makePlan 0 = .ok (.aload_n 0, 1) := by decide +kernel
theorem dX8_makePlan_1 : decode cX8_makePlan 1 = .ok (.iconst 0, 1) := by decide +kernel
theorem dX8_makePlan_2 : decode cX8_makePlan 2 = .ok (.putfield 79, 3) := by decide +kernel
theorem dX8_makePlan_5 : decode cX8_makePlan 5 = .ok (.iconst 0, 1) := by decide +kernel
theorem dX8_makePlan_6 : decode cX8_makePlan 6 = .ok (.istore_n 1, 1) := by decide +kernel
theorem dX8_makePlan_7 : decode cX8_makePlan 7 = .ok (.iload_n 1, 1) := by decide +kernel
theorem dX8_makePlan_8 : decode cX8_makePlan 8 = .ok (.aload_n 0, 1) := by decide +kernel
theorem dX8_makePlan_9 : decode cX8_makePlan 9 = .ok (.getfield 7, 3) := by decide +kernel
theorem dX8_makePlan_12 : decode cX8_makePlan 12 = .ok (.iconst 2, 1) := by decide +kernel
theorem dX8_makePlan_13 : decode cX8_makePlan 13 = .ok (.iaload, 1) := by decide +kernel
theorem dX8_makePlan_14 : decode cX8_makePlan 14 = .ok (.if_icmp .ge 50, 3) := by decide +kernel
theorem dX8_makePlan_17 : decode cX8_makePlan 17 = .ok (.aload_n 0, 1) := by decide +kernel
theorem dX8_makePlan_18 : decode cX8_makePlan 18 = .ok (.getfield 7, 3) := by decide +kernel
theorem dX8_makePlan_21 : decode cX8_makePlan 21 = .ok (.iload_n 1, 1) := by decide +kernel
theorem dX8_makePlan_22 : decode cX8_makePlan 22 = .ok (.iconst 2, 1) := by decide +kernel
theorem dX8_makePlan_23 : decode cX8_makePlan 23 = .ok (.invokestatic 46, 3) := by decide +kernel
theorem dX8_makePlan_26 : decode cX8_makePlan 26 = .ok (.iaload, 1) := by decide +kernel
theorem dX8_makePlan_27 : decode cX8_makePlan 27 = .ok (.ifCond .ne 31, 3) := by decide +kernel
theorem dX8_makePlan_30 : decode cX8_makePlan 30 = .ok (.aload_n 0, 1) := by decide +kernel
theorem dX8_makePlan_31 : decode cX8_makePlan 31 = .ok (.getfield 79, 3) := by decide +kernel
theorem dX8_makePlan_34 : decode cX8_makePlan 34 = .ok (.iconst 4, 1) := by decide +kernel
theorem dX8_makePlan_35 : decode cX8_makePlan 35 = .ok (.if_icmp .ge 23, 3) := by decide +kernel
theorem dX8_makePlan_38 : decode cX8_makePlan 38 = .ok (.aload_n 0, 1) := by decide +kernel
theorem dX8_makePlan_39 : decode cX8_makePlan 39 = .ok (.getfield 23, 3) := by decide +kernel
theorem dX8_makePlan_42 : decode cX8_makePlan 42 = .ok (.aload_n 0, 1) := by decide +kernel
theorem dX8_makePlan_43 : decode cX8_makePlan 43 = .ok (.getfield 79, 3) := by decide +kernel
theorem dX8_makePlan_46 : decode cX8_makePlan 46 = .ok (.iload_n 1, 1) := by decide +kernel
theorem dX8_makePlan_47 : decode cX8_makePlan 47 = .ok (.iastore, 1) := by decide +kernel
theorem dX8_makePlan_48 : decode cX8_makePlan 48 = .ok (.aload_n 0, 1) := by decide +kernel
theorem dX8_makePlan_49 : decode cX8_makePlan 49 = .ok (.dup, 1) := by decide +kernel
theorem dX8_makePlan_50 : decode cX8_makePlan 50 = .ok (.getfield 79, 3) := by decide +kernel
theorem dX8_makePlan_53 : decode cX8_makePlan 53 = .ok (.iconst 1, 1) := by decide +kernel
theorem dX8_makePlan_54 : decode cX8_makePlan 54 = .ok (.iadd, 1) := by decide +kernel
theorem dX8_makePlan_55 : decode cX8_makePlan 55 = .ok (.putfield 79, 3) := by decide +kernel
theorem dX8_makePlan_58 : decode cX8_makePlan 58 = .ok (.iinc 1 1, 3) := by decide +kernel
theorem dX8_makePlan_61 : decode cX8_makePlan 61 = .ok (.goto (-54), 3) := by decide +kernel
theorem dX8_makePlan_64 : decode cX8_makePlan 64 = .ok (.aload_n 0, 1) := by decide +kernel
theorem dX8_makePlan_65 : decode cX8_makePlan 65 = .ok (.ldc 88, 2) := by decide +kernel
theorem dX8_makePlan_67 : decode cX8_makePlan 67 = .ok (.putfield 85, 3) := by decide +kernel
theorem dX8_makePlan_70 : decode cX8_makePlan 70 = .ok (.iconst 0, 1) := by decide +kernel
theorem dX8_makePlan_71 : decode cX8_makePlan 71 = .ok (.istore_n 1, 1) := by decide +kernel
theorem dX8_makePlan_72 : decode cX8_makePlan 72 = .ok (.aload_n 0, 1) := by decide +kernel
theorem dX8_makePlan_73 : decode cX8_makePlan 73 = .ok (.getfield 26, 3) := by decide +kernel
theorem dX8_makePlan_76 : decode cX8_makePlan 76 = .ok (.iconst 0, 1) := by decide +kernel
theorem dX8_makePlan_77 : decode cX8_makePlan 77 = .ok (.iconst 0, 1) := by decide +kernel
theorem dX8_makePlan_78 : decode cX8_makePlan 78 = .ok (.iastore, 1) := by decide +kernel
theorem dX8_makePlan_79 : decode cX8_makePlan 79 = .ok (.iload_n 1, 1) := by decide +kernel
theorem dX8_makePlan_80 : decode cX8_makePlan 80 = .ok (.ifCond .lt 131, 3) := by decide +kernel
theorem dX8_makePlan_83 : decode cX8_makePlan 83 = .ok (.iload_n 1, 1) := by decide +kernel
theorem dX8_makePlan_84 : decode cX8_makePlan 84 = .ok (.aload_n 0, 1) := by decide +kernel
theorem dX8_makePlan_85 : decode cX8_makePlan 85 = .ok (.getfield 79, 3) := by decide +kernel
theorem dX8_makePlan_88 : decode cX8_makePlan 88 = .ok (.if_icmp .ne 31, 3) := by decide +kernel
theorem dX8_makePlan_91 : decode cX8_makePlan 91 = .ok (.aload_n 0, 1) := by decide +kernel
theorem dX8_makePlan_92 : decode cX8_makePlan 92 = .ok (.invokevirtual 89, 3) := by decide +kernel
theorem dX8_makePlan_95 : decode cX8_makePlan 95 = .ok (.iinc 1 (-1), 3) := by decide +kernel
theorem dX8_makePlan_98 : decode cX8_makePlan 98 = .ok (.aload_n 0, 1) := by decide +kernel
theorem dX8_makePlan_99 : decode cX8_makePlan 99 = .ok (.getfield 26, 3) := by decide +kernel
theorem dX8_makePlan_102 : decode cX8_makePlan 102 = .ok (.iload_n 1, 1) := by decide +kernel
theorem dX8_makePlan_103 : decode cX8_makePlan 103 = .ok (.ifCond .ge 7, 3) := by decide +kernel
theorem dX8_makePlan_106 : decode cX8_makePlan 106 = .ok (.iconst 0, 1) := by decide +kernel
theorem dX8_makePlan_107 : decode cX8_makePlan 107 = .ok (.goto 4, 3) := by decide +kernel
theorem dX8_makePlan_110 : decode cX8_makePlan 110 = .ok (.iload_n 1, 1) := by decide +kernel
theorem dX8_makePlan_111 : decode cX8_makePlan 111 = .ok (.dup2, 1) := by decide +kernel
theorem dX8_makePlan_112 : decode cX8_makePlan 112 = .ok (.iaload, 1) := by decide +kernel
theorem dX8_makePlan_113 : decode cX8_makePlan 113 = .ok (.iconst 1, 1) := by decide +kernel
theorem dX8_makePlan_114 : decode cX8_makePlan 114 = .ok (.iadd, 1) := by decide +kernel
theorem dX8_makePlan_115 : decode cX8_makePlan 115 = .ok (.iastore, 1) := by decide +kernel
theorem dX8_makePlan_116 : decode cX8_makePlan 116 = .ok (.goto (-37), 3) := by decide +kernel
theorem dX8_makePlan_119 : decode cX8_makePlan 119 = .ok (.aload_n 0, 1) := by decide +kernel
theorem dX8_makePlan_120 : decode cX8_makePlan 120 = .ok (.getfield 26, 3) := by decide +kernel
theorem dX8_makePlan_123 : decode cX8_makePlan 123 = .ok (.iload_n 1, 1) := by decide +kernel
theorem dX8_makePlan_124 : decode cX8_makePlan 124 = .ok (.iaload, 1) := by decide +kernel
theorem dX8_makePlan_125 : decode cX8_makePlan 125 = .ok (.bipush 18, 2) := by decide +kernel
theorem dX8_makePlan_127 : decode cX8_makePlan 127 = .ok (.if_icmp .gt 36, 3) := by decide +kernel
theorem dX8_makePlan_130 : decode cX8_makePlan 130 = .ok (.aload_n 0, 1) := by decide +kernel
theorem dX8_makePlan_131 : decode cX8_makePlan 131 = .ok (.iload_n 1, 1) := by decide +kernel
theorem dX8_makePlan_132 : decode cX8_makePlan 132 = .ok (.invokevirtual 92, 3) := by decide +kernel
theorem dX8_makePlan_135 : decode cX8_makePlan 135 = .ok (.ifCond .eq 15, 3) := by decide +kernel
theorem dX8_makePlan_138 : decode cX8_makePlan 138 = .ok (.aload_n 0, 1) := by decide +kernel
theorem dX8_makePlan_139 : decode cX8_makePlan 139 = .ok (.iload_n 1, 1) := by decide +kernel
theorem dX8_makePlan_140 : decode cX8_makePlan 140 = .ok (.invokevirtual 82, 3) := by decide +kernel
theorem dX8_makePlan_143 : decode cX8_makePlan 143 = .ok (.aload_n 0, 1) := by decide +kernel
theorem dX8_makePlan_144 : decode cX8_makePlan 144 = .ok (.getfield 85, 3) := by decide +kernel
theorem dX8_makePlan_147 : decode cX8_makePlan 147 = .ok (.if_icmp .lt 16, 3) := by decide +kernel
theorem dX8_makePlan_150 : decode cX8_makePlan 150 = .ok (.aload_n 0, 1) := by decide +kernel
theorem dX8_makePlan_151 : decode cX8_makePlan 151 = .ok (.getfield 26, 3) := by decide +kernel
theorem dX8_makePlan_154 : decode cX8_makePlan 154 = .ok (.iload_n 1, 1) := by decide +kernel
theorem dX8_makePlan_155 : decode cX8_makePlan 155 = .ok (.dup2, 1) := by decide +kernel
theorem dX8_makePlan_156 : decode cX8_makePlan 156 = .ok (.iaload, 1) := by decide +kernel
theorem dX8_makePlan_157 : decode cX8_makePlan 157 = .ok (.iconst 1, 1) := by decide +kernel
theorem dX8_makePlan_158 : decode cX8_makePlan 158 = .ok (.iadd, 1) := by decide +kernel
theorem dX8_makePlan_159 : decode cX8_makePlan 159 = .ok (.iastore, 1) := by decide +kernel
theorem dX8_makePlan_160 : decode cX8_makePlan 160 = .ok (.goto (-41), 3) := by decide +kernel
theorem dX8_makePlan_163 : decode cX8_makePlan 163 = .ok (.aload_n 0, 1) := by decide +kernel
theorem dX8_makePlan_164 : decode cX8_makePlan 164 = .ok (.getfield 26, 3) := by decide +kernel
theorem dX8_makePlan_167 : decode cX8_makePlan 167 = .ok (.iload_n 1, 1) := by decide +kernel
theorem dX8_makePlan_168 : decode cX8_makePlan 168 = .ok (.iaload, 1) := by decide +kernel
theorem dX8_makePlan_169 : decode cX8_makePlan 169 = .ok (.bipush 18, 2) := by decide +kernel
theorem dX8_makePlan_171 : decode cX8_makePlan 171 = .ok (.if_icmp .gt 16, 3) := by decide +kernel
theorem dX8_makePlan_174 : decode cX8_makePlan 174 = .ok (.iinc 1 1, 3) := by decide +kernel
theorem dX8_makePlan_177 : decode cX8_makePlan 177 = .ok (.aload_n 0, 1) := by decide +kernel
theorem dX8_makePlan_178 : decode cX8_makePlan 178 = .ok (.getfield 26, 3) := by decide +kernel
theorem dX8_makePlan_181 : decode cX8_makePlan 181 = .ok (.iload_n 1, 1) := by decide +kernel
theorem dX8_makePlan_182 : decode cX8_makePlan 182 = .ok (.iconst 0, 1) := by decide +kernel
theorem dX8_makePlan_183 : decode cX8_makePlan 183 = .ok (.iastore, 1) := by decide +kernel
theorem dX8_makePlan_184 : decode cX8_makePlan 184 = .ok (.goto (-105), 3) := by decide +kernel
theorem dX8_makePlan_187 : decode cX8_makePlan 187 = .ok (.iinc 1 (-1), 3) := by decide +kernel
theorem dX8_makePlan_190 : decode cX8_makePlan 190 = .ok (.aload_n 0, 1) := by decide +kernel
theorem dX8_makePlan_191 : decode cX8_makePlan 191 = .ok (.getfield 26, 3) := by decide +kernel
theorem dX8_makePlan_194 : decode cX8_makePlan 194 = .ok (.iload_n 1, 1) := by decide +kernel
theorem dX8_makePlan_195 : decode cX8_makePlan 195 = .ok (.ifCond .ge 7, 3) := by decide +kernel
theorem dX8_makePlan_198 : decode cX8_makePlan 198 = .ok (.iconst 0, 1) := by decide +kernel
theorem dX8_makePlan_199 : decode cX8_makePlan 199 = .ok (.goto 4, 3) := by decide +kernel
theorem dX8_makePlan_202 : decode cX8_makePlan 202 = .ok (.iload_n 1, 1) := by decide +kernel
theorem dX8_makePlan_203 : decode cX8_makePlan 203 = .ok (.dup2, 1) := by decide +kernel
theorem dX8_makePlan_204 : decode cX8_makePlan 204 = .ok (.iaload, 1) := by decide +kernel
theorem dX8_makePlan_205 : decode cX8_makePlan 205 = .ok (.iconst 1, 1) := by decide +kernel
theorem dX8_makePlan_206 : decode cX8_makePlan 206 = .ok (.iadd, 1) := by decide +kernel
theorem dX8_makePlan_207 : decode cX8_makePlan 207 = .ok (.iastore, 1) := by decide +kernel
theorem dX8_makePlan_208 : decode cX8_makePlan 208 = .ok (.goto (-129), 3) := by decide +kernel
theorem dX8_makePlan_211 : decode cX8_makePlan 211 = .ok (.return_, 1) := by decide +kernel
set_option maxRecDepth 20000 in
theorem ggX8_plan_X8_isCase : GoodIn wsX8_plan wsX8_isCase := goodIn_r _ [9, 1, 10, 11, 8, 12, 58, 59, 60, 61, 62, 63, 64, 65, 66, 67, 68] (by decide +kernel) (by decide +kernel)
set_option maxRecDepth 20000 in
theorem gX8_plan_X8_isCase : GoodIn wsX8_plan (wsV RX8 50 RX8 yX8_isCase wsX8_isCase) := goodIn_app (goodIn_of _ (by decide +kernel)) ggX8_plan_X8_isCase
set_option maxRecDepth 20000 in
theorem ggX8_plan_X8_at : GoodIn wsX8_plan wsX8_at := goodIn_r _ [15] (by decide +kernel) (by decide +kernel)
set_option maxRecDepth 20000 in
theorem gX8_plan_X8_at : GoodIn wsX8_plan (va_wsS RX8 46 yX8_at wsX8_at) := goodIn_app (goodIn_of _ (by decide +kernel)) ggX8_plan_X8_at
set_option maxRecDepth 20000 in
theorem ggX8_plan_X8_makePlan : GoodIn wsX8_plan wsX8_makePlan := goodIn_r _ [19, 2, 1, 3, 20, 21, 22, 13, 14, 8, 15, 23, 24, 25, 26, 4, 27, 28, 29, 30, 31, 32, 33, 34, 35, 36, 37, 38, 39, 10, 11, 12, 40, 41, 42, 43, 44, 45, 46, 47, 48, 49, 50, 51, 52, 53, 54, 55, 56, 57, 58, 59, 60, 61, 62, 63, 64, 65, 66, 67, 68] (by decide +kernel) (by decide +kernel)
set_option maxRecDepth 20000 in
theorem gX8_plan_X8_makePlan : GoodIn wsX8_plan (wsV RX8 95 RX8 yX8_makePlan wsX8_makePlan) := goodIn_app (goodIn_of _ (by decide +kernel)) ggX8_plan_X8_makePlan
theorem dX8_plan_0 : decode cX8_plan 0 = .ok (.aload_n 0, 1) := by decide +kernel
theorem dX8_plan_1 : decode cX8_plan 1 = .ok (.iload_n 1, 1) := by decide +kernel
theorem dX8_plan_2 : decode cX8_plan 2 = .ok (.invokevirtual 50, 3) := by decide +kernel
theorem dX8_plan_5 : decode cX8_plan 5 = .ok (.ifCond .ne 5, 3) := by decide +kernel
theorem dX8_plan_8 : decode cX8_plan 8 = .ok (.iconst (-1), 1) := by decide +kernel
theorem dX8_plan_9 : decode cX8_plan 9 = .ok (.ireturn, 1) := by decide +kernel
theorem dX8_plan_10 : decode cX8_plan 10 = .ok (.aload_n 0, 1) := by decide +kernel
theorem dX8_plan_11 : decode cX8_plan 11 = .ok (.getfield 7, 3) := by decide +kernel
theorem dX8_plan_14 : decode cX8_plan 14 = .ok (.iload_n 1, 1) := by decide +kernel
theorem dX8_plan_15 : decode cX8_plan 15 = .ok (.iconst 2, 1) := by decide +kernel
theorem dX8_plan_16 : decode cX8_plan 16 = .ok (.invokestatic 46, 3) := by decide +kernel
theorem dX8_plan_19 : decode cX8_plan 19 = .ok (.iaload, 1) := by decide +kernel
theorem dX8_plan_20 : decode cX8_plan 20 = .ok (.ifCond .eq 6, 3) := by decide +kernel
theorem dX8_plan_23 : decode cX8_plan 23 = .ok (.bipush (-4), 2) := by decide +kernel
theorem dX8_plan_25 : decode cX8_plan 25 = .ok (.ireturn, 1) := by decide +kernel
theorem dX8_plan_26 : decode cX8_plan 26 = .ok (.aload_n 0, 1) := by decide +kernel
theorem dX8_plan_27 : decode cX8_plan 27 = .ok (.invokevirtual 95, 3) := by decide +kernel
theorem dX8_plan_30 : decode cX8_plan 30 = .ok (.iconst 0, 1) := by decide +kernel
theorem dX8_plan_31 : decode cX8_plan 31 = .ok (.istore_n 2, 1) := by decide +kernel
theorem dX8_plan_32 : decode cX8_plan 32 = .ok (.iload_n 2, 1) := by decide +kernel
theorem dX8_plan_33 : decode cX8_plan 33 = .ok (.aload_n 0, 1) := by decide +kernel
theorem dX8_plan_34 : decode cX8_plan 34 = .ok (.getfield 79, 3) := by decide +kernel
theorem dX8_plan_37 : decode cX8_plan 37 = .ok (.if_icmp .ge 37, 3) := by decide +kernel
theorem dX8_plan_40 : decode cX8_plan 40 = .ok (.aload_n 0, 1) := by decide +kernel
theorem dX8_plan_41 : decode cX8_plan 41 = .ok (.getfield 23, 3) := by decide +kernel
theorem dX8_plan_44 : decode cX8_plan 44 = .ok (.iload_n 2, 1) := by decide +kernel
theorem dX8_plan_45 : decode cX8_plan 45 = .ok (.iaload, 1) := by decide +kernel
theorem dX8_plan_46 : decode cX8_plan 46 = .ok (.iload_n 1, 1) := by decide +kernel
theorem dX8_plan_47 : decode cX8_plan 47 = .ok (.if_icmp .ne 21, 3) := by decide +kernel
theorem dX8_plan_50 : decode cX8_plan 50 = .ok (.aload_n 0, 1) := by decide +kernel
theorem dX8_plan_51 : decode cX8_plan 51 = .ok (.getfield 29, 3) := by decide +kernel
theorem dX8_plan_54 : decode cX8_plan 54 = .ok (.iload_n 2, 1) := by decide +kernel
theorem dX8_plan_55 : decode cX8_plan 55 = .ok (.iaload, 1) := by decide +kernel
theorem dX8_plan_56 : decode cX8_plan 56 = .ok (.bipush 18, 2) := by decide +kernel
theorem dX8_plan_58 : decode cX8_plan 58 = .ok (.if_icmp .eq 10, 3) := by decide +kernel
theorem dX8_plan_61 : decode cX8_plan 61 = .ok (.aload_n 0, 1) := by decide +kernel
theorem dX8_plan_62 : decode cX8_plan 62 = .ok (.getfield 29, 3) := by decide +kernel
theorem dX8_plan_65 : decode cX8_plan 65 = .ok (.iload_n 2, 1) := by decide +kernel
theorem dX8_plan_66 : decode cX8_plan 66 = .ok (.iaload, 1) := by decide +kernel
theorem dX8_plan_67 : decode cX8_plan 67 = .ok (.ireturn, 1) := by decide +kernel
theorem dX8_plan_68 : decode cX8_plan 68 = .ok (.iinc 2 1, 3) := by decide +kernel
theorem dX8_plan_71 : decode cX8_plan 71 = .ok (.goto (-39), 3) := by decide +kernel
theorem dX8_plan_74 : decode cX8_plan 74 = .ok (.bipush (-5), 2) := by decide +kernel
theorem dX8_plan_76 : decode cX8_plan 76 = .ok (.ireturn, 1) := by decide +kernel
set_option maxRecDepth 20000 in
theorem ggX8_waits_X8_makePlan : GoodIn wsX8_waits wsX8_makePlan := goodIn_r _ [6, 7, 8, 9, 10, 1, 11, 12, 13, 5, 14, 15, 16, 17, 18, 19, 20, 21, 22, 23, 24, 25, 26, 27, 28, 29, 30, 31, 32, 33, 34, 35, 36, 37, 38, 39, 40, 41, 42, 43, 44, 45, 46, 47, 48, 49, 50, 51, 52, 53, 54, 55, 56, 57, 58, 59, 60, 61, 62, 63, 64] (by decide +kernel) (by decide +kernel)
set_option maxRecDepth 20000 in
theorem gX8_waits_X8_makePlan : GoodIn wsX8_waits (wsV RX8 95 RX8 yX8_makePlan wsX8_makePlan) := goodIn_app (goodIn_of _ (by decide +kernel)) ggX8_waits_X8_makePlan
theorem dX8_waits_0 : decode cX8_waits 0 = .ok (.aload_n 0, 1) := by decide +kernel
theorem dX8_waits_1 : decode cX8_waits 1 = .ok (.invokevirtual 95, 3) := by decide +kernel
theorem dX8_waits_4 : decode cX8_waits 4 = .ok (.aload_n 0, 1) := by decide +kernel
theorem dX8_waits_5 : decode cX8_waits 5 = .ok (.getfield 85, 3) := by decide +kernel
theorem dX8_waits_8 : decode cX8_waits 8 = .ok (.ireturn, 1) := by decide +kernel
theorem dX8_termAt_0 : decode cX8_termAt 0 = .ok (.sipush 158, 3) := by decide +kernel
theorem dX8_termAt_3 : decode cX8_termAt 3 = .ok (.bipush 25, 2) := by decide +kernel
theorem dX8_termAt_5 : decode cX8_termAt 5 = .ok (.iload_n 0, 1) := by decide +kernel
theorem dX8_termAt_6 : decode cX8_termAt 6 = .ok (.imul, 1) := by decide +kernel
theorem dX8_termAt_7 : decode cX8_termAt 7 = .ok (.iadd, 1) := by decide +kernel
theorem dX8_termAt_8 : decode cX8_termAt 8 = .ok (.iconst 5, 1) := by decide +kernel
theorem dX8_termAt_9 : decode cX8_termAt 9 = .ok (.iload_n 1, 1) := by decide +kernel
theorem dX8_termAt_10 : decode cX8_termAt 10 = .ok (.imul, 1) := by decide +kernel
theorem dX8_termAt_11 : decode cX8_termAt 11 = .ok (.iadd, 1) := by decide +kernel
theorem dX8_termAt_12 : decode cX8_termAt 12 = .ok (.ireturn, 1) := by decide +kernel
set_option maxRecDepth 20000 in
theorem ggX8_isTerm_X8_isCase : GoodIn wsX8_isTerm wsX8_isCase := goodIn_r _ [6, 1, 7, 8, 5, 9, 13, 14, 15, 16, 17, 18, 19, 20, 21, 22, 23] (by decide +kernel) (by decide +kernel)
set_option maxRecDepth 20000 in
theorem gX8_isTerm_X8_isCase : GoodIn wsX8_isTerm (wsV RX8 50 RX8 yX8_isCase wsX8_isCase) := goodIn_app (goodIn_of _ (by decide +kernel)) ggX8_isTerm_X8_isCase
set_option maxRecDepth 20000 in
theorem ggX8_isTerm_X8_at : GoodIn wsX8_isTerm wsX8_at := goodIn_r _ [12] (by decide +kernel) (by decide +kernel)
set_option maxRecDepth 20000 in
theorem gX8_isTerm_X8_at : GoodIn wsX8_isTerm (va_wsS RX8 46 yX8_at wsX8_at) := goodIn_app (goodIn_of _ (by decide +kernel)) ggX8_isTerm_X8_at
set_option maxRecDepth 20000 in
theorem ggX8_isTerm_X8_in : GoodIn wsX8_isTerm wsX8_in := goodIn_r _ [9] (by decide +kernel) (by decide +kernel)
set_option maxRecDepth 20000 in
theorem gX8_isTerm_X8_in : GoodIn wsX8_isTerm (va_wsS RX8 35 yX8_in wsX8_in) := goodIn_app (goodIn_of _ (by decide +kernel)) ggX8_isTerm_X8_in
theorem dX8_isTerm_0 : decode cX8_isTerm 0 = .ok (.aload_n 0, 1) := by decide +kernel
theorem dX8_isTerm_1 : decode cX8_isTerm 1 = .ok (.iload_n 1, 1) := by decide +kernel
theorem dX8_isTerm_2 : decode cX8_isTerm 2 = .ok (.invokevirtual 50, 3) := by decide +kernel
theorem dX8_isTerm_5 : decode cX8_isTerm 5 = .ok (.ifCond .eq 28, 3) := by decide +kernel
theorem dX8_isTerm_8 : decode cX8_isTerm 8 = .ok (.iload_n 2, 1) := by decide +kernel
theorem dX8_isTerm_9 : decode cX8_isTerm 9 = .ok (.iconst 0, 1) := by decide +kernel
theorem dX8_isTerm_10 : decode cX8_isTerm 10 = .ok (.aload_n 0, 1) := by decide +kernel
theorem dX8_isTerm_11 : decode cX8_isTerm 11 = .ok (.getfield 7, 3) := by decide +kernel
theorem dX8_isTerm_14 : decode cX8_isTerm 14 = .ok (.iload_n 1, 1) := by decide +kernel
theorem dX8_isTerm_15 : decode cX8_isTerm 15 = .ok (.bipush 6, 2) := by decide +kernel
theorem dX8_isTerm_17 : decode cX8_isTerm 17 = .ok (.invokestatic 46, 3) := by decide +kernel
theorem dX8_isTerm_20 : decode cX8_isTerm 20 = .ok (.iaload, 1) := by decide +kernel
theorem dX8_isTerm_21 : decode cX8_isTerm 21 = .ok (.iconst 1, 1) := by decide +kernel
theorem dX8_isTerm_22 : decode cX8_isTerm 22 = .ok (.isub, 1) := by decide +kernel
theorem dX8_isTerm_23 : decode cX8_isTerm 23 = .ok (.invokestatic 35, 3) := by decide +kernel
theorem dX8_isTerm_26 : decode cX8_isTerm 26 = .ok (.ifCond .eq 7, 3) := by decide +kernel
theorem dX8_isTerm_29 : decode cX8_isTerm 29 = .ok (.iconst 1, 1) := by decide +kernel
theorem dX8_isTerm_30 : decode cX8_isTerm 30 = .ok (.goto 4, 3) := by decide +kernel
theorem dX8_isTerm_33 : decode cX8_isTerm 33 = .ok (.iconst 0, 1) := by decide +kernel
theorem dX8_isTerm_34 : decode cX8_isTerm 34 = .ok (.ireturn, 1) := by decide +kernel
set_option maxRecDepth 20000 in
theorem ggX8_term_X8_isCase : GoodIn wsX8_term wsX8_isCase := goodIn_r _ [6, 1, 7, 8, 5, 9, 19, 20, 21, 22, 23, 24, 25, 26, 27, 28, 29] (by decide +kernel) (by decide +kernel)
set_option maxRecDepth 20000 in
theorem gX8_term_X8_isCase : GoodIn wsX8_term (wsV RX8 50 RX8 yX8_isCase wsX8_isCase) := goodIn_app (goodIn_of _ (by decide +kernel)) ggX8_term_X8_isCase
set_option maxRecDepth 20000 in
theorem ggX8_term_X8_isSide : GoodIn wsX8_term wsX8_isSide := goodIn_r _ [12, 7, 8, 5, 9] (by decide +kernel) (by decide +kernel)
set_option maxRecDepth 20000 in
theorem gX8_term_X8_isSide : GoodIn wsX8_term (va_wsS RX8 60 yX8_isSide wsX8_isSide) := goodIn_app (goodIn_of _ (by decide +kernel)) ggX8_term_X8_isSide
set_option maxRecDepth 20000 in
theorem ggX8_term_X8_in : GoodIn wsX8_term wsX8_in := goodIn_r _ [9] (by decide +kernel) (by decide +kernel)
set_option maxRecDepth 20000 in
theorem gX8_term_X8_in : GoodIn wsX8_term (va_wsS RX8 35 yX8_in wsX8_in) := goodIn_app (goodIn_of _ (by decide +kernel)) ggX8_term_X8_in
set_option maxRecDepth 20000 in
theorem ggX8_term_X8_at : GoodIn wsX8_term wsX8_at := goodIn_r _ [15] (by decide +kernel) (by decide +kernel)
set_option maxRecDepth 20000 in
theorem gX8_term_X8_at : GoodIn wsX8_term (va_wsS RX8 46 yX8_at wsX8_at) := goodIn_app (goodIn_of _ (by decide +kernel)) ggX8_term_X8_at
set_option maxRecDepth 20000 in
theorem ggX8_term_X8_termAt : GoodIn wsX8_term wsX8_termAt := goodIn_r _ [18] (by decide +kernel) (by decide +kernel)
set_option maxRecDepth 20000 in
theorem gX8_term_X8_termAt : GoodIn wsX8_term (va_wsS RX8 98 yX8_termAt wsX8_termAt) := goodIn_app (goodIn_of _ (by decide +kernel)) ggX8_term_X8_termAt
theorem dX8_term_0 : decode cX8_term 0 = .ok (.aload_n 0, 1) := by decide +kernel
theorem dX8_term_1 : decode cX8_term 1 = .ok (.iload_n 1, 1) := by decide +kernel
theorem dX8_term_2 : decode cX8_term 2 = .ok (.invokevirtual 50, 3) := by decide +kernel
theorem dX8_term_5 : decode cX8_term 5 = .ok (.ifCond .eq 43, 3) := by decide +kernel
theorem dX8_term_8 : decode cX8_term 8 = .ok (.iload_n 2, 1) := by decide +kernel
theorem dX8_term_9 : decode cX8_term 9 = .ok (.invokestatic 60, 3) := by decide +kernel
theorem dX8_term_12 : decode cX8_term 12 = .ok (.ifCond .eq 36, 3) := by decide +kernel
theorem dX8_term_15 : decode cX8_term 15 = .ok (.iload 4, 2) := by decide +kernel
theorem dX8_term_17 : decode cX8_term 17 = .ok (.iconst 0, 1) := by decide +kernel
theorem dX8_term_18 : decode cX8_term 18 = .ok (.iconst 5, 1) := by decide +kernel
theorem dX8_term_19 : decode cX8_term 19 = .ok (.invokestatic 35, 3) := by decide +kernel
theorem dX8_term_22 : decode cX8_term 22 = .ok (.ifCond .eq 26, 3) := by decide +kernel
theorem dX8_term_25 : decode cX8_term 25 = .ok (.iload 5, 2) := by decide +kernel
theorem dX8_term_27 : decode cX8_term 27 = .ok (.iconst 0, 1) := by decide +kernel
theorem dX8_term_28 : decode cX8_term 28 = .ok (.bipush 23, 2) := by decide +kernel
theorem dX8_term_30 : decode cX8_term 30 = .ok (.invokestatic 35, 3) := by decide +kernel
theorem dX8_term_33 : decode cX8_term 33 = .ok (.ifCond .eq 15, 3) := by decide +kernel
theorem dX8_term_36 : decode cX8_term 36 = .ok (.iload 6, 2) := by decide +kernel
theorem dX8_term_38 : decode cX8_term 38 = .ok (.iload 5, 2) := by decide +kernel
theorem dX8_term_40 : decode cX8_term 40 = .ok (.bipush 23, 2) := by decide +kernel
theorem dX8_term_42 : decode cX8_term 42 = .ok (.invokestatic 35, 3) := by decide +kernel
theorem dX8_term_45 : decode cX8_term 45 = .ok (.ifCond .ne 5, 3) := by decide +kernel
theorem dX8_term_48 : decode cX8_term 48 = .ok (.iconst (-1), 1) := by decide +kernel
theorem dX8_term_49 : decode cX8_term 49 = .ok (.ireturn, 1) := by decide +kernel
theorem dX8_term_50 : decode cX8_term 50 = .ok (.aload_n 0, 1) := by decide +kernel
theorem dX8_term_51 : decode cX8_term 51 = .ok (.getfield 7, 3) := by decide +kernel
theorem dX8_term_54 : decode cX8_term 54 = .ok (.iload_n 1, 1) := by decide +kernel
theorem dX8_term_55 : decode cX8_term 55 = .ok (.iconst 2, 1) := by decide +kernel
theorem dX8_term_56 : decode cX8_term 56 = .ok (.invokestatic 46, 3) := by decide +kernel
theorem dX8_term_59 : decode cX8_term 59 = .ok (.iaload, 1) := by decide +kernel
theorem dX8_term_60 : decode cX8_term 60 = .ok (.iconst 1, 1) := by decide +kernel
theorem dX8_term_61 : decode cX8_term 61 = .ok (.if_icmp .eq 6, 3) := by decide +kernel
theorem dX8_term_64 : decode cX8_term 64 = .ok (.bipush (-4), 2) := by decide +kernel
theorem dX8_term_66 : decode cX8_term 66 = .ok (.ireturn, 1) := by decide +kernel
theorem dX8_term_67 : decode cX8_term 67 = .ok (.aload_n 0, 1) := by decide +kernel
theorem dX8_term_68 : decode cX8_term 68 = .ok (.getfield 7, 3) := by decide +kernel
theorem dX8_term_71 : decode cX8_term 71 = .ok (.iload_n 1, 1) := by decide +kernel
theorem dX8_term_72 : decode cX8_term 72 = .ok (.bipush 6, 2) := by decide +kernel
theorem dX8_term_74 : decode cX8_term 74 = .ok (.invokestatic 46, 3) := by decide +kernel
theorem dX8_term_77 : decode cX8_term 77 = .ok (.iaload, 1) := by decide +kernel
theorem dX8_term_78 : decode cX8_term 78 = .ok (.iconst 5, 1) := by decide +kernel
theorem dX8_term_79 : decode cX8_term 79 = .ok (.if_icmp .ne 6, 3) := by decide +kernel
theorem dX8_term_82 : decode cX8_term 82 = .ok (.bipush (-2), 2) := by decide +kernel
theorem dX8_term_84 : decode cX8_term 84 = .ok (.ireturn, 1) := by decide +kernel
theorem dX8_term_85 : decode cX8_term 85 = .ok (.iload_n 1, 1) := by decide +kernel
theorem dX8_term_86 : decode cX8_term 86 = .ok (.aload_n 0, 1) := by decide +kernel
theorem dX8_term_87 : decode cX8_term 87 = .ok (.getfield 7, 3) := by decide +kernel
theorem dX8_term_90 : decode cX8_term 90 = .ok (.iload_n 1, 1) := by decide +kernel
theorem dX8_term_91 : decode cX8_term 91 = .ok (.bipush 6, 2) := by decide +kernel
theorem dX8_term_93 : decode cX8_term 93 = .ok (.invokestatic 46, 3) := by decide +kernel
theorem dX8_term_96 : decode cX8_term 96 = .ok (.iaload, 1) := by decide +kernel
theorem dX8_term_97 : decode cX8_term 97 = .ok (.invokestatic 98, 3) := by decide +kernel
theorem dX8_term_100 : decode cX8_term 100 = .ok (.istore 7, 2) := by decide +kernel
theorem dX8_term_102 : decode cX8_term 102 = .ok (.aload_n 0, 1) := by decide +kernel
theorem dX8_term_103 : decode cX8_term 103 = .ok (.getfield 7, 3) := by decide +kernel
theorem dX8_term_106 : decode cX8_term 106 = .ok (.iload 7, 2) := by decide +kernel
theorem dX8_term_108 : decode cX8_term 108 = .ok (.iload_n 2, 1) := by decide +kernel
theorem dX8_term_109 : decode cX8_term 109 = .ok (.iastore, 1) := by decide +kernel
theorem dX8_term_110 : decode cX8_term 110 = .ok (.aload_n 0, 1) := by decide +kernel
theorem dX8_term_111 : decode cX8_term 111 = .ok (.getfield 7, 3) := by decide +kernel
theorem dX8_term_114 : decode cX8_term 114 = .ok (.iload 7, 2) := by decide +kernel
theorem dX8_term_116 : decode cX8_term 116 = .ok (.iconst 1, 1) := by decide +kernel
theorem dX8_term_117 : decode cX8_term 117 = .ok (.iadd, 1) := by decide +kernel
theorem dX8_term_118 : decode cX8_term 118 = .ok (.iload_n 3, 1) := by decide +kernel
theorem dX8_term_119 : decode cX8_term 119 = .ok (.ifCond .eq 7, 3) := by decide +kernel
theorem dX8_term_122 : decode cX8_term 122 = .ok (.iconst 1, 1) := by decide +kernel
theorem dX8_term_123 : decode cX8_term 123 = .ok (.goto 4, 3) := by decide +kernel
theorem dX8_term_126 : decode cX8_term 126 = .ok (.iconst 0, 1) := by decide +kernel
theorem dX8_term_127 : decode cX8_term 127 = .ok (.iastore, 1) := by decide +kernel
theorem dX8_term_128 : decode cX8_term 128 = .ok (.aload_n 0, 1) := by decide +kernel
theorem dX8_term_129 : decode cX8_term 129 = .ok (.getfield 7, 3) := by decide +kernel
theorem dX8_term_132 : decode cX8_term 132 = .ok (.iload 7, 2) := by decide +kernel
theorem dX8_term_134 : decode cX8_term 134 = .ok (.iconst 2, 1) := by decide +kernel
theorem dX8_term_135 : decode cX8_term 135 = .ok (.iadd, 1) := by decide +kernel
theorem dX8_term_136 : decode cX8_term 136 = .ok (.iload 4, 2) := by decide +kernel
theorem dX8_term_138 : decode cX8_term 138 = .ok (.iastore, 1) := by decide +kernel
theorem dX8_term_139 : decode cX8_term 139 = .ok (.aload_n 0, 1) := by decide +kernel
theorem dX8_term_140 : decode cX8_term 140 = .ok (.getfield 7, 3) := by decide +kernel
theorem dX8_term_143 : decode cX8_term 143 = .ok (.iload 7, 2) := by decide +kernel
theorem dX8_term_145 : decode cX8_term 145 = .ok (.iconst 3, 1) := by decide +kernel
theorem dX8_term_146 : decode cX8_term 146 = .ok (.iadd, 1) := by decide +kernel
theorem dX8_term_147 : decode cX8_term 147 = .ok (.iload 5, 2) := by decide +kernel
theorem dX8_term_149 : decode cX8_term 149 = .ok (.iastore, 1) := by decide +kernel
theorem dX8_term_150 : decode cX8_term 150 = .ok (.aload_n 0, 1) := by decide +kernel
theorem dX8_term_151 : decode cX8_term 151 = .ok (.getfield 7, 3) := by decide +kernel
theorem dX8_term_154 : decode cX8_term 154 = .ok (.iload 7, 2) := by decide +kernel
theorem dX8_term_156 : decode cX8_term 156 = .ok (.iconst 4, 1) := by decide +kernel
theorem dX8_term_157 : decode cX8_term 157 = .ok (.iadd, 1) := by decide +kernel
theorem dX8_term_158 : decode cX8_term 158 = .ok (.iload 6, 2) := by decide +kernel
theorem dX8_term_160 : decode cX8_term 160 = .ok (.iastore, 1) := by decide +kernel
theorem dX8_term_161 : decode cX8_term 161 = .ok (.aload_n 0, 1) := by decide +kernel
theorem dX8_term_162 : decode cX8_term 162 = .ok (.getfield 7, 3) := by decide +kernel
theorem dX8_term_165 : decode cX8_term 165 = .ok (.iload_n 1, 1) := by decide +kernel
theorem dX8_term_166 : decode cX8_term 166 = .ok (.bipush 6, 2) := by decide +kernel
theorem dX8_term_168 : decode cX8_term 168 = .ok (.invokestatic 46, 3) := by decide +kernel
theorem dX8_term_171 : decode cX8_term 171 = .ok (.dup2, 1) := by decide +kernel
theorem dX8_term_172 : decode cX8_term 172 = .ok (.iaload, 1) := by decide +kernel
theorem dX8_term_173 : decode cX8_term 173 = .ok (.iconst 1, 1) := by decide +kernel
theorem dX8_term_174 : decode cX8_term 174 = .ok (.iadd, 1) := by decide +kernel
theorem dX8_term_175 : decode cX8_term 175 = .ok (.iastore, 1) := by decide +kernel
theorem dX8_term_176 : decode cX8_term 176 = .ok (.aload_n 0, 1) := by decide +kernel
theorem dX8_term_177 : decode cX8_term 177 = .ok (.getfield 7, 3) := by decide +kernel
theorem dX8_term_180 : decode cX8_term 180 = .ok (.iload_n 1, 1) := by decide +kernel
theorem dX8_term_181 : decode cX8_term 181 = .ok (.bipush 6, 2) := by decide +kernel
theorem dX8_term_183 : decode cX8_term 183 = .ok (.invokestatic 46, 3) := by decide +kernel
theorem dX8_term_186 : decode cX8_term 186 = .ok (.iaload, 1) := by decide +kernel
theorem dX8_term_187 : decode cX8_term 187 = .ok (.iconst 1, 1) := by decide +kernel
theorem dX8_term_188 : decode cX8_term 188 = .ok (.isub, 1) := by decide +kernel
theorem dX8_term_189 : decode cX8_term 189 = .ok (.ireturn, 1) := by decide +kernel
set_option maxRecDepth 20000 in
theorem ggX8_strike_X8_isCase : GoodIn wsX8_strike wsX8_isCase := goodIn_r _ [6, 1, 7, 8, 5, 9, 13, 14, 15, 16, 17, 18, 19, 20, 21, 22, 23] (by decide +kernel) (by decide +kernel)
set_option maxRecDepth 20000 in
theorem gX8_strike_X8_isCase : GoodIn wsX8_strike (wsV RX8 50 RX8 yX8_isCase wsX8_isCase) := goodIn_app (goodIn_of _ (by decide +kernel)) ggX8_strike_X8_isCase
set_option maxRecDepth 20000 in
theorem ggX8_strike_X8_at : GoodIn wsX8_strike wsX8_at := goodIn_r _ [12] (by decide +kernel) (by decide +kernel)
set_option maxRecDepth 20000 in
theorem gX8_strike_X8_at : GoodIn wsX8_strike (va_wsS RX8 46 yX8_at wsX8_at) := goodIn_app (goodIn_of _ (by decide +kernel)) ggX8_strike_X8_at
theorem dX8_strike_0 : decode cX8_strike 0 = .ok (.aload_n 0, 1) := by decide +kernel
theorem dX8_strike_1 : decode cX8_strike 1 = .ok (.iload_n 1, 1) := by decide +kernel
theorem dX8_strike_2 : decode cX8_strike 2 = .ok (.invokevirtual 50, 3) := by decide +kernel
theorem dX8_strike_5 : decode cX8_strike 5 = .ok (.ifCond .ne 5, 3) := by decide +kernel
theorem dX8_strike_8 : decode cX8_strike 8 = .ok (.iconst (-1), 1) := by decide +kernel
theorem dX8_strike_9 : decode cX8_strike 9 = .ok (.ireturn, 1) := by decide +kernel
theorem dX8_strike_10 : decode cX8_strike 10 = .ok (.aload_n 0, 1) := by decide +kernel
theorem dX8_strike_11 : decode cX8_strike 11 = .ok (.getfield 7, 3) := by decide +kernel
theorem dX8_strike_14 : decode cX8_strike 14 = .ok (.iload_n 1, 1) := by decide +kernel
theorem dX8_strike_15 : decode cX8_strike 15 = .ok (.bipush 6, 2) := by decide +kernel
theorem dX8_strike_17 : decode cX8_strike 17 = .ok (.invokestatic 46, 3) := by decide +kernel
theorem dX8_strike_20 : decode cX8_strike 20 = .ok (.iaload, 1) := by decide +kernel
theorem dX8_strike_21 : decode cX8_strike 21 = .ok (.ifCond .ne 6, 3) := by decide +kernel
theorem dX8_strike_24 : decode cX8_strike 24 = .ok (.bipush (-5), 2) := by decide +kernel
theorem dX8_strike_26 : decode cX8_strike 26 = .ok (.ireturn, 1) := by decide +kernel
theorem dX8_strike_27 : decode cX8_strike 27 = .ok (.aload_n 0, 1) := by decide +kernel
theorem dX8_strike_28 : decode cX8_strike 28 = .ok (.getfield 7, 3) := by decide +kernel
theorem dX8_strike_31 : decode cX8_strike 31 = .ok (.iload_n 1, 1) := by decide +kernel
theorem dX8_strike_32 : decode cX8_strike 32 = .ok (.bipush 6, 2) := by decide +kernel
theorem dX8_strike_34 : decode cX8_strike 34 = .ok (.invokestatic 46, 3) := by decide +kernel
theorem dX8_strike_37 : decode cX8_strike 37 = .ok (.dup2, 1) := by decide +kernel
theorem dX8_strike_38 : decode cX8_strike 38 = .ok (.iaload, 1) := by decide +kernel
theorem dX8_strike_39 : decode cX8_strike 39 = .ok (.iconst 1, 1) := by decide +kernel
theorem dX8_strike_40 : decode cX8_strike 40 = .ok (.isub, 1) := by decide +kernel
theorem dX8_strike_41 : decode cX8_strike 41 = .ok (.iastore, 1) := by decide +kernel
theorem dX8_strike_42 : decode cX8_strike 42 = .ok (.aload_n 0, 1) := by decide +kernel
theorem dX8_strike_43 : decode cX8_strike 43 = .ok (.getfield 7, 3) := by decide +kernel
theorem dX8_strike_46 : decode cX8_strike 46 = .ok (.iload_n 1, 1) := by decide +kernel
theorem dX8_strike_47 : decode cX8_strike 47 = .ok (.bipush 6, 2) := by decide +kernel
theorem dX8_strike_49 : decode cX8_strike 49 = .ok (.invokestatic 46, 3) := by decide +kernel
theorem dX8_strike_52 : decode cX8_strike 52 = .ok (.iaload, 1) := by decide +kernel
theorem dX8_strike_53 : decode cX8_strike 53 = .ok (.ireturn, 1) := by decide +kernel
set_option maxRecDepth 20000 in
theorem ggX8_termOf_X8_isTerm : GoodIn wsX8_termOf wsX8_isTerm := goodIn_r _ [6, 1, 7, 8, 9, 5, 10, 11, 12, 13, 14, 15, 16, 20, 21, 22, 23, 24, 25, 26, 27, 28, 29, 30] (by decide +kernel) (by decide +kernel)
set_option maxRecDepth 20000 in
theorem gX8_termOf_X8_isTerm : GoodIn wsX8_termOf (wsV RX8 101 RX8 yX8_isTerm wsX8_isTerm) := goodIn_app (goodIn_of _ (by decide +kernel)) ggX8_termOf_X8_isTerm
set_option maxRecDepth 20000 in
theorem ggX8_termOf_X8_in : GoodIn wsX8_termOf wsX8_in := goodIn_r _ [13] (by decide +kernel) (by decide +kernel)
set_option maxRecDepth 20000 in
theorem gX8_termOf_X8_in : GoodIn wsX8_termOf (va_wsS RX8 35 yX8_in wsX8_in) := goodIn_app (goodIn_of _ (by decide +kernel)) ggX8_termOf_X8_in
set_option maxRecDepth 20000 in
theorem ggX8_termOf_X8_termAt : GoodIn wsX8_termOf wsX8_termAt := goodIn_r _ [19] (by decide +kernel) (by decide +kernel)
set_option maxRecDepth 20000 in
theorem gX8_termOf_X8_termAt : GoodIn wsX8_termOf (va_wsS RX8 98 yX8_termAt wsX8_termAt) := goodIn_app (goodIn_of _ (by decide +kernel)) ggX8_termOf_X8_termAt
theorem dX8_termOf_0 : decode cX8_termOf 0 = .ok (.aload_n 0, 1) := by decide +kernel
theorem dX8_termOf_1 : decode cX8_termOf 1 = .ok (.iload_n 1, 1) := by decide +kernel
theorem dX8_termOf_2 : decode cX8_termOf 2 = .ok (.iload_n 2, 1) := by decide +kernel
theorem dX8_termOf_3 : decode cX8_termOf 3 = .ok (.invokevirtual 101, 3) := by decide +kernel
theorem dX8_termOf_6 : decode cX8_termOf 6 = .ok (.ifCond .eq 27, 3) := by decide +kernel
theorem dX8_termOf_9 : decode cX8_termOf 9 = .ok (.iload_n 3, 1) := by decide +kernel
theorem dX8_termOf_10 : decode cX8_termOf 10 = .ok (.iconst 0, 1) := by decide +kernel
theorem dX8_termOf_11 : decode cX8_termOf 11 = .ok (.iconst 4, 1) := by decide +kernel
theorem dX8_termOf_12 : decode cX8_termOf 12 = .ok (.invokestatic 35, 3) := by decide +kernel
theorem dX8_termOf_15 : decode cX8_termOf 15 = .ok (.ifCond .eq 18, 3) := by decide +kernel
theorem dX8_termOf_18 : decode cX8_termOf 18 = .ok (.aload_n 0, 1) := by decide +kernel
theorem dX8_termOf_19 : decode cX8_termOf 19 = .ok (.getfield 7, 3) := by decide +kernel
theorem dX8_termOf_22 : decode cX8_termOf 22 = .ok (.iload_n 1, 1) := by decide +kernel
theorem dX8_termOf_23 : decode cX8_termOf 23 = .ok (.iload_n 2, 1) := by decide +kernel
theorem dX8_termOf_24 : decode cX8_termOf 24 = .ok (.invokestatic 98, 3) := by decide +kernel
theorem dX8_termOf_27 : decode cX8_termOf 27 = .ok (.iload_n 3, 1) := by decide +kernel
theorem dX8_termOf_28 : decode cX8_termOf 28 = .ok (.iadd, 1) := by decide +kernel
theorem dX8_termOf_29 : decode cX8_termOf 29 = .ok (.iaload, 1) := by decide +kernel
theorem dX8_termOf_30 : decode cX8_termOf 30 = .ok (.goto 4, 3) := by decide +kernel
theorem dX8_termOf_33 : decode cX8_termOf 33 = .ok (.iconst (-1), 1) := by decide +kernel
theorem dX8_termOf_34 : decode cX8_termOf 34 = .ok (.ireturn, 1) := by decide +kernel
set_option maxRecDepth 20000 in
theorem ggX8_isOwn_X8_termAt : GoodIn wsX8_isOwn wsX8_termAt := goodIn_r _ [5] (by decide +kernel) (by decide +kernel)
set_option maxRecDepth 20000 in
theorem gX8_isOwn_X8_termAt : GoodIn wsX8_isOwn (va_wsS RX8 98 yX8_termAt wsX8_termAt) := goodIn_app (goodIn_of _ (by decide +kernel)) ggX8_isOwn_X8_termAt
theorem dX8_isOwn_0 : decode cX8_isOwn 0 = .ok (.aload_n 0, 1) := by decide +kernel
theorem dX8_isOwn_1 : decode cX8_isOwn 1 = .ok (.getfield 7, 3) := by decide +kernel
end
section
theorem dX8_isOwn_4 : decode cX8_isOwn 4 = .ok (.iload_n 1, 1) := by decide +kernel
theorem dX8_isOwn_5 : decode cX8_isOwn 5 = .ok (.iload_n 3, 1) := by decide +kernel
theorem dX8_isOwn_6 : decode cX8_isOwn 6 = .ok (.invokestatic 98, 3) := by decide +kernel
theorem dX8_isOwn_9 : decode cX8_isOwn 9 = .ok (.iaload, 1) := by decide +kernel
theorem dX8_isOwn_10 : decode cX8_isOwn 10 = .ok (.iload_n 2, 1) := by decide +kernel
theorem dX8_isOwn_11 : decode cX8_isOwn 11 = .ok (.if_icmp .ne 23, 3) := by decide +kernel
theorem dX8_isOwn_14 : decode cX8_isOwn 14 = .ok (.aload_n 0, 1) := by decide +kernel
theorem dX8_isOwn_15 : decode cX8_isOwn 15 = .ok (.getfield 7, 3) := by decide +kernel
theorem dX8_isOwn_18 : decode cX8_isOwn 18 = .ok (.iload_n 1, 1) := by decide +kernel
theorem dX8_isOwn_19 : decode cX8_isOwn 19 = .ok (.iload_n 3, 1) := by decide +kernel
theorem dX8_isOwn_20 : decode cX8_isOwn 20 = .ok (.invokestatic 98, 3) := by decide +kernel
theorem dX8_isOwn_23 : decode cX8_isOwn 23 = .ok (.iconst 1, 1) := by decide +kernel
theorem dX8_isOwn_24 : decode cX8_isOwn 24 = .ok (.iadd, 1) := by decide +kernel
theorem dX8_isOwn_25 : decode cX8_isOwn 25 = .ok (.iaload, 1) := by decide +kernel
theorem dX8_isOwn_26 : decode cX8_isOwn 26 = .ok (.iconst 1, 1) := by decide +kernel
theorem dX8_isOwn_27 : decode cX8_isOwn 27 = .ok (.if_icmp .ne 7, 3) := by decide +kernel
theorem dX8_isOwn_30 : decode cX8_isOwn 30 = .ok (.iconst 1, 1) := by decide +kernel
theorem dX8_isOwn_31 : decode cX8_isOwn 31 = .ok (.goto 4, 3) := by decide +kernel
theorem dX8_isOwn_34 : decode cX8_isOwn 34 = .ok (.iconst 0, 1) := by decide +kernel
theorem dX8_isOwn_35 : decode cX8_isOwn 35 = .ok (.ireturn, 1) := by decide +kernel
set_option maxRecDepth 20000 in
theorem ggX8_mayBe_X8_termAt : GoodIn wsX8_mayBe wsX8_termAt := goodIn_r _ [6] (by decide +kernel) (by decide +kernel)
set_option maxRecDepth 20000 in
theorem gX8_mayBe_X8_termAt : GoodIn wsX8_mayBe (va_wsS RX8 98 yX8_termAt wsX8_termAt) := goodIn_app (goodIn_of _ (by decide +kernel)) ggX8_mayBe_X8_termAt
set_option maxRecDepth 20000 in
theorem ggX8_mayBe_X8_in : GoodIn wsX8_mayBe wsX8_in := goodIn_r _ [9] (by decide +kernel) (by decide +kernel)
set_option maxRecDepth 20000 in
theorem gX8_mayBe_X8_in : GoodIn wsX8_mayBe (va_wsS RX8 35 yX8_in wsX8_in) := goodIn_app (goodIn_of _ (by decide +kernel)) ggX8_mayBe_X8_in
theorem dX8_mayBe_0 : decode cX8_mayBe 0 = .ok (.iload_n 1, 1) := by decide +kernel
theorem dX8_mayBe_1 : decode cX8_mayBe 1 = .ok (.iload_n 3, 1) := by decide +kernel
theorem dX8_mayBe_2 : decode cX8_mayBe 2 = .ok (.invokestatic 98, 3) := by decide +kernel
theorem dX8_mayBe_5 : decode cX8_mayBe 5 = .ok (.istore 5, 2) := by decide +kernel
theorem dX8_mayBe_7 : decode cX8_mayBe 7 = .ok (.iconst 0, 1) := by decide +kernel
theorem dX8_mayBe_8 : decode cX8_mayBe 8 = .ok (.istore 6, 2) := by decide +kernel
theorem dX8_mayBe_10 : decode cX8_mayBe 10 = .ok (.iload 6, 2) := by decide +kernel
theorem dX8_mayBe_12 : decode cX8_mayBe 12 = .ok (.iload 4, 2) := by decide +kernel
theorem dX8_mayBe_14 : decode cX8_mayBe 14 = .ok (.if_icmp .ge 143, 3) := by decide +kernel
theorem dX8_mayBe_17 : decode cX8_mayBe 17 = .ok (.iload_n 1, 1) := by decide +kernel
theorem dX8_mayBe_18 : decode cX8_mayBe 18 = .ok (.iload 6, 2) := by decide +kernel
theorem dX8_mayBe_20 : decode cX8_mayBe 20 = .ok (.invokestatic 98, 3) := by decide +kernel
theorem dX8_mayBe_23 : decode cX8_mayBe 23 = .ok (.istore 7, 2) := by decide +kernel
theorem dX8_mayBe_25 : decode cX8_mayBe 25 = .ok (.aload_n 0, 1) := by decide +kernel
theorem dX8_mayBe_26 : decode cX8_mayBe 26 = .ok (.getfield 7, 3) := by decide +kernel
theorem dX8_mayBe_29 : decode cX8_mayBe 29 = .ok (.iload 7, 2) := by decide +kernel
theorem dX8_mayBe_31 : decode cX8_mayBe 31 = .ok (.iaload, 1) := by decide +kernel
theorem dX8_mayBe_32 : decode cX8_mayBe 32 = .ok (.iload_n 2, 1) := by decide +kernel
theorem dX8_mayBe_33 : decode cX8_mayBe 33 = .ok (.if_icmp .eq 6, 3) := by decide +kernel
theorem dX8_mayBe_36 : decode cX8_mayBe 36 = .ok (.goto 115, 3) := by decide +kernel
theorem dX8_mayBe_39 : decode cX8_mayBe 39 = .ok (.aload_n 0, 1) := by decide +kernel
theorem dX8_mayBe_40 : decode cX8_mayBe 40 = .ok (.getfield 7, 3) := by decide +kernel
theorem dX8_mayBe_43 : decode cX8_mayBe 43 = .ok (.iload 7, 2) := by decide +kernel
theorem dX8_mayBe_45 : decode cX8_mayBe 45 = .ok (.iconst 1, 1) := by decide +kernel
theorem dX8_mayBe_46 : decode cX8_mayBe 46 = .ok (.iadd, 1) := by decide +kernel
theorem dX8_mayBe_47 : decode cX8_mayBe 47 = .ok (.iaload, 1) := by decide +kernel
theorem dX8_mayBe_48 : decode cX8_mayBe 48 = .ok (.ifCond .ne 58, 3) := by decide +kernel
theorem dX8_mayBe_51 : decode cX8_mayBe 51 = .ok (.aload_n 0, 1) := by decide +kernel
theorem dX8_mayBe_52 : decode cX8_mayBe 52 = .ok (.getfield 7, 3) := by decide +kernel
theorem dX8_mayBe_55 : decode cX8_mayBe 55 = .ok (.iload 7, 2) := by decide +kernel
theorem dX8_mayBe_57 : decode cX8_mayBe 57 = .ok (.iconst 2, 1) := by decide +kernel
theorem dX8_mayBe_58 : decode cX8_mayBe 58 = .ok (.iadd, 1) := by decide +kernel
theorem dX8_mayBe_59 : decode cX8_mayBe 59 = .ok (.iaload, 1) := by decide +kernel
theorem dX8_mayBe_60 : decode cX8_mayBe 60 = .ok (.aload_n 0, 1) := by decide +kernel
theorem dX8_mayBe_61 : decode cX8_mayBe 61 = .ok (.getfield 7, 3) := by decide +kernel
theorem dX8_mayBe_64 : decode cX8_mayBe 64 = .ok (.iload 5, 2) := by decide +kernel
theorem dX8_mayBe_66 : decode cX8_mayBe 66 = .ok (.iconst 2, 1) := by decide +kernel
theorem dX8_mayBe_67 : decode cX8_mayBe 67 = .ok (.iadd, 1) := by decide +kernel
theorem dX8_mayBe_68 : decode cX8_mayBe 68 = .ok (.iaload, 1) := by decide +kernel
theorem dX8_mayBe_69 : decode cX8_mayBe 69 = .ok (.if_icmp .ne 37, 3) := by decide +kernel
theorem dX8_mayBe_72 : decode cX8_mayBe 72 = .ok (.aload_n 0, 1) := by decide +kernel
theorem dX8_mayBe_73 : decode cX8_mayBe 73 = .ok (.getfield 32, 3) := by decide +kernel
theorem dX8_mayBe_76 : decode cX8_mayBe 76 = .ok (.iload_n 3, 1) := by decide +kernel
theorem dX8_mayBe_77 : decode cX8_mayBe 77 = .ok (.iaload, 1) := by decide +kernel
theorem dX8_mayBe_78 : decode cX8_mayBe 78 = .ok (.aload_n 0, 1) := by decide +kernel
theorem dX8_mayBe_79 : decode cX8_mayBe 79 = .ok (.getfield 7, 3) := by decide +kernel
theorem dX8_mayBe_82 : decode cX8_mayBe 82 = .ok (.iload 7, 2) := by decide +kernel
theorem dX8_mayBe_84 : decode cX8_mayBe 84 = .ok (.iconst 3, 1) := by decide +kernel
theorem dX8_mayBe_85 : decode cX8_mayBe 85 = .ok (.iadd, 1) := by decide +kernel
theorem dX8_mayBe_86 : decode cX8_mayBe 86 = .ok (.iaload, 1) := by decide +kernel
theorem dX8_mayBe_87 : decode cX8_mayBe 87 = .ok (.aload_n 0, 1) := by decide +kernel
theorem dX8_mayBe_88 : decode cX8_mayBe 88 = .ok (.getfield 7, 3) := by decide +kernel
theorem dX8_mayBe_91 : decode cX8_mayBe 91 = .ok (.iload 7, 2) := by decide +kernel
theorem dX8_mayBe_93 : decode cX8_mayBe 93 = .ok (.iconst 4, 1) := by decide +kernel
theorem dX8_mayBe_94 : decode cX8_mayBe 94 = .ok (.iadd, 1) := by decide +kernel
theorem dX8_mayBe_95 : decode cX8_mayBe 95 = .ok (.iaload, 1) := by decide +kernel
theorem dX8_mayBe_96 : decode cX8_mayBe 96 = .ok (.invokestatic 35, 3) := by decide +kernel
theorem dX8_mayBe_99 : decode cX8_mayBe 99 = .ok (.ifCond .eq 7, 3) := by decide +kernel
theorem dX8_mayBe_102 : decode cX8_mayBe 102 = .ok (.iconst 1, 1) := by decide +kernel
theorem dX8_mayBe_103 : decode cX8_mayBe 103 = .ok (.goto 4, 3) := by decide +kernel
theorem dX8_mayBe_106 : decode cX8_mayBe 106 = .ok (.iconst 0, 1) := by decide +kernel
theorem dX8_mayBe_107 : decode cX8_mayBe 107 = .ok (.istore 8, 2) := by decide +kernel
theorem dX8_mayBe_109 : decode cX8_mayBe 109 = .ok (.iload 8, 2) := by decide +kernel
theorem dX8_mayBe_111 : decode cX8_mayBe 111 = .ok (.ifCond .ne 38, 3) := by decide +kernel
theorem dX8_mayBe_114 : decode cX8_mayBe 114 = .ok (.aload_n 0, 1) := by decide +kernel
theorem dX8_mayBe_115 : decode cX8_mayBe 115 = .ok (.getfield 7, 3) := by decide +kernel
theorem dX8_mayBe_118 : decode cX8_mayBe 118 = .ok (.iload 7, 2) := by decide +kernel
theorem dX8_mayBe_120 : decode cX8_mayBe 120 = .ok (.iconst 1, 1) := by decide +kernel
theorem dX8_mayBe_121 : decode cX8_mayBe 121 = .ok (.iadd, 1) := by decide +kernel
theorem dX8_mayBe_122 : decode cX8_mayBe 122 = .ok (.iaload, 1) := by decide +kernel
theorem dX8_mayBe_123 : decode cX8_mayBe 123 = .ok (.iconst 1, 1) := by decide +kernel
theorem dX8_mayBe_124 : decode cX8_mayBe 124 = .ok (.if_icmp .ne 27, 3) := by decide +kernel
theorem dX8_mayBe_127 : decode cX8_mayBe 127 = .ok (.iload 6, 2) := by decide +kernel
theorem dX8_mayBe_129 : decode cX8_mayBe 129 = .ok (.iload_n 3, 1) := by decide +kernel
theorem dX8_mayBe_130 : decode cX8_mayBe 130 = .ok (.if_icmp .ge 21, 3) := by decide +kernel
theorem dX8_mayBe_133 : decode cX8_mayBe 133 = .ok (.aload_n 0, 1) := by decide +kernel
theorem dX8_mayBe_134 : decode cX8_mayBe 134 = .ok (.getfield 32, 3) := by decide +kernel
theorem dX8_mayBe_137 : decode cX8_mayBe 137 = .ok (.iload 6, 2) := by decide +kernel
theorem dX8_mayBe_139 : decode cX8_mayBe 139 = .ok (.iaload, 1) := by decide +kernel
theorem dX8_mayBe_140 : decode cX8_mayBe 140 = .ok (.aload_n 0, 1) := by decide +kernel
theorem dX8_mayBe_141 : decode cX8_mayBe 141 = .ok (.getfield 32, 3) := by decide +kernel
theorem dX8_mayBe_144 : decode cX8_mayBe 144 = .ok (.iload_n 3, 1) := by decide +kernel
theorem dX8_mayBe_145 : decode cX8_mayBe 145 = .ok (.iaload, 1) := by decide +kernel
theorem dX8_mayBe_146 : decode cX8_mayBe 146 = .ok (.if_icmp .ne 5, 3) := by decide +kernel
theorem dX8_mayBe_149 : decode cX8_mayBe 149 = .ok (.iconst 0, 1) := by decide +kernel
theorem dX8_mayBe_150 : decode cX8_mayBe 150 = .ok (.ireturn, 1) := by decide +kernel
theorem dX8_mayBe_151 : decode cX8_mayBe 151 = .ok (.iinc 6 1, 3) := by decide +kernel
theorem dX8_mayBe_154 : decode cX8_mayBe 154 = .ok (.goto (-144), 3) := by decide +kernel
theorem dX8_mayBe_157 : decode cX8_mayBe 157 = .ok (.iconst 1, 1) := by decide +kernel
theorem dX8_mayBe_158 : decode cX8_mayBe 158 = .ok (.ireturn, 1) := by decide +kernel
set_option maxRecDepth 20000 in
theorem ggX8_hourFrom_X8_termAt : GoodIn wsX8_hourFrom wsX8_termAt := goodIn_r _ [6] (by decide +kernel) (by decide +kernel)
set_option maxRecDepth 20000 in
theorem gX8_hourFrom_X8_termAt : GoodIn wsX8_hourFrom (va_wsS RX8 98 yX8_termAt wsX8_termAt) := goodIn_app (goodIn_of _ (by decide +kernel)) ggX8_hourFrom_X8_termAt
set_option maxRecDepth 20000 in
theorem ggX8_hourFrom_X8_mayBe : GoodIn wsX8_hourFrom wsX8_mayBe := goodIn_r _ [10, 2, 1, 3, 4, 5, 6, 11, 12, 13, 14, 15, 16, 17, 18, 19, 20, 21, 22, 23, 24] (by decide +kernel) (by decide +kernel)
set_option maxRecDepth 20000 in
theorem gX8_hourFrom_X8_mayBe : GoodIn wsX8_hourFrom (wsV RX8 104 RX8 yX8_mayBe wsX8_mayBe) := goodIn_app (goodIn_of _ (by decide +kernel)) ggX8_hourFrom_X8_mayBe
theorem dX8_hourFrom_0 : decode cX8_hourFrom 0 = .ok (.aload_n 0, 1) := by decide +kernel
theorem dX8_hourFrom_1 : decode cX8_hourFrom 1 = .ok (.getfield 32, 3) := by decide +kernel
theorem dX8_hourFrom_4 : decode cX8_hourFrom 4 = .ok (.iload_n 3, 1) := by decide +kernel
theorem dX8_hourFrom_5 : decode cX8_hourFrom 5 = .ok (.iload 4, 2) := by decide +kernel
theorem dX8_hourFrom_7 : decode cX8_hourFrom 7 = .ok (.iastore, 1) := by decide +kernel
theorem dX8_hourFrom_8 : decode cX8_hourFrom 8 = .ok (.aload_n 0, 1) := by decide +kernel
theorem dX8_hourFrom_9 : decode cX8_hourFrom 9 = .ok (.getfield 32, 3) := by decide +kernel
theorem dX8_hourFrom_12 : decode cX8_hourFrom 12 = .ok (.iload_n 3, 1) := by decide +kernel
theorem dX8_hourFrom_13 : decode cX8_hourFrom 13 = .ok (.iaload, 1) := by decide +kernel
theorem dX8_hourFrom_14 : decode cX8_hourFrom 14 = .ok (.aload_n 0, 1) := by decide +kernel
theorem dX8_hourFrom_15 : decode cX8_hourFrom 15 = .ok (.getfield 7, 3) := by decide +kernel
theorem dX8_hourFrom_18 : decode cX8_hourFrom 18 = .ok (.iload_n 1, 1) := by decide +kernel
theorem dX8_hourFrom_19 : decode cX8_hourFrom 19 = .ok (.iload_n 3, 1) := by decide +kernel
theorem dX8_hourFrom_20 : decode cX8_hourFrom 20 = .ok (.invokestatic 98, 3) := by decide +kernel
theorem dX8_hourFrom_23 : decode cX8_hourFrom 23 = .ok (.iconst 4, 1) := by decide +kernel
theorem dX8_hourFrom_24 : decode cX8_hourFrom 24 = .ok (.iadd, 1) := by decide +kernel
theorem dX8_hourFrom_25 : decode cX8_hourFrom 25 = .ok (.iaload, 1) := by decide +kernel
theorem dX8_hourFrom_26 : decode cX8_hourFrom 26 = .ok (.if_icmp .gt 35, 3) := by decide +kernel
theorem dX8_hourFrom_29 : decode cX8_hourFrom 29 = .ok (.aload_n 0, 1) := by decide +kernel
theorem dX8_hourFrom_30 : decode cX8_hourFrom 30 = .ok (.iload_n 1, 1) := by decide +kernel
theorem dX8_hourFrom_31 : decode cX8_hourFrom 31 = .ok (.iload_n 2, 1) := by decide +kernel
theorem dX8_hourFrom_32 : decode cX8_hourFrom 32 = .ok (.iload_n 3, 1) := by decide +kernel
theorem dX8_hourFrom_33 : decode cX8_hourFrom 33 = .ok (.iload 5, 2) := by decide +kernel
theorem dX8_hourFrom_35 : decode cX8_hourFrom 35 = .ok (.invokevirtual 104, 3) := by decide +kernel
theorem dX8_hourFrom_38 : decode cX8_hourFrom 38 = .ok (.ifCond .eq 10, 3) := by decide +kernel
theorem dX8_hourFrom_41 : decode cX8_hourFrom 41 = .ok (.aload_n 0, 1) := by decide +kernel
theorem dX8_hourFrom_42 : decode cX8_hourFrom 42 = .ok (.getfield 32, 3) := by decide +kernel
theorem dX8_hourFrom_45 : decode cX8_hourFrom 45 = .ok (.iload_n 3, 1) := by decide +kernel
theorem dX8_hourFrom_46 : decode cX8_hourFrom 46 = .ok (.iaload, 1) := by decide +kernel
theorem dX8_hourFrom_47 : decode cX8_hourFrom 47 = .ok (.ireturn, 1) := by decide +kernel
theorem dX8_hourFrom_48 : decode cX8_hourFrom 48 = .ok (.aload_n 0, 1) := by decide +kernel
theorem dX8_hourFrom_49 : decode cX8_hourFrom 49 = .ok (.getfield 32, 3) := by decide +kernel
theorem dX8_hourFrom_52 : decode cX8_hourFrom 52 = .ok (.iload_n 3, 1) := by decide +kernel
theorem dX8_hourFrom_53 : decode cX8_hourFrom 53 = .ok (.dup2, 1) := by decide +kernel
theorem dX8_hourFrom_54 : decode cX8_hourFrom 54 = .ok (.iaload, 1) := by decide +kernel
theorem dX8_hourFrom_55 : decode cX8_hourFrom 55 = .ok (.iconst 1, 1) := by decide +kernel
theorem dX8_hourFrom_56 : decode cX8_hourFrom 56 = .ok (.iadd, 1) := by decide +kernel
theorem dX8_hourFrom_57 : decode cX8_hourFrom 57 = .ok (.iastore, 1) := by decide +kernel
theorem dX8_hourFrom_58 : decode cX8_hourFrom 58 = .ok (.goto (-50), 3) := by decide +kernel
theorem dX8_hourFrom_61 : decode cX8_hourFrom 61 = .ok (.iconst (-1), 1) := by decide +kernel
theorem dX8_hourFrom_62 : decode cX8_hourFrom 62 = .ok (.ireturn, 1) := by decide +kernel
set_option maxRecDepth 20000 in
theorem ggX8_next_X8_in : GoodIn wsX8_next wsX8_in := goodIn_r _ [4] (by decide +kernel) (by decide +kernel)
set_option maxRecDepth 20000 in
theorem gX8_next_X8_in : GoodIn wsX8_next (va_wsS RX8 35 yX8_in wsX8_in) := goodIn_app (goodIn_of _ (by decide +kernel)) ggX8_next_X8_in
set_option maxRecDepth 20000 in
theorem ggX8_next_X8_isOwn : GoodIn wsX8_next wsX8_isOwn := goodIn_r _ [8, 9, 10, 11, 3, 12, 13, 14, 15, 16, 17, 18, 19, 20, 21, 22, 23] (by decide +kernel) (by decide +kernel)
set_option maxRecDepth 20000 in
theorem gX8_next_X8_isOwn : GoodIn wsX8_next (wsV RX8 108 RX8 yX8_isOwn wsX8_isOwn) := goodIn_app (goodIn_of _ (by decide +kernel)) ggX8_next_X8_isOwn
theorem dX8_next_0 : decode cX8_next 0 = .ok (.iload_n 3, 1) := by decide +kernel
theorem dX8_next_1 : decode cX8_next 1 = .ok (.iload 4, 2) := by decide +kernel
theorem dX8_next_3 : decode cX8_next 3 = .ok (.iadd, 1) := by decide +kernel
theorem dX8_next_4 : decode cX8_next 4 = .ok (.istore 6, 2) := by decide +kernel
theorem dX8_next_6 : decode cX8_next 6 = .ok (.iload 6, 2) := by decide +kernel
theorem dX8_next_8 : decode cX8_next 8 = .ok (.iconst 0, 1) := by decide +kernel
theorem dX8_next_9 : decode cX8_next 9 = .ok (.iload 5, 2) := by decide +kernel
theorem dX8_next_11 : decode cX8_next 11 = .ok (.iconst 1, 1) := by decide +kernel
theorem dX8_next_12 : decode cX8_next 12 = .ok (.isub, 1) := by decide +kernel
theorem dX8_next_13 : decode cX8_next 13 = .ok (.invokestatic 35, 3) := by decide +kernel
theorem dX8_next_16 : decode cX8_next 16 = .ok (.ifCond .eq 24, 3) := by decide +kernel
theorem dX8_next_19 : decode cX8_next 19 = .ok (.aload_n 0, 1) := by decide +kernel
theorem dX8_next_20 : decode cX8_next 20 = .ok (.iload_n 1, 1) := by decide +kernel
theorem dX8_next_21 : decode cX8_next 21 = .ok (.iload_n 2, 1) := by decide +kernel
theorem dX8_next_22 : decode cX8_next 22 = .ok (.iload 6, 2) := by decide +kernel
theorem dX8_next_24 : decode cX8_next 24 = .ok (.invokevirtual 108, 3) := by decide +kernel
theorem dX8_next_27 : decode cX8_next 27 = .ok (.ifCond .ne 13, 3) := by decide +kernel
theorem dX8_next_30 : decode cX8_next 30 = .ok (.iload 6, 2) := by decide +kernel
theorem dX8_next_32 : decode cX8_next 32 = .ok (.iload 4, 2) := by decide +kernel
theorem dX8_next_34 : decode cX8_next 34 = .ok (.iadd, 1) := by decide +kernel
theorem dX8_next_35 : decode cX8_next 35 = .ok (.istore 6, 2) := by decide +kernel
theorem dX8_next_37 : decode cX8_next 37 = .ok (.goto (-31), 3) := by decide +kernel
theorem dX8_next_40 : decode cX8_next 40 = .ok (.iload 6, 2) := by decide +kernel
theorem dX8_next_42 : decode cX8_next 42 = .ok (.ireturn, 1) := by decide +kernel
set_option maxRecDepth 20000 in
theorem ggX8_makeTable_X8_next : GoodIn wsX8_makeTable wsX8_next := goodIn_r _ [7, 8, 9, 6, 10, 11, 12, 13, 14, 1, 15, 16, 17, 26, 27, 28, 29, 30, 31, 32, 33, 34, 35, 36] (by decide +kernel) (by decide +kernel)
set_option maxRecDepth 20000 in
theorem gX8_makeTable_X8_next : GoodIn wsX8_makeTable (wsV RX8 111 RX8 yX8_next wsX8_next) := goodIn_app (goodIn_of _ (by decide +kernel)) ggX8_makeTable_X8_next
set_option maxRecDepth 20000 in
theorem ggX8_makeTable_X8_termAt : GoodIn wsX8_makeTable wsX8_termAt := goodIn_r _ [17] (by decide +kernel) (by decide +kernel)
set_option maxRecDepth 20000 in
theorem gX8_makeTable_X8_termAt : GoodIn wsX8_makeTable (va_wsS RX8 98 yX8_termAt wsX8_termAt) := goodIn_app (goodIn_of _ (by decide +kernel)) ggX8_makeTable_X8_termAt
set_option maxRecDepth 20000 in
theorem ggX8_makeTable_X8_hourFrom : GoodIn wsX8_makeTable wsX8_hourFrom := goodIn_r _ [21, 2, 1, 15, 16, 6, 17, 22, 23, 24, 25, 8, 9, 10, 26, 27, 28, 29, 30, 31, 32, 33, 34, 35, 36] (by decide +kernel) (by decide +kernel)
set_option maxRecDepth 20000 in
theorem gX8_makeTable_X8_hourFrom : GoodIn wsX8_makeTable (wsV RX8 115 RX8 yX8_hourFrom wsX8_hourFrom) := goodIn_app (goodIn_of _ (by decide +kernel)) ggX8_makeTable_X8_hourFrom
theorem dX8_makeTable_0 : decode cX8_makeTable 0 = .ok (.aload_n 0, 1) := by decide +kernel
theorem dX8_makeTable_1 : decode cX8_makeTable 1 = .ok (.iload_n 1, 1) := by decide +kernel
theorem dX8_makeTable_2 : decode cX8_makeTable 2 = .ok (.iload_n 2, 1) := by decide +kernel
theorem dX8_makeTable_3 : decode cX8_makeTable 3 = .ok (.iconst (-1), 1) := by decide +kernel
theorem dX8_makeTable_4 : decode cX8_makeTable 4 = .ok (.iconst 1, 1) := by decide +kernel
theorem dX8_makeTable_5 : decode cX8_makeTable 5 = .ok (.iload_n 3, 1) := by decide +kernel
theorem dX8_makeTable_6 : decode cX8_makeTable 6 = .ok (.invokevirtual 111, 3) := by decide +kernel
theorem dX8_makeTable_9 : decode cX8_makeTable 9 = .ok (.istore 4, 2) := by decide +kernel
theorem dX8_makeTable_11 : decode cX8_makeTable 11 = .ok (.iload 4, 2) := by decide +kernel
theorem dX8_makeTable_13 : decode cX8_makeTable 13 = .ok (.iload_n 3, 1) := by decide +kernel
theorem dX8_makeTable_14 : decode cX8_makeTable 14 = .ok (.if_icmp .ge 19, 3) := by decide +kernel
theorem dX8_makeTable_17 : decode cX8_makeTable 17 = .ok (.aload_n 0, 1) := by decide +kernel
theorem dX8_makeTable_18 : decode cX8_makeTable 18 = .ok (.getfield 7, 3) := by decide +kernel
theorem dX8_makeTable_21 : decode cX8_makeTable 21 = .ok (.iload_n 1, 1) := by decide +kernel
theorem dX8_makeTable_22 : decode cX8_makeTable 22 = .ok (.iload 4, 2) := by decide +kernel
theorem dX8_makeTable_24 : decode cX8_makeTable 24 = .ok (.invokestatic 98, 3) := by decide +kernel
theorem dX8_makeTable_27 : decode cX8_makeTable 27 = .ok (.iconst 3, 1) := by decide +kernel
theorem dX8_makeTable_28 : decode cX8_makeTable 28 = .ok (.iadd, 1) := by decide +kernel
theorem dX8_makeTable_29 : decode cX8_makeTable 29 = .ok (.iaload, 1) := by decide +kernel
theorem dX8_makeTable_30 : decode cX8_makeTable 30 = .ok (.goto 4, 3) := by decide +kernel
theorem dX8_makeTable_33 : decode cX8_makeTable 33 = .ok (.iconst 0, 1) := by decide +kernel
theorem dX8_makeTable_34 : decode cX8_makeTable 34 = .ok (.istore 5, 2) := by decide +kernel
theorem dX8_makeTable_36 : decode cX8_makeTable 36 = .ok (.iload 4, 2) := by decide +kernel
theorem dX8_makeTable_38 : decode cX8_makeTable 38 = .ok (.ifCond .lt 102, 3) := by decide +kernel
theorem dX8_makeTable_41 : decode cX8_makeTable 41 = .ok (.iload 4, 2) := by decide +kernel
theorem dX8_makeTable_43 : decode cX8_makeTable 43 = .ok (.iload_n 3, 1) := by decide +kernel
theorem dX8_makeTable_44 : decode cX8_makeTable 44 = .ok (.if_icmp .ge 96, 3) := by decide +kernel
theorem dX8_makeTable_47 : decode cX8_makeTable 47 = .ok (.aload_n 0, 1) := by decide +kernel
theorem dX8_makeTable_48 : decode cX8_makeTable 48 = .ok (.iload_n 1, 1) := by decide +kernel
theorem dX8_makeTable_49 : decode cX8_makeTable 49 = .ok (.iload_n 2, 1) := by decide +kernel
theorem dX8_makeTable_50 : decode cX8_makeTable 50 = .ok (.iload 4, 2) := by decide +kernel
theorem dX8_makeTable_52 : decode cX8_makeTable 52 = .ok (.iload 5, 2) := by decide +kernel
theorem dX8_makeTable_54 : decode cX8_makeTable 54 = .ok (.iload_n 3, 1) := by decide +kernel
theorem dX8_makeTable_55 : decode cX8_makeTable 55 = .ok (.invokevirtual 115, 3) := by decide +kernel
theorem dX8_makeTable_58 : decode cX8_makeTable 58 = .ok (.istore 6, 2) := by decide +kernel
theorem dX8_makeTable_60 : decode cX8_makeTable 60 = .ok (.iload 6, 2) := by decide +kernel
theorem dX8_makeTable_62 : decode cX8_makeTable 62 = .ok (.ifCond .lt 43, 3) := by decide +kernel
theorem dX8_makeTable_65 : decode cX8_makeTable 65 = .ok (.aload_n 0, 1) := by decide +kernel
theorem dX8_makeTable_66 : decode cX8_makeTable 66 = .ok (.iload_n 1, 1) := by decide +kernel
theorem dX8_makeTable_67 : decode cX8_makeTable 67 = .ok (.iload_n 2, 1) := by decide +kernel
theorem dX8_makeTable_68 : decode cX8_makeTable 68 = .ok (.iload 4, 2) := by decide +kernel
theorem dX8_makeTable_70 : decode cX8_makeTable 70 = .ok (.iconst 1, 1) := by decide +kernel
theorem dX8_makeTable_71 : decode cX8_makeTable 71 = .ok (.iload_n 3, 1) := by decide +kernel
theorem dX8_makeTable_72 : decode cX8_makeTable 72 = .ok (.invokevirtual 111, 3) := by decide +kernel
theorem dX8_makeTable_75 : decode cX8_makeTable 75 = .ok (.istore 4, 2) := by decide +kernel
theorem dX8_makeTable_77 : decode cX8_makeTable 77 = .ok (.iload 4, 2) := by decide +kernel
theorem dX8_makeTable_79 : decode cX8_makeTable 79 = .ok (.iload_n 3, 1) := by decide +kernel
theorem dX8_makeTable_80 : decode cX8_makeTable 80 = .ok (.if_icmp .ge 19, 3) := by decide +kernel
theorem dX8_makeTable_83 : decode cX8_makeTable 83 = .ok (.aload_n 0, 1) := by decide +kernel
theorem dX8_makeTable_84 : decode cX8_makeTable 84 = .ok (.getfield 7, 3) := by decide +kernel
theorem dX8_makeTable_87 : decode cX8_makeTable 87 = .ok (.iload_n 1, 1) := by decide +kernel
theorem dX8_makeTable_88 : decode cX8_makeTable 88 = .ok (.iload 4, 2) := by decide +kernel
theorem dX8_makeTable_90 : decode cX8_makeTable 90 = .ok (.invokestatic 98, 3) := by decide +kernel
theorem dX8_makeTable_93 : decode cX8_makeTable 93 = .ok (.iconst 3, 1) := by decide +kernel
theorem dX8_makeTable_94 : decode cX8_makeTable 94 = .ok (.iadd, 1) := by decide +kernel
theorem dX8_makeTable_95 : decode cX8_makeTable 95 = .ok (.iaload, 1) := by decide +kernel
theorem dX8_makeTable_96 : decode cX8_makeTable 96 = .ok (.goto 4, 3) := by decide +kernel
theorem dX8_makeTable_99 : decode cX8_makeTable 99 = .ok (.iconst 0, 1) := by decide +kernel
theorem dX8_makeTable_100 : decode cX8_makeTable 100 = .ok (.istore 5, 2) := by decide +kernel
theorem dX8_makeTable_102 : decode cX8_makeTable 102 = .ok (.goto 35, 3) := by decide +kernel
theorem dX8_makeTable_105 : decode cX8_makeTable 105 = .ok (.aload_n 0, 1) := by decide +kernel
theorem dX8_makeTable_106 : decode cX8_makeTable 106 = .ok (.iload_n 1, 1) := by decide +kernel
theorem dX8_makeTable_107 : decode cX8_makeTable 107 = .ok (.iload_n 2, 1) := by decide +kernel
theorem dX8_makeTable_108 : decode cX8_makeTable 108 = .ok (.iload 4, 2) := by decide +kernel
theorem dX8_makeTable_110 : decode cX8_makeTable 110 = .ok (.iconst (-1), 1) := by decide +kernel
theorem dX8_makeTable_111 : decode cX8_makeTable 111 = .ok (.iload_n 3, 1) := by decide +kernel
theorem dX8_makeTable_112 : decode cX8_makeTable 112 = .ok (.invokevirtual 111, 3) := by decide +kernel
theorem dX8_makeTable_115 : decode cX8_makeTable 115 = .ok (.istore 4, 2) := by decide +kernel
theorem dX8_makeTable_117 : decode cX8_makeTable 117 = .ok (.iload 4, 2) := by decide +kernel
theorem dX8_makeTable_119 : decode cX8_makeTable 119 = .ok (.ifCond .ge 7, 3) := by decide +kernel
theorem dX8_makeTable_122 : decode cX8_makeTable 122 = .ok (.iconst 0, 1) := by decide +kernel
theorem dX8_makeTable_123 : decode cX8_makeTable 123 = .ok (.goto 12, 3) := by decide +kernel
theorem dX8_makeTable_126 : decode cX8_makeTable 126 = .ok (.aload_n 0, 1) := by decide +kernel
theorem dX8_makeTable_127 : decode cX8_makeTable 127 = .ok (.getfield 32, 3) := by decide +kernel
theorem dX8_makeTable_130 : decode cX8_makeTable 130 = .ok (.iload 4, 2) := by decide +kernel
theorem dX8_makeTable_132 : decode cX8_makeTable 132 = .ok (.iaload, 1) := by decide +kernel
theorem dX8_makeTable_133 : decode cX8_makeTable 133 = .ok (.iconst 1, 1) := by decide +kernel
theorem dX8_makeTable_134 : decode cX8_makeTable 134 = .ok (.iadd, 1) := by decide +kernel
theorem dX8_makeTable_135 : decode cX8_makeTable 135 = .ok (.istore 5, 2) := by decide +kernel
theorem dX8_makeTable_137 : decode cX8_makeTable 137 = .ok (.goto (-101), 3) := by decide +kernel
theorem dX8_makeTable_140 : decode cX8_makeTable 140 = .ok (.iload 4, 2) := by decide +kernel
theorem dX8_makeTable_142 : decode cX8_makeTable 142 = .ok (.ifCond .lt 7, 3) := by decide +kernel
theorem dX8_makeTable_145 : decode cX8_makeTable 145 = .ok (.iconst 1, 1) := by decide +kernel
theorem dX8_makeTable_146 : decode cX8_makeTable 146 = .ok (.goto 4, 3) := by decide +kernel
theorem dX8_makeTable_149 : decode cX8_makeTable 149 = .ok (.iconst 0, 1) := by decide +kernel
theorem dX8_makeTable_150 : decode cX8_makeTable 150 = .ok (.ireturn, 1) := by decide +kernel
set_option maxRecDepth 20000 in
theorem ggX8_hour_X8_isTerm : GoodIn wsX8_hour wsX8_isTerm := goodIn_r _ [7, 1, 8, 9, 10, 6, 11, 12, 13, 14, 15, 16, 17, 41, 42, 43, 44, 45, 46, 47, 48, 49, 50, 51] (by decide +kernel) (by decide +kernel)
set_option maxRecDepth 20000 in
theorem gX8_hour_X8_isTerm : GoodIn wsX8_hour (wsV RX8 101 RX8 yX8_isTerm wsX8_isTerm) := goodIn_app (goodIn_of _ (by decide +kernel)) ggX8_hour_X8_isTerm
set_option maxRecDepth 20000 in
theorem ggX8_hour_X8_termAt : GoodIn wsX8_hour wsX8_termAt := goodIn_r _ [20] (by decide +kernel) (by decide +kernel)
set_option maxRecDepth 20000 in
theorem gX8_hour_X8_termAt : GoodIn wsX8_hour (va_wsS RX8 98 yX8_termAt wsX8_termAt) := goodIn_app (goodIn_of _ (by decide +kernel)) ggX8_hour_X8_termAt
set_option maxRecDepth 20000 in
theorem ggX8_hour_X8_at : GoodIn wsX8_hour wsX8_at := goodIn_r _ [17] (by decide +kernel) (by decide +kernel)
set_option maxRecDepth 20000 in
theorem gX8_hour_X8_at : GoodIn wsX8_hour (va_wsS RX8 46 yX8_at wsX8_at) := goodIn_app (goodIn_of _ (by decide +kernel)) ggX8_hour_X8_at
set_option maxRecDepth 20000 in
theorem ggX8_hour_X8_makeTable : GoodIn wsX8_hour wsX8_makeTable := goodIn_r _ [24, 1, 2, 25, 26, 27, 6, 28, 12, 13, 14, 29, 30, 31, 32, 18, 19, 20, 33, 34, 35, 36, 37, 38, 39, 40, 41, 42, 43, 44, 45, 46, 47, 48, 49, 50, 51] (by decide +kernel) (by decide +kernel)
set_option maxRecDepth 20000 in
theorem gX8_hour_X8_makeTable : GoodIn wsX8_hour (wsV RX8 118 RX8 yX8_makeTable wsX8_makeTable) := goodIn_app (goodIn_of _ (by decide +kernel)) ggX8_hour_X8_makeTable
theorem dX8_hour_0 : decode cX8_hour 0 = .ok (.aload_n 0, 1) := by decide +kernel
theorem dX8_hour_1 : decode cX8_hour 1 = .ok (.iload_n 1, 1) := by decide +kernel
theorem dX8_hour_2 : decode cX8_hour 2 = .ok (.iload_n 2, 1) := by decide +kernel
theorem dX8_hour_3 : decode cX8_hour 3 = .ok (.invokevirtual 101, 3) := by decide +kernel
theorem dX8_hour_6 : decode cX8_hour 6 = .ok (.ifCond .ne 5, 3) := by decide +kernel
theorem dX8_hour_9 : decode cX8_hour 9 = .ok (.iconst (-1), 1) := by decide +kernel
theorem dX8_hour_10 : decode cX8_hour 10 = .ok (.ireturn, 1) := by decide +kernel
theorem dX8_hour_11 : decode cX8_hour 11 = .ok (.aload_n 0, 1) := by decide +kernel
theorem dX8_hour_12 : decode cX8_hour 12 = .ok (.getfield 7, 3) := by decide +kernel
theorem dX8_hour_15 : decode cX8_hour 15 = .ok (.iload_n 1, 1) := by decide +kernel
theorem dX8_hour_16 : decode cX8_hour 16 = .ok (.iload_n 2, 1) := by decide +kernel
theorem dX8_hour_17 : decode cX8_hour 17 = .ok (.invokestatic 98, 3) := by decide +kernel
theorem dX8_hour_20 : decode cX8_hour 20 = .ok (.iaload, 1) := by decide +kernel
theorem dX8_hour_21 : decode cX8_hour 21 = .ok (.istore_n 3, 1) := by decide +kernel
theorem dX8_hour_22 : decode cX8_hour 22 = .ok (.aload_n 0, 1) := by decide +kernel
theorem dX8_hour_23 : decode cX8_hour 23 = .ok (.getfield 7, 3) := by decide +kernel
theorem dX8_hour_26 : decode cX8_hour 26 = .ok (.iload_n 1, 1) := by decide +kernel
theorem dX8_hour_27 : decode cX8_hour 27 = .ok (.iload_n 2, 1) := by decide +kernel
theorem dX8_hour_28 : decode cX8_hour 28 = .ok (.invokestatic 98, 3) := by decide +kernel
theorem dX8_hour_31 : decode cX8_hour 31 = .ok (.iconst 1, 1) := by decide +kernel
theorem dX8_hour_32 : decode cX8_hour 32 = .ok (.iadd, 1) := by decide +kernel
theorem dX8_hour_33 : decode cX8_hour 33 = .ok (.iaload, 1) := by decide +kernel
theorem dX8_hour_34 : decode cX8_hour 34 = .ok (.ifCond .ne 6, 3) := by decide +kernel
theorem dX8_hour_37 : decode cX8_hour 37 = .ok (.bipush (-4), 2) := by decide +kernel
theorem dX8_hour_39 : decode cX8_hour 39 = .ok (.ireturn, 1) := by decide +kernel
theorem dX8_hour_40 : decode cX8_hour 40 = .ok (.aload_n 0, 1) := by decide +kernel
theorem dX8_hour_41 : decode cX8_hour 41 = .ok (.iload_n 1, 1) := by decide +kernel
theorem dX8_hour_42 : decode cX8_hour 42 = .ok (.iload_n 3, 1) := by decide +kernel
theorem dX8_hour_43 : decode cX8_hour 43 = .ok (.aload_n 0, 1) := by decide +kernel
theorem dX8_hour_44 : decode cX8_hour 44 = .ok (.getfield 7, 3) := by decide +kernel
theorem dX8_hour_47 : decode cX8_hour 47 = .ok (.iload_n 1, 1) := by decide +kernel
theorem dX8_hour_48 : decode cX8_hour 48 = .ok (.bipush 6, 2) := by decide +kernel
theorem dX8_hour_50 : decode cX8_hour 50 = .ok (.invokestatic 46, 3) := by decide +kernel
theorem dX8_hour_53 : decode cX8_hour 53 = .ok (.iaload, 1) := by decide +kernel
theorem dX8_hour_54 : decode cX8_hour 54 = .ok (.invokevirtual 118, 3) := by decide +kernel
theorem dX8_hour_57 : decode cX8_hour 57 = .ok (.ifCond .eq 12, 3) := by decide +kernel
theorem dX8_hour_60 : decode cX8_hour 60 = .ok (.aload_n 0, 1) := by decide +kernel
theorem dX8_hour_61 : decode cX8_hour 61 = .ok (.getfield 32, 3) := by decide +kernel
theorem dX8_hour_64 : decode cX8_hour 64 = .ok (.iload_n 2, 1) := by decide +kernel
theorem dX8_hour_65 : decode cX8_hour 65 = .ok (.iaload, 1) := by decide +kernel
theorem dX8_hour_66 : decode cX8_hour 66 = .ok (.goto 5, 3) := by decide +kernel
theorem dX8_hour_69 : decode cX8_hour 69 = .ok (.bipush (-5), 2) := by decide +kernel
theorem dX8_hour_71 : decode cX8_hour 71 = .ok (.ireturn, 1) := by decide +kernel
set_option maxRecDepth 20000 in
theorem ggX8_canHold_X8_isCase : GoodIn wsX8_canHold wsX8_isCase := goodIn_r _ [6, 1, 7, 8, 5, 9, 40, 41, 42, 43, 44, 45, 46, 47, 48, 49, 50] (by decide +kernel) (by decide +kernel)
set_option maxRecDepth 20000 in
theorem gX8_canHold_X8_isCase : GoodIn wsX8_canHold (wsV RX8 50 RX8 yX8_isCase wsX8_isCase) := goodIn_app (goodIn_of _ (by decide +kernel)) ggX8_canHold_X8_isCase
set_option maxRecDepth 20000 in
theorem ggX8_canHold_X8_isSide : GoodIn wsX8_canHold wsX8_isSide := goodIn_r _ [12, 7, 8, 5, 9] (by decide +kernel) (by decide +kernel)
set_option maxRecDepth 20000 in
theorem gX8_canHold_X8_isSide : GoodIn wsX8_canHold (va_wsS RX8 60 yX8_isSide wsX8_isSide) := goodIn_app (goodIn_of _ (by decide +kernel)) ggX8_canHold_X8_isSide
set_option maxRecDepth 20000 in
theorem ggX8_canHold_X8_at : GoodIn wsX8_canHold wsX8_at := goodIn_r _ [15] (by decide +kernel) (by decide +kernel)
set_option maxRecDepth 20000 in
theorem gX8_canHold_X8_at : GoodIn wsX8_canHold (va_wsS RX8 46 yX8_at wsX8_at) := goodIn_app (goodIn_of _ (by decide +kernel)) ggX8_canHold_X8_at
set_option maxRecDepth 20000 in
theorem ggX8_canHold_X8_makeTable : GoodIn wsX8_canHold wsX8_makeTable := goodIn_r _ [19, 1, 20, 21, 22, 23, 5, 24, 7, 8, 9, 25, 26, 27, 28, 29, 30, 31, 32, 33, 34, 35, 36, 37, 38, 39, 40, 41, 42, 43, 44, 45, 46, 47, 48, 49, 50] (by decide +kernel) (by decide +kernel)
set_option maxRecDepth 20000 in
theorem gX8_canHold_X8_makeTable : GoodIn wsX8_canHold (wsV RX8 118 RX8 yX8_makeTable wsX8_makeTable) := goodIn_app (goodIn_of _ (by decide +kernel)) ggX8_canHold_X8_makeTable
theorem dX8_canHold_0 : decode cX8_canHold 0 = .ok (.aload_n 0, 1) := by decide +kernel
theorem dX8_canHold_1 : decode cX8_canHold 1 = .ok (.iload_n 1, 1) := by decide +kernel
theorem dX8_canHold_2 : decode cX8_canHold 2 = .ok (.invokevirtual 50, 3) := by decide +kernel
theorem dX8_canHold_5 : decode cX8_canHold 5 = .ok (.ifCond .eq 10, 3) := by decide +kernel
theorem dX8_canHold_8 : decode cX8_canHold 8 = .ok (.iload_n 2, 1) := by decide +kernel
theorem dX8_canHold_9 : decode cX8_canHold 9 = .ok (.invokestatic 60, 3) := by decide +kernel
theorem dX8_canHold_12 : decode cX8_canHold 12 = .ok (.ifCond .ne 5, 3) := by decide +kernel
theorem dX8_canHold_15 : decode cX8_canHold 15 = .ok (.iconst (-1), 1) := by decide +kernel
theorem dX8_canHold_16 : decode cX8_canHold 16 = .ok (.ireturn, 1) := by decide +kernel
theorem dX8_canHold_17 : decode cX8_canHold 17 = .ok (.aload_n 0, 1) := by decide +kernel
theorem dX8_canHold_18 : decode cX8_canHold 18 = .ok (.iload_n 1, 1) := by decide +kernel
theorem dX8_canHold_19 : decode cX8_canHold 19 = .ok (.iload_n 2, 1) := by decide +kernel
theorem dX8_canHold_20 : decode cX8_canHold 20 = .ok (.aload_n 0, 1) := by decide +kernel
theorem dX8_canHold_21 : decode cX8_canHold 21 = .ok (.getfield 7, 3) := by decide +kernel
theorem dX8_canHold_24 : decode cX8_canHold 24 = .ok (.iload_n 1, 1) := by decide +kernel
theorem dX8_canHold_25 : decode cX8_canHold 25 = .ok (.bipush 6, 2) := by decide +kernel
theorem dX8_canHold_27 : decode cX8_canHold 27 = .ok (.invokestatic 46, 3) := by decide +kernel
theorem dX8_canHold_30 : decode cX8_canHold 30 = .ok (.iaload, 1) := by decide +kernel
theorem dX8_canHold_31 : decode cX8_canHold 31 = .ok (.invokevirtual 118, 3) := by decide +kernel
theorem dX8_canHold_34 : decode cX8_canHold 34 = .ok (.ifCond .eq 7, 3) := by decide +kernel
theorem dX8_canHold_37 : decode cX8_canHold 37 = .ok (.iconst 1, 1) := by decide +kernel
theorem dX8_canHold_38 : decode cX8_canHold 38 = .ok (.goto 4, 3) := by decide +kernel
theorem dX8_canHold_41 : decode cX8_canHold 41 = .ok (.iconst 0, 1) := by decide +kernel
theorem dX8_canHold_42 : decode cX8_canHold 42 = .ok (.ireturn, 1) := by decide +kernel
set_option maxRecDepth 20000 in
theorem ggX8_breaks_X8_isCase : GoodIn wsX8_breaks wsX8_isCase := goodIn_r _ [6, 1, 7, 8, 5, 9, 40, 41, 42, 43, 44, 45, 46, 47, 48, 49, 50] (by decide +kernel) (by decide +kernel)
set_option maxRecDepth 20000 in
theorem gX8_breaks_X8_isCase : GoodIn wsX8_breaks (wsV RX8 50 RX8 yX8_isCase wsX8_isCase) := goodIn_app (goodIn_of _ (by decide +kernel)) ggX8_breaks_X8_isCase
set_option maxRecDepth 20000 in
theorem ggX8_breaks_X8_isSide : GoodIn wsX8_breaks wsX8_isSide := goodIn_r _ [12, 7, 8, 5, 9] (by decide +kernel) (by decide +kernel)
set_option maxRecDepth 20000 in
theorem gX8_breaks_X8_isSide : GoodIn wsX8_breaks (va_wsS RX8 60 yX8_isSide wsX8_isSide) := goodIn_app (goodIn_of _ (by decide +kernel)) ggX8_breaks_X8_isSide
set_option maxRecDepth 20000 in
theorem ggX8_breaks_X8_at : GoodIn wsX8_breaks wsX8_at := goodIn_r _ [15] (by decide +kernel) (by decide +kernel)
set_option maxRecDepth 20000 in
theorem gX8_breaks_X8_at : GoodIn wsX8_breaks (va_wsS RX8 46 yX8_at wsX8_at) := goodIn_app (goodIn_of _ (by decide +kernel)) ggX8_breaks_X8_at
set_option maxRecDepth 20000 in
theorem ggX8_breaks_X8_termAt : GoodIn wsX8_breaks wsX8_termAt := goodIn_r _ [18] (by decide +kernel) (by decide +kernel)
set_option maxRecDepth 20000 in
theorem gX8_breaks_X8_termAt : GoodIn wsX8_breaks (va_wsS RX8 98 yX8_termAt wsX8_termAt) := goodIn_app (goodIn_of _ (by decide +kernel)) ggX8_breaks_X8_termAt
set_option maxRecDepth 20000 in
theorem ggX8_breaks_X8_makeTable : GoodIn wsX8_breaks wsX8_makeTable := goodIn_r _ [22, 1, 23, 24, 25, 26, 5, 27, 7, 8, 9, 28, 29, 30, 31, 16, 17, 18, 32, 33, 34, 35, 36, 37, 38, 39, 40, 41, 42, 43, 44, 45, 46, 47, 48, 49, 50] (by decide +kernel) (by decide +kernel)
set_option maxRecDepth 20000 in
theorem gX8_breaks_X8_makeTable : GoodIn wsX8_breaks (wsV RX8 118 RX8 yX8_makeTable wsX8_makeTable) := goodIn_app (goodIn_of _ (by decide +kernel)) ggX8_breaks_X8_makeTable
theorem dX8_breaks_0 : decode cX8_breaks 0 = .ok (.aload_n 0, 1) := by decide +kernel
theorem dX8_breaks_1 : decode cX8_breaks 1 = .ok (.iload_n 1, 1) := by decide +kernel
theorem dX8_breaks_2 : decode cX8_breaks 2 = .ok (.invokevirtual 50, 3) := by decide +kernel
theorem dX8_breaks_5 : decode cX8_breaks 5 = .ok (.ifCond .eq 10, 3) := by decide +kernel
theorem dX8_breaks_8 : decode cX8_breaks 8 = .ok (.iload_n 2, 1) := by decide +kernel
theorem dX8_breaks_9 : decode cX8_breaks 9 = .ok (.invokestatic 60, 3) := by decide +kernel
theorem dX8_breaks_12 : decode cX8_breaks 12 = .ok (.ifCond .ne 5, 3) := by decide +kernel
theorem dX8_breaks_15 : decode cX8_breaks 15 = .ok (.iconst (-1), 1) := by decide +kernel
theorem dX8_breaks_16 : decode cX8_breaks 16 = .ok (.ireturn, 1) := by decide +kernel
theorem dX8_breaks_17 : decode cX8_breaks 17 = .ok (.iconst 0, 1) := by decide +kernel
theorem dX8_breaks_18 : decode cX8_breaks 18 = .ok (.istore_n 3, 1) := by decide +kernel
theorem dX8_breaks_19 : decode cX8_breaks 19 = .ok (.iload_n 3, 1) := by decide +kernel
theorem dX8_breaks_20 : decode cX8_breaks 20 = .ok (.aload_n 0, 1) := by decide +kernel
theorem dX8_breaks_21 : decode cX8_breaks 21 = .ok (.getfield 7, 3) := by decide +kernel
theorem dX8_breaks_24 : decode cX8_breaks 24 = .ok (.iload_n 1, 1) := by decide +kernel
theorem dX8_breaks_25 : decode cX8_breaks 25 = .ok (.bipush 6, 2) := by decide +kernel
theorem dX8_breaks_27 : decode cX8_breaks 27 = .ok (.invokestatic 46, 3) := by decide +kernel
theorem dX8_breaks_30 : decode cX8_breaks 30 = .ok (.iaload, 1) := by decide +kernel
theorem dX8_breaks_31 : decode cX8_breaks 31 = .ok (.if_icmp .ge 37, 3) := by decide +kernel
theorem dX8_breaks_34 : decode cX8_breaks 34 = .ok (.aload_n 0, 1) := by decide +kernel
theorem dX8_breaks_35 : decode cX8_breaks 35 = .ok (.getfield 7, 3) := by decide +kernel
theorem dX8_breaks_38 : decode cX8_breaks 38 = .ok (.iload_n 1, 1) := by decide +kernel
theorem dX8_breaks_39 : decode cX8_breaks 39 = .ok (.iload_n 3, 1) := by decide +kernel
theorem dX8_breaks_40 : decode cX8_breaks 40 = .ok (.invokestatic 98, 3) := by decide +kernel
theorem dX8_breaks_43 : decode cX8_breaks 43 = .ok (.iaload, 1) := by decide +kernel
theorem dX8_breaks_44 : decode cX8_breaks 44 = .ok (.iload_n 2, 1) := by decide +kernel
theorem dX8_breaks_45 : decode cX8_breaks 45 = .ok (.if_icmp .ne 17, 3) := by decide +kernel
theorem dX8_breaks_48 : decode cX8_breaks 48 = .ok (.aload_n 0, 1) := by decide +kernel
theorem dX8_breaks_49 : decode cX8_breaks 49 = .ok (.iload_n 1, 1) := by decide +kernel
theorem dX8_breaks_50 : decode cX8_breaks 50 = .ok (.iload_n 2, 1) := by decide +kernel
theorem dX8_breaks_51 : decode cX8_breaks 51 = .ok (.iload_n 3, 1) := by decide +kernel
theorem dX8_breaks_52 : decode cX8_breaks 52 = .ok (.iconst 1, 1) := by decide +kernel
theorem dX8_breaks_53 : decode cX8_breaks 53 = .ok (.iadd, 1) := by decide +kernel
theorem dX8_breaks_54 : decode cX8_breaks 54 = .ok (.invokevirtual 118, 3) := by decide +kernel
theorem dX8_breaks_57 : decode cX8_breaks 57 = .ok (.ifCond .ne 5, 3) := by decide +kernel
theorem dX8_breaks_60 : decode cX8_breaks 60 = .ok (.iload_n 3, 1) := by decide +kernel
theorem dX8_breaks_61 : decode cX8_breaks 61 = .ok (.ireturn, 1) := by decide +kernel
theorem dX8_breaks_62 : decode cX8_breaks 62 = .ok (.iinc 3 1, 3) := by decide +kernel
theorem dX8_breaks_65 : decode cX8_breaks 65 = .ok (.goto (-46), 3) := by decide +kernel
theorem dX8_breaks_68 : decode cX8_breaks 68 = .ok (.bipush (-5), 2) := by decide +kernel
theorem dX8_breaks_70 : decode cX8_breaks 70 = .ok (.ireturn, 1) := by decide +kernel
set_option maxRecDepth 20000 in
theorem ggX8_log_X8_isCase : GoodIn wsX8_log wsX8_isCase := goodIn_r _ [6, 1, 7, 8, 5, 9, 13, 14, 15, 16, 17, 18, 19, 20, 21, 22, 23] (by decide +kernel) (by decide +kernel)
set_option maxRecDepth 20000 in
theorem gX8_log_X8_isCase : GoodIn wsX8_log (wsV RX8 50 RX8 yX8_isCase wsX8_isCase) := goodIn_app (goodIn_of _ (by decide +kernel)) ggX8_log_X8_isCase
set_option maxRecDepth 20000 in
theorem ggX8_log_X8_isSide : GoodIn wsX8_log wsX8_isSide := goodIn_r _ [12, 7, 8, 5, 9] (by decide +kernel) (by decide +kernel)
set_option maxRecDepth 20000 in
theorem gX8_log_X8_isSide : GoodIn wsX8_log (va_wsS RX8 60 yX8_isSide wsX8_isSide) := goodIn_app (goodIn_of _ (by decide +kernel)) ggX8_log_X8_isSide
set_option maxRecDepth 20000 in
theorem ggX8_log_X8_in : GoodIn wsX8_log wsX8_in := goodIn_r _ [9] (by decide +kernel) (by decide +kernel)
set_option maxRecDepth 20000 in
theorem gX8_log_X8_in : GoodIn wsX8_log (va_wsS RX8 35 yX8_in wsX8_in) := goodIn_app (goodIn_of _ (by decide +kernel)) ggX8_log_X8_in
theorem dX8_log_0 : decode cX8_log 0 = .ok (.aload_n 0, 1) := by decide +kernel
theorem dX8_log_1 : decode cX8_log 1 = .ok (.iload_n 1, 1) := by decide +kernel
theorem dX8_log_2 : decode cX8_log 2 = .ok (.invokevirtual 50, 3) := by decide +kernel
theorem dX8_log_5 : decode cX8_log 5 = .ok (.ifCond .eq 31, 3) := by decide +kernel
theorem dX8_log_8 : decode cX8_log 8 = .ok (.iload_n 2, 1) := by decide +kernel
theorem dX8_log_9 : decode cX8_log 9 = .ok (.invokestatic 60, 3) := by decide +kernel
theorem dX8_log_12 : decode cX8_log 12 = .ok (.ifCond .eq 24, 3) := by decide +kernel
theorem dX8_log_15 : decode cX8_log 15 = .ok (.iload_n 3, 1) := by decide +kernel
theorem dX8_log_16 : decode cX8_log 16 = .ok (.iconst 0, 1) := by decide +kernel
theorem dX8_log_17 : decode cX8_log 17 = .ok (.bipush 23, 2) := by decide +kernel
theorem dX8_log_19 : decode cX8_log 19 = .ok (.invokestatic 35, 3) := by decide +kernel
theorem dX8_log_22 : decode cX8_log 22 = .ok (.ifCond .eq 14, 3) := by decide +kernel
theorem dX8_log_25 : decode cX8_log 25 = .ok (.iload 4, 2) := by decide +kernel
theorem dX8_log_27 : decode cX8_log 27 = .ok (.iconst 0, 1) := by decide +kernel
theorem dX8_log_28 : decode cX8_log 28 = .ok (.bipush 7, 2) := by decide +kernel
theorem dX8_log_30 : decode cX8_log 30 = .ok (.invokestatic 35, 3) := by decide +kernel
theorem dX8_log_33 : decode cX8_log 33 = .ok (.ifCond .ne 5, 3) := by decide +kernel
theorem dX8_log_36 : decode cX8_log 36 = .ok (.iconst (-1), 1) := by decide +kernel
theorem dX8_log_37 : decode cX8_log 37 = .ok (.ireturn, 1) := by decide +kernel
theorem dX8_log_38 : decode cX8_log 38 = .ok (.sipush 308, 3) := by decide +kernel
theorem dX8_log_41 : decode cX8_log 41 = .ok (.bipush 24, 2) := by decide +kernel
theorem dX8_log_43 : decode cX8_log 43 = .ok (.iconst 2, 1) := by decide +kernel
theorem dX8_log_44 : decode cX8_log 44 = .ok (.iload_n 1, 1) := by decide +kernel
theorem dX8_log_45 : decode cX8_log 45 = .ok (.imul, 1) := by decide +kernel
theorem dX8_log_46 : decode cX8_log 46 = .ok (.iload_n 2, 1) := by decide +kernel
theorem dX8_log_47 : decode cX8_log 47 = .ok (.iadd, 1) := by decide +kernel
theorem dX8_log_48 : decode cX8_log 48 = .ok (.imul, 1) := by decide +kernel
theorem dX8_log_49 : decode cX8_log 49 = .ok (.iadd, 1) := by decide +kernel
theorem dX8_log_50 : decode cX8_log 50 = .ok (.iload_n 3, 1) := by decide +kernel
theorem dX8_log_51 : decode cX8_log 51 = .ok (.iadd, 1) := by decide +kernel
theorem dX8_log_52 : decode cX8_log 52 = .ok (.istore 5, 2) := by decide +kernel
theorem dX8_log_54 : decode cX8_log 54 = .ok (.aload_n 0, 1) := by decide +kernel
theorem dX8_log_55 : decode cX8_log 55 = .ok (.getfield 7, 3) := by decide +kernel
theorem dX8_log_58 : decode cX8_log 58 = .ok (.iload 5, 2) := by decide +kernel
theorem dX8_log_60 : decode cX8_log 60 = .ok (.iaload, 1) := by decide +kernel
theorem dX8_log_61 : decode cX8_log 61 = .ok (.istore 6, 2) := by decide +kernel
theorem dX8_log_63 : decode cX8_log 63 = .ok (.aload_n 0, 1) := by decide +kernel
theorem dX8_log_64 : decode cX8_log 64 = .ok (.getfield 7, 3) := by decide +kernel
theorem dX8_log_67 : decode cX8_log 67 = .ok (.iload 5, 2) := by decide +kernel
theorem dX8_log_69 : decode cX8_log 69 = .ok (.iload 4, 2) := by decide +kernel
theorem dX8_log_71 : decode cX8_log 71 = .ok (.iastore, 1) := by decide +kernel
theorem dX8_log_72 : decode cX8_log 72 = .ok (.iload 6, 2) := by decide +kernel
theorem dX8_log_74 : decode cX8_log 74 = .ok (.ireturn, 1) := by decide +kernel
set_option maxRecDepth 20000 in
theorem ggX8_judge_X8_termAt : GoodIn wsX8_judge wsX8_termAt := goodIn_r _ [5] (by decide +kernel) (by decide +kernel)
set_option maxRecDepth 20000 in
theorem gX8_judge_X8_termAt : GoodIn wsX8_judge (va_wsS RX8 98 yX8_termAt wsX8_termAt) := goodIn_app (goodIn_of _ (by decide +kernel)) ggX8_judge_X8_termAt
theorem dX8_judge_0 : decode cX8_judge 0 = .ok (.iload_n 1, 1) := by decide +kernel
theorem dX8_judge_1 : decode cX8_judge 1 = .ok (.iload_n 2, 1) := by decide +kernel
theorem dX8_judge_2 : decode cX8_judge 2 = .ok (.invokestatic 98, 3) := by decide +kernel
theorem dX8_judge_5 : decode cX8_judge 5 = .ok (.istore_n 3, 1) := by decide +kernel
theorem dX8_judge_6 : decode cX8_judge 6 = .ok (.iconst 0, 1) := by decide +kernel
theorem dX8_judge_7 : decode cX8_judge 7 = .ok (.istore 4, 2) := by decide +kernel
theorem dX8_judge_9 : decode cX8_judge 9 = .ok (.iconst 1, 1) := by decide +kernel
theorem dX8_judge_10 : decode cX8_judge 10 = .ok (.istore 5, 2) := by decide +kernel
theorem dX8_judge_12 : decode cX8_judge 12 = .ok (.aload_n 0, 1) := by decide +kernel
theorem dX8_judge_13 : decode cX8_judge 13 = .ok (.getfield 7, 3) := by decide +kernel
theorem dX8_judge_16 : decode cX8_judge 16 = .ok (.iload_n 3, 1) := by decide +kernel
theorem dX8_judge_17 : decode cX8_judge 17 = .ok (.iconst 3, 1) := by decide +kernel
theorem dX8_judge_18 : decode cX8_judge 18 = .ok (.iadd, 1) := by decide +kernel
theorem dX8_judge_19 : decode cX8_judge 19 = .ok (.iaload, 1) := by decide +kernel
theorem dX8_judge_20 : decode cX8_judge 20 = .ok (.istore 6, 2) := by decide +kernel
theorem dX8_judge_22 : decode cX8_judge 22 = .ok (.iload 6, 2) := by decide +kernel
theorem dX8_judge_24 : decode cX8_judge 24 = .ok (.aload_n 0, 1) := by decide +kernel
theorem dX8_judge_25 : decode cX8_judge 25 = .ok (.getfield 7, 3) := by decide +kernel
theorem dX8_judge_28 : decode cX8_judge 28 = .ok (.iload_n 3, 1) := by decide +kernel
theorem dX8_judge_29 : decode cX8_judge 29 = .ok (.iconst 4, 1) := by decide +kernel
theorem dX8_judge_30 : decode cX8_judge 30 = .ok (.iadd, 1) := by decide +kernel
theorem dX8_judge_31 : decode cX8_judge 31 = .ok (.iaload, 1) := by decide +kernel
theorem dX8_judge_32 : decode cX8_judge 32 = .ok (.if_icmp .gt 80, 3) := by decide +kernel
theorem dX8_judge_35 : decode cX8_judge 35 = .ok (.aload_n 0, 1) := by decide +kernel
theorem dX8_judge_36 : decode cX8_judge 36 = .ok (.getfield 7, 3) := by decide +kernel
theorem dX8_judge_39 : decode cX8_judge 39 = .ok (.sipush 308, 3) := by decide +kernel
theorem dX8_judge_42 : decode cX8_judge 42 = .ok (.bipush 24, 2) := by decide +kernel
theorem dX8_judge_44 : decode cX8_judge 44 = .ok (.iconst 2, 1) := by decide +kernel
theorem dX8_judge_45 : decode cX8_judge 45 = .ok (.iload_n 1, 1) := by decide +kernel
theorem dX8_judge_46 : decode cX8_judge 46 = .ok (.imul, 1) := by decide +kernel
theorem dX8_judge_47 : decode cX8_judge 47 = .ok (.aload_n 0, 1) := by decide +kernel
theorem dX8_judge_48 : decode cX8_judge 48 = .ok (.getfield 7, 3) := by decide +kernel
theorem dX8_judge_51 : decode cX8_judge 51 = .ok (.iload_n 3, 1) := by decide +kernel
theorem dX8_judge_52 : decode cX8_judge 52 = .ok (.iaload, 1) := by decide +kernel
theorem dX8_judge_53 : decode cX8_judge 53 = .ok (.iadd, 1) := by decide +kernel
theorem dX8_judge_54 : decode cX8_judge 54 = .ok (.imul, 1) := by decide +kernel
theorem dX8_judge_55 : decode cX8_judge 55 = .ok (.iadd, 1) := by decide +kernel
theorem dX8_judge_56 : decode cX8_judge 56 = .ok (.iload 6, 2) := by decide +kernel
theorem dX8_judge_58 : decode cX8_judge 58 = .ok (.iadd, 1) := by decide +kernel
theorem dX8_judge_59 : decode cX8_judge 59 = .ok (.iaload, 1) := by decide +kernel
theorem dX8_judge_60 : decode cX8_judge 60 = .ok (.istore 7, 2) := by decide +kernel
theorem dX8_judge_62 : decode cX8_judge 62 = .ok (.iload 4, 2) := by decide +kernel
theorem dX8_judge_64 : decode cX8_judge 64 = .ok (.ifCond .ne 16, 3) := by decide +kernel
theorem dX8_judge_67 : decode cX8_judge 67 = .ok (.iload 7, 2) := by decide +kernel
theorem dX8_judge_69 : decode cX8_judge 69 = .ok (.aload_n 0, 1) := by decide +kernel
theorem dX8_judge_70 : decode cX8_judge 70 = .ok (.getfield 7, 3) := by decide +kernel
theorem dX8_judge_73 : decode cX8_judge 73 = .ok (.iload_n 3, 1) := by decide +kernel
theorem dX8_judge_74 : decode cX8_judge 74 = .ok (.iconst 2, 1) := by decide +kernel
theorem dX8_judge_75 : decode cX8_judge 75 = .ok (.iadd, 1) := by decide +kernel
theorem dX8_judge_76 : decode cX8_judge 76 = .ok (.iaload, 1) := by decide +kernel
theorem dX8_judge_77 : decode cX8_judge 77 = .ok (.if_icmp .ne 7, 3) := by decide +kernel
theorem dX8_judge_80 : decode cX8_judge 80 = .ok (.iconst 1, 1) := by decide +kernel
theorem dX8_judge_81 : decode cX8_judge 81 = .ok (.goto 4, 3) := by decide +kernel
theorem dX8_judge_84 : decode cX8_judge 84 = .ok (.iconst 0, 1) := by decide +kernel
theorem dX8_judge_85 : decode cX8_judge 85 = .ok (.istore 4, 2) := by decide +kernel
theorem dX8_judge_87 : decode cX8_judge 87 = .ok (.iload 5, 2) := by decide +kernel
theorem dX8_judge_89 : decode cX8_judge 89 = .ok (.ifCond .eq 14, 3) := by decide +kernel
theorem dX8_judge_92 : decode cX8_judge 92 = .ok (.iload 7, 2) := by decide +kernel
theorem dX8_judge_94 : decode cX8_judge 94 = .ok (.bipush 7, 2) := by decide +kernel
theorem dX8_judge_96 : decode cX8_judge 96 = .ok (.if_icmp .eq 7, 3) := by decide +kernel
theorem dX8_judge_99 : decode cX8_judge 99 = .ok (.iconst 1, 1) := by decide +kernel
theorem dX8_judge_100 : decode cX8_judge 100 = .ok (.goto 4, 3) := by decide +kernel
theorem dX8_judge_103 : decode cX8_judge 103 = .ok (.iconst 0, 1) := by decide +kernel
theorem dX8_judge_104 : decode cX8_judge 104 = .ok (.istore 5, 2) := by decide +kernel
theorem dX8_judge_106 : decode cX8_judge 106 = .ok (.iinc 6 1, 3) := by decide +kernel
theorem dX8_judge_109 : decode cX8_judge 109 = .ok (.goto (-87), 3) := by decide +kernel
theorem dX8_judge_112 : decode cX8_judge 112 = .ok (.aload_n 0, 1) := by decide +kernel
theorem dX8_judge_113 : decode cX8_judge 113 = .ok (.getfield 7, 3) := by decide +kernel
theorem dX8_judge_116 : decode cX8_judge 116 = .ok (.iload_n 3, 1) := by decide +kernel
theorem dX8_judge_117 : decode cX8_judge 117 = .ok (.iconst 1, 1) := by decide +kernel
theorem dX8_judge_118 : decode cX8_judge 118 = .ok (.iadd, 1) := by decide +kernel
theorem dX8_judge_119 : decode cX8_judge 119 = .ok (.iaload, 1) := by decide +kernel
theorem dX8_judge_120 : decode cX8_judge 120 = .ok (.iconst 1, 1) := by decide +kernel
theorem dX8_judge_121 : decode cX8_judge 121 = .ok (.if_icmp .ne 23, 3) := by decide +kernel
theorem dX8_judge_124 : decode cX8_judge 124 = .ok (.iload 4, 2) := by decide +kernel
theorem dX8_judge_126 : decode cX8_judge 126 = .ok (.ifCond .eq 7, 3) := by decide +kernel
theorem dX8_judge_129 : decode cX8_judge 129 = .ok (.iconst 1, 1) := by decide +kernel
theorem dX8_judge_130 : decode cX8_judge 130 = .ok (.goto 13, 3) := by decide +kernel
theorem dX8_judge_133 : decode cX8_judge 133 = .ok (.iload 5, 2) := by decide +kernel
theorem dX8_judge_135 : decode cX8_judge 135 = .ok (.ifCond .eq 7, 3) := by decide +kernel
theorem dX8_judge_138 : decode cX8_judge 138 = .ok (.iconst 0, 1) := by decide +kernel
theorem dX8_judge_139 : decode cX8_judge 139 = .ok (.goto 4, 3) := by decide +kernel
theorem dX8_judge_142 : decode cX8_judge 142 = .ok (.iconst 2, 1) := by decide +kernel
theorem dX8_judge_143 : decode cX8_judge 143 = .ok (.ireturn, 1) := by decide +kernel
theorem dX8_judge_144 : decode cX8_judge 144 = .ok (.iload 4, 2) := by decide +kernel
theorem dX8_judge_146 : decode cX8_judge 146 = .ok (.ifCond .eq 7, 3) := by decide +kernel
theorem dX8_judge_149 : decode cX8_judge 149 = .ok (.iconst 0, 1) := by decide +kernel
theorem dX8_judge_150 : decode cX8_judge 150 = .ok (.goto 13, 3) := by decide +kernel
theorem dX8_judge_153 : decode cX8_judge 153 = .ok (.iload 5, 2) := by decide +kernel
theorem dX8_judge_155 : decode cX8_judge 155 = .ok (.ifCond .eq 7, 3) := by decide +kernel
theorem dX8_judge_158 : decode cX8_judge 158 = .ok (.iconst 1, 1) := by decide +kernel
theorem dX8_judge_159 : decode cX8_judge 159 = .ok (.goto 4, 3) := by decide +kernel
theorem dX8_judge_162 : decode cX8_judge 162 = .ok (.iconst 2, 1) := by decide +kernel
theorem dX8_judge_163 : decode cX8_judge 163 = .ok (.ireturn, 1) := by decide +kernel
set_option maxRecDepth 20000 in
theorem ggX8_judged_X8_isTerm : GoodIn wsX8_judged wsX8_isTerm := goodIn_r _ [5, 6, 7, 8, 9, 4, 10, 11, 12, 13, 14, 15, 16, 24, 25, 26, 27, 28, 29, 30, 31, 32, 33, 34] (by decide +kernel) (by decide +kernel)
set_option maxRecDepth 20000 in
theorem gX8_judged_X8_isTerm : GoodIn wsX8_judged (wsV RX8 101 RX8 yX8_isTerm wsX8_isTerm) := goodIn_app (goodIn_of _ (by decide +kernel)) ggX8_judged_X8_isTerm
set_option maxRecDepth 20000 in
theorem ggX8_judged_X8_judge : GoodIn wsX8_judged wsX8_judge := goodIn_r _ [20, 6, 21, 22, 4, 23, 24, 25, 26, 27, 28, 29, 30, 31, 32, 33, 34] (by decide +kernel) (by decide +kernel)
set_option maxRecDepth 20000 in
theorem gX8_judged_X8_judge : GoodIn wsX8_judged (wsV RX8 121 RX8 yX8_judge wsX8_judge) := goodIn_app (goodIn_of _ (by decide +kernel)) ggX8_judged_X8_judge
theorem dX8_judged_0 : decode cX8_judged 0 = .ok (.aload_n 0, 1) := by decide +kernel
theorem dX8_judged_1 : decode cX8_judged 1 = .ok (.iload_n 1, 1) := by decide +kernel
theorem dX8_judged_2 : decode cX8_judged 2 = .ok (.iload_n 2, 1) := by decide +kernel
theorem dX8_judged_3 : decode cX8_judged 3 = .ok (.invokevirtual 101, 3) := by decide +kernel
theorem dX8_judged_6 : decode cX8_judged 6 = .ok (.ifCond .eq 12, 3) := by decide +kernel
theorem dX8_judged_9 : decode cX8_judged 9 = .ok (.aload_n 0, 1) := by decide +kernel
theorem dX8_judged_10 : decode cX8_judged 10 = .ok (.iload_n 1, 1) := by decide +kernel
theorem dX8_judged_11 : decode cX8_judged 11 = .ok (.iload_n 2, 1) := by decide +kernel
theorem dX8_judged_12 : decode cX8_judged 12 = .ok (.invokevirtual 121, 3) := by decide +kernel
theorem dX8_judged_15 : decode cX8_judged 15 = .ok (.goto 4, 3) := by decide +kernel
theorem dX8_judged_18 : decode cX8_judged 18 = .ok (.iconst (-1), 1) := by decide +kernel
theorem dX8_judged_19 : decode cX8_judged 19 = .ok (.ireturn, 1) := by decide +kernel
set_option maxRecDepth 20000 in
theorem ggX8_casesThat_X8_at : GoodIn wsX8_casesThat wsX8_at := goodIn_r _ [5] (by decide +kernel) (by decide +kernel)
set_option maxRecDepth 20000 in
theorem gX8_casesThat_X8_at : GoodIn wsX8_casesThat (va_wsS RX8 46 yX8_at wsX8_at) := goodIn_app (goodIn_of _ (by decide +kernel)) ggX8_casesThat_X8_at
theorem dX8_casesThat_0 : decode cX8_casesThat 0 = .ok (.iconst 0, 1) := by decide +kernel
theorem dX8_casesThat_1 : decode cX8_casesThat 1 = .ok (.istore_n 2, 1) := by decide +kernel
theorem dX8_casesThat_2 : decode cX8_casesThat 2 = .ok (.iconst 0, 1) := by decide +kernel
theorem dX8_casesThat_3 : decode cX8_casesThat 3 = .ok (.istore_n 3, 1) := by decide +kernel
theorem dX8_casesThat_4 : decode cX8_casesThat 4 = .ok (.iload_n 3, 1) := by decide +kernel
theorem dX8_casesThat_5 : decode cX8_casesThat 5 = .ok (.aload_n 0, 1) := by decide +kernel
theorem dX8_casesThat_6 : decode cX8_casesThat 6 = .ok (.getfield 7, 3) := by decide +kernel
theorem dX8_casesThat_9 : decode cX8_casesThat 9 = .ok (.iconst 2, 1) := by decide +kernel
theorem dX8_casesThat_10 : decode cX8_casesThat 10 = .ok (.iaload, 1) := by decide +kernel
theorem dX8_casesThat_11 : decode cX8_casesThat 11 = .ok (.if_icmp .ge 31, 3) := by decide +kernel
theorem dX8_casesThat_14 : decode cX8_casesThat 14 = .ok (.iload_n 2, 1) := by decide +kernel
theorem dX8_casesThat_15 : decode cX8_casesThat 15 = .ok (.aload_n 0, 1) := by decide +kernel
theorem dX8_casesThat_16 : decode cX8_casesThat 16 = .ok (.getfield 7, 3) := by decide +kernel
theorem dX8_casesThat_19 : decode cX8_casesThat 19 = .ok (.iload_n 3, 1) := by decide +kernel
theorem dX8_casesThat_20 : decode cX8_casesThat 20 = .ok (.iconst 2, 1) := by decide +kernel
theorem dX8_casesThat_21 : decode cX8_casesThat 21 = .ok (.invokestatic 46, 3) := by decide +kernel
theorem dX8_casesThat_24 : decode cX8_casesThat 24 = .ok (.iaload, 1) := by decide +kernel
theorem dX8_casesThat_25 : decode cX8_casesThat 25 = .ok (.iload_n 1, 1) := by decide +kernel
theorem dX8_casesThat_26 : decode cX8_casesThat 26 = .ok (.if_icmp .ne 7, 3) := by decide +kernel
theorem dX8_casesThat_29 : decode cX8_casesThat 29 = .ok (.iconst 1, 1) := by decide +kernel
theorem dX8_casesThat_30 : decode cX8_casesThat 30 = .ok (.goto 4, 3) := by decide +kernel
theorem dX8_casesThat_33 : decode cX8_casesThat 33 = .ok (.iconst 0, 1) := by decide +kernel
theorem dX8_casesThat_34 : decode cX8_casesThat 34 = .ok (.iadd, 1) := by decide +kernel
theorem dX8_casesThat_35 : decode cX8_casesThat 35 = .ok (.istore_n 2, 1) := by decide +kernel
theorem dX8_casesThat_36 : decode cX8_casesThat 36 = .ok (.iinc 3 1, 3) := by decide +kernel
theorem dX8_casesThat_39 : decode cX8_casesThat 39 = .ok (.goto (-35), 3) := by decide +kernel
theorem dX8_casesThat_42 : decode cX8_casesThat 42 = .ok (.iload_n 2, 1) := by decide +kernel
theorem dX8_casesThat_43 : decode cX8_casesThat 43 = .ok (.ireturn, 1) := by decide +kernel
set_option maxRecDepth 20000 in
theorem ggX8_quarrels_X8_findHeads : GoodIn wsX8_quarrels wsX8_findHeads := goodIn_r _ [7, 1, 2, 8, 9, 10, 11, 12, 13, 14, 15, 16, 17, 18] (by decide +kernel) (by decide +kernel)
set_option maxRecDepth 20000 in
theorem gX8_quarrels_X8_findHeads : GoodIn wsX8_quarrels (wsV RX8 53 RX8 yX8_findHeads wsX8_findHeads) := goodIn_app (goodIn_of _ (by decide +kernel)) ggX8_quarrels_X8_findHeads
theorem dX8_quarrels_0 : decode cX8_quarrels 0 = .ok (.aload_n 0, 1) := by decide +kernel
theorem dX8_quarrels_1 : decode cX8_quarrels 1 = .ok (.invokevirtual 53, 3) := by decide +kernel
theorem dX8_quarrels_4 : decode cX8_quarrels 4 = .ok (.iconst 0, 1) := by decide +kernel
theorem dX8_quarrels_5 : decode cX8_quarrels 5 = .ok (.istore_n 1, 1) := by decide +kernel
theorem dX8_quarrels_6 : decode cX8_quarrels 6 = .ok (.iconst 0, 1) := by decide +kernel
theorem dX8_quarrels_7 : decode cX8_quarrels 7 = .ok (.istore_n 2, 1) := by decide +kernel
theorem dX8_quarrels_8 : decode cX8_quarrels 8 = .ok (.iload_n 2, 1) := by decide +kernel
theorem dX8_quarrels_9 : decode cX8_quarrels 9 = .ok (.aload_n 0, 1) := by decide +kernel
theorem dX8_quarrels_10 : decode cX8_quarrels 10 = .ok (.getfield 7, 3) := by decide +kernel
theorem dX8_quarrels_13 : decode cX8_quarrels 13 = .ok (.iconst 2, 1) := by decide +kernel
theorem dX8_quarrels_14 : decode cX8_quarrels 14 = .ok (.iaload, 1) := by decide +kernel
theorem dX8_quarrels_15 : decode cX8_quarrels 15 = .ok (.if_icmp .ge 27, 3) := by decide +kernel
theorem dX8_quarrels_18 : decode cX8_quarrels 18 = .ok (.iload_n 1, 1) := by decide +kernel
theorem dX8_quarrels_19 : decode cX8_quarrels 19 = .ok (.aload_n 0, 1) := by decide +kernel
theorem dX8_quarrels_20 : decode cX8_quarrels 20 = .ok (.getfield 20, 3) := by decide +kernel
theorem dX8_quarrels_23 : decode cX8_quarrels 23 = .ok (.iload_n 2, 1) := by decide +kernel
theorem dX8_quarrels_24 : decode cX8_quarrels 24 = .ok (.iaload, 1) := by decide +kernel
theorem dX8_quarrels_25 : decode cX8_quarrels 25 = .ok (.iload_n 2, 1) := by decide +kernel
theorem dX8_quarrels_26 : decode cX8_quarrels 26 = .ok (.if_icmp .ne 7, 3) := by decide +kernel
theorem dX8_quarrels_29 : decode cX8_quarrels 29 = .ok (.iconst 1, 1) := by decide +kernel
theorem dX8_quarrels_30 : decode cX8_quarrels 30 = .ok (.goto 4, 3) := by decide +kernel
theorem dX8_quarrels_33 : decode cX8_quarrels 33 = .ok (.iconst 0, 1) := by decide +kernel
theorem dX8_quarrels_34 : decode cX8_quarrels 34 = .ok (.iadd, 1) := by decide +kernel
theorem dX8_quarrels_35 : decode cX8_quarrels 35 = .ok (.istore_n 1, 1) := by decide +kernel
theorem dX8_quarrels_36 : decode cX8_quarrels 36 = .ok (.iinc 2 1, 3) := by decide +kernel
theorem dX8_quarrels_39 : decode cX8_quarrels 39 = .ok (.goto (-31), 3) := by decide +kernel
theorem dX8_quarrels_42 : decode cX8_quarrels 42 = .ok (.iload_n 1, 1) := by decide +kernel
theorem dX8_quarrels_43 : decode cX8_quarrels 43 = .ok (.ireturn, 1) := by decide +kernel
set_option maxRecDepth 20000 in
theorem ggX8_termsThat_X8_at : GoodIn wsX8_termsThat wsX8_at := goodIn_r _ [5] (by decide +kernel) (by decide +kernel)
set_option maxRecDepth 20000 in
theorem gX8_termsThat_X8_at : GoodIn wsX8_termsThat (va_wsS RX8 46 yX8_at wsX8_at) := goodIn_app (goodIn_of _ (by decide +kernel)) ggX8_termsThat_X8_at
set_option maxRecDepth 20000 in
theorem ggX8_termsThat_X8_judge : GoodIn wsX8_termsThat wsX8_judge := goodIn_r _ [9, 1, 10, 11, 4, 12, 13, 14, 15, 16, 17, 18, 19, 20, 21, 22, 23] (by decide +kernel) (by decide +kernel)
set_option maxRecDepth 20000 in
theorem gX8_termsThat_X8_judge : GoodIn wsX8_termsThat (wsV RX8 121 RX8 yX8_judge wsX8_judge) := goodIn_app (goodIn_of _ (by decide +kernel)) ggX8_termsThat_X8_judge
theorem dX8_termsThat_0 : decode cX8_termsThat 0 = .ok (.iconst 0, 1) := by decide +kernel
theorem dX8_termsThat_1 : decode cX8_termsThat 1 = .ok (.istore_n 2, 1) := by decide +kernel
theorem dX8_termsThat_2 : decode cX8_termsThat 2 = .ok (.iconst 0, 1) := by decide +kernel
theorem dX8_termsThat_3 : decode cX8_termsThat 3 = .ok (.istore_n 3, 1) := by decide +kernel
theorem dX8_termsThat_4 : decode cX8_termsThat 4 = .ok (.iload_n 3, 1) := by decide +kernel
theorem dX8_termsThat_5 : decode cX8_termsThat 5 = .ok (.aload_n 0, 1) := by decide +kernel
theorem dX8_termsThat_6 : decode cX8_termsThat 6 = .ok (.getfield 7, 3) := by decide +kernel
theorem dX8_termsThat_9 : decode cX8_termsThat 9 = .ok (.iconst 2, 1) := by decide +kernel
theorem dX8_termsThat_10 : decode cX8_termsThat 10 = .ok (.iaload, 1) := by decide +kernel
theorem dX8_termsThat_11 : decode cX8_termsThat 11 = .ok (.if_icmp .ge 57, 3) := by decide +kernel
theorem dX8_termsThat_14 : decode cX8_termsThat 14 = .ok (.iconst 0, 1) := by decide +kernel
theorem dX8_termsThat_15 : decode cX8_termsThat 15 = .ok (.istore 4, 2) := by decide +kernel
theorem dX8_termsThat_17 : decode cX8_termsThat 17 = .ok (.iload 4, 2) := by decide +kernel
theorem dX8_termsThat_19 : decode cX8_termsThat 19 = .ok (.aload_n 0, 1) := by decide +kernel
theorem dX8_termsThat_20 : decode cX8_termsThat 20 = .ok (.getfield 7, 3) := by decide +kernel
theorem dX8_termsThat_23 : decode cX8_termsThat 23 = .ok (.iload_n 3, 1) := by decide +kernel
theorem dX8_termsThat_24 : decode cX8_termsThat 24 = .ok (.bipush 6, 2) := by decide +kernel
theorem dX8_termsThat_26 : decode cX8_termsThat 26 = .ok (.invokestatic 46, 3) := by decide +kernel
theorem dX8_termsThat_29 : decode cX8_termsThat 29 = .ok (.iaload, 1) := by decide +kernel
theorem dX8_termsThat_30 : decode cX8_termsThat 30 = .ok (.if_icmp .ge 32, 3) := by decide +kernel
theorem dX8_termsThat_33 : decode cX8_termsThat 33 = .ok (.iload_n 2, 1) := by decide +kernel
theorem dX8_termsThat_34 : decode cX8_termsThat 34 = .ok (.iload_n 1, 1) := by decide +kernel
theorem dX8_termsThat_35 : decode cX8_termsThat 35 = .ok (.ifCond .lt 14, 3) := by decide +kernel
theorem dX8_termsThat_38 : decode cX8_termsThat 38 = .ok (.aload_n 0, 1) := by decide +kernel
theorem dX8_termsThat_39 : decode cX8_termsThat 39 = .ok (.iload_n 3, 1) := by decide +kernel
theorem dX8_termsThat_40 : decode cX8_termsThat 40 = .ok (.iload 4, 2) := by decide +kernel
theorem dX8_termsThat_42 : decode cX8_termsThat 42 = .ok (.invokevirtual 121, 3) := by decide +kernel
theorem dX8_termsThat_45 : decode cX8_termsThat 45 = .ok (.iload_n 1, 1) := by decide +kernel
theorem dX8_termsThat_46 : decode cX8_termsThat 46 = .ok (.if_icmp .ne 7, 3) := by decide +kernel
theorem dX8_termsThat_49 : decode cX8_termsThat 49 = .ok (.iconst 1, 1) := by decide +kernel
theorem dX8_termsThat_50 : decode cX8_termsThat 50 = .ok (.goto 4, 3) := by decide +kernel
theorem dX8_termsThat_53 : decode cX8_termsThat 53 = .ok (.iconst 0, 1) := by decide +kernel
theorem dX8_termsThat_54 : decode cX8_termsThat 54 = .ok (.iadd, 1) := by decide +kernel
theorem dX8_termsThat_55 : decode cX8_termsThat 55 = .ok (.istore_n 2, 1) := by decide +kernel
theorem dX8_termsThat_56 : decode cX8_termsThat 56 = .ok (.iinc 4 1, 3) := by decide +kernel
theorem dX8_termsThat_59 : decode cX8_termsThat 59 = .ok (.goto (-42), 3) := by decide +kernel
theorem dX8_termsThat_62 : decode cX8_termsThat 62 = .ok (.iinc 3 1, 3) := by decide +kernel
theorem dX8_termsThat_65 : decode cX8_termsThat 65 = .ok (.goto (-61), 3) := by decide +kernel
theorem dX8_termsThat_68 : decode cX8_termsThat 68 = .ok (.iload_n 2, 1) := by decide +kernel
theorem dX8_termsThat_69 : decode cX8_termsThat 69 = .ok (.ireturn, 1) := by decide +kernel
set_option maxRecDepth 20000 in
theorem ggX8_many_X8_casesThat : GoodIn wsX8_many wsX8_casesThat := goodIn_r _ [6, 1, 7, 8, 5, 9, 30, 31, 32, 33, 34, 35, 36, 37, 38, 39, 40] (by decide +kernel) (by decide +kernel)
set_option maxRecDepth 20000 in
theorem gX8_many_X8_casesThat : GoodIn wsX8_many (wsV RX8 124 RX8 yX8_casesThat wsX8_casesThat) := goodIn_app (goodIn_of _ (by decide +kernel)) ggX8_many_X8_casesThat
set_option maxRecDepth 20000 in
theorem ggX8_many_X8_quarrels : GoodIn wsX8_many wsX8_quarrels := goodIn_r _ [13, 1, 14, 15, 16, 17, 5, 18, 30, 31, 32, 33, 34, 35, 36, 37, 38, 39, 40] (by decide +kernel) (by decide +kernel)
set_option maxRecDepth 20000 in
theorem gX8_many_X8_quarrels : GoodIn wsX8_many (wsV RX8 127 RX8 yX8_quarrels wsX8_quarrels) := goodIn_app (goodIn_of _ (by decide +kernel)) ggX8_many_X8_quarrels
set_option maxRecDepth 20000 in
theorem ggX8_many_X8_termsThat : GoodIn wsX8_many wsX8_termsThat := goodIn_r _ [22, 1, 7, 8, 5, 9, 23, 24, 25, 26, 27, 28, 29, 30, 31, 32, 33, 34, 35, 36, 37, 38, 39, 40] (by decide +kernel) (by decide +kernel)
set_option maxRecDepth 20000 in
theorem gX8_many_X8_termsThat : GoodIn wsX8_many (wsV RX8 131 RX8 yX8_termsThat wsX8_termsThat) := goodIn_app (goodIn_of _ (by decide +kernel)) ggX8_many_X8_termsThat
theorem dX8_many_0 : decode cX8_many 0 = .ok (.iload_n 1, 1) := by decide +kernel
theorem dX8_many_1 : decode cX8_many 1 = .ok (.tableswitch 128 0 10 #[59, 66, 73, 80, 86, 92, 99, 104, 110, 116, 122], 59) := by decide +kernel
theorem dX8_many_60 : decode cX8_many 60 = .ok (.aload_n 0, 1) := by decide +kernel
theorem dX8_many_61 : decode cX8_many 61 = .ok (.getfield 7, 3) := by decide +kernel
theorem dX8_many_64 : decode cX8_many 64 = .ok (.iconst 0, 1) := by decide +kernel
theorem dX8_many_65 : decode cX8_many 65 = .ok (.iaload, 1) := by decide +kernel
theorem dX8_many_66 : decode cX8_many 66 = .ok (.ireturn, 1) := by decide +kernel
theorem dX8_many_67 : decode cX8_many 67 = .ok (.aload_n 0, 1) := by decide +kernel
theorem dX8_many_68 : decode cX8_many 68 = .ok (.getfield 7, 3) := by decide +kernel
theorem dX8_many_71 : decode cX8_many 71 = .ok (.iconst 1, 1) := by decide +kernel
theorem dX8_many_72 : decode cX8_many 72 = .ok (.iaload, 1) := by decide +kernel
theorem dX8_many_73 : decode cX8_many 73 = .ok (.ireturn, 1) := by decide +kernel
theorem dX8_many_74 : decode cX8_many 74 = .ok (.aload_n 0, 1) := by decide +kernel
theorem dX8_many_75 : decode cX8_many 75 = .ok (.getfield 7, 3) := by decide +kernel
theorem dX8_many_78 : decode cX8_many 78 = .ok (.iconst 2, 1) := by decide +kernel
theorem dX8_many_79 : decode cX8_many 79 = .ok (.iaload, 1) := by decide +kernel
theorem dX8_many_80 : decode cX8_many 80 = .ok (.ireturn, 1) := by decide +kernel
theorem dX8_many_81 : decode cX8_many 81 = .ok (.aload_n 0, 1) := by decide +kernel
theorem dX8_many_82 : decode cX8_many 82 = .ok (.iconst 0, 1) := by decide +kernel
theorem dX8_many_83 : decode cX8_many 83 = .ok (.invokevirtual 124, 3) := by decide +kernel
theorem dX8_many_86 : decode cX8_many 86 = .ok (.ireturn, 1) := by decide +kernel
theorem dX8_many_87 : decode cX8_many 87 = .ok (.aload_n 0, 1) := by decide +kernel
theorem dX8_many_88 : decode cX8_many 88 = .ok (.iconst 1, 1) := by decide +kernel
theorem dX8_many_89 : decode cX8_many 89 = .ok (.invokevirtual 124, 3) := by decide +kernel
theorem dX8_many_92 : decode cX8_many 92 = .ok (.ireturn, 1) := by decide +kernel
theorem dX8_many_93 : decode cX8_many 93 = .ok (.aload_n 0, 1) := by decide +kernel
theorem dX8_many_94 : decode cX8_many 94 = .ok (.getfield 7, 3) := by decide +kernel
theorem dX8_many_97 : decode cX8_many 97 = .ok (.iconst 3, 1) := by decide +kernel
theorem dX8_many_98 : decode cX8_many 98 = .ok (.iaload, 1) := by decide +kernel
theorem dX8_many_99 : decode cX8_many 99 = .ok (.ireturn, 1) := by decide +kernel
theorem dX8_many_100 : decode cX8_many 100 = .ok (.aload_n 0, 1) := by decide +kernel
theorem dX8_many_101 : decode cX8_many 101 = .ok (.invokevirtual 127, 3) := by decide +kernel
theorem dX8_many_104 : decode cX8_many 104 = .ok (.ireturn, 1) := by decide +kernel
theorem dX8_many_105 : decode cX8_many 105 = .ok (.aload_n 0, 1) := by decide +kernel
theorem dX8_many_106 : decode cX8_many 106 = .ok (.iconst (-1), 1) := by decide +kernel
theorem dX8_many_107 : decode cX8_many 107 = .ok (.invokevirtual 131, 3) := by decide +kernel
theorem dX8_many_110 : decode cX8_many 110 = .ok (.ireturn, 1) := by decide +kernel
theorem dX8_many_111 : decode cX8_many 111 = .ok (.aload_n 0, 1) := by decide +kernel
theorem dX8_many_112 : decode cX8_many 112 = .ok (.iconst 1, 1) := by decide +kernel
theorem dX8_many_113 : decode cX8_many 113 = .ok (.invokevirtual 131, 3) := by decide +kernel
theorem dX8_many_116 : decode cX8_many 116 = .ok (.ireturn, 1) := by decide +kernel
theorem dX8_many_117 : decode cX8_many 117 = .ok (.aload_n 0, 1) := by decide +kernel
theorem dX8_many_118 : decode cX8_many 118 = .ok (.iconst 0, 1) := by decide +kernel
theorem dX8_many_119 : decode cX8_many 119 = .ok (.invokevirtual 131, 3) := by decide +kernel
theorem dX8_many_122 : decode cX8_many 122 = .ok (.ireturn, 1) := by decide +kernel
theorem dX8_many_123 : decode cX8_many 123 = .ok (.aload_n 0, 1) := by decide +kernel
theorem dX8_many_124 : decode cX8_many 124 = .ok (.iconst 2, 1) := by decide +kernel
theorem dX8_many_125 : decode cX8_many 125 = .ok (.invokevirtual 131, 3) := by decide +kernel
theorem dX8_many_128 : decode cX8_many 128 = .ok (.ireturn, 1) := by decide +kernel
theorem dX8_many_129 : decode cX8_many 129 = .ok (.iconst (-1), 1) := by decide +kernel
theorem dX8_many_130 : decode cX8_many 130 = .ok (.ireturn, 1) := by decide +kernel
theorem dX8_keep_0 : decode cX8_keep 0 = .ok (.iconst 0, 1) := by decide +kernel
theorem dX8_keep_1 : decode cX8_keep 1 = .ok (.istore_n 1, 1) := by decide +kernel
theorem dX8_keep_2 : decode cX8_keep 2 = .ok (.iload_n 1, 1) := by decide +kernel
theorem dX8_keep_3 : decode cX8_keep 3 = .ok (.sipush 596, 3) := by decide +kernel
theorem dX8_keep_6 : decode cX8_keep 6 = .ok (.if_icmp .ge 21, 3) := by decide +kernel
theorem dX8_keep_9 : decode cX8_keep 9 = .ok (.aload_n 0, 1) := by decide +kernel
theorem dX8_keep_10 : decode cX8_keep 10 = .ok (.getfield 13, 3) := by decide +kernel
theorem dX8_keep_13 : decode cX8_keep 13 = .ok (.iload_n 1, 1) := by decide +kernel
theorem dX8_keep_14 : decode cX8_keep 14 = .ok (.aload_n 0, 1) := by decide +kernel
theorem dX8_keep_15 : decode cX8_keep 15 = .ok (.getfield 7, 3) := by decide +kernel
theorem dX8_keep_18 : decode cX8_keep 18 = .ok (.iload_n 1, 1) := by decide +kernel
theorem dX8_keep_19 : decode cX8_keep 19 = .ok (.iaload, 1) := by decide +kernel
theorem dX8_keep_20 : decode cX8_keep 20 = .ok (.iastore, 1) := by decide +kernel
theorem dX8_keep_21 : decode cX8_keep 21 = .ok (.iinc 1 1, 3) := by decide +kernel
theorem dX8_keep_24 : decode cX8_keep 24 = .ok (.goto (-22), 3) := by decide +kernel
theorem dX8_keep_27 : decode cX8_keep 27 = .ok (.aload_n 0, 1) := by decide +kernel
theorem dX8_keep_28 : decode cX8_keep 28 = .ok (.iconst 1, 1) := by decide +kernel
theorem dX8_keep_29 : decode cX8_keep 29 = .ok (.putfield 134, 3) := by decide +kernel
theorem dX8_keep_32 : decode cX8_keep 32 = .ok (.iconst 1, 1) := by decide +kernel
theorem dX8_keep_33 : decode cX8_keep 33 = .ok (.ireturn, 1) := by decide +kernel
theorem dX8_back_0 : decode cX8_back 0 = .ok (.aload_n 0, 1) := by decide +kernel
theorem dX8_back_1 : decode cX8_back 1 = .ok (.getfield 134, 3) := by decide +kernel
theorem dX8_back_4 : decode cX8_back 4 = .ok (.ifCond .ne 6, 3) := by decide +kernel
theorem dX8_back_7 : decode cX8_back 7 = .ok (.bipush (-5), 2) := by decide +kernel
theorem dX8_back_9 : decode cX8_back 9 = .ok (.ireturn, 1) := by decide +kernel
theorem dX8_back_10 : decode cX8_back 10 = .ok (.iconst 0, 1) := by decide +kernel
theorem dX8_back_11 : decode cX8_back 11 = .ok (.istore_n 1, 1) := by decide +kernel
theorem dX8_back_12 : decode cX8_back 12 = .ok (.iload_n 1, 1) := by decide +kernel
theorem dX8_back_13 : decode cX8_back 13 = .ok (.sipush 596, 3) := by decide +kernel
theorem dX8_back_16 : decode cX8_back 16 = .ok (.if_icmp .ge 21, 3) := by decide +kernel
theorem dX8_back_19 : decode cX8_back 19 = .ok (.aload_n 0, 1) := by decide +kernel
theorem dX8_back_20 : decode cX8_back 20 = .ok (.getfield 7, 3) := by decide +kernel
theorem dX8_back_23 : decode cX8_back 23 = .ok (.iload_n 1, 1) := by decide +kernel
theorem dX8_back_24 : decode cX8_back 24 = .ok (.aload_n 0, 1) := by decide +kernel
theorem dX8_back_25 : decode cX8_back 25 = .ok (.getfield 13, 3) := by decide +kernel
theorem dX8_back_28 : decode cX8_back 28 = .ok (.iload_n 1, 1) := by decide +kernel
theorem dX8_back_29 : decode cX8_back 29 = .ok (.iaload, 1) := by decide +kernel
theorem dX8_back_30 : decode cX8_back 30 = .ok (.iastore, 1) := by decide +kernel
theorem dX8_back_31 : decode cX8_back 31 = .ok (.iinc 1 1, 3) := by decide +kernel
theorem dX8_back_34 : decode cX8_back 34 = .ok (.goto (-22), 3) := by decide +kernel
theorem dX8_back_37 : decode cX8_back 37 = .ok (.iconst 1, 1) := by decide +kernel
theorem dX8_back_38 : decode cX8_back 38 = .ok (.ireturn, 1) := by decide +kernel
theorem dJ6_bitCount_0f7a4_0 : decode cJ6_bitCount_0f7a4 0 = .ok (.iload_n 0, 1) := by decide +kernel
theorem dJ6_bitCount_0f7a4_1 : decode cJ6_bitCount_0f7a4 1 = .ok (.iload_n 0, 1) := by decide +kernel
theorem dJ6_bitCount_0f7a4_2 : decode cJ6_bitCount_0f7a4 2 = .ok (.iconst 1, 1) := by decide +kernel
theorem dJ6_bitCount_0f7a4_3 : decode cJ6_bitCount_0f7a4 3 = .ok (.iushr, 1) := by decide +kernel
theorem dJ6_bitCount_0f7a4_4 : decode cJ6_bitCount_0f7a4 4 = .ok (.ldc_w 265, 3) := by decide +kernel
theorem dJ6_bitCount_0f7a4_7 : decode cJ6_bitCount_0f7a4 7 = .ok (.iand, 1) := by decide +kernel
theorem dJ6_bitCount_0f7a4_8 : decode cJ6_bitCount_0f7a4 8 = .ok (.isub, 1) := by decide +kernel
theorem dJ6_bitCount_0f7a4_9 : decode cJ6_bitCount_0f7a4 9 = .ok (.istore_n 0, 1) := by decide +kernel
theorem dJ6_bitCount_0f7a4_10 : decode cJ6_bitCount_0f7a4 10 = .ok (.iload_n 0, 1) := by decide +kernel
theorem dJ6_bitCount_0f7a4_11 : decode cJ6_bitCount_0f7a4 11 = .ok (.ldc_w 266, 3) := by decide +kernel
theorem dJ6_bitCount_0f7a4_14 : decode cJ6_bitCount_0f7a4 14 = .ok (.iand, 1) := by decide +kernel
theorem dJ6_bitCount_0f7a4_15 : decode cJ6_bitCount_0f7a4 15 = .ok (.iload_n 0, 1) := by decide +kernel
theorem dJ6_bitCount_0f7a4_16 : decode cJ6_bitCount_0f7a4 16 = .ok (.iconst 2, 1) := by decide +kernel
theorem dJ6_bitCount_0f7a4_17 : decode cJ6_bitCount_0f7a4 17 = .ok (.iushr, 1) := by decide +kernel
theorem dJ6_bitCount_0f7a4_18 : decode cJ6_bitCount_0f7a4 18 = .ok (.ldc_w 266, 3) := by decide +kernel
theorem dJ6_bitCount_0f7a4_21 : decode cJ6_bitCount_0f7a4 21 = .ok (.iand, 1) := by decide +kernel
theorem dJ6_bitCount_0f7a4_22 : decode cJ6_bitCount_0f7a4 22 = .ok (.iadd, 1) := by decide +kernel
theorem dJ6_bitCount_0f7a4_23 : decode cJ6_bitCount_0f7a4 23 = .ok (.istore_n 0, 1) := by decide +kernel
theorem dJ6_bitCount_0f7a4_24 : decode cJ6_bitCount_0f7a4 24 = .ok (.iload_n 0, 1) := by decide +kernel
theorem dJ6_bitCount_0f7a4_25 : decode cJ6_bitCount_0f7a4 25 = .ok (.iload_n 0, 1) := by decide +kernel
theorem dJ6_bitCount_0f7a4_26 : decode cJ6_bitCount_0f7a4 26 = .ok (.iconst 4, 1) := by decide +kernel
theorem dJ6_bitCount_0f7a4_27 : decode cJ6_bitCount_0f7a4 27 = .ok (.iushr, 1) := by decide +kernel
theorem dJ6_bitCount_0f7a4_28 : decode cJ6_bitCount_0f7a4 28 = .ok (.iadd, 1) := by decide +kernel
theorem dJ6_bitCount_0f7a4_29 : decode cJ6_bitCount_0f7a4 29 = .ok (.ldc_w 267, 3) := by decide +kernel
theorem dJ6_bitCount_0f7a4_32 : decode cJ6_bitCount_0f7a4 32 = .ok (.iand, 1) := by decide +kernel
theorem dJ6_bitCount_0f7a4_33 : decode cJ6_bitCount_0f7a4 33 = .ok (.istore_n 0, 1) := by decide +kernel
theorem dJ6_bitCount_0f7a4_34 : decode cJ6_bitCount_0f7a4 34 = .ok (.iload_n 0, 1) := by decide +kernel
theorem dJ6_bitCount_0f7a4_35 : decode cJ6_bitCount_0f7a4 35 = .ok (.iload_n 0, 1) := by decide +kernel
theorem dJ6_bitCount_0f7a4_36 : decode cJ6_bitCount_0f7a4 36 = .ok (.bipush 8, 2) := by decide +kernel
theorem dJ6_bitCount_0f7a4_38 : decode cJ6_bitCount_0f7a4 38 = .ok (.iushr, 1) := by decide +kernel
theorem dJ6_bitCount_0f7a4_39 : decode cJ6_bitCount_0f7a4 39 = .ok (.iadd, 1) := by decide +kernel
theorem dJ6_bitCount_0f7a4_40 : decode cJ6_bitCount_0f7a4 40 = .ok (.istore_n 0, 1) := by decide +kernel
theorem dJ6_bitCount_0f7a4_41 : decode cJ6_bitCount_0f7a4 41 = .ok (.iload_n 0, 1) := by decide +kernel
theorem dJ6_bitCount_0f7a4_42 : decode cJ6_bitCount_0f7a4 42 = .ok (.iload_n 0, 1) := by decide +kernel
theorem dJ6_bitCount_0f7a4_43 : decode cJ6_bitCount_0f7a4 43 = .ok (.bipush 16, 2) := by decide +kernel
theorem dJ6_bitCount_0f7a4_45 : decode cJ6_bitCount_0f7a4 45 = .ok (.iushr, 1) := by decide +kernel
theorem dJ6_bitCount_0f7a4_46 : decode cJ6_bitCount_0f7a4 46 = .ok (.iadd, 1) := by decide +kernel
theorem dJ6_bitCount_0f7a4_47 : decode cJ6_bitCount_0f7a4 47 = .ok (.istore_n 0, 1) := by decide +kernel
theorem dJ6_bitCount_0f7a4_48 : decode cJ6_bitCount_0f7a4 48 = .ok (.iload_n 0, 1) := by decide +kernel
theorem dJ6_bitCount_0f7a4_49 : decode cJ6_bitCount_0f7a4 49 = .ok (.bipush 63, 2) := by decide +kernel
theorem dJ6_bitCount_0f7a4_51 : decode cJ6_bitCount_0f7a4 51 = .ok (.iand, 1) := by decide +kernel
theorem dJ6_bitCount_0f7a4_52 : decode cJ6_bitCount_0f7a4 52 = .ok (.ireturn, 1) := by decide +kernel
theorem dJ9_max_7cf53_0 : decode cJ9_max_7cf53 0 = .ok (.iload_n 0, 1) := by decide +kernel
theorem dJ9_max_7cf53_1 : decode cJ9_max_7cf53 1 = .ok (.iload_n 1, 1) := by decide +kernel
theorem dJ9_max_7cf53_2 : decode cJ9_max_7cf53 2 = .ok (.if_icmp .lt 7, 3) := by decide +kernel
theorem dJ9_max_7cf53_5 : decode cJ9_max_7cf53 5 = .ok (.iload_n 0, 1) := by decide +kernel
theorem dJ9_max_7cf53_6 : decode cJ9_max_7cf53 6 = .ok (.goto 4, 3) := by decide +kernel
theorem dJ9_max_7cf53_9 : decode cJ9_max_7cf53 9 = .ok (.iload_n 1, 1) := by decide +kernel
theorem dJ9_max_7cf53_10 : decode cJ9_max_7cf53 10 = .ok (.ireturn, 1) := by decide +kernel
theorem dJ9_min_7cf53_0 : decode cJ9_min_7cf53 0 = .ok (.iload_n 0, 1) := by decide +kernel
theorem dJ9_min_7cf53_1 : decode cJ9_min_7cf53 1 = .ok (.iload_n 1, 1) := by decide +kernel
theorem dJ9_min_7cf53_2 : decode cJ9_min_7cf53 2 = .ok (.if_icmp .gt 7, 3) := by decide +kernel
theorem dJ9_min_7cf53_5 : decode cJ9_min_7cf53 5 = .ok (.iload_n 0, 1) := by decide +kernel
theorem dJ9_min_7cf53_6 : decode cJ9_min_7cf53 6 = .ok (.goto 4, 3) := by decide +kernel
theorem dJ9_min_7cf53_9 : decode cJ9_min_7cf53 9 = .ok (.iload_n 1, 1) := by decide +kernel
theorem dJ9_min_7cf53_10 : decode cJ9_min_7cf53 10 = .ok (.ireturn, 1) := by decide +kernel
end
section
/-- the array classes, by number: int[], Party[], Mediator[], Case[], Term[], int[][] -/
abbrev ty_L (cy : Nat → ClassId) : List (ClassId × FieldType) := [(cy 0, .int), (cy 1, .object RX3), (cy 2, .object RX2), (cy 3, .object RX0), (cy 4, .object RX6), (cy 5, .array .int)]
def ao_A (U : State) : Prop := (Cond.arrayOver (.array .int)).before #[] U = true
theorem ao_A.spec {U : State} (h : ao_A U) : ∃ comp c k, U.vm.findClass (FieldType.array .int).toString = some comp ∧ (U.vm.classes.findIdx? fun (x : Class) => match x.kind with | .array component _ => component == comp | _ => false) = some c ∧ U.vm.classes[c]? = some k ∧ k.kind = .array comp (.array .int) ∧ U.vm.findClass ("[" ++ (FieldType.array .int).toString) = some c := by
  unfold ao_A Cond.before at h
  simp only [Cond.holds, Cond.value, beq_iff_eq] at h
  cases hc : U.vm.findClass (FieldType.array .int).toString with
  | none => simp [hc] at h
  | some comp =>
    simp only [hc, Option.bind_some, Option.bind_eq_some_iff, Option.map_eq_some_iff] at h
    obtain ⟨c, hi, k, hk, hb⟩ := h
    obtain ⟨hlt, hp, -⟩ := Array.findIdx?_eq_some_iff_getElem.mp hi
    have hk' : U.vm.classes[c] = k := by
      have := Array.getElem?_eq_getElem hlt
      rw [hk] at this
      exact (Option.some.inj this).symm
    rw [hk'] at hp
    refine ⟨comp, c, k, rfl, hi, hk, ?_, ?_⟩
    · cases hkk : k.kind <;> rw [hkk] at hb hp <;> simp at hb hp
      rw [hp, hb.1]
    · cases hkk : k.kind <;> rw [hkk] at hb <;> simp at hb
      exact hb.2
theorem ao_A.moved {u U : State} (hvm : u.vm.Alike U.vm) (h : ao_A u) : ao_A U := by
  obtain ⟨comp, c, k, h1, h2, h3, h4, h5⟩ := h.spec
  obtain ⟨k', hk', he⟩ := hvm.2.2 _ _ h3
  have hi : (U.vm.classes.findIdx? fun (x : Class) => match x.kind with | .array component _ => component == comp | _ => false) = some c := by
    rw [hvm.findIdx?_eqK _ (fun _ => rfl)]
    exact h2
  have hkind : k'.kind = .array comp (.array .int) := by rw [he]; exact h4
  have f1 : U.vm.findClass (FieldType.array .int).toString = some comp := by rw [hvm.findClass]; exact h1
  have f2 : U.vm.findClass ("[" ++ (FieldType.array .int).toString) = some c := by rw [hvm.findClass]; exact h5
  unfold ao_A Cond.before Cond.holds
  simp only [Cond.value]
  rw [f1, Option.bind_some]
  refine (congrArg (fun o : Option Nat => (o.bind (fun c => (U.vm.classes[c]?).map fun (k : Class) => match k.kind with | .array _ ty => decide (ty = FieldType.array .int) && decide (U.vm.findClass ("[" ++ (FieldType.array .int).toString) = some c) | _ => false) == some true)) hi).trans ?_
  simp [hk', hkind, f2]
/-- what the tables say beside the words: private constructors of nest mates, arrays made before -/
def ex_K (U : State) : Prop := va_Nw (.methodLinkNest RX1 29 yX3_init RX7) U ∧ va_Nw (.methodLinkNest RX1 30 yX2_init RX7) U ∧ va_Nw (.methodLinkNest RX0 32 yX6_init RX7) U ∧ va_Nw (.methodLinkNest RX7 18 yX4_init RX7) U ∧ va_Nw (.methodLinkNest RX7 25 yX5_init RX7) U ∧ va_AO RX3 U ∧ va_AO RX2 U ∧ va_AO RX0 U ∧ va_AO RX6 U ∧ ao_A U
theorem ex_K.warm {s U : State} (hW : s.WarmedH U.vm) (h : ex_K s) : ex_K U := by
  obtain ⟨h1, h2, h3, h4, h5, a1, a2, a3, a4, a5⟩ := h
  exact ⟨h1.warmM hW, h2.warmM hW, h3.warmM hW, h4.warmM hW, h5.warmM hW, va_AO.moved hW.alike a1, va_AO.moved hW.alike a2, va_AO.moved hW.alike a3, va_AO.moved hW.alike a4, ao_A.moved hW.alike a5⟩
theorem ex_K.same {u U : State} (e : u.vm = U.vm) (h : ex_K u) : ex_K U := by
  obtain ⟨h1, h2, h3, h4, h5, a1, a2, a3, a4, a5⟩ := h
  have al : u.vm.Alike U.vm := e ▸ Vm.Alike.refl u.vm
  exact ⟨h1.same rfl e, h2.same rfl e, h3.same rfl e, h4.same rfl e, h5.same rfl e, va_AO.moved al a1, va_AO.moved al a2, va_AO.moved al a3, va_AO.moved al a4, ao_A.moved al a5⟩
/-- a method's start: the heap's size, the tables, the cells -/
abbrev ex_Pre (dC : Nat → ClassId) (dI : Nat → Nat → Nat) (cy : Nat → ClassId) (sz : Nat) (ws : va_W) (U : State) : Prop := U.heap.size = sz ∧ ex_K U ∧ va_P (dC, dI) vwCl ws U.heap ∧ va_K (dC, dI) vwCl (ty_L cy) U ∧ va_D (fun _ => True) ws
/-- its end: the cells -/
abbrev ex_Pst (dC : Nat → ClassId) (dI : Nat → Nat → Nat) (A : Nat → Prop) (ws : va_W) (t : State) : Prop := va_P (dC, dI) vwCl ws t.heap ∧ va_D A ws
theorem ex_blind {dC : Nat → ClassId} {dI : Nat → Nat → Nat} {cy : Nat → ClassId} {sz : Nat} {ws : va_W} {av : List Value} : FrameBlind (va_Pc av (ex_Pre dC dI cy sz ws)) := fun a U g mk q => by
  obtain ⟨q0, q1, qE, qP, qK, qD⟩ := q
  exact ⟨q0, q1, qE.same rfl, qP, va_K.moved (u := U) (U := U.calling g mk a) (Vm.Alike.refl U.vm) qK, qD⟩
theorem ex_fm {ws wc : va_W} {is : List Nat} (hs : is.map (fun i => ws[i]?) = wc.map some) : is.filterMap (fun i => ws[i]?) = wc := by
  have h : (is.map (fun i => ws[i]?)).filterMap id = (wc.map some).filterMap id := by rw [hs]
  rw [List.filterMap_map, List.filterMap_map] at h
  have e1 : is.filterMap (id ∘ fun i => ws[i]?) = is.filterMap (fun i => ws[i]?) := rfl
  have e2 : wc.filterMap (id ∘ some) = wc := by
    have : (id ∘ some : (Nat × va_E) → Option (Nat × va_E)) = some := rfl
    rw [this, List.filterMap_some]
  rw [e1, e2] at h
  exact h
theorem ex_preS {s : State} {H : Heap} {dC : Nat → ClassId} {dI : Nat → Nat → Nat} {cy : Nat → ClassId} {A : Nat → Prop} {ws wc : va_W} {As : List Value} (hE : ex_K s) (hK : va_K (dC, dI) vwCl (ty_L cy) s) (hP : va_P (dC, dI) vwCl ws H) (hD : va_D A ws) (is : List Nat) (hn : va_nd is = true) (hs : is.map (fun i => ws[i]?) = wc.map some) : PreS s H (va_Pc As (ex_Pre dC dI cy H.size wc)) As :=
  ⟨ex_blind, fun U hU hW => ⟨rfl, by rw [hU], hE.warm hW, by rw [hU]; exact hP.sub is (ex_fm hs), va_K.moved hW.alike hK, (hD.sub is hn hs).weaken (fun _ _ _ _ => trivial)⟩⟩
theorem ex_preV {s : State} {H : Heap} {dC : Nat → ClassId} {dI : Nat → Nat → Nat} {cy : Nat → ClassId} {A : Nat → Prop} {ws wc : va_W} {As : List Value} {b q0 ci : Nat} {q : vw_C} {fs : List Value} (hE : ex_K s) (hK : va_K (dC, dI) vwCl (ty_L cy) s) (hP : va_P (dC, dI) vwCl ws H) (hD : va_D A ws) (is : List Nat) (hn : va_nd is = true) (hs : is.map (fun i => ws[i]?) = wc.map some) (hc : vwCl[ci]? = some q) (he : ws[q0]? = some (b, .inr (ci, fs))) : PreV s H q.1 b (va_Pc (.ref b :: As) (ex_Pre dC dI cy H.size wc)) As :=
  ⟨ex_blind, va_recv hK hP hc he, (ex_preS (As := .ref b :: As) hE hK hP hD is hn hs).2⟩
section YC
variable {p : Program} {l : Launch} {e : Env} {R : Room} {s : State} {m : MethodId} {args : Array Value} {below : List Frame} {meth : Method} {c : Code} {H : Heap} {locs : List Loc} {cells slots : Nat} {Q : State → Prop}
variable {pc : Nat} {ls : Array Slot} {rest st0 : List Value} {a : Array Value} {A : Nat → Prop} {H0 : Heap} {mc ms : Nat} {dC : Nat → ClassId} {dI : Nat → Nat → Nat} {cy : Nat → ClassId} {ws wc wr : va_W}
theorem yc_i {S : Type} {post : Int32 → S → Prop} {w1 : S → va_W} (hP : va_P (dC, dI) vwCl ws H) (hD : va_D A ws) (hS : va_S A H0 H locs) (hA : ∀ q, H0.size ≤ q → A q) (isC isR : List Nat) (hC : isC.map (fun i => ws[i]?) = wc.map some) (hR : isR.map (fun i => ws[i]?) = wr.map some) (hn : va_nd isR = true) (hdis : ∀ i ∈ isR, i ∉ isC)
    (hr : va_Run p l e R s m args below meth c H locs cells slots mc ms (F0 m pc ls st0) rest (va_Qi post (fun u t => ex_Pst dC dI (va_A wc H.size) (w1 u) t) (va_A wc H.size) a) (va_A wc H.size))
    (kk : ∀ (r : Int32) (u : S) (H1 : Heap) (locs1 : List Loc), post r u → va_P (dC, dI) vwCl (wr ++ w1 u) H1 → va_D A (wr ++ w1 u) → va_S A H0 H1 locs1 → W p l e R s m args below meth c H1 locs1 (cells + mc) (slots + ms) Q (F0 m (pc + 3) ls (.int r :: rest))) : W p l e R s m args below meth c H locs cells slots Q (F0 m pc ls st0) := by
  have hF := va_free (wc := wc) hD hS hA isC hC
  refine va_calli hr hS (fun q _ h => hF q h) hF (fun r u t H1 locs1 ht hvm hw hB hz1 hk1 hS1 => ?_)
  obtain ⟨hP1, hD1⟩ := hB
  rw [ht] at hP1
  obtain ⟨hP2, hD2⟩ := va_join hP hD isC isR hC hR hn hdis hk1 hF hP1 hD1
  exact kk r u H1 locs1 hw hP2 hD2 hS1
theorem yc_v {S : Type} {post : S → Prop} {w1 : S → va_W} (hP : va_P (dC, dI) vwCl ws H) (hD : va_D A ws) (hS : va_S A H0 H locs) (hA : ∀ q, H0.size ≤ q → A q) (isC isR : List Nat) (hC : isC.map (fun i => ws[i]?) = wc.map some) (hR : isR.map (fun i => ws[i]?) = wr.map some) (hn : va_nd isR = true) (hdis : ∀ i ∈ isR, i ∉ isC)
    (hr : va_Run p l e R s m args below meth c H locs cells slots mc ms (F0 m pc ls st0) rest (va_Qv post (fun u t => ex_Pst dC dI (va_A wc H.size) (w1 u) t) (va_A wc H.size) a) (va_A wc H.size))
    (kk : ∀ (u : S) (H1 : Heap) (locs1 : List Loc), post u → va_P (dC, dI) vwCl (wr ++ w1 u) H1 → va_D A (wr ++ w1 u) → va_S A H0 H1 locs1 → W p l e R s m args below meth c H1 locs1 (cells + mc) (slots + ms) Q (F0 m (pc + 3) ls rest)) : W p l e R s m args below meth c H locs cells slots Q (F0 m pc ls st0) := by
  have hF := va_free (wc := wc) hD hS hA isC hC
  refine va_callv hr hS (fun q _ h => hF q h) hF (fun u t H1 locs1 ht hvm hw hB hz1 hk1 hS1 => ?_)
  obtain ⟨hP1, hD1⟩ := hB
  rw [ht] at hP1
  obtain ⟨hP2, hD2⟩ := va_join hP hD isC isR hC hR hn hdis hk1 hF hP1 hD1
  exact kk u H1 locs1 hw hP2 hD2 hS1
/-- a call that touches no cell -/
theorem yc_p {post : Int32 → Unit → Prop} (hP : va_P (dC, dI) vwCl ws H) (hS : va_S A H0 H locs)
    (hr : va_Run p l e R s m args below meth c H locs cells slots mc ms (F0 m pc ls st0) rest (va_Qi post (fun _ _ => True) (fun _ => False) a) (fun _ => False))
    (kk : ∀ (r : Int32) (H1 : Heap) (locs1 : List Loc), post r () → va_P (dC, dI) vwCl ws H1 → va_S A H0 H1 locs1 → W p l e R s m args below meth c H1 locs1 (cells + mc) (slots + ms) Q (F0 m (pc + 3) ls (.int r :: rest))) : W p l e R s m args below meth c H locs cells slots Q (F0 m pc ls st0) := by
  refine va_calli hr hS (fun q _ h => h.elim) (fun q h => h.elim) (fun r u t H1 locs1 ht hvm hw hB hz1 hk1 hS1 => ?_)
  exact kk r H1 locs1 hw (hP.kept (fun k x hx => hk1 x.1 ((hP k x hx).lt) (fun h => h))) hS1
end YC
theorem ex_preP {s : State} {H : Heap} {As : List Value} : PreS s H (va_Pc As (fun _ => True)) As := ⟨fun _ _ _ _ h => h, fun _ _ _ => ⟨rfl, trivial⟩⟩
/-- one array class a type -/
theorem ex_cy {D : va_G} {cl : List vw_C} {tys : List (ClassId × FieldType)} {U : State} {cA cB : ClassId} {ty : FieldType} (h : va_K D cl tys U) (i j : Nat) (hi : tys[i]? = some (cA, ty)) (hj : tys[j]? = some (cB, ty)) : cA = cB := by
  have a := (h.2 i _ hi).2
  have b := (h.2 j _ hj).2
  cases ty with
  | object C =>
    obtain ⟨_, _, _, _, _, a4⟩ := a
    obtain ⟨_, _, _, _, _, b4⟩ := b
    exact Option.some.inj (a4.symm.trans b4)
  | _ => exact Option.some.inj (Eq.trans (Eq.symm a) b)
section YN
variable {p : Program} {l : Launch} {e : Env} {R : Room} {s : State} {m : MethodId} {args : Array Value} {below : List Frame} {meth : Method} {c : Code} {H : Heap} {locs : List Loc} {cells slots : Nat} {Q : State → Prop}
variable {cc : ByteArray} {pc : Nat} {ls : Array Slot} {rest : List Value} {D : va_G} {cl : List vw_C} {A : Nat → Prop} {cy : Nat → ClassId} {ws : va_W} {H0 : Heap}
/-- new int[n] -/
theorem yn_i (hexec : p.tables.exec = Jvm.exec) (hb : c.code = cc) (harr : (Cond.arrayClass .int).before args s = true) (hK : va_K D cl (ty_L cy) s) (hP : va_P D cl ws H) (hD : va_D A ws) (hS : va_S A H0 H locs) (hA : ∀ q, H0.size ≤ q → A q)
    {n : Int32} (N' : Nat) (hn : ¬ n < 0) (hN : n.toNatClampNeg = N') (hbytes : N' * 4 ≤ 536870912) (hcells : cells + 1 ≤ R.cells) (hslots : slots + N' ≤ R.slots) (hdg : decode cc pc = .ok (.newarray .int, 2))
    (kk : ∀ (q : Nat) (H1 : Heap), va_P D cl (ws ++ [(q, .inl (cy 0, N', .inl (fun _ => 0)))]) H1 → va_D A (ws ++ [(q, .inl (cy 0, N', .inl (fun _ => 0)))]) → va_S A H0 H1 locs →
      W p l e R s m args below meth c H1 locs (cells + 1) (slots + N') Q (F0 m (pc + 2) ls (.ref q :: rest))) : W p l e R s m args below meth c H locs cells slots Q (F0 m pc ls (.int n :: rest)) := by
  refine va_newa (atype := .int) (ty := .int) (a0 := (N', .inl (fun _ => 0))) hexec hb harr rfl hK hP hD hS hA (fun cA => rfl) hn hN hbytes hcells hslots hdg (fun q cA H1 hK1 hP1 hD1 hS1 => ?_)
  have hc : cA = cy 0 := ex_cy hK1 6 0 rfl rfl
  subst hc
  exact kk q H1 hP1 hD1 hS1
/-- new C[n] -/
theorem yn_q (hexec : p.tables.exec = Jvm.exec) (hb : c.code = cc) {own C : String} {index : Nat} (hown : s.vm.findClass own = some m.cls) (hclink : (Cond.classLink own index C).before args s = true) (hover : va_AO C s) (hK : va_K D cl (ty_L cy) s) (hP : va_P D cl ws H) (hD : va_D A ws) (hS : va_S A H0 H locs) (hA : ∀ q, H0.size ≤ q → A q)
    {n : Int32} (N' t0 : Nat) (ht : (ty_L cy)[t0]? = some (cy t0, .object C)) (hn : ¬ n < 0) (hN : n.toNatClampNeg = N') (hbytes : N' * 4 ≤ 536870912) (hcells : cells + 1 ≤ R.cells) (hslots : slots + N' ≤ R.slots) (hdg : decode cc pc = .ok (.anewarray index, 3))
    (kk : ∀ (q : Nat) (H1 : Heap), va_P D cl (ws ++ [(q, .inl (cy t0, N', .inr (.inr (.inr (.inr (fun _ => none))))))]) H1 → va_D A (ws ++ [(q, .inl (cy t0, N', .inr (.inr (.inr (.inr (fun _ => none))))))]) → va_S A H0 H1 locs →
      W p l e R s m args below meth c H1 locs (cells + 1) (slots + N') Q (F0 m (pc + 3) ls (.ref q :: rest))) : W p l e R s m args below meth c H locs cells slots Q (F0 m pc ls (.int n :: rest)) := by
  refine va_newq hexec hb hown hclink hover hK hP hD hS hA hn hN hbytes hcells hslots hdg (fun q cA H1 hK1 hP1 hD1 hS1 => ?_)
  have hc : cA = cy t0 := ex_cy hK1 6 t0 rfl (by
    have hlt : t0 < (ty_L cy).length := (List.getElem?_eq_some_iff.mp ht).1
    rw [List.getElem?_append_left hlt]
    exact ht)
  subst hc
  exact kk q H1 hP1 hD1 hS1
end YN
end
section
section YM
variable {E : CtlPost} {e : Env} {d : Bool} {acts : List Action} {s : State}
theorem ym_na {c comp : ClassId} {k : Class} {ty : FieldType} {n : Nat} {v0 : Value} (hk : s.vm.classes[c]? = some k) (hkind : k.kind = .array comp ty) (hl : ¬ n > e.platform.arrayLengthLimit) (hh : ¬ n * componentBytes ty > e.platform.maxHeapBytes) (hf : fits ty v0 = true) (hdv : v0.isDefault = true) {Q : Addr → Pre}
    (h1 : s.heap.size < e.platform.maxCells) (h2 : s.slotsUsed + n ≤ e.platform.maxSlots) (hq : Q s.heap.size d acts (s.pushCell { cls := c, slots := Array.replicate n v0, vm := .none })) : wp (Jvm.newArray c n v0) Q E e d acts s := by
  have hall : ((Array.replicate n v0).all (·.isDefault)) = true := by
    rw [Array.all_replicate]
    split <;> simp [hdv]
  have hacts : allocActs (Array.replicate n v0) s.heap.size acts = acts := by
    unfold allocActs
    rw [if_pos hall]
  have hfs : ∀ i v, (Array.replicate n v0)[i]? = some v → s.fitsSlot c .none i v = true := fun i v hv => by
    simp only [Array.getElem?_replicate] at hv
    split at hv
    · cases hv
      simp [State.fitsSlot, State.slotType?, hk, hkind, hf]
    · cases hv
  simp only [Jvm.newArray, Jvm.arrayFits, wp_bind', W.ask, W.ite, hl, if_false, wp_pure', W.theClass, hk, hkind, hh, W.alloc, W.stop, Option.some.injEq, exists_eq_left', Array.size_replicate, hacts]
  rw [if_neg (by omega)]
  exact ⟨h1, h2, hfs, hq⟩
/-- the outer array of two, with none, one, two of its rows stored -/
abbrev ym_o (c : ClassId) : Cell := { cls := c, slots := Array.replicate 2 .null, vm := .none }
abbrev ym_r (c : ClassId) (n : Nat) : Cell := { cls := c, slots := Array.replicate n (.int 0), vm := .none }
def ym_1 (s : State) (cA c : ClassId) (n : Nat) : State := ((s.pushCell (ym_o cA)).pushCell (ym_r c n)).setCell s.heap.size ((ym_o cA).setSlot 0 (.ref (s.heap.size + 1)))
def ym_2 (s : State) (cA c : ClassId) (n : Nat) : State := ((ym_1 s cA c n).pushCell (ym_r c n)).setCell s.heap.size (((ym_o cA).setSlot 0 (.ref (s.heap.size + 1))).setSlot 1 (.ref (s.heap.size + 2)))
theorem ym_1f (s : State) (cA c : ClassId) (n : Nat) : (ym_1 s cA c n).heap.size = s.heap.size + 2 ∧ (ym_1 s cA c n).heap[s.heap.size]? = some ((ym_o cA).setSlot 0 (.ref (s.heap.size + 1))) ∧ (ym_1 s cA c n).vm = s.vm ∧ (ym_1 s cA c n).slotsUsed = s.slotsUsed + 2 + n ∧ (∀ a, a < s.heap.size → (ym_1 s cA c n).heap[a]? = s.heap[a]?) ∧ (ym_1 s cA c n).heap[s.heap.size + 1]? = some (ym_r c n) := by
  have h0 : (s.pushCell (ym_o cA)).heap.size = s.heap.size + 1 := by simp
  have l0 : ∀ a, a < s.heap.size + 1 → a < (s.pushCell (ym_o cA)).heap.size := fun a h => by rw [h0]; exact h
  have hb : ((s.pushCell (ym_o cA)).pushCell (ym_r c n)).heap[s.heap.size]? = some (ym_o cA) := by
    rw [State.heap_pushCell_of_lt (h := l0 _ (Nat.lt_succ_self _))]
    exact State.heap_pushCell_size _ _
  refine ⟨by simp [ym_1, State.setCell], State.heap_setCell_self hb, by simp [ym_1], by simp [ym_1], fun a ha => ?_, ?_⟩
  · show (((s.pushCell (ym_o cA)).pushCell (ym_r c n)).setCell s.heap.size _).heap[a]? = _
    rw [State.heap_setCell_other (Nat.ne_of_gt ha), State.heap_pushCell_of_lt (h := l0 a (by omega)), State.heap_pushCell_of_lt (h := ha)]
  · show (((s.pushCell (ym_o cA)).pushCell (ym_r c n)).setCell s.heap.size _).heap[s.heap.size + 1]? = _
    rw [State.heap_setCell_other (show s.heap.size ≠ s.heap.size + 1 by omega), ← h0]
    exact State.heap_pushCell_size _ _
theorem ym_2f (s : State) (cA c : ClassId) (n : Nat) : (ym_2 s cA c n).heap.size = s.heap.size + 3 ∧ (ym_2 s cA c n).heap[s.heap.size]? = some (((ym_o cA).setSlot 0 (.ref (s.heap.size + 1))).setSlot 1 (.ref (s.heap.size + 2))) ∧ (∀ a, a < s.heap.size → (ym_2 s cA c n).heap[a]? = s.heap[a]?) ∧ (ym_2 s cA c n).heap[s.heap.size + 1]? = some (ym_r c n) ∧ (ym_2 s cA c n).heap[s.heap.size + 2]? = some (ym_r c n) := by
  obtain ⟨f1, f2, f3, f4, f5, f6⟩ := ym_1f s cA c n
  have l1 : ∀ a, a < s.heap.size + 2 → a < (ym_1 s cA c n).heap.size := fun a h => by rw [f1]; exact h
  have hb : ((ym_1 s cA c n).pushCell (ym_r c n)).heap[s.heap.size]? = some ((ym_o cA).setSlot 0 (.ref (s.heap.size + 1))) := by
    rw [State.heap_pushCell_of_lt (h := l1 s.heap.size (by omega))]
    exact f2
  refine ⟨by simp [ym_2, State.setCell, f1], State.heap_setCell_self hb, fun a ha => ?_, ?_, ?_⟩
  · show (((ym_1 s cA c n).pushCell (ym_r c n)).setCell s.heap.size _).heap[a]? = _
    rw [State.heap_setCell_other (Nat.ne_of_gt ha), State.heap_pushCell_of_lt (h := l1 a (by omega))]
    exact f5 a ha
  · show (((ym_1 s cA c n).pushCell (ym_r c n)).setCell s.heap.size _).heap[s.heap.size + 1]? = _
    rw [State.heap_setCell_other (show s.heap.size ≠ s.heap.size + 1 by omega), State.heap_pushCell_of_lt (h := l1 (s.heap.size + 1) (by omega))]
    exact f6
  · show (((ym_1 s cA c n).pushCell (ym_r c n)).setCell s.heap.size _).heap[s.heap.size + 2]? = _
    rw [State.heap_setCell_other (show s.heap.size ≠ s.heap.size + 2 by omega), ← f1]
    exact State.heap_pushCell_size _ _
theorem ym_row {c cc : ClassId} {kc : Class} {m : Int32} (hkc : s.vm.classes[c]? = some kc) (hkindc : kc.kind = .array cc .int) (hm : ¬ m < 0) (hl2 : ¬ m.toNatClampNeg > e.platform.arrayLengthLimit) (hh2 : ¬ m.toNatClampNeg * 4 > e.platform.maxHeapBytes)
    (h1 : s.heap.size < e.platform.maxCells) (h2 : s.slotsUsed + m.toNatClampNeg ≤ e.platform.maxSlots) {Q : Addr → Pre} (hq : Q s.heap.size d acts (s.pushCell (ym_r c m.toNatClampNeg))) : wp (multianewarray.make c [m]) Q E e d acts s := by
  rw [multianewarray.make]
  simp only [wp_bind', W.ite, hm, if_false, wp_pure', W.theClass, hkc, hkindc, Option.some.injEq, exists_eq_left']
  exact ym_na hkc hkindc hl2 hh2 rfl rfl h1 h2 hq
theorem ym_make {cA c cc : ClassId} {k kc : Class} {m : Int32} (hk : s.vm.classes[cA]? = some k) (hkind : k.kind = .array c (.array .int)) (hkc : s.vm.classes[c]? = some kc) (hkindc : kc.kind = .array cc .int) (hm : ¬ m < 0)
    (hl1 : ¬ 2 > e.platform.arrayLengthLimit) (hh1 : ¬ 2 * 4 > e.platform.maxHeapBytes) (hl2 : ¬ m.toNatClampNeg > e.platform.arrayLengthLimit) (hh2 : ¬ m.toNatClampNeg * 4 > e.platform.maxHeapBytes)
    (hc : s.heap.size + 3 ≤ e.platform.maxCells) (hs : s.slotsUsed + 2 + m.toNatClampNeg + m.toNatClampNeg ≤ e.platform.maxSlots) {Q : Addr → Pre} (hq : ∀ d' acts', Q s.heap.size d' acts' (ym_2 s cA c m.toNatClampNeg)) : wp (multianewarray.make cA [2, m]) Q E e d acts s := by
  have hfind : ([m].find? (· < 0)) = none := by simp [hm]
  have h2 : ((2 : Int32).toNatClampNeg) = 2 := by decide
  have hn2 : ¬ (2 : Int32) < 0 := by decide
  obtain ⟨f1, f2, f3, f4, f5, f6⟩ := ym_1f s cA c m.toNatClampNeg
  rw [multianewarray.make]
  simp only [wp_bind', W.ite, hn2, if_false, wp_pure', W.theClass, hk, hkind, Option.some.injEq, exists_eq_left', h2]
  refine ym_na hk hkind hl1 hh1 rfl rfl (by omega) (by omega) ?_
  simp only [hfind]
  rw [ite_self, wp_bind', Std.Legacy.Range.forIn_eq_forIn_range']
  have hsz : ([:2] : Std.Legacy.Range).size = 2 := by simp [Std.Legacy.Range.size]
  rw [hsz]
  show wp (forIn [0, 1] PUnit.unit _) _ E e d acts _
  simp only [List.forIn_cons, List.forIn_nil, wp_bind']
  refine ym_row (s := s.pushCell (ym_o cA)) hkc hkindc hm hl2 hh2 (by simp; omega) (by simp; omega) ?_
  have g0 : (s.pushCell (ym_o cA)).heap.size = s.heap.size + 1 := by simp
  have l0 : s.heap.size < (s.pushCell (ym_o cA)).heap.size := by rw [g0]; exact Nat.lt_succ_self _
  have g1 : ((s.pushCell (ym_o cA)).pushCell (ym_r c m.toNatClampNeg)).heap[s.heap.size]? = some (ym_o cA) := by
    rw [State.heap_pushCell_of_lt (h := l0)]
    exact State.heap_pushCell_size _ _
  simp only [wp_bind', W.writeLoc, wp_pure']
  refine ⟨ym_o cA, g1, by simp, by simp, by simp [State.fitsSlot, State.slotType?, hk, hkind]; rfl, ?_⟩
  rw [g0]
  show wp _ _ E e _ _ (ym_1 s cA c m.toNatClampNeg)
  refine ym_row (s := ym_1 s cA c m.toNatClampNeg) (by rw [f3]; exact hkc) hkindc hm hl2 hh2 (by rw [f1]; omega) (by rw [f4]; omega) ?_
  have l1 : s.heap.size < (ym_1 s cA c m.toNatClampNeg).heap.size := by rw [f1]; omega
  have g2 : ((ym_1 s cA c m.toNatClampNeg).pushCell (ym_r c m.toNatClampNeg)).heap[s.heap.size]? = some ((ym_o cA).setSlot 0 (.ref (s.heap.size + 1))) := by
    rw [State.heap_pushCell_of_lt (h := l1)]
    exact f2
  simp only [wp_bind', W.writeLoc, wp_pure']
  refine ⟨_, g2, by simp [Cell.setSlot], by simp [Cell.setSlot], by simp [State.fitsSlot, State.slotType?, Cell.setSlot, f3, hk, hkind]; rfl, ?_⟩
  rw [f1]
  exact hq _ _
end YM
section YX
variable {p : Program} {l : Launch} {e : Env} {R : Room} {s : State} {m : MethodId} {args : Array Value} {below : List Frame} {meth : Method} {c : Code} {T : State} {locs : List Loc} {cells slots : Nat}
theorem ym_step (X : Stand p l e R s m args below meth c T locs cells slots) (hexec : p.tables.exec = Jvm.exec) {own : String} {index : Nat} (hown : s.vm.findClass own = some m.cls) (hclink : (Cond.classLink own index "[[I").before args s = true) (hover : ao_A s) (harr : (Cond.arrayClass .int).before args s = true)
    {g : JFrame} (hg : g.method = m) (hdg : decode c.code g.pc = .ok (.multianewarray index 2, 4)) {k : Int32} {rest : List Value} (hstack : g.stack = .int k :: .int 2 :: rest) (hk : ¬ k < 0) (hb2 : k.toNatClampNeg * 4 ≤ 536870912) (hcells : cells + 3 ≤ R.cells) (hslots : slots + (2 + k.toNatClampNeg + k.toNatClampNeg) ≤ R.slots) :
    ∃ (vm₁ : Vm) (cA comp : ClassId), s.vm.findClass "[[I" = some cA ∧ s.vm.findClass "[I" = some comp ∧
      Stand p l e R s m args below meth c (ym_2 (T.setVm vm₁) cA comp k.toNatClampNeg) ((locs ++ [⟨T.heap.size, 0⟩]) ++ [⟨T.heap.size, 1⟩]) (cells + 3) (slots + (2 + k.toNatClampNeg + k.toNatClampNeg)) ∧
      ∀ target, Steps p.tables e below ((ym_2 (T.setVm vm₁) cA comp k.toNatClampNeg).setTop { g with pc := g.pc + 4, stack := .ref T.heap.size :: rest }) target → Steps p.tables e below (T.setTop g) target := by
  subst hg
  have hpl : e.platform.magicAccessors = ({} : Platform).magicAccessors := by rw [X.admits.platform]
  obtain ⟨comp, cA, kA, hcomp, -, hkA, hkindA, hnameA⟩ := hover.spec
  obtain ⟨comp', kC, cc, hcomp', hkC, hkindC⟩ := Cond.arrayClass_spec harr
  have ecomp : comp' = comp := Option.some.inj (hcomp'.symm.trans hcomp)
  subst ecomp
  obtain ⟨c0, hfc0, hcl⟩ := Cond.classLink_spec hown hclink e.platform hpl
  cases (show s.vm.findClass "[[I" = some cA from hnameA).symm.trans hfc0
  obtain ⟨hg₁, hwarm₁, hready₁⟩ := State.classEntry (e := e) X.warmed hcl
  generalize T.vm.noted g.method.cls index (.cls cA) = vm₁ at hg₁ hwarm₁ hready₁
  have hal : s.vm.Alike vm₁ := hwarm₁.alike
  obtain ⟨kA₁, hkA₁, heA⟩ := hal.2.2 _ _ hkA
  obtain ⟨kC₁, hkC₁, heC⟩ := hal.2.2 _ _ hkC
  have hkindA₁ : kA₁.kind = .array comp' (.array .int) := by rw [heA]; exact hkindA
  have hkindC₁ : kC₁.kind = .array cc .int := by rw [heC]; exact hkindC
  have X₁ := X.noted hwarm₁
  obtain ⟨hr1, hr2⟩ := X.roomAbove hcells hslots
  obtain ⟨f1, f2, f3, f4, f5, f6⟩ := ym_1f (T.setVm vm₁) cA comp' k.toNatClampNeg
  have g0 : ((T.setVm vm₁).pushCell (ym_o cA)).heap.size = (T.setVm vm₁).heap.size + 1 := by simp
  have l0 : (T.setVm vm₁).heap.size < ((T.setVm vm₁).pushCell (ym_o cA)).heap.size := by rw [g0]; exact Nat.lt_succ_self _
  have g1 : (((T.setVm vm₁).pushCell (ym_o cA)).pushCell (ym_r comp' k.toNatClampNeg)).heap[(T.setVm vm₁).heap.size]? = some (ym_o cA) := by
    rw [State.heap_pushCell_of_lt (h := l0)]
    exact State.heap_pushCell_size _ _
  have Y1 := ((X₁.pushed (ym_o cA)).pushed (ym_r comp' k.toNatClampNeg)).stored g1 0 (.ref ((T.setVm vm₁).heap.size + 1))
  have l1 : (T.setVm vm₁).heap.size < (ym_1 (T.setVm vm₁) cA comp' k.toNatClampNeg).heap.size := by rw [f1]; omega
  have g2 : ((ym_1 (T.setVm vm₁) cA comp' k.toNatClampNeg).pushCell (ym_r comp' k.toNatClampNeg)).heap[(T.setVm vm₁).heap.size]? = some ((ym_o cA).setSlot 0 (.ref ((T.setVm vm₁).heap.size + 1))) := by
    rw [State.heap_pushCell_of_lt (h := l1)]
    exact f2
  have Y2 := (Stand.pushed (T := ym_1 (T.setVm vm₁) cA comp' k.toNatClampNeg) Y1 (ym_r comp' k.toNatClampNeg)).stored g2 1 (.ref ((T.setVm vm₁).heap.size + 2))
  have XF : Stand p l e R s g.method args below meth c (ym_2 (T.setVm vm₁) cA comp' k.toNatClampNeg) ((locs ++ [⟨T.heap.size, 0⟩]) ++ [⟨T.heap.size, 1⟩]) (cells + 3) (slots + (2 + k.toNatClampNeg + k.toNatClampNeg)) := by
    have e1 : (ym_o cA).slots.size = 2 := by simp
    have e2 : (ym_r comp' k.toNatClampNeg).slots.size = k.toNatClampNeg := by simp
    rw [e1, e2] at Y2
    have e3 : slots + 2 + k.toNatClampNeg + k.toNatClampNeg = slots + (2 + k.toNatClampNeg + k.toNatClampNeg) := by omega
    rw [e3] at Y2
    exact Y2
  refine ⟨vm₁, cA, comp', hnameA, hcomp, XF, fun target hrest => ?_⟩
  have hl1 : ¬ 2 > e.platform.arrayLengthLimit := by rw [Launch.admits_arrayLengthLimit X.admits]; omega
  have hh1 : ¬ 2 * 4 > e.platform.maxHeapBytes := by rw [Launch.admits_maxHeapBytes X.admits]; omega
  have hl2 : ¬ k.toNatClampNeg > e.platform.arrayLengthLimit := by rw [Launch.admits_arrayLengthLimit X.admits]; omega
  have hh2 : ¬ k.toNatClampNeg * 4 > e.platform.maxHeapBytes := by rw [Launch.admits_maxHeapBytes X.admits]; omega
  jvm_step X.here [hexec, hdg]
  simp only [multianewarray.sem, wp_bind', W.resolveClassAt_links (State.method?_setTop g X.here.top) hg₁]
  rw [W.popN, if_neg (by decide)]
  refine ⟨g, State.topJava?_setTop' (s := T.setVm vm₁) g X.here.top, [.int 2, .int k], rest, rfl, hstack, ?_⟩
  simp only [List.mapM_cons, List.mapM_nil, wp_bind', wp_pure']
  have eS : ((T.setTop g).setVm vm₁).setTop { g with stack := rest } = (T.setVm vm₁).setTop { g with stack := rest } := by
    show ((T.setVm vm₁).setTop g).setTop _ = _
    rw [State.setTop_setTop]
  refine ym_make (k := kA₁) (kc := kC₁) (c := comp') (cc := cc) hkA₁ hkindA₁ hkC₁ hkindC₁ hk hl1 hh1 hl2 hh2 (by show T.heap.size + 3 ≤ _; omega) (by show T.slotsUsed + 2 + _ + _ ≤ _; omega) (fun d' acts' => ?_)
  have eF : ym_2 (((T.setTop g).setVm vm₁).setTop { g with stack := rest }) cA comp' k.toNatClampNeg = (ym_2 (T.setVm vm₁) cA comp' k.toNatClampNeg).setTop { g with stack := rest } := by
    rw [eS]
    simp only [ym_2, ym_1, State.heap_setTop, State.pushCell_setTop, State.setCell_setTop]
  rw [eF]
  simp only [wp_bind', W.mark, W.pushRef, State.topJava?_setTop' _ XF.here.top, Option.some.injEq, exists_eq_left', State.setTop_setTop, State.heap_setTop]
  intro acts
  simp [jvm, XF.here.top]
  exact hrest
end YX
section YN
variable {p : Program} {l : Launch} {e : Env} {R : Room} {s : State} {m : MethodId} {args : Array Value} {below : List Frame} {meth : Method} {c : Code} {H : Heap} {locs : List Loc} {cells slots : Nat} {Q : State → Prop}
variable {cc : ByteArray} {pc : Nat} {ls : Array Slot} {rest : List Value} {D : va_G} {cl : List vw_C} {A : Nat → Prop} {cy : Nat → ClassId} {ws : va_W} {H0 : Heap}
/-- new int[2][k] -/
theorem yn_m (hexec : p.tables.exec = Jvm.exec) (hb : c.code = cc) {own : String} {index : Nat} (hown : s.vm.findClass own = some m.cls) (hclink : (Cond.classLink own index "[[I").before args s = true) (hover : ao_A s) (harr : (Cond.arrayClass .int).before args s = true) (hK : va_K D cl (ty_L cy) s) (hP : va_P D cl ws H) (hD : va_D A ws) (hS : va_S A H0 H locs) (hA : ∀ q, H0.size ≤ q → A q)
    {k : Int32} (K' : Nat) (hk : ¬ k < 0) (hM : k.toNatClampNeg = K') (hb2 : K' * 4 ≤ 536870912) (hcells : cells + 3 ≤ R.cells) (hslots : slots + (2 + K' + K') ≤ R.slots) (hdg : decode cc pc = .ok (.multianewarray index 2, 4))
    (kk : ∀ (q : Nat) (H1 : Heap) (locs1 : List Loc), va_P D cl (ws ++ [(q, .inl (cy 5, 2, .inr (.inr (.inr (.inr (fun i => if i < 2 then some (q + 1 + i) else none)))))), (q + 1, .inl (cy 0, K', .inl (fun _ => 0))), (q + 2, .inl (cy 0, K', .inl (fun _ => 0)))]) H1 → va_D A (ws ++ [(q, .inl (cy 5, 2, .inr (.inr (.inr (.inr (fun i => if i < 2 then some (q + 1 + i) else none)))))), (q + 1, .inl (cy 0, K', .inl (fun _ => 0))), (q + 2, .inl (cy 0, K', .inl (fun _ => 0)))]) → va_S A H0 H1 locs1 →
      W p l e R s m args below meth c H1 locs1 (cells + 3) (slots + (2 + K' + K')) Q (F0 m (pc + 4) ls (.ref q :: rest))) : W p l e R s m args below meth c H locs cells slots Q (F0 m pc ls (.int k :: .int 2 :: rest)) := by
  subst hM
  intro T hT Xs
  obtain ⟨vm₁, cA, comp, fA, fC, X', step⟩ := ym_step Xs hexec hown hclink hover harr (g := F0 m pc ls (.int k :: .int 2 :: rest)) rfl (by rw [hb]; exact hdg) rfl hk hb2 hcells hslots
  have eA : cA = cy 5 := Option.some.inj (fA.symm.trans (hK.2 5 _ rfl).2)
  have eC : comp = cy 0 := Option.some.inj (fC.symm.trans (hK.2 0 _ rfl).2)
  subst eA
  subst eC
  have hTh : (T.setVm vm₁).heap = H := hT
  obtain ⟨f1, f2, f3, f4, f5⟩ := ym_2f (T.setVm vm₁) (cy 5) (cy 0) k.toNatClampNeg
  generalize ym_2 (T.setVm vm₁) (cy 5) (cy 0) k.toNatClampNeg = F at X' step f1 f2 f3 f4 f5
  rw [hTh] at f1 f2 f3 f4 f5
  have eR : (ym_r (cy 0) k.toNatClampNeg) = vp_cell (cy 0) (k.toNatClampNeg, .inl (fun _ => 0)) := by
    show ({ cls := cy 0, slots := Array.replicate k.toNatClampNeg (.int 0), vm := .none } : Cell) = _
    rw [arrV_new]
    rfl
  have eO : ((ym_o (cy 5)).setSlot 0 (.ref (H.size + 1))).setSlot 1 (.ref (H.size + 2)) = vp_cell (cy 5) (2, .inr (.inr (.inr (.inr (fun i => if i < 2 then some (H.size + 1 + i) else none))))) := by
    rw [vp_cell_q]
    show (({ cls := cy 5, slots := Array.replicate 2 .null, vm := .none } : Cell).setSlot 0 _).setSlot 1 _ = _
    rw [arrV_new, arrV_store, arrV_store]
    refine congrArg (arrV (cy 5) 2) (funext fun j => ?_)
    rcases Nat.lt_or_ge j 2 with h | h
    · rcases (show j = 0 ∨ j = 1 by omega) with rfl | rfl <;> simp [updV, va_rf]
    · simp [updV, va_rf, show j ≠ 0 by omega, show j ≠ 1 by omega, show ¬ j < 2 by omega]
  rw [eO] at f2
  rw [eR] at f4 f5
  have hN : ∀ (k9 : Nat) (x : Nat × va_E), ([(H.size, .inl (cy 5, 2, .inr (.inr (.inr (.inr (fun i => if i < 2 then some (H.size + 1 + i) else none)))))), (H.size + 1, .inl (cy 0, k.toNatClampNeg, .inl (fun _ => 0))), (H.size + 2, .inl (cy 0, k.toNatClampNeg, .inl (fun _ => 0)))] : va_W)[k9]? = some x → va_at D cl x F.heap ∧ x.1 = H.size + k9 := fun k9 x hx => by
    have h0 : k9 < 3 := (List.getElem?_eq_some_iff.mp hx).1
    rcases (show k9 = 0 ∨ k9 = 1 ∨ k9 = 2 by omega) with rfl | rfl | rfl <;> cases hx
    · exact ⟨f2, rfl⟩
    · exact ⟨f4, rfl⟩
    · exact ⟨f5, rfl⟩
  have hP1 := (hP.kept (H1 := F.heap) (fun k9 x hx => f3 x.1 ((hP k9 x hx).lt))).app (fun k9 x hx => (hN k9 x hx).1)
  have hs0 := hS.1
  have hD1 := va_D.app hD (w2 := ([(H.size, .inl (cy 5, 2, .inr (.inr (.inr (.inr (fun i => if i < 2 then some (H.size + 1 + i) else none)))))), (H.size + 1, .inl (cy 0, k.toNatClampNeg, .inl (fun _ => 0))), (H.size + 2, .inl (cy 0, k.toNatClampNeg, .inl (fun _ => 0)))] : va_W)) ⟨fun i j x y hi hj hxy => by
      have h1 := (hN i x hi).2
      have h2 := (hN j y hj).2
      omega, fun k9 x hx => hA _ (by have := (hN k9 x hx).2; omega)⟩ (fun i j x y hi hj hxy => by
      have h1 := (hP i x hi).lt
      have h2 := (hN j y hj).2
      omega)
  obtain ⟨t, a1, b1⟩ := kk H.size F.heap ((locs ++ [⟨T.heap.size, 0⟩]) ++ [⟨T.heap.size, 1⟩]) hP1 hD1 ⟨by rw [f1]; omega, fun x h1 h2 => (f3 x (Nat.lt_of_lt_of_le h1 hs0)).trans (hS.2.1 x h1 h2), fun q hq => by
    have hTs : T.heap.size = H.size := by rw [hT]
    rcases List.mem_append.mp hq with h | h
    · rcases List.mem_append.mp h with h | h
      · exact hS.2.2 q h
      · rw [List.mem_singleton.mp h]
        exact hA _ (by rw [hTs]; exact hs0)
    · rw [List.mem_singleton.mp h]
      exact hA _ (by rw [hTs]; exact hs0)⟩ F rfl X'
  refine ⟨t, step t ?_, b1⟩
  have e : T.heap.size = H.size := by rw [hT]
  rw [e]
  exact a1
end YN
end
