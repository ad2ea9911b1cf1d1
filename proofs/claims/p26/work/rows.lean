section
-- ===== PART A: goes FIRST, ahead of the names: the tables' words, and 'selects' of the private methods out of them =====
/-- a private method of a class that the tables say can be made, by its rows of tables_1 -/
def lw_okq (q : MethodName × Nat) : Prop := (q.1.cls ≠ "java/lang/invoke/MethodHandle" ∧ q.1.cls ≠ "java/lang/invoke/VarHandle") ∧ Cond.instantiable q.1.cls q.2 ∈ tables_1 ∧ Cond.privateMethod q.1 ∈ tables_1 ∧ Cond.instanceMethod q.1 ∈ tables_1
theorem lw_p0 : lw_okq (⟨"QuietStairs", "isMediator", "(I)Z"⟩, 5) := ⟨⟨by decide +kernel, by decide +kernel⟩, List.mem_of_getElem? (i := 14) (by decide +kernel), List.mem_of_getElem? (i := 286) (by decide +kernel), List.mem_of_getElem? (i := 287) (by decide +kernel)⟩
theorem lw_p1 : lw_okq (⟨"QuietStairs", "isParty", "(I)Z"⟩, 5) := ⟨⟨by decide +kernel, by decide +kernel⟩, List.mem_of_getElem? (i := 14) (by decide +kernel), List.mem_of_getElem? (i := 290) (by decide +kernel), List.mem_of_getElem? (i := 291) (by decide +kernel)⟩
theorem lw_p2 : lw_okq (⟨"QuietStairs", "isCase", "(I)Z"⟩, 5) := ⟨⟨by decide +kernel, by decide +kernel⟩, List.mem_of_getElem? (i := 14) (by decide +kernel), List.mem_of_getElem? (i := 309) (by decide +kernel), List.mem_of_getElem? (i := 310) (by decide +kernel)⟩
theorem lw_p3 : lw_okq (⟨"QuietStairs$Planner", "gather", "(LQuietStairs$House;)V"⟩, 11) := ⟨⟨by decide +kernel, by decide +kernel⟩, List.mem_of_getElem? (i := 198) (by decide +kernel), List.mem_of_getElem? (i := 411) (by decide +kernel), List.mem_of_getElem? (i := 412) (by decide +kernel)⟩
theorem lw_p4 : lw_okq (⟨"QuietStairs$Planner", "sortByWeight", "()V"⟩, 11) := ⟨⟨by decide +kernel, by decide +kernel⟩, List.mem_of_getElem? (i := 198) (by decide +kernel), List.mem_of_getElem? (i := 420) (by decide +kernel), List.mem_of_getElem? (i := 421) (by decide +kernel)⟩
theorem lw_p5 : lw_okq (⟨"QuietStairs$Planner", "search", "(II)V"⟩, 11) := ⟨⟨by decide +kernel, by decide +kernel⟩, List.mem_of_getElem? (i := 198) (by decide +kernel), List.mem_of_getElem? (i := 424) (by decide +kernel), List.mem_of_getElem? (i := 425) (by decide +kernel)⟩
theorem lw_p6 : lw_okq (⟨"QuietStairs$Planner", "leastBehind", "(I)I"⟩, 11) := ⟨⟨by decide +kernel, by decide +kernel⟩, List.mem_of_getElem? (i := 198) (by decide +kernel), List.mem_of_getElem? (i := 428) (by decide +kernel), List.mem_of_getElem? (i := 429) (by decide +kernel)⟩
theorem lw_p7 : lw_okq (⟨"QuietStairs$Planner", "searchDay", "(III)V"⟩, 11) := ⟨⟨by decide +kernel, by decide +kernel⟩, List.mem_of_getElem? (i := 198) (by decide +kernel), List.mem_of_getElem? (i := 435) (by decide +kernel), List.mem_of_getElem? (i := 436) (by decide +kernel)⟩
theorem lw_p8 : lw_okq (⟨"QuietStairs", "isTerm", "(II)Z"⟩, 5) := ⟨⟨by decide +kernel, by decide +kernel⟩, List.mem_of_getElem? (i := 14) (by decide +kernel), List.mem_of_getElem? (i := 465) (by decide +kernel), List.mem_of_getElem? (i := 466) (by decide +kernel)⟩
theorem lw_p9 : lw_okq (⟨"QuietStairs$Table", "pinLeastHour", "(I)I"⟩, 3) := ⟨⟨by decide +kernel, by decide +kernel⟩, List.mem_of_getElem? (i := 239) (by decide +kernel), List.mem_of_getElem? (i := 494) (by decide +kernel), List.mem_of_getElem? (i := 495) (by decide +kernel)⟩
theorem lw_p10 : lw_okq (⟨"QuietStairsModel", "isMediator", "(I)Z"⟩, 11) := ⟨⟨by decide +kernel, by decide +kernel⟩, List.mem_of_getElem? (i := 570) (by decide +kernel), List.mem_of_getElem? (i := 625) (by decide +kernel), List.mem_of_getElem? (i := 626) (by decide +kernel)⟩
theorem lw_p11 : lw_okq (⟨"QuietStairsModel", "isParty", "(I)Z"⟩, 11) := ⟨⟨by decide +kernel, by decide +kernel⟩, List.mem_of_getElem? (i := 570) (by decide +kernel), List.mem_of_getElem? (i := 629) (by decide +kernel), List.mem_of_getElem? (i := 630) (by decide +kernel)⟩
theorem lw_p12 : lw_okq (⟨"QuietStairsModel", "isCase", "(I)Z"⟩, 11) := ⟨⟨by decide +kernel, by decide +kernel⟩, List.mem_of_getElem? (i := 570) (by decide +kernel), List.mem_of_getElem? (i := 644) (by decide +kernel), List.mem_of_getElem? (i := 645) (by decide +kernel)⟩
theorem lw_p13 : lw_okq (⟨"QuietStairsModel", "findHeads", "()V"⟩, 11) := ⟨⟨by decide +kernel, by decide +kernel⟩, List.mem_of_getElem? (i := 570) (by decide +kernel), List.mem_of_getElem? (i := 660) (by decide +kernel), List.mem_of_getElem? (i := 661) (by decide +kernel)⟩
theorem lw_p14 : lw_okq (⟨"QuietStairsModel", "joined", "(I)I"⟩, 11) := ⟨⟨by decide +kernel, by decide +kernel⟩, List.mem_of_getElem? (i := 570) (by decide +kernel), List.mem_of_getElem? (i := 664) (by decide +kernel), List.mem_of_getElem? (i := 665) (by decide +kernel)⟩
theorem lw_p15 : lw_okq (⟨"QuietStairsModel", "isPair", "(I)Z"⟩, 11) := ⟨⟨by decide +kernel, by decide +kernel⟩, List.mem_of_getElem? (i := 570) (by decide +kernel), List.mem_of_getElem? (i := 687) (by decide +kernel), List.mem_of_getElem? (i := 688) (by decide +kernel)⟩
def lw_privs_1 : List (MethodName × Nat) := [(⟨"QuietStairs", "isMediator", "(I)Z"⟩, 5), (⟨"QuietStairs", "isParty", "(I)Z"⟩, 5), (⟨"QuietStairs", "isCase", "(I)Z"⟩, 5), (⟨"QuietStairs$Planner", "gather", "(LQuietStairs$House;)V"⟩, 11), (⟨"QuietStairs$Planner", "sortByWeight", "()V"⟩, 11), (⟨"QuietStairs$Planner", "search", "(II)V"⟩, 11), (⟨"QuietStairs$Planner", "leastBehind", "(I)I"⟩, 11), (⟨"QuietStairs$Planner", "searchDay", "(III)V"⟩, 11), (⟨"QuietStairs", "isTerm", "(II)Z"⟩, 5), (⟨"QuietStairs$Table", "pinLeastHour", "(I)I"⟩, 3), (⟨"QuietStairsModel", "isMediator", "(I)Z"⟩, 11), (⟨"QuietStairsModel", "isParty", "(I)Z"⟩, 11), (⟨"QuietStairsModel", "isCase", "(I)Z"⟩, 11), (⟨"QuietStairsModel", "findHeads", "()V"⟩, 11), (⟨"QuietStairsModel", "joined", "(I)I"⟩, 11), (⟨"QuietStairsModel", "isPair", "(I)Z"⟩, 11)]
theorem lw_r1 : ∀ q ∈ lw_privs_1, lw_okq q := List.forall_mem_cons.mpr ⟨lw_p0, List.forall_mem_cons.mpr ⟨lw_p1, List.forall_mem_cons.mpr ⟨lw_p2, List.forall_mem_cons.mpr ⟨lw_p3, List.forall_mem_cons.mpr ⟨lw_p4, List.forall_mem_cons.mpr ⟨lw_p5, List.forall_mem_cons.mpr ⟨lw_p6, List.forall_mem_cons.mpr ⟨lw_p7, List.forall_mem_cons.mpr ⟨lw_p8, List.forall_mem_cons.mpr ⟨lw_p9, List.forall_mem_cons.mpr ⟨lw_p10, List.forall_mem_cons.mpr ⟨lw_p11, List.forall_mem_cons.mpr ⟨lw_p12, List.forall_mem_cons.mpr ⟨lw_p13, List.forall_mem_cons.mpr ⟨lw_p14, List.forall_mem_cons.mpr ⟨lw_p15, fun _ h => absurd h List.not_mem_nil⟩⟩⟩⟩⟩⟩⟩⟩⟩⟩⟩⟩⟩⟩⟩⟩
theorem lw_p16 : lw_okq (⟨"QuietStairsModel", "may", "(II)Z"⟩, 11) := ⟨⟨by decide +kernel, by decide +kernel⟩, List.mem_of_getElem? (i := 570) (by decide +kernel), List.mem_of_getElem? (i := 694) (by decide +kernel), List.mem_of_getElem? (i := 695) (by decide +kernel)⟩
theorem lw_p17 : lw_okq (⟨"QuietStairsModel", "mayMeet", "(II)Z"⟩, 11) := ⟨⟨by decide +kernel, by decide +kernel⟩, List.mem_of_getElem? (i := 570) (by decide +kernel), List.mem_of_getElem? (i := 701) (by decide +kernel), List.mem_of_getElem? (i := 702) (by decide +kernel)⟩
theorem lw_p18 : lw_okq (⟨"QuietStairsModel", "makePlan", "()V"⟩, 11) := ⟨⟨by decide +kernel, by decide +kernel⟩, List.mem_of_getElem? (i := 570) (by decide +kernel), List.mem_of_getElem? (i := 713) (by decide +kernel), List.mem_of_getElem? (i := 714) (by decide +kernel)⟩
theorem lw_p19 : lw_okq (⟨"QuietStairsModel", "note", "()V"⟩, 11) := ⟨⟨by decide +kernel, by decide +kernel⟩, List.mem_of_getElem? (i := 570) (by decide +kernel), List.mem_of_getElem? (i := 718) (by decide +kernel), List.mem_of_getElem? (i := 719) (by decide +kernel)⟩
theorem lw_p20 : lw_okq (⟨"QuietStairsModel", "waitsOf", "(I)I"⟩, 11) := ⟨⟨by decide +kernel, by decide +kernel⟩, List.mem_of_getElem? (i := 570) (by decide +kernel), List.mem_of_getElem? (i := 722) (by decide +kernel), List.mem_of_getElem? (i := 723) (by decide +kernel)⟩
theorem lw_p21 : lw_okq (⟨"QuietStairsModel", "fits", "(I)Z"⟩, 11) := ⟨⟨by decide +kernel, by decide +kernel⟩, List.mem_of_getElem? (i := 570) (by decide +kernel), List.mem_of_getElem? (i := 726) (by decide +kernel), List.mem_of_getElem? (i := 727) (by decide +kernel)⟩
theorem lw_p22 : lw_okq (⟨"QuietStairsModel", "isTerm", "(II)Z"⟩, 11) := ⟨⟨by decide +kernel, by decide +kernel⟩, List.mem_of_getElem? (i := 570) (by decide +kernel), List.mem_of_getElem? (i := 749) (by decide +kernel), List.mem_of_getElem? (i := 750) (by decide +kernel)⟩
theorem lw_p23 : lw_okq (⟨"QuietStairsModel", "makeTable", "(III)Z"⟩, 11) := ⟨⟨by decide +kernel, by decide +kernel⟩, List.mem_of_getElem? (i := 570) (by decide +kernel), List.mem_of_getElem? (i := 757) (by decide +kernel), List.mem_of_getElem? (i := 758) (by decide +kernel)⟩
theorem lw_p24 : lw_okq (⟨"QuietStairsModel", "next", "(IIIII)I"⟩, 11) := ⟨⟨by decide +kernel, by decide +kernel⟩, List.mem_of_getElem? (i := 570) (by decide +kernel), List.mem_of_getElem? (i := 761) (by decide +kernel), List.mem_of_getElem? (i := 762) (by decide +kernel)⟩
theorem lw_p25 : lw_okq (⟨"QuietStairsModel", "isOwn", "(III)Z"⟩, 11) := ⟨⟨by decide +kernel, by decide +kernel⟩, List.mem_of_getElem? (i := 570) (by decide +kernel), List.mem_of_getElem? (i := 765) (by decide +kernel), List.mem_of_getElem? (i := 766) (by decide +kernel)⟩
theorem lw_p26 : lw_okq (⟨"QuietStairsModel", "hourFrom", "(IIIII)I"⟩, 11) := ⟨⟨by decide +kernel, by decide +kernel⟩, List.mem_of_getElem? (i := 570) (by decide +kernel), List.mem_of_getElem? (i := 769) (by decide +kernel), List.mem_of_getElem? (i := 770) (by decide +kernel)⟩
theorem lw_p27 : lw_okq (⟨"QuietStairsModel", "mayBe", "(IIII)Z"⟩, 11) := ⟨⟨by decide +kernel, by decide +kernel⟩, List.mem_of_getElem? (i := 570) (by decide +kernel), List.mem_of_getElem? (i := 773) (by decide +kernel), List.mem_of_getElem? (i := 774) (by decide +kernel)⟩
theorem lw_p28 : lw_okq (⟨"QuietStairsModel", "judge", "(II)I"⟩, 11) := ⟨⟨by decide +kernel, by decide +kernel⟩, List.mem_of_getElem? (i := 570) (by decide +kernel), List.mem_of_getElem? (i := 793) (by decide +kernel), List.mem_of_getElem? (i := 794) (by decide +kernel)⟩
theorem lw_p29 : lw_okq (⟨"QuietStairsModel", "casesThat", "(I)I"⟩, 11) := ⟨⟨by decide +kernel, by decide +kernel⟩, List.mem_of_getElem? (i := 570) (by decide +kernel), List.mem_of_getElem? (i := 801) (by decide +kernel), List.mem_of_getElem? (i := 802) (by decide +kernel)⟩
theorem lw_p30 : lw_okq (⟨"QuietStairsModel", "quarrels", "()I"⟩, 11) := ⟨⟨by decide +kernel, by decide +kernel⟩, List.mem_of_getElem? (i := 570) (by decide +kernel), List.mem_of_getElem? (i := 805) (by decide +kernel), List.mem_of_getElem? (i := 806) (by decide +kernel)⟩
theorem lw_p31 : lw_okq (⟨"QuietStairsModel", "termsThat", "(I)I"⟩, 11) := ⟨⟨by decide +kernel, by decide +kernel⟩, List.mem_of_getElem? (i := 570) (by decide +kernel), List.mem_of_getElem? (i := 809) (by decide +kernel), List.mem_of_getElem? (i := 810) (by decide +kernel)⟩
def lw_privs_2 : List (MethodName × Nat) := [(⟨"QuietStairsModel", "may", "(II)Z"⟩, 11), (⟨"QuietStairsModel", "mayMeet", "(II)Z"⟩, 11), (⟨"QuietStairsModel", "makePlan", "()V"⟩, 11), (⟨"QuietStairsModel", "note", "()V"⟩, 11), (⟨"QuietStairsModel", "waitsOf", "(I)I"⟩, 11), (⟨"QuietStairsModel", "fits", "(I)Z"⟩, 11), (⟨"QuietStairsModel", "isTerm", "(II)Z"⟩, 11), (⟨"QuietStairsModel", "makeTable", "(III)Z"⟩, 11), (⟨"QuietStairsModel", "next", "(IIIII)I"⟩, 11), (⟨"QuietStairsModel", "isOwn", "(III)Z"⟩, 11), (⟨"QuietStairsModel", "hourFrom", "(IIIII)I"⟩, 11), (⟨"QuietStairsModel", "mayBe", "(IIII)Z"⟩, 11), (⟨"QuietStairsModel", "judge", "(II)I"⟩, 11), (⟨"QuietStairsModel", "casesThat", "(I)I"⟩, 11), (⟨"QuietStairsModel", "quarrels", "()I"⟩, 11), (⟨"QuietStairsModel", "termsThat", "(I)I"⟩, 11)]
theorem lw_r2 : ∀ q ∈ lw_privs_2, lw_okq q := List.forall_mem_cons.mpr ⟨lw_p16, List.forall_mem_cons.mpr ⟨lw_p17, List.forall_mem_cons.mpr ⟨lw_p18, List.forall_mem_cons.mpr ⟨lw_p19, List.forall_mem_cons.mpr ⟨lw_p20, List.forall_mem_cons.mpr ⟨lw_p21, List.forall_mem_cons.mpr ⟨lw_p22, List.forall_mem_cons.mpr ⟨lw_p23, List.forall_mem_cons.mpr ⟨lw_p24, List.forall_mem_cons.mpr ⟨lw_p25, List.forall_mem_cons.mpr ⟨lw_p26, List.forall_mem_cons.mpr ⟨lw_p27, List.forall_mem_cons.mpr ⟨lw_p28, List.forall_mem_cons.mpr ⟨lw_p29, List.forall_mem_cons.mpr ⟨lw_p30, List.forall_mem_cons.mpr ⟨lw_p31, fun _ h => absurd h List.not_mem_nil⟩⟩⟩⟩⟩⟩⟩⟩⟩⟩⟩⟩⟩⟩⟩⟩
def lw_privs : List (MethodName × Nat) := lw_privs_1 ++ (lw_privs_2)
def lw_tbl : List Cond := k2_sels lw_privs ++ tables_1
theorem lw_privs_ok : ∀ q ∈ lw_privs, lw_okq q := by
  show ∀ q ∈ lw_privs_1 ++ (lw_privs_2), lw_okq q
  exact List.forall_mem_append.mpr ⟨lw_r1, lw_r2⟩
end
section
/-! ===== BEGIN words of one list among another's, by their places ===== -/
theorem goodIn_r {big : List Cond} (ws : List Cond) (ps : List Nat) (hp : ws = ps.filterMap (fun i => big[i]?)) (h : ws.all goodWord = true) : GoodIn big ws := by
  intro w hw
  have h1 := List.all_eq_true.mp h w hw
  rw [hp] at hw
  obtain ⟨i, -, hi⟩ := List.mem_filterMap.mp hw
  have hm : w ∈ big := by first | exact List.mem_of_getElem? hi | exact List.getElem?_mem hi
  exact ⟨hm, good_of_word h1⟩
theorem goodIn_app {big a b : List Cond} (ha : GoodIn big a) (hb : GoodIn big b) : GoodIn big (a ++ b) := fun w h => (List.mem_append.mp h).elim (ha w) (hb w)
theorem goodIn_ca {big a b : List Cond} {c : Cond} (ha : GoodIn big (c :: a)) (hb : GoodIn big b) : GoodIn big (c :: (a ++ b)) := fun w h => (List.mem_cons.mp h).elim (fun e => ha w (List.mem_cons.mpr (Or.inl e))) (fun h => (List.mem_append.mp h).elim (fun h => ha w (List.mem_cons.mpr (Or.inr h))) (hb w))
theorem goodIn_sub {big ws : List Cond} (hm : ∀ w ∈ ws, w ∈ big) (h : ws.all goodWord = true) : GoodIn big ws := fun w hw => ⟨hm w hw, good_of_word (List.all_eq_true.mp h w hw)⟩
/-! ===== END ===== -/

/-! ===== BEGIN printed: names, fields, word lists, decode rows ===== -/
def RX0 : String := "QuietStairs$Case"
def TX0 : u_T := fun k => match k with
  | 0 => ("QuietStairs$Case", "state", "I", false)
  | 1 => ("QuietStairs$Case", "sum", "I", false)
  | 2 => ("QuietStairs$Case", "roundsOver", "I", false)
  | 3 => ("QuietStairs$Case", "weight", "I", false)
  | 4 => ("QuietStairs$Case", "markedBits", "I", false)
  | 5 => ("QuietStairs$Case", "termCount", "I", false)
  | 6 => ("QuietStairs$Case", "parties", "[I", true)
  | 7 => ("QuietStairs$Case", "box", "[I", true)
  | 8 => ("QuietStairs$Case", "offers", "[[I", true)
  | 9 => ("QuietStairs$Case", "logs", "[[I", true)
  | _ => ("QuietStairs$Case", "terms", "[LQuietStairs$Term;", true)
def tyX0 : Nat → FieldType := fun k => match k with
  | 0 => .int
  | 1 => .int
  | 2 => .int
  | 3 => .int
  | 4 => .int
  | 5 => .int
  | 6 => .array .int
  | 7 => .array .int
  | 8 => .array (.array .int)
  | 9 => .array (.array .int)
  | _ => .array (.object "QuietStairs$Term")
abbrev wsX00 : List Cond := u_ws RX0 TX0 11
theorem nmX0 : ∀ a, a < 11 → ∀ b, b < 11 → a ≠ b → (TX0 a).2.1 ≠ (TX0 b).2.1 := by decide +kernel
theorem tyX0_ok : ∀ k, k < 11 → parseFieldDescriptor (TX0 k).2.2.1 = some (tyX0 k) := by decide +kernel
abbrev cX0_init : ByteArray := prog_2_method_1_code
def yX0_init : MethodName := ⟨RX0, "<init>", "()V"⟩
abbrev cX0_begin : ByteArray := prog_2_method_2_code
def yX0_begin : MethodName := ⟨RX0, "begin", "(II)V"⟩
abbrev cX0_endRound : ByteArray := prog_2_method_3_code
def yX0_endRound : MethodName := ⟨RX0, "endRound", "()Z"⟩
abbrev cX0_hasMet : ByteArray := prog_2_method_4_code
def yX0_hasMet : MethodName := ⟨RX0, "hasMet", "(I)Z"⟩
abbrev cX0_leastOfOther : ByteArray := prog_2_method_5_code
def yX0_leastOfOther : MethodName := ⟨RX0, "leastOfOther", "(II)I"⟩
abbrev cX0_greatestOfOther : ByteArray := prog_2_method_6_code
def yX0_greatestOfOther : MethodName := ⟨RX0, "greatestOfOther", "(II)I"⟩
abbrev cX0_judge : ByteArray := prog_2_method_7_code
def yX0_judge : MethodName := ⟨RX0, "judge", "(I)I"⟩
abbrev cX0_copyFrom : ByteArray := prog_2_method_8_code
def yX0_copyFrom : MethodName := ⟨RX0, "copyFrom", "(LQuietStairs$Case;)V"⟩
def RX1 : String := "QuietStairs$House"
def TX1 : u_T := fun k => match k with
  | 0 => ("QuietStairs$House", "partyCount", "I", false)
  | 1 => ("QuietStairs$House", "mediatorCount", "I", false)
  | 2 => ("QuietStairs$House", "caseCount", "I", false)
  | 3 => ("QuietStairs$House", "markCount", "I", false)
  | 4 => ("QuietStairs$House", "parties", "[LQuietStairs$Party;", true)
  | 5 => ("QuietStairs$House", "mediators", "[LQuietStairs$Mediator;", true)
  | _ => ("QuietStairs$House", "cases", "[LQuietStairs$Case;", true)
def tyX1 : Nat → FieldType := fun k => match k with
  | 0 => .int
  | 1 => .int
  | 2 => .int
  | 3 => .int
  | 4 => .array (.object "QuietStairs$Party")
  | 5 => .array (.object "QuietStairs$Mediator")
  | _ => .array (.object "QuietStairs$Case")
abbrev wsX10 : List Cond := u_ws RX1 TX1 7
theorem nmX1 : ∀ a, a < 7 → ∀ b, b < 7 → a ≠ b → (TX1 a).2.1 ≠ (TX1 b).2.1 := by decide +kernel
theorem tyX1_ok : ∀ k, k < 7 → parseFieldDescriptor (TX1 k).2.2.1 = some (tyX1 k) := by decide +kernel
abbrev cX1_init : ByteArray := prog_3_method_1_code
def yX1_init : MethodName := ⟨RX1, "<init>", "()V"⟩
abbrev cX1_hasPair : ByteArray := prog_3_method_2_code
def yX1_hasPair : MethodName := ⟨RX1, "hasPair", "(I)Z"⟩
abbrev cX1_pairFits : ByteArray := prog_3_method_3_code
def yX1_pairFits : MethodName := ⟨RX1, "pairFits", "(ILQuietStairs$Case;)Z"⟩
abbrev cX1_isNear : ByteArray := prog_3_method_4_code
def yX1_isNear : MethodName := ⟨RX1, "isNear", "(LQuietStairs$Mediator;I)Z"⟩
abbrev cX1_quarrelBits : ByteArray := prog_3_method_5_code
def yX1_quarrelBits : MethodName := ⟨RX1, "quarrelBits", "(I)I"⟩
abbrev cX1_headOfQuarrel : ByteArray := prog_3_method_6_code
def yX1_headOfQuarrel : MethodName := ⟨RX1, "headOfQuarrel", "(I)I"⟩
abbrev cX1_countQuarrels : ByteArray := prog_3_method_7_code
def yX1_countQuarrels : MethodName := ⟨RX1, "countQuarrels", "()I"⟩
abbrev cX1_countState : ByteArray := prog_3_method_8_code
def yX1_countState : MethodName := ⟨RX1, "countState", "(I)I"⟩
abbrev cX1_countTerms : ByteArray := prog_3_method_9_code
def yX1_countTerms : MethodName := ⟨RX1, "countTerms", "()I"⟩
abbrev cX1_countJudged : ByteArray := prog_3_method_10_code
def yX1_countJudged : MethodName := ⟨RX1, "countJudged", "(I)I"⟩
abbrev cX1_copyFrom : ByteArray := prog_3_method_11_code
def yX1_copyFrom : MethodName := ⟨RX1, "copyFrom", "(LQuietStairs$House;)V"⟩
def RX2 : String := "QuietStairs$Mediator"
def TX2 : u_T := fun k => match k with
  | 0 => ("QuietStairs$Mediator", "floor", "I", false)
  | 1 => ("QuietStairs$Mediator", "tongues", "I", false)
  | _ => ("QuietStairs$Mediator", "kinBits", "I", false)
def tyX2 : Nat → FieldType := fun k => match k with
  | 0 => .int
  | 1 => .int
  | _ => .int
abbrev wsX20 : List Cond := u_ws RX2 TX2 3
theorem nmX2 : ∀ a, a < 3 → ∀ b, b < 3 → a ≠ b → (TX2 a).2.1 ≠ (TX2 b).2.1 := by decide +kernel
theorem tyX2_ok : ∀ k, k < 3 → parseFieldDescriptor (TX2 k).2.2.1 = some (tyX2 k) := by decide +kernel
abbrev cX2_init : ByteArray := prog_4_method_1_code
def yX2_init : MethodName := ⟨RX2, "<init>", "()V"⟩
abbrev cX2_copyFrom : ByteArray := prog_4_method_2_code
def yX2_copyFrom : MethodName := ⟨RX2, "copyFrom", "(LQuietStairs$Mediator;)V"⟩
def RX3 : String := "QuietStairs$Party"
def TX3 : u_T := fun k => match k with
  | 0 => ("QuietStairs$Party", "floor", "I", false)
  | _ => ("QuietStairs$Party", "tongue", "I", false)
def tyX3 : Nat → FieldType := fun k => match k with
  | 0 => .int
  | _ => .int
abbrev wsX30 : List Cond := u_ws RX3 TX3 2
theorem nmX3 : ∀ a, a < 2 → ∀ b, b < 2 → a ≠ b → (TX3 a).2.1 ≠ (TX3 b).2.1 := by decide +kernel
theorem tyX3_ok : ∀ k, k < 2 → parseFieldDescriptor (TX3 k).2.2.1 = some (tyX3 k) := by decide +kernel
abbrev cX3_init : ByteArray := prog_5_method_1_code
def yX3_init : MethodName := ⟨RX3, "<init>", "()V"⟩
abbrev cX3_copyFrom : ByteArray := prog_5_method_2_code
def yX3_copyFrom : MethodName := ⟨RX3, "copyFrom", "(LQuietStairs$Party;)V"⟩
def RX4 : String := "QuietStairs$Planner"
def TX4 : u_T := fun k => match k with
  | 0 => ("QuietStairs$Planner", "leastWait", "I", false)
  | 1 => ("QuietStairs$Planner", "count", "I", false)
  | 2 => ("QuietStairs$Planner", "seatsADay", "I", false)
  | 3 => ("QuietStairs$Planner", "numbers", "[I", true)
  | 4 => ("QuietStairs$Planner", "weights", "[I", true)
  | 5 => ("QuietStairs$Planner", "pairBits", "[I", true)
  | 6 => ("QuietStairs$Planner", "heaviestFirst", "[I", true)
  | 7 => ("QuietStairs$Planner", "seats", "[I", true)
  | 8 => ("QuietStairs$Planner", "bestSeats", "[I", true)
  | 9 => ("QuietStairs$Planner", "busyBits", "[I", true)
  | _ => ("QuietStairs$Planner", "sittings", "[I", true)
def tyX4 : Nat → FieldType := fun k => match k with
  | 0 => .int
  | 1 => .int
  | 2 => .int
  | 3 => .array .int
  | 4 => .array .int
  | 5 => .array .int
  | 6 => .array .int
  | 7 => .array .int
  | 8 => .array .int
  | 9 => .array .int
  | _ => .array .int
abbrev wsX40 : List Cond := u_ws RX4 TX4 11
theorem nmX4 : ∀ a, a < 11 → ∀ b, b < 11 → a ≠ b → (TX4 a).2.1 ≠ (TX4 b).2.1 := by decide +kernel
theorem tyX4_ok : ∀ k, k < 11 → parseFieldDescriptor (TX4 k).2.2.1 = some (tyX4 k) := by decide +kernel
abbrev cX4_init : ByteArray := prog_6_method_1_code
def yX4_init : MethodName := ⟨RX4, "<init>", "()V"⟩
abbrev cX4_findPlan : ByteArray := prog_6_method_2_code
def yX4_findPlan : MethodName := ⟨RX4, "findPlan", "(LQuietStairs$House;I)V"⟩
abbrev cX4_seatOf : ByteArray := prog_6_method_3_code
def yX4_seatOf : MethodName := ⟨RX4, "seatOf", "(I)I"⟩
abbrev cX4_gather : ByteArray := prog_6_method_4_code
def yX4_gather : MethodName := ⟨RX4, "gather", "(LQuietStairs$House;)V"⟩
abbrev cX4_fittingPairs : ByteArray := prog_6_method_5_code
def yX4_fittingPairs : MethodName := ⟨RX4, "fittingPairs", "(LQuietStairs$House;LQuietStairs$Case;)I"⟩
abbrev cX4_sortByWeight : ByteArray := prog_6_method_6_code
def yX4_sortByWeight : MethodName := ⟨RX4, "sortByWeight", "()V"⟩
abbrev cX4_search : ByteArray := prog_6_method_7_code
def yX4_search : MethodName := ⟨RX4, "search", "(II)V"⟩
abbrev cX4_searchDay : ByteArray := prog_6_method_8_code
def yX4_searchDay : MethodName := ⟨RX4, "searchDay", "(III)V"⟩
abbrev cX4_leastBehind : ByteArray := prog_6_method_9_code
def yX4_leastBehind : MethodName := ⟨RX4, "leastBehind", "(I)I"⟩
def RX5 : String := "QuietStairs$Table"
def TX5 : u_T := fun k => match k with
  | 0 => ("QuietStairs$Table", "count", "I", false)
  | 1 => ("QuietStairs$Table", "musts", "[I", true)
  | _ => ("QuietStairs$Table", "hourBits", "[I", true)
def tyX5 : Nat → FieldType := fun k => match k with
  | 0 => .int
  | 1 => .array .int
  | _ => .array .int
abbrev wsX50 : List Cond := u_ws RX5 TX5 3
theorem nmX5 : ∀ a, a < 3 → ∀ b, b < 3 → a ≠ b → (TX5 a).2.1 ≠ (TX5 b).2.1 := by decide +kernel
theorem tyX5_ok : ∀ k, k < 3 → parseFieldDescriptor (TX5 k).2.2.1 = some (tyX5 k) := by decide +kernel
abbrev cX5_init : ByteArray := prog_7_method_1_code
def yX5_init : MethodName := ⟨RX5, "<init>", "()V"⟩
abbrev cX5_read : ByteArray := prog_7_method_2_code
def yX5_read : MethodName := ⟨RX5, "read", "(LQuietStairs$Case;II)V"⟩
abbrev cX5_allowedHours : ByteArray := prog_7_method_3_code
def yX5_allowedHours : MethodName := ⟨RX5, "allowedHours", "(LQuietStairs$Case;LQuietStairs$Term;I)I"⟩
abbrev cX5_stands : ByteArray := prog_7_method_4_code
def yX5_stands : MethodName := ⟨RX5, "stands", "()Z"⟩
abbrev cX5_hourOf : ByteArray := prog_7_method_5_code
def yX5_hourOf : MethodName := ⟨RX5, "hourOf", "(I)I"⟩
abbrev cX5_pinLeastHour : ByteArray := prog_7_method_6_code
def yX5_pinLeastHour : MethodName := ⟨RX5, "pinLeastHour", "(I)I"⟩
def RX6 : String := "QuietStairs$Term"
def TX6 : u_T := fun k => match k with
  | 0 => ("QuietStairs$Term", "side", "I", false)
  | 1 => ("QuietStairs$Term", "must", "Z", false)
  | 2 => ("QuietStairs$Term", "act", "I", false)
  | 3 => ("QuietStairs$Term", "first", "I", false)
  | _ => ("QuietStairs$Term", "last", "I", false)
def tyX6 : Nat → FieldType := fun k => match k with
  | 0 => .int
  | 1 => .boolean
  | 2 => .int
  | 3 => .int
  | _ => .int
abbrev wsX60 : List Cond := u_ws RX6 TX6 5
theorem nmX6 : ∀ a, a < 5 → ∀ b, b < 5 → a ≠ b → (TX6 a).2.1 ≠ (TX6 b).2.1 := by decide +kernel
theorem tyX6_ok : ∀ k, k < 5 → parseFieldDescriptor (TX6 k).2.2.1 = some (tyX6 k) := by decide +kernel
abbrev cX6_init : ByteArray := prog_8_method_1_code
def yX6_init : MethodName := ⟨RX6, "<init>", "()V"⟩
abbrev cX6_hourBits : ByteArray := prog_8_method_2_code
def yX6_hourBits : MethodName := ⟨RX6, "hourBits", "()I"⟩
abbrev cX6_copyFrom : ByteArray := prog_8_method_3_code
def yX6_copyFrom : MethodName := ⟨RX6, "copyFrom", "(LQuietStairs$Term;)V"⟩
def RX7 : String := "QuietStairs"
def TX7 : u_T := fun k => match k with
  | 0 => ("QuietStairs", "now", "LQuietStairs$House;", true)
  | 1 => ("QuietStairs", "planner", "LQuietStairs$Planner;", true)
  | 2 => ("QuietStairs", "table", "LQuietStairs$Table;", true)
  | 3 => ("QuietStairs", "kept", "LQuietStairs$House;", false)
  | _ => ("QuietStairs", "roomCount", "I", false)
def tyX7 : Nat → FieldType := fun k => match k with
  | 0 => .object "QuietStairs$House"
  | 1 => .object "QuietStairs$Planner"
  | 2 => .object "QuietStairs$Table"
  | 3 => .object "QuietStairs$House"
  | _ => .int
abbrev wsX70 : List Cond := u_ws RX7 TX7 5
theorem nmX7 : ∀ a, a < 5 → ∀ b, b < 5 → a ≠ b → (TX7 a).2.1 ≠ (TX7 b).2.1 := by decide +kernel
theorem tyX7_ok : ∀ k, k < 5 → parseFieldDescriptor (TX7 k).2.2.1 = some (tyX7 k) := by decide +kernel
abbrev cX7_init : ByteArray := prog_1_method_1_code
def yX7_init : MethodName := ⟨RX7, "<init>", "()V"⟩
abbrev cX7_party : ByteArray := prog_1_method_2_code
def yX7_party : MethodName := ⟨RX7, "party", "(II)I"⟩
abbrev cX7_mediator : ByteArray := prog_1_method_3_code
def yX7_mediator : MethodName := ⟨RX7, "mediator", "(II)I"⟩
abbrev cX7_kin : ByteArray := prog_1_method_4_code
def yX7_kin : MethodName := ⟨RX7, "kin", "(IIZ)I"⟩
abbrev cX7_open : ByteArray := prog_1_method_5_code
def yX7_open : MethodName := ⟨RX7, "open", "(II)I"⟩
abbrev cX7_close : ByteArray := prog_1_method_6_code
def yX7_close : MethodName := ⟨RX7, "close", "(I)I"⟩
abbrev cX7_weight : ByteArray := prog_1_method_7_code
def yX7_weight : MethodName := ⟨RX7, "weight", "(II)I"⟩
abbrev cX7_mark : ByteArray := prog_1_method_8_code
def yX7_mark : MethodName := ⟨RX7, "mark", "(II)I"⟩
abbrev cX7_of : ByteArray := prog_1_method_9_code
def yX7_of : MethodName := ⟨RX7, "of", "(II)I"⟩
abbrev cX7_offer : ByteArray := prog_1_method_10_code
def yX7_offer : MethodName := ⟨RX7, "offer", "(III)I"⟩
abbrev cX7_put : ByteArray := prog_1_method_11_code
def yX7_put : MethodName := ⟨RX7, "put", "(II)I"⟩
abbrev cX7_learns : ByteArray := prog_1_method_12_code
def yX7_learns : MethodName := ⟨RX7, "learns", "(IIIZ)I"⟩
abbrev cX7_maySit : ByteArray := prog_1_method_13_code
def yX7_maySit : MethodName := ⟨RX7, "maySit", "(II)I"⟩
abbrev cX7_rooms : ByteArray := prog_1_method_14_code
def yX7_rooms : MethodName := ⟨RX7, "rooms", "(I)I"⟩
abbrev cX7_plan : ByteArray := prog_1_method_15_code
def yX7_plan : MethodName := ⟨RX7, "plan", "(I)I"⟩
abbrev cX7_waits : ByteArray := prog_1_method_16_code
def yX7_waits : MethodName := ⟨RX7, "waits", "()I"⟩
abbrev cX7_term : ByteArray := prog_1_method_17_code
def yX7_term : MethodName := ⟨RX7, "term", "(IIZIII)I"⟩
abbrev cX7_strike : ByteArray := prog_1_method_18_code
def yX7_strike : MethodName := ⟨RX7, "strike", "(I)I"⟩
abbrev cX7_termOf : ByteArray := prog_1_method_19_code
def yX7_termOf : MethodName := ⟨RX7, "termOf", "(III)I"⟩
abbrev cX7_hour : ByteArray := prog_1_method_20_code
def yX7_hour : MethodName := ⟨RX7, "hour", "(II)I"⟩
abbrev cX7_canHold : ByteArray := prog_1_method_21_code
def yX7_canHold : MethodName := ⟨RX7, "canHold", "(II)I"⟩
abbrev cX7_breaks : ByteArray := prog_1_method_22_code
def yX7_breaks : MethodName := ⟨RX7, "breaks", "(II)I"⟩
abbrev cX7_log : ByteArray := prog_1_method_23_code
def yX7_log : MethodName := ⟨RX7, "log", "(IIII)I"⟩
abbrev cX7_judged : ByteArray := prog_1_method_24_code
def yX7_judged : MethodName := ⟨RX7, "judged", "(II)I"⟩
abbrev cX7_many : ByteArray := prog_1_method_25_code
def yX7_many : MethodName := ⟨RX7, "many", "(I)I"⟩
abbrev cX7_keep : ByteArray := prog_1_method_26_code
def yX7_keep : MethodName := ⟨RX7, "keep", "()I"⟩
abbrev cX7_back : ByteArray := prog_1_method_27_code
def yX7_back : MethodName := ⟨RX7, "back", "()I"⟩
abbrev cX7_isParty : ByteArray := prog_1_method_28_code
def yX7_isParty : MethodName := ⟨RX7, "isParty", "(I)Z"⟩
abbrev cX7_isMediator : ByteArray := prog_1_method_29_code
def yX7_isMediator : MethodName := ⟨RX7, "isMediator", "(I)Z"⟩
abbrev cX7_isCase : ByteArray := prog_1_method_30_code
def yX7_isCase : MethodName := ⟨RX7, "isCase", "(I)Z"⟩
abbrev cX7_isTerm : ByteArray := prog_1_method_31_code
def yX7_isTerm : MethodName := ⟨RX7, "isTerm", "(II)Z"⟩
abbrev cX7_isSide : ByteArray := prog_1_method_32_code
def yX7_isSide : MethodName := ⟨RX7, "isSide", "(I)Z"⟩
abbrev cX7_isHour : ByteArray := prog_1_method_33_code
def yX7_isHour : MethodName := ⟨RX7, "isHour", "(I)Z"⟩
abbrev cX7_isWithin : ByteArray := prog_1_method_34_code
def yX7_isWithin : MethodName := ⟨RX7, "isWithin", "(III)Z"⟩
abbrev cX7_hasBit : ByteArray := prog_1_method_35_code
def yX7_hasBit : MethodName := ⟨RX7, "hasBit", "(II)Z"⟩
def RX8 : String := "QuietStairsModel"
def TX8 : u_T := fun k => match k with
  | 0 => ("QuietStairsModel", "s", "[I", true)
  | 1 => ("QuietStairsModel", "kept", "[I", true)
  | 2 => ("QuietStairsModel", "isKept", "Z", false)
  | 3 => ("QuietStairsModel", "rooms", "I", false)
  | 4 => ("QuietStairsModel", "headOf", "[I", true)
  | 5 => ("QuietStairsModel", "many", "I", false)
  | 6 => ("QuietStairsModel", "planned", "[I", true)
  | 7 => ("QuietStairsModel", "tried", "[I", true)
  | 8 => ("QuietStairsModel", "best", "[I", true)
  | 9 => ("QuietStairsModel", "least", "I", false)
  | _ => ("QuietStairsModel", "hours", "[I", true)
def tyX8 : Nat → FieldType := fun k => match k with
  | 0 => .array .int
  | 1 => .array .int
  | 2 => .boolean
  | 3 => .int
  | 4 => .array .int
  | 5 => .int
  | 6 => .array .int
  | 7 => .array .int
  | 8 => .array .int
  | 9 => .int
  | _ => .array .int
abbrev wsX80 : List Cond := u_ws RX8 TX8 11
theorem nmX8 : ∀ a, a < 11 → ∀ b, b < 11 → a ≠ b → (TX8 a).2.1 ≠ (TX8 b).2.1 := by decide +kernel
theorem tyX8_ok : ∀ k, k < 11 → parseFieldDescriptor (TX8 k).2.2.1 = some (tyX8 k) := by decide +kernel
abbrev cX8_init : ByteArray := prog_10_method_1_code
def yX8_init : MethodName := ⟨RX8, "<init>", "()V"⟩
abbrev cX8_in : ByteArray := prog_10_method_2_code
def yX8_in : MethodName := ⟨RX8, "in", "(III)Z"⟩
abbrev cX8_isParty : ByteArray := prog_10_method_3_code
def yX8_isParty : MethodName := ⟨RX8, "isParty", "(I)Z"⟩
abbrev cX8_isMediator : ByteArray := prog_10_method_4_code
def yX8_isMediator : MethodName := ⟨RX8, "isMediator", "(I)Z"⟩
abbrev cX8_isCase : ByteArray := prog_10_method_5_code
def yX8_isCase : MethodName := ⟨RX8, "isCase", "(I)Z"⟩
abbrev cX8_isSide : ByteArray := prog_10_method_6_code
def yX8_isSide : MethodName := ⟨RX8, "isSide", "(I)Z"⟩
abbrev cX8_at : ByteArray := prog_10_method_7_code
def yX8_at : MethodName := ⟨RX8, "at", "(II)I"⟩
abbrev cX8_party : ByteArray := prog_10_method_8_code
def yX8_party : MethodName := ⟨RX8, "party", "(II)I"⟩
abbrev cX8_mediator : ByteArray := prog_10_method_9_code
def yX8_mediator : MethodName := ⟨RX8, "mediator", "(II)I"⟩
abbrev cX8_kin : ByteArray := prog_10_method_10_code
def yX8_kin : MethodName := ⟨RX8, "kin", "(IIZ)I"⟩
abbrev cX8_open : ByteArray := prog_10_method_11_code
def yX8_open : MethodName := ⟨RX8, "open", "(II)I"⟩
abbrev cX8_close : ByteArray := prog_10_method_12_code
def yX8_close : MethodName := ⟨RX8, "close", "(I)I"⟩
abbrev cX8_weight : ByteArray := prog_10_method_13_code
def yX8_weight : MethodName := ⟨RX8, "weight", "(II)I"⟩
abbrev cX8_mark : ByteArray := prog_10_method_14_code
def yX8_mark : MethodName := ⟨RX8, "mark", "(II)I"⟩
abbrev cX8_findHeads : ByteArray := prog_10_method_15_code
def yX8_findHeads : MethodName := ⟨RX8, "findHeads", "()V"⟩
abbrev cX8_joined : ByteArray := prog_10_method_16_code
def yX8_joined : MethodName := ⟨RX8, "joined", "(I)I"⟩
abbrev cX8_of : ByteArray := prog_10_method_17_code
def yX8_of : MethodName := ⟨RX8, "of", "(II)I"⟩
abbrev cX8_offer : ByteArray := prog_10_method_18_code
def yX8_offer : MethodName := ⟨RX8, "offer", "(III)I"⟩
abbrev cX8_put : ByteArray := prog_10_method_19_code
def yX8_put : MethodName := ⟨RX8, "put", "(II)I"⟩
abbrev cX8_learns : ByteArray := prog_10_method_20_code
def yX8_learns : MethodName := ⟨RX8, "learns", "(IIIZ)I"⟩
abbrev cX8_oneOf : ByteArray := prog_10_method_21_code
def yX8_oneOf : MethodName := ⟨RX8, "oneOf", "(I)I"⟩
abbrev cX8_otherOf : ByteArray := prog_10_method_22_code
def yX8_otherOf : MethodName := ⟨RX8, "otherOf", "(I)I"⟩
abbrev cX8_isPair : ByteArray := prog_10_method_23_code
def yX8_isPair : MethodName := ⟨RX8, "isPair", "(I)Z"⟩
abbrev cX8_mayMeet : ByteArray := prog_10_method_24_code
def yX8_mayMeet : MethodName := ⟨RX8, "mayMeet", "(II)Z"⟩
abbrev cX8_may : ByteArray := prog_10_method_25_code
def yX8_may : MethodName := ⟨RX8, "may", "(II)Z"⟩
abbrev cX8_maySit : ByteArray := prog_10_method_26_code
def yX8_maySit : MethodName := ⟨RX8, "maySit", "(II)I"⟩
abbrev cX8_rooms : ByteArray := prog_10_method_27_code
def yX8_rooms : MethodName := ⟨RX8, "rooms", "(I)I"⟩
abbrev cX8_fits : ByteArray := prog_10_method_28_code
def yX8_fits : MethodName := ⟨RX8, "fits", "(I)Z"⟩
abbrev cX8_waitsOf : ByteArray := prog_10_method_29_code
def yX8_waitsOf : MethodName := ⟨RX8, "waitsOf", "(I)I"⟩
abbrev cX8_note : ByteArray := prog_10_method_30_code
def yX8_note : MethodName := ⟨RX8, "note", "()V"⟩
abbrev cX8_makePlan : ByteArray := prog_10_method_31_code
def yX8_makePlan : MethodName := ⟨RX8, "makePlan", "()V"⟩
abbrev cX8_plan : ByteArray := prog_10_method_32_code
def yX8_plan : MethodName := ⟨RX8, "plan", "(I)I"⟩
abbrev cX8_waits : ByteArray := prog_10_method_33_code
def yX8_waits : MethodName := ⟨RX8, "waits", "()I"⟩
abbrev cX8_termAt : ByteArray := prog_10_method_34_code
def yX8_termAt : MethodName := ⟨RX8, "termAt", "(II)I"⟩
abbrev cX8_isTerm : ByteArray := prog_10_method_35_code
def yX8_isTerm : MethodName := ⟨RX8, "isTerm", "(II)Z"⟩
abbrev cX8_term : ByteArray := prog_10_method_36_code
def yX8_term : MethodName := ⟨RX8, "term", "(IIZIII)I"⟩
abbrev cX8_strike : ByteArray := prog_10_method_37_code
def yX8_strike : MethodName := ⟨RX8, "strike", "(I)I"⟩
abbrev cX8_termOf : ByteArray := prog_10_method_38_code
def yX8_termOf : MethodName := ⟨RX8, "termOf", "(III)I"⟩
abbrev cX8_isOwn : ByteArray := prog_10_method_39_code
def yX8_isOwn : MethodName := ⟨RX8, "isOwn", "(III)Z"⟩
abbrev cX8_mayBe : ByteArray := prog_10_method_40_code
def yX8_mayBe : MethodName := ⟨RX8, "mayBe", "(IIII)Z"⟩
abbrev cX8_hourFrom : ByteArray := prog_10_method_41_code
def yX8_hourFrom : MethodName := ⟨RX8, "hourFrom", "(IIIII)I"⟩
abbrev cX8_next : ByteArray := prog_10_method_42_code
def yX8_next : MethodName := ⟨RX8, "next", "(IIIII)I"⟩
abbrev cX8_makeTable : ByteArray := prog_10_method_43_code
def yX8_makeTable : MethodName := ⟨RX8, "makeTable", "(III)Z"⟩
abbrev cX8_hour : ByteArray := prog_10_method_44_code
def yX8_hour : MethodName := ⟨RX8, "hour", "(II)I"⟩
abbrev cX8_canHold : ByteArray := prog_10_method_45_code
def yX8_canHold : MethodName := ⟨RX8, "canHold", "(II)I"⟩
abbrev cX8_breaks : ByteArray := prog_10_method_46_code
def yX8_breaks : MethodName := ⟨RX8, "breaks", "(II)I"⟩
abbrev cX8_log : ByteArray := prog_10_method_47_code
def yX8_log : MethodName := ⟨RX8, "log", "(IIII)I"⟩
abbrev cX8_judge : ByteArray := prog_10_method_48_code
def yX8_judge : MethodName := ⟨RX8, "judge", "(II)I"⟩
abbrev cX8_judged : ByteArray := prog_10_method_49_code
def yX8_judged : MethodName := ⟨RX8, "judged", "(II)I"⟩
abbrev cX8_casesThat : ByteArray := prog_10_method_50_code
def yX8_casesThat : MethodName := ⟨RX8, "casesThat", "(I)I"⟩
abbrev cX8_quarrels : ByteArray := prog_10_method_51_code
def yX8_quarrels : MethodName := ⟨RX8, "quarrels", "()I"⟩
abbrev cX8_termsThat : ByteArray := prog_10_method_52_code
def yX8_termsThat : MethodName := ⟨RX8, "termsThat", "(I)I"⟩
abbrev cX8_many : ByteArray := prog_10_method_53_code
def yX8_many : MethodName := ⟨RX8, "many", "(I)I"⟩
abbrev cX8_keep : ByteArray := prog_10_method_54_code
def yX8_keep : MethodName := ⟨RX8, "keep", "()I"⟩
abbrev cX8_back : ByteArray := prog_10_method_55_code
def yX8_back : MethodName := ⟨RX8, "back", "()I"⟩
def RJ6 : String := "java/lang/Integer"
def TJ6 : u_T := fun k => match k with
  | _ => ("", "", "", false)
def tyJ6 : Nat → FieldType := fun k => match k with
  | _ => .int
abbrev wsJ60 : List Cond := u_ws RJ6 TJ6 0
theorem nmJ6 : ∀ a, a < 0 → ∀ b, b < 0 → a ≠ b → (TJ6 a).2.1 ≠ (TJ6 b).2.1 := by decide +kernel
theorem tyJ6_ok : ∀ k, k < 0 → parseFieldDescriptor (TJ6 k).2.2.1 = some (tyJ6 k) := by decide +kernel
abbrev cJ6_bitCount_0f7a4 : ByteArray := prog_11_method_49_code
def yJ6_bitCount_0f7a4 : MethodName := ⟨RJ6, "bitCount", "(I)I"⟩
def RJ9 : String := "java/lang/Math"
def TJ9 : u_T := fun k => match k with
  | _ => ("", "", "", false)
def tyJ9 : Nat → FieldType := fun k => match k with
  | _ => .int
abbrev wsJ90 : List Cond := u_ws RJ9 TJ9 0
theorem nmJ9 : ∀ a, a < 0 → ∀ b, b < 0 → a ≠ b → (TJ9 a).2.1 ≠ (TJ9 b).2.1 := by decide +kernel
theorem tyJ9_ok : ∀ k, k < 0 → parseFieldDescriptor (TJ9 k).2.2.1 = some (tyJ9 k) := by decide +kernel
abbrev cJ9_max_7cf53 : ByteArray := prog_12_method_65_code
def yJ9_max_7cf53 : MethodName := ⟨RJ9, "max", "(II)I"⟩
abbrev cJ9_min_7cf53 : ByteArray := prog_12_method_69_code
def yJ9_min_7cf53 : MethodName := ⟨RJ9, "min", "(II)I"⟩
def RJ10 : String := "java/lang/System"
def TJ10 : u_T := fun k => match k with
  | _ => ("", "", "", false)
def tyJ10 : Nat → FieldType := fun k => match k with
  | _ => .int
abbrev wsJ100 : List Cond := u_ws RJ10 TJ10 0
theorem nmJ10 : ∀ a, a < 0 → ∀ b, b < 0 → a ≠ b → (TJ10 a).2.1 ≠ (TJ10 b).2.1 := by decide +kernel
theorem tyJ10_ok : ∀ k, k < 0 → parseFieldDescriptor (TJ10 k).2.2.1 = some (tyJ10 k) := by decide +kernel
def RL : String := "QuietStairsLaw"
abbrev cL_law : ByteArray := code
def yL_law : MethodName := ⟨RL, "law", "([I)Z"⟩
def wsX6_init : List Cond := .code yX6_init cX6_init 1 none :: ([.methodLink RX6 1 objectInit, .instanceMethod objectInit, .code objectInit ⟨#[0xb1]⟩ 1 none])
def wsX0_init : List Cond := .code yX0_init cX0_init 2 none :: ([.methodLink RX0 3 objectInit, .instanceMethod objectInit, .code objectInit ⟨#[0xb1]⟩ 1 none, .arrayClass .int, .fieldLink RX0 9 "QuietStairs$Case" "parties" "[I", .fieldLink RX0 15 "QuietStairs$Case" "box" "[I", .classLink RX0 18 "[[I", .fieldLink RX0 20 "QuietStairs$Case" "offers" "[[I", .fieldLink RX0 23 "QuietStairs$Case" "logs" "[[I", .classLink RX0 26 RX6, .fieldLink RX0 28 "QuietStairs$Case" "terms" "[LQuietStairs$Term;", .instantiable RX6 5, .initialized RX6, .instanceMethod yX6_init, .code yX6_init cX6_init 1 none, .methodLink RX6 1 objectInit] ++ wsX00 ++ wsX60)
def wsX0_begin : List Cond := .code yX0_begin cX0_begin 5 none :: ([.fieldLink RX0 33 "QuietStairs$Case" "state" "I", .fieldLink RX0 37 "QuietStairs$Case" "sum" "I", .fieldLink RX0 40 "QuietStairs$Case" "roundsOver" "I", .fieldLink RX0 43 "QuietStairs$Case" "weight" "I", .fieldLink RX0 46 "QuietStairs$Case" "markedBits" "I", .fieldLink RX0 49 "QuietStairs$Case" "termCount" "I", .fieldLink RX0 9 "QuietStairs$Case" "parties" "[I", .fieldLink RX0 15 "QuietStairs$Case" "box" "[I", .fieldLink RX0 23 "QuietStairs$Case" "logs" "[[I"] ++ wsX00)
def wsX0_endRound : List Cond := .code yX0_endRound cX0_endRound 3 (some .boolean) :: ([.fieldLink RX0 15 "QuietStairs$Case" "box" "[I", .fieldLink RX0 40 "QuietStairs$Case" "roundsOver" "I", .fieldLink RX0 20 "QuietStairs$Case" "offers" "[[I", .fieldLink RX0 33 "QuietStairs$Case" "state" "I", .fieldLink RX0 37 "QuietStairs$Case" "sum" "I"] ++ wsX00)
def wsX0_hasMet : List Cond := .code yX0_hasMet cX0_hasMet 2 (some .boolean) :: ([.fieldLink RX0 33 "QuietStairs$Case" "state" "I", .fieldLink RX0 40 "QuietStairs$Case" "roundsOver" "I"] ++ wsX00)
def wsX0_leastOfOther : List Cond := .code yX0_leastOfOther cX0_leastOfOther 5 (some .int) :: ([.fieldLink RX0 20 "QuietStairs$Case" "offers" "[[I", .fieldLink RX0 37 "QuietStairs$Case" "sum" "I", .methodLink RX0 56 Lib.Math.max.name, .static Lib.Math.max.name, .initialized "java/lang/Math", .code Lib.Math.max.name Lib.Math.max.code 2 (some .int), .methodLink RX0 52 yX0_hasMet, .instanceMethod yX0_hasMet, .selects RX0 yX0_hasMet yX0_hasMet, .initialized RX0, .code yX0_hasMet cX0_hasMet 2 (some .boolean), .fieldLink RX0 33 "QuietStairs$Case" "state" "I", .fieldLink RX0 40 "QuietStairs$Case" "roundsOver" "I"] ++ wsX00)
def wsX0_greatestOfOther : List Cond := .code yX0_greatestOfOther cX0_greatestOfOther 5 (some .int) :: ([.fieldLink RX0 20 "QuietStairs$Case" "offers" "[[I", .fieldLink RX0 37 "QuietStairs$Case" "sum" "I", .methodLink RX0 62 Lib.Math.min.name, .static Lib.Math.min.name, .initialized "java/lang/Math", .code Lib.Math.min.name Lib.Math.min.code 2 (some .int), .methodLink RX0 52 yX0_hasMet, .instanceMethod yX0_hasMet, .selects RX0 yX0_hasMet yX0_hasMet, .initialized RX0, .code yX0_hasMet cX0_hasMet 2 (some .boolean), .fieldLink RX0 33 "QuietStairs$Case" "state" "I", .fieldLink RX0 40 "QuietStairs$Case" "roundsOver" "I"] ++ wsX00)
def wsX0_judge : List Cond := .code yX0_judge cX0_judge 6 (some .int) :: ([.fieldLink RX0 28 "QuietStairs$Case" "terms" "[LQuietStairs$Term;", .fieldLink RX0 65 "QuietStairs$Term" "first" "I", .fieldLink RX0 68 "QuietStairs$Term" "last" "I", .fieldLink RX0 23 "QuietStairs$Case" "logs" "[[I", .fieldLink RX0 71 "QuietStairs$Term" "side" "I", .fieldLink RX0 74 "QuietStairs$Term" "act" "I", .fieldLink RX0 77 "QuietStairs$Term" "must" "Z"] ++ wsX00 ++ wsX60)
def wsX6_copyFrom : List Cond := .code yX6_copyFrom cX6_copyFrom 2 none :: ([.fieldLink RX6 16 "QuietStairs$Term" "side" "I", .fieldLink RX6 19 "QuietStairs$Term" "must" "Z", .fieldLink RX6 23 "QuietStairs$Term" "act" "I", .fieldLink RX6 13 "QuietStairs$Term" "first" "I", .fieldLink RX6 7 "QuietStairs$Term" "last" "I"] ++ wsX60)
def wsX0_copyFrom_r1 : List Cond := [Cond.fieldLink RX0 33 "QuietStairs$Case" "state" "I", Cond.fieldLink RX0 37 "QuietStairs$Case" "sum" "I", Cond.fieldLink RX0 40 "QuietStairs$Case" "roundsOver" "I", Cond.fieldLink RX0 43 "QuietStairs$Case" "weight" "I", Cond.fieldLink RX0 46 "QuietStairs$Case" "markedBits" "I", Cond.fieldLink RX0 49 "QuietStairs$Case" "termCount" "I", Cond.fieldLink RX0 9 "QuietStairs$Case" "parties" "[I", Cond.fieldLink RX0 15 "QuietStairs$Case" "box" "[I", Cond.fieldLink RX0 20 "QuietStairs$Case" "offers" "[[I", Cond.methodLink RX0 81 arraycopyName, Cond.native arraycopyName, Cond.static arraycopyName, Cond.initialized "java/lang/System", Cond.fieldLink RX0 23 "QuietStairs$Case" "logs" "[[I", Cond.fieldLink RX0 28 "QuietStairs$Case" "terms" "[LQuietStairs$Term;", Cond.methodLink RX0 87 yX6_copyFrom, Cond.instanceMethod yX6_copyFrom, Cond.selects RX6 yX6_copyFrom yX6_copyFrom, Cond.initialized RX6, Cond.code yX6_copyFrom cX6_copyFrom 2 none, Cond.fieldLink RX6 16 "QuietStairs$Term" "side" "I", Cond.fieldLink RX6 19 "QuietStairs$Term" "must" "Z", Cond.fieldLink RX6 23 "QuietStairs$Term" "act" "I", Cond.fieldLink RX6 13 "QuietStairs$Term" "first" "I"]
def wsX0_copyFrom_r2 : List Cond := [Cond.fieldLink RX6 7 "QuietStairs$Term" "last" "I"]
def wsX0_copyFrom : List Cond := .code yX0_copyFrom cX0_copyFrom 3 none :: ((wsX0_copyFrom_r1 ++ wsX0_copyFrom_r2) ++ wsX00 ++ wsX60)
def wsX3_init : List Cond := .code yX3_init cX3_init 1 none :: ([.methodLink RX3 1 objectInit, .instanceMethod objectInit, .code objectInit ⟨#[0xb1]⟩ 1 none])
def wsX2_init : List Cond := .code yX2_init cX2_init 1 none :: ([.methodLink RX2 1 objectInit, .instanceMethod objectInit, .code objectInit ⟨#[0xb1]⟩ 1 none])
def wsX1_init_r1 : List Cond := [Cond.methodLink RX1 3 objectInit, Cond.instanceMethod objectInit, Cond.code objectInit ⟨#[0xb1]⟩ 1 none, Cond.classLink RX1 9 RX3, Cond.fieldLink RX1 11 "QuietStairs$House" "parties" "[LQuietStairs$Party;", Cond.classLink RX1 17 RX2, Cond.fieldLink RX1 19 "QuietStairs$House" "mediators" "[LQuietStairs$Mediator;", Cond.classLink RX1 23 RX0, Cond.fieldLink RX1 25 "QuietStairs$House" "cases" "[LQuietStairs$Case;", Cond.instantiable RX3 2, Cond.initialized RX3, Cond.instantiable RX2 3, Cond.initialized RX2, Cond.instantiable RX0 11, Cond.initialized RX0, Cond.instanceMethod yX3_init, Cond.code yX3_init cX3_init 1 none, Cond.methodLink RX3 1 objectInit, Cond.instanceMethod yX2_init, Cond.code yX2_init cX2_init 1 none, Cond.methodLink RX2 1 objectInit, Cond.methodLink RX1 31 yX0_init, Cond.instanceMethod yX0_init, Cond.code yX0_init cX0_init 2 none]
def wsX1_init_r2 : List Cond := [Cond.methodLink RX0 3 objectInit, Cond.arrayClass .int, Cond.fieldLink RX0 9 "QuietStairs$Case" "parties" "[I", Cond.fieldLink RX0 15 "QuietStairs$Case" "box" "[I", Cond.classLink RX0 18 "[[I", Cond.fieldLink RX0 20 "QuietStairs$Case" "offers" "[[I", Cond.fieldLink RX0 23 "QuietStairs$Case" "logs" "[[I", Cond.classLink RX0 26 RX6, Cond.fieldLink RX0 28 "QuietStairs$Case" "terms" "[LQuietStairs$Term;", Cond.instantiable RX6 5, Cond.initialized RX6, Cond.instanceMethod yX6_init, Cond.code yX6_init cX6_init 1 none, Cond.methodLink RX6 1 objectInit]
def wsX1_init : List Cond := .code yX1_init cX1_init 2 none :: ((wsX1_init_r1 ++ wsX1_init_r2) ++ wsX10 ++ wsX30 ++ wsX20 ++ wsX00 ++ wsX60)
def wsX1_hasPair : List Cond := .code yX1_hasPair cX1_hasPair 2 (some .boolean) :: ([.fieldLink RX1 36 "QuietStairs$House" "mediatorCount" "I"] ++ wsX10)
def wsX7_hasBit : List Cond := .code yX7_hasBit cX7_hasBit 2 (some .boolean) :: ([])
def wsX1_isNear : List Cond := .code yX1_isNear cX1_isNear 3 (some .boolean) :: ([.fieldLink RX1 59 "QuietStairs$Mediator" "kinBits" "I", .fieldLink RX1 62 "QuietStairs$Mediator" "floor" "I", .fieldLink RX1 11 "QuietStairs$House" "parties" "[LQuietStairs$Party;", .fieldLink RX1 65 "QuietStairs$Party" "floor" "I", .static yX7_hasBit, .initialized RX7, .code yX7_hasBit cX7_hasBit 2 (some .boolean)] ++ wsX20 ++ wsX10 ++ wsX30)
def wsX1_pairFits : List Cond := .code yX1_pairFits cX1_pairFits 8 (some .boolean) :: ([.fieldLink RX1 19 "QuietStairs$House" "mediators" "[LQuietStairs$Mediator;", .fieldLink RX1 43 "QuietStairs$Mediator" "tongues" "I", .fieldLink RX1 46 "QuietStairs$Case" "parties" "[I", .fieldLink RX1 11 "QuietStairs$House" "parties" "[LQuietStairs$Party;", .fieldLink RX1 48 "QuietStairs$Party" "tongue" "I", .static yX7_hasBit, .initialized RX7, .code yX7_hasBit cX7_hasBit 2 (some .boolean), .methodLink RX1 55 yX1_isNear, .instanceMethod yX1_isNear, .selects RX1 yX1_isNear yX1_isNear, .initialized RX1, .code yX1_isNear cX1_isNear 3 (some .boolean), .fieldLink RX1 59 "QuietStairs$Mediator" "kinBits" "I", .fieldLink RX1 62 "QuietStairs$Mediator" "floor" "I", .fieldLink RX1 65 "QuietStairs$Party" "floor" "I"] ++ wsX10 ++ wsX20 ++ wsX00 ++ wsX30)
def wsX1_quarrelBits : List Cond := .code yX1_quarrelBits cX1_quarrelBits 5 (some .int) :: ([.fieldLink RX1 66 "QuietStairs$House" "caseCount" "I", .fieldLink RX1 25 "QuietStairs$House" "cases" "[LQuietStairs$Case;", .fieldLink RX1 69 "QuietStairs$Case" "markedBits" "I", .static yX7_hasBit, .initialized RX7, .code yX7_hasBit cX7_hasBit 2 (some .boolean)] ++ wsX10 ++ wsX00)
def wsX1_headOfQuarrel : List Cond := .code yX1_headOfQuarrel cX1_headOfQuarrel 4 (some .int) :: ([.methodLink RX1 72 yX1_quarrelBits, .instanceMethod yX1_quarrelBits, .selects RX1 yX1_quarrelBits yX1_quarrelBits, .initialized RX1, .code yX1_quarrelBits cX1_quarrelBits 5 (some .int), .fieldLink RX1 66 "QuietStairs$House" "caseCount" "I", .fieldLink RX1 25 "QuietStairs$House" "cases" "[LQuietStairs$Case;", .fieldLink RX1 69 "QuietStairs$Case" "markedBits" "I", .static yX7_hasBit, .initialized RX7, .code yX7_hasBit cX7_hasBit 2 (some .boolean)] ++ wsX10 ++ wsX00)
def wsX1_countQuarrels : List Cond := .code yX1_countQuarrels cX1_countQuarrels 3 (some .int) :: ([.fieldLink RX1 66 "QuietStairs$House" "caseCount" "I", .methodLink RX1 76 yX1_headOfQuarrel, .instanceMethod yX1_headOfQuarrel, .selects RX1 yX1_headOfQuarrel yX1_headOfQuarrel, .initialized RX1, .code yX1_headOfQuarrel cX1_headOfQuarrel 4 (some .int), .methodLink RX1 72 yX1_quarrelBits, .instanceMethod yX1_quarrelBits, .selects RX1 yX1_quarrelBits yX1_quarrelBits, .code yX1_quarrelBits cX1_quarrelBits 5 (some .int), .fieldLink RX1 25 "QuietStairs$House" "cases" "[LQuietStairs$Case;", .fieldLink RX1 69 "QuietStairs$Case" "markedBits" "I", .static yX7_hasBit, .initialized RX7, .code yX7_hasBit cX7_hasBit 2 (some .boolean)] ++ wsX10 ++ wsX00)
def wsX1_countState : List Cond := .code yX1_countState cX1_countState 4 (some .int) :: ([.fieldLink RX1 66 "QuietStairs$House" "caseCount" "I", .fieldLink RX1 25 "QuietStairs$House" "cases" "[LQuietStairs$Case;", .fieldLink RX1 79 "QuietStairs$Case" "state" "I"] ++ wsX10 ++ wsX00)
def wsX1_countTerms : List Cond := .code yX1_countTerms cX1_countTerms 3 (some .int) :: ([.fieldLink RX1 66 "QuietStairs$House" "caseCount" "I", .fieldLink RX1 25 "QuietStairs$House" "cases" "[LQuietStairs$Case;", .fieldLink RX1 82 "QuietStairs$Case" "termCount" "I"] ++ wsX10 ++ wsX00)
def wsX1_countJudged : List Cond := .code yX1_countJudged cX1_countJudged 5 (some .int) :: ([.fieldLink RX1 66 "QuietStairs$House" "caseCount" "I", .fieldLink RX1 25 "QuietStairs$House" "cases" "[LQuietStairs$Case;", .fieldLink RX1 82 "QuietStairs$Case" "termCount" "I", .methodLink RX1 85 yX0_judge, .instanceMethod yX0_judge, .selects RX0 yX0_judge yX0_judge, .initialized RX0, .code yX0_judge cX0_judge 6 (some .int), .fieldLink RX0 28 "QuietStairs$Case" "terms" "[LQuietStairs$Term;", .fieldLink RX0 65 "QuietStairs$Term" "first" "I", .fieldLink RX0 68 "QuietStairs$Term" "last" "I", .fieldLink RX0 23 "QuietStairs$Case" "logs" "[[I", .fieldLink RX0 71 "QuietStairs$Term" "side" "I", .fieldLink RX0 74 "QuietStairs$Term" "act" "I", .fieldLink RX0 77 "QuietStairs$Term" "must" "Z"] ++ wsX10 ++ wsX00 ++ wsX60)
def wsX3_copyFrom : List Cond := .code yX3_copyFrom cX3_copyFrom 2 none :: ([.fieldLink RX3 7 "QuietStairs$Party" "floor" "I", .fieldLink RX3 13 "QuietStairs$Party" "tongue" "I"] ++ wsX30)
def wsX2_copyFrom : List Cond := .code yX2_copyFrom cX2_copyFrom 2 none :: ([.fieldLink RX2 7 "QuietStairs$Mediator" "floor" "I", .fieldLink RX2 13 "QuietStairs$Mediator" "tongues" "I", .fieldLink RX2 16 "QuietStairs$Mediator" "kinBits" "I"] ++ wsX20)
def wsX1_copyFrom_r1 : List Cond := [Cond.fieldLink RX1 88 "QuietStairs$House" "partyCount" "I", Cond.fieldLink RX1 36 "QuietStairs$House" "mediatorCount" "I", Cond.fieldLink RX1 66 "QuietStairs$House" "caseCount" "I", Cond.fieldLink RX1 91 "QuietStairs$House" "markCount" "I", Cond.fieldLink RX1 11 "QuietStairs$House" "parties" "[LQuietStairs$Party;", Cond.fieldLink RX1 19 "QuietStairs$House" "mediators" "[LQuietStairs$Mediator;", Cond.fieldLink RX1 25 "QuietStairs$House" "cases" "[LQuietStairs$Case;", Cond.methodLink RX1 94 yX3_copyFrom, Cond.instanceMethod yX3_copyFrom, Cond.selects RX3 yX3_copyFrom yX3_copyFrom, Cond.initialized RX3, Cond.code yX3_copyFrom cX3_copyFrom 2 none, Cond.fieldLink RX3 7 "QuietStairs$Party" "floor" "I", Cond.fieldLink RX3 13 "QuietStairs$Party" "tongue" "I", Cond.methodLink RX1 98 yX2_copyFrom, Cond.instanceMethod yX2_copyFrom, Cond.selects RX2 yX2_copyFrom yX2_copyFrom, Cond.initialized RX2, Cond.code yX2_copyFrom cX2_copyFrom 2 none, Cond.fieldLink RX2 7 "QuietStairs$Mediator" "floor" "I", Cond.fieldLink RX2 13 "QuietStairs$Mediator" "tongues" "I", Cond.fieldLink RX2 16 "QuietStairs$Mediator" "kinBits" "I", Cond.methodLink RX1 101 yX0_copyFrom, Cond.instanceMethod yX0_copyFrom]
def wsX1_copyFrom_r2 : List Cond := [Cond.selects RX0 yX0_copyFrom yX0_copyFrom, Cond.initialized RX0, Cond.code yX0_copyFrom cX0_copyFrom 3 none, Cond.fieldLink RX0 33 "QuietStairs$Case" "state" "I", Cond.fieldLink RX0 37 "QuietStairs$Case" "sum" "I", Cond.fieldLink RX0 40 "QuietStairs$Case" "roundsOver" "I", Cond.fieldLink RX0 43 "QuietStairs$Case" "weight" "I", Cond.fieldLink RX0 46 "QuietStairs$Case" "markedBits" "I", Cond.fieldLink RX0 49 "QuietStairs$Case" "termCount" "I", Cond.fieldLink RX0 9 "QuietStairs$Case" "parties" "[I", Cond.fieldLink RX0 15 "QuietStairs$Case" "box" "[I", Cond.fieldLink RX0 20 "QuietStairs$Case" "offers" "[[I", Cond.methodLink RX0 81 arraycopyName, Cond.native arraycopyName, Cond.static arraycopyName, Cond.initialized "java/lang/System", Cond.fieldLink RX0 23 "QuietStairs$Case" "logs" "[[I", Cond.fieldLink RX0 28 "QuietStairs$Case" "terms" "[LQuietStairs$Term;", Cond.methodLink RX0 87 yX6_copyFrom, Cond.instanceMethod yX6_copyFrom, Cond.selects RX6 yX6_copyFrom yX6_copyFrom, Cond.initialized RX6, Cond.code yX6_copyFrom cX6_copyFrom 2 none, Cond.fieldLink RX6 16 "QuietStairs$Term" "side" "I"]
def wsX1_copyFrom_r3 : List Cond := [Cond.fieldLink RX6 19 "QuietStairs$Term" "must" "Z", Cond.fieldLink RX6 23 "QuietStairs$Term" "act" "I", Cond.fieldLink RX6 13 "QuietStairs$Term" "first" "I", Cond.fieldLink RX6 7 "QuietStairs$Term" "last" "I"]
def wsX1_copyFrom : List Cond := .code yX1_copyFrom cX1_copyFrom 3 none :: ((wsX1_copyFrom_r1 ++ (wsX1_copyFrom_r2 ++ wsX1_copyFrom_r3)) ++ wsX10 ++ wsX30 ++ wsX20 ++ wsX00 ++ wsX60)
def wsX4_init : List Cond := .code yX4_init cX4_init 1 none :: ([.methodLink RX4 3 objectInit, .instanceMethod objectInit, .code objectInit ⟨#[0xb1]⟩ 1 none, .arrayClass .int, .fieldLink RX4 9 "QuietStairs$Planner" "numbers" "[I", .fieldLink RX4 15 "QuietStairs$Planner" "weights" "[I", .fieldLink RX4 18 "QuietStairs$Planner" "pairBits" "[I", .fieldLink RX4 21 "QuietStairs$Planner" "heaviestFirst" "[I", .fieldLink RX4 24 "QuietStairs$Planner" "seats" "[I", .fieldLink RX4 27 "QuietStairs$Planner" "bestSeats" "[I", .fieldLink RX4 30 "QuietStairs$Planner" "busyBits" "[I", .fieldLink RX4 33 "QuietStairs$Planner" "sittings" "[I"] ++ wsX40)
def wsX4_fittingPairs_r1 : List Cond := [Cond.methodLink RX4 87 yX1_hasPair, Cond.instanceMethod yX1_hasPair, Cond.selects RX1 yX1_hasPair yX1_hasPair, Cond.initialized RX1, Cond.code yX1_hasPair cX1_hasPair 2 (some .boolean), Cond.fieldLink RX1 36 "QuietStairs$House" "mediatorCount" "I", Cond.methodLink RX4 91 yX1_pairFits, Cond.instanceMethod yX1_pairFits, Cond.selects RX1 yX1_pairFits yX1_pairFits, Cond.code yX1_pairFits cX1_pairFits 8 (some .boolean), Cond.fieldLink RX1 19 "QuietStairs$House" "mediators" "[LQuietStairs$Mediator;", Cond.fieldLink RX1 43 "QuietStairs$Mediator" "tongues" "I", Cond.fieldLink RX1 46 "QuietStairs$Case" "parties" "[I", Cond.fieldLink RX1 11 "QuietStairs$House" "parties" "[LQuietStairs$Party;", Cond.fieldLink RX1 48 "QuietStairs$Party" "tongue" "I", Cond.static yX7_hasBit, Cond.initialized RX7, Cond.code yX7_hasBit cX7_hasBit 2 (some .boolean), Cond.methodLink RX1 55 yX1_isNear, Cond.instanceMethod yX1_isNear, Cond.selects RX1 yX1_isNear yX1_isNear, Cond.code yX1_isNear cX1_isNear 3 (some .boolean), Cond.fieldLink RX1 59 "QuietStairs$Mediator" "kinBits" "I", Cond.fieldLink RX1 62 "QuietStairs$Mediator" "floor" "I"]
def wsX4_fittingPairs_r2 : List Cond := [Cond.fieldLink RX1 65 "QuietStairs$Party" "floor" "I"]
def wsX4_fittingPairs : List Cond := .code yX4_fittingPairs cX4_fittingPairs 4 (some .int) :: ((wsX4_fittingPairs_r1 ++ wsX4_fittingPairs_r2) ++ wsX10 ++ wsX20 ++ wsX00 ++ wsX30)
def wsX4_gather_r1 : List Cond := [Cond.fieldLink RX4 61 "QuietStairs$Planner" "count" "I", Cond.fieldLink RX4 68 "QuietStairs$House" "caseCount" "I", Cond.fieldLink RX4 71 "QuietStairs$House" "cases" "[LQuietStairs$Case;", Cond.fieldLink RX4 75 "QuietStairs$Case" "state" "I", Cond.fieldLink RX4 9 "QuietStairs$Planner" "numbers" "[I", Cond.fieldLink RX4 15 "QuietStairs$Planner" "weights" "[I", Cond.fieldLink RX4 80 "QuietStairs$Case" "weight" "I", Cond.fieldLink RX4 18 "QuietStairs$Planner" "pairBits" "[I", Cond.methodLink RX4 83 yX4_fittingPairs, Cond.static yX4_fittingPairs, Cond.initialized RX4, Cond.code yX4_fittingPairs cX4_fittingPairs 4 (some .int), Cond.methodLink RX4 87 yX1_hasPair, Cond.instanceMethod yX1_hasPair, Cond.selects RX1 yX1_hasPair yX1_hasPair, Cond.initialized RX1, Cond.code yX1_hasPair cX1_hasPair 2 (some .boolean), Cond.fieldLink RX1 36 "QuietStairs$House" "mediatorCount" "I", Cond.methodLink RX4 91 yX1_pairFits, Cond.instanceMethod yX1_pairFits, Cond.selects RX1 yX1_pairFits yX1_pairFits, Cond.code yX1_pairFits cX1_pairFits 8 (some .boolean), Cond.fieldLink RX1 19 "QuietStairs$House" "mediators" "[LQuietStairs$Mediator;", Cond.fieldLink RX1 43 "QuietStairs$Mediator" "tongues" "I"]
def wsX4_gather_r2 : List Cond := [Cond.fieldLink RX1 46 "QuietStairs$Case" "parties" "[I", Cond.fieldLink RX1 11 "QuietStairs$House" "parties" "[LQuietStairs$Party;", Cond.fieldLink RX1 48 "QuietStairs$Party" "tongue" "I", Cond.static yX7_hasBit, Cond.initialized RX7, Cond.code yX7_hasBit cX7_hasBit 2 (some .boolean), Cond.methodLink RX1 55 yX1_isNear, Cond.instanceMethod yX1_isNear, Cond.selects RX1 yX1_isNear yX1_isNear, Cond.code yX1_isNear cX1_isNear 3 (some .boolean), Cond.fieldLink RX1 59 "QuietStairs$Mediator" "kinBits" "I", Cond.fieldLink RX1 62 "QuietStairs$Mediator" "floor" "I", Cond.fieldLink RX1 65 "QuietStairs$Party" "floor" "I"]
def wsX4_gather : List Cond := .code yX4_gather cX4_gather 4 none :: ((wsX4_gather_r1 ++ wsX4_gather_r2) ++ wsX40 ++ wsX10 ++ wsX00 ++ wsX20 ++ wsX30)
def wsX4_sortByWeight : List Cond := .code yX4_sortByWeight cX4_sortByWeight 3 none :: ([.fieldLink RX4 61 "QuietStairs$Planner" "count" "I", .fieldLink RX4 15 "QuietStairs$Planner" "weights" "[I", .fieldLink RX4 21 "QuietStairs$Planner" "heaviestFirst" "[I"] ++ wsX40)
def wsX4_leastBehind : List Cond := .code yX4_leastBehind cX4_leastBehind 8 (some .int) :: ([.fieldLink RX4 33 "QuietStairs$Planner" "sittings" "[I", .fieldLink RX4 61 "QuietStairs$Planner" "count" "I", .fieldLink RX4 21 "QuietStairs$Planner" "heaviestFirst" "[I", .fieldLink RX4 48 "QuietStairs$Planner" "seatsADay" "I", .fieldLink RX4 18 "QuietStairs$Planner" "pairBits" "[I", .fieldLink RX4 15 "QuietStairs$Planner" "weights" "[I"] ++ wsX40)
def wsX4_search_r1 : List Cond := [Cond.fieldLink RX4 58 "QuietStairs$Planner" "leastWait" "I", Cond.fieldLink RX4 61 "QuietStairs$Planner" "count" "I", Cond.fieldLink RX4 24 "QuietStairs$Planner" "seats" "[I", Cond.fieldLink RX4 27 "QuietStairs$Planner" "bestSeats" "[I", Cond.methodLink RX4 99 arraycopyName, Cond.native arraycopyName, Cond.static arraycopyName, Cond.initialized "java/lang/System", Cond.fieldLink RX4 33 "QuietStairs$Planner" "sittings" "[I", Cond.fieldLink RX4 48 "QuietStairs$Planner" "seatsADay" "I", Cond.fieldLink RX4 15 "QuietStairs$Planner" "weights" "[I", Cond.methodLink RX4 95 yX4_leastBehind, Cond.instanceMethod yX4_leastBehind, Cond.selects RX4 yX4_leastBehind yX4_leastBehind, Cond.initialized RX4, Cond.code yX4_leastBehind cX4_leastBehind 8 (some .int), Cond.fieldLink RX4 21 "QuietStairs$Planner" "heaviestFirst" "[I", Cond.fieldLink RX4 18 "QuietStairs$Planner" "pairBits" "[I", Cond.methodLink RX4 105 yX4_searchDay, Cond.instanceMethod yX4_searchDay, Cond.selects RX4 yX4_searchDay yX4_searchDay, Cond.methodLink RX4 64 yX4_search, Cond.instanceMethod yX4_search, Cond.selects RX4 yX4_search yX4_search]
def wsX4_search_r2 : List Cond := [Cond.code yX4_searchDay cX4_searchDay 6 none, Cond.fieldLink RX4 30 "QuietStairs$Planner" "busyBits" "[I", Cond.static yX7_hasBit, Cond.initialized RX7, Cond.code yX7_hasBit cX7_hasBit 2 (some .boolean)]
def wsX4_search : List Cond := .code yX4_search cX4_search 4 none :: ((wsX4_search_r1 ++ wsX4_search_r2) ++ wsX40)
def wsX4_searchDay_r1 : List Cond := [Cond.fieldLink RX4 18 "QuietStairs$Planner" "pairBits" "[I", Cond.fieldLink RX4 30 "QuietStairs$Planner" "busyBits" "[I", Cond.fieldLink RX4 24 "QuietStairs$Planner" "seats" "[I", Cond.fieldLink RX4 33 "QuietStairs$Planner" "sittings" "[I", Cond.static yX7_hasBit, Cond.initialized RX7, Cond.code yX7_hasBit cX7_hasBit 2 (some .boolean), Cond.methodLink RX4 64 yX4_search, Cond.instanceMethod yX4_search, Cond.selects RX4 yX4_search yX4_search, Cond.initialized RX4, Cond.code yX4_search cX4_search 4 none, Cond.fieldLink RX4 58 "QuietStairs$Planner" "leastWait" "I", Cond.fieldLink RX4 61 "QuietStairs$Planner" "count" "I", Cond.fieldLink RX4 27 "QuietStairs$Planner" "bestSeats" "[I", Cond.methodLink RX4 99 arraycopyName, Cond.native arraycopyName, Cond.static arraycopyName, Cond.initialized "java/lang/System", Cond.fieldLink RX4 48 "QuietStairs$Planner" "seatsADay" "I", Cond.fieldLink RX4 15 "QuietStairs$Planner" "weights" "[I", Cond.methodLink RX4 95 yX4_leastBehind, Cond.instanceMethod yX4_leastBehind, Cond.selects RX4 yX4_leastBehind yX4_leastBehind]
def wsX4_searchDay_r2 : List Cond := [Cond.code yX4_leastBehind cX4_leastBehind 8 (some .int), Cond.fieldLink RX4 21 "QuietStairs$Planner" "heaviestFirst" "[I", Cond.methodLink RX4 105 yX4_searchDay, Cond.instanceMethod yX4_searchDay, Cond.selects RX4 yX4_searchDay yX4_searchDay]
def wsX4_searchDay : List Cond := .code yX4_searchDay cX4_searchDay 6 none :: ((wsX4_searchDay_r1 ++ wsX4_searchDay_r2) ++ wsX40)
def wsX4_findPlan_r1 : List Cond := [Cond.fieldLink RX4 36 "QuietStairs$House" "mediatorCount" "I", Cond.methodLink RX4 42 Lib.Math.min.name, Cond.static Lib.Math.min.name, Cond.initialized "java/lang/Math", Cond.code Lib.Math.min.name Lib.Math.min.code 2 (some .int), Cond.fieldLink RX4 48 "QuietStairs$Planner" "seatsADay" "I", Cond.fieldLink RX4 58 "QuietStairs$Planner" "leastWait" "I", Cond.fieldLink RX4 61 "QuietStairs$Planner" "count" "I", Cond.fieldLink RX4 15 "QuietStairs$Planner" "weights" "[I", Cond.fieldLink RX4 30 "QuietStairs$Planner" "busyBits" "[I", Cond.fieldLink RX4 33 "QuietStairs$Planner" "sittings" "[I", Cond.methodLink RX4 51 yX4_gather, Cond.instanceMethod yX4_gather, Cond.selects RX4 yX4_gather yX4_gather, Cond.initialized RX4, Cond.code yX4_gather cX4_gather 4 none, Cond.fieldLink RX4 68 "QuietStairs$House" "caseCount" "I", Cond.fieldLink RX4 71 "QuietStairs$House" "cases" "[LQuietStairs$Case;", Cond.fieldLink RX4 75 "QuietStairs$Case" "state" "I", Cond.fieldLink RX4 9 "QuietStairs$Planner" "numbers" "[I", Cond.fieldLink RX4 80 "QuietStairs$Case" "weight" "I", Cond.fieldLink RX4 18 "QuietStairs$Planner" "pairBits" "[I", Cond.methodLink RX4 83 yX4_fittingPairs, Cond.static yX4_fittingPairs]
def wsX4_findPlan_r2 : List Cond := [Cond.code yX4_fittingPairs cX4_fittingPairs 4 (some .int), Cond.methodLink RX4 87 yX1_hasPair, Cond.instanceMethod yX1_hasPair, Cond.selects RX1 yX1_hasPair yX1_hasPair, Cond.initialized RX1, Cond.code yX1_hasPair cX1_hasPair 2 (some .boolean), Cond.fieldLink RX1 36 "QuietStairs$House" "mediatorCount" "I", Cond.methodLink RX4 91 yX1_pairFits, Cond.instanceMethod yX1_pairFits, Cond.selects RX1 yX1_pairFits yX1_pairFits, Cond.code yX1_pairFits cX1_pairFits 8 (some .boolean), Cond.fieldLink RX1 19 "QuietStairs$House" "mediators" "[LQuietStairs$Mediator;", Cond.fieldLink RX1 43 "QuietStairs$Mediator" "tongues" "I", Cond.fieldLink RX1 46 "QuietStairs$Case" "parties" "[I", Cond.fieldLink RX1 11 "QuietStairs$House" "parties" "[LQuietStairs$Party;", Cond.fieldLink RX1 48 "QuietStairs$Party" "tongue" "I", Cond.static yX7_hasBit, Cond.initialized RX7, Cond.code yX7_hasBit cX7_hasBit 2 (some .boolean), Cond.methodLink RX1 55 yX1_isNear, Cond.instanceMethod yX1_isNear, Cond.selects RX1 yX1_isNear yX1_isNear, Cond.code yX1_isNear cX1_isNear 3 (some .boolean), Cond.fieldLink RX1 59 "QuietStairs$Mediator" "kinBits" "I"]
def wsX4_findPlan_r3 : List Cond := [Cond.fieldLink RX1 62 "QuietStairs$Mediator" "floor" "I", Cond.fieldLink RX1 65 "QuietStairs$Party" "floor" "I", Cond.methodLink RX4 55 yX4_sortByWeight, Cond.instanceMethod yX4_sortByWeight, Cond.selects RX4 yX4_sortByWeight yX4_sortByWeight, Cond.code yX4_sortByWeight cX4_sortByWeight 3 none, Cond.fieldLink RX4 21 "QuietStairs$Planner" "heaviestFirst" "[I", Cond.methodLink RX4 64 yX4_search, Cond.instanceMethod yX4_search, Cond.selects RX4 yX4_search yX4_search, Cond.code yX4_search cX4_search 4 none, Cond.fieldLink RX4 24 "QuietStairs$Planner" "seats" "[I", Cond.fieldLink RX4 27 "QuietStairs$Planner" "bestSeats" "[I", Cond.methodLink RX4 99 arraycopyName, Cond.native arraycopyName, Cond.static arraycopyName, Cond.initialized "java/lang/System", Cond.methodLink RX4 95 yX4_leastBehind, Cond.instanceMethod yX4_leastBehind, Cond.selects RX4 yX4_leastBehind yX4_leastBehind, Cond.code yX4_leastBehind cX4_leastBehind 8 (some .int), Cond.methodLink RX4 105 yX4_searchDay, Cond.instanceMethod yX4_searchDay, Cond.selects RX4 yX4_searchDay yX4_searchDay]
def wsX4_findPlan_r4 : List Cond := [Cond.code yX4_searchDay cX4_searchDay 6 none]
def wsX4_findPlan : List Cond := .code yX4_findPlan cX4_findPlan 4 none :: ((wsX4_findPlan_r1 ++ (wsX4_findPlan_r2 ++ (wsX4_findPlan_r3 ++ wsX4_findPlan_r4))) ++ wsX10 ++ wsX40 ++ wsX00 ++ wsX20 ++ wsX30)
def wsX4_seatOf : List Cond := .code yX4_seatOf cX4_seatOf 3 (some .int) :: ([.fieldLink RX4 61 "QuietStairs$Planner" "count" "I", .fieldLink RX4 9 "QuietStairs$Planner" "numbers" "[I", .fieldLink RX4 27 "QuietStairs$Planner" "bestSeats" "[I"] ++ wsX40)
def wsX5_init : List Cond := .code yX5_init cX5_init 1 none :: ([.methodLink RX5 3 objectInit, .instanceMethod objectInit, .code objectInit ⟨#[0xb1]⟩ 1 none, .arrayClass .int, .fieldLink RX5 9 "QuietStairs$Table" "musts" "[I", .fieldLink RX5 15 "QuietStairs$Table" "hourBits" "[I"] ++ wsX50)
def wsX6_hourBits : List Cond := .code yX6_hourBits cX6_hourBits 1 (some .int) :: ([.fieldLink RX6 7 "QuietStairs$Term" "last" "I", .fieldLink RX6 13 "QuietStairs$Term" "first" "I"] ++ wsX60)
def wsX5_allowedHours : List Cond := .code yX5_allowedHours cX5_allowedHours 6 (some .int) :: ([.fieldLink RX5 22 "QuietStairs$Case" "terms" "[LQuietStairs$Term;", .fieldLink RX5 28 "QuietStairs$Term" "side" "I", .fieldLink RX5 33 "QuietStairs$Term" "must" "Z", .fieldLink RX5 44 "QuietStairs$Term" "act" "I", .methodLink RX5 41 yX6_hourBits, .instanceMethod yX6_hourBits, .selects RX6 yX6_hourBits yX6_hourBits, .initialized RX6, .code yX6_hourBits cX6_hourBits 1 (some .int), .fieldLink RX6 7 "QuietStairs$Term" "last" "I", .fieldLink RX6 13 "QuietStairs$Term" "first" "I"] ++ wsX00 ++ wsX60)
def wsX5_read : List Cond := .code yX5_read cX5_read 6 none :: ([.fieldLink RX5 18 "QuietStairs$Table" "count" "I", .fieldLink RX5 22 "QuietStairs$Case" "terms" "[LQuietStairs$Term;", .fieldLink RX5 28 "QuietStairs$Term" "side" "I", .fieldLink RX5 33 "QuietStairs$Term" "must" "Z", .fieldLink RX5 9 "QuietStairs$Table" "musts" "[I", .fieldLink RX5 15 "QuietStairs$Table" "hourBits" "[I", .methodLink RX5 37 yX5_allowedHours, .static yX5_allowedHours, .initialized RX5, .code yX5_allowedHours cX5_allowedHours 6 (some .int), .fieldLink RX5 44 "QuietStairs$Term" "act" "I", .methodLink RX5 41 yX6_hourBits, .instanceMethod yX6_hourBits, .selects RX6 yX6_hourBits yX6_hourBits, .initialized RX6, .code yX6_hourBits cX6_hourBits 1 (some .int), .fieldLink RX6 7 "QuietStairs$Term" "last" "I", .fieldLink RX6 13 "QuietStairs$Term" "first" "I"] ++ wsX50 ++ wsX00 ++ wsX60)
def wsJ6_bitCount_0f7a4 : List Cond := .code yJ6_bitCount_0f7a4 cJ6_bitCount_0f7a4 1 (some .int) :: ([.constant RJ6 265 (1431655765), .constant RJ6 266 (858993459), .constant RJ6 267 (252645135)])
def wsX5_stands : List Cond := .code yX5_stands cX5_stands 4 (some .boolean) :: ([.fieldLink RX5 18 "QuietStairs$Table" "count" "I", .fieldLink RX5 15 "QuietStairs$Table" "hourBits" "[I", .static yX7_hasBit, .initialized RX7, .code yX7_hasBit cX7_hasBit 2 (some .boolean), .methodLink RX5 51 yJ6_bitCount_0f7a4, .static yJ6_bitCount_0f7a4, .initialized RJ6, .code yJ6_bitCount_0f7a4 cJ6_bitCount_0f7a4 1 (some .int), .constant RJ6 265 (1431655765), .constant RJ6 266 (858993459), .constant RJ6 267 (252645135)] ++ wsX50)
def wsX5_pinLeastHour : List Cond := .code yX5_pinLeastHour cX5_pinLeastHour 4 (some .int) :: ([.fieldLink RX5 15 "QuietStairs$Table" "hourBits" "[I", .static yX7_hasBit, .initialized RX7, .code yX7_hasBit cX7_hasBit 2 (some .boolean), .methodLink RX5 60 yX5_stands, .instanceMethod yX5_stands, .selects RX5 yX5_stands yX5_stands, .initialized RX5, .code yX5_stands cX5_stands 4 (some .boolean), .fieldLink RX5 18 "QuietStairs$Table" "count" "I", .methodLink RX5 51 yJ6_bitCount_0f7a4, .static yJ6_bitCount_0f7a4, .initialized RJ6, .code yJ6_bitCount_0f7a4 cJ6_bitCount_0f7a4 1 (some .int), .constant RJ6 265 (1431655765), .constant RJ6 266 (858993459), .constant RJ6 267 (252645135)] ++ wsX50)
def wsX5_hourOf : List Cond := .code yX5_hourOf cX5_hourOf 4 (some .int) :: ([.fieldLink RX5 18 "QuietStairs$Table" "count" "I", .fieldLink RX5 9 "QuietStairs$Table" "musts" "[I", .methodLink RX5 57 yX5_pinLeastHour, .instanceMethod yX5_pinLeastHour, .selects RX5 yX5_pinLeastHour yX5_pinLeastHour, .initialized RX5, .code yX5_pinLeastHour cX5_pinLeastHour 4 (some .int), .fieldLink RX5 15 "QuietStairs$Table" "hourBits" "[I", .static yX7_hasBit, .initialized RX7, .code yX7_hasBit cX7_hasBit 2 (some .boolean), .methodLink RX5 60 yX5_stands, .instanceMethod yX5_stands, .selects RX5 yX5_stands yX5_stands, .code yX5_stands cX5_stands 4 (some .boolean), .methodLink RX5 51 yJ6_bitCount_0f7a4, .static yJ6_bitCount_0f7a4, .initialized RJ6, .code yJ6_bitCount_0f7a4 cJ6_bitCount_0f7a4 1 (some .int), .constant RJ6 265 (1431655765), .constant RJ6 266 (858993459), .constant RJ6 267 (252645135)] ++ wsX50)
def wsX7_init_r1 : List Cond := [Cond.methodLink RX7 3 objectInit, Cond.instanceMethod objectInit, Cond.code objectInit ⟨#[0xb1]⟩ 1 none, Cond.classLink RX7 9 RX1, Cond.instantiable RX1 7, Cond.initialized RX1, Cond.fieldLink RX7 12 "QuietStairs" "now" "LQuietStairs$House;", Cond.classLink RX7 16 RX4, Cond.instantiable RX4 11, Cond.initialized RX4, Cond.fieldLink RX7 19 "QuietStairs" "planner" "LQuietStairs$Planner;", Cond.classLink RX7 23 RX5, Cond.instantiable RX5 3, Cond.initialized RX5, Cond.fieldLink RX7 26 "QuietStairs" "table" "LQuietStairs$Table;", Cond.fieldLink RX7 30 "QuietStairs" "kept" "LQuietStairs$House;", Cond.fieldLink RX7 33 "QuietStairs" "roomCount" "I", Cond.methodLink RX7 11 yX1_init, Cond.instanceMethod yX1_init, Cond.code yX1_init cX1_init 2 none, Cond.methodLink RX1 3 objectInit, Cond.classLink RX1 9 RX3, Cond.fieldLink RX1 11 "QuietStairs$House" "parties" "[LQuietStairs$Party;", Cond.classLink RX1 17 RX2]
def wsX7_init_r2 : List Cond := [Cond.fieldLink RX1 19 "QuietStairs$House" "mediators" "[LQuietStairs$Mediator;", Cond.classLink RX1 23 RX0, Cond.fieldLink RX1 25 "QuietStairs$House" "cases" "[LQuietStairs$Case;", Cond.instantiable RX3 2, Cond.initialized RX3, Cond.instantiable RX2 3, Cond.initialized RX2, Cond.instantiable RX0 11, Cond.initialized RX0, Cond.instanceMethod yX3_init, Cond.code yX3_init cX3_init 1 none, Cond.methodLink RX3 1 objectInit, Cond.instanceMethod yX2_init, Cond.code yX2_init cX2_init 1 none, Cond.methodLink RX2 1 objectInit, Cond.methodLink RX1 31 yX0_init, Cond.instanceMethod yX0_init, Cond.code yX0_init cX0_init 2 none, Cond.methodLink RX0 3 objectInit, Cond.arrayClass .int, Cond.fieldLink RX0 9 "QuietStairs$Case" "parties" "[I", Cond.fieldLink RX0 15 "QuietStairs$Case" "box" "[I", Cond.classLink RX0 18 "[[I", Cond.fieldLink RX0 20 "QuietStairs$Case" "offers" "[[I"]
def wsX7_init_r3 : List Cond := [Cond.fieldLink RX0 23 "QuietStairs$Case" "logs" "[[I", Cond.classLink RX0 26 RX6, Cond.fieldLink RX0 28 "QuietStairs$Case" "terms" "[LQuietStairs$Term;", Cond.instantiable RX6 5, Cond.initialized RX6, Cond.instanceMethod yX6_init, Cond.code yX6_init cX6_init 1 none, Cond.methodLink RX6 1 objectInit, Cond.instanceMethod yX4_init, Cond.code yX4_init cX4_init 1 none, Cond.methodLink RX4 3 objectInit, Cond.fieldLink RX4 9 "QuietStairs$Planner" "numbers" "[I", Cond.fieldLink RX4 15 "QuietStairs$Planner" "weights" "[I", Cond.fieldLink RX4 18 "QuietStairs$Planner" "pairBits" "[I", Cond.fieldLink RX4 21 "QuietStairs$Planner" "heaviestFirst" "[I", Cond.fieldLink RX4 24 "QuietStairs$Planner" "seats" "[I", Cond.fieldLink RX4 27 "QuietStairs$Planner" "bestSeats" "[I", Cond.fieldLink RX4 30 "QuietStairs$Planner" "busyBits" "[I", Cond.fieldLink RX4 33 "QuietStairs$Planner" "sittings" "[I", Cond.instanceMethod yX5_init, Cond.code yX5_init cX5_init 1 none, Cond.methodLink RX5 3 objectInit, Cond.fieldLink RX5 9 "QuietStairs$Table" "musts" "[I", Cond.fieldLink RX5 15 "QuietStairs$Table" "hourBits" "[I"]
def wsX7_init : List Cond := .code yX7_init cX7_init 1 none :: ((wsX7_init_r1 ++ (wsX7_init_r2 ++ wsX7_init_r3)) ++ wsX10 ++ wsX70 ++ wsX40 ++ wsX50 ++ wsX30 ++ wsX20 ++ wsX00 ++ wsX60)
def wsX7_isWithin : List Cond := .code yX7_isWithin cX7_isWithin 3 (some .boolean) :: ([])
def wsX7_party : List Cond := .code yX7_party cX7_party 4 (some .int) :: ([.fieldLink RX7 12 "QuietStairs" "now" "LQuietStairs$House;", .fieldLink RX7 41 "QuietStairs$House" "partyCount" "I", .fieldLink RX7 44 "QuietStairs$House" "parties" "[LQuietStairs$Party;", .fieldLink RX7 48 "QuietStairs$Party" "floor" "I", .fieldLink RX7 53 "QuietStairs$Party" "tongue" "I", .methodLink RX7 37 yX7_isWithin, .static yX7_isWithin, .initialized RX7, .code yX7_isWithin cX7_isWithin 3 (some .boolean)] ++ wsX70 ++ wsX10 ++ wsX30)
def wsX7_mediator : List Cond := .code yX7_mediator cX7_mediator 4 (some .int) :: ([.fieldLink RX7 12 "QuietStairs" "now" "LQuietStairs$House;", .fieldLink RX7 56 "QuietStairs$House" "mediatorCount" "I", .fieldLink RX7 59 "QuietStairs$House" "mediators" "[LQuietStairs$Mediator;", .fieldLink RX7 63 "QuietStairs$Mediator" "floor" "I", .fieldLink RX7 66 "QuietStairs$Mediator" "tongues" "I", .fieldLink RX7 69 "QuietStairs$Mediator" "kinBits" "I", .methodLink RX7 37 yX7_isWithin, .static yX7_isWithin, .initialized RX7, .code yX7_isWithin cX7_isWithin 3 (some .boolean)] ++ wsX70 ++ wsX10 ++ wsX20)
def wsX7_isMediator : List Cond := .code yX7_isMediator cX7_isMediator 2 (some .boolean) :: ([.fieldLink RX7 12 "QuietStairs" "now" "LQuietStairs$House;", .fieldLink RX7 56 "QuietStairs$House" "mediatorCount" "I", .methodLink RX7 37 yX7_isWithin, .static yX7_isWithin, .initialized RX7, .code yX7_isWithin cX7_isWithin 3 (some .boolean)] ++ wsX70 ++ wsX10)
def wsX7_isParty : List Cond := .code yX7_isParty cX7_isParty 2 (some .boolean) :: ([.fieldLink RX7 12 "QuietStairs" "now" "LQuietStairs$House;", .fieldLink RX7 41 "QuietStairs$House" "partyCount" "I", .methodLink RX7 37 yX7_isWithin, .static yX7_isWithin, .initialized RX7, .code yX7_isWithin cX7_isWithin 3 (some .boolean)] ++ wsX70 ++ wsX10)
def wsX7_kin : List Cond := .code yX7_kin cX7_kin 5 (some .int) :: ([.fieldLink RX7 12 "QuietStairs" "now" "LQuietStairs$House;", .fieldLink RX7 59 "QuietStairs$House" "mediators" "[LQuietStairs$Mediator;", .fieldLink RX7 69 "QuietStairs$Mediator" "kinBits" "I", .methodLink RX7 72 yX7_isMediator, .instanceMethod yX7_isMediator, .selects RX7 yX7_isMediator yX7_isMediator, .initialized RX7, .code yX7_isMediator cX7_isMediator 2 (some .boolean), .fieldLink RX7 56 "QuietStairs$House" "mediatorCount" "I", .methodLink RX7 37 yX7_isWithin, .static yX7_isWithin, .code yX7_isWithin cX7_isWithin 3 (some .boolean), .methodLink RX7 76 yX7_isParty, .instanceMethod yX7_isParty, .selects RX7 yX7_isParty yX7_isParty, .code yX7_isParty cX7_isParty 2 (some .boolean), .fieldLink RX7 41 "QuietStairs$House" "partyCount" "I", .methodLink RX7 79 yX7_hasBit, .static yX7_hasBit, .code yX7_hasBit cX7_hasBit 2 (some .boolean)] ++ wsX70 ++ wsX10 ++ wsX20)
def wsX7_open_r1 : List Cond := [Cond.fieldLink RX7 12 "QuietStairs" "now" "LQuietStairs$House;", Cond.fieldLink RX7 83 "QuietStairs$House" "caseCount" "I", Cond.fieldLink RX7 86 "QuietStairs$House" "cases" "[LQuietStairs$Case;", Cond.methodLink RX7 76 yX7_isParty, Cond.instanceMethod yX7_isParty, Cond.selects RX7 yX7_isParty yX7_isParty, Cond.initialized RX7, Cond.code yX7_isParty cX7_isParty 2 (some .boolean), Cond.fieldLink RX7 41 "QuietStairs$House" "partyCount" "I", Cond.methodLink RX7 37 yX7_isWithin, Cond.static yX7_isWithin, Cond.code yX7_isWithin cX7_isWithin 3 (some .boolean), Cond.methodLink RX7 90 yX0_begin, Cond.instanceMethod yX0_begin, Cond.selects RX0 yX0_begin yX0_begin, Cond.initialized RX0, Cond.code yX0_begin cX0_begin 5 none, Cond.fieldLink RX0 33 "QuietStairs$Case" "state" "I", Cond.fieldLink RX0 37 "QuietStairs$Case" "sum" "I", Cond.fieldLink RX0 40 "QuietStairs$Case" "roundsOver" "I", Cond.fieldLink RX0 43 "QuietStairs$Case" "weight" "I", Cond.fieldLink RX0 46 "QuietStairs$Case" "markedBits" "I", Cond.fieldLink RX0 49 "QuietStairs$Case" "termCount" "I", Cond.fieldLink RX0 9 "QuietStairs$Case" "parties" "[I"]
def wsX7_open_r2 : List Cond := [Cond.fieldLink RX0 15 "QuietStairs$Case" "box" "[I", Cond.fieldLink RX0 23 "QuietStairs$Case" "logs" "[[I"]
def wsX7_open : List Cond := .code yX7_open cX7_open 3 (some .int) :: ((wsX7_open_r1 ++ wsX7_open_r2) ++ wsX70 ++ wsX10 ++ wsX00)
def wsX7_isCase : List Cond := .code yX7_isCase cX7_isCase 2 (some .boolean) :: ([.fieldLink RX7 12 "QuietStairs" "now" "LQuietStairs$House;", .fieldLink RX7 83 "QuietStairs$House" "caseCount" "I", .methodLink RX7 37 yX7_isWithin, .static yX7_isWithin, .initialized RX7, .code yX7_isWithin cX7_isWithin 3 (some .boolean)] ++ wsX70 ++ wsX10)
def wsX7_close : List Cond := .code yX7_close cX7_close 2 (some .int) :: ([.fieldLink RX7 12 "QuietStairs" "now" "LQuietStairs$House;", .fieldLink RX7 86 "QuietStairs$House" "cases" "[LQuietStairs$Case;", .fieldLink RX7 99 "QuietStairs$Case" "state" "I", .methodLink RX7 96 yX7_isCase, .instanceMethod yX7_isCase, .selects RX7 yX7_isCase yX7_isCase, .initialized RX7, .code yX7_isCase cX7_isCase 2 (some .boolean), .fieldLink RX7 83 "QuietStairs$House" "caseCount" "I", .methodLink RX7 37 yX7_isWithin, .static yX7_isWithin, .code yX7_isWithin cX7_isWithin 3 (some .boolean)] ++ wsX70 ++ wsX10 ++ wsX00)
def wsX7_weight : List Cond := .code yX7_weight cX7_weight 4 (some .int) :: ([.fieldLink RX7 12 "QuietStairs" "now" "LQuietStairs$House;", .fieldLink RX7 86 "QuietStairs$House" "cases" "[LQuietStairs$Case;", .fieldLink RX7 102 "QuietStairs$Case" "weight" "I", .methodLink RX7 96 yX7_isCase, .instanceMethod yX7_isCase, .selects RX7 yX7_isCase yX7_isCase, .initialized RX7, .code yX7_isCase cX7_isCase 2 (some .boolean), .fieldLink RX7 83 "QuietStairs$House" "caseCount" "I", .methodLink RX7 37 yX7_isWithin, .static yX7_isWithin, .code yX7_isWithin cX7_isWithin 3 (some .boolean)] ++ wsX70 ++ wsX10 ++ wsX00)
def wsX7_mark : List Cond := .code yX7_mark cX7_mark 3 (some .int) :: ([.fieldLink RX7 12 "QuietStairs" "now" "LQuietStairs$House;", .fieldLink RX7 86 "QuietStairs$House" "cases" "[LQuietStairs$Case;", .fieldLink RX7 105 "QuietStairs$Case" "markedBits" "I", .fieldLink RX7 108 "QuietStairs$House" "markCount" "I", .methodLink RX7 96 yX7_isCase, .instanceMethod yX7_isCase, .selects RX7 yX7_isCase yX7_isCase, .initialized RX7, .code yX7_isCase cX7_isCase 2 (some .boolean), .fieldLink RX7 83 "QuietStairs$House" "caseCount" "I", .methodLink RX7 37 yX7_isWithin, .static yX7_isWithin, .code yX7_isWithin cX7_isWithin 3 (some .boolean), .methodLink RX7 79 yX7_hasBit, .static yX7_hasBit, .code yX7_hasBit cX7_hasBit 2 (some .boolean)] ++ wsX70 ++ wsX10 ++ wsX00)
def wsX7_of_r1 : List Cond := [Cond.fieldLink RX7 12 "QuietStairs" "now" "LQuietStairs$House;", Cond.fieldLink RX7 86 "QuietStairs$House" "cases" "[LQuietStairs$Case;", Cond.fieldLink RX7 111 "QuietStairs$Case" "parties" "[I", Cond.fieldLink RX7 99 "QuietStairs$Case" "state" "I", Cond.fieldLink RX7 114 "QuietStairs$Case" "sum" "I", Cond.fieldLink RX7 117 "QuietStairs$Case" "roundsOver" "I", Cond.fieldLink RX7 102 "QuietStairs$Case" "weight" "I", Cond.methodLink RX7 96 yX7_isCase, Cond.instanceMethod yX7_isCase, Cond.selects RX7 yX7_isCase yX7_isCase, Cond.initialized RX7, Cond.code yX7_isCase cX7_isCase 2 (some .boolean), Cond.fieldLink RX7 83 "QuietStairs$House" "caseCount" "I", Cond.methodLink RX7 37 yX7_isWithin, Cond.static yX7_isWithin, Cond.code yX7_isWithin cX7_isWithin 3 (some .boolean), Cond.methodLink RX7 120 yX1_headOfQuarrel, Cond.instanceMethod yX1_headOfQuarrel, Cond.selects RX1 yX1_headOfQuarrel yX1_headOfQuarrel, Cond.initialized RX1, Cond.code yX1_headOfQuarrel cX1_headOfQuarrel 4 (some .int), Cond.methodLink RX1 72 yX1_quarrelBits, Cond.instanceMethod yX1_quarrelBits, Cond.selects RX1 yX1_quarrelBits yX1_quarrelBits]
def wsX7_of_r2 : List Cond := [Cond.code yX1_quarrelBits cX1_quarrelBits 5 (some .int), Cond.fieldLink RX1 66 "QuietStairs$House" "caseCount" "I", Cond.fieldLink RX1 25 "QuietStairs$House" "cases" "[LQuietStairs$Case;", Cond.fieldLink RX1 69 "QuietStairs$Case" "markedBits" "I", Cond.static yX7_hasBit, Cond.code yX7_hasBit cX7_hasBit 2 (some .boolean), Cond.methodLink RX7 124 yX1_quarrelBits, Cond.methodLink RX7 127 yJ6_bitCount_0f7a4, Cond.static yJ6_bitCount_0f7a4, Cond.initialized RJ6, Cond.code yJ6_bitCount_0f7a4 cJ6_bitCount_0f7a4 1 (some .int), Cond.constant RJ6 265 (1431655765), Cond.constant RJ6 266 (858993459), Cond.constant RJ6 267 (252645135)]
def wsX7_of : List Cond := .code yX7_of cX7_of 4 (some .int) :: ((wsX7_of_r1 ++ wsX7_of_r2) ++ wsX70 ++ wsX10 ++ wsX00)
def wsX7_isSide : List Cond := .code yX7_isSide cX7_isSide 1 (some .boolean) :: ([.methodLink RX7 37 yX7_isWithin, .static yX7_isWithin, .initialized RX7, .code yX7_isWithin cX7_isWithin 3 (some .boolean)])
def wsX7_offer_r1 : List Cond := [Cond.fieldLink RX7 12 "QuietStairs" "now" "LQuietStairs$House;", Cond.fieldLink RX7 86 "QuietStairs$House" "cases" "[LQuietStairs$Case;", Cond.fieldLink RX7 99 "QuietStairs$Case" "state" "I", Cond.fieldLink RX7 135 "QuietStairs$Case" "box" "[I", Cond.fieldLink RX7 117 "QuietStairs$Case" "roundsOver" "I", Cond.methodLink RX7 96 yX7_isCase, Cond.instanceMethod yX7_isCase, Cond.selects RX7 yX7_isCase yX7_isCase, Cond.initialized RX7, Cond.code yX7_isCase cX7_isCase 2 (some .boolean), Cond.fieldLink RX7 83 "QuietStairs$House" "caseCount" "I", Cond.methodLink RX7 37 yX7_isWithin, Cond.static yX7_isWithin, Cond.code yX7_isWithin cX7_isWithin 3 (some .boolean), Cond.methodLink RX7 132 yX7_isSide, Cond.static yX7_isSide, Cond.code yX7_isSide cX7_isSide 1 (some .boolean), Cond.methodLink RX7 138 yX0_endRound, Cond.instanceMethod yX0_endRound, Cond.selects RX0 yX0_endRound yX0_endRound, Cond.initialized RX0, Cond.code yX0_endRound cX0_endRound 3 (some .boolean), Cond.fieldLink RX0 15 "QuietStairs$Case" "box" "[I", Cond.fieldLink RX0 40 "QuietStairs$Case" "roundsOver" "I"]
def wsX7_offer_r2 : List Cond := [Cond.fieldLink RX0 20 "QuietStairs$Case" "offers" "[[I", Cond.fieldLink RX0 33 "QuietStairs$Case" "state" "I", Cond.fieldLink RX0 37 "QuietStairs$Case" "sum" "I"]
def wsX7_offer : List Cond := .code yX7_offer cX7_offer 5 (some .int) :: ((wsX7_offer_r1 ++ wsX7_offer_r2) ++ wsX70 ++ wsX10 ++ wsX00)
def wsX7_put : List Cond := .code yX7_put cX7_put 3 (some .int) :: ([.fieldLink RX7 12 "QuietStairs" "now" "LQuietStairs$House;", .fieldLink RX7 86 "QuietStairs$House" "cases" "[LQuietStairs$Case;", .fieldLink RX7 135 "QuietStairs$Case" "box" "[I", .methodLink RX7 96 yX7_isCase, .instanceMethod yX7_isCase, .selects RX7 yX7_isCase yX7_isCase, .initialized RX7, .code yX7_isCase cX7_isCase 2 (some .boolean), .fieldLink RX7 83 "QuietStairs$House" "caseCount" "I", .methodLink RX7 37 yX7_isWithin, .static yX7_isWithin, .code yX7_isWithin cX7_isWithin 3 (some .boolean), .methodLink RX7 132 yX7_isSide, .static yX7_isSide, .code yX7_isSide cX7_isSide 1 (some .boolean)] ++ wsX70 ++ wsX10 ++ wsX00)
def wsX7_learns_r1 : List Cond := [Cond.fieldLink RX7 12 "QuietStairs" "now" "LQuietStairs$House;", Cond.fieldLink RX7 86 "QuietStairs$House" "cases" "[LQuietStairs$Case;", Cond.fieldLink RX7 117 "QuietStairs$Case" "roundsOver" "I", Cond.methodLink RX7 96 yX7_isCase, Cond.instanceMethod yX7_isCase, Cond.selects RX7 yX7_isCase yX7_isCase, Cond.initialized RX7, Cond.code yX7_isCase cX7_isCase 2 (some .boolean), Cond.fieldLink RX7 83 "QuietStairs$House" "caseCount" "I", Cond.methodLink RX7 37 yX7_isWithin, Cond.static yX7_isWithin, Cond.code yX7_isWithin cX7_isWithin 3 (some .boolean), Cond.methodLink RX7 132 yX7_isSide, Cond.static yX7_isSide, Cond.code yX7_isSide cX7_isSide 1 (some .boolean), Cond.methodLink RX7 142 yX0_greatestOfOther, Cond.instanceMethod yX0_greatestOfOther, Cond.selects RX0 yX0_greatestOfOther yX0_greatestOfOther, Cond.initialized RX0, Cond.code yX0_greatestOfOther cX0_greatestOfOther 5 (some .int), Cond.fieldLink RX0 20 "QuietStairs$Case" "offers" "[[I", Cond.fieldLink RX0 37 "QuietStairs$Case" "sum" "I", Cond.methodLink RX0 62 Lib.Math.min.name, Cond.static Lib.Math.min.name]
def wsX7_learns_r2 : List Cond := [Cond.initialized "java/lang/Math", Cond.code Lib.Math.min.name Lib.Math.min.code 2 (some .int), Cond.methodLink RX0 52 yX0_hasMet, Cond.instanceMethod yX0_hasMet, Cond.selects RX0 yX0_hasMet yX0_hasMet, Cond.code yX0_hasMet cX0_hasMet 2 (some .boolean), Cond.fieldLink RX0 33 "QuietStairs$Case" "state" "I", Cond.fieldLink RX0 40 "QuietStairs$Case" "roundsOver" "I", Cond.methodLink RX7 146 yX0_leastOfOther, Cond.instanceMethod yX0_leastOfOther, Cond.selects RX0 yX0_leastOfOther yX0_leastOfOther, Cond.code yX0_leastOfOther cX0_leastOfOther 5 (some .int), Cond.methodLink RX0 56 Lib.Math.max.name, Cond.static Lib.Math.max.name, Cond.code Lib.Math.max.name Lib.Math.max.code 2 (some .int)]
def wsX7_learns : List Cond := .code yX7_learns cX7_learns 6 (some .int) :: ((wsX7_learns_r1 ++ wsX7_learns_r2) ++ wsX70 ++ wsX10 ++ wsX00)
def wsX7_maySit_r1 : List Cond := [Cond.fieldLink RX7 12 "QuietStairs" "now" "LQuietStairs$House;", Cond.fieldLink RX7 86 "QuietStairs$House" "cases" "[LQuietStairs$Case;", Cond.methodLink RX7 37 yX7_isWithin, Cond.static yX7_isWithin, Cond.initialized RX7, Cond.code yX7_isWithin cX7_isWithin 3 (some .boolean), Cond.methodLink RX7 149 yX1_hasPair, Cond.instanceMethod yX1_hasPair, Cond.selects RX1 yX1_hasPair yX1_hasPair, Cond.initialized RX1, Cond.code yX1_hasPair cX1_hasPair 2 (some .boolean), Cond.fieldLink RX1 36 "QuietStairs$House" "mediatorCount" "I", Cond.methodLink RX7 96 yX7_isCase, Cond.instanceMethod yX7_isCase, Cond.selects RX7 yX7_isCase yX7_isCase, Cond.code yX7_isCase cX7_isCase 2 (some .boolean), Cond.fieldLink RX7 83 "QuietStairs$House" "caseCount" "I", Cond.methodLink RX7 152 yX1_pairFits, Cond.instanceMethod yX1_pairFits, Cond.selects RX1 yX1_pairFits yX1_pairFits, Cond.code yX1_pairFits cX1_pairFits 8 (some .boolean), Cond.fieldLink RX1 19 "QuietStairs$House" "mediators" "[LQuietStairs$Mediator;", Cond.fieldLink RX1 43 "QuietStairs$Mediator" "tongues" "I", Cond.fieldLink RX1 46 "QuietStairs$Case" "parties" "[I"]
def wsX7_maySit_r2 : List Cond := [Cond.fieldLink RX1 11 "QuietStairs$House" "parties" "[LQuietStairs$Party;", Cond.fieldLink RX1 48 "QuietStairs$Party" "tongue" "I", Cond.static yX7_hasBit, Cond.code yX7_hasBit cX7_hasBit 2 (some .boolean), Cond.methodLink RX1 55 yX1_isNear, Cond.instanceMethod yX1_isNear, Cond.selects RX1 yX1_isNear yX1_isNear, Cond.code yX1_isNear cX1_isNear 3 (some .boolean), Cond.fieldLink RX1 59 "QuietStairs$Mediator" "kinBits" "I", Cond.fieldLink RX1 62 "QuietStairs$Mediator" "floor" "I", Cond.fieldLink RX1 65 "QuietStairs$Party" "floor" "I"]
def wsX7_maySit : List Cond := .code yX7_maySit cX7_maySit 3 (some .int) :: ((wsX7_maySit_r1 ++ wsX7_maySit_r2) ++ wsX70 ++ wsX10 ++ wsX20 ++ wsX00 ++ wsX30)
def wsX7_rooms : List Cond := .code yX7_rooms cX7_rooms 3 (some .int) :: ([.fieldLink RX7 33 "QuietStairs" "roomCount" "I", .methodLink RX7 37 yX7_isWithin, .static yX7_isWithin, .initialized RX7, .code yX7_isWithin cX7_isWithin 3 (some .boolean)] ++ wsX70)
def wsX7_plan_r1 : List Cond := [Cond.fieldLink RX7 12 "QuietStairs" "now" "LQuietStairs$House;", Cond.fieldLink RX7 86 "QuietStairs$House" "cases" "[LQuietStairs$Case;", Cond.fieldLink RX7 99 "QuietStairs$Case" "state" "I", Cond.fieldLink RX7 19 "QuietStairs" "planner" "LQuietStairs$Planner;", Cond.fieldLink RX7 33 "QuietStairs" "roomCount" "I", Cond.methodLink RX7 96 yX7_isCase, Cond.instanceMethod yX7_isCase, Cond.selects RX7 yX7_isCase yX7_isCase, Cond.initialized RX7, Cond.code yX7_isCase cX7_isCase 2 (some .boolean), Cond.fieldLink RX7 83 "QuietStairs$House" "caseCount" "I", Cond.methodLink RX7 37 yX7_isWithin, Cond.static yX7_isWithin, Cond.code yX7_isWithin cX7_isWithin 3 (some .boolean), Cond.methodLink RX7 156 yX4_findPlan, Cond.instanceMethod yX4_findPlan, Cond.selects RX4 yX4_findPlan yX4_findPlan, Cond.initialized RX4, Cond.code yX4_findPlan cX4_findPlan 4 none, Cond.fieldLink RX4 36 "QuietStairs$House" "mediatorCount" "I", Cond.methodLink RX4 42 Lib.Math.min.name, Cond.static Lib.Math.min.name, Cond.initialized "java/lang/Math", Cond.code Lib.Math.min.name Lib.Math.min.code 2 (some .int)]
def wsX7_plan_r2 : List Cond := [Cond.fieldLink RX4 48 "QuietStairs$Planner" "seatsADay" "I", Cond.fieldLink RX4 58 "QuietStairs$Planner" "leastWait" "I", Cond.fieldLink RX4 61 "QuietStairs$Planner" "count" "I", Cond.fieldLink RX4 15 "QuietStairs$Planner" "weights" "[I", Cond.fieldLink RX4 30 "QuietStairs$Planner" "busyBits" "[I", Cond.fieldLink RX4 33 "QuietStairs$Planner" "sittings" "[I", Cond.methodLink RX4 51 yX4_gather, Cond.instanceMethod yX4_gather, Cond.selects RX4 yX4_gather yX4_gather, Cond.code yX4_gather cX4_gather 4 none, Cond.fieldLink RX4 68 "QuietStairs$House" "caseCount" "I", Cond.fieldLink RX4 71 "QuietStairs$House" "cases" "[LQuietStairs$Case;", Cond.fieldLink RX4 75 "QuietStairs$Case" "state" "I", Cond.fieldLink RX4 9 "QuietStairs$Planner" "numbers" "[I", Cond.fieldLink RX4 80 "QuietStairs$Case" "weight" "I", Cond.fieldLink RX4 18 "QuietStairs$Planner" "pairBits" "[I", Cond.methodLink RX4 83 yX4_fittingPairs, Cond.static yX4_fittingPairs, Cond.code yX4_fittingPairs cX4_fittingPairs 4 (some .int), Cond.methodLink RX4 87 yX1_hasPair, Cond.instanceMethod yX1_hasPair, Cond.selects RX1 yX1_hasPair yX1_hasPair, Cond.initialized RX1, Cond.code yX1_hasPair cX1_hasPair 2 (some .boolean)]
def wsX7_plan_r3 : List Cond := [Cond.fieldLink RX1 36 "QuietStairs$House" "mediatorCount" "I", Cond.methodLink RX4 91 yX1_pairFits, Cond.instanceMethod yX1_pairFits, Cond.selects RX1 yX1_pairFits yX1_pairFits, Cond.code yX1_pairFits cX1_pairFits 8 (some .boolean), Cond.fieldLink RX1 19 "QuietStairs$House" "mediators" "[LQuietStairs$Mediator;", Cond.fieldLink RX1 43 "QuietStairs$Mediator" "tongues" "I", Cond.fieldLink RX1 46 "QuietStairs$Case" "parties" "[I", Cond.fieldLink RX1 11 "QuietStairs$House" "parties" "[LQuietStairs$Party;", Cond.fieldLink RX1 48 "QuietStairs$Party" "tongue" "I", Cond.static yX7_hasBit, Cond.code yX7_hasBit cX7_hasBit 2 (some .boolean), Cond.methodLink RX1 55 yX1_isNear, Cond.instanceMethod yX1_isNear, Cond.selects RX1 yX1_isNear yX1_isNear, Cond.code yX1_isNear cX1_isNear 3 (some .boolean), Cond.fieldLink RX1 59 "QuietStairs$Mediator" "kinBits" "I", Cond.fieldLink RX1 62 "QuietStairs$Mediator" "floor" "I", Cond.fieldLink RX1 65 "QuietStairs$Party" "floor" "I", Cond.methodLink RX4 55 yX4_sortByWeight, Cond.instanceMethod yX4_sortByWeight, Cond.selects RX4 yX4_sortByWeight yX4_sortByWeight, Cond.code yX4_sortByWeight cX4_sortByWeight 3 none, Cond.fieldLink RX4 21 "QuietStairs$Planner" "heaviestFirst" "[I"]
def wsX7_plan_r4 : List Cond := [Cond.methodLink RX4 64 yX4_search, Cond.instanceMethod yX4_search, Cond.selects RX4 yX4_search yX4_search, Cond.code yX4_search cX4_search 4 none, Cond.fieldLink RX4 24 "QuietStairs$Planner" "seats" "[I", Cond.fieldLink RX4 27 "QuietStairs$Planner" "bestSeats" "[I", Cond.methodLink RX4 99 arraycopyName, Cond.native arraycopyName, Cond.static arraycopyName, Cond.initialized "java/lang/System", Cond.methodLink RX4 95 yX4_leastBehind, Cond.instanceMethod yX4_leastBehind, Cond.selects RX4 yX4_leastBehind yX4_leastBehind, Cond.code yX4_leastBehind cX4_leastBehind 8 (some .int), Cond.methodLink RX4 105 yX4_searchDay, Cond.instanceMethod yX4_searchDay, Cond.selects RX4 yX4_searchDay yX4_searchDay, Cond.code yX4_searchDay cX4_searchDay 6 none, Cond.methodLink RX7 160 yX4_seatOf, Cond.instanceMethod yX4_seatOf, Cond.selects RX4 yX4_seatOf yX4_seatOf, Cond.code yX4_seatOf cX4_seatOf 3 (some .int)]
def wsX7_plan : List Cond := .code yX7_plan cX7_plan 2 (some .int) :: ((wsX7_plan_r1 ++ (wsX7_plan_r2 ++ (wsX7_plan_r3 ++ wsX7_plan_r4))) ++ wsX70 ++ wsX10 ++ wsX00 ++ wsX40 ++ wsX20 ++ wsX30)
def wsX7_waits_r1 : List Cond := [Cond.fieldLink RX7 19 "QuietStairs" "planner" "LQuietStairs$Planner;", Cond.fieldLink RX7 12 "QuietStairs" "now" "LQuietStairs$House;", Cond.fieldLink RX7 33 "QuietStairs" "roomCount" "I", Cond.fieldLink RX7 163 "QuietStairs$Planner" "leastWait" "I", Cond.methodLink RX7 156 yX4_findPlan, Cond.instanceMethod yX4_findPlan, Cond.selects RX4 yX4_findPlan yX4_findPlan, Cond.initialized RX4, Cond.code yX4_findPlan cX4_findPlan 4 none, Cond.fieldLink RX4 36 "QuietStairs$House" "mediatorCount" "I", Cond.methodLink RX4 42 Lib.Math.min.name, Cond.static Lib.Math.min.name, Cond.initialized "java/lang/Math", Cond.code Lib.Math.min.name Lib.Math.min.code 2 (some .int), Cond.fieldLink RX4 48 "QuietStairs$Planner" "seatsADay" "I", Cond.fieldLink RX4 58 "QuietStairs$Planner" "leastWait" "I", Cond.fieldLink RX4 61 "QuietStairs$Planner" "count" "I", Cond.fieldLink RX4 15 "QuietStairs$Planner" "weights" "[I", Cond.fieldLink RX4 30 "QuietStairs$Planner" "busyBits" "[I", Cond.fieldLink RX4 33 "QuietStairs$Planner" "sittings" "[I", Cond.methodLink RX4 51 yX4_gather, Cond.instanceMethod yX4_gather, Cond.selects RX4 yX4_gather yX4_gather, Cond.code yX4_gather cX4_gather 4 none]
def wsX7_waits_r2 : List Cond := [Cond.fieldLink RX4 68 "QuietStairs$House" "caseCount" "I", Cond.fieldLink RX4 71 "QuietStairs$House" "cases" "[LQuietStairs$Case;", Cond.fieldLink RX4 75 "QuietStairs$Case" "state" "I", Cond.fieldLink RX4 9 "QuietStairs$Planner" "numbers" "[I", Cond.fieldLink RX4 80 "QuietStairs$Case" "weight" "I", Cond.fieldLink RX4 18 "QuietStairs$Planner" "pairBits" "[I", Cond.methodLink RX4 83 yX4_fittingPairs, Cond.static yX4_fittingPairs, Cond.code yX4_fittingPairs cX4_fittingPairs 4 (some .int), Cond.methodLink RX4 87 yX1_hasPair, Cond.instanceMethod yX1_hasPair, Cond.selects RX1 yX1_hasPair yX1_hasPair, Cond.initialized RX1, Cond.code yX1_hasPair cX1_hasPair 2 (some .boolean), Cond.fieldLink RX1 36 "QuietStairs$House" "mediatorCount" "I", Cond.methodLink RX4 91 yX1_pairFits, Cond.instanceMethod yX1_pairFits, Cond.selects RX1 yX1_pairFits yX1_pairFits, Cond.code yX1_pairFits cX1_pairFits 8 (some .boolean), Cond.fieldLink RX1 19 "QuietStairs$House" "mediators" "[LQuietStairs$Mediator;", Cond.fieldLink RX1 43 "QuietStairs$Mediator" "tongues" "I", Cond.fieldLink RX1 46 "QuietStairs$Case" "parties" "[I", Cond.fieldLink RX1 11 "QuietStairs$House" "parties" "[LQuietStairs$Party;", Cond.fieldLink RX1 48 "QuietStairs$Party" "tongue" "I"]
def wsX7_waits_r3 : List Cond := [Cond.static yX7_hasBit, Cond.initialized RX7, Cond.code yX7_hasBit cX7_hasBit 2 (some .boolean), Cond.methodLink RX1 55 yX1_isNear, Cond.instanceMethod yX1_isNear, Cond.selects RX1 yX1_isNear yX1_isNear, Cond.code yX1_isNear cX1_isNear 3 (some .boolean), Cond.fieldLink RX1 59 "QuietStairs$Mediator" "kinBits" "I", Cond.fieldLink RX1 62 "QuietStairs$Mediator" "floor" "I", Cond.fieldLink RX1 65 "QuietStairs$Party" "floor" "I", Cond.methodLink RX4 55 yX4_sortByWeight, Cond.instanceMethod yX4_sortByWeight, Cond.selects RX4 yX4_sortByWeight yX4_sortByWeight, Cond.code yX4_sortByWeight cX4_sortByWeight 3 none, Cond.fieldLink RX4 21 "QuietStairs$Planner" "heaviestFirst" "[I", Cond.methodLink RX4 64 yX4_search, Cond.instanceMethod yX4_search, Cond.selects RX4 yX4_search yX4_search, Cond.code yX4_search cX4_search 4 none, Cond.fieldLink RX4 24 "QuietStairs$Planner" "seats" "[I", Cond.fieldLink RX4 27 "QuietStairs$Planner" "bestSeats" "[I", Cond.methodLink RX4 99 arraycopyName, Cond.native arraycopyName, Cond.static arraycopyName]
def wsX7_waits_r4 : List Cond := [Cond.initialized "java/lang/System", Cond.methodLink RX4 95 yX4_leastBehind, Cond.instanceMethod yX4_leastBehind, Cond.selects RX4 yX4_leastBehind yX4_leastBehind, Cond.code yX4_leastBehind cX4_leastBehind 8 (some .int), Cond.methodLink RX4 105 yX4_searchDay, Cond.instanceMethod yX4_searchDay, Cond.selects RX4 yX4_searchDay yX4_searchDay, Cond.code yX4_searchDay cX4_searchDay 6 none]
def wsX7_waits : List Cond := .code yX7_waits cX7_waits 1 (some .int) :: ((wsX7_waits_r1 ++ (wsX7_waits_r2 ++ (wsX7_waits_r3 ++ wsX7_waits_r4))) ++ wsX70 ++ wsX40 ++ wsX10 ++ wsX00 ++ wsX20 ++ wsX30)
def wsX7_isHour : List Cond := .code yX7_isHour cX7_isHour 1 (some .boolean) :: ([.methodLink RX7 37 yX7_isWithin, .static yX7_isWithin, .initialized RX7, .code yX7_isWithin cX7_isWithin 3 (some .boolean)])
def wsX7_term_r1 : List Cond := [Cond.fieldLink RX7 12 "QuietStairs" "now" "LQuietStairs$House;", Cond.fieldLink RX7 86 "QuietStairs$House" "cases" "[LQuietStairs$Case;", Cond.fieldLink RX7 99 "QuietStairs$Case" "state" "I", Cond.fieldLink RX7 169 "QuietStairs$Case" "termCount" "I", Cond.fieldLink RX7 172 "QuietStairs$Case" "terms" "[LQuietStairs$Term;", Cond.fieldLink RX7 176 "QuietStairs$Term" "side" "I", Cond.fieldLink RX7 181 "QuietStairs$Term" "must" "Z", Cond.fieldLink RX7 185 "QuietStairs$Term" "act" "I", Cond.fieldLink RX7 188 "QuietStairs$Term" "first" "I", Cond.fieldLink RX7 191 "QuietStairs$Term" "last" "I", Cond.methodLink RX7 96 yX7_isCase, Cond.instanceMethod yX7_isCase, Cond.selects RX7 yX7_isCase yX7_isCase, Cond.initialized RX7, Cond.code yX7_isCase cX7_isCase 2 (some .boolean), Cond.fieldLink RX7 83 "QuietStairs$House" "caseCount" "I", Cond.methodLink RX7 37 yX7_isWithin, Cond.static yX7_isWithin, Cond.code yX7_isWithin cX7_isWithin 3 (some .boolean), Cond.methodLink RX7 132 yX7_isSide, Cond.static yX7_isSide, Cond.code yX7_isSide cX7_isSide 1 (some .boolean), Cond.methodLink RX7 166 yX7_isHour, Cond.static yX7_isHour]
def wsX7_term_r2 : List Cond := [Cond.code yX7_isHour cX7_isHour 1 (some .boolean)]
def wsX7_term : List Cond := .code yX7_term cX7_term 9 (some .int) :: ((wsX7_term_r1 ++ wsX7_term_r2) ++ wsX70 ++ wsX10 ++ wsX00 ++ wsX60)
def wsX7_strike : List Cond := .code yX7_strike cX7_strike 2 (some .int) :: ([.fieldLink RX7 12 "QuietStairs" "now" "LQuietStairs$House;", .fieldLink RX7 86 "QuietStairs$House" "cases" "[LQuietStairs$Case;", .fieldLink RX7 169 "QuietStairs$Case" "termCount" "I", .methodLink RX7 96 yX7_isCase, .instanceMethod yX7_isCase, .selects RX7 yX7_isCase yX7_isCase, .initialized RX7, .code yX7_isCase cX7_isCase 2 (some .boolean), .fieldLink RX7 83 "QuietStairs$House" "caseCount" "I", .methodLink RX7 37 yX7_isWithin, .static yX7_isWithin, .code yX7_isWithin cX7_isWithin 3 (some .boolean)] ++ wsX70 ++ wsX10 ++ wsX00)
def wsX7_isTerm : List Cond := .code yX7_isTerm cX7_isTerm 3 (some .boolean) :: ([.fieldLink RX7 12 "QuietStairs" "now" "LQuietStairs$House;", .fieldLink RX7 86 "QuietStairs$House" "cases" "[LQuietStairs$Case;", .fieldLink RX7 169 "QuietStairs$Case" "termCount" "I", .methodLink RX7 96 yX7_isCase, .instanceMethod yX7_isCase, .selects RX7 yX7_isCase yX7_isCase, .initialized RX7, .code yX7_isCase cX7_isCase 2 (some .boolean), .fieldLink RX7 83 "QuietStairs$House" "caseCount" "I", .methodLink RX7 37 yX7_isWithin, .static yX7_isWithin, .code yX7_isWithin cX7_isWithin 3 (some .boolean)] ++ wsX70 ++ wsX10 ++ wsX00)
def wsX7_termOf : List Cond := .code yX7_termOf cX7_termOf 5 (some .int) :: ([.fieldLink RX7 12 "QuietStairs" "now" "LQuietStairs$House;", .fieldLink RX7 86 "QuietStairs$House" "cases" "[LQuietStairs$Case;", .fieldLink RX7 172 "QuietStairs$Case" "terms" "[LQuietStairs$Term;", .fieldLink RX7 176 "QuietStairs$Term" "side" "I", .fieldLink RX7 181 "QuietStairs$Term" "must" "Z", .fieldLink RX7 185 "QuietStairs$Term" "act" "I", .fieldLink RX7 188 "QuietStairs$Term" "first" "I", .fieldLink RX7 191 "QuietStairs$Term" "last" "I", .methodLink RX7 194 yX7_isTerm, .instanceMethod yX7_isTerm, .selects RX7 yX7_isTerm yX7_isTerm, .initialized RX7, .code yX7_isTerm cX7_isTerm 3 (some .boolean), .fieldLink RX7 169 "QuietStairs$Case" "termCount" "I", .methodLink RX7 96 yX7_isCase, .instanceMethod yX7_isCase, .selects RX7 yX7_isCase yX7_isCase, .code yX7_isCase cX7_isCase 2 (some .boolean), .fieldLink RX7 83 "QuietStairs$House" "caseCount" "I", .methodLink RX7 37 yX7_isWithin, .static yX7_isWithin, .code yX7_isWithin cX7_isWithin 3 (some .boolean)] ++ wsX70 ++ wsX10 ++ wsX00 ++ wsX60)
def wsX7_hour_r1 : List Cond := [Cond.fieldLink RX7 12 "QuietStairs" "now" "LQuietStairs$House;", Cond.fieldLink RX7 86 "QuietStairs$House" "cases" "[LQuietStairs$Case;", Cond.fieldLink RX7 172 "QuietStairs$Case" "terms" "[LQuietStairs$Term;", Cond.fieldLink RX7 181 "QuietStairs$Term" "must" "Z", Cond.fieldLink RX7 26 "QuietStairs" "table" "LQuietStairs$Table;", Cond.fieldLink RX7 176 "QuietStairs$Term" "side" "I", Cond.fieldLink RX7 169 "QuietStairs$Case" "termCount" "I", Cond.methodLink RX7 194 yX7_isTerm, Cond.instanceMethod yX7_isTerm, Cond.selects RX7 yX7_isTerm yX7_isTerm, Cond.initialized RX7, Cond.code yX7_isTerm cX7_isTerm 3 (some .boolean), Cond.methodLink RX7 96 yX7_isCase, Cond.instanceMethod yX7_isCase, Cond.selects RX7 yX7_isCase yX7_isCase, Cond.code yX7_isCase cX7_isCase 2 (some .boolean), Cond.fieldLink RX7 83 "QuietStairs$House" "caseCount" "I", Cond.methodLink RX7 37 yX7_isWithin, Cond.static yX7_isWithin, Cond.code yX7_isWithin cX7_isWithin 3 (some .boolean), Cond.methodLink RX7 197 yX5_read, Cond.instanceMethod yX5_read, Cond.selects RX5 yX5_read yX5_read, Cond.initialized RX5]
def wsX7_hour_r2 : List Cond := [Cond.code yX5_read cX5_read 6 none, Cond.fieldLink RX5 18 "QuietStairs$Table" "count" "I", Cond.fieldLink RX5 22 "QuietStairs$Case" "terms" "[LQuietStairs$Term;", Cond.fieldLink RX5 28 "QuietStairs$Term" "side" "I", Cond.fieldLink RX5 33 "QuietStairs$Term" "must" "Z", Cond.fieldLink RX5 9 "QuietStairs$Table" "musts" "[I", Cond.fieldLink RX5 15 "QuietStairs$Table" "hourBits" "[I", Cond.methodLink RX5 37 yX5_allowedHours, Cond.static yX5_allowedHours, Cond.code yX5_allowedHours cX5_allowedHours 6 (some .int), Cond.fieldLink RX5 44 "QuietStairs$Term" "act" "I", Cond.methodLink RX5 41 yX6_hourBits, Cond.instanceMethod yX6_hourBits, Cond.selects RX6 yX6_hourBits yX6_hourBits, Cond.initialized RX6, Cond.code yX6_hourBits cX6_hourBits 1 (some .int), Cond.fieldLink RX6 7 "QuietStairs$Term" "last" "I", Cond.fieldLink RX6 13 "QuietStairs$Term" "first" "I", Cond.methodLink RX7 201 yX5_stands, Cond.instanceMethod yX5_stands, Cond.selects RX5 yX5_stands yX5_stands, Cond.code yX5_stands cX5_stands 4 (some .boolean), Cond.static yX7_hasBit, Cond.code yX7_hasBit cX7_hasBit 2 (some .boolean)]
def wsX7_hour_r3 : List Cond := [Cond.methodLink RX5 51 yJ6_bitCount_0f7a4, Cond.static yJ6_bitCount_0f7a4, Cond.initialized RJ6, Cond.code yJ6_bitCount_0f7a4 cJ6_bitCount_0f7a4 1 (some .int), Cond.constant RJ6 265 (1431655765), Cond.constant RJ6 266 (858993459), Cond.constant RJ6 267 (252645135), Cond.methodLink RX7 204 yX5_hourOf, Cond.instanceMethod yX5_hourOf, Cond.selects RX5 yX5_hourOf yX5_hourOf, Cond.code yX5_hourOf cX5_hourOf 4 (some .int), Cond.methodLink RX5 57 yX5_pinLeastHour, Cond.instanceMethod yX5_pinLeastHour, Cond.selects RX5 yX5_pinLeastHour yX5_pinLeastHour, Cond.code yX5_pinLeastHour cX5_pinLeastHour 4 (some .int), Cond.methodLink RX5 60 yX5_stands]
def wsX7_hour : List Cond := .code yX7_hour cX7_hour 4 (some .int) :: ((wsX7_hour_r1 ++ (wsX7_hour_r2 ++ wsX7_hour_r3)) ++ wsX70 ++ wsX10 ++ wsX00 ++ wsX60 ++ wsX50)
def wsX7_canHold_r1 : List Cond := [Cond.fieldLink RX7 26 "QuietStairs" "table" "LQuietStairs$Table;", Cond.fieldLink RX7 12 "QuietStairs" "now" "LQuietStairs$House;", Cond.fieldLink RX7 86 "QuietStairs$House" "cases" "[LQuietStairs$Case;", Cond.fieldLink RX7 169 "QuietStairs$Case" "termCount" "I", Cond.methodLink RX7 96 yX7_isCase, Cond.instanceMethod yX7_isCase, Cond.selects RX7 yX7_isCase yX7_isCase, Cond.initialized RX7, Cond.code yX7_isCase cX7_isCase 2 (some .boolean), Cond.fieldLink RX7 83 "QuietStairs$House" "caseCount" "I", Cond.methodLink RX7 37 yX7_isWithin, Cond.static yX7_isWithin, Cond.code yX7_isWithin cX7_isWithin 3 (some .boolean), Cond.methodLink RX7 132 yX7_isSide, Cond.static yX7_isSide, Cond.code yX7_isSide cX7_isSide 1 (some .boolean), Cond.methodLink RX7 197 yX5_read, Cond.instanceMethod yX5_read, Cond.selects RX5 yX5_read yX5_read, Cond.initialized RX5, Cond.code yX5_read cX5_read 6 none, Cond.fieldLink RX5 18 "QuietStairs$Table" "count" "I", Cond.fieldLink RX5 22 "QuietStairs$Case" "terms" "[LQuietStairs$Term;", Cond.fieldLink RX5 28 "QuietStairs$Term" "side" "I"]
def wsX7_canHold_r2 : List Cond := [Cond.fieldLink RX5 33 "QuietStairs$Term" "must" "Z", Cond.fieldLink RX5 9 "QuietStairs$Table" "musts" "[I", Cond.fieldLink RX5 15 "QuietStairs$Table" "hourBits" "[I", Cond.methodLink RX5 37 yX5_allowedHours, Cond.static yX5_allowedHours, Cond.code yX5_allowedHours cX5_allowedHours 6 (some .int), Cond.fieldLink RX5 44 "QuietStairs$Term" "act" "I", Cond.methodLink RX5 41 yX6_hourBits, Cond.instanceMethod yX6_hourBits, Cond.selects RX6 yX6_hourBits yX6_hourBits, Cond.initialized RX6, Cond.code yX6_hourBits cX6_hourBits 1 (some .int), Cond.fieldLink RX6 7 "QuietStairs$Term" "last" "I", Cond.fieldLink RX6 13 "QuietStairs$Term" "first" "I", Cond.methodLink RX7 201 yX5_stands, Cond.instanceMethod yX5_stands, Cond.selects RX5 yX5_stands yX5_stands, Cond.code yX5_stands cX5_stands 4 (some .boolean), Cond.static yX7_hasBit, Cond.code yX7_hasBit cX7_hasBit 2 (some .boolean), Cond.methodLink RX5 51 yJ6_bitCount_0f7a4, Cond.static yJ6_bitCount_0f7a4, Cond.initialized RJ6, Cond.code yJ6_bitCount_0f7a4 cJ6_bitCount_0f7a4 1 (some .int)]
def wsX7_canHold_r3 : List Cond := [Cond.constant RJ6 265 (1431655765), Cond.constant RJ6 266 (858993459), Cond.constant RJ6 267 (252645135)]
def wsX7_canHold : List Cond := .code yX7_canHold cX7_canHold 3 (some .int) :: ((wsX7_canHold_r1 ++ (wsX7_canHold_r2 ++ wsX7_canHold_r3)) ++ wsX70 ++ wsX10 ++ wsX00 ++ wsX50 ++ wsX60)
def wsX7_breaks_r1 : List Cond := [Cond.fieldLink RX7 12 "QuietStairs" "now" "LQuietStairs$House;", Cond.fieldLink RX7 86 "QuietStairs$House" "cases" "[LQuietStairs$Case;", Cond.fieldLink RX7 169 "QuietStairs$Case" "termCount" "I", Cond.fieldLink RX7 172 "QuietStairs$Case" "terms" "[LQuietStairs$Term;", Cond.fieldLink RX7 176 "QuietStairs$Term" "side" "I", Cond.fieldLink RX7 26 "QuietStairs" "table" "LQuietStairs$Table;", Cond.methodLink RX7 96 yX7_isCase, Cond.instanceMethod yX7_isCase, Cond.selects RX7 yX7_isCase yX7_isCase, Cond.initialized RX7, Cond.code yX7_isCase cX7_isCase 2 (some .boolean), Cond.fieldLink RX7 83 "QuietStairs$House" "caseCount" "I", Cond.methodLink RX7 37 yX7_isWithin, Cond.static yX7_isWithin, Cond.code yX7_isWithin cX7_isWithin 3 (some .boolean), Cond.methodLink RX7 132 yX7_isSide, Cond.static yX7_isSide, Cond.code yX7_isSide cX7_isSide 1 (some .boolean), Cond.methodLink RX7 197 yX5_read, Cond.instanceMethod yX5_read, Cond.selects RX5 yX5_read yX5_read, Cond.initialized RX5, Cond.code yX5_read cX5_read 6 none, Cond.fieldLink RX5 18 "QuietStairs$Table" "count" "I"]
def wsX7_breaks_r2 : List Cond := [Cond.fieldLink RX5 22 "QuietStairs$Case" "terms" "[LQuietStairs$Term;", Cond.fieldLink RX5 28 "QuietStairs$Term" "side" "I", Cond.fieldLink RX5 33 "QuietStairs$Term" "must" "Z", Cond.fieldLink RX5 9 "QuietStairs$Table" "musts" "[I", Cond.fieldLink RX5 15 "QuietStairs$Table" "hourBits" "[I", Cond.methodLink RX5 37 yX5_allowedHours, Cond.static yX5_allowedHours, Cond.code yX5_allowedHours cX5_allowedHours 6 (some .int), Cond.fieldLink RX5 44 "QuietStairs$Term" "act" "I", Cond.methodLink RX5 41 yX6_hourBits, Cond.instanceMethod yX6_hourBits, Cond.selects RX6 yX6_hourBits yX6_hourBits, Cond.initialized RX6, Cond.code yX6_hourBits cX6_hourBits 1 (some .int), Cond.fieldLink RX6 7 "QuietStairs$Term" "last" "I", Cond.fieldLink RX6 13 "QuietStairs$Term" "first" "I", Cond.methodLink RX7 201 yX5_stands, Cond.instanceMethod yX5_stands, Cond.selects RX5 yX5_stands yX5_stands, Cond.code yX5_stands cX5_stands 4 (some .boolean), Cond.static yX7_hasBit, Cond.code yX7_hasBit cX7_hasBit 2 (some .boolean), Cond.methodLink RX5 51 yJ6_bitCount_0f7a4, Cond.static yJ6_bitCount_0f7a4]
def wsX7_breaks_r3 : List Cond := [Cond.initialized RJ6, Cond.code yJ6_bitCount_0f7a4 cJ6_bitCount_0f7a4 1 (some .int), Cond.constant RJ6 265 (1431655765), Cond.constant RJ6 266 (858993459), Cond.constant RJ6 267 (252645135)]
def wsX7_breaks : List Cond := .code yX7_breaks cX7_breaks 5 (some .int) :: ((wsX7_breaks_r1 ++ (wsX7_breaks_r2 ++ wsX7_breaks_r3)) ++ wsX70 ++ wsX10 ++ wsX00 ++ wsX60 ++ wsX50)
def wsX7_log : List Cond := .code yX7_log cX7_log 7 (some .int) :: ([.fieldLink RX7 12 "QuietStairs" "now" "LQuietStairs$House;", .fieldLink RX7 86 "QuietStairs$House" "cases" "[LQuietStairs$Case;", .fieldLink RX7 207 "QuietStairs$Case" "logs" "[[I", .methodLink RX7 96 yX7_isCase, .instanceMethod yX7_isCase, .selects RX7 yX7_isCase yX7_isCase, .initialized RX7, .code yX7_isCase cX7_isCase 2 (some .boolean), .fieldLink RX7 83 "QuietStairs$House" "caseCount" "I", .methodLink RX7 37 yX7_isWithin, .static yX7_isWithin, .code yX7_isWithin cX7_isWithin 3 (some .boolean), .methodLink RX7 132 yX7_isSide, .static yX7_isSide, .code yX7_isSide cX7_isSide 1 (some .boolean), .methodLink RX7 166 yX7_isHour, .static yX7_isHour, .code yX7_isHour cX7_isHour 1 (some .boolean)] ++ wsX70 ++ wsX10 ++ wsX00)
def wsX7_judged_r1 : List Cond := [Cond.fieldLink RX7 12 "QuietStairs" "now" "LQuietStairs$House;", Cond.fieldLink RX7 86 "QuietStairs$House" "cases" "[LQuietStairs$Case;", Cond.methodLink RX7 194 yX7_isTerm, Cond.instanceMethod yX7_isTerm, Cond.selects RX7 yX7_isTerm yX7_isTerm, Cond.initialized RX7, Cond.code yX7_isTerm cX7_isTerm 3 (some .boolean), Cond.fieldLink RX7 169 "QuietStairs$Case" "termCount" "I", Cond.methodLink RX7 96 yX7_isCase, Cond.instanceMethod yX7_isCase, Cond.selects RX7 yX7_isCase yX7_isCase, Cond.code yX7_isCase cX7_isCase 2 (some .boolean), Cond.fieldLink RX7 83 "QuietStairs$House" "caseCount" "I", Cond.methodLink RX7 37 yX7_isWithin, Cond.static yX7_isWithin, Cond.code yX7_isWithin cX7_isWithin 3 (some .boolean), Cond.methodLink RX7 211 yX0_judge, Cond.instanceMethod yX0_judge, Cond.selects RX0 yX0_judge yX0_judge, Cond.initialized RX0, Cond.code yX0_judge cX0_judge 6 (some .int), Cond.fieldLink RX0 28 "QuietStairs$Case" "terms" "[LQuietStairs$Term;", Cond.fieldLink RX0 65 "QuietStairs$Term" "first" "I", Cond.fieldLink RX0 68 "QuietStairs$Term" "last" "I"]
def wsX7_judged_r2 : List Cond := [Cond.fieldLink RX0 23 "QuietStairs$Case" "logs" "[[I", Cond.fieldLink RX0 71 "QuietStairs$Term" "side" "I", Cond.fieldLink RX0 74 "QuietStairs$Term" "act" "I", Cond.fieldLink RX0 77 "QuietStairs$Term" "must" "Z"]
def wsX7_judged : List Cond := .code yX7_judged cX7_judged 3 (some .int) :: ((wsX7_judged_r1 ++ wsX7_judged_r2) ++ wsX70 ++ wsX10 ++ wsX00 ++ wsX60)
def wsX7_many_r1 : List Cond := [Cond.fieldLink RX7 12 "QuietStairs" "now" "LQuietStairs$House;", Cond.fieldLink RX7 41 "QuietStairs$House" "partyCount" "I", Cond.fieldLink RX7 56 "QuietStairs$House" "mediatorCount" "I", Cond.fieldLink RX7 83 "QuietStairs$House" "caseCount" "I", Cond.fieldLink RX7 108 "QuietStairs$House" "markCount" "I", Cond.methodLink RX7 214 yX1_countState, Cond.instanceMethod yX1_countState, Cond.selects RX1 yX1_countState yX1_countState, Cond.initialized RX1, Cond.code yX1_countState cX1_countState 4 (some .int), Cond.fieldLink RX1 66 "QuietStairs$House" "caseCount" "I", Cond.fieldLink RX1 25 "QuietStairs$House" "cases" "[LQuietStairs$Case;", Cond.fieldLink RX1 79 "QuietStairs$Case" "state" "I", Cond.methodLink RX7 217 yX1_countQuarrels, Cond.instanceMethod yX1_countQuarrels, Cond.selects RX1 yX1_countQuarrels yX1_countQuarrels, Cond.code yX1_countQuarrels cX1_countQuarrels 3 (some .int), Cond.methodLink RX1 76 yX1_headOfQuarrel, Cond.instanceMethod yX1_headOfQuarrel, Cond.selects RX1 yX1_headOfQuarrel yX1_headOfQuarrel, Cond.code yX1_headOfQuarrel cX1_headOfQuarrel 4 (some .int), Cond.methodLink RX1 72 yX1_quarrelBits, Cond.instanceMethod yX1_quarrelBits, Cond.selects RX1 yX1_quarrelBits yX1_quarrelBits]
def wsX7_many_r2 : List Cond := [Cond.code yX1_quarrelBits cX1_quarrelBits 5 (some .int), Cond.fieldLink RX1 69 "QuietStairs$Case" "markedBits" "I", Cond.static yX7_hasBit, Cond.initialized RX7, Cond.code yX7_hasBit cX7_hasBit 2 (some .boolean), Cond.methodLink RX7 221 yX1_countTerms, Cond.instanceMethod yX1_countTerms, Cond.selects RX1 yX1_countTerms yX1_countTerms, Cond.code yX1_countTerms cX1_countTerms 3 (some .int), Cond.fieldLink RX1 82 "QuietStairs$Case" "termCount" "I", Cond.methodLink RX7 224 yX1_countJudged, Cond.instanceMethod yX1_countJudged, Cond.selects RX1 yX1_countJudged yX1_countJudged, Cond.code yX1_countJudged cX1_countJudged 5 (some .int), Cond.methodLink RX1 85 yX0_judge, Cond.instanceMethod yX0_judge, Cond.selects RX0 yX0_judge yX0_judge, Cond.initialized RX0, Cond.code yX0_judge cX0_judge 6 (some .int), Cond.fieldLink RX0 28 "QuietStairs$Case" "terms" "[LQuietStairs$Term;", Cond.fieldLink RX0 65 "QuietStairs$Term" "first" "I", Cond.fieldLink RX0 68 "QuietStairs$Term" "last" "I", Cond.fieldLink RX0 23 "QuietStairs$Case" "logs" "[[I", Cond.fieldLink RX0 71 "QuietStairs$Term" "side" "I"]
def wsX7_many_r3 : List Cond := [Cond.fieldLink RX0 74 "QuietStairs$Term" "act" "I", Cond.fieldLink RX0 77 "QuietStairs$Term" "must" "Z"]
def wsX7_many : List Cond := .code yX7_many cX7_many 2 (some .int) :: ((wsX7_many_r1 ++ (wsX7_many_r2 ++ wsX7_many_r3)) ++ wsX70 ++ wsX10 ++ wsX00 ++ wsX60)
def wsX7_keep_r1 : List Cond := [Cond.fieldLink RX7 30 "QuietStairs" "kept" "LQuietStairs$House;", Cond.classLink RX7 9 RX1, Cond.instantiable RX1 7, Cond.initialized RX1, Cond.fieldLink RX7 12 "QuietStairs" "now" "LQuietStairs$House;", Cond.methodLink RX7 11 yX1_init, Cond.instanceMethod yX1_init, Cond.code yX1_init cX1_init 2 none, Cond.methodLink RX1 3 objectInit, Cond.instanceMethod objectInit, Cond.code objectInit ⟨#[0xb1]⟩ 1 none, Cond.classLink RX1 9 RX3, Cond.fieldLink RX1 11 "QuietStairs$House" "parties" "[LQuietStairs$Party;", Cond.classLink RX1 17 RX2, Cond.fieldLink RX1 19 "QuietStairs$House" "mediators" "[LQuietStairs$Mediator;", Cond.classLink RX1 23 RX0, Cond.fieldLink RX1 25 "QuietStairs$House" "cases" "[LQuietStairs$Case;", Cond.instantiable RX3 2, Cond.initialized RX3, Cond.instantiable RX2 3, Cond.initialized RX2, Cond.instantiable RX0 11, Cond.initialized RX0, Cond.instanceMethod yX3_init]
def wsX7_keep_r2 : List Cond := [Cond.code yX3_init cX3_init 1 none, Cond.methodLink RX3 1 objectInit, Cond.instanceMethod yX2_init, Cond.code yX2_init cX2_init 1 none, Cond.methodLink RX2 1 objectInit, Cond.methodLink RX1 31 yX0_init, Cond.instanceMethod yX0_init, Cond.code yX0_init cX0_init 2 none, Cond.methodLink RX0 3 objectInit, Cond.arrayClass .int, Cond.fieldLink RX0 9 "QuietStairs$Case" "parties" "[I", Cond.fieldLink RX0 15 "QuietStairs$Case" "box" "[I", Cond.classLink RX0 18 "[[I", Cond.fieldLink RX0 20 "QuietStairs$Case" "offers" "[[I", Cond.fieldLink RX0 23 "QuietStairs$Case" "logs" "[[I", Cond.classLink RX0 26 RX6, Cond.fieldLink RX0 28 "QuietStairs$Case" "terms" "[LQuietStairs$Term;", Cond.instantiable RX6 5, Cond.initialized RX6, Cond.instanceMethod yX6_init, Cond.code yX6_init cX6_init 1 none, Cond.methodLink RX6 1 objectInit, Cond.methodLink RX7 227 yX1_copyFrom, Cond.instanceMethod yX1_copyFrom]
def wsX7_keep_r3 : List Cond := [Cond.selects RX1 yX1_copyFrom yX1_copyFrom, Cond.code yX1_copyFrom cX1_copyFrom 3 none, Cond.fieldLink RX1 88 "QuietStairs$House" "partyCount" "I", Cond.fieldLink RX1 36 "QuietStairs$House" "mediatorCount" "I", Cond.fieldLink RX1 66 "QuietStairs$House" "caseCount" "I", Cond.fieldLink RX1 91 "QuietStairs$House" "markCount" "I", Cond.methodLink RX1 94 yX3_copyFrom, Cond.instanceMethod yX3_copyFrom, Cond.selects RX3 yX3_copyFrom yX3_copyFrom, Cond.code yX3_copyFrom cX3_copyFrom 2 none, Cond.fieldLink RX3 7 "QuietStairs$Party" "floor" "I", Cond.fieldLink RX3 13 "QuietStairs$Party" "tongue" "I", Cond.methodLink RX1 98 yX2_copyFrom, Cond.instanceMethod yX2_copyFrom, Cond.selects RX2 yX2_copyFrom yX2_copyFrom, Cond.code yX2_copyFrom cX2_copyFrom 2 none, Cond.fieldLink RX2 7 "QuietStairs$Mediator" "floor" "I", Cond.fieldLink RX2 13 "QuietStairs$Mediator" "tongues" "I", Cond.fieldLink RX2 16 "QuietStairs$Mediator" "kinBits" "I", Cond.methodLink RX1 101 yX0_copyFrom, Cond.instanceMethod yX0_copyFrom, Cond.selects RX0 yX0_copyFrom yX0_copyFrom, Cond.code yX0_copyFrom cX0_copyFrom 3 none, Cond.fieldLink RX0 33 "QuietStairs$Case" "state" "I"]
def wsX7_keep_r4 : List Cond := [Cond.fieldLink RX0 37 "QuietStairs$Case" "sum" "I", Cond.fieldLink RX0 40 "QuietStairs$Case" "roundsOver" "I", Cond.fieldLink RX0 43 "QuietStairs$Case" "weight" "I", Cond.fieldLink RX0 46 "QuietStairs$Case" "markedBits" "I", Cond.fieldLink RX0 49 "QuietStairs$Case" "termCount" "I", Cond.methodLink RX0 81 arraycopyName, Cond.native arraycopyName, Cond.static arraycopyName, Cond.initialized "java/lang/System", Cond.methodLink RX0 87 yX6_copyFrom, Cond.instanceMethod yX6_copyFrom, Cond.selects RX6 yX6_copyFrom yX6_copyFrom, Cond.code yX6_copyFrom cX6_copyFrom 2 none, Cond.fieldLink RX6 16 "QuietStairs$Term" "side" "I", Cond.fieldLink RX6 19 "QuietStairs$Term" "must" "Z", Cond.fieldLink RX6 23 "QuietStairs$Term" "act" "I", Cond.fieldLink RX6 13 "QuietStairs$Term" "first" "I", Cond.fieldLink RX6 7 "QuietStairs$Term" "last" "I"]
def wsX7_keep : List Cond := .code yX7_keep cX7_keep 1 (some .int) :: ((wsX7_keep_r1 ++ (wsX7_keep_r2 ++ (wsX7_keep_r3 ++ wsX7_keep_r4))) ++ wsX70 ++ wsX10 ++ wsX30 ++ wsX20 ++ wsX00 ++ wsX60)
def wsX7_back_r1 : List Cond := [Cond.fieldLink RX7 30 "QuietStairs" "kept" "LQuietStairs$House;", Cond.fieldLink RX7 12 "QuietStairs" "now" "LQuietStairs$House;", Cond.methodLink RX7 227 yX1_copyFrom, Cond.instanceMethod yX1_copyFrom, Cond.selects RX1 yX1_copyFrom yX1_copyFrom, Cond.initialized RX1, Cond.code yX1_copyFrom cX1_copyFrom 3 none, Cond.fieldLink RX1 88 "QuietStairs$House" "partyCount" "I", Cond.fieldLink RX1 36 "QuietStairs$House" "mediatorCount" "I", Cond.fieldLink RX1 66 "QuietStairs$House" "caseCount" "I", Cond.fieldLink RX1 91 "QuietStairs$House" "markCount" "I", Cond.fieldLink RX1 11 "QuietStairs$House" "parties" "[LQuietStairs$Party;", Cond.fieldLink RX1 19 "QuietStairs$House" "mediators" "[LQuietStairs$Mediator;", Cond.fieldLink RX1 25 "QuietStairs$House" "cases" "[LQuietStairs$Case;", Cond.methodLink RX1 94 yX3_copyFrom, Cond.instanceMethod yX3_copyFrom, Cond.selects RX3 yX3_copyFrom yX3_copyFrom, Cond.initialized RX3, Cond.code yX3_copyFrom cX3_copyFrom 2 none, Cond.fieldLink RX3 7 "QuietStairs$Party" "floor" "I", Cond.fieldLink RX3 13 "QuietStairs$Party" "tongue" "I", Cond.methodLink RX1 98 yX2_copyFrom, Cond.instanceMethod yX2_copyFrom, Cond.selects RX2 yX2_copyFrom yX2_copyFrom]
def wsX7_back_r2 : List Cond := [Cond.initialized RX2, Cond.code yX2_copyFrom cX2_copyFrom 2 none, Cond.fieldLink RX2 7 "QuietStairs$Mediator" "floor" "I", Cond.fieldLink RX2 13 "QuietStairs$Mediator" "tongues" "I", Cond.fieldLink RX2 16 "QuietStairs$Mediator" "kinBits" "I", Cond.methodLink RX1 101 yX0_copyFrom, Cond.instanceMethod yX0_copyFrom, Cond.selects RX0 yX0_copyFrom yX0_copyFrom, Cond.initialized RX0, Cond.code yX0_copyFrom cX0_copyFrom 3 none, Cond.fieldLink RX0 33 "QuietStairs$Case" "state" "I", Cond.fieldLink RX0 37 "QuietStairs$Case" "sum" "I", Cond.fieldLink RX0 40 "QuietStairs$Case" "roundsOver" "I", Cond.fieldLink RX0 43 "QuietStairs$Case" "weight" "I", Cond.fieldLink RX0 46 "QuietStairs$Case" "markedBits" "I", Cond.fieldLink RX0 49 "QuietStairs$Case" "termCount" "I", Cond.fieldLink RX0 9 "QuietStairs$Case" "parties" "[I", Cond.fieldLink RX0 15 "QuietStairs$Case" "box" "[I", Cond.fieldLink RX0 20 "QuietStairs$Case" "offers" "[[I", Cond.methodLink RX0 81 arraycopyName, Cond.native arraycopyName, Cond.static arraycopyName, Cond.initialized "java/lang/System", Cond.fieldLink RX0 23 "QuietStairs$Case" "logs" "[[I"]
def wsX7_back_r3 : List Cond := [Cond.fieldLink RX0 28 "QuietStairs$Case" "terms" "[LQuietStairs$Term;", Cond.methodLink RX0 87 yX6_copyFrom, Cond.instanceMethod yX6_copyFrom, Cond.selects RX6 yX6_copyFrom yX6_copyFrom, Cond.initialized RX6, Cond.code yX6_copyFrom cX6_copyFrom 2 none, Cond.fieldLink RX6 16 "QuietStairs$Term" "side" "I", Cond.fieldLink RX6 19 "QuietStairs$Term" "must" "Z", Cond.fieldLink RX6 23 "QuietStairs$Term" "act" "I", Cond.fieldLink RX6 13 "QuietStairs$Term" "first" "I", Cond.fieldLink RX6 7 "QuietStairs$Term" "last" "I"]
def wsX7_back : List Cond := .code yX7_back cX7_back 1 (some .int) :: ((wsX7_back_r1 ++ (wsX7_back_r2 ++ wsX7_back_r3)) ++ wsX70 ++ wsX10 ++ wsX30 ++ wsX20 ++ wsX00 ++ wsX60)
def wsX8_init : List Cond := .code yX8_init cX8_init 1 none :: ([.methodLink RX8 1 objectInit, .instanceMethod objectInit, .code objectInit ⟨#[0xb1]⟩ 1 none, .arrayClass .int, .fieldLink RX8 7 "QuietStairsModel" "s" "[I", .fieldLink RX8 13 "QuietStairsModel" "kept" "[I", .fieldLink RX8 16 "QuietStairsModel" "rooms" "I", .fieldLink RX8 20 "QuietStairsModel" "headOf" "[I", .fieldLink RX8 23 "QuietStairsModel" "planned" "[I", .fieldLink RX8 26 "QuietStairsModel" "tried" "[I", .fieldLink RX8 29 "QuietStairsModel" "best" "[I", .fieldLink RX8 32 "QuietStairsModel" "hours" "[I"] ++ wsX80)
def wsX8_in : List Cond := .code yX8_in cX8_in 3 (some .boolean) :: ([])
def wsX8_isParty : List Cond := .code yX8_isParty cX8_isParty 2 (some .boolean) :: ([.fieldLink RX8 7 "QuietStairsModel" "s" "[I", .methodLink RX8 35 yX8_in, .static yX8_in, .initialized RX8, .code yX8_in cX8_in 3 (some .boolean)] ++ wsX80)
def wsX8_isMediator : List Cond := .code yX8_isMediator cX8_isMediator 2 (some .boolean) :: ([.fieldLink RX8 7 "QuietStairsModel" "s" "[I", .methodLink RX8 35 yX8_in, .static yX8_in, .initialized RX8, .code yX8_in cX8_in 3 (some .boolean)] ++ wsX80)
def wsX8_isCase : List Cond := .code yX8_isCase cX8_isCase 2 (some .boolean) :: ([.fieldLink RX8 7 "QuietStairsModel" "s" "[I", .methodLink RX8 35 yX8_in, .static yX8_in, .initialized RX8, .code yX8_in cX8_in 3 (some .boolean)] ++ wsX80)
def wsX8_isSide : List Cond := .code yX8_isSide cX8_isSide 1 (some .boolean) :: ([.methodLink RX8 35 yX8_in, .static yX8_in, .initialized RX8, .code yX8_in cX8_in 3 (some .boolean)])
def wsX8_at : List Cond := .code yX8_at cX8_at 2 (some .int) :: ([])
def wsX8_party : List Cond := .code yX8_party cX8_party 5 (some .int) :: ([.fieldLink RX8 7 "QuietStairsModel" "s" "[I", .methodLink RX8 35 yX8_in, .static yX8_in, .initialized RX8, .code yX8_in cX8_in 3 (some .boolean)] ++ wsX80)
def wsX8_mediator : List Cond := .code yX8_mediator cX8_mediator 4 (some .int) :: ([.fieldLink RX8 7 "QuietStairsModel" "s" "[I", .methodLink RX8 35 yX8_in, .static yX8_in, .initialized RX8, .code yX8_in cX8_in 3 (some .boolean)] ++ wsX80)
def wsX8_kin : List Cond := .code yX8_kin cX8_kin 5 (some .int) :: ([.fieldLink RX8 7 "QuietStairsModel" "s" "[I", .methodLink RX8 39 yX8_isMediator, .instanceMethod yX8_isMediator, .selects RX8 yX8_isMediator yX8_isMediator, .initialized RX8, .code yX8_isMediator cX8_isMediator 2 (some .boolean), .methodLink RX8 35 yX8_in, .static yX8_in, .code yX8_in cX8_in 3 (some .boolean), .methodLink RX8 43 yX8_isParty, .instanceMethod yX8_isParty, .selects RX8 yX8_isParty yX8_isParty, .code yX8_isParty cX8_isParty 2 (some .boolean)] ++ wsX80)
def wsX8_open : List Cond := .code yX8_open cX8_open 5 (some .int) :: ([.fieldLink RX8 7 "QuietStairsModel" "s" "[I", .methodLink RX8 43 yX8_isParty, .instanceMethod yX8_isParty, .selects RX8 yX8_isParty yX8_isParty, .initialized RX8, .code yX8_isParty cX8_isParty 2 (some .boolean), .methodLink RX8 35 yX8_in, .static yX8_in, .code yX8_in cX8_in 3 (some .boolean), .methodLink RX8 46 yX8_at, .static yX8_at, .code yX8_at cX8_at 2 (some .int)] ++ wsX80)
def wsX8_close : List Cond := .code yX8_close cX8_close 2 (some .int) :: ([.fieldLink RX8 7 "QuietStairsModel" "s" "[I", .methodLink RX8 50 yX8_isCase, .instanceMethod yX8_isCase, .selects RX8 yX8_isCase yX8_isCase, .initialized RX8, .code yX8_isCase cX8_isCase 2 (some .boolean), .methodLink RX8 35 yX8_in, .static yX8_in, .code yX8_in cX8_in 3 (some .boolean), .methodLink RX8 46 yX8_at, .static yX8_at, .code yX8_at cX8_at 2 (some .int)] ++ wsX80)
def wsX8_weight : List Cond := .code yX8_weight cX8_weight 4 (some .int) :: ([.fieldLink RX8 7 "QuietStairsModel" "s" "[I", .methodLink RX8 50 yX8_isCase, .instanceMethod yX8_isCase, .selects RX8 yX8_isCase yX8_isCase, .initialized RX8, .code yX8_isCase cX8_isCase 2 (some .boolean), .methodLink RX8 35 yX8_in, .static yX8_in, .code yX8_in cX8_in 3 (some .boolean), .methodLink RX8 46 yX8_at, .static yX8_at, .code yX8_at cX8_at 2 (some .int)] ++ wsX80)
def wsX8_mark : List Cond := .code yX8_mark cX8_mark 6 (some .int) :: ([.fieldLink RX8 7 "QuietStairsModel" "s" "[I", .methodLink RX8 50 yX8_isCase, .instanceMethod yX8_isCase, .selects RX8 yX8_isCase yX8_isCase, .initialized RX8, .code yX8_isCase cX8_isCase 2 (some .boolean), .methodLink RX8 35 yX8_in, .static yX8_in, .code yX8_in cX8_in 3 (some .boolean)] ++ wsX80)
def wsX8_findHeads : List Cond := .code yX8_findHeads cX8_findHeads 6 none :: ([.fieldLink RX8 7 "QuietStairsModel" "s" "[I", .fieldLink RX8 20 "QuietStairsModel" "headOf" "[I"] ++ wsX80)
def wsX8_joined : List Cond := .code yX8_joined cX8_joined 4 (some .int) :: ([.fieldLink RX8 7 "QuietStairsModel" "s" "[I", .fieldLink RX8 20 "QuietStairsModel" "headOf" "[I"] ++ wsX80)
def wsX8_of : List Cond := .code yX8_of cX8_of 3 (some .int) :: ([.fieldLink RX8 20 "QuietStairsModel" "headOf" "[I", .fieldLink RX8 7 "QuietStairsModel" "s" "[I", .methodLink RX8 50 yX8_isCase, .instanceMethod yX8_isCase, .selects RX8 yX8_isCase yX8_isCase, .initialized RX8, .code yX8_isCase cX8_isCase 2 (some .boolean), .methodLink RX8 35 yX8_in, .static yX8_in, .code yX8_in cX8_in 3 (some .boolean), .methodLink RX8 53 yX8_findHeads, .instanceMethod yX8_findHeads, .selects RX8 yX8_findHeads yX8_findHeads, .code yX8_findHeads cX8_findHeads 6 none, .methodLink RX8 56 yX8_joined, .instanceMethod yX8_joined, .selects RX8 yX8_joined yX8_joined, .code yX8_joined cX8_joined 4 (some .int), .methodLink RX8 46 yX8_at, .static yX8_at, .code yX8_at cX8_at 2 (some .int)] ++ wsX80)
def wsX8_offer : List Cond := .code yX8_offer cX8_offer 7 (some .int) :: ([.fieldLink RX8 7 "QuietStairsModel" "s" "[I", .methodLink RX8 50 yX8_isCase, .instanceMethod yX8_isCase, .selects RX8 yX8_isCase yX8_isCase, .initialized RX8, .code yX8_isCase cX8_isCase 2 (some .boolean), .methodLink RX8 35 yX8_in, .static yX8_in, .code yX8_in cX8_in 3 (some .boolean), .methodLink RX8 60 yX8_isSide, .static yX8_isSide, .code yX8_isSide cX8_isSide 1 (some .boolean), .methodLink RX8 46 yX8_at, .static yX8_at, .code yX8_at cX8_at 2 (some .int)] ++ wsX80)
def wsX8_put : List Cond := .code yX8_put cX8_put 3 (some .int) :: ([.fieldLink RX8 7 "QuietStairsModel" "s" "[I", .methodLink RX8 50 yX8_isCase, .instanceMethod yX8_isCase, .selects RX8 yX8_isCase yX8_isCase, .initialized RX8, .code yX8_isCase cX8_isCase 2 (some .boolean), .methodLink RX8 35 yX8_in, .static yX8_in, .code yX8_in cX8_in 3 (some .boolean), .methodLink RX8 60 yX8_isSide, .static yX8_isSide, .code yX8_isSide cX8_isSide 1 (some .boolean)] ++ wsX80)
def wsX8_learns : List Cond := .code yX8_learns cX8_learns 14 (some .int) :: ([.fieldLink RX8 7 "QuietStairsModel" "s" "[I", .methodLink RX8 50 yX8_isCase, .instanceMethod yX8_isCase, .selects RX8 yX8_isCase yX8_isCase, .initialized RX8, .code yX8_isCase cX8_isCase 2 (some .boolean), .methodLink RX8 35 yX8_in, .static yX8_in, .code yX8_in cX8_in 3 (some .boolean), .methodLink RX8 60 yX8_isSide, .static yX8_isSide, .code yX8_isSide cX8_isSide 1 (some .boolean), .methodLink RX8 46 yX8_at, .static yX8_at, .code yX8_at cX8_at 2 (some .int)] ++ wsX80)
def wsX8_oneOf : List Cond := .code yX8_oneOf cX8_oneOf 1 (some .int) :: ([])
def wsX8_otherOf : List Cond := .code yX8_otherOf cX8_otherOf 1 (some .int) :: ([])
def wsX8_isPair : List Cond := .code yX8_isPair cX8_isPair 2 (some .boolean) :: ([.methodLink RX8 35 yX8_in, .static yX8_in, .initialized RX8, .code yX8_in cX8_in 3 (some .boolean), .methodLink RX8 63 yX8_otherOf, .static yX8_otherOf, .code yX8_otherOf cX8_otherOf 1 (some .int), .methodLink RX8 39 yX8_isMediator, .instanceMethod yX8_isMediator, .selects RX8 yX8_isMediator yX8_isMediator, .code yX8_isMediator cX8_isMediator 2 (some .boolean), .fieldLink RX8 7 "QuietStairsModel" "s" "[I"] ++ wsX80)
def wsX8_mayMeet : List Cond := .code yX8_mayMeet cX8_mayMeet 3 (some .boolean) :: ([.fieldLink RX8 7 "QuietStairsModel" "s" "[I"] ++ wsX80)
def wsX8_may : List Cond := .code yX8_may cX8_may 9 (some .boolean) :: ([.fieldLink RX8 7 "QuietStairsModel" "s" "[I", .methodLink RX8 66 yX8_oneOf, .static yX8_oneOf, .initialized RX8, .code yX8_oneOf cX8_oneOf 1 (some .int), .methodLink RX8 63 yX8_otherOf, .static yX8_otherOf, .code yX8_otherOf cX8_otherOf 1 (some .int), .methodLink RX8 46 yX8_at, .static yX8_at, .code yX8_at cX8_at 2 (some .int), .methodLink RX8 69 yX8_mayMeet, .instanceMethod yX8_mayMeet, .selects RX8 yX8_mayMeet yX8_mayMeet, .code yX8_mayMeet cX8_mayMeet 3 (some .boolean)] ++ wsX80)
def wsX8_maySit_r1 : List Cond := [Cond.methodLink RX8 73 yX8_isPair, Cond.instanceMethod yX8_isPair, Cond.selects RX8 yX8_isPair yX8_isPair, Cond.initialized RX8, Cond.code yX8_isPair cX8_isPair 2 (some .boolean), Cond.methodLink RX8 35 yX8_in, Cond.static yX8_in, Cond.code yX8_in cX8_in 3 (some .boolean), Cond.methodLink RX8 63 yX8_otherOf, Cond.static yX8_otherOf, Cond.code yX8_otherOf cX8_otherOf 1 (some .int), Cond.methodLink RX8 39 yX8_isMediator, Cond.instanceMethod yX8_isMediator, Cond.selects RX8 yX8_isMediator yX8_isMediator, Cond.code yX8_isMediator cX8_isMediator 2 (some .boolean), Cond.fieldLink RX8 7 "QuietStairsModel" "s" "[I", Cond.methodLink RX8 50 yX8_isCase, Cond.instanceMethod yX8_isCase, Cond.selects RX8 yX8_isCase yX8_isCase, Cond.code yX8_isCase cX8_isCase 2 (some .boolean), Cond.methodLink RX8 76 yX8_may, Cond.instanceMethod yX8_may, Cond.selects RX8 yX8_may yX8_may, Cond.code yX8_may cX8_may 9 (some .boolean)]
def wsX8_maySit_r2 : List Cond := [Cond.methodLink RX8 66 yX8_oneOf, Cond.static yX8_oneOf, Cond.code yX8_oneOf cX8_oneOf 1 (some .int), Cond.methodLink RX8 46 yX8_at, Cond.static yX8_at, Cond.code yX8_at cX8_at 2 (some .int), Cond.methodLink RX8 69 yX8_mayMeet, Cond.instanceMethod yX8_mayMeet, Cond.selects RX8 yX8_mayMeet yX8_mayMeet, Cond.code yX8_mayMeet cX8_mayMeet 3 (some .boolean)]
def wsX8_maySit : List Cond := .code yX8_maySit cX8_maySit 3 (some .int) :: ((wsX8_maySit_r1 ++ wsX8_maySit_r2) ++ wsX80)
def wsX8_rooms : List Cond := .code yX8_rooms cX8_rooms 3 (some .int) :: ([.fieldLink RX8 16 "QuietStairsModel" "rooms" "I", .methodLink RX8 35 yX8_in, .static yX8_in, .initialized RX8, .code yX8_in cX8_in 3 (some .boolean)] ++ wsX80)
def wsX8_fits_r1 : List Cond := [Cond.fieldLink RX8 26 "QuietStairsModel" "tried" "[I", Cond.fieldLink RX8 23 "QuietStairsModel" "planned" "[I", Cond.fieldLink RX8 16 "QuietStairsModel" "rooms" "I", Cond.methodLink RX8 73 yX8_isPair, Cond.instanceMethod yX8_isPair, Cond.selects RX8 yX8_isPair yX8_isPair, Cond.initialized RX8, Cond.code yX8_isPair cX8_isPair 2 (some .boolean), Cond.methodLink RX8 35 yX8_in, Cond.static yX8_in, Cond.code yX8_in cX8_in 3 (some .boolean), Cond.methodLink RX8 63 yX8_otherOf, Cond.static yX8_otherOf, Cond.code yX8_otherOf cX8_otherOf 1 (some .int), Cond.methodLink RX8 39 yX8_isMediator, Cond.instanceMethod yX8_isMediator, Cond.selects RX8 yX8_isMediator yX8_isMediator, Cond.code yX8_isMediator cX8_isMediator 2 (some .boolean), Cond.fieldLink RX8 7 "QuietStairsModel" "s" "[I", Cond.methodLink RX8 76 yX8_may, Cond.instanceMethod yX8_may, Cond.selects RX8 yX8_may yX8_may, Cond.code yX8_may cX8_may 9 (some .boolean), Cond.methodLink RX8 66 yX8_oneOf]
def wsX8_fits_r2 : List Cond := [Cond.static yX8_oneOf, Cond.code yX8_oneOf cX8_oneOf 1 (some .int), Cond.methodLink RX8 46 yX8_at, Cond.static yX8_at, Cond.code yX8_at cX8_at 2 (some .int), Cond.methodLink RX8 69 yX8_mayMeet, Cond.instanceMethod yX8_mayMeet, Cond.selects RX8 yX8_mayMeet yX8_mayMeet, Cond.code yX8_mayMeet cX8_mayMeet 3 (some .boolean)]
def wsX8_fits : List Cond := .code yX8_fits cX8_fits 8 (some .boolean) :: ((wsX8_fits_r1 ++ wsX8_fits_r2) ++ wsX80)
def wsX8_waitsOf : List Cond := .code yX8_waitsOf cX8_waitsOf 4 (some .int) :: ([.fieldLink RX8 7 "QuietStairsModel" "s" "[I", .fieldLink RX8 23 "QuietStairsModel" "planned" "[I", .fieldLink RX8 26 "QuietStairsModel" "tried" "[I", .methodLink RX8 46 yX8_at, .static yX8_at, .initialized RX8, .code yX8_at cX8_at 2 (some .int)] ++ wsX80)
def wsX8_note : List Cond := .code yX8_note cX8_note 3 none :: ([.fieldLink RX8 79 "QuietStairsModel" "many" "I", .fieldLink RX8 85 "QuietStairsModel" "least" "I", .fieldLink RX8 29 "QuietStairsModel" "best" "[I", .fieldLink RX8 26 "QuietStairsModel" "tried" "[I", .methodLink RX8 82 yX8_waitsOf, .instanceMethod yX8_waitsOf, .selects RX8 yX8_waitsOf yX8_waitsOf, .initialized RX8, .code yX8_waitsOf cX8_waitsOf 4 (some .int), .fieldLink RX8 7 "QuietStairsModel" "s" "[I", .fieldLink RX8 23 "QuietStairsModel" "planned" "[I", .methodLink RX8 46 yX8_at, .static yX8_at, .code yX8_at cX8_at 2 (some .int)] ++ wsX80)
def wsX8_makePlan_r1 : List Cond := [Cond.fieldLink RX8 79 "QuietStairsModel" "many" "I", Cond.fieldLink RX8 7 "QuietStairsModel" "s" "[I", Cond.fieldLink RX8 23 "QuietStairsModel" "planned" "[I", Cond.constant RX8 88 (1000000), Cond.fieldLink RX8 85 "QuietStairsModel" "least" "I", Cond.fieldLink RX8 26 "QuietStairsModel" "tried" "[I", Cond.methodLink RX8 46 yX8_at, Cond.static yX8_at, Cond.initialized RX8, Cond.code yX8_at cX8_at 2 (some .int), Cond.methodLink RX8 89 yX8_note, Cond.instanceMethod yX8_note, Cond.selects RX8 yX8_note yX8_note, Cond.code yX8_note cX8_note 3 none, Cond.fieldLink RX8 29 "QuietStairsModel" "best" "[I", Cond.methodLink RX8 82 yX8_waitsOf, Cond.instanceMethod yX8_waitsOf, Cond.selects RX8 yX8_waitsOf yX8_waitsOf, Cond.code yX8_waitsOf cX8_waitsOf 4 (some .int), Cond.methodLink RX8 92 yX8_fits, Cond.instanceMethod yX8_fits, Cond.selects RX8 yX8_fits yX8_fits, Cond.code yX8_fits cX8_fits 8 (some .boolean), Cond.fieldLink RX8 16 "QuietStairsModel" "rooms" "I"]
def wsX8_makePlan_r2 : List Cond := [Cond.methodLink RX8 73 yX8_isPair, Cond.instanceMethod yX8_isPair, Cond.selects RX8 yX8_isPair yX8_isPair, Cond.code yX8_isPair cX8_isPair 2 (some .boolean), Cond.methodLink RX8 35 yX8_in, Cond.static yX8_in, Cond.code yX8_in cX8_in 3 (some .boolean), Cond.methodLink RX8 63 yX8_otherOf, Cond.static yX8_otherOf, Cond.code yX8_otherOf cX8_otherOf 1 (some .int), Cond.methodLink RX8 39 yX8_isMediator, Cond.instanceMethod yX8_isMediator, Cond.selects RX8 yX8_isMediator yX8_isMediator, Cond.code yX8_isMediator cX8_isMediator 2 (some .boolean), Cond.methodLink RX8 76 yX8_may, Cond.instanceMethod yX8_may, Cond.selects RX8 yX8_may yX8_may, Cond.code yX8_may cX8_may 9 (some .boolean), Cond.methodLink RX8 66 yX8_oneOf, Cond.static yX8_oneOf, Cond.code yX8_oneOf cX8_oneOf 1 (some .int), Cond.methodLink RX8 69 yX8_mayMeet, Cond.instanceMethod yX8_mayMeet, Cond.selects RX8 yX8_mayMeet yX8_mayMeet]
def wsX8_makePlan_r3 : List Cond := [Cond.code yX8_mayMeet cX8_mayMeet 3 (some .boolean)]
def wsX8_makePlan : List Cond := .code yX8_makePlan cX8_makePlan 2 none :: ((wsX8_makePlan_r1 ++ (wsX8_makePlan_r2 ++ wsX8_makePlan_r3)) ++ wsX80)
def wsX8_plan_r1 : List Cond := [Cond.fieldLink RX8 7 "QuietStairsModel" "s" "[I", Cond.fieldLink RX8 79 "QuietStairsModel" "many" "I", Cond.fieldLink RX8 23 "QuietStairsModel" "planned" "[I", Cond.fieldLink RX8 29 "QuietStairsModel" "best" "[I", Cond.methodLink RX8 50 yX8_isCase, Cond.instanceMethod yX8_isCase, Cond.selects RX8 yX8_isCase yX8_isCase, Cond.initialized RX8, Cond.code yX8_isCase cX8_isCase 2 (some .boolean), Cond.methodLink RX8 35 yX8_in, Cond.static yX8_in, Cond.code yX8_in cX8_in 3 (some .boolean), Cond.methodLink RX8 46 yX8_at, Cond.static yX8_at, Cond.code yX8_at cX8_at 2 (some .int), Cond.methodLink RX8 95 yX8_makePlan, Cond.instanceMethod yX8_makePlan, Cond.selects RX8 yX8_makePlan yX8_makePlan, Cond.code yX8_makePlan cX8_makePlan 2 none, Cond.constant RX8 88 (1000000), Cond.fieldLink RX8 85 "QuietStairsModel" "least" "I", Cond.fieldLink RX8 26 "QuietStairsModel" "tried" "[I", Cond.methodLink RX8 89 yX8_note, Cond.instanceMethod yX8_note]
def wsX8_plan_r2 : List Cond := [Cond.selects RX8 yX8_note yX8_note, Cond.code yX8_note cX8_note 3 none, Cond.methodLink RX8 82 yX8_waitsOf, Cond.instanceMethod yX8_waitsOf, Cond.selects RX8 yX8_waitsOf yX8_waitsOf, Cond.code yX8_waitsOf cX8_waitsOf 4 (some .int), Cond.methodLink RX8 92 yX8_fits, Cond.instanceMethod yX8_fits, Cond.selects RX8 yX8_fits yX8_fits, Cond.code yX8_fits cX8_fits 8 (some .boolean), Cond.fieldLink RX8 16 "QuietStairsModel" "rooms" "I", Cond.methodLink RX8 73 yX8_isPair, Cond.instanceMethod yX8_isPair, Cond.selects RX8 yX8_isPair yX8_isPair, Cond.code yX8_isPair cX8_isPair 2 (some .boolean), Cond.methodLink RX8 63 yX8_otherOf, Cond.static yX8_otherOf, Cond.code yX8_otherOf cX8_otherOf 1 (some .int), Cond.methodLink RX8 39 yX8_isMediator, Cond.instanceMethod yX8_isMediator, Cond.selects RX8 yX8_isMediator yX8_isMediator, Cond.code yX8_isMediator cX8_isMediator 2 (some .boolean), Cond.methodLink RX8 76 yX8_may, Cond.instanceMethod yX8_may]
def wsX8_plan_r3 : List Cond := [Cond.selects RX8 yX8_may yX8_may, Cond.code yX8_may cX8_may 9 (some .boolean), Cond.methodLink RX8 66 yX8_oneOf, Cond.static yX8_oneOf, Cond.code yX8_oneOf cX8_oneOf 1 (some .int), Cond.methodLink RX8 69 yX8_mayMeet, Cond.instanceMethod yX8_mayMeet, Cond.selects RX8 yX8_mayMeet yX8_mayMeet, Cond.code yX8_mayMeet cX8_mayMeet 3 (some .boolean)]
def wsX8_plan : List Cond := .code yX8_plan cX8_plan 3 (some .int) :: ((wsX8_plan_r1 ++ (wsX8_plan_r2 ++ wsX8_plan_r3)) ++ wsX80)
def wsX8_waits_r1 : List Cond := [Cond.fieldLink RX8 85 "QuietStairsModel" "least" "I", Cond.methodLink RX8 95 yX8_makePlan, Cond.instanceMethod yX8_makePlan, Cond.selects RX8 yX8_makePlan yX8_makePlan, Cond.initialized RX8, Cond.code yX8_makePlan cX8_makePlan 2 none, Cond.fieldLink RX8 79 "QuietStairsModel" "many" "I", Cond.fieldLink RX8 7 "QuietStairsModel" "s" "[I", Cond.fieldLink RX8 23 "QuietStairsModel" "planned" "[I", Cond.constant RX8 88 (1000000), Cond.fieldLink RX8 26 "QuietStairsModel" "tried" "[I", Cond.methodLink RX8 46 yX8_at, Cond.static yX8_at, Cond.code yX8_at cX8_at 2 (some .int), Cond.methodLink RX8 89 yX8_note, Cond.instanceMethod yX8_note, Cond.selects RX8 yX8_note yX8_note, Cond.code yX8_note cX8_note 3 none, Cond.fieldLink RX8 29 "QuietStairsModel" "best" "[I", Cond.methodLink RX8 82 yX8_waitsOf, Cond.instanceMethod yX8_waitsOf, Cond.selects RX8 yX8_waitsOf yX8_waitsOf, Cond.code yX8_waitsOf cX8_waitsOf 4 (some .int), Cond.methodLink RX8 92 yX8_fits]
def wsX8_waits_r2 : List Cond := [Cond.instanceMethod yX8_fits, Cond.selects RX8 yX8_fits yX8_fits, Cond.code yX8_fits cX8_fits 8 (some .boolean), Cond.fieldLink RX8 16 "QuietStairsModel" "rooms" "I", Cond.methodLink RX8 73 yX8_isPair, Cond.instanceMethod yX8_isPair, Cond.selects RX8 yX8_isPair yX8_isPair, Cond.code yX8_isPair cX8_isPair 2 (some .boolean), Cond.methodLink RX8 35 yX8_in, Cond.static yX8_in, Cond.code yX8_in cX8_in 3 (some .boolean), Cond.methodLink RX8 63 yX8_otherOf, Cond.static yX8_otherOf, Cond.code yX8_otherOf cX8_otherOf 1 (some .int), Cond.methodLink RX8 39 yX8_isMediator, Cond.instanceMethod yX8_isMediator, Cond.selects RX8 yX8_isMediator yX8_isMediator, Cond.code yX8_isMediator cX8_isMediator 2 (some .boolean), Cond.methodLink RX8 76 yX8_may, Cond.instanceMethod yX8_may, Cond.selects RX8 yX8_may yX8_may, Cond.code yX8_may cX8_may 9 (some .boolean), Cond.methodLink RX8 66 yX8_oneOf, Cond.static yX8_oneOf]
def wsX8_waits_r3 : List Cond := [Cond.code yX8_oneOf cX8_oneOf 1 (some .int), Cond.methodLink RX8 69 yX8_mayMeet, Cond.instanceMethod yX8_mayMeet, Cond.selects RX8 yX8_mayMeet yX8_mayMeet, Cond.code yX8_mayMeet cX8_mayMeet 3 (some .boolean)]
def wsX8_waits : List Cond := .code yX8_waits cX8_waits 1 (some .int) :: ((wsX8_waits_r1 ++ (wsX8_waits_r2 ++ wsX8_waits_r3)) ++ wsX80)
def wsX8_termAt : List Cond := .code yX8_termAt cX8_termAt 2 (some .int) :: ([])
def wsX8_isTerm : List Cond := .code yX8_isTerm cX8_isTerm 3 (some .boolean) :: ([.fieldLink RX8 7 "QuietStairsModel" "s" "[I", .methodLink RX8 50 yX8_isCase, .instanceMethod yX8_isCase, .selects RX8 yX8_isCase yX8_isCase, .initialized RX8, .code yX8_isCase cX8_isCase 2 (some .boolean), .methodLink RX8 35 yX8_in, .static yX8_in, .code yX8_in cX8_in 3 (some .boolean), .methodLink RX8 46 yX8_at, .static yX8_at, .code yX8_at cX8_at 2 (some .int)] ++ wsX80)
def wsX8_term : List Cond := .code yX8_term cX8_term 8 (some .int) :: ([.fieldLink RX8 7 "QuietStairsModel" "s" "[I", .methodLink RX8 50 yX8_isCase, .instanceMethod yX8_isCase, .selects RX8 yX8_isCase yX8_isCase, .initialized RX8, .code yX8_isCase cX8_isCase 2 (some .boolean), .methodLink RX8 35 yX8_in, .static yX8_in, .code yX8_in cX8_in 3 (some .boolean), .methodLink RX8 60 yX8_isSide, .static yX8_isSide, .code yX8_isSide cX8_isSide 1 (some .boolean), .methodLink RX8 46 yX8_at, .static yX8_at, .code yX8_at cX8_at 2 (some .int), .methodLink RX8 98 yX8_termAt, .static yX8_termAt, .code yX8_termAt cX8_termAt 2 (some .int)] ++ wsX80)
def wsX8_strike : List Cond := .code yX8_strike cX8_strike 2 (some .int) :: ([.fieldLink RX8 7 "QuietStairsModel" "s" "[I", .methodLink RX8 50 yX8_isCase, .instanceMethod yX8_isCase, .selects RX8 yX8_isCase yX8_isCase, .initialized RX8, .code yX8_isCase cX8_isCase 2 (some .boolean), .methodLink RX8 35 yX8_in, .static yX8_in, .code yX8_in cX8_in 3 (some .boolean), .methodLink RX8 46 yX8_at, .static yX8_at, .code yX8_at cX8_at 2 (some .int)] ++ wsX80)
def wsX8_termOf : List Cond := .code yX8_termOf cX8_termOf 4 (some .int) :: ([.fieldLink RX8 7 "QuietStairsModel" "s" "[I", .methodLink RX8 101 yX8_isTerm, .instanceMethod yX8_isTerm, .selects RX8 yX8_isTerm yX8_isTerm, .initialized RX8, .code yX8_isTerm cX8_isTerm 3 (some .boolean), .methodLink RX8 50 yX8_isCase, .instanceMethod yX8_isCase, .selects RX8 yX8_isCase yX8_isCase, .code yX8_isCase cX8_isCase 2 (some .boolean), .methodLink RX8 35 yX8_in, .static yX8_in, .code yX8_in cX8_in 3 (some .boolean), .methodLink RX8 46 yX8_at, .static yX8_at, .code yX8_at cX8_at 2 (some .int), .methodLink RX8 98 yX8_termAt, .static yX8_termAt, .code yX8_termAt cX8_termAt 2 (some .int)] ++ wsX80)
def wsX8_isOwn : List Cond := .code yX8_isOwn cX8_isOwn 4 (some .boolean) :: ([.fieldLink RX8 7 "QuietStairsModel" "s" "[I", .methodLink RX8 98 yX8_termAt, .static yX8_termAt, .initialized RX8, .code yX8_termAt cX8_termAt 2 (some .int)] ++ wsX80)
def wsX8_mayBe : List Cond := .code yX8_mayBe cX8_mayBe 9 (some .boolean) :: ([.fieldLink RX8 7 "QuietStairsModel" "s" "[I", .fieldLink RX8 32 "QuietStairsModel" "hours" "[I", .methodLink RX8 98 yX8_termAt, .static yX8_termAt, .initialized RX8, .code yX8_termAt cX8_termAt 2 (some .int), .methodLink RX8 35 yX8_in, .static yX8_in, .code yX8_in cX8_in 3 (some .boolean)] ++ wsX80)
def wsX8_hourFrom : List Cond := .code yX8_hourFrom cX8_hourFrom 6 (some .int) :: ([.fieldLink RX8 32 "QuietStairsModel" "hours" "[I", .fieldLink RX8 7 "QuietStairsModel" "s" "[I", .methodLink RX8 98 yX8_termAt, .static yX8_termAt, .initialized RX8, .code yX8_termAt cX8_termAt 2 (some .int), .methodLink RX8 104 yX8_mayBe, .instanceMethod yX8_mayBe, .selects RX8 yX8_mayBe yX8_mayBe, .code yX8_mayBe cX8_mayBe 9 (some .boolean), .methodLink RX8 35 yX8_in, .static yX8_in, .code yX8_in cX8_in 3 (some .boolean)] ++ wsX80)
def wsX8_next : List Cond := .code yX8_next cX8_next 7 (some .int) :: ([.methodLink RX8 35 yX8_in, .static yX8_in, .initialized RX8, .code yX8_in cX8_in 3 (some .boolean), .methodLink RX8 108 yX8_isOwn, .instanceMethod yX8_isOwn, .selects RX8 yX8_isOwn yX8_isOwn, .code yX8_isOwn cX8_isOwn 4 (some .boolean), .fieldLink RX8 7 "QuietStairsModel" "s" "[I", .methodLink RX8 98 yX8_termAt, .static yX8_termAt, .code yX8_termAt cX8_termAt 2 (some .int)] ++ wsX80)
def wsX8_makeTable_r1 : List Cond := [Cond.fieldLink RX8 7 "QuietStairsModel" "s" "[I", Cond.fieldLink RX8 32 "QuietStairsModel" "hours" "[I", Cond.methodLink RX8 111 yX8_next, Cond.instanceMethod yX8_next, Cond.selects RX8 yX8_next yX8_next, Cond.initialized RX8, Cond.code yX8_next cX8_next 7 (some .int), Cond.methodLink RX8 35 yX8_in, Cond.static yX8_in, Cond.code yX8_in cX8_in 3 (some .boolean), Cond.methodLink RX8 108 yX8_isOwn, Cond.instanceMethod yX8_isOwn, Cond.selects RX8 yX8_isOwn yX8_isOwn, Cond.code yX8_isOwn cX8_isOwn 4 (some .boolean), Cond.methodLink RX8 98 yX8_termAt, Cond.static yX8_termAt, Cond.code yX8_termAt cX8_termAt 2 (some .int), Cond.methodLink RX8 115 yX8_hourFrom, Cond.instanceMethod yX8_hourFrom, Cond.selects RX8 yX8_hourFrom yX8_hourFrom, Cond.code yX8_hourFrom cX8_hourFrom 6 (some .int), Cond.methodLink RX8 104 yX8_mayBe, Cond.instanceMethod yX8_mayBe, Cond.selects RX8 yX8_mayBe yX8_mayBe]
def wsX8_makeTable_r2 : List Cond := [Cond.code yX8_mayBe cX8_mayBe 9 (some .boolean)]
def wsX8_makeTable : List Cond := .code yX8_makeTable cX8_makeTable 7 (some .boolean) :: ((wsX8_makeTable_r1 ++ wsX8_makeTable_r2) ++ wsX80)
def wsX8_hour_r1 : List Cond := [Cond.fieldLink RX8 7 "QuietStairsModel" "s" "[I", Cond.fieldLink RX8 32 "QuietStairsModel" "hours" "[I", Cond.methodLink RX8 101 yX8_isTerm, Cond.instanceMethod yX8_isTerm, Cond.selects RX8 yX8_isTerm yX8_isTerm, Cond.initialized RX8, Cond.code yX8_isTerm cX8_isTerm 3 (some .boolean), Cond.methodLink RX8 50 yX8_isCase, Cond.instanceMethod yX8_isCase, Cond.selects RX8 yX8_isCase yX8_isCase, Cond.code yX8_isCase cX8_isCase 2 (some .boolean), Cond.methodLink RX8 35 yX8_in, Cond.static yX8_in, Cond.code yX8_in cX8_in 3 (some .boolean), Cond.methodLink RX8 46 yX8_at, Cond.static yX8_at, Cond.code yX8_at cX8_at 2 (some .int), Cond.methodLink RX8 98 yX8_termAt, Cond.static yX8_termAt, Cond.code yX8_termAt cX8_termAt 2 (some .int), Cond.methodLink RX8 118 yX8_makeTable, Cond.instanceMethod yX8_makeTable, Cond.selects RX8 yX8_makeTable yX8_makeTable, Cond.code yX8_makeTable cX8_makeTable 7 (some .boolean)]
def wsX8_hour_r2 : List Cond := [Cond.methodLink RX8 111 yX8_next, Cond.instanceMethod yX8_next, Cond.selects RX8 yX8_next yX8_next, Cond.code yX8_next cX8_next 7 (some .int), Cond.methodLink RX8 108 yX8_isOwn, Cond.instanceMethod yX8_isOwn, Cond.selects RX8 yX8_isOwn yX8_isOwn, Cond.code yX8_isOwn cX8_isOwn 4 (some .boolean), Cond.methodLink RX8 115 yX8_hourFrom, Cond.instanceMethod yX8_hourFrom, Cond.selects RX8 yX8_hourFrom yX8_hourFrom, Cond.code yX8_hourFrom cX8_hourFrom 6 (some .int), Cond.methodLink RX8 104 yX8_mayBe, Cond.instanceMethod yX8_mayBe, Cond.selects RX8 yX8_mayBe yX8_mayBe, Cond.code yX8_mayBe cX8_mayBe 9 (some .boolean)]
def wsX8_hour : List Cond := .code yX8_hour cX8_hour 4 (some .int) :: ((wsX8_hour_r1 ++ wsX8_hour_r2) ++ wsX80)
def wsX8_canHold_r1 : List Cond := [Cond.fieldLink RX8 7 "QuietStairsModel" "s" "[I", Cond.methodLink RX8 50 yX8_isCase, Cond.instanceMethod yX8_isCase, Cond.selects RX8 yX8_isCase yX8_isCase, Cond.initialized RX8, Cond.code yX8_isCase cX8_isCase 2 (some .boolean), Cond.methodLink RX8 35 yX8_in, Cond.static yX8_in, Cond.code yX8_in cX8_in 3 (some .boolean), Cond.methodLink RX8 60 yX8_isSide, Cond.static yX8_isSide, Cond.code yX8_isSide cX8_isSide 1 (some .boolean), Cond.methodLink RX8 46 yX8_at, Cond.static yX8_at, Cond.code yX8_at cX8_at 2 (some .int), Cond.methodLink RX8 118 yX8_makeTable, Cond.instanceMethod yX8_makeTable, Cond.selects RX8 yX8_makeTable yX8_makeTable, Cond.code yX8_makeTable cX8_makeTable 7 (some .boolean), Cond.fieldLink RX8 32 "QuietStairsModel" "hours" "[I", Cond.methodLink RX8 111 yX8_next, Cond.instanceMethod yX8_next, Cond.selects RX8 yX8_next yX8_next, Cond.code yX8_next cX8_next 7 (some .int)]
def wsX8_canHold_r2 : List Cond := [Cond.methodLink RX8 108 yX8_isOwn, Cond.instanceMethod yX8_isOwn, Cond.selects RX8 yX8_isOwn yX8_isOwn, Cond.code yX8_isOwn cX8_isOwn 4 (some .boolean), Cond.methodLink RX8 98 yX8_termAt, Cond.static yX8_termAt, Cond.code yX8_termAt cX8_termAt 2 (some .int), Cond.methodLink RX8 115 yX8_hourFrom, Cond.instanceMethod yX8_hourFrom, Cond.selects RX8 yX8_hourFrom yX8_hourFrom, Cond.code yX8_hourFrom cX8_hourFrom 6 (some .int), Cond.methodLink RX8 104 yX8_mayBe, Cond.instanceMethod yX8_mayBe, Cond.selects RX8 yX8_mayBe yX8_mayBe, Cond.code yX8_mayBe cX8_mayBe 9 (some .boolean)]
def wsX8_canHold : List Cond := .code yX8_canHold cX8_canHold 3 (some .int) :: ((wsX8_canHold_r1 ++ wsX8_canHold_r2) ++ wsX80)
def wsX8_breaks_r1 : List Cond := [Cond.fieldLink RX8 7 "QuietStairsModel" "s" "[I", Cond.methodLink RX8 50 yX8_isCase, Cond.instanceMethod yX8_isCase, Cond.selects RX8 yX8_isCase yX8_isCase, Cond.initialized RX8, Cond.code yX8_isCase cX8_isCase 2 (some .boolean), Cond.methodLink RX8 35 yX8_in, Cond.static yX8_in, Cond.code yX8_in cX8_in 3 (some .boolean), Cond.methodLink RX8 60 yX8_isSide, Cond.static yX8_isSide, Cond.code yX8_isSide cX8_isSide 1 (some .boolean), Cond.methodLink RX8 46 yX8_at, Cond.static yX8_at, Cond.code yX8_at cX8_at 2 (some .int), Cond.methodLink RX8 98 yX8_termAt, Cond.static yX8_termAt, Cond.code yX8_termAt cX8_termAt 2 (some .int), Cond.methodLink RX8 118 yX8_makeTable, Cond.instanceMethod yX8_makeTable, Cond.selects RX8 yX8_makeTable yX8_makeTable, Cond.code yX8_makeTable cX8_makeTable 7 (some .boolean), Cond.fieldLink RX8 32 "QuietStairsModel" "hours" "[I", Cond.methodLink RX8 111 yX8_next]
def wsX8_breaks_r2 : List Cond := [Cond.instanceMethod yX8_next, Cond.selects RX8 yX8_next yX8_next, Cond.code yX8_next cX8_next 7 (some .int), Cond.methodLink RX8 108 yX8_isOwn, Cond.instanceMethod yX8_isOwn, Cond.selects RX8 yX8_isOwn yX8_isOwn, Cond.code yX8_isOwn cX8_isOwn 4 (some .boolean), Cond.methodLink RX8 115 yX8_hourFrom, Cond.instanceMethod yX8_hourFrom, Cond.selects RX8 yX8_hourFrom yX8_hourFrom, Cond.code yX8_hourFrom cX8_hourFrom 6 (some .int), Cond.methodLink RX8 104 yX8_mayBe, Cond.instanceMethod yX8_mayBe, Cond.selects RX8 yX8_mayBe yX8_mayBe, Cond.code yX8_mayBe cX8_mayBe 9 (some .boolean)]
def wsX8_breaks : List Cond := .code yX8_breaks cX8_breaks 4 (some .int) :: ((wsX8_breaks_r1 ++ wsX8_breaks_r2) ++ wsX80)
def wsX8_log : List Cond := .code yX8_log cX8_log 7 (some .int) :: ([.fieldLink RX8 7 "QuietStairsModel" "s" "[I", .methodLink RX8 50 yX8_isCase, .instanceMethod yX8_isCase, .selects RX8 yX8_isCase yX8_isCase, .initialized RX8, .code yX8_isCase cX8_isCase 2 (some .boolean), .methodLink RX8 35 yX8_in, .static yX8_in, .code yX8_in cX8_in 3 (some .boolean), .methodLink RX8 60 yX8_isSide, .static yX8_isSide, .code yX8_isSide cX8_isSide 1 (some .boolean)] ++ wsX80)
def wsX8_judge : List Cond := .code yX8_judge cX8_judge 8 (some .int) :: ([.fieldLink RX8 7 "QuietStairsModel" "s" "[I", .methodLink RX8 98 yX8_termAt, .static yX8_termAt, .initialized RX8, .code yX8_termAt cX8_termAt 2 (some .int)] ++ wsX80)
def wsX8_judged : List Cond := .code yX8_judged cX8_judged 3 (some .int) :: ([.methodLink RX8 101 yX8_isTerm, .instanceMethod yX8_isTerm, .selects RX8 yX8_isTerm yX8_isTerm, .initialized RX8, .code yX8_isTerm cX8_isTerm 3 (some .boolean), .fieldLink RX8 7 "QuietStairsModel" "s" "[I", .methodLink RX8 50 yX8_isCase, .instanceMethod yX8_isCase, .selects RX8 yX8_isCase yX8_isCase, .code yX8_isCase cX8_isCase 2 (some .boolean), .methodLink RX8 35 yX8_in, .static yX8_in, .code yX8_in cX8_in 3 (some .boolean), .methodLink RX8 46 yX8_at, .static yX8_at, .code yX8_at cX8_at 2 (some .int), .methodLink RX8 121 yX8_judge, .instanceMethod yX8_judge, .selects RX8 yX8_judge yX8_judge, .code yX8_judge cX8_judge 8 (some .int), .methodLink RX8 98 yX8_termAt, .static yX8_termAt, .code yX8_termAt cX8_termAt 2 (some .int)] ++ wsX80)
def wsX8_casesThat : List Cond := .code yX8_casesThat cX8_casesThat 4 (some .int) :: ([.fieldLink RX8 7 "QuietStairsModel" "s" "[I", .methodLink RX8 46 yX8_at, .static yX8_at, .initialized RX8, .code yX8_at cX8_at 2 (some .int)] ++ wsX80)
def wsX8_quarrels : List Cond := .code yX8_quarrels cX8_quarrels 3 (some .int) :: ([.fieldLink RX8 7 "QuietStairsModel" "s" "[I", .fieldLink RX8 20 "QuietStairsModel" "headOf" "[I", .methodLink RX8 53 yX8_findHeads, .instanceMethod yX8_findHeads, .selects RX8 yX8_findHeads yX8_findHeads, .initialized RX8, .code yX8_findHeads cX8_findHeads 6 none] ++ wsX80)
def wsX8_termsThat : List Cond := .code yX8_termsThat cX8_termsThat 5 (some .int) :: ([.fieldLink RX8 7 "QuietStairsModel" "s" "[I", .methodLink RX8 46 yX8_at, .static yX8_at, .initialized RX8, .code yX8_at cX8_at 2 (some .int), .methodLink RX8 121 yX8_judge, .instanceMethod yX8_judge, .selects RX8 yX8_judge yX8_judge, .code yX8_judge cX8_judge 8 (some .int), .methodLink RX8 98 yX8_termAt, .static yX8_termAt, .code yX8_termAt cX8_termAt 2 (some .int)] ++ wsX80)
def wsX8_many_r1 : List Cond := [Cond.fieldLink RX8 7 "QuietStairsModel" "s" "[I", Cond.methodLink RX8 124 yX8_casesThat, Cond.instanceMethod yX8_casesThat, Cond.selects RX8 yX8_casesThat yX8_casesThat, Cond.initialized RX8, Cond.code yX8_casesThat cX8_casesThat 4 (some .int), Cond.methodLink RX8 46 yX8_at, Cond.static yX8_at, Cond.code yX8_at cX8_at 2 (some .int), Cond.methodLink RX8 127 yX8_quarrels, Cond.instanceMethod yX8_quarrels, Cond.selects RX8 yX8_quarrels yX8_quarrels, Cond.code yX8_quarrels cX8_quarrels 3 (some .int), Cond.fieldLink RX8 20 "QuietStairsModel" "headOf" "[I", Cond.methodLink RX8 53 yX8_findHeads, Cond.instanceMethod yX8_findHeads, Cond.selects RX8 yX8_findHeads yX8_findHeads, Cond.code yX8_findHeads cX8_findHeads 6 none, Cond.methodLink RX8 131 yX8_termsThat, Cond.instanceMethod yX8_termsThat, Cond.selects RX8 yX8_termsThat yX8_termsThat, Cond.code yX8_termsThat cX8_termsThat 5 (some .int), Cond.methodLink RX8 121 yX8_judge, Cond.instanceMethod yX8_judge]
def wsX8_many_r2 : List Cond := [Cond.selects RX8 yX8_judge yX8_judge, Cond.code yX8_judge cX8_judge 8 (some .int), Cond.methodLink RX8 98 yX8_termAt, Cond.static yX8_termAt, Cond.code yX8_termAt cX8_termAt 2 (some .int)]
def wsX8_many : List Cond := .code yX8_many cX8_many 2 (some .int) :: ((wsX8_many_r1 ++ wsX8_many_r2) ++ wsX80)
def wsX8_keep : List Cond := .code yX8_keep cX8_keep 2 (some .int) :: ([.fieldLink RX8 13 "QuietStairsModel" "kept" "[I", .fieldLink RX8 7 "QuietStairsModel" "s" "[I", .fieldLink RX8 134 "QuietStairsModel" "isKept" "Z"] ++ wsX80)
def wsX8_back : List Cond := .code yX8_back cX8_back 2 (some .int) :: ([.fieldLink RX8 134 "QuietStairsModel" "isKept" "Z", .fieldLink RX8 7 "QuietStairsModel" "s" "[I", .fieldLink RX8 13 "QuietStairsModel" "kept" "[I"] ++ wsX80)
def wsJ9_max_7cf53 : List Cond := .code yJ9_max_7cf53 cJ9_max_7cf53 2 (some .int) :: ([])
def wsJ9_min_7cf53 : List Cond := .code yJ9_min_7cf53 cJ9_min_7cf53 2 (some .int) :: ([])
abbrev vwCl : List vw_C := [(RX0, TX0, 11), (RX1, TX1, 7), (RX2, TX2, 3), (RX3, TX3, 2), (RX4, TX4, 11), (RX5, TX5, 3), (RX6, TX6, 5), (RX7, TX7, 5), (RX8, TX8, 11)]
end
section
/-- the array classes, by number: int[], Party[], Mediator[], Case[], Term[], int[][] -/
abbrev ty_L (cy : Nat → ClassId) : List (ClassId × FieldType) := [(cy 0, .int), (cy 1, .object RX3), (cy 2, .object RX2), (cy 3, .object RX0), (cy 4, .object RX6), (cy 5, .array .int)]
def ao_A (U : State) : Prop := (Cond.arrayOver (.array .int)).before #[] U = true
theorem ao_A.spec {U : State} (h : ao_A U) : ∃ comp c k, U.vm.findClass (FieldType.array .int).toString = some comp ∧ (U.vm.classes.findIdx? fun (x : Class) => match x.kind with | .array component _ => component == comp | _ => false) = some c ∧ U.vm.classes[c]? = some k ∧ k.kind = .array comp (.array .int) ∧ U.vm.findClass ("[" ++ (FieldType.array .int).toString) = some c := by
  unfold ao_A Cond.before at h
  simp only [Cond.holds, Cond.value, beq_iff_eq] at h
  cases hc : U.vm.findClass (FieldType.array .int).toString with
  | none => simp [hc] at h
  | some comp =>
    simp only [hc, Option.bind_some, Option.bind_eq_some_iff, Option.map_eq_some_iff] at h
    obtain ⟨c, hi, k, hk, hb⟩ := h
    obtain ⟨hlt, hp, -⟩ := Array.findIdx?_eq_some_iff_getElem.mp hi
    have hk' : U.vm.classes[c] = k := by
      have := Array.getElem?_eq_getElem hlt
      rw [hk] at this
      exact (Option.some.inj this).symm
    rw [hk'] at hp
    refine ⟨comp, c, k, rfl, hi, hk, ?_, ?_⟩
    · cases hkk : k.kind <;> rw [hkk] at hb hp <;> simp at hb hp
      rw [hp, hb.1]
    · cases hkk : k.kind <;> rw [hkk] at hb <;> simp at hb
      exact hb.2
theorem ao_A.moved {u U : State} (hvm : u.vm.Alike U.vm) (h : ao_A u) : ao_A U := by
  obtain ⟨comp, c, k, h1, h2, h3, h4, h5⟩ := h.spec
  obtain ⟨k', hk', he⟩ := hvm.2.2 _ _ h3
  have hi : (U.vm.classes.findIdx? fun (x : Class) => match x.kind with | .array component _ => component == comp | _ => false) = some c := by
    rw [hvm.findIdx?_eqK _ (fun _ => rfl)]
    exact h2
  have hkind : k'.kind = .array comp (.array .int) := by rw [he]; exact h4
  have f1 : U.vm.findClass (FieldType.array .int).toString = some comp := by rw [hvm.findClass]; exact h1
  have f2 : U.vm.findClass ("[" ++ (FieldType.array .int).toString) = some c := by rw [hvm.findClass]; exact h5
  unfold ao_A Cond.before Cond.holds
  simp only [Cond.value]
  rw [f1, Option.bind_some]
  refine (congrArg (fun o : Option Nat => (o.bind (fun c => (U.vm.classes[c]?).map fun (k : Class) => match k.kind with | .array _ ty => decide (ty = FieldType.array .int) && decide (U.vm.findClass ("[" ++ (FieldType.array .int).toString) = some c) | _ => false) == some true)) hi).trans ?_
  simp [hk', hkind, f2]
/-- what nest mates may use of QuietStairs: hasBit, the two static arrays -/
def ex_K1 (U : State) : Prop := va_Nw (.methodLinkNest RX1 51 yX7_hasBit RX7) U ∧ va_Nw (.methodLinkNest RX4 115 yX7_hasBit RX7) U ∧ va_Nw (.methodLinkNest RX5 47 yX7_hasBit RX7) U ∧ va_Nw (.fieldLinkNest RX1 32 RX7 "OTHER_OF_PAIR" "[I" RX7) U ∧ va_Nw (.fieldLinkNest RX1 40 RX7 "LESSER_OF_PAIR" "[I" RX7) U ∧ va_Nw (.fieldLinkNest RX4 109 RX7 "LESSER_OF_PAIR" "[I" RX7) U ∧ va_Nw (.fieldLinkNest RX4 112 RX7 "OTHER_OF_PAIR" "[I" RX7) U
theorem ex_K1.warm {s U : State} (hW : s.WarmedH U.vm) (h : ex_K1 s) : ex_K1 U := ⟨h.1.warmM hW, h.2.1.warmM hW, h.2.2.1.warmM hW, h.2.2.2.1.warmF hW, h.2.2.2.2.1.warmF hW, h.2.2.2.2.2.1.warmF hW, h.2.2.2.2.2.2.warmF hW⟩
theorem ex_K1.same {u U : State} (e : u.vm = U.vm) (h : ex_K1 u) : ex_K1 U := ⟨h.1.same rfl e, h.2.1.same rfl e, h.2.2.1.same rfl e, h.2.2.2.1.same rfl e, h.2.2.2.2.1.same rfl e, h.2.2.2.2.2.1.same rfl e, h.2.2.2.2.2.2.same rfl e⟩
/-- what the tables say beside the words: private constructors of nest mates, arrays made before -/
def ex_K (U : State) : Prop := va_Nw (.methodLinkNest RX1 29 yX3_init RX7) U ∧ va_Nw (.methodLinkNest RX1 30 yX2_init RX7) U ∧ va_Nw (.methodLinkNest RX0 32 yX6_init RX7) U ∧ va_Nw (.methodLinkNest RX7 18 yX4_init RX7) U ∧ va_Nw (.methodLinkNest RX7 25 yX5_init RX7) U ∧ va_AO RX3 U ∧ va_AO RX2 U ∧ va_AO RX0 U ∧ va_AO RX6 U ∧ ao_A U ∧ ex_K1 U
theorem ex_K.warm {s U : State} (hW : s.WarmedH U.vm) (h : ex_K s) : ex_K U := by
  obtain ⟨h1, h2, h3, h4, h5, a1, a2, a3, a4, a5, a6⟩ := h
  exact ⟨h1.warmM hW, h2.warmM hW, h3.warmM hW, h4.warmM hW, h5.warmM hW, va_AO.moved hW.alike a1, va_AO.moved hW.alike a2, va_AO.moved hW.alike a3, va_AO.moved hW.alike a4, ao_A.moved hW.alike a5, a6.warm hW⟩
theorem ex_K.same {u U : State} (e : u.vm = U.vm) (h : ex_K u) : ex_K U := by
  obtain ⟨h1, h2, h3, h4, h5, a1, a2, a3, a4, a5, a6⟩ := h
  have al : u.vm.Alike U.vm := e ▸ Vm.Alike.refl u.vm
  exact ⟨h1.same rfl e, h2.same rfl e, h3.same rfl e, h4.same rfl e, h5.same rfl e, va_AO.moved al a1, va_AO.moved al a2, va_AO.moved al a3, va_AO.moved al a4, ao_A.moved al a5, a6.same e⟩
/-- a method's start: the heap's size, the tables, the cells -/
abbrev ex_Pre (dC : Nat → ClassId) (dI : Nat → Nat → Nat) (cy : Nat → ClassId) (sz : Nat) (ws : va_W) (U : State) : Prop := U.heap.size = sz ∧ ex_K U ∧ va_P (dC, dI) vwCl ws U.heap ∧ va_K (dC, dI) vwCl (ty_L cy) U ∧ va_D (fun _ => True) ws
/-- its end: the cells -/
abbrev ex_Pst (dC : Nat → ClassId) (dI : Nat → Nat → Nat) (A : Nat → Prop) (ws : va_W) (t : State) : Prop := va_P (dC, dI) vwCl ws t.heap ∧ va_D A ws
theorem ex_blind {dC : Nat → ClassId} {dI : Nat → Nat → Nat} {cy : Nat → ClassId} {sz : Nat} {ws : va_W} {av : List Value} : FrameBlind (va_Pc av (ex_Pre dC dI cy sz ws)) := fun a U g mk q => by
  obtain ⟨q0, q1, qE, qP, qK, qD⟩ := q
  exact ⟨q0, q1, qE.same rfl, qP, va_K.moved (u := U) (U := U.calling g mk a) (Vm.Alike.refl U.vm) qK, qD⟩
theorem ex_fm {ws wc : va_W} {is : List Nat} (hs : is.map (fun i => ws[i]?) = wc.map some) : is.filterMap (fun i => ws[i]?) = wc := by
  have h : (is.map (fun i => ws[i]?)).filterMap id = (wc.map some).filterMap id := by rw [hs]
  rw [List.filterMap_map, List.filterMap_map] at h
  have e1 : is.filterMap (id ∘ fun i => ws[i]?) = is.filterMap (fun i => ws[i]?) := rfl
  have e2 : wc.filterMap (id ∘ some) = wc := by
    have : (id ∘ some : (Nat × va_E) → Option (Nat × va_E)) = some := rfl
    rw [this, List.filterMap_some]
  rw [e1, e2] at h
  exact h
theorem ex_preS {s : State} {H : Heap} {dC : Nat → ClassId} {dI : Nat → Nat → Nat} {cy : Nat → ClassId} {A : Nat → Prop} {ws wc : va_W} {As : List Value} (hE : ex_K s) (hK : va_K (dC, dI) vwCl (ty_L cy) s) (hP : va_P (dC, dI) vwCl ws H) (hD : va_D A ws) (is : List Nat) (hn : va_nd is = true) (hs : is.map (fun i => ws[i]?) = wc.map some) : PreS s H (va_Pc As (ex_Pre dC dI cy H.size wc)) As :=
  ⟨ex_blind, fun U hU hW => ⟨rfl, by rw [hU], hE.warm hW, by rw [hU]; exact hP.sub is (ex_fm hs), va_K.moved hW.alike hK, (hD.sub is hn hs).weaken (fun _ _ _ _ => trivial)⟩⟩
theorem ex_preV {s : State} {H : Heap} {dC : Nat → ClassId} {dI : Nat → Nat → Nat} {cy : Nat → ClassId} {A : Nat → Prop} {ws wc : va_W} {As : List Value} {b q0 ci : Nat} {q : vw_C} {fs : List Value} (hE : ex_K s) (hK : va_K (dC, dI) vwCl (ty_L cy) s) (hP : va_P (dC, dI) vwCl ws H) (hD : va_D A ws) (is : List Nat) (hn : va_nd is = true) (hs : is.map (fun i => ws[i]?) = wc.map some) (hc : vwCl[ci]? = some q) (he : ws[q0]? = some (b, .inr (ci, fs))) : PreV s H q.1 b (va_Pc (.ref b :: As) (ex_Pre dC dI cy H.size wc)) As :=
  ⟨ex_blind, va_recv hK hP hc he, (ex_preS (As := .ref b :: As) hE hK hP hD is hn hs).2⟩
section YC
variable {p : Program} {l : Launch} {e : Env} {R : Room} {s : State} {m : MethodId} {args : Array Value} {below : List Frame} {meth : Method} {c : Code} {H : Heap} {locs : List Loc} {cells slots : Nat} {Q : State → Prop}
variable {pc : Nat} {ls : Array Slot} {rest st0 : List Value} {a : Array Value} {A : Nat → Prop} {H0 : Heap} {mc ms : Nat} {dC : Nat → ClassId} {dI : Nat → Nat → Nat} {cy : Nat → ClassId} {ws wc wr : va_W}
theorem yc_i {S : Type} {post : Int32 → S → Prop} {w1 : S → va_W} (hP : va_P (dC, dI) vwCl ws H) (hD : va_D A ws) (hS : va_S A H0 H locs) (hA : ∀ q, H0.size ≤ q → A q) (isC isR : List Nat) (hC : isC.map (fun i => ws[i]?) = wc.map some) (hR : isR.map (fun i => ws[i]?) = wr.map some) (hn : va_nd isR = true) (hdis : ∀ i ∈ isR, i ∉ isC)
    (hr : va_Run p l e R s m args below meth c H locs cells slots mc ms (F0 m pc ls st0) rest (va_Qi post (fun u t => ex_Pst dC dI (va_A wc H.size) (w1 u) t) (va_A wc H.size) a) (va_A wc H.size))
    (kk : ∀ (r : Int32) (u : S) (H1 : Heap) (locs1 : List Loc), post r u → va_P (dC, dI) vwCl (wr ++ w1 u) H1 → va_D A (wr ++ w1 u) → va_S A H0 H1 locs1 → W p l e R s m args below meth c H1 locs1 (cells + mc) (slots + ms) Q (F0 m (pc + 3) ls (.int r :: rest))) : W p l e R s m args below meth c H locs cells slots Q (F0 m pc ls st0) := by
  have hF := va_free (wc := wc) hD hS hA isC hC
  refine va_calli hr hS (fun q _ h => hF q h) hF (fun r u t H1 locs1 ht hvm hw hB hz1 hk1 hS1 => ?_)
  obtain ⟨hP1, hD1⟩ := hB
  rw [ht] at hP1
  obtain ⟨hP2, hD2⟩ := va_join hP hD isC isR hC hR hn hdis hk1 hF hP1 hD1
  exact kk r u H1 locs1 hw hP2 hD2 hS1
theorem yc_v {S : Type} {post : S → Prop} {w1 : S → va_W} (hP : va_P (dC, dI) vwCl ws H) (hD : va_D A ws) (hS : va_S A H0 H locs) (hA : ∀ q, H0.size ≤ q → A q) (isC isR : List Nat) (hC : isC.map (fun i => ws[i]?) = wc.map some) (hR : isR.map (fun i => ws[i]?) = wr.map some) (hn : va_nd isR = true) (hdis : ∀ i ∈ isR, i ∉ isC)
    (hr : va_Run p l e R s m args below meth c H locs cells slots mc ms (F0 m pc ls st0) rest (va_Qv post (fun u t => ex_Pst dC dI (va_A wc H.size) (w1 u) t) (va_A wc H.size) a) (va_A wc H.size))
    (kk : ∀ (u : S) (H1 : Heap) (locs1 : List Loc), post u → va_P (dC, dI) vwCl (wr ++ w1 u) H1 → va_D A (wr ++ w1 u) → va_S A H0 H1 locs1 → W p l e R s m args below meth c H1 locs1 (cells + mc) (slots + ms) Q (F0 m (pc + 3) ls rest)) : W p l e R s m args below meth c H locs cells slots Q (F0 m pc ls st0) := by
  have hF := va_free (wc := wc) hD hS hA isC hC
  refine va_callv hr hS (fun q _ h => hF q h) hF (fun u t H1 locs1 ht hvm hw hB hz1 hk1 hS1 => ?_)
  obtain ⟨hP1, hD1⟩ := hB
  rw [ht] at hP1
  obtain ⟨hP2, hD2⟩ := va_join hP hD isC isR hC hR hn hdis hk1 hF hP1 hD1
  exact kk u H1 locs1 hw hP2 hD2 hS1
/-- a call that touches no cell -/
theorem yc_p {post : Int32 → Unit → Prop} (hP : va_P (dC, dI) vwCl ws H) (hS : va_S A H0 H locs)
    (hr : va_Run p l e R s m args below meth c H locs cells slots mc ms (F0 m pc ls st0) rest (va_Qi post (fun _ _ => True) (fun _ => False) a) (fun _ => False))
    (kk : ∀ (r : Int32) (H1 : Heap) (locs1 : List Loc), post r () → va_P (dC, dI) vwCl ws H1 → va_S A H0 H1 locs1 → W p l e R s m args below meth c H1 locs1 (cells + mc) (slots + ms) Q (F0 m (pc + 3) ls (.int r :: rest))) : W p l e R s m args below meth c H locs cells slots Q (F0 m pc ls st0) := by
  refine va_calli hr hS (fun q _ h => h.elim) (fun q h => h.elim) (fun r u t H1 locs1 ht hvm hw hB hz1 hk1 hS1 => ?_)
  exact kk r H1 locs1 hw (hP.kept (fun k x hx => hk1 x.1 ((hP k x hx).lt) (fun h => h))) hS1
end YC
theorem ex_preP {s : State} {H : Heap} {As : List Value} : PreS s H (va_Pc As (fun _ => True)) As := ⟨fun _ _ _ _ h => h, fun _ _ _ => ⟨rfl, trivial⟩⟩
/-- one array class a type -/
theorem ex_cy {D : va_G} {cl : List vw_C} {tys : List (ClassId × FieldType)} {U : State} {cA cB : ClassId} {ty : FieldType} (h : va_K D cl tys U) (i j : Nat) (hi : tys[i]? = some (cA, ty)) (hj : tys[j]? = some (cB, ty)) : cA = cB := by
  have a := (h.2 i _ hi).2
  have b := (h.2 j _ hj).2
  cases ty with
  | object C =>
    obtain ⟨_, _, _, _, _, a4⟩ := a
    obtain ⟨_, _, _, _, _, b4⟩ := b
    exact Option.some.inj (a4.symm.trans b4)
  | _ => exact Option.some.inj (Eq.trans (Eq.symm a) b)
section YN
variable {p : Program} {l : Launch} {e : Env} {R : Room} {s : State} {m : MethodId} {args : Array Value} {below : List Frame} {meth : Method} {c : Code} {H : Heap} {locs : List Loc} {cells slots : Nat} {Q : State → Prop}
variable {cc : ByteArray} {pc : Nat} {ls : Array Slot} {rest : List Value} {D : va_G} {cl : List vw_C} {A : Nat → Prop} {cy : Nat → ClassId} {ws : va_W} {H0 : Heap}
/-- new int[n] -/
theorem yn_i (hexec : p.tables.exec = Jvm.exec) (hb : c.code = cc) (harr : (Cond.arrayClass .int).before args s = true) (hK : va_K D cl (ty_L cy) s) (hP : va_P D cl ws H) (hD : va_D A ws) (hS : va_S A H0 H locs) (hA : ∀ q, H0.size ≤ q → A q)
    {n : Int32} (N' : Nat) (hn : ¬ n < 0) (hN : n.toNatClampNeg = N') (hbytes : N' * 4 ≤ 536870912) (hcells : cells + 1 ≤ R.cells) (hslots : slots + N' ≤ R.slots) (hdg : decode cc pc = .ok (.newarray .int, 2))
    (kk : ∀ (q : Nat) (H1 : Heap), va_P D cl (ws ++ [(q, .inl (cy 0, N', .inl (fun _ => 0)))]) H1 → va_D A (ws ++ [(q, .inl (cy 0, N', .inl (fun _ => 0)))]) → va_S A H0 H1 locs →
      W p l e R s m args below meth c H1 locs (cells + 1) (slots + N') Q (F0 m (pc + 2) ls (.ref q :: rest))) : W p l e R s m args below meth c H locs cells slots Q (F0 m pc ls (.int n :: rest)) := by
  refine va_newa (atype := .int) (ty := .int) (a0 := (N', .inl (fun _ => 0))) hexec hb harr rfl hK hP hD hS hA (fun cA => rfl) hn hN hbytes hcells hslots hdg (fun q cA H1 hK1 hP1 hD1 hS1 => ?_)
  have hc : cA = cy 0 := ex_cy hK1 6 0 rfl rfl
  subst hc
  exact kk q H1 hP1 hD1 hS1
/-- new C[n] -/
theorem yn_q (hexec : p.tables.exec = Jvm.exec) (hb : c.code = cc) {own C : String} {index : Nat} (hown : s.vm.findClass own = some m.cls) (hclink : (Cond.classLink own index C).before args s = true) (hover : va_AO C s) (hK : va_K D cl (ty_L cy) s) (hP : va_P D cl ws H) (hD : va_D A ws) (hS : va_S A H0 H locs) (hA : ∀ q, H0.size ≤ q → A q)
    {n : Int32} (N' t0 : Nat) (ht : (ty_L cy)[t0]? = some (cy t0, .object C)) (hn : ¬ n < 0) (hN : n.toNatClampNeg = N') (hbytes : N' * 4 ≤ 536870912) (hcells : cells + 1 ≤ R.cells) (hslots : slots + N' ≤ R.slots) (hdg : decode cc pc = .ok (.anewarray index, 3))
    (kk : ∀ (q : Nat) (H1 : Heap), va_P D cl (ws ++ [(q, .inl (cy t0, N', .inr (.inr (.inr (.inr (fun _ => none))))))]) H1 → va_D A (ws ++ [(q, .inl (cy t0, N', .inr (.inr (.inr (.inr (fun _ => none))))))]) → va_S A H0 H1 locs →
      W p l e R s m args below meth c H1 locs (cells + 1) (slots + N') Q (F0 m (pc + 3) ls (.ref q :: rest))) : W p l e R s m args below meth c H locs cells slots Q (F0 m pc ls (.int n :: rest)) := by
  refine va_newq hexec hb hown hclink hover hK hP hD hS hA hn hN hbytes hcells hslots hdg (fun q cA H1 hK1 hP1 hD1 hS1 => ?_)
  have hc : cA = cy t0 := ex_cy hK1 6 t0 rfl (by
    have hlt : t0 < (ty_L cy).length := (List.getElem?_eq_some_iff.mp ht).1
    rw [List.getElem?_append_left hlt]
    exact ht)
  subst hc
  exact kk q H1 hP1 hD1 hS1
end YN
def st_o (j : Nat) : Int32 := match j with
  | 0 => 1
  | 1 => 2
  | 2 => 3
  | 3 => 2
  | 4 => 3
  | 5 => 3
  | _ => 0
def st_l (j : Nat) : Int32 := match j with
  | 0 => 0
  | 1 => 0
  | 2 => 0
  | 3 => 1
  | 4 => 1
  | 5 => 2
  | _ => 0
theorem st_b (j : Nat) : (0 ≤ (st_o j).toInt ∧ (st_o j).toInt ≤ 3) ∧ (0 ≤ (st_l j).toInt ∧ (st_l j).toInt ≤ 3) := by
  match j with
  | 0 => decide
  | 1 => decide
  | 2 => decide
  | 3 => decide
  | 4 => decide
  | 5 => decide
  | n + 6 => exact (by decide : (0 ≤ (0 : Int32).toInt ∧ (0 : Int32).toInt ≤ 3) ∧ (0 ≤ (0 : Int32).toInt ∧ (0 : Int32).toInt ≤ 3))
/-- the static arrays that nobody writes: OTHER_OF_PAIR at t1, LESSER_OF_PAIR at t2 -/
def ex_St (t1 t2 : Nat) (A : Nat → Prop) (U : State) : Prop := (va_Z RX7 "OTHER_OF_PAIR" "[I" (.ref t1) A U U.heap ∧ va_T .int t1 6 (fun j => .int (st_o j)) A U U.heap) ∧ (va_Z RX7 "LESSER_OF_PAIR" "[I" (.ref t2) A U U.heap ∧ va_T .int t2 6 (fun j => .int (st_l j)) A U U.heap)
theorem ex_St.go {t1 t2 : Nat} {A A' : Nat → Prop} {s U : State} {H : Heap} {locs : List Loc} (h : ex_St t1 t2 A s) (hS : va_S A s.heap H locs) (hF : ∀ q, A' q → A q) (hU : U.heap = H) (hW : s.WarmedH U.vm) : ex_St t1 t2 A' U := by
  obtain ⟨⟨h1, h2⟩, h3, h4⟩ := h
  refine ⟨⟨?_, ?_⟩, ?_, ?_⟩
  · rw [hU]
    exact ((h1.kept (fun a q1 q2 => hS.2.1 a q1 q2)).narrow hF).moved hW.alike
  · rw [hU]
    exact ((h2.kept (fun a q1 q2 => hS.2.1 a q1 q2)).narrow hF).moved hW.alike
  · rw [hU]
    exact ((h3.kept (fun a q1 q2 => hS.2.1 a q1 q2)).narrow hF).moved hW.alike
  · rw [hU]
    exact ((h4.kept (fun a q1 q2 => hS.2.1 a q1 q2)).narrow hF).moved hW.alike
abbrev ex_PreT (dC : Nat → ClassId) (dI : Nat → Nat → Nat) (cy : Nat → ClassId) (sz : Nat) (ws : va_W) (t1 t2 : Nat) (U : State) : Prop := ex_Pre dC dI cy sz ws U ∧ ex_St t1 t2 (va_A ws sz) U
theorem ex_blindT {dC : Nat → ClassId} {dI : Nat → Nat → Nat} {cy : Nat → ClassId} {sz t1 t2 : Nat} {ws : va_W} {av : List Value} : FrameBlind (va_Pc av (ex_PreT dC dI cy sz ws t1 t2)) := fun a U g mk q => by
  obtain ⟨q0, q1, ⟨h1, h2⟩, h3, h4⟩ := q
  exact ⟨q0, (ex_blind (av := av) a U g mk ⟨q0, q1⟩).2, ⟨va_Z.moved (u := U) (U := U.calling g mk a) (Vm.Alike.refl U.vm) h1, va_T.moved (u := U) (U := U.calling g mk a) (Vm.Alike.refl U.vm) h2⟩, va_Z.moved (u := U) (U := U.calling g mk a) (Vm.Alike.refl U.vm) h3, va_T.moved (u := U) (U := U.calling g mk a) (Vm.Alike.refl U.vm) h4⟩
end
section
section YM
variable {E : CtlPost} {e : Env} {d : Bool} {acts : List Action} {s : State}
theorem ym_na {c comp : ClassId} {k : Class} {ty : FieldType} {n : Nat} {v0 : Value} (hk : s.vm.classes[c]? = some k) (hkind : k.kind = .array comp ty) (hl : ¬ n > e.platform.arrayLengthLimit) (hh : ¬ n * componentBytes ty > e.platform.maxHeapBytes) (hf : fits ty v0 = true) (hdv : v0.isDefault = true) {Q : Addr → Pre}
    (h1 : s.heap.size < e.platform.maxCells) (h2 : s.slotsUsed + n ≤ e.platform.maxSlots) (hq : Q s.heap.size d acts (s.pushCell { cls := c, slots := Array.replicate n v0, vm := .none })) : wp (Jvm.newArray c n v0) Q E e d acts s := by
  have hall : ((Array.replicate n v0).all (·.isDefault)) = true := by
    rw [Array.all_replicate]
    split <;> simp [hdv]
  have hacts : allocActs (Array.replicate n v0) s.heap.size acts = acts := by
    unfold allocActs
    rw [if_pos hall]
  have hfs : ∀ i v, (Array.replicate n v0)[i]? = some v → s.fitsSlot c .none i v = true := fun i v hv => by
    simp only [Array.getElem?_replicate] at hv
    split at hv
    · cases hv
      simp [State.fitsSlot, State.slotType?, hk, hkind, hf]
    · cases hv
  simp only [Jvm.newArray, Jvm.arrayFits, wp_bind', W.ask, W.ite, hl, if_false, wp_pure', W.theClass, hk, hkind, hh, W.alloc, W.stop, Option.some.injEq, exists_eq_left', Array.size_replicate, hacts]
  rw [if_neg (by omega)]
  exact ⟨h1, h2, hfs, hq⟩
/-- the outer array of two, with none, one, two of its rows stored -/
abbrev ym_o (c : ClassId) : Cell := { cls := c, slots := Array.replicate 2 .null, vm := .none }
abbrev ym_r (c : ClassId) (n : Nat) : Cell := { cls := c, slots := Array.replicate n (.int 0), vm := .none }
def ym_1 (s : State) (cA c : ClassId) (n : Nat) : State := ((s.pushCell (ym_o cA)).pushCell (ym_r c n)).setCell s.heap.size ((ym_o cA).setSlot 0 (.ref (s.heap.size + 1)))
def ym_2 (s : State) (cA c : ClassId) (n : Nat) : State := ((ym_1 s cA c n).pushCell (ym_r c n)).setCell s.heap.size (((ym_o cA).setSlot 0 (.ref (s.heap.size + 1))).setSlot 1 (.ref (s.heap.size + 2)))
theorem ym_1f (s : State) (cA c : ClassId) (n : Nat) : (ym_1 s cA c n).heap.size = s.heap.size + 2 ∧ (ym_1 s cA c n).heap[s.heap.size]? = some ((ym_o cA).setSlot 0 (.ref (s.heap.size + 1))) ∧ (ym_1 s cA c n).vm = s.vm ∧ (ym_1 s cA c n).slotsUsed = s.slotsUsed + 2 + n ∧ (∀ a, a < s.heap.size → (ym_1 s cA c n).heap[a]? = s.heap[a]?) ∧ (ym_1 s cA c n).heap[s.heap.size + 1]? = some (ym_r c n) := by
  have h0 : (s.pushCell (ym_o cA)).heap.size = s.heap.size + 1 := by simp
  have l0 : ∀ a, a < s.heap.size + 1 → a < (s.pushCell (ym_o cA)).heap.size := fun a h => by rw [h0]; exact h
  have hb : ((s.pushCell (ym_o cA)).pushCell (ym_r c n)).heap[s.heap.size]? = some (ym_o cA) := by
    rw [State.heap_pushCell_of_lt (h := l0 _ (Nat.lt_succ_self _))]
    exact State.heap_pushCell_size _ _
  refine ⟨by simp [ym_1, State.setCell], State.heap_setCell_self hb, by simp [ym_1], by simp [ym_1], fun a ha => ?_, ?_⟩
  · show (((s.pushCell (ym_o cA)).pushCell (ym_r c n)).setCell s.heap.size _).heap[a]? = _
    rw [State.heap_setCell_other (Nat.ne_of_gt ha), State.heap_pushCell_of_lt (h := l0 a (by omega)), State.heap_pushCell_of_lt (h := ha)]
  · show (((s.pushCell (ym_o cA)).pushCell (ym_r c n)).setCell s.heap.size _).heap[s.heap.size + 1]? = _
    rw [State.heap_setCell_other (show s.heap.size ≠ s.heap.size + 1 by omega), ← h0]
    exact State.heap_pushCell_size _ _
theorem ym_2f (s : State) (cA c : ClassId) (n : Nat) : (ym_2 s cA c n).heap.size = s.heap.size + 3 ∧ (ym_2 s cA c n).heap[s.heap.size]? = some (((ym_o cA).setSlot 0 (.ref (s.heap.size + 1))).setSlot 1 (.ref (s.heap.size + 2))) ∧ (∀ a, a < s.heap.size → (ym_2 s cA c n).heap[a]? = s.heap[a]?) ∧ (ym_2 s cA c n).heap[s.heap.size + 1]? = some (ym_r c n) ∧ (ym_2 s cA c n).heap[s.heap.size + 2]? = some (ym_r c n) := by
  obtain ⟨f1, f2, f3, f4, f5, f6⟩ := ym_1f s cA c n
  have l1 : ∀ a, a < s.heap.size + 2 → a < (ym_1 s cA c n).heap.size := fun a h => by rw [f1]; exact h
  have hb : ((ym_1 s cA c n).pushCell (ym_r c n)).heap[s.heap.size]? = some ((ym_o cA).setSlot 0 (.ref (s.heap.size + 1))) := by
    rw [State.heap_pushCell_of_lt (h := l1 s.heap.size (by omega))]
    exact f2
  refine ⟨by simp [ym_2, State.setCell, f1], State.heap_setCell_self hb, fun a ha => ?_, ?_, ?_⟩
  · show (((ym_1 s cA c n).pushCell (ym_r c n)).setCell s.heap.size _).heap[a]? = _
    rw [State.heap_setCell_other (Nat.ne_of_gt ha), State.heap_pushCell_of_lt (h := l1 a (by omega))]
    exact f5 a ha
  · show (((ym_1 s cA c n).pushCell (ym_r c n)).setCell s.heap.size _).heap[s.heap.size + 1]? = _
    rw [State.heap_setCell_other (show s.heap.size ≠ s.heap.size + 1 by omega), State.heap_pushCell_of_lt (h := l1 (s.heap.size + 1) (by omega))]
    exact f6
  · show (((ym_1 s cA c n).pushCell (ym_r c n)).setCell s.heap.size _).heap[s.heap.size + 2]? = _
    rw [State.heap_setCell_other (show s.heap.size ≠ s.heap.size + 2 by omega), ← f1]
    exact State.heap_pushCell_size _ _
theorem ym_row {c cc : ClassId} {kc : Class} {m : Int32} (hkc : s.vm.classes[c]? = some kc) (hkindc : kc.kind = .array cc .int) (hm : ¬ m < 0) (hl2 : ¬ m.toNatClampNeg > e.platform.arrayLengthLimit) (hh2 : ¬ m.toNatClampNeg * 4 > e.platform.maxHeapBytes)
    (h1 : s.heap.size < e.platform.maxCells) (h2 : s.slotsUsed + m.toNatClampNeg ≤ e.platform.maxSlots) {Q : Addr → Pre} (hq : Q s.heap.size d acts (s.pushCell (ym_r c m.toNatClampNeg))) : wp (multianewarray.make c [m]) Q E e d acts s := by
  rw [multianewarray.make]
  simp only [wp_bind', W.ite, hm, if_false, wp_pure', W.theClass, hkc, hkindc, Option.some.injEq, exists_eq_left']
  exact ym_na hkc hkindc hl2 hh2 rfl rfl h1 h2 hq
theorem ym_make {cA c cc : ClassId} {k kc : Class} {m : Int32} (hk : s.vm.classes[cA]? = some k) (hkind : k.kind = .array c (.array .int)) (hkc : s.vm.classes[c]? = some kc) (hkindc : kc.kind = .array cc .int) (hm : ¬ m < 0)
    (hl1 : ¬ 2 > e.platform.arrayLengthLimit) (hh1 : ¬ 2 * 4 > e.platform.maxHeapBytes) (hl2 : ¬ m.toNatClampNeg > e.platform.arrayLengthLimit) (hh2 : ¬ m.toNatClampNeg * 4 > e.platform.maxHeapBytes)
    (hc : s.heap.size + 3 ≤ e.platform.maxCells) (hs : s.slotsUsed + 2 + m.toNatClampNeg + m.toNatClampNeg ≤ e.platform.maxSlots) {Q : Addr → Pre} (hq : ∀ d' acts', Q s.heap.size d' acts' (ym_2 s cA c m.toNatClampNeg)) : wp (multianewarray.make cA [2, m]) Q E e d acts s := by
  have hfind : ([m].find? (· < 0)) = none := by simp [hm]
  have h2 : ((2 : Int32).toNatClampNeg) = 2 := by decide
  have hn2 : ¬ (2 : Int32) < 0 := by decide
  obtain ⟨f1, f2, f3, f4, f5, f6⟩ := ym_1f s cA c m.toNatClampNeg
  rw [multianewarray.make]
  simp only [wp_bind', W.ite, hn2, if_false, wp_pure', W.theClass, hk, hkind, Option.some.injEq, exists_eq_left', h2]
  refine ym_na hk hkind hl1 hh1 rfl rfl (by omega) (by omega) ?_
  simp only [hfind]
  rw [ite_self, wp_bind', Std.Legacy.Range.forIn_eq_forIn_range']
  have hsz : ([:2] : Std.Legacy.Range).size = 2 := by simp [Std.Legacy.Range.size]
  rw [hsz]
  show wp (forIn [0, 1] PUnit.unit _) _ E e d acts _
  simp only [List.forIn_cons, List.forIn_nil, wp_bind']
  refine ym_row (s := s.pushCell (ym_o cA)) hkc hkindc hm hl2 hh2 (by simp; omega) (by simp; omega) ?_
  have g0 : (s.pushCell (ym_o cA)).heap.size = s.heap.size + 1 := by simp
  have l0 : s.heap.size < (s.pushCell (ym_o cA)).heap.size := by rw [g0]; exact Nat.lt_succ_self _
  have g1 : ((s.pushCell (ym_o cA)).pushCell (ym_r c m.toNatClampNeg)).heap[s.heap.size]? = some (ym_o cA) := by
    rw [State.heap_pushCell_of_lt (h := l0)]
    exact State.heap_pushCell_size _ _
  simp only [wp_bind', W.writeLoc, wp_pure']
  refine ⟨ym_o cA, g1, by simp, by simp, by simp [State.fitsSlot, State.slotType?, hk, hkind]; rfl, ?_⟩
  rw [g0]
  show wp _ _ E e _ _ (ym_1 s cA c m.toNatClampNeg)
  refine ym_row (s := ym_1 s cA c m.toNatClampNeg) (by rw [f3]; exact hkc) hkindc hm hl2 hh2 (by rw [f1]; omega) (by rw [f4]; omega) ?_
  have l1 : s.heap.size < (ym_1 s cA c m.toNatClampNeg).heap.size := by rw [f1]; omega
  have g2 : ((ym_1 s cA c m.toNatClampNeg).pushCell (ym_r c m.toNatClampNeg)).heap[s.heap.size]? = some ((ym_o cA).setSlot 0 (.ref (s.heap.size + 1))) := by
    rw [State.heap_pushCell_of_lt (h := l1)]
    exact f2
  simp only [wp_bind', W.writeLoc, wp_pure']
  refine ⟨_, g2, by simp [Cell.setSlot], by simp [Cell.setSlot], by simp [State.fitsSlot, State.slotType?, Cell.setSlot, f3, hk, hkind]; rfl, ?_⟩
  rw [f1]
  exact hq _ _
end YM
section YX
variable {p : Program} {l : Launch} {e : Env} {R : Room} {s : State} {m : MethodId} {args : Array Value} {below : List Frame} {meth : Method} {c : Code} {T : State} {locs : List Loc} {cells slots : Nat}
theorem ym_step (X : Stand p l e R s m args below meth c T locs cells slots) (hexec : p.tables.exec = Jvm.exec) {own : String} {index : Nat} (hown : s.vm.findClass own = some m.cls) (hclink : (Cond.classLink own index "[[I").before args s = true) (hover : ao_A s) (harr : (Cond.arrayClass .int).before args s = true)
    {g : JFrame} (hg : g.method = m) (hdg : decode c.code g.pc = .ok (.multianewarray index 2, 4)) {k : Int32} {rest : List Value} (hstack : g.stack = .int k :: .int 2 :: rest) (hk : ¬ k < 0) (hb2 : k.toNatClampNeg * 4 ≤ 536870912) (hcells : cells + 3 ≤ R.cells) (hslots : slots + (2 + k.toNatClampNeg + k.toNatClampNeg) ≤ R.slots) :
    ∃ (vm₁ : Vm) (cA comp : ClassId), s.vm.findClass "[[I" = some cA ∧ s.vm.findClass "[I" = some comp ∧
      Stand p l e R s m args below meth c (ym_2 (T.setVm vm₁) cA comp k.toNatClampNeg) ((locs ++ [⟨T.heap.size, 0⟩]) ++ [⟨T.heap.size, 1⟩]) (cells + 3) (slots + (2 + k.toNatClampNeg + k.toNatClampNeg)) ∧
      ∀ target, Steps p.tables e below ((ym_2 (T.setVm vm₁) cA comp k.toNatClampNeg).setTop { g with pc := g.pc + 4, stack := .ref T.heap.size :: rest }) target → Steps p.tables e below (T.setTop g) target := by
  subst hg
  have hpl : e.platform.magicAccessors = ({} : Platform).magicAccessors := by rw [X.admits.platform]
  obtain ⟨comp, cA, kA, hcomp, -, hkA, hkindA, hnameA⟩ := hover.spec
  obtain ⟨comp', kC, cc, hcomp', hkC, hkindC⟩ := Cond.arrayClass_spec harr
  have ecomp : comp' = comp := Option.some.inj (hcomp'.symm.trans hcomp)
  subst ecomp
  obtain ⟨c0, hfc0, hcl⟩ := Cond.classLink_spec hown hclink e.platform hpl
  cases (show s.vm.findClass "[[I" = some cA from hnameA).symm.trans hfc0
  obtain ⟨hg₁, hwarm₁, hready₁⟩ := State.classEntry (e := e) X.warmed hcl
  generalize T.vm.noted g.method.cls index (.cls cA) = vm₁ at hg₁ hwarm₁ hready₁
  have hal : s.vm.Alike vm₁ := hwarm₁.alike
  obtain ⟨kA₁, hkA₁, heA⟩ := hal.2.2 _ _ hkA
  obtain ⟨kC₁, hkC₁, heC⟩ := hal.2.2 _ _ hkC
  have hkindA₁ : kA₁.kind = .array comp' (.array .int) := by rw [heA]; exact hkindA
  have hkindC₁ : kC₁.kind = .array cc .int := by rw [heC]; exact hkindC
  have X₁ := X.noted hwarm₁
  obtain ⟨hr1, hr2⟩ := X.roomAbove hcells hslots
  obtain ⟨f1, f2, f3, f4, f5, f6⟩ := ym_1f (T.setVm vm₁) cA comp' k.toNatClampNeg
  have g0 : ((T.setVm vm₁).pushCell (ym_o cA)).heap.size = (T.setVm vm₁).heap.size + 1 := by simp
  have l0 : (T.setVm vm₁).heap.size < ((T.setVm vm₁).pushCell (ym_o cA)).heap.size := by rw [g0]; exact Nat.lt_succ_self _
  have g1 : (((T.setVm vm₁).pushCell (ym_o cA)).pushCell (ym_r comp' k.toNatClampNeg)).heap[(T.setVm vm₁).heap.size]? = some (ym_o cA) := by
    rw [State.heap_pushCell_of_lt (h := l0)]
    exact State.heap_pushCell_size _ _
  have Y1 := ((X₁.pushed (ym_o cA)).pushed (ym_r comp' k.toNatClampNeg)).stored g1 0 (.ref ((T.setVm vm₁).heap.size + 1))
  have l1 : (T.setVm vm₁).heap.size < (ym_1 (T.setVm vm₁) cA comp' k.toNatClampNeg).heap.size := by rw [f1]; omega
  have g2 : ((ym_1 (T.setVm vm₁) cA comp' k.toNatClampNeg).pushCell (ym_r comp' k.toNatClampNeg)).heap[(T.setVm vm₁).heap.size]? = some ((ym_o cA).setSlot 0 (.ref ((T.setVm vm₁).heap.size + 1))) := by
    rw [State.heap_pushCell_of_lt (h := l1)]
    exact f2
  have Y2 := (Stand.pushed (T := ym_1 (T.setVm vm₁) cA comp' k.toNatClampNeg) Y1 (ym_r comp' k.toNatClampNeg)).stored g2 1 (.ref ((T.setVm vm₁).heap.size + 2))
  have XF : Stand p l e R s g.method args below meth c (ym_2 (T.setVm vm₁) cA comp' k.toNatClampNeg) ((locs ++ [⟨T.heap.size, 0⟩]) ++ [⟨T.heap.size, 1⟩]) (cells + 3) (slots + (2 + k.toNatClampNeg + k.toNatClampNeg)) := by
    have e1 : (ym_o cA).slots.size = 2 := by simp
    have e2 : (ym_r comp' k.toNatClampNeg).slots.size = k.toNatClampNeg := by simp
    rw [e1, e2] at Y2
    have e3 : slots + 2 + k.toNatClampNeg + k.toNatClampNeg = slots + (2 + k.toNatClampNeg + k.toNatClampNeg) := by omega
    rw [e3] at Y2
    exact Y2
  refine ⟨vm₁, cA, comp', hnameA, hcomp, XF, fun target hrest => ?_⟩
  have hl1 : ¬ 2 > e.platform.arrayLengthLimit := by rw [Launch.admits_arrayLengthLimit X.admits]; omega
  have hh1 : ¬ 2 * 4 > e.platform.maxHeapBytes := by rw [Launch.admits_maxHeapBytes X.admits]; omega
  have hl2 : ¬ k.toNatClampNeg > e.platform.arrayLengthLimit := by rw [Launch.admits_arrayLengthLimit X.admits]; omega
  have hh2 : ¬ k.toNatClampNeg * 4 > e.platform.maxHeapBytes := by rw [Launch.admits_maxHeapBytes X.admits]; omega
  jvm_step X.here [hexec, hdg]
  simp only [multianewarray.sem, wp_bind', W.resolveClassAt_links (State.method?_setTop g X.here.top) hg₁]
  rw [W.popN, if_neg (by decide)]
  refine ⟨g, State.topJava?_setTop' (s := T.setVm vm₁) g X.here.top, [.int 2, .int k], rest, rfl, hstack, ?_⟩
  simp only [List.mapM_cons, List.mapM_nil, wp_bind', wp_pure']
  have eS : ((T.setTop g).setVm vm₁).setTop { g with stack := rest } = (T.setVm vm₁).setTop { g with stack := rest } := by
    show ((T.setVm vm₁).setTop g).setTop _ = _
    rw [State.setTop_setTop]
  refine ym_make (k := kA₁) (kc := kC₁) (c := comp') (cc := cc) hkA₁ hkindA₁ hkC₁ hkindC₁ hk hl1 hh1 hl2 hh2 (by show T.heap.size + 3 ≤ _; omega) (by show T.slotsUsed + 2 + _ + _ ≤ _; omega) (fun d' acts' => ?_)
  have eF : ym_2 (((T.setTop g).setVm vm₁).setTop { g with stack := rest }) cA comp' k.toNatClampNeg = (ym_2 (T.setVm vm₁) cA comp' k.toNatClampNeg).setTop { g with stack := rest } := by
    rw [eS]
    simp only [ym_2, ym_1, State.heap_setTop, State.pushCell_setTop, State.setCell_setTop]
  rw [eF]
  simp only [wp_bind', W.mark, W.pushRef, State.topJava?_setTop' _ XF.here.top, Option.some.injEq, exists_eq_left', State.setTop_setTop, State.heap_setTop]
  intro acts
  simp [jvm, XF.here.top]
  exact hrest
end YX
section YN
variable {p : Program} {l : Launch} {e : Env} {R : Room} {s : State} {m : MethodId} {args : Array Value} {below : List Frame} {meth : Method} {c : Code} {H : Heap} {locs : List Loc} {cells slots : Nat} {Q : State → Prop}
variable {cc : ByteArray} {pc : Nat} {ls : Array Slot} {rest : List Value} {D : va_G} {cl : List vw_C} {A : Nat → Prop} {cy : Nat → ClassId} {ws : va_W} {H0 : Heap}
/-- new int[2][k] -/
theorem yn_m (hexec : p.tables.exec = Jvm.exec) (hb : c.code = cc) {own : String} {index : Nat} (hown : s.vm.findClass own = some m.cls) (hclink : (Cond.classLink own index "[[I").before args s = true) (hover : ao_A s) (harr : (Cond.arrayClass .int).before args s = true) (hK : va_K D cl (ty_L cy) s) (hP : va_P D cl ws H) (hD : va_D A ws) (hS : va_S A H0 H locs) (hA : ∀ q, H0.size ≤ q → A q)
    {k : Int32} (K' : Nat) (hk : ¬ k < 0) (hM : k.toNatClampNeg = K') (hb2 : K' * 4 ≤ 536870912) (hcells : cells + 3 ≤ R.cells) (hslots : slots + (2 + K' + K') ≤ R.slots) (hdg : decode cc pc = .ok (.multianewarray index 2, 4))
    (kk : ∀ (q : Nat) (H1 : Heap) (locs1 : List Loc), va_P D cl (ws ++ [(q, .inl (cy 5, 2, .inr (.inr (.inr (.inr (fun i => if i < 2 then some (q + 1 + i) else none)))))), (q + 1, .inl (cy 0, K', .inl (fun _ => 0))), (q + 2, .inl (cy 0, K', .inl (fun _ => 0)))]) H1 → va_D A (ws ++ [(q, .inl (cy 5, 2, .inr (.inr (.inr (.inr (fun i => if i < 2 then some (q + 1 + i) else none)))))), (q + 1, .inl (cy 0, K', .inl (fun _ => 0))), (q + 2, .inl (cy 0, K', .inl (fun _ => 0)))]) → va_S A H0 H1 locs1 →
      W p l e R s m args below meth c H1 locs1 (cells + 3) (slots + (2 + K' + K')) Q (F0 m (pc + 4) ls (.ref q :: rest))) : W p l e R s m args below meth c H locs cells slots Q (F0 m pc ls (.int k :: .int 2 :: rest)) := by
  subst hM
  intro T hT Xs
  obtain ⟨vm₁, cA, comp, fA, fC, X', step⟩ := ym_step Xs hexec hown hclink hover harr (g := F0 m pc ls (.int k :: .int 2 :: rest)) rfl (by rw [hb]; exact hdg) rfl hk hb2 hcells hslots
  have eA : cA = cy 5 := Option.some.inj (fA.symm.trans (hK.2 5 _ rfl).2)
  have eC : comp = cy 0 := Option.some.inj (fC.symm.trans (hK.2 0 _ rfl).2)
  subst eA
  subst eC
  have hTh : (T.setVm vm₁).heap = H := hT
  obtain ⟨f1, f2, f3, f4, f5⟩ := ym_2f (T.setVm vm₁) (cy 5) (cy 0) k.toNatClampNeg
  generalize ym_2 (T.setVm vm₁) (cy 5) (cy 0) k.toNatClampNeg = F at X' step f1 f2 f3 f4 f5
  rw [hTh] at f1 f2 f3 f4 f5
  have eR : (ym_r (cy 0) k.toNatClampNeg) = vp_cell (cy 0) (k.toNatClampNeg, .inl (fun _ => 0)) := by
    show ({ cls := cy 0, slots := Array.replicate k.toNatClampNeg (.int 0), vm := .none } : Cell) = _
    rw [arrV_new]
    rfl
  have eO : ((ym_o (cy 5)).setSlot 0 (.ref (H.size + 1))).setSlot 1 (.ref (H.size + 2)) = vp_cell (cy 5) (2, .inr (.inr (.inr (.inr (fun i => if i < 2 then some (H.size + 1 + i) else none))))) := by
    rw [vp_cell_q]
    show (({ cls := cy 5, slots := Array.replicate 2 .null, vm := .none } : Cell).setSlot 0 _).setSlot 1 _ = _
    rw [arrV_new, arrV_store, arrV_store]
    refine congrArg (arrV (cy 5) 2) (funext fun j => ?_)
    rcases Nat.lt_or_ge j 2 with h | h
    · rcases (show j = 0 ∨ j = 1 by omega) with rfl | rfl <;> simp [updV, va_rf]
    · simp [updV, va_rf, show j ≠ 0 by omega, show j ≠ 1 by omega, show ¬ j < 2 by omega]
  rw [eO] at f2
  rw [eR] at f4 f5
  have hN : ∀ (k9 : Nat) (x : Nat × va_E), ([(H.size, .inl (cy 5, 2, .inr (.inr (.inr (.inr (fun i => if i < 2 then some (H.size + 1 + i) else none)))))), (H.size + 1, .inl (cy 0, k.toNatClampNeg, .inl (fun _ => 0))), (H.size + 2, .inl (cy 0, k.toNatClampNeg, .inl (fun _ => 0)))] : va_W)[k9]? = some x → va_at D cl x F.heap ∧ x.1 = H.size + k9 := fun k9 x hx => by
    have h0 : k9 < 3 := (List.getElem?_eq_some_iff.mp hx).1
    rcases (show k9 = 0 ∨ k9 = 1 ∨ k9 = 2 by omega) with rfl | rfl | rfl <;> cases hx
    · exact ⟨f2, rfl⟩
    · exact ⟨f4, rfl⟩
    · exact ⟨f5, rfl⟩
  have hP1 := (hP.kept (H1 := F.heap) (fun k9 x hx => f3 x.1 ((hP k9 x hx).lt))).app (fun k9 x hx => (hN k9 x hx).1)
  have hs0 := hS.1
  have hD1 := va_D.app hD (w2 := ([(H.size, .inl (cy 5, 2, .inr (.inr (.inr (.inr (fun i => if i < 2 then some (H.size + 1 + i) else none)))))), (H.size + 1, .inl (cy 0, k.toNatClampNeg, .inl (fun _ => 0))), (H.size + 2, .inl (cy 0, k.toNatClampNeg, .inl (fun _ => 0)))] : va_W)) ⟨fun i j x y hi hj hxy => by
      have h1 := (hN i x hi).2
      have h2 := (hN j y hj).2
      omega, fun k9 x hx => hA _ (by have := (hN k9 x hx).2; omega)⟩ (fun i j x y hi hj hxy => by
      have h1 := (hP i x hi).lt
      have h2 := (hN j y hj).2
      omega)
  obtain ⟨t, a1, b1⟩ := kk H.size F.heap ((locs ++ [⟨T.heap.size, 0⟩]) ++ [⟨T.heap.size, 1⟩]) hP1 hD1 ⟨by rw [f1]; omega, fun x h1 h2 => (f3 x (Nat.lt_of_lt_of_le h1 hs0)).trans (hS.2.1 x h1 h2), fun q hq => by
    have hTs : T.heap.size = H.size := by rw [hT]
    rcases List.mem_append.mp hq with h | h
    · rcases List.mem_append.mp h with h | h
      · exact hS.2.2 q h
      · rw [List.mem_singleton.mp h]
        exact hA _ (by rw [hTs]; exact hs0)
    · rw [List.mem_singleton.mp h]
      exact hA _ (by rw [hTs]; exact hs0)⟩ F rfl X'
  refine ⟨t, step t ?_, b1⟩
  have e : T.heap.size = H.size := by rw [hT]
  rw [e]
  exact a1
end YN
end
section
/-- the kinds of a House's cells, and of all cells of the class -/
def kd_H : List Nat := [3, 4, 5, 6, 7, 7, 7, 7, 7, 7, 7, 7, 8, 8, 8, 8, 9, 10, 20, 11, 12, 12, 13, 14, 14, 15, 16, 16, 16, 16, 16, 9, 10, 20, 11, 12, 12, 13, 14, 14, 15, 16, 16, 16, 16, 16, 9, 10, 20, 11, 12, 12, 13, 14, 14, 15, 16, 16, 16, 16, 16, 9, 10, 20, 11, 12, 12, 13, 14, 14, 15, 16, 16, 16, 16, 16, 9, 10, 20, 11, 12, 12, 13, 14, 14, 15, 16, 16, 16, 16, 16, 9, 10, 20, 11, 12, 12, 13, 14, 14, 15, 16, 16, 16, 16, 16]
def kd_L : List Nat := [0, 1, 17, 17, 17, 21, 17, 17, 18, 18, 2, 19, 19] ++ (kd_H ++ kd_H)
def kd (k : Nat) : Nat := kd_L.getD k 99
/-- what a place holds: its ints are r -/
def ce (ad : Nat → Nat) (kv : Value) (cy : Nat → ClassId) (k : Nat) (r : Nat → Int32) : va_E := match kd k with
  | 0 => .inr (7, [.ref (ad 13), .ref (ad 1), .ref (ad 10), kv, .int (r 4)])
  | 1 => .inr (4, [.int (r 0), .int (r 1), .int (r 2), .ref (ad 2), .ref (ad 3), .ref (ad 4), .ref (ad 5), .ref (ad 6), .ref (ad 7), .ref (ad 8), .ref (ad 9)])
  | 2 => .inr (5, [.int (r 0), .ref (ad 11), .ref (ad 12)])
  | 3 => .inr (1, [.int (r 0), .int (r 1), .int (r 2), .int (r 3), .ref (ad (k + 1)), .ref (ad (k + 2)), .ref (ad (k + 3))])
  | 4 => .inl (cy 1, 8, .inr (.inr (.inr (.inr (fun i => if i < 8 then some (ad (k + 3 + i)) else none)))))
  | 5 => .inl (cy 2, 4, .inr (.inr (.inr (.inr (fun i => if i < 4 then some (ad (k + 10 + i)) else none)))))
  | 6 => .inl (cy 3, 6, .inr (.inr (.inr (.inr (fun i => if i < 6 then some (ad (k + 13 + 15 * i)) else none)))))
  | 7 => .inr (3, [.int (r 0), .int (r 1)])
  | 8 => .inr (2, [.int (r 0), .int (r 1), .int (r 2)])
  | 9 => .inr (0, [.int (r 0), .int (r 1), .int (r 2), .int (r 3), .int (r 4), .int (r 5), .ref (ad (k + 1)), .ref (ad (k + 2)), .ref (ad (k + 3)), .ref (ad (k + 6)), .ref (ad (k + 9))])
  | 10 => .inl (cy 0, 2, .inl r)
  | 11 => .inl (cy 5, 2, .inr (.inr (.inr (.inr (fun i => if i < 2 then some (ad (k + 1 + i)) else none)))))
  | 12 => .inl (cy 0, 5, .inl r)
  | 13 => .inl (cy 5, 2, .inr (.inr (.inr (.inr (fun i => if i < 2 then some (ad (k + 1 + i)) else none)))))
  | 14 => .inl (cy 0, 24, .inl r)
  | 15 => .inl (cy 4, 5, .inr (.inr (.inr (.inr (fun i => if i < 5 then some (ad (k + 1 + i)) else none)))))
  | 16 => .inr (6, [.int (r 0), .int (r 1), .int (r 2), .int (r 3), .int (r 4)])
  | 17 => .inl (cy 0, 4, .inl r)
  | 18 => .inl (cy 0, 3, .inl r)
  | 19 => .inl (cy 0, 5, .inl r)
  | 20 => .inl (cy 0, 2, .inl r)
  | 21 => .inl (cy 0, 4, .inl r)
  | _ => .inl (cy 0, 0, .inl r)
theorem ce_0 {ad : Nat → Nat} {kv : Value} {cy : Nat → ClassId} {k : Nat} {r : Nat → Int32} (h : kd k = 0) : ce ad kv cy k r = .inr (7, [.ref (ad 13), .ref (ad 1), .ref (ad 10), kv, .int (r 4)]) := by
  unfold ce
  rw [h]
  rfl
theorem ce_1 {ad : Nat → Nat} {kv : Value} {cy : Nat → ClassId} {k : Nat} {r : Nat → Int32} (h : kd k = 1) : ce ad kv cy k r = .inr (4, [.int (r 0), .int (r 1), .int (r 2), .ref (ad 2), .ref (ad 3), .ref (ad 4), .ref (ad 5), .ref (ad 6), .ref (ad 7), .ref (ad 8), .ref (ad 9)]) := by
  unfold ce
  rw [h]
  rfl
theorem ce_2 {ad : Nat → Nat} {kv : Value} {cy : Nat → ClassId} {k : Nat} {r : Nat → Int32} (h : kd k = 2) : ce ad kv cy k r = .inr (5, [.int (r 0), .ref (ad 11), .ref (ad 12)]) := by
  unfold ce
  rw [h]
  rfl
theorem ce_3 {ad : Nat → Nat} {kv : Value} {cy : Nat → ClassId} {k : Nat} {r : Nat → Int32} (h : kd k = 3) : ce ad kv cy k r = .inr (1, [.int (r 0), .int (r 1), .int (r 2), .int (r 3), .ref (ad (k + 1)), .ref (ad (k + 2)), .ref (ad (k + 3))]) := by
  unfold ce
  rw [h]
  rfl
theorem ce_4 {ad : Nat → Nat} {kv : Value} {cy : Nat → ClassId} {k : Nat} {r : Nat → Int32} (h : kd k = 4) : ce ad kv cy k r = .inl (cy 1, 8, .inr (.inr (.inr (.inr (fun i => if i < 8 then some (ad (k + 3 + i)) else none))))) := by
  unfold ce
  rw [h]
  rfl
theorem ce_5 {ad : Nat → Nat} {kv : Value} {cy : Nat → ClassId} {k : Nat} {r : Nat → Int32} (h : kd k = 5) : ce ad kv cy k r = .inl (cy 2, 4, .inr (.inr (.inr (.inr (fun i => if i < 4 then some (ad (k + 10 + i)) else none))))) := by
  unfold ce
  rw [h]
  rfl
theorem ce_6 {ad : Nat → Nat} {kv : Value} {cy : Nat → ClassId} {k : Nat} {r : Nat → Int32} (h : kd k = 6) : ce ad kv cy k r = .inl (cy 3, 6, .inr (.inr (.inr (.inr (fun i => if i < 6 then some (ad (k + 13 + 15 * i)) else none))))) := by
  unfold ce
  rw [h]
  rfl
theorem ce_7 {ad : Nat → Nat} {kv : Value} {cy : Nat → ClassId} {k : Nat} {r : Nat → Int32} (h : kd k = 7) : ce ad kv cy k r = .inr (3, [.int (r 0), .int (r 1)]) := by
  unfold ce
  rw [h]
  rfl
theorem ce_8 {ad : Nat → Nat} {kv : Value} {cy : Nat → ClassId} {k : Nat} {r : Nat → Int32} (h : kd k = 8) : ce ad kv cy k r = .inr (2, [.int (r 0), .int (r 1), .int (r 2)]) := by
  unfold ce
  rw [h]
  rfl
theorem ce_9 {ad : Nat → Nat} {kv : Value} {cy : Nat → ClassId} {k : Nat} {r : Nat → Int32} (h : kd k = 9) : ce ad kv cy k r = .inr (0, [.int (r 0), .int (r 1), .int (r 2), .int (r 3), .int (r 4), .int (r 5), .ref (ad (k + 1)), .ref (ad (k + 2)), .ref (ad (k + 3)), .ref (ad (k + 6)), .ref (ad (k + 9))]) := by
  unfold ce
  rw [h]
  rfl
theorem ce_10 {ad : Nat → Nat} {kv : Value} {cy : Nat → ClassId} {k : Nat} {r : Nat → Int32} (h : kd k = 10) : ce ad kv cy k r = .inl (cy 0, 2, .inl r) := by
  unfold ce
  rw [h]
  rfl
theorem ce_11 {ad : Nat → Nat} {kv : Value} {cy : Nat → ClassId} {k : Nat} {r : Nat → Int32} (h : kd k = 11) : ce ad kv cy k r = .inl (cy 5, 2, .inr (.inr (.inr (.inr (fun i => if i < 2 then some (ad (k + 1 + i)) else none))))) := by
  unfold ce
  rw [h]
  rfl
theorem ce_12 {ad : Nat → Nat} {kv : Value} {cy : Nat → ClassId} {k : Nat} {r : Nat → Int32} (h : kd k = 12) : ce ad kv cy k r = .inl (cy 0, 5, .inl r) := by
  unfold ce
  rw [h]
  rfl
theorem ce_13 {ad : Nat → Nat} {kv : Value} {cy : Nat → ClassId} {k : Nat} {r : Nat → Int32} (h : kd k = 13) : ce ad kv cy k r = .inl (cy 5, 2, .inr (.inr (.inr (.inr (fun i => if i < 2 then some (ad (k + 1 + i)) else none))))) := by
  unfold ce
  rw [h]
  rfl
theorem ce_14 {ad : Nat → Nat} {kv : Value} {cy : Nat → ClassId} {k : Nat} {r : Nat → Int32} (h : kd k = 14) : ce ad kv cy k r = .inl (cy 0, 24, .inl r) := by
  unfold ce
  rw [h]
  rfl
theorem ce_15 {ad : Nat → Nat} {kv : Value} {cy : Nat → ClassId} {k : Nat} {r : Nat → Int32} (h : kd k = 15) : ce ad kv cy k r = .inl (cy 4, 5, .inr (.inr (.inr (.inr (fun i => if i < 5 then some (ad (k + 1 + i)) else none))))) := by
  unfold ce
  rw [h]
  rfl
theorem ce_16 {ad : Nat → Nat} {kv : Value} {cy : Nat → ClassId} {k : Nat} {r : Nat → Int32} (h : kd k = 16) : ce ad kv cy k r = .inr (6, [.int (r 0), .int (r 1), .int (r 2), .int (r 3), .int (r 4)]) := by
  unfold ce
  rw [h]
  rfl
theorem ce_17 {ad : Nat → Nat} {kv : Value} {cy : Nat → ClassId} {k : Nat} {r : Nat → Int32} (h : kd k = 17) : ce ad kv cy k r = .inl (cy 0, 4, .inl r) := by
  unfold ce
  rw [h]
  rfl
theorem ce_18 {ad : Nat → Nat} {kv : Value} {cy : Nat → ClassId} {k : Nat} {r : Nat → Int32} (h : kd k = 18) : ce ad kv cy k r = .inl (cy 0, 3, .inl r) := by
  unfold ce
  rw [h]
  rfl
theorem ce_19 {ad : Nat → Nat} {kv : Value} {cy : Nat → ClassId} {k : Nat} {r : Nat → Int32} (h : kd k = 19) : ce ad kv cy k r = .inl (cy 0, 5, .inl r) := by
  unfold ce
  rw [h]
  rfl
theorem ce_20 {ad : Nat → Nat} {kv : Value} {cy : Nat → ClassId} {k : Nat} {r : Nat → Int32} (h : kd k = 20) : ce ad kv cy k r = .inl (cy 0, 2, .inl r) := by
  unfold ce
  rw [h]
  rfl
theorem ce_21 {ad : Nat → Nat} {kv : Value} {cy : Nat → ClassId} {k : Nat} {r : Nat → Int32} (h : kd k = 21) : ce ad kv cy k r = .inl (cy 0, 4, .inl r) := by
  unfold ce
  rw [h]
  rfl
/-- the world of N places -/
def wl (ad : Nat → Nat) (kv : Value) (cy : Nat → ClassId) (N : Nat) (v : Nat → Nat → Int32) : va_W := (List.range N).map (fun k => (ad k, ce ad kv cy k (v k)))
def upr (v : Nat → Nat → Int32) (k : Nat) (r : Nat → Int32) : Nat → Nat → Int32 := fun a => if a = k then r else v a
theorem upr_s {v : Nat → Nat → Int32} {k : Nat} {r : Nat → Int32} : upr v k r k = r := if_pos rfl
theorem upr_n {v : Nat → Nat → Int32} {k a : Nat} {r : Nat → Int32} (h : a ≠ k) : upr v k r a = v a := if_neg h
theorem wl_at {ad : Nat → Nat} {kv : Value} {cy : Nat → ClassId} {N : Nat} {v : Nat → Nat → Int32} {k : Nat} {e : va_E} (hk : k < N) (h : ce ad kv cy k (v k) = e) : (wl ad kv cy N v)[k]? = some (ad k, e) := by
  unfold wl
  rw [List.getElem?_map, List.getElem?_range hk, ← h]
  rfl
theorem wl_put {ad : Nat → Nat} {kv : Value} {cy : Nat → ClassId} {N : Nat} {v : Nat → Nat → Int32} {k : Nat} {e : va_E} {r : Nat → Int32} (h : ce ad kv cy k r = e) : (wl ad kv cy N v).set k (ad k, e) = wl ad kv cy N (upr v k r) := by
  apply List.ext_getElem?
  intro i
  unfold wl
  rw [List.getElem?_set]
  by_cases hi : i < N
  · by_cases hk : k = i
    · subst hk
      rw [if_pos rfl, List.getElem?_map, List.getElem?_range hi, if_pos (by rw [List.length_map, List.length_range]; exact hi), ← h]
      show _ = some (ad k, ce ad kv cy k (upr v k r k))
      rw [upr_s]
    · rw [if_neg hk, List.getElem?_map, List.getElem?_map, List.getElem?_range hi]
      show some (ad i, ce ad kv cy i (v i)) = some (ad i, ce ad kv cy i (upr v k r i))
      rw [upr_n (fun q => hk q.symm)]
  · have e1 : (List.range N)[i]? = none := List.getElem?_eq_none (by rw [List.length_range]; omega)
    rw [List.getElem?_map, List.getElem?_map, e1]
    by_cases hk : k = i
    · subst hk
      rw [if_pos rfl, if_neg (by rw [List.length_map, List.length_range]; exact hi)]
      rfl
    · rw [if_neg hk]
      rfl
/-- the numbers that a place may hold: 0 to this one -/
def bd (K j : Nat) : Option Int := match K with
  | 1 => if j = 1 then some 4 else none
  | 2 => if j = 0 then some 5 else none
  | 3 => if j = 0 then some 8 else if j = 1 then some 4 else if j = 2 then some 6 else if j = 3 then some 6 else none
  | 9 => if j = 2 then some 5 else if j = 5 then some 5 else none
  | 10 => some 7
  | 16 => if j = 0 then some 1 else if j = 1 then some 1 else if j = 3 then some 23 else if j = 4 then some 23 else none
  | 21 => some 3
  | _ => none
def Iv (v : Nat → Nat → Int32) : Prop := ∀ (k j : Nat) (h : Int), bd (kd k) j = some h → 0 ≤ (v k j).toInt ∧ (v k j).toInt ≤ h
theorem Iv.at {v : Nat → Nat → Int32} (hv : Iv v) {k j K : Nat} {h : Int} (hk : kd k = K) (hb : bd K j = some h) : 0 ≤ (v k j).toInt ∧ (v k j).toInt ≤ h := hv k j h (by rw [hk]; exact hb)
theorem Iv.put {v : Nat → Nat → Int32} (hv : Iv v) {k j K : Nat} {x : Int32} (hk : kd k = K) (hx : ∀ h : Int, bd K j = some h → 0 ≤ x.toInt ∧ x.toInt ≤ h) : Iv (upr v k (upd (v k) j x)) := by
  intro a b h q
  by_cases ha : a = k
  · subst ha
    rw [upr_s]
    by_cases hb : b = j
    · subst hb
      rw [pk_us]
      exact hx h (by rw [← hk]; exact q)
    · rw [pk_un hb]
      exact hv a b h q
  · rw [upr_n ha]
    exact hv a b h q
/-- Party i, Mediator i, Case i and its cells, in the House that stands at place 13 and in the one at 119 -/
theorem kd_p : ∀ i, i < 8 → kd (17 + i) = 7 ∧ kd (123 + i) = 7 := by decide
theorem kd_m : ∀ i, i < 4 → kd (25 + i) = 8 ∧ kd (131 + i) = 8 := by decide
theorem kd_c : ∀ i, i < 6 → (kd (29 + 15 * i) = 9 ∧ kd (30 + 15 * i) = 10 ∧ kd (31 + 15 * i) = 20 ∧ kd (32 + 15 * i) = 11 ∧ kd (35 + 15 * i) = 13 ∧ kd (38 + 15 * i) = 15) ∧ (kd (135 + 15 * i) = 9 ∧ kd (136 + 15 * i) = 10 ∧ kd (137 + 15 * i) = 20 ∧ kd (138 + 15 * i) = 11 ∧ kd (141 + 15 * i) = 13 ∧ kd (144 + 15 * i) = 15) := by decide
theorem kd_o : ∀ i, i < 6 → ∀ j, j < 2 → (kd (33 + 15 * i + j) = 12 ∧ kd (36 + 15 * i + j) = 14) ∧ (kd (139 + 15 * i + j) = 12 ∧ kd (142 + 15 * i + j) = 14) := by decide
theorem kd_t : ∀ i, i < 6 → ∀ j, j < 5 → kd (39 + 15 * i + j) = 16 ∧ kd (145 + 15 * i + j) = 16 := by decide
theorem t_add {x y : Int32} (h : -2147483648 ≤ x.toInt + y.toInt ∧ x.toInt + y.toInt < 2147483648) : (x + y).toInt = x.toInt + y.toInt := by
  rw [Int32.toInt_add]
  exact Int.bmod_eq_of_le (by omega) (by omega)
theorem t_sub {x y : Int32} (h : -2147483648 ≤ x.toInt - y.toInt ∧ x.toInt - y.toInt < 2147483648) : (x - y).toInt = x.toInt - y.toInt := by
  rw [Int32.toInt_sub]
  exact Int.bmod_eq_of_le (by omega) (by omega)
theorem t_in {x : Int32} {n : Nat} (h : 0 ≤ x.toInt ∧ x.toInt < n) : vp_in x n ∧ ∃ i : Nat, i < n ∧ x.toNatClampNeg = i ∧ x.toInt = i := by
  refine ⟨vp_in_iff.mpr h, x.toInt.toNat, by omega, rfl, by omega⟩
/-- the counts of parties and mediators, now and kept, and the rooms stay -/
def Fr (v u : Nat → Nat → Int32) : Prop := u 13 0 = v 13 0 ∧ u 13 1 = v 13 1 ∧ u 0 4 = v 0 4 ∧ u 119 0 = v 119 0 ∧ u 119 1 = v 119 1
theorem Fr.rf {v : Nat → Nat → Int32} : Fr v v := ⟨rfl, rfl, rfl, rfl, rfl⟩
theorem Fr.trans {v u w : Nat → Nat → Int32} (h : Fr v u) (g : Fr u w) : Fr v w := ⟨g.1.trans h.1, g.2.1.trans h.2.1, g.2.2.1.trans h.2.2.1, g.2.2.2.1.trans h.2.2.2.1, g.2.2.2.2.trans h.2.2.2.2⟩
theorem Fr.put {v u : Nat → Nat → Int32} {k j : Nat} {x : Int32} (h : Fr v u) (h1 : k ≠ 13) (h2 : k ≠ 0) (h3 : k ≠ 119) : Fr v (upr u k (upd (u k) j x)) := by
  unfold Fr
  rw [upr_n (Ne.symm h1), upr_n (Ne.symm h2), upr_n (Ne.symm h3)]
  exact h
theorem Fr.putj {v u : Nat → Nat → Int32} {k j : Nat} {x : Int32} (h : Fr v u) (hj : j ≠ 0 ∧ j ≠ 1 ∧ j ≠ 4) : Fr v (upr u k (upd (u k) j x)) := by
  have key : ∀ a b : Nat, b = 0 ∨ b = 1 ∨ b = 4 → upr u k (upd (u k) j x) a b = u a b := fun a b hb => by
    by_cases ha : a = k
    · subst ha
      rw [upr_s, pk_un (by omega)]
    · rw [upr_n ha]
  unfold Fr
  rw [key 13 0 (by omega), key 13 1 (by omega), key 0 4 (by omega), key 119 0 (by omega), key 119 1 (by omega)]
  exact h
/-- the whole first row of the House stays, too -/
def Fs (v u : Nat → Nat → Int32) : Prop := (∀ j, u 13 j = v 13 j) ∧ Fr v u
theorem Fs.rf {v : Nat → Nat → Int32} : Fs v v := ⟨fun _ => rfl, Fr.rf⟩
theorem Fs.trans {v u w : Nat → Nat → Int32} (h : Fs v u) (g : Fs u w) : Fs v w := ⟨fun j => (g.1 j).trans (h.1 j), h.2.trans g.2⟩
theorem Fs.put {v u : Nat → Nat → Int32} {k j : Nat} {x : Int32} (h : Fs v u) (h1 : k ≠ 13) (h2 : k ≠ 0) (h3 : k ≠ 119) : Fs v (upr u k (upd (u k) j x)) := ⟨fun j => by rw [upr_n (Ne.symm h1)]; exact h.1 j, h.2.put h1 h2 h3⟩
/-- nothing has changed -/
def Fe (v u : Nat → Nat → Int32) : Prop := u = v
theorem Fe.rf {v : Nat → Nat → Int32} : Fe v v := rfl
theorem Fe.trans {v u w : Nat → Nat → Int32} (h : Fe v u) (g : Fe u w) : Fe v w := Eq.trans g h
theorem Fe.to {P : (Nat → Nat → Int32) → Prop} {v u : Nat → Nat → Int32} (h : Fe v u) (g : P v) : P u := by
  unfold Fe at h
  rw [h]
  exact g
section YA
variable {p : Program} {l : Launch} {e : Env} {R : Room} {s : State} {m : MethodId} {args : Array Value} {below : List Frame} {meth : Method} {c : Code} {H : Heap} {locs : List Loc} {cells slots : Nat} {Q : State → Prop}
variable {cc : ByteArray} {pc : Nat} {ls : Array Slot} {rest : List Value} {D : va_G} {cl : List vw_C} {cy : Nat → ClassId} {ws : va_W} {a : Nat}
/-- a row of an int[][] -/
theorem ya_ald (hexec : p.tables.exec = Jvm.exec) (hb : c.code = cc) (hK : va_K D cl (ty_L cy) s) (hP : va_P D cl ws H) (q0 : Nat) {n : Nat} {f : Nat → Option Nat} (ha : ws[q0]? = some (a, .inl (cy 5, n, .inr (.inr (.inr (.inr f)))))) {i : Int32} (hin : vp_in i n) (hdg : decode cc pc = .ok (.aaload, 1))
    (kk : W p l e R s m args below meth c H locs cells slots Q (F0 m (pc + 1) ls (va_rf (f i.toNatClampNeg) :: rest))) : W p l e R s m args below meth c H locs cells slots Q (F0 m pc ls (.int i :: .ref a :: rest)) := by
  have hlt : i.toNatClampNeg < n := Nat.not_le.mp fun q => hin (Or.inr q)
  exact W.aald (v := va_rf (f i.toNatClampNeg)) (ty := .array .int) hexec hb (hP q0 _ ha) ((hK.2 5 _ rfl).1 n (fun j => va_rf (f j))) rfl (fun q => by cases q) (by show ¬ (i < 0 ∨ (arrV _ _ _).slots.size ≤ _); rw [arrV_size]; exact hin) (by show (arrV _ _ _).slots[_]? = _; rw [arrV_read _ _ hlt]) rfl rfl hdg kk
end YA
/-- calls that take the whole world -/
theorem yw_F {A : Nat → Prop} {ws : va_W} {H0 H : Heap} {locs : List Loc} (hD : va_D A ws) (hS : va_S A H0 H locs) (hA : ∀ q, H0.size ≤ q → A q) : ∀ q, va_A ws H.size q → A q := fun q h => h.elim (fun ⟨k, e, hk⟩ => hD.2 k (q, e) hk) (fun h => hA q (Nat.le_trans hS.1 h))
theorem yw_preS {s : State} {H : Heap} {dC : Nat → ClassId} {dI : Nat → Nat → Nat} {cy : Nat → ClassId} {A : Nat → Prop} {ws : va_W} {As : List Value} (hE : ex_K s) (hK : va_K (dC, dI) vwCl (ty_L cy) s) (hP : va_P (dC, dI) vwCl ws H) (hD : va_D A ws) : PreS s H (va_Pc As (ex_Pre dC dI cy H.size ws)) As :=
  ⟨ex_blind, fun U hU hW => ⟨rfl, by rw [hU], hE.warm hW, by rw [hU]; exact hP, va_K.moved hW.alike hK, hD.weaken (fun _ _ _ _ => trivial)⟩⟩
theorem yw_preV {s : State} {H : Heap} {dC : Nat → ClassId} {dI : Nat → Nat → Nat} {cy : Nat → ClassId} {A : Nat → Prop} {ws : va_W} {As : List Value} {b q0 ci : Nat} {q : vw_C} {fs : List Value} (hE : ex_K s) (hK : va_K (dC, dI) vwCl (ty_L cy) s) (hP : va_P (dC, dI) vwCl ws H) (hD : va_D A ws) (hc : vwCl[ci]? = some q) (he : ws[q0]? = some (b, .inr (ci, fs))) : PreV s H q.1 b (va_Pc (.ref b :: As) (ex_Pre dC dI cy H.size ws)) As :=
  ⟨ex_blind, va_recv hK hP hc he, (yw_preS (As := .ref b :: As) hE hK hP hD).2⟩
section YW
variable {p : Program} {l : Launch} {e : Env} {R : Room} {s : State} {m : MethodId} {args : Array Value} {below : List Frame} {meth : Method} {c : Code} {H : Heap} {locs : List Loc} {cells slots : Nat} {Q : State → Prop}
variable {pc : Nat} {ls : Array Slot} {rest st0 : List Value} {a : Array Value} {A : Nat → Prop} {H0 : Heap} {mc ms : Nat} {dC : Nat → ClassId} {dI : Nat → Nat → Nat} {ws : va_W}
theorem yw_i {S : Type} {post : Int32 → S → Prop} {w1 : S → va_W} (hD : va_D A ws) (hS : va_S A H0 H locs) (hA : ∀ q, H0.size ≤ q → A q)
    (hr : va_Run p l e R s m args below meth c H locs cells slots mc ms (F0 m pc ls st0) rest (va_Qi post (fun u t => ex_Pst dC dI (va_A ws H.size) (w1 u) t) (va_A ws H.size) a) (va_A ws H.size))
    (kk : ∀ (r : Int32) (u : S) (H1 : Heap) (locs1 : List Loc), post r u → va_P (dC, dI) vwCl (w1 u) H1 → va_D A (w1 u) → va_S A H0 H1 locs1 → W p l e R s m args below meth c H1 locs1 (cells + mc) (slots + ms) Q (F0 m (pc + 3) ls (.int r :: rest))) : W p l e R s m args below meth c H locs cells slots Q (F0 m pc ls st0) := by
  have hF := yw_F hD hS hA
  refine va_calli hr hS (fun q _ h => hF q h) hF (fun r u t H1 locs1 ht hvm hw hB hz1 hk1 hS1 => ?_)
  obtain ⟨hP1, hD1⟩ := hB
  rw [ht] at hP1
  exact kk r u H1 locs1 hw hP1 (hD1.weaken (fun k q _ h => hF q.1 h)) hS1
theorem yw_v {S : Type} {post : S → Prop} {w1 : S → va_W} (hD : va_D A ws) (hS : va_S A H0 H locs) (hA : ∀ q, H0.size ≤ q → A q)
    (hr : va_Run p l e R s m args below meth c H locs cells slots mc ms (F0 m pc ls st0) rest (va_Qv post (fun u t => ex_Pst dC dI (va_A ws H.size) (w1 u) t) (va_A ws H.size) a) (va_A ws H.size))
    (kk : ∀ (u : S) (H1 : Heap) (locs1 : List Loc), post u → va_P (dC, dI) vwCl (w1 u) H1 → va_D A (w1 u) → va_S A H0 H1 locs1 → W p l e R s m args below meth c H1 locs1 (cells + mc) (slots + ms) Q (F0 m (pc + 3) ls rest)) : W p l e R s m args below meth c H locs cells slots Q (F0 m pc ls st0) := by
  have hF := yw_F hD hS hA
  refine va_callv hr hS (fun q _ h => hF q h) hF (fun u t H1 locs1 ht hvm hw hB hz1 hk1 hS1 => ?_)
  obtain ⟨hP1, hD1⟩ := hB
  rw [ht] at hP1
  exact kk u H1 locs1 hw hP1 (hD1.weaken (fun k q _ h => hF q.1 h)) hS1
end YW
end
section
theorem dX7_isWithin_0 : decode cX7_isWithin 0 = .ok (.iload_n 0, 1) := by decide +kernel
theorem dX7_isWithin_1 : decode cX7_isWithin 1 = .ok (.iload_n 1, 1) := by decide +kernel
theorem dX7_isWithin_2 : decode cX7_isWithin 2 = .ok (.if_icmp .lt 12, 3) := by decide +kernel
theorem dX7_isWithin_14 : decode cX7_isWithin 14 = .ok (.iconst 0, 1) := by decide +kernel
theorem dX7_isWithin_15 : decode cX7_isWithin 15 = .ok (.ireturn, 1) := by decide +kernel
theorem dX7_isWithin_5 : decode cX7_isWithin 5 = .ok (.iload_n 0, 1) := by decide +kernel
theorem dX7_isWithin_6 : decode cX7_isWithin 6 = .ok (.iload_n 2, 1) := by decide +kernel
theorem dX7_isWithin_7 : decode cX7_isWithin 7 = .ok (.if_icmp .gt 7, 3) := by decide +kernel
theorem dX7_isWithin_10 : decode cX7_isWithin 10 = .ok (.iconst 1, 1) := by decide +kernel
theorem dX7_isWithin_11 : decode cX7_isWithin 11 = .ok (.goto 4, 3) := by decide +kernel
theorem dX8_in_0 : decode cX8_in 0 = .ok (.iload_n 0, 1) := by decide +kernel
theorem dX8_in_1 : decode cX8_in 1 = .ok (.iload_n 1, 1) := by decide +kernel
theorem dX8_in_2 : decode cX8_in 2 = .ok (.if_icmp .lt 12, 3) := by decide +kernel
theorem dX8_in_14 : decode cX8_in 14 = .ok (.iconst 0, 1) := by decide +kernel
theorem dX8_in_15 : decode cX8_in 15 = .ok (.ireturn, 1) := by decide +kernel
theorem dX8_in_5 : decode cX8_in 5 = .ok (.iload_n 0, 1) := by decide +kernel
theorem dX8_in_6 : decode cX8_in 6 = .ok (.iload_n 2, 1) := by decide +kernel
theorem dX8_in_7 : decode cX8_in 7 = .ok (.if_icmp .gt 7, 3) := by decide +kernel
theorem dX8_in_10 : decode cX8_in 10 = .ok (.iconst 1, 1) := by decide +kernel
theorem dX8_in_11 : decode cX8_in 11 = .ok (.goto 4, 3) := by decide +kernel
theorem wi_ca {r x a b : Int32} (h : r = if a ≤ x ∧ x ≤ b then 1 else 0) : (r = 1 ∧ (a ≤ x ∧ x ≤ b)) ∨ (r = 0 ∧ ¬ (a ≤ x ∧ x ≤ b)) := by
  by_cases q : a ≤ x ∧ x ≤ b
  · rw [if_pos q] at h
    exact Or.inl ⟨h, q⟩
  · rw [if_neg q] at h
    exact Or.inr ⟨h, q⟩
theorem wi_tl {x a b : Int32} (h : a ≤ x ∧ x ≤ b) : a.toInt ≤ x.toInt ∧ x.toInt ≤ b.toInt := ⟨Int32.le_iff_toInt_le.mp h.1, Int32.le_iff_toInt_le.mp h.2⟩

theorem sw_5 (x : Int32) : (x.toInt < 0 ∨ 4 < x.toInt) ∨ x = 0 ∨ x = 1 ∨ x = 2 ∨ x = 3 ∨ x = 4 := by
  by_cases h : x.toInt < 0 ∨ 4 < x.toInt
  · exact Or.inl h
  · have q : x.toInt = 0 ∨ x.toInt = 1 ∨ x.toInt = 2 ∨ x.toInt = 3 ∨ x.toInt = 4 := by omega
    refine Or.inr ?_
    rcases q with q | q | q | q | q
    · exact Or.inl (Int32.toInt_inj.mp (q.trans (by decide)))
    · exact Or.inr (Or.inl (Int32.toInt_inj.mp (q.trans (by decide))))
    · exact Or.inr (Or.inr (Or.inl (Int32.toInt_inj.mp (q.trans (by decide)))))
    · exact Or.inr (Or.inr (Or.inr (Or.inl (Int32.toInt_inj.mp (q.trans (by decide))))))
    · exact Or.inr (Or.inr (Or.inr (Or.inr ((Int32.toInt_inj.mp (q.trans (by decide)))))))

theorem sw_6 (x : Int32) : (x.toInt < 0 ∨ 5 < x.toInt) ∨ x = 0 ∨ x = 1 ∨ x = 2 ∨ x = 3 ∨ x = 4 ∨ x = 5 := by
  by_cases h : x.toInt < 0 ∨ 5 < x.toInt
  · exact Or.inl h
  · have q : x.toInt = 0 ∨ x.toInt = 1 ∨ x.toInt = 2 ∨ x.toInt = 3 ∨ x.toInt = 4 ∨ x.toInt = 5 := by omega
    refine Or.inr ?_
    rcases q with q | q | q | q | q | q
    · exact Or.inl (Int32.toInt_inj.mp (q.trans (by decide)))
    · exact Or.inr (Or.inl (Int32.toInt_inj.mp (q.trans (by decide))))
    · exact Or.inr (Or.inr (Or.inl (Int32.toInt_inj.mp (q.trans (by decide)))))
    · exact Or.inr (Or.inr (Or.inr (Or.inl (Int32.toInt_inj.mp (q.trans (by decide))))))
    · exact Or.inr (Or.inr (Or.inr (Or.inr (Or.inl (Int32.toInt_inj.mp (q.trans (by decide)))))))
    · exact Or.inr (Or.inr (Or.inr (Or.inr (Or.inr ((Int32.toInt_inj.mp (q.trans (by decide))))))))

theorem sw_8 (x : Int32) : (x.toInt < 0 ∨ 7 < x.toInt) ∨ x = 0 ∨ x = 1 ∨ x = 2 ∨ x = 3 ∨ x = 4 ∨ x = 5 ∨ x = 6 ∨ x = 7 := by
  by_cases h : x.toInt < 0 ∨ 7 < x.toInt
  · exact Or.inl h
  · have q : x.toInt = 0 ∨ x.toInt = 1 ∨ x.toInt = 2 ∨ x.toInt = 3 ∨ x.toInt = 4 ∨ x.toInt = 5 ∨ x.toInt = 6 ∨ x.toInt = 7 := by omega
    refine Or.inr ?_
    rcases q with q | q | q | q | q | q | q | q
    · exact Or.inl (Int32.toInt_inj.mp (q.trans (by decide)))
    · exact Or.inr (Or.inl (Int32.toInt_inj.mp (q.trans (by decide))))
    · exact Or.inr (Or.inr (Or.inl (Int32.toInt_inj.mp (q.trans (by decide)))))
    · exact Or.inr (Or.inr (Or.inr (Or.inl (Int32.toInt_inj.mp (q.trans (by decide))))))
    · exact Or.inr (Or.inr (Or.inr (Or.inr (Or.inl (Int32.toInt_inj.mp (q.trans (by decide)))))))
    · exact Or.inr (Or.inr (Or.inr (Or.inr (Or.inr (Or.inl (Int32.toInt_inj.mp (q.trans (by decide))))))))
    · exact Or.inr (Or.inr (Or.inr (Or.inr (Or.inr (Or.inr (Or.inl (Int32.toInt_inj.mp (q.trans (by decide)))))))))
    · exact Or.inr (Or.inr (Or.inr (Or.inr (Or.inr (Or.inr (Or.inr ((Int32.toInt_inj.mp (q.trans (by decide))))))))))

theorem sw_11 (x : Int32) : (x.toInt < 0 ∨ 10 < x.toInt) ∨ x = 0 ∨ x = 1 ∨ x = 2 ∨ x = 3 ∨ x = 4 ∨ x = 5 ∨ x = 6 ∨ x = 7 ∨ x = 8 ∨ x = 9 ∨ x = 10 := by
  by_cases h : x.toInt < 0 ∨ 10 < x.toInt
  · exact Or.inl h
  · have q : x.toInt = 0 ∨ x.toInt = 1 ∨ x.toInt = 2 ∨ x.toInt = 3 ∨ x.toInt = 4 ∨ x.toInt = 5 ∨ x.toInt = 6 ∨ x.toInt = 7 ∨ x.toInt = 8 ∨ x.toInt = 9 ∨ x.toInt = 10 := by omega
    refine Or.inr ?_
    rcases q with q | q | q | q | q | q | q | q | q | q | q
    · exact Or.inl (Int32.toInt_inj.mp (q.trans (by decide)))
    · exact Or.inr (Or.inl (Int32.toInt_inj.mp (q.trans (by decide))))
    · exact Or.inr (Or.inr (Or.inl (Int32.toInt_inj.mp (q.trans (by decide)))))
    · exact Or.inr (Or.inr (Or.inr (Or.inl (Int32.toInt_inj.mp (q.trans (by decide))))))
    · exact Or.inr (Or.inr (Or.inr (Or.inr (Or.inl (Int32.toInt_inj.mp (q.trans (by decide)))))))
    · exact Or.inr (Or.inr (Or.inr (Or.inr (Or.inr (Or.inl (Int32.toInt_inj.mp (q.trans (by decide))))))))
    · exact Or.inr (Or.inr (Or.inr (Or.inr (Or.inr (Or.inr (Or.inl (Int32.toInt_inj.mp (q.trans (by decide)))))))))
    · exact Or.inr (Or.inr (Or.inr (Or.inr (Or.inr (Or.inr (Or.inr (Or.inl (Int32.toInt_inj.mp (q.trans (by decide))))))))))
    · exact Or.inr (Or.inr (Or.inr (Or.inr (Or.inr (Or.inr (Or.inr (Or.inr (Or.inl (Int32.toInt_inj.mp (q.trans (by decide)))))))))))
    · exact Or.inr (Or.inr (Or.inr (Or.inr (Or.inr (Or.inr (Or.inr (Or.inr (Or.inr (Or.inl (Int32.toInt_inj.mp (q.trans (by decide))))))))))))
    · exact Or.inr (Or.inr (Or.inr (Or.inr (Or.inr (Or.inr (Or.inr (Or.inr (Or.inr (Or.inr ((Int32.toInt_inj.mp (q.trans (by decide)))))))))))))

theorem sw_26 (x : Int32) : (x.toInt < 0 ∨ 25 < x.toInt) ∨ x = 0 ∨ x = 1 ∨ x = 2 ∨ x = 3 ∨ x = 4 ∨ x = 5 ∨ x = 6 ∨ x = 7 ∨ x = 8 ∨ x = 9 ∨ x = 10 ∨ x = 11 ∨ x = 12 ∨ x = 13 ∨ x = 14 ∨ x = 15 ∨ x = 16 ∨ x = 17 ∨ x = 18 ∨ x = 19 ∨ x = 20 ∨ x = 21 ∨ x = 22 ∨ x = 23 ∨ x = 24 ∨ x = 25 := by
  by_cases h : x.toInt < 0 ∨ 25 < x.toInt
  · exact Or.inl h
  · have q : x.toInt = 0 ∨ x.toInt = 1 ∨ x.toInt = 2 ∨ x.toInt = 3 ∨ x.toInt = 4 ∨ x.toInt = 5 ∨ x.toInt = 6 ∨ x.toInt = 7 ∨ x.toInt = 8 ∨ x.toInt = 9 ∨ x.toInt = 10 ∨ x.toInt = 11 ∨ x.toInt = 12 ∨ x.toInt = 13 ∨ x.toInt = 14 ∨ x.toInt = 15 ∨ x.toInt = 16 ∨ x.toInt = 17 ∨ x.toInt = 18 ∨ x.toInt = 19 ∨ x.toInt = 20 ∨ x.toInt = 21 ∨ x.toInt = 22 ∨ x.toInt = 23 ∨ x.toInt = 24 ∨ x.toInt = 25 := by omega
    refine Or.inr ?_
    rcases q with q | q | q | q | q | q | q | q | q | q | q | q | q | q | q | q | q | q | q | q | q | q | q | q | q | q
    · exact Or.inl (Int32.toInt_inj.mp (q.trans (by decide)))
    · exact Or.inr (Or.inl (Int32.toInt_inj.mp (q.trans (by decide))))
    · exact Or.inr (Or.inr (Or.inl (Int32.toInt_inj.mp (q.trans (by decide)))))
    · exact Or.inr (Or.inr (Or.inr (Or.inl (Int32.toInt_inj.mp (q.trans (by decide))))))
    · exact Or.inr (Or.inr (Or.inr (Or.inr (Or.inl (Int32.toInt_inj.mp (q.trans (by decide)))))))
    · exact Or.inr (Or.inr (Or.inr (Or.inr (Or.inr (Or.inl (Int32.toInt_inj.mp (q.trans (by decide))))))))
    · exact Or.inr (Or.inr (Or.inr (Or.inr (Or.inr (Or.inr (Or.inl (Int32.toInt_inj.mp (q.trans (by decide)))))))))
    · exact Or.inr (Or.inr (Or.inr (Or.inr (Or.inr (Or.inr (Or.inr (Or.inl (Int32.toInt_inj.mp (q.trans (by decide))))))))))
    · exact Or.inr (Or.inr (Or.inr (Or.inr (Or.inr (Or.inr (Or.inr (Or.inr (Or.inl (Int32.toInt_inj.mp (q.trans (by decide)))))))))))
    · exact Or.inr (Or.inr (Or.inr (Or.inr (Or.inr (Or.inr (Or.inr (Or.inr (Or.inr (Or.inl (Int32.toInt_inj.mp (q.trans (by decide))))))))))))
    · exact Or.inr (Or.inr (Or.inr (Or.inr (Or.inr (Or.inr (Or.inr (Or.inr (Or.inr (Or.inr (Or.inl (Int32.toInt_inj.mp (q.trans (by decide)))))))))))))
    · exact Or.inr (Or.inr (Or.inr (Or.inr (Or.inr (Or.inr (Or.inr (Or.inr (Or.inr (Or.inr (Or.inr (Or.inl (Int32.toInt_inj.mp (q.trans (by decide))))))))))))))
    · exact Or.inr (Or.inr (Or.inr (Or.inr (Or.inr (Or.inr (Or.inr (Or.inr (Or.inr (Or.inr (Or.inr (Or.inr (Or.inl (Int32.toInt_inj.mp (q.trans (by decide)))))))))))))))
    · exact Or.inr (Or.inr (Or.inr (Or.inr (Or.inr (Or.inr (Or.inr (Or.inr (Or.inr (Or.inr (Or.inr (Or.inr (Or.inr (Or.inl (Int32.toInt_inj.mp (q.trans (by decide))))))))))))))))
    · exact Or.inr (Or.inr (Or.inr (Or.inr (Or.inr (Or.inr (Or.inr (Or.inr (Or.inr (Or.inr (Or.inr (Or.inr (Or.inr (Or.inr (Or.inl (Int32.toInt_inj.mp (q.trans (by decide)))))))))))))))))
    · exact Or.inr (Or.inr (Or.inr (Or.inr (Or.inr (Or.inr (Or.inr (Or.inr (Or.inr (Or.inr (Or.inr (Or.inr (Or.inr (Or.inr (Or.inr (Or.inl (Int32.toInt_inj.mp (q.trans (by decide))))))))))))))))))
    · exact Or.inr (Or.inr (Or.inr (Or.inr (Or.inr (Or.inr (Or.inr (Or.inr (Or.inr (Or.inr (Or.inr (Or.inr (Or.inr (Or.inr (Or.inr (Or.inr (Or.inl (Int32.toInt_inj.mp (q.trans (by decide)))))))))))))))))))
    · exact Or.inr (Or.inr (Or.inr (Or.inr (Or.inr (Or.inr (Or.inr (Or.inr (Or.inr (Or.inr (Or.inr (Or.inr (Or.inr (Or.inr (Or.inr (Or.inr (Or.inr (Or.inl (Int32.toInt_inj.mp (q.trans (by decide))))))))))))))))))))
    · exact Or.inr (Or.inr (Or.inr (Or.inr (Or.inr (Or.inr (Or.inr (Or.inr (Or.inr (Or.inr (Or.inr (Or.inr (Or.inr (Or.inr (Or.inr (Or.inr (Or.inr (Or.inr (Or.inl (Int32.toInt_inj.mp (q.trans (by decide)))))))))))))))))))))
    · exact Or.inr (Or.inr (Or.inr (Or.inr (Or.inr (Or.inr (Or.inr (Or.inr (Or.inr (Or.inr (Or.inr (Or.inr (Or.inr (Or.inr (Or.inr (Or.inr (Or.inr (Or.inr (Or.inr (Or.inl (Int32.toInt_inj.mp (q.trans (by decide))))))))))))))))))))))
    · exact Or.inr (Or.inr (Or.inr (Or.inr (Or.inr (Or.inr (Or.inr (Or.inr (Or.inr (Or.inr (Or.inr (Or.inr (Or.inr (Or.inr (Or.inr (Or.inr (Or.inr (Or.inr (Or.inr (Or.inr (Or.inl (Int32.toInt_inj.mp (q.trans (by decide)))))))))))))))))))))))
    · exact Or.inr (Or.inr (Or.inr (Or.inr (Or.inr (Or.inr (Or.inr (Or.inr (Or.inr (Or.inr (Or.inr (Or.inr (Or.inr (Or.inr (Or.inr (Or.inr (Or.inr (Or.inr (Or.inr (Or.inr (Or.inr (Or.inl (Int32.toInt_inj.mp (q.trans (by decide))))))))))))))))))))))))
    · exact Or.inr (Or.inr (Or.inr (Or.inr (Or.inr (Or.inr (Or.inr (Or.inr (Or.inr (Or.inr (Or.inr (Or.inr (Or.inr (Or.inr (Or.inr (Or.inr (Or.inr (Or.inr (Or.inr (Or.inr (Or.inr (Or.inr (Or.inl (Int32.toInt_inj.mp (q.trans (by decide)))))))))))))))))))))))))
    · exact Or.inr (Or.inr (Or.inr (Or.inr (Or.inr (Or.inr (Or.inr (Or.inr (Or.inr (Or.inr (Or.inr (Or.inr (Or.inr (Or.inr (Or.inr (Or.inr (Or.inr (Or.inr (Or.inr (Or.inr (Or.inr (Or.inr (Or.inr (Or.inl (Int32.toInt_inj.mp (q.trans (by decide))))))))))))))))))))))))))
    · exact Or.inr (Or.inr (Or.inr (Or.inr (Or.inr (Or.inr (Or.inr (Or.inr (Or.inr (Or.inr (Or.inr (Or.inr (Or.inr (Or.inr (Or.inr (Or.inr (Or.inr (Or.inr (Or.inr (Or.inr (Or.inr (Or.inr (Or.inr (Or.inr (Or.inl (Int32.toInt_inj.mp (q.trans (by decide)))))))))))))))))))))))))))
    · exact Or.inr (Or.inr (Or.inr (Or.inr (Or.inr (Or.inr (Or.inr (Or.inr (Or.inr (Or.inr (Or.inr (Or.inr (Or.inr (Or.inr (Or.inr (Or.inr (Or.inr (Or.inr (Or.inr (Or.inr (Or.inr (Or.inr (Or.inr (Or.inr (Or.inr ((Int32.toInt_inj.mp (q.trans (by decide))))))))))))))))))))))))))))

theorem t_shl {x : Int32} (h : 0 ≤ x.toInt ∧ x.toInt ≤ 5) : 1 ≤ ((1 : Int32) <<< (x &&& 31)).toInt ∧ ((1 : Int32) <<< (x &&& 31)).toInt ≤ 32 := by
  rcases sw_6 x with q | rfl | rfl | rfl | rfl | rfl | rfl
  · omega
  · decide
  · decide
  · decide
  · decide
  · decide
  · decide

set_option maxHeartbeats 4000000 in
set_option maxRecDepth 100000 in
theorem c_X7_isWithin (l : Launch) (x0 x1 x2 : Int32) : Met l yX7_isWithin wsX7_isWithin ({ frames := 0, cells := 0, slots := 0, locals := 0 }) (va_Pc [.int x0, .int x1, .int x2] (fun _ => True)) (va_Qi (fun (r : Int32) (_ : Unit) => r = if x1 ≤ x0 ∧ x0 ≤ x2 then 1 else 0) (fun _ _ => True) (fun _ => False)) 0 0 (fun _ => False) := by
  refine Met.ofW (cc := cX7_isWithin) (maxL := 3) (ret := (some .boolean)) (by decide) rfl ?_
  intro p e s m args below meth c s₁ B hml hv
  obtain ⟨rfl, -⟩ := hv
  have hx := B.exec
  have hb := B.bytes
  have hr := B.returns
  have hts := atoms_spec (ws := wsX7_isWithin) B.pre
  have hown : s.vm.findClass RX7 = some m.cls := findClass_of_methodNamed B.named
  have hlocks := B.notSynchronized
  have hl := lv_entry ([.int x0, .int x1, .int x2]) (n := 3) (Nat.le_of_ble_eq_true rfl)
  rw [lg_entry_eq]
  generalize (lg_sl ([.int x0, .int x1, .int x2]) ++ List.replicate (3 - (lg_sl ([.int x0, .int x1, .int x2])).length) Slot.unset).toArray = ls at hl ⊢
  have hl : lv_has ls 3 [(0, .int x0), (1, .int x1), (2, .int x2)] := hl
  have hS : va_S (fun _ => False) s.heap s.heap [] := va_S.rf
  refine lv_iload_n hx hb dX7_isWithin_0 rfl (lv_at hl 0 rfl) ?_
  refine lv_iload_n hx hb dX7_isWithin_1 rfl (lv_at hl 1 rfl) ?_
  refine lv_icmp_lt (tgt := 14) hx hb dX7_isWithin_2 (by decide) (fun c_1 => ?_) (fun c_1 => ?_)
  · refine lv_iconst (v := 0) hx hb dX7_isWithin_14 (by decide) ?_
    exact W.zret (ty := .boolean) (v := 0) hx hb hr rfl (fun t ht hW => ⟨⟨0, (), rfl, by rw [if_neg (fun q => Int32.lt_irrefl (Int32.lt_of_lt_of_le c_1 q.1))], trivial⟩, hS.F ht⟩) hS.2.2 dX7_isWithin_15
  · refine lv_iload_n hx hb dX7_isWithin_5 rfl (lv_at hl 0 rfl) ?_
    refine lv_iload_n hx hb dX7_isWithin_6 rfl (lv_at hl 2 rfl) ?_
    refine lv_icmp_gt (tgt := 14) hx hb dX7_isWithin_7 (by decide) (fun c_2 => ?_) (fun c_2 => ?_)
    · refine lv_iconst (v := 0) hx hb dX7_isWithin_14 (by decide) ?_
      exact W.zret (ty := .boolean) (v := 0) hx hb hr rfl (fun t ht hW => ⟨⟨0, (), rfl, by rw [if_neg (fun q => Int32.lt_irrefl (Int32.lt_of_lt_of_le c_2 q.2))], trivial⟩, hS.F ht⟩) hS.2.2 dX7_isWithin_15
    · refine lv_iconst (v := 1) hx hb dX7_isWithin_10 (by decide) ?_
      refine lv_goto (tgt := 15) hx hb dX7_isWithin_11 (by decide) ?_
      exact W.zret (ty := .boolean) (v := 1) hx hb hr rfl (fun t ht hW => ⟨⟨1, (), rfl, by rw [if_pos ⟨Int32.not_lt.mp c_1, Int32.not_lt.mp c_2⟩], trivial⟩, hS.F ht⟩) hS.2.2 dX7_isWithin_15

set_option maxHeartbeats 4000000 in
set_option maxRecDepth 100000 in
theorem c_X8_in (l : Launch) (x0 x1 x2 : Int32) : Met l yX8_in wsX8_in ({ frames := 0, cells := 0, slots := 0, locals := 0 }) (va_Pc [.int x0, .int x1, .int x2] (fun _ => True)) (va_Qi (fun (r : Int32) (_ : Unit) => r = if x1 ≤ x0 ∧ x0 ≤ x2 then 1 else 0) (fun _ _ => True) (fun _ => False)) 0 0 (fun _ => False) := by
  refine Met.ofW (cc := cX8_in) (maxL := 3) (ret := (some .boolean)) (by decide) rfl ?_
  intro p e s m args below meth c s₁ B hml hv
  obtain ⟨rfl, -⟩ := hv
  have hx := B.exec
  have hb := B.bytes
  have hr := B.returns
  have hts := atoms_spec (ws := wsX8_in) B.pre
  have hown : s.vm.findClass RX8 = some m.cls := findClass_of_methodNamed B.named
  have hlocks := B.notSynchronized
  have hl := lv_entry ([.int x0, .int x1, .int x2]) (n := 3) (Nat.le_of_ble_eq_true rfl)
  rw [lg_entry_eq]
  generalize (lg_sl ([.int x0, .int x1, .int x2]) ++ List.replicate (3 - (lg_sl ([.int x0, .int x1, .int x2])).length) Slot.unset).toArray = ls at hl ⊢
  have hl : lv_has ls 3 [(0, .int x0), (1, .int x1), (2, .int x2)] := hl
  have hS : va_S (fun _ => False) s.heap s.heap [] := va_S.rf
  refine lv_iload_n hx hb dX8_in_0 rfl (lv_at hl 0 rfl) ?_
  refine lv_iload_n hx hb dX8_in_1 rfl (lv_at hl 1 rfl) ?_
  refine lv_icmp_lt (tgt := 14) hx hb dX8_in_2 (by decide) (fun c_1 => ?_) (fun c_1 => ?_)
  · refine lv_iconst (v := 0) hx hb dX8_in_14 (by decide) ?_
    exact W.zret (ty := .boolean) (v := 0) hx hb hr rfl (fun t ht hW => ⟨⟨0, (), rfl, by rw [if_neg (fun q => Int32.lt_irrefl (Int32.lt_of_lt_of_le c_1 q.1))], trivial⟩, hS.F ht⟩) hS.2.2 dX8_in_15
  · refine lv_iload_n hx hb dX8_in_5 rfl (lv_at hl 0 rfl) ?_
    refine lv_iload_n hx hb dX8_in_6 rfl (lv_at hl 2 rfl) ?_
    refine lv_icmp_gt (tgt := 14) hx hb dX8_in_7 (by decide) (fun c_2 => ?_) (fun c_2 => ?_)
    · refine lv_iconst (v := 0) hx hb dX8_in_14 (by decide) ?_
      exact W.zret (ty := .boolean) (v := 0) hx hb hr rfl (fun t ht hW => ⟨⟨0, (), rfl, by rw [if_neg (fun q => Int32.lt_irrefl (Int32.lt_of_lt_of_le c_2 q.2))], trivial⟩, hS.F ht⟩) hS.2.2 dX8_in_15
    · refine lv_iconst (v := 1) hx hb dX8_in_10 (by decide) ?_
      refine lv_goto (tgt := 15) hx hb dX8_in_11 (by decide) ?_
      exact W.zret (ty := .boolean) (v := 1) hx hb hr rfl (fun t ht hW => ⟨⟨1, (), rfl, by rw [if_pos ⟨Int32.not_lt.mp c_1, Int32.not_lt.mp c_2⟩], trivial⟩, hS.F ht⟩) hS.2.2 dX8_in_15
end
section
theorem dX7_isParty_0 : decode cX7_isParty 0 = .ok (.iload_n 1, 1) := by decide +kernel
theorem dX7_isParty_1 : decode cX7_isParty 1 = .ok (.iconst 0, 1) := by decide +kernel
theorem dX7_isParty_2 : decode cX7_isParty 2 = .ok (.aload_n 0, 1) := by decide +kernel
theorem dX7_isParty_3 : decode cX7_isParty 3 = .ok (.getfield 12, 3) := by decide +kernel
theorem dX7_isParty_6 : decode cX7_isParty 6 = .ok (.getfield 41, 3) := by decide +kernel
theorem dX7_isParty_9 : decode cX7_isParty 9 = .ok (.iconst 1, 1) := by decide +kernel
theorem dX7_isParty_10 : decode cX7_isParty 10 = .ok (.isub, 1) := by decide +kernel
set_option maxRecDepth 20000 in
theorem ggX7_isParty_X7_isWithin : GoodIn wsX7_isParty wsX7_isWithin := goodIn_r _ [6] (by decide +kernel) (by decide +kernel)
set_option maxRecDepth 20000 in
theorem gX7_isParty_X7_isWithin : GoodIn wsX7_isParty (va_wsS RX7 37 yX7_isWithin wsX7_isWithin) := goodIn_app (goodIn_of _ (by decide +kernel)) ggX7_isParty_X7_isWithin
theorem dX7_isParty_11 : decode cX7_isParty 11 = .ok (.invokestatic 37, 3) := by decide +kernel
theorem dX7_isParty_14 : decode cX7_isParty 14 = .ok (.ireturn, 1) := by decide +kernel
theorem dX7_isMediator_0 : decode cX7_isMediator 0 = .ok (.iload_n 1, 1) := by decide +kernel
theorem dX7_isMediator_1 : decode cX7_isMediator 1 = .ok (.iconst 0, 1) := by decide +kernel
theorem dX7_isMediator_2 : decode cX7_isMediator 2 = .ok (.aload_n 0, 1) := by decide +kernel
theorem dX7_isMediator_3 : decode cX7_isMediator 3 = .ok (.getfield 12, 3) := by decide +kernel
theorem dX7_isMediator_6 : decode cX7_isMediator 6 = .ok (.getfield 56, 3) := by decide +kernel
theorem dX7_isMediator_9 : decode cX7_isMediator 9 = .ok (.iconst 1, 1) := by decide +kernel
theorem dX7_isMediator_10 : decode cX7_isMediator 10 = .ok (.isub, 1) := by decide +kernel
set_option maxRecDepth 20000 in
theorem ggX7_isMediator_X7_isWithin : GoodIn wsX7_isMediator wsX7_isWithin := goodIn_r _ [6] (by decide +kernel) (by decide +kernel)
set_option maxRecDepth 20000 in
theorem gX7_isMediator_X7_isWithin : GoodIn wsX7_isMediator (va_wsS RX7 37 yX7_isWithin wsX7_isWithin) := goodIn_app (goodIn_of _ (by decide +kernel)) ggX7_isMediator_X7_isWithin
theorem dX7_isMediator_11 : decode cX7_isMediator 11 = .ok (.invokestatic 37, 3) := by decide +kernel
theorem dX7_isMediator_14 : decode cX7_isMediator 14 = .ok (.ireturn, 1) := by decide +kernel
theorem dX7_isCase_0 : decode cX7_isCase 0 = .ok (.iload_n 1, 1) := by decide +kernel
theorem dX7_isCase_1 : decode cX7_isCase 1 = .ok (.iconst 0, 1) := by decide +kernel
theorem dX7_isCase_2 : decode cX7_isCase 2 = .ok (.aload_n 0, 1) := by decide +kernel
theorem dX7_isCase_3 : decode cX7_isCase 3 = .ok (.getfield 12, 3) := by decide +kernel
theorem dX7_isCase_6 : decode cX7_isCase 6 = .ok (.getfield 83, 3) := by decide +kernel
theorem dX7_isCase_9 : decode cX7_isCase 9 = .ok (.iconst 1, 1) := by decide +kernel
theorem dX7_isCase_10 : decode cX7_isCase 10 = .ok (.isub, 1) := by decide +kernel
set_option maxRecDepth 20000 in
theorem ggX7_isCase_X7_isWithin : GoodIn wsX7_isCase wsX7_isWithin := goodIn_r _ [6] (by decide +kernel) (by decide +kernel)
set_option maxRecDepth 20000 in
theorem gX7_isCase_X7_isWithin : GoodIn wsX7_isCase (va_wsS RX7 37 yX7_isWithin wsX7_isWithin) := goodIn_app (goodIn_of _ (by decide +kernel)) ggX7_isCase_X7_isWithin
theorem dX7_isCase_11 : decode cX7_isCase 11 = .ok (.invokestatic 37, 3) := by decide +kernel
theorem dX7_isCase_14 : decode cX7_isCase 14 = .ok (.ireturn, 1) := by decide +kernel
set_option maxHeartbeats 4000000 in
set_option maxRecDepth 100000 in
theorem g_X7_isParty (l : Launch) (dC : Nat → ClassId) (dI : Nat → Nat → Nat) (cy : Nat → ClassId) (sz : Nat) (ad : Nat → Nat) (kv : Value) (N : Nat) (hN : 119 ≤ N) (v : Nat → Nat → Int32) (hv : Iv v) (x : Int32) : Met l yX7_isParty wsX7_isParty ({ frames := 1, cells := 0, slots := 0, locals := 64 }) (va_Pc [.ref (ad 0), .int x] (ex_Pre dC dI cy sz (wl ad kv cy N v))) (va_Qi (fun (r : Int32) (u : Nat → Nat → Int32) => Iv u ∧ u = v ∧ ((r = 1 ∧ 0 ≤ x.toInt ∧ x.toInt < (u 13 0).toInt) ∨ (r = 0 ∧ ¬ (0 ≤ x.toInt ∧ x.toInt < (u 13 0).toInt)))) (fun u t => ex_Pst dC dI (va_A (wl ad kv cy N v) sz) (wl ad kv cy N u) t) (va_A (wl ad kv cy N v) sz)) 0 0 (va_A (wl ad kv cy N v) sz) := by
  refine Met.ofW (cc := cX7_isParty) (maxL := 2) (ret := (some .boolean)) (by decide) rfl ?_
  intro p e s m args below meth c s₁ B hml hv
  obtain ⟨rfl, hsz, hE, hP, hK, hD0⟩ := hv
  have hx := B.exec
  have hb := B.bytes
  have hr := B.returns
  have hts := atoms_spec (ws := wsX7_isParty) B.pre
  have hown : s.vm.findClass RX7 = some m.cls := findClass_of_methodNamed B.named
  have hlocks := B.notSynchronized
  subst hsz
  have hD := hD0.self (sz := s.heap.size)
  generalize hAe : va_A (wl ad kv cy N v) s.heap.size = A at hD ⊢
  have hA : ∀ q : Nat, s.heap.size ≤ q → A q := fun q h => by rw [← hAe]; exact Or.inr h
  have hS : va_S A s.heap s.heap [] := va_S.rf
  have hP : va_P (dC, dI) vwCl (wl ad kv cy N v) s.heap := hP
  have hl := lv_entry ([.ref (ad 0), .int x]) (n := 2) (Nat.le_of_ble_eq_true rfl)
  rw [lg_entry_eq]
  generalize (lg_sl ([.ref (ad 0), .int x]) ++ List.replicate (2 - (lg_sl ([.ref (ad 0), .int x])).length) Slot.unset).toArray = ls at hl ⊢
  have hl : lv_has ls 2 [(0, .ref (ad 0)), (1, .int x)] := hl
  have hfr : Fr v v := Fr.rf
  refine lv_iload_n hx hb dX7_isParty_0 rfl (lv_at hl 1 rfl) ?_
  refine lv_iconst (v := 0) hx hb dX7_isParty_1 (by decide) ?_
  refine lv_aload_n hx hb dX7_isParty_2 rfl (lv_at hl 0 rfl) ?_
  refine va_get (D := (dC, dI)) (ci := 7) (v := .ref (ad 13)) (C := RX7) (T := TX7) (N := 5) hx hb hts (by decide +kernel) hown hK hP (0) (wl_at (by omega) (ce_0 (by decide))) rfl 0 (by decide) (hts (.fieldLink RX7 12 "QuietStairs" "now" "LQuietStairs$House;") (by decide +kernel)) (fun _ h9 => h9) rfl dX7_isParty_3 ?_
  refine va_get (D := (dC, dI)) (ci := 1) (v := .int (v (13) 0)) (C := RX1) (T := TX1) (N := 7) hx hb hts (by decide +kernel) hown hK hP (13) (wl_at (by omega) (ce_3 (by decide))) rfl 0 (by decide) (hts (.fieldLink RX7 41 "QuietStairs$House" "partyCount" "I") (by decide +kernel)) (fun _ h9 => h9) rfl dX7_isParty_6 ?_
  refine lv_topi (fun x_1 ex_1 => ?_)
  have bx_1 : 0 ≤ x_1.toInt ∧ x_1.toInt ≤ 8 := by rw [ex_1]; exact hv.at (K := 3) (by decide) rfl
  refine lv_iconst (v := 1) hx hb dX7_isParty_9 (by decide) ?_
  have k_1 : (1 : Int32).toInt = 1 := by decide
  refine lv_isub hx hb dX7_isParty_10 ?_
  refine lv_topi (fun x_2 ex_2 => ?_)
  have tx_2 : x_2.toInt = x_1.toInt - (1 : Int32).toInt := by rw [ex_2]; exact t_sub ⟨by omega, by omega⟩
  refine yc_p hP hS (va_runS (As := [.int x, .int 0, .int x_2]) (rest := []) ⟨hx, hb, hml, hown, hts⟩ (c_X7_isWithin l x 0 x_2) (cwS 3 hts gX7_isParty_X7_isWithin rfl rfl rfl (by decide +kernel) ⟨Nat.le_of_ble_eq_true rfl, Nat.le_of_ble_eq_true rfl⟩) ex_preP rfl rfl hl.1 rfl (lv_room (Nat.le_of_ble_eq_true rfl)) dX7_isParty_11 ⟨Nat.le_of_ble_eq_true rfl, Nat.le_of_ble_eq_true rfl⟩) (fun r_3 H locs hw_3 hP hS => ?_)
  rcases wi_ca hw_3 with ⟨rfl, hc_4⟩ | ⟨rfl, hc_4⟩
  · have k_0 : (0 : Int32).toInt = 0 := by decide
    have tc_4 := wi_tl hc_4
    exact W.zret (ty := .boolean) (v := 1) hx hb hr rfl (fun t ht hW => ⟨⟨1, v, rfl, ⟨hv, rfl, Or.inl ⟨rfl, by omega, by rw [← ex_1]; omega⟩⟩, by rw [ht]; exact hP, hD⟩, hS.F ht⟩) hS.2.2 dX7_isParty_14
  · have k_0 : (0 : Int32).toInt = 0 := by decide
    exact W.zret (ty := .boolean) (v := 0) hx hb hr rfl (fun t ht hW => ⟨⟨0, v, rfl, ⟨hv, rfl, Or.inr ⟨rfl, fun q => hc_4 ⟨Int32.le_iff_toInt_le.mpr (by omega), Int32.le_iff_toInt_le.mpr (by rw [← ex_1] at q; omega)⟩⟩⟩, by rw [ht]; exact hP, hD⟩, hS.F ht⟩) hS.2.2 dX7_isParty_14

set_option maxHeartbeats 4000000 in
set_option maxRecDepth 100000 in
theorem g_X7_isMediator (l : Launch) (dC : Nat → ClassId) (dI : Nat → Nat → Nat) (cy : Nat → ClassId) (sz : Nat) (ad : Nat → Nat) (kv : Value) (N : Nat) (hN : 119 ≤ N) (v : Nat → Nat → Int32) (hv : Iv v) (x : Int32) : Met l yX7_isMediator wsX7_isMediator ({ frames := 1, cells := 0, slots := 0, locals := 64 }) (va_Pc [.ref (ad 0), .int x] (ex_Pre dC dI cy sz (wl ad kv cy N v))) (va_Qi (fun (r : Int32) (u : Nat → Nat → Int32) => Iv u ∧ u = v ∧ ((r = 1 ∧ 0 ≤ x.toInt ∧ x.toInt < (u 13 1).toInt) ∨ (r = 0 ∧ ¬ (0 ≤ x.toInt ∧ x.toInt < (u 13 1).toInt)))) (fun u t => ex_Pst dC dI (va_A (wl ad kv cy N v) sz) (wl ad kv cy N u) t) (va_A (wl ad kv cy N v) sz)) 0 0 (va_A (wl ad kv cy N v) sz) := by
  refine Met.ofW (cc := cX7_isMediator) (maxL := 2) (ret := (some .boolean)) (by decide) rfl ?_
  intro p e s m args below meth c s₁ B hml hv
  obtain ⟨rfl, hsz, hE, hP, hK, hD0⟩ := hv
  have hx := B.exec
  have hb := B.bytes
  have hr := B.returns
  have hts := atoms_spec (ws := wsX7_isMediator) B.pre
  have hown : s.vm.findClass RX7 = some m.cls := findClass_of_methodNamed B.named
  have hlocks := B.notSynchronized
  subst hsz
  have hD := hD0.self (sz := s.heap.size)
  generalize hAe : va_A (wl ad kv cy N v) s.heap.size = A at hD ⊢
  have hA : ∀ q : Nat, s.heap.size ≤ q → A q := fun q h => by rw [← hAe]; exact Or.inr h
  have hS : va_S A s.heap s.heap [] := va_S.rf
  have hP : va_P (dC, dI) vwCl (wl ad kv cy N v) s.heap := hP
  have hl := lv_entry ([.ref (ad 0), .int x]) (n := 2) (Nat.le_of_ble_eq_true rfl)
  rw [lg_entry_eq]
  generalize (lg_sl ([.ref (ad 0), .int x]) ++ List.replicate (2 - (lg_sl ([.ref (ad 0), .int x])).length) Slot.unset).toArray = ls at hl ⊢
  have hl : lv_has ls 2 [(0, .ref (ad 0)), (1, .int x)] := hl
  have hfr : Fr v v := Fr.rf
  refine lv_iload_n hx hb dX7_isMediator_0 rfl (lv_at hl 1 rfl) ?_
  refine lv_iconst (v := 0) hx hb dX7_isMediator_1 (by decide) ?_
  refine lv_aload_n hx hb dX7_isMediator_2 rfl (lv_at hl 0 rfl) ?_
  refine va_get (D := (dC, dI)) (ci := 7) (v := .ref (ad 13)) (C := RX7) (T := TX7) (N := 5) hx hb hts (by decide +kernel) hown hK hP (0) (wl_at (by omega) (ce_0 (by decide))) rfl 0 (by decide) (hts (.fieldLink RX7 12 "QuietStairs" "now" "LQuietStairs$House;") (by decide +kernel)) (fun _ h9 => h9) rfl dX7_isMediator_3 ?_
  refine va_get (D := (dC, dI)) (ci := 1) (v := .int (v (13) 1)) (C := RX1) (T := TX1) (N := 7) hx hb hts (by decide +kernel) hown hK hP (13) (wl_at (by omega) (ce_3 (by decide))) rfl 1 (by decide) (hts (.fieldLink RX7 56 "QuietStairs$House" "mediatorCount" "I") (by decide +kernel)) (fun _ h9 => h9) rfl dX7_isMediator_6 ?_
  refine lv_topi (fun x_1 ex_1 => ?_)
  have bx_1 : 0 ≤ x_1.toInt ∧ x_1.toInt ≤ 4 := by rw [ex_1]; exact hv.at (K := 3) (by decide) rfl
  refine lv_iconst (v := 1) hx hb dX7_isMediator_9 (by decide) ?_
  have k_1 : (1 : Int32).toInt = 1 := by decide
  refine lv_isub hx hb dX7_isMediator_10 ?_
  refine lv_topi (fun x_2 ex_2 => ?_)
  have tx_2 : x_2.toInt = x_1.toInt - (1 : Int32).toInt := by rw [ex_2]; exact t_sub ⟨by omega, by omega⟩
  refine yc_p hP hS (va_runS (As := [.int x, .int 0, .int x_2]) (rest := []) ⟨hx, hb, hml, hown, hts⟩ (c_X7_isWithin l x 0 x_2) (cwS 3 hts gX7_isMediator_X7_isWithin rfl rfl rfl (by decide +kernel) ⟨Nat.le_of_ble_eq_true rfl, Nat.le_of_ble_eq_true rfl⟩) ex_preP rfl rfl hl.1 rfl (lv_room (Nat.le_of_ble_eq_true rfl)) dX7_isMediator_11 ⟨Nat.le_of_ble_eq_true rfl, Nat.le_of_ble_eq_true rfl⟩) (fun r_3 H locs hw_3 hP hS => ?_)
  rcases wi_ca hw_3 with ⟨rfl, hc_4⟩ | ⟨rfl, hc_4⟩
  · have k_0 : (0 : Int32).toInt = 0 := by decide
    have tc_4 := wi_tl hc_4
    exact W.zret (ty := .boolean) (v := 1) hx hb hr rfl (fun t ht hW => ⟨⟨1, v, rfl, ⟨hv, rfl, Or.inl ⟨rfl, by omega, by rw [← ex_1]; omega⟩⟩, by rw [ht]; exact hP, hD⟩, hS.F ht⟩) hS.2.2 dX7_isMediator_14
  · have k_0 : (0 : Int32).toInt = 0 := by decide
    exact W.zret (ty := .boolean) (v := 0) hx hb hr rfl (fun t ht hW => ⟨⟨0, v, rfl, ⟨hv, rfl, Or.inr ⟨rfl, fun q => hc_4 ⟨Int32.le_iff_toInt_le.mpr (by omega), Int32.le_iff_toInt_le.mpr (by rw [← ex_1] at q; omega)⟩⟩⟩, by rw [ht]; exact hP, hD⟩, hS.F ht⟩) hS.2.2 dX7_isMediator_14

set_option maxHeartbeats 4000000 in
set_option maxRecDepth 100000 in
theorem g_X7_isCase (l : Launch) (dC : Nat → ClassId) (dI : Nat → Nat → Nat) (cy : Nat → ClassId) (sz : Nat) (ad : Nat → Nat) (kv : Value) (N : Nat) (hN : 119 ≤ N) (v : Nat → Nat → Int32) (hv : Iv v) (x : Int32) : Met l yX7_isCase wsX7_isCase ({ frames := 1, cells := 0, slots := 0, locals := 64 }) (va_Pc [.ref (ad 0), .int x] (ex_Pre dC dI cy sz (wl ad kv cy N v))) (va_Qi (fun (r : Int32) (u : Nat → Nat → Int32) => Iv u ∧ u = v ∧ ((r = 1 ∧ 0 ≤ x.toInt ∧ x.toInt < (u 13 2).toInt) ∨ (r = 0 ∧ ¬ (0 ≤ x.toInt ∧ x.toInt < (u 13 2).toInt)))) (fun u t => ex_Pst dC dI (va_A (wl ad kv cy N v) sz) (wl ad kv cy N u) t) (va_A (wl ad kv cy N v) sz)) 0 0 (va_A (wl ad kv cy N v) sz) := by
  refine Met.ofW (cc := cX7_isCase) (maxL := 2) (ret := (some .boolean)) (by decide) rfl ?_
  intro p e s m args below meth c s₁ B hml hv
  obtain ⟨rfl, hsz, hE, hP, hK, hD0⟩ := hv
  have hx := B.exec
  have hb := B.bytes
  have hr := B.returns
  have hts := atoms_spec (ws := wsX7_isCase) B.pre
  have hown : s.vm.findClass RX7 = some m.cls := findClass_of_methodNamed B.named
  have hlocks := B.notSynchronized
  subst hsz
  have hD := hD0.self (sz := s.heap.size)
  generalize hAe : va_A (wl ad kv cy N v) s.heap.size = A at hD ⊢
  have hA : ∀ q : Nat, s.heap.size ≤ q → A q := fun q h => by rw [← hAe]; exact Or.inr h
  have hS : va_S A s.heap s.heap [] := va_S.rf
  have hP : va_P (dC, dI) vwCl (wl ad kv cy N v) s.heap := hP
  have hl := lv_entry ([.ref (ad 0), .int x]) (n := 2) (Nat.le_of_ble_eq_true rfl)
  rw [lg_entry_eq]
  generalize (lg_sl ([.ref (ad 0), .int x]) ++ List.replicate (2 - (lg_sl ([.ref (ad 0), .int x])).length) Slot.unset).toArray = ls at hl ⊢
  have hl : lv_has ls 2 [(0, .ref (ad 0)), (1, .int x)] := hl
  have hfr : Fr v v := Fr.rf
  refine lv_iload_n hx hb dX7_isCase_0 rfl (lv_at hl 1 rfl) ?_
  refine lv_iconst (v := 0) hx hb dX7_isCase_1 (by decide) ?_
  refine lv_aload_n hx hb dX7_isCase_2 rfl (lv_at hl 0 rfl) ?_
  refine va_get (D := (dC, dI)) (ci := 7) (v := .ref (ad 13)) (C := RX7) (T := TX7) (N := 5) hx hb hts (by decide +kernel) hown hK hP (0) (wl_at (by omega) (ce_0 (by decide))) rfl 0 (by decide) (hts (.fieldLink RX7 12 "QuietStairs" "now" "LQuietStairs$House;") (by decide +kernel)) (fun _ h9 => h9) rfl dX7_isCase_3 ?_
  refine va_get (D := (dC, dI)) (ci := 1) (v := .int (v (13) 2)) (C := RX1) (T := TX1) (N := 7) hx hb hts (by decide +kernel) hown hK hP (13) (wl_at (by omega) (ce_3 (by decide))) rfl 2 (by decide) (hts (.fieldLink RX7 83 "QuietStairs$House" "caseCount" "I") (by decide +kernel)) (fun _ h9 => h9) rfl dX7_isCase_6 ?_
  refine lv_topi (fun x_1 ex_1 => ?_)
  have bx_1 : 0 ≤ x_1.toInt ∧ x_1.toInt ≤ 6 := by rw [ex_1]; exact hv.at (K := 3) (by decide) rfl
  refine lv_iconst (v := 1) hx hb dX7_isCase_9 (by decide) ?_
  have k_1 : (1 : Int32).toInt = 1 := by decide
  refine lv_isub hx hb dX7_isCase_10 ?_
  refine lv_topi (fun x_2 ex_2 => ?_)
  have tx_2 : x_2.toInt = x_1.toInt - (1 : Int32).toInt := by rw [ex_2]; exact t_sub ⟨by omega, by omega⟩
  refine yc_p hP hS (va_runS (As := [.int x, .int 0, .int x_2]) (rest := []) ⟨hx, hb, hml, hown, hts⟩ (c_X7_isWithin l x 0 x_2) (cwS 3 hts gX7_isCase_X7_isWithin rfl rfl rfl (by decide +kernel) ⟨Nat.le_of_ble_eq_true rfl, Nat.le_of_ble_eq_true rfl⟩) ex_preP rfl rfl hl.1 rfl (lv_room (Nat.le_of_ble_eq_true rfl)) dX7_isCase_11 ⟨Nat.le_of_ble_eq_true rfl, Nat.le_of_ble_eq_true rfl⟩) (fun r_3 H locs hw_3 hP hS => ?_)
  rcases wi_ca hw_3 with ⟨rfl, hc_4⟩ | ⟨rfl, hc_4⟩
  · have k_0 : (0 : Int32).toInt = 0 := by decide
    have tc_4 := wi_tl hc_4
    exact W.zret (ty := .boolean) (v := 1) hx hb hr rfl (fun t ht hW => ⟨⟨1, v, rfl, ⟨hv, rfl, Or.inl ⟨rfl, by omega, by rw [← ex_1]; omega⟩⟩, by rw [ht]; exact hP, hD⟩, hS.F ht⟩) hS.2.2 dX7_isCase_14
  · have k_0 : (0 : Int32).toInt = 0 := by decide
    exact W.zret (ty := .boolean) (v := 0) hx hb hr rfl (fun t ht hW => ⟨⟨0, v, rfl, ⟨hv, rfl, Or.inr ⟨rfl, fun q => hc_4 ⟨Int32.le_iff_toInt_le.mpr (by omega), Int32.le_iff_toInt_le.mpr (by rw [← ex_1] at q; omega)⟩⟩⟩, by rw [ht]; exact hP, hD⟩, hS.F ht⟩) hS.2.2 dX7_isCase_14
end
section
theorem dX7_isSide_0 : decode cX7_isSide 0 = .ok (.iload_n 0, 1) := by decide +kernel
theorem dX7_isSide_1 : decode cX7_isSide 1 = .ok (.iconst 0, 1) := by decide +kernel
theorem dX7_isSide_2 : decode cX7_isSide 2 = .ok (.iconst 1, 1) := by decide +kernel
set_option maxRecDepth 20000 in
theorem ggX7_isSide_X7_isWithin : GoodIn wsX7_isSide wsX7_isWithin := goodIn_r _ [4] (by decide +kernel) (by decide +kernel)
set_option maxRecDepth 20000 in
theorem gX7_isSide_X7_isWithin : GoodIn wsX7_isSide (va_wsS RX7 37 yX7_isWithin wsX7_isWithin) := goodIn_app (goodIn_of _ (by decide +kernel)) ggX7_isSide_X7_isWithin
theorem dX7_isSide_3 : decode cX7_isSide 3 = .ok (.invokestatic 37, 3) := by decide +kernel
theorem dX7_isSide_6 : decode cX7_isSide 6 = .ok (.ireturn, 1) := by decide +kernel
theorem dX7_isHour_0 : decode cX7_isHour 0 = .ok (.iload_n 0, 1) := by decide +kernel
theorem dX7_isHour_1 : decode cX7_isHour 1 = .ok (.iconst 0, 1) := by decide +kernel
theorem dX7_isHour_2 : decode cX7_isHour 2 = .ok (.bipush 23, 2) := by decide +kernel
set_option maxRecDepth 20000 in
theorem ggX7_isHour_X7_isWithin : GoodIn wsX7_isHour wsX7_isWithin := goodIn_r _ [4] (by decide +kernel) (by decide +kernel)
set_option maxRecDepth 20000 in
theorem gX7_isHour_X7_isWithin : GoodIn wsX7_isHour (va_wsS RX7 37 yX7_isWithin wsX7_isWithin) := goodIn_app (goodIn_of _ (by decide +kernel)) ggX7_isHour_X7_isWithin
theorem dX7_isHour_4 : decode cX7_isHour 4 = .ok (.invokestatic 37, 3) := by decide +kernel
theorem dX7_isHour_7 : decode cX7_isHour 7 = .ok (.ireturn, 1) := by decide +kernel
theorem dX7_hasBit_0 : decode cX7_hasBit 0 = .ok (.iload_n 0, 1) := by decide +kernel
theorem dX7_hasBit_1 : decode cX7_hasBit 1 = .ok (.iload_n 1, 1) := by decide +kernel
theorem dX7_hasBit_2 : decode cX7_hasBit 2 = .ok (.ishr, 1) := by decide +kernel
theorem dX7_hasBit_3 : decode cX7_hasBit 3 = .ok (.iconst 1, 1) := by decide +kernel
theorem dX7_hasBit_4 : decode cX7_hasBit 4 = .ok (.iand, 1) := by decide +kernel
theorem dX7_hasBit_5 : decode cX7_hasBit 5 = .ok (.iconst 1, 1) := by decide +kernel
theorem dX7_hasBit_6 : decode cX7_hasBit 6 = .ok (.if_icmp .ne 7, 3) := by decide +kernel
theorem dX7_hasBit_13 : decode cX7_hasBit 13 = .ok (.iconst 0, 1) := by decide +kernel
theorem dX7_hasBit_14 : decode cX7_hasBit 14 = .ok (.ireturn, 1) := by decide +kernel
theorem dX7_hasBit_9 : decode cX7_hasBit 9 = .ok (.iconst 1, 1) := by decide +kernel
theorem dX7_hasBit_10 : decode cX7_hasBit 10 = .ok (.goto 4, 3) := by decide +kernel
set_option maxHeartbeats 4000000 in
set_option maxRecDepth 100000 in
theorem c_X7_isSide (l : Launch) (x0 : Int32) : Met l yX7_isSide wsX7_isSide ({ frames := 1, cells := 0, slots := 0, locals := 64 }) (va_Pc [.int x0] (fun _ => True)) (va_Qi (fun (r : Int32) (_ : Unit) => r = if 0 ≤ x0 ∧ x0 ≤ 1 then 1 else 0) (fun _ _ => True) (fun _ => False)) 0 0 (fun _ => False) := by
  refine Met.ofW (cc := cX7_isSide) (maxL := 1) (ret := (some .boolean)) (by decide) rfl ?_
  intro p e s m args below meth c s₁ B hml hv
  obtain ⟨rfl, -⟩ := hv
  have hx := B.exec
  have hb := B.bytes
  have hr := B.returns
  have hts := atoms_spec (ws := wsX7_isSide) B.pre
  have hown : s.vm.findClass RX7 = some m.cls := findClass_of_methodNamed B.named
  have hlocks := B.notSynchronized
  have hl := lv_entry ([.int x0]) (n := 1) (Nat.le_of_ble_eq_true rfl)
  rw [lg_entry_eq]
  generalize (lg_sl ([.int x0]) ++ List.replicate (1 - (lg_sl ([.int x0])).length) Slot.unset).toArray = ls at hl ⊢
  have hl : lv_has ls 1 [(0, .int x0)] := hl
  have hS : va_S (fun _ => False) s.heap s.heap [] := va_S.rf
  have hP : va_P ((fun _ => 0), (fun _ _ => 0)) vwCl [] s.heap := fun k q h => by simp at h
  refine lv_iload_n hx hb dX7_isSide_0 rfl (lv_at hl 0 rfl) ?_
  refine lv_iconst (v := 0) hx hb dX7_isSide_1 (by decide) ?_
  refine lv_iconst (v := 1) hx hb dX7_isSide_2 (by decide) ?_
  refine yc_p hP hS (va_runS (As := [.int x0, .int 0, .int 1]) (rest := []) ⟨hx, hb, hml, hown, hts⟩ (c_X7_isWithin l x0 0 1) (cwS 3 hts gX7_isSide_X7_isWithin rfl rfl rfl (by decide +kernel) ⟨Nat.le_of_ble_eq_true rfl, Nat.le_of_ble_eq_true rfl⟩) ex_preP rfl rfl hl.1 rfl (lv_room (Nat.le_of_ble_eq_true rfl)) dX7_isSide_3 ⟨Nat.le_of_ble_eq_true rfl, Nat.le_of_ble_eq_true rfl⟩) (fun r_1 H locs hw_1 hP hS => ?_)
  rcases wi_ca hw_1 with ⟨rfl, hc⟩ | ⟨rfl, hc⟩
  · exact W.zret (ty := .boolean) (v := 1) hx hb hr rfl (fun t ht hW => ⟨⟨1, (), rfl, by rw [if_pos hc], trivial⟩, hS.F ht⟩) hS.2.2 dX7_isSide_6
  · exact W.zret (ty := .boolean) (v := 0) hx hb hr rfl (fun t ht hW => ⟨⟨0, (), rfl, by rw [if_neg hc], trivial⟩, hS.F ht⟩) hS.2.2 dX7_isSide_6

set_option maxHeartbeats 4000000 in
set_option maxRecDepth 100000 in
theorem c_X7_isHour (l : Launch) (x0 : Int32) : Met l yX7_isHour wsX7_isHour ({ frames := 1, cells := 0, slots := 0, locals := 64 }) (va_Pc [.int x0] (fun _ => True)) (va_Qi (fun (r : Int32) (_ : Unit) => r = if 0 ≤ x0 ∧ x0 ≤ 23 then 1 else 0) (fun _ _ => True) (fun _ => False)) 0 0 (fun _ => False) := by
  refine Met.ofW (cc := cX7_isHour) (maxL := 1) (ret := (some .boolean)) (by decide) rfl ?_
  intro p e s m args below meth c s₁ B hml hv
  obtain ⟨rfl, -⟩ := hv
  have hx := B.exec
  have hb := B.bytes
  have hr := B.returns
  have hts := atoms_spec (ws := wsX7_isHour) B.pre
  have hown : s.vm.findClass RX7 = some m.cls := findClass_of_methodNamed B.named
  have hlocks := B.notSynchronized
  have hl := lv_entry ([.int x0]) (n := 1) (Nat.le_of_ble_eq_true rfl)
  rw [lg_entry_eq]
  generalize (lg_sl ([.int x0]) ++ List.replicate (1 - (lg_sl ([.int x0])).length) Slot.unset).toArray = ls at hl ⊢
  have hl : lv_has ls 1 [(0, .int x0)] := hl
  have hS : va_S (fun _ => False) s.heap s.heap [] := va_S.rf
  have hP : va_P ((fun _ => 0), (fun _ _ => 0)) vwCl [] s.heap := fun k q h => by simp at h
  refine lv_iload_n hx hb dX7_isHour_0 rfl (lv_at hl 0 rfl) ?_
  refine lv_iconst (v := 0) hx hb dX7_isHour_1 (by decide) ?_
  refine lv_bipush (v := 23) hx hb dX7_isHour_2 (by decide) ?_
  refine yc_p hP hS (va_runS (As := [.int x0, .int 0, .int 23]) (rest := []) ⟨hx, hb, hml, hown, hts⟩ (c_X7_isWithin l x0 0 23) (cwS 3 hts gX7_isHour_X7_isWithin rfl rfl rfl (by decide +kernel) ⟨Nat.le_of_ble_eq_true rfl, Nat.le_of_ble_eq_true rfl⟩) ex_preP rfl rfl hl.1 rfl (lv_room (Nat.le_of_ble_eq_true rfl)) dX7_isHour_4 ⟨Nat.le_of_ble_eq_true rfl, Nat.le_of_ble_eq_true rfl⟩) (fun r_1 H locs hw_1 hP hS => ?_)
  rcases wi_ca hw_1 with ⟨rfl, hc⟩ | ⟨rfl, hc⟩
  · exact W.zret (ty := .boolean) (v := 1) hx hb hr rfl (fun t ht hW => ⟨⟨1, (), rfl, by rw [if_pos hc], trivial⟩, hS.F ht⟩) hS.2.2 dX7_isHour_7
  · exact W.zret (ty := .boolean) (v := 0) hx hb hr rfl (fun t ht hW => ⟨⟨0, (), rfl, by rw [if_neg hc], trivial⟩, hS.F ht⟩) hS.2.2 dX7_isHour_7

set_option maxHeartbeats 4000000 in
set_option maxRecDepth 100000 in
theorem c_X7_hasBit (l : Launch) (x0 x1 : Int32) : Met l yX7_hasBit wsX7_hasBit ({ frames := 0, cells := 0, slots := 0, locals := 0 }) (va_Pc [.int x0, .int x1] (fun _ => True)) (va_Qi (fun (r : Int32) (_ : Unit) => r = 0 ∨ r = 1) (fun _ _ => True) (fun _ => False)) 0 0 (fun _ => False) := by
  refine Met.ofW (cc := cX7_hasBit) (maxL := 2) (ret := (some .boolean)) (by decide) rfl ?_
  intro p e s m args below meth c s₁ B hml hv
  obtain ⟨rfl, -⟩ := hv
  have hx := B.exec
  have hb := B.bytes
  have hr := B.returns
  have hts := atoms_spec (ws := wsX7_hasBit) B.pre
  have hown : s.vm.findClass RX7 = some m.cls := findClass_of_methodNamed B.named
  have hlocks := B.notSynchronized
  have hl := lv_entry ([.int x0, .int x1]) (n := 2) (Nat.le_of_ble_eq_true rfl)
  rw [lg_entry_eq]
  generalize (lg_sl ([.int x0, .int x1]) ++ List.replicate (2 - (lg_sl ([.int x0, .int x1])).length) Slot.unset).toArray = ls at hl ⊢
  have hl : lv_has ls 2 [(0, .int x0), (1, .int x1)] := hl
  have hS : va_S (fun _ => False) s.heap s.heap [] := va_S.rf
  refine lv_iload_n hx hb dX7_hasBit_0 rfl (lv_at hl 0 rfl) ?_
  refine lv_iload_n hx hb dX7_hasBit_1 rfl (lv_at hl 1 rfl) ?_
  refine lv_ishr hx hb dX7_hasBit_2 ?_
  refine lv_topi (fun x_1 ex_1 => ?_)
  refine lv_iconst (v := 1) hx hb dX7_hasBit_3 (by decide) ?_
  refine lv_iand hx hb dX7_hasBit_4 ?_
  refine lv_topi (fun x_2 ex_2 => ?_)
  refine lv_iconst (v := 1) hx hb dX7_hasBit_5 (by decide) ?_
  refine lv_icmp_ne (tgt := 13) hx hb dX7_hasBit_6 (by decide) (fun c_3 => ?_) (fun c_3 => ?_)
  · refine lv_iconst (v := 0) hx hb dX7_hasBit_13 (by decide) ?_
    exact W.zret (ty := .boolean) (v := 0) hx hb hr rfl (fun t ht hW => ⟨⟨0, (), rfl, by decide, trivial⟩, hS.F ht⟩) hS.2.2 dX7_hasBit_14
  · refine lv_iconst (v := 1) hx hb dX7_hasBit_9 (by decide) ?_
    refine lv_goto (tgt := 14) hx hb dX7_hasBit_10 (by decide) ?_
    exact W.zret (ty := .boolean) (v := 1) hx hb hr rfl (fun t ht hW => ⟨⟨1, (), rfl, by decide, trivial⟩, hS.F ht⟩) hS.2.2 dX7_hasBit_14
end
section
theorem dX7_close_0 : decode cX7_close 0 = .ok (.aload_n 0, 1) := by decide +kernel
theorem dX7_close_1 : decode cX7_close 1 = .ok (.iload_n 1, 1) := by decide +kernel
set_option maxRecDepth 20000 in
theorem ggX7_close_X7_isCase : GoodIn wsX7_close wsX7_isCase := goodIn_r _ [8, 1, 9, 10, 11, 7, 12, 13, 14, 15, 16, 17, 18, 19, 20, 21, 22, 23, 24] (by decide +kernel) (by decide +kernel)
set_option maxRecDepth 20000 in
theorem gX7_close_X7_isCase : GoodIn wsX7_close (wsV RX7 96 RX7 yX7_isCase wsX7_isCase) := goodIn_app (goodIn_of _ (by decide +kernel)) ggX7_close_X7_isCase
theorem dX7_close_2 : decode cX7_close 2 = .ok (.invokevirtual 96, 3) := by decide +kernel
theorem dX7_close_5 : decode cX7_close 5 = .ok (.ifCond .ne 5, 3) := by decide +kernel
theorem dX7_close_10 : decode cX7_close 10 = .ok (.aload_n 0, 1) := by decide +kernel
theorem dX7_close_11 : decode cX7_close 11 = .ok (.getfield 12, 3) := by decide +kernel
theorem dX7_close_14 : decode cX7_close 14 = .ok (.getfield 86, 3) := by decide +kernel
theorem dX7_close_17 : decode cX7_close 17 = .ok (.iload_n 1, 1) := by decide +kernel
theorem dX7_close_18 : decode cX7_close 18 = .ok (.aaload, 1) := by decide +kernel
theorem dX7_close_19 : decode cX7_close 19 = .ok (.getfield 99, 3) := by decide +kernel
theorem dX7_close_22 : decode cX7_close 22 = .ok (.ifCond .eq 6, 3) := by decide +kernel
theorem dX7_close_28 : decode cX7_close 28 = .ok (.aload_n 0, 1) := by decide +kernel
theorem dX7_close_29 : decode cX7_close 29 = .ok (.getfield 12, 3) := by decide +kernel
theorem dX7_close_32 : decode cX7_close 32 = .ok (.getfield 86, 3) := by decide +kernel
theorem dX7_close_35 : decode cX7_close 35 = .ok (.iload_n 1, 1) := by decide +kernel
theorem dX7_close_36 : decode cX7_close 36 = .ok (.aaload, 1) := by decide +kernel
theorem dX7_close_37 : decode cX7_close 37 = .ok (.iconst 2, 1) := by decide +kernel
theorem dX7_close_38 : decode cX7_close 38 = .ok (.putfield 99, 3) := by decide +kernel
theorem dX7_close_41 : decode cX7_close 41 = .ok (.iconst 1, 1) := by decide +kernel
theorem dX7_close_42 : decode cX7_close 42 = .ok (.ireturn, 1) := by decide +kernel
theorem dX7_close_25 : decode cX7_close 25 = .ok (.bipush (-4), 2) := by decide +kernel
theorem dX7_close_27 : decode cX7_close 27 = .ok (.ireturn, 1) := by decide +kernel
theorem dX7_close_8 : decode cX7_close 8 = .ok (.iconst (-1), 1) := by decide +kernel
theorem dX7_close_9 : decode cX7_close 9 = .ok (.ireturn, 1) := by decide +kernel
theorem dX7_weight_0 : decode cX7_weight 0 = .ok (.aload_n 0, 1) := by decide +kernel
theorem dX7_weight_1 : decode cX7_weight 1 = .ok (.iload_n 1, 1) := by decide +kernel
set_option maxRecDepth 20000 in
theorem ggX7_weight_X7_isCase : GoodIn wsX7_weight wsX7_isCase := goodIn_r _ [8, 1, 9, 10, 11, 7, 12, 13, 14, 15, 16, 17, 18, 19, 20, 21, 22, 23, 24] (by decide +kernel) (by decide +kernel)
set_option maxRecDepth 20000 in
theorem gX7_weight_X7_isCase : GoodIn wsX7_weight (wsV RX7 96 RX7 yX7_isCase wsX7_isCase) := goodIn_app (goodIn_of _ (by decide +kernel)) ggX7_weight_X7_isCase
theorem dX7_weight_2 : decode cX7_weight 2 = .ok (.invokevirtual 96, 3) := by decide +kernel
theorem dX7_weight_5 : decode cX7_weight 5 = .ok (.ifCond .eq 13, 3) := by decide +kernel
theorem dX7_weight_8 : decode cX7_weight 8 = .ok (.iload_n 2, 1) := by decide +kernel
theorem dX7_weight_9 : decode cX7_weight 9 = .ok (.iconst 1, 1) := by decide +kernel
theorem dX7_weight_10 : decode cX7_weight 10 = .ok (.bipush 9, 2) := by decide +kernel
set_option maxRecDepth 20000 in
theorem ggX7_weight_X7_isWithin : GoodIn wsX7_weight wsX7_isWithin := goodIn_r _ [12] (by decide +kernel) (by decide +kernel)
set_option maxRecDepth 20000 in
theorem gX7_weight_X7_isWithin : GoodIn wsX7_weight (va_wsS RX7 37 yX7_isWithin wsX7_isWithin) := goodIn_app (goodIn_of _ (by decide +kernel)) ggX7_weight_X7_isWithin
theorem dX7_weight_12 : decode cX7_weight 12 = .ok (.invokestatic 37, 3) := by decide +kernel
theorem dX7_weight_15 : decode cX7_weight 15 = .ok (.ifCond .ne 5, 3) := by decide +kernel
theorem dX7_weight_20 : decode cX7_weight 20 = .ok (.aload_n 0, 1) := by decide +kernel
theorem dX7_weight_21 : decode cX7_weight 21 = .ok (.getfield 12, 3) := by decide +kernel
theorem dX7_weight_24 : decode cX7_weight 24 = .ok (.getfield 86, 3) := by decide +kernel
theorem dX7_weight_27 : decode cX7_weight 27 = .ok (.iload_n 1, 1) := by decide +kernel
theorem dX7_weight_28 : decode cX7_weight 28 = .ok (.aaload, 1) := by decide +kernel
theorem dX7_weight_29 : decode cX7_weight 29 = .ok (.getfield 102, 3) := by decide +kernel
theorem dX7_weight_32 : decode cX7_weight 32 = .ok (.istore_n 3, 1) := by decide +kernel
theorem dX7_weight_33 : decode cX7_weight 33 = .ok (.aload_n 0, 1) := by decide +kernel
theorem dX7_weight_34 : decode cX7_weight 34 = .ok (.getfield 12, 3) := by decide +kernel
theorem dX7_weight_37 : decode cX7_weight 37 = .ok (.getfield 86, 3) := by decide +kernel
theorem dX7_weight_40 : decode cX7_weight 40 = .ok (.iload_n 1, 1) := by decide +kernel
theorem dX7_weight_41 : decode cX7_weight 41 = .ok (.aaload, 1) := by decide +kernel
theorem dX7_weight_42 : decode cX7_weight 42 = .ok (.iload_n 2, 1) := by decide +kernel
theorem dX7_weight_43 : decode cX7_weight 43 = .ok (.putfield 102, 3) := by decide +kernel
theorem dX7_weight_46 : decode cX7_weight 46 = .ok (.iload_n 3, 1) := by decide +kernel
theorem dX7_weight_47 : decode cX7_weight 47 = .ok (.ireturn, 1) := by decide +kernel
theorem dX7_weight_18 : decode cX7_weight 18 = .ok (.iconst (-1), 1) := by decide +kernel
theorem dX7_weight_19 : decode cX7_weight 19 = .ok (.ireturn, 1) := by decide +kernel
theorem dX7_put_0 : decode cX7_put 0 = .ok (.aload_n 0, 1) := by decide +kernel
theorem dX7_put_1 : decode cX7_put 1 = .ok (.iload_n 1, 1) := by decide +kernel
set_option maxRecDepth 20000 in
theorem ggX7_put_X7_isCase : GoodIn wsX7_put wsX7_isCase := goodIn_r _ [8, 1, 9, 10, 11, 7, 12, 16, 17, 18, 19, 20, 21, 22, 23, 24, 25, 26, 27] (by decide +kernel) (by decide +kernel)
set_option maxRecDepth 20000 in
theorem gX7_put_X7_isCase : GoodIn wsX7_put (wsV RX7 96 RX7 yX7_isCase wsX7_isCase) := goodIn_app (goodIn_of _ (by decide +kernel)) ggX7_put_X7_isCase
theorem dX7_put_2 : decode cX7_put 2 = .ok (.invokevirtual 96, 3) := by decide +kernel
theorem dX7_put_5 : decode cX7_put 5 = .ok (.ifCond .eq 10, 3) := by decide +kernel
theorem dX7_put_8 : decode cX7_put 8 = .ok (.iload_n 2, 1) := by decide +kernel
set_option maxRecDepth 20000 in
theorem ggX7_put_X7_isSide : GoodIn wsX7_put wsX7_isSide := goodIn_r _ [15, 10, 11, 7, 12] (by decide +kernel) (by decide +kernel)
set_option maxRecDepth 20000 in
theorem gX7_put_X7_isSide : GoodIn wsX7_put (va_wsS RX7 132 yX7_isSide wsX7_isSide) := goodIn_app (goodIn_of _ (by decide +kernel)) ggX7_put_X7_isSide
theorem dX7_put_9 : decode cX7_put 9 = .ok (.invokestatic 132, 3) := by decide +kernel
theorem dX7_put_12 : decode cX7_put 12 = .ok (.ifCond .ne 5, 3) := by decide +kernel
theorem dX7_put_17 : decode cX7_put 17 = .ok (.aload_n 0, 1) := by decide +kernel
theorem dX7_put_18 : decode cX7_put 18 = .ok (.getfield 12, 3) := by decide +kernel
theorem dX7_put_21 : decode cX7_put 21 = .ok (.getfield 86, 3) := by decide +kernel
theorem dX7_put_24 : decode cX7_put 24 = .ok (.iload_n 1, 1) := by decide +kernel
theorem dX7_put_25 : decode cX7_put 25 = .ok (.aaload, 1) := by decide +kernel
theorem dX7_put_26 : decode cX7_put 26 = .ok (.getfield 135, 3) := by decide +kernel
theorem dX7_put_29 : decode cX7_put 29 = .ok (.iload_n 2, 1) := by decide +kernel
theorem dX7_put_30 : decode cX7_put 30 = .ok (.iaload, 1) := by decide +kernel
theorem dX7_put_31 : decode cX7_put 31 = .ok (.iconst (-1), 1) := by decide +kernel
theorem dX7_put_32 : decode cX7_put 32 = .ok (.if_icmp .ne 7, 3) := by decide +kernel
theorem dX7_put_39 : decode cX7_put 39 = .ok (.iconst 1, 1) := by decide +kernel
theorem dX7_put_40 : decode cX7_put 40 = .ok (.ireturn, 1) := by decide +kernel
theorem dX7_put_35 : decode cX7_put 35 = .ok (.iconst 0, 1) := by decide +kernel
theorem dX7_put_36 : decode cX7_put 36 = .ok (.goto 4, 3) := by decide +kernel
theorem dX7_put_15 : decode cX7_put 15 = .ok (.iconst (-1), 1) := by decide +kernel
theorem dX7_put_16 : decode cX7_put 16 = .ok (.ireturn, 1) := by decide +kernel
theorem dX7_strike_0 : decode cX7_strike 0 = .ok (.aload_n 0, 1) := by decide +kernel
theorem dX7_strike_1 : decode cX7_strike 1 = .ok (.iload_n 1, 1) := by decide +kernel
set_option maxRecDepth 20000 in
theorem ggX7_strike_X7_isCase : GoodIn wsX7_strike wsX7_isCase := goodIn_r _ [8, 1, 9, 10, 11, 7, 12, 13, 14, 15, 16, 17, 18, 19, 20, 21, 22, 23, 24] (by decide +kernel) (by decide +kernel)
set_option maxRecDepth 20000 in
theorem gX7_strike_X7_isCase : GoodIn wsX7_strike (wsV RX7 96 RX7 yX7_isCase wsX7_isCase) := goodIn_app (goodIn_of _ (by decide +kernel)) ggX7_strike_X7_isCase
theorem dX7_strike_2 : decode cX7_strike 2 = .ok (.invokevirtual 96, 3) := by decide +kernel
theorem dX7_strike_5 : decode cX7_strike 5 = .ok (.ifCond .ne 5, 3) := by decide +kernel
theorem dX7_strike_10 : decode cX7_strike 10 = .ok (.aload_n 0, 1) := by decide +kernel
theorem dX7_strike_11 : decode cX7_strike 11 = .ok (.getfield 12, 3) := by decide +kernel
theorem dX7_strike_14 : decode cX7_strike 14 = .ok (.getfield 86, 3) := by decide +kernel
theorem dX7_strike_17 : decode cX7_strike 17 = .ok (.iload_n 1, 1) := by decide +kernel
theorem dX7_strike_18 : decode cX7_strike 18 = .ok (.aaload, 1) := by decide +kernel
theorem dX7_strike_19 : decode cX7_strike 19 = .ok (.getfield 169, 3) := by decide +kernel
theorem dX7_strike_22 : decode cX7_strike 22 = .ok (.ifCond .ne 6, 3) := by decide +kernel
theorem dX7_strike_28 : decode cX7_strike 28 = .ok (.aload_n 0, 1) := by decide +kernel
theorem dX7_strike_29 : decode cX7_strike 29 = .ok (.getfield 12, 3) := by decide +kernel
theorem dX7_strike_32 : decode cX7_strike 32 = .ok (.getfield 86, 3) := by decide +kernel
theorem dX7_strike_35 : decode cX7_strike 35 = .ok (.iload_n 1, 1) := by decide +kernel
theorem dX7_strike_36 : decode cX7_strike 36 = .ok (.aaload, 1) := by decide +kernel
theorem dX7_strike_37 : decode cX7_strike 37 = .ok (.dup, 1) := by decide +kernel
theorem dX7_strike_38 : decode cX7_strike 38 = .ok (.getfield 169, 3) := by decide +kernel
theorem dX7_strike_41 : decode cX7_strike 41 = .ok (.iconst 1, 1) := by decide +kernel
theorem dX7_strike_42 : decode cX7_strike 42 = .ok (.isub, 1) := by decide +kernel
theorem dX7_strike_43 : decode cX7_strike 43 = .ok (.putfield 169, 3) := by decide +kernel
theorem dX7_strike_46 : decode cX7_strike 46 = .ok (.aload_n 0, 1) := by decide +kernel
theorem dX7_strike_47 : decode cX7_strike 47 = .ok (.getfield 12, 3) := by decide +kernel
theorem dX7_strike_50 : decode cX7_strike 50 = .ok (.getfield 86, 3) := by decide +kernel
theorem dX7_strike_53 : decode cX7_strike 53 = .ok (.iload_n 1, 1) := by decide +kernel
theorem dX7_strike_54 : decode cX7_strike 54 = .ok (.aaload, 1) := by decide +kernel
theorem dX7_strike_55 : decode cX7_strike 55 = .ok (.getfield 169, 3) := by decide +kernel
theorem dX7_strike_58 : decode cX7_strike 58 = .ok (.ireturn, 1) := by decide +kernel
theorem dX7_strike_25 : decode cX7_strike 25 = .ok (.bipush (-5), 2) := by decide +kernel
theorem dX7_strike_27 : decode cX7_strike 27 = .ok (.ireturn, 1) := by decide +kernel
theorem dX7_strike_8 : decode cX7_strike 8 = .ok (.iconst (-1), 1) := by decide +kernel
theorem dX7_strike_9 : decode cX7_strike 9 = .ok (.ireturn, 1) := by decide +kernel
theorem dX7_log_0 : decode cX7_log 0 = .ok (.aload_n 0, 1) := by decide +kernel
theorem dX7_log_1 : decode cX7_log 1 = .ok (.iload_n 1, 1) := by decide +kernel
set_option maxRecDepth 20000 in
theorem ggX7_log_X7_isCase : GoodIn wsX7_log wsX7_isCase := goodIn_r _ [8, 1, 9, 10, 11, 7, 12, 19, 20, 21, 22, 23, 24, 25, 26, 27, 28, 29, 30] (by decide +kernel) (by decide +kernel)
set_option maxRecDepth 20000 in
theorem gX7_log_X7_isCase : GoodIn wsX7_log (wsV RX7 96 RX7 yX7_isCase wsX7_isCase) := goodIn_app (goodIn_of _ (by decide +kernel)) ggX7_log_X7_isCase
theorem dX7_log_2 : decode cX7_log 2 = .ok (.invokevirtual 96, 3) := by decide +kernel
theorem dX7_log_5 : decode cX7_log 5 = .ok (.ifCond .eq 28, 3) := by decide +kernel
theorem dX7_log_8 : decode cX7_log 8 = .ok (.iload_n 2, 1) := by decide +kernel
set_option maxRecDepth 20000 in
theorem ggX7_log_X7_isSide : GoodIn wsX7_log wsX7_isSide := goodIn_r _ [15, 10, 11, 7, 12] (by decide +kernel) (by decide +kernel)
set_option maxRecDepth 20000 in
theorem gX7_log_X7_isSide : GoodIn wsX7_log (va_wsS RX7 132 yX7_isSide wsX7_isSide) := goodIn_app (goodIn_of _ (by decide +kernel)) ggX7_log_X7_isSide
theorem dX7_log_9 : decode cX7_log 9 = .ok (.invokestatic 132, 3) := by decide +kernel
theorem dX7_log_12 : decode cX7_log 12 = .ok (.ifCond .eq 21, 3) := by decide +kernel
theorem dX7_log_15 : decode cX7_log 15 = .ok (.iload_n 3, 1) := by decide +kernel
set_option maxRecDepth 20000 in
theorem ggX7_log_X7_isHour : GoodIn wsX7_log wsX7_isHour := goodIn_r _ [18, 10, 11, 7, 12] (by decide +kernel) (by decide +kernel)
set_option maxRecDepth 20000 in
theorem gX7_log_X7_isHour : GoodIn wsX7_log (va_wsS RX7 166 yX7_isHour wsX7_isHour) := goodIn_app (goodIn_of _ (by decide +kernel)) ggX7_log_X7_isHour
theorem dX7_log_16 : decode cX7_log 16 = .ok (.invokestatic 166, 3) := by decide +kernel
theorem dX7_log_19 : decode cX7_log 19 = .ok (.ifCond .eq 14, 3) := by decide +kernel
theorem dX7_log_22 : decode cX7_log 22 = .ok (.iload 4, 2) := by decide +kernel
theorem dX7_log_24 : decode cX7_log 24 = .ok (.iconst 0, 1) := by decide +kernel
theorem dX7_log_25 : decode cX7_log 25 = .ok (.bipush 7, 2) := by decide +kernel
set_option maxRecDepth 20000 in
theorem ggX7_log_X7_isWithin : GoodIn wsX7_log wsX7_isWithin := goodIn_r _ [12] (by decide +kernel) (by decide +kernel)
set_option maxRecDepth 20000 in
theorem gX7_log_X7_isWithin : GoodIn wsX7_log (va_wsS RX7 37 yX7_isWithin wsX7_isWithin) := goodIn_app (goodIn_of _ (by decide +kernel)) ggX7_log_X7_isWithin
theorem dX7_log_27 : decode cX7_log 27 = .ok (.invokestatic 37, 3) := by decide +kernel
theorem dX7_log_30 : decode cX7_log 30 = .ok (.ifCond .ne 5, 3) := by decide +kernel
theorem dX7_log_35 : decode cX7_log 35 = .ok (.aload_n 0, 1) := by decide +kernel
theorem dX7_log_36 : decode cX7_log 36 = .ok (.getfield 12, 3) := by decide +kernel
theorem dX7_log_39 : decode cX7_log 39 = .ok (.getfield 86, 3) := by decide +kernel
theorem dX7_log_42 : decode cX7_log 42 = .ok (.iload_n 1, 1) := by decide +kernel
theorem dX7_log_43 : decode cX7_log 43 = .ok (.aaload, 1) := by decide +kernel
theorem dX7_log_44 : decode cX7_log 44 = .ok (.getfield 207, 3) := by decide +kernel
theorem dX7_log_47 : decode cX7_log 47 = .ok (.iload_n 2, 1) := by decide +kernel
theorem dX7_log_48 : decode cX7_log 48 = .ok (.aaload, 1) := by decide +kernel
theorem dX7_log_49 : decode cX7_log 49 = .ok (.astore 5, 2) := by decide +kernel
theorem dX7_log_51 : decode cX7_log 51 = .ok (.aload 5, 2) := by decide +kernel
theorem dX7_log_53 : decode cX7_log 53 = .ok (.iload_n 3, 1) := by decide +kernel
theorem dX7_log_54 : decode cX7_log 54 = .ok (.iaload, 1) := by decide +kernel
theorem dX7_log_55 : decode cX7_log 55 = .ok (.istore 6, 2) := by decide +kernel
theorem dX7_log_57 : decode cX7_log 57 = .ok (.aload 5, 2) := by decide +kernel
theorem dX7_log_59 : decode cX7_log 59 = .ok (.iload_n 3, 1) := by decide +kernel
theorem dX7_log_60 : decode cX7_log 60 = .ok (.iload 4, 2) := by decide +kernel
theorem dX7_log_62 : decode cX7_log 62 = .ok (.iastore, 1) := by decide +kernel
theorem dX7_log_63 : decode cX7_log 63 = .ok (.iload 6, 2) := by decide +kernel
theorem dX7_log_65 : decode cX7_log 65 = .ok (.ireturn, 1) := by decide +kernel
theorem dX7_log_33 : decode cX7_log 33 = .ok (.iconst (-1), 1) := by decide +kernel
theorem dX7_log_34 : decode cX7_log 34 = .ok (.ireturn, 1) := by decide +kernel
set_option maxHeartbeats 4000000 in
set_option maxRecDepth 100000 in
theorem g_X7_close (l : Launch) (dC : Nat → ClassId) (dI : Nat → Nat → Nat) (cy : Nat → ClassId) (sz : Nat) (ad : Nat → Nat) (kv : Value) (N : Nat) (hN : 119 ≤ N) (v : Nat → Nat → Int32) (hv : Iv v) (x0 : Int32) : Met l yX7_close wsX7_close ({ frames := 3, cells := 0, slots := 0, locals := 192 }) (va_Pc [.ref (ad 0), .int x0] (ex_Pre dC dI cy sz (wl ad kv cy N v))) (va_Qi (fun (r : Int32) (u : Nat → Nat → Int32) => Iv u ∧ Fr v u) (fun u t => ex_Pst dC dI (va_A (wl ad kv cy N v) sz) (wl ad kv cy N u) t) (va_A (wl ad kv cy N v) sz)) 0 0 (va_A (wl ad kv cy N v) sz) := by
  refine Met.ofW (cc := cX7_close) (maxL := 2) (ret := (some .int)) (by decide) rfl ?_
  intro p e s m args below meth c s₁ B hml hv
  obtain ⟨rfl, hsz, hE, hP, hK, hD0⟩ := hv
  have hx := B.exec
  have hb := B.bytes
  have hr := B.returns
  have hts := atoms_spec (ws := wsX7_close) B.pre
  have hown : s.vm.findClass RX7 = some m.cls := findClass_of_methodNamed B.named
  have hlocks := B.notSynchronized
  subst hsz
  have hD := hD0.self (sz := s.heap.size)
  generalize hAe : va_A (wl ad kv cy N v) s.heap.size = A at hD ⊢
  have hA : ∀ q : Nat, s.heap.size ≤ q → A q := fun q h => by rw [← hAe]; exact Or.inr h
  have hS : va_S A s.heap s.heap [] := va_S.rf
  have hP : va_P (dC, dI) vwCl (wl ad kv cy N v) s.heap := hP
  have hl := lv_entry ([.ref (ad 0), .int x0]) (n := 2) (Nat.le_of_ble_eq_true rfl)
  rw [lg_entry_eq]
  generalize (lg_sl ([.ref (ad 0), .int x0]) ++ List.replicate (2 - (lg_sl ([.ref (ad 0), .int x0])).length) Slot.unset).toArray = ls at hl ⊢
  have hl : lv_has ls 2 [(0, .ref (ad 0)), (1, .int x0)] := hl
  have hfr : Fr v v := Fr.rf
  refine lv_aload_n hx hb dX7_close_0 rfl (lv_at hl 0 rfl) ?_
  refine lv_iload_n hx hb dX7_close_1 rfl (lv_at hl 1 rfl) ?_
  refine yw_i (w1 := fun (u : Nat → Nat → Int32) => wl ad kv cy N u) hD hS hA (va_runV (As := [.int x0]) (rest := []) ⟨hx, hb, hml, hown, hts⟩ (g_X7_isCase l dC dI cy _ ad kv N hN v hv x0) (cwV 1 hts gX7_close_X7_isCase rfl rfl rfl (by decide +kernel) ⟨Nat.le_of_ble_eq_true rfl, Nat.le_of_ble_eq_true rfl⟩) (yw_preV hE hK hP hD (ci := 7) (q0 := 0) rfl (wl_at (by omega) (ce_0 (by decide)))) rfl rfl hl.1 rfl (lv_room (Nat.le_of_ble_eq_true rfl)) dX7_close_2 ⟨Nat.le_of_ble_eq_true rfl, Nat.le_of_ble_eq_true rfl⟩) (fun r_1 v_1 H locs hw_1 hP hD hS => ?_)
  obtain ⟨hv, hw_1⟩ := hw_1
  obtain ⟨hu_1, hw_1⟩ := hw_1
  have hfr : Fr v v_1 := by rw [hu_1]; exact hfr
  rcases hw_1 with ⟨rfl, ha_2⟩ | ⟨rfl, -⟩
  · have hb_2 := hv.at (k := 13) (j := 2) (K := 3) (by decide) rfl
    have hb_2 : 0 ≤ x0.toInt ∧ x0.toInt < 6 := by omega
    refine lv_if_ne (tgt := 10) hx hb dX7_close_5 (by decide) (fun _ => ?_) (fun c9 => absurd c9 (by decide))
    refine lv_aload_n hx hb dX7_close_10 rfl (lv_at hl 0 rfl) ?_
    refine va_get (D := (dC, dI)) (ci := 7) (v := .ref (ad 13)) (C := RX7) (T := TX7) (N := 5) hx hb hts (by decide +kernel) hown hK hP (0) (wl_at (by omega) (ce_0 (by decide))) rfl 0 (by decide) (hts (.fieldLink RX7 12 "QuietStairs" "now" "LQuietStairs$House;") (by decide +kernel)) (fun _ h9 => h9) rfl dX7_close_11 ?_
    refine va_get (D := (dC, dI)) (ci := 1) (v := .ref (ad 16)) (C := RX1) (T := TX1) (N := 7) hx hb hts (by decide +kernel) hown hK hP (13) (wl_at (by omega) (ce_3 (by decide))) rfl 6 (by decide) (hts (.fieldLink RX7 86 "QuietStairs$House" "cases" "[LQuietStairs$Case;") (by decide +kernel)) (fun _ h9 => h9) rfl dX7_close_14 ?_
    refine lv_iload_n hx hb dX7_close_17 rfl (lv_at hl 1 rfl) ?_
    obtain ⟨pi3, i3, hi3, ni3, mi3⟩ := t_in (x := x0) (n := 6) ⟨by omega, by omega⟩
    refine va_aldq hx hb hK hP (16) 3 (wl_at (by omega) (ce_6 (by decide))) rfl pi3 dX7_close_18 ?_
    refine W.eq (g2 := F0 m 19 ls [.ref (ad (29 + 15 * i3))]) (by rw [ni3, if_pos hi3, show 16 + 13 + 15 * i3 = 29 + 15 * i3 from by omega]; rfl) ?_
    refine va_get (D := (dC, dI)) (ci := 0) (v := .int (v_1 (29 + 15 * i3) 0)) (C := RX0) (T := TX0) (N := 11) hx hb hts (by decide +kernel) hown hK hP (29 + 15 * i3) (wl_at (by omega) (ce_9 (kd_c i3 hi3).1.1)) rfl 0 (by decide) (hts (.fieldLink RX7 99 "QuietStairs$Case" "state" "I") (by decide +kernel)) (fun _ h9 => h9) rfl dX7_close_19 ?_
    refine lv_topi (fun x_4 ex_4 => ?_)
    have k_0 : (0 : Int32).toInt = 0 := by decide
    refine lv_if_eq (tgt := 28) hx hb dX7_close_22 (by decide) (fun c_5 => ?_) (fun c_5 => ?_)
    · have tc_5 : x_4.toInt = (0 : Int32).toInt := by rw [c_5]
      refine lv_aload_n hx hb dX7_close_28 rfl (lv_at hl 0 rfl) ?_
      refine va_get (D := (dC, dI)) (ci := 7) (v := .ref (ad 13)) (C := RX7) (T := TX7) (N := 5) hx hb hts (by decide +kernel) hown hK hP (0) (wl_at (by omega) (ce_0 (by decide))) rfl 0 (by decide) (hts (.fieldLink RX7 12 "QuietStairs" "now" "LQuietStairs$House;") (by decide +kernel)) (fun _ h9 => h9) rfl dX7_close_29 ?_
      refine va_get (D := (dC, dI)) (ci := 1) (v := .ref (ad 16)) (C := RX1) (T := TX1) (N := 7) hx hb hts (by decide +kernel) hown hK hP (13) (wl_at (by omega) (ce_3 (by decide))) rfl 6 (by decide) (hts (.fieldLink RX7 86 "QuietStairs$House" "cases" "[LQuietStairs$Case;") (by decide +kernel)) (fun _ h9 => h9) rfl dX7_close_32 ?_
      refine lv_iload_n hx hb dX7_close_35 rfl (lv_at hl 1 rfl) ?_
      refine va_aldq hx hb hK hP (16) 3 (wl_at (by omega) (ce_6 (by decide))) rfl pi3 dX7_close_36 ?_
      refine W.eq (g2 := F0 m 37 ls [.ref (ad (29 + 15 * i3))]) (by rw [ni3, if_pos hi3, show 16 + 13 + 15 * i3 = 29 + 15 * i3 from by omega]; rfl) ?_
      refine lv_iconst (v := 2) hx hb dX7_close_37 (by decide) ?_
      refine va_put (D := (dC, dI)) (ci := 0) (v := .int 2) (ty := .int) (C := RX0) (T := TX0) (N := 11) hx hb hts (by decide +kernel) tyX0 tyX0_ok nmX0 hown hK hP hD hS (29 + 15 * i3) (wl_at (by omega) (ce_9 (kd_c i3 hi3).1.1)) rfl 0 (by decide) (hts (.fieldLink RX7 99 "QuietStairs$Case" "state" "I") (by decide +kernel)) (fun _ h9 => h9) rfl (by decide +kernel) rfl rfl (Nat.le_of_ble_eq_true rfl) dX7_close_38 (fun H locs hP hD hS => ?_)
      have k_2 : (2 : Int32).toInt = 2 := by decide
      obtain ⟨v_6, ev_6⟩ : ∃ u : Nat → Nat → Int32, u = upr v_1 (29 + 15 * i3) (upd (v_1 (29 + 15 * i3)) 0 2) := ⟨_, rfl⟩
      have hP : va_P (dC, dI) vwCl (wl ad kv cy N v_6) H := by rw [ev_6, ← wl_put (e := _) (ce_9 (kd_c i3 hi3).1.1)]; exact hP
      have hD : va_D A (wl ad kv cy N v_6) := by rw [ev_6, ← wl_put (e := _) (ce_9 (kd_c i3 hi3).1.1)]; exact hD
      have hv : Iv v_6 := by rw [ev_6]; exact hv.put (K := 9) (kd_c i3 hi3).1.1 (fun h q => by simp [bd] at q)
      have hfr : Fr v v_6 := by rw [ev_6]; exact hfr.put (by omega) (by omega) (by omega)
      refine lv_iconst (v := 1) hx hb dX7_close_41 (by decide) ?_
      exact W.iret (v := 1) hx hb hr (fun t ht hW => ⟨⟨1, v_6, rfl, ⟨hv, hfr⟩, by rw [ht]; exact hP, hD⟩, hS.F ht⟩) hS.2.2 dX7_close_42
    · have tc_5 : x_4.toInt ≠ (0 : Int32).toInt := fun q => absurd (Int32.toInt_inj.mp q) c_5
      refine lv_bipush (v := (-4)) hx hb dX7_close_25 (by decide) ?_
      exact W.iret (v := (-4)) hx hb hr (fun t ht hW => ⟨⟨(-4), v_1, rfl, ⟨hv, hfr⟩, by rw [ht]; exact hP, hD⟩, hS.F ht⟩) hS.2.2 dX7_close_27
  · refine lv_if_ne (tgt := 10) hx hb dX7_close_5 (by decide) (fun c9 => absurd c9 (by decide)) (fun _ => ?_)
    refine lv_iconst (v := (-1)) hx hb dX7_close_8 (by decide) ?_
    exact W.iret (v := (-1)) hx hb hr (fun t ht hW => ⟨⟨(-1), v_1, rfl, ⟨hv, hfr⟩, by rw [ht]; exact hP, hD⟩, hS.F ht⟩) hS.2.2 dX7_close_9

set_option maxHeartbeats 4000000 in
set_option maxRecDepth 100000 in
theorem g_X7_weight (l : Launch) (dC : Nat → ClassId) (dI : Nat → Nat → Nat) (cy : Nat → ClassId) (sz : Nat) (ad : Nat → Nat) (kv : Value) (N : Nat) (hN : 119 ≤ N) (v : Nat → Nat → Int32) (hv : Iv v) (x0 x1 : Int32) : Met l yX7_weight wsX7_weight ({ frames := 3, cells := 0, slots := 0, locals := 192 }) (va_Pc [.ref (ad 0), .int x0, .int x1] (ex_Pre dC dI cy sz (wl ad kv cy N v))) (va_Qi (fun (r : Int32) (u : Nat → Nat → Int32) => Iv u ∧ Fr v u) (fun u t => ex_Pst dC dI (va_A (wl ad kv cy N v) sz) (wl ad kv cy N u) t) (va_A (wl ad kv cy N v) sz)) 0 0 (va_A (wl ad kv cy N v) sz) := by
  refine Met.ofW (cc := cX7_weight) (maxL := 4) (ret := (some .int)) (by decide) rfl ?_
  intro p e s m args below meth c s₁ B hml hv
  obtain ⟨rfl, hsz, hE, hP, hK, hD0⟩ := hv
  have hx := B.exec
  have hb := B.bytes
  have hr := B.returns
  have hts := atoms_spec (ws := wsX7_weight) B.pre
  have hown : s.vm.findClass RX7 = some m.cls := findClass_of_methodNamed B.named
  have hlocks := B.notSynchronized
  subst hsz
  have hD := hD0.self (sz := s.heap.size)
  generalize hAe : va_A (wl ad kv cy N v) s.heap.size = A at hD ⊢
  have hA : ∀ q : Nat, s.heap.size ≤ q → A q := fun q h => by rw [← hAe]; exact Or.inr h
  have hS : va_S A s.heap s.heap [] := va_S.rf
  have hP : va_P (dC, dI) vwCl (wl ad kv cy N v) s.heap := hP
  have hl := lv_entry ([.ref (ad 0), .int x0, .int x1]) (n := 4) (Nat.le_of_ble_eq_true rfl)
  rw [lg_entry_eq]
  generalize (lg_sl ([.ref (ad 0), .int x0, .int x1]) ++ List.replicate (4 - (lg_sl ([.ref (ad 0), .int x0, .int x1])).length) Slot.unset).toArray = ls at hl ⊢
  have hl : lv_has ls 4 [(0, .ref (ad 0)), (1, .int x0), (2, .int x1)] := hl
  have hfr : Fr v v := Fr.rf
  refine lv_aload_n hx hb dX7_weight_0 rfl (lv_at hl 0 rfl) ?_
  refine lv_iload_n hx hb dX7_weight_1 rfl (lv_at hl 1 rfl) ?_
  refine yw_i (w1 := fun (u : Nat → Nat → Int32) => wl ad kv cy N u) hD hS hA (va_runV (As := [.int x0]) (rest := []) ⟨hx, hb, hml, hown, hts⟩ (g_X7_isCase l dC dI cy _ ad kv N hN v hv x0) (cwV 1 hts gX7_weight_X7_isCase rfl rfl rfl (by decide +kernel) ⟨Nat.le_of_ble_eq_true rfl, Nat.le_of_ble_eq_true rfl⟩) (yw_preV hE hK hP hD (ci := 7) (q0 := 0) rfl (wl_at (by omega) (ce_0 (by decide)))) rfl rfl hl.1 rfl (lv_room (Nat.le_of_ble_eq_true rfl)) dX7_weight_2 ⟨Nat.le_of_ble_eq_true rfl, Nat.le_of_ble_eq_true rfl⟩) (fun r_1 v_1 H locs hw_1 hP hD hS => ?_)
  obtain ⟨hv, hw_1⟩ := hw_1
  obtain ⟨hu_1, hw_1⟩ := hw_1
  have hfr : Fr v v_1 := by rw [hu_1]; exact hfr
  rcases hw_1 with ⟨rfl, ha_2⟩ | ⟨rfl, -⟩
  · have hb_2 := hv.at (k := 13) (j := 2) (K := 3) (by decide) rfl
    have hb_2 : 0 ≤ x0.toInt ∧ x0.toInt < 6 := by omega
    refine lv_if_eq (tgt := 18) hx hb dX7_weight_5 (by decide) (fun c9 => absurd c9 (by decide)) (fun _ => ?_)
    refine lv_iload_n hx hb dX7_weight_8 rfl (lv_at hl 2 rfl) ?_
    refine lv_iconst (v := 1) hx hb dX7_weight_9 (by decide) ?_
    refine lv_bipush (v := 9) hx hb dX7_weight_10 (by decide) ?_
    refine yc_p hP hS (va_runS (As := [.int x1, .int 1, .int 9]) (rest := []) ⟨hx, hb, hml, hown, hts⟩ (c_X7_isWithin l x1 1 9) (cwS 3 hts gX7_weight_X7_isWithin rfl rfl rfl (by decide +kernel) ⟨Nat.le_of_ble_eq_true rfl, Nat.le_of_ble_eq_true rfl⟩) ex_preP rfl rfl hl.1 rfl (lv_room (Nat.le_of_ble_eq_true rfl)) dX7_weight_12 ⟨Nat.le_of_ble_eq_true rfl, Nat.le_of_ble_eq_true rfl⟩) (fun r_3 H locs hw_3 hP hS => ?_)
    rcases wi_ca hw_3 with ⟨rfl, hc_4⟩ | ⟨rfl, hc_4⟩
    · have k_1 : (1 : Int32).toInt = 1 := by decide
      have k_9 : (9 : Int32).toInt = 9 := by decide
      have tc_4 := wi_tl hc_4
      refine lv_if_ne (tgt := 20) hx hb dX7_weight_15 (by decide) (fun _ => ?_) (fun c9 => absurd c9 (by decide))
      refine lv_aload_n hx hb dX7_weight_20 rfl (lv_at hl 0 rfl) ?_
      refine va_get (D := (dC, dI)) (ci := 7) (v := .ref (ad 13)) (C := RX7) (T := TX7) (N := 5) hx hb hts (by decide +kernel) hown hK hP (0) (wl_at (by omega) (ce_0 (by decide))) rfl 0 (by decide) (hts (.fieldLink RX7 12 "QuietStairs" "now" "LQuietStairs$House;") (by decide +kernel)) (fun _ h9 => h9) rfl dX7_weight_21 ?_
      refine va_get (D := (dC, dI)) (ci := 1) (v := .ref (ad 16)) (C := RX1) (T := TX1) (N := 7) hx hb hts (by decide +kernel) hown hK hP (13) (wl_at (by omega) (ce_3 (by decide))) rfl 6 (by decide) (hts (.fieldLink RX7 86 "QuietStairs$House" "cases" "[LQuietStairs$Case;") (by decide +kernel)) (fun _ h9 => h9) rfl dX7_weight_24 ?_
      refine lv_iload_n hx hb dX7_weight_27 rfl (lv_at hl 1 rfl) ?_
      obtain ⟨pi5, i5, hi5, ni5, mi5⟩ := t_in (x := x0) (n := 6) ⟨by omega, by omega⟩
      refine va_aldq hx hb hK hP (16) 3 (wl_at (by omega) (ce_6 (by decide))) rfl pi5 dX7_weight_28 ?_
      refine W.eq (g2 := F0 m 29 ls [.ref (ad (29 + 15 * i5))]) (by rw [ni5, if_pos hi5, show 16 + 13 + 15 * i5 = 29 + 15 * i5 from by omega]; rfl) ?_
      refine va_get (D := (dC, dI)) (ci := 0) (v := .int (v_1 (29 + 15 * i5) 3)) (C := RX0) (T := TX0) (N := 11) hx hb hts (by decide +kernel) hown hK hP (29 + 15 * i5) (wl_at (by omega) (ce_9 (kd_c i5 hi5).1.1)) rfl 3 (by decide) (hts (.fieldLink RX7 102 "QuietStairs$Case" "weight" "I") (by decide +kernel)) (fun _ h9 => h9) rfl dX7_weight_29 ?_
      refine lv_topi (fun x_6 ex_6 => ?_)
      refine lv_istore_n (lv' := [(3, .int x_6), (0, .ref (ad 0)), (1, .int x0), (2, .int x1)]) hx hb dX7_weight_32 rfl hl (by decide) rfl (fun ls hl => ?_)
      refine lv_aload_n hx hb dX7_weight_33 rfl (lv_at hl 1 rfl) ?_
      refine va_get (D := (dC, dI)) (ci := 7) (v := .ref (ad 13)) (C := RX7) (T := TX7) (N := 5) hx hb hts (by decide +kernel) hown hK hP (0) (wl_at (by omega) (ce_0 (by decide))) rfl 0 (by decide) (hts (.fieldLink RX7 12 "QuietStairs" "now" "LQuietStairs$House;") (by decide +kernel)) (fun _ h9 => h9) rfl dX7_weight_34 ?_
      refine va_get (D := (dC, dI)) (ci := 1) (v := .ref (ad 16)) (C := RX1) (T := TX1) (N := 7) hx hb hts (by decide +kernel) hown hK hP (13) (wl_at (by omega) (ce_3 (by decide))) rfl 6 (by decide) (hts (.fieldLink RX7 86 "QuietStairs$House" "cases" "[LQuietStairs$Case;") (by decide +kernel)) (fun _ h9 => h9) rfl dX7_weight_37 ?_
      refine lv_iload_n hx hb dX7_weight_40 rfl (lv_at hl 2 rfl) ?_
      refine va_aldq hx hb hK hP (16) 3 (wl_at (by omega) (ce_6 (by decide))) rfl pi5 dX7_weight_41 ?_
      refine W.eq (g2 := F0 m 42 ls [.ref (ad (29 + 15 * i5))]) (by rw [ni5, if_pos hi5, show 16 + 13 + 15 * i5 = 29 + 15 * i5 from by omega]; rfl) ?_
      refine lv_iload_n hx hb dX7_weight_42 rfl (lv_at hl 3 rfl) ?_
      refine va_put (D := (dC, dI)) (ci := 0) (v := .int x1) (ty := .int) (C := RX0) (T := TX0) (N := 11) hx hb hts (by decide +kernel) tyX0 tyX0_ok nmX0 hown hK hP hD hS (29 + 15 * i5) (wl_at (by omega) (ce_9 (kd_c i5 hi5).1.1)) rfl 3 (by decide) (hts (.fieldLink RX7 102 "QuietStairs$Case" "weight" "I") (by decide +kernel)) (fun _ h9 => h9) rfl (by decide +kernel) rfl rfl (Nat.le_of_ble_eq_true rfl) dX7_weight_43 (fun H locs hP hD hS => ?_)
      obtain ⟨v_7, ev_7⟩ : ∃ u : Nat → Nat → Int32, u = upr v_1 (29 + 15 * i5) (upd (v_1 (29 + 15 * i5)) 3 x1) := ⟨_, rfl⟩
      have hP : va_P (dC, dI) vwCl (wl ad kv cy N v_7) H := by rw [ev_7, ← wl_put (e := _) (ce_9 (kd_c i5 hi5).1.1)]; exact hP
      have hD : va_D A (wl ad kv cy N v_7) := by rw [ev_7, ← wl_put (e := _) (ce_9 (kd_c i5 hi5).1.1)]; exact hD
      have hv : Iv v_7 := by rw [ev_7]; exact hv.put (K := 9) (kd_c i5 hi5).1.1 (fun h q => by simp [bd] at q)
      have hfr : Fr v v_7 := by rw [ev_7]; exact hfr.put (by omega) (by omega) (by omega)
      refine lv_iload_n hx hb dX7_weight_46 rfl (lv_at hl 0 rfl) ?_
      exact W.iret (v := x_6) hx hb hr (fun t ht hW => ⟨⟨x_6, v_7, rfl, ⟨hv, hfr⟩, by rw [ht]; exact hP, hD⟩, hS.F ht⟩) hS.2.2 dX7_weight_47
    · refine lv_if_ne (tgt := 20) hx hb dX7_weight_15 (by decide) (fun c9 => absurd c9 (by decide)) (fun _ => ?_)
      refine lv_iconst (v := (-1)) hx hb dX7_weight_18 (by decide) ?_
      exact W.iret (v := (-1)) hx hb hr (fun t ht hW => ⟨⟨(-1), v_1, rfl, ⟨hv, hfr⟩, by rw [ht]; exact hP, hD⟩, hS.F ht⟩) hS.2.2 dX7_weight_19
  · refine lv_if_eq (tgt := 18) hx hb dX7_weight_5 (by decide) (fun _ => ?_) (fun c9 => absurd c9 (by decide))
    refine lv_iconst (v := (-1)) hx hb dX7_weight_18 (by decide) ?_
    exact W.iret (v := (-1)) hx hb hr (fun t ht hW => ⟨⟨(-1), v_1, rfl, ⟨hv, hfr⟩, by rw [ht]; exact hP, hD⟩, hS.F ht⟩) hS.2.2 dX7_weight_19

set_option maxHeartbeats 4000000 in
set_option maxRecDepth 100000 in
theorem g_X7_put (l : Launch) (dC : Nat → ClassId) (dI : Nat → Nat → Nat) (cy : Nat → ClassId) (sz : Nat) (ad : Nat → Nat) (kv : Value) (N : Nat) (hN : 119 ≤ N) (v : Nat → Nat → Int32) (hv : Iv v) (x0 x1 : Int32) : Met l yX7_put wsX7_put ({ frames := 3, cells := 0, slots := 0, locals := 192 }) (va_Pc [.ref (ad 0), .int x0, .int x1] (ex_Pre dC dI cy sz (wl ad kv cy N v))) (va_Qi (fun (r : Int32) (u : Nat → Nat → Int32) => Iv u ∧ Fr v u) (fun u t => ex_Pst dC dI (va_A (wl ad kv cy N v) sz) (wl ad kv cy N u) t) (va_A (wl ad kv cy N v) sz)) 0 0 (va_A (wl ad kv cy N v) sz) := by
  refine Met.ofW (cc := cX7_put) (maxL := 3) (ret := (some .int)) (by decide) rfl ?_
  intro p e s m args below meth c s₁ B hml hv
  obtain ⟨rfl, hsz, hE, hP, hK, hD0⟩ := hv
  have hx := B.exec
  have hb := B.bytes
  have hr := B.returns
  have hts := atoms_spec (ws := wsX7_put) B.pre
  have hown : s.vm.findClass RX7 = some m.cls := findClass_of_methodNamed B.named
  have hlocks := B.notSynchronized
  subst hsz
  have hD := hD0.self (sz := s.heap.size)
  generalize hAe : va_A (wl ad kv cy N v) s.heap.size = A at hD ⊢
  have hA : ∀ q : Nat, s.heap.size ≤ q → A q := fun q h => by rw [← hAe]; exact Or.inr h
  have hS : va_S A s.heap s.heap [] := va_S.rf
  have hP : va_P (dC, dI) vwCl (wl ad kv cy N v) s.heap := hP
  have hl := lv_entry ([.ref (ad 0), .int x0, .int x1]) (n := 3) (Nat.le_of_ble_eq_true rfl)
  rw [lg_entry_eq]
  generalize (lg_sl ([.ref (ad 0), .int x0, .int x1]) ++ List.replicate (3 - (lg_sl ([.ref (ad 0), .int x0, .int x1])).length) Slot.unset).toArray = ls at hl ⊢
  have hl : lv_has ls 3 [(0, .ref (ad 0)), (1, .int x0), (2, .int x1)] := hl
  have hfr : Fr v v := Fr.rf
  refine lv_aload_n hx hb dX7_put_0 rfl (lv_at hl 0 rfl) ?_
  refine lv_iload_n hx hb dX7_put_1 rfl (lv_at hl 1 rfl) ?_
  refine yw_i (w1 := fun (u : Nat → Nat → Int32) => wl ad kv cy N u) hD hS hA (va_runV (As := [.int x0]) (rest := []) ⟨hx, hb, hml, hown, hts⟩ (g_X7_isCase l dC dI cy _ ad kv N hN v hv x0) (cwV 1 hts gX7_put_X7_isCase rfl rfl rfl (by decide +kernel) ⟨Nat.le_of_ble_eq_true rfl, Nat.le_of_ble_eq_true rfl⟩) (yw_preV hE hK hP hD (ci := 7) (q0 := 0) rfl (wl_at (by omega) (ce_0 (by decide)))) rfl rfl hl.1 rfl (lv_room (Nat.le_of_ble_eq_true rfl)) dX7_put_2 ⟨Nat.le_of_ble_eq_true rfl, Nat.le_of_ble_eq_true rfl⟩) (fun r_1 v_1 H locs hw_1 hP hD hS => ?_)
  obtain ⟨hv, hw_1⟩ := hw_1
  obtain ⟨hu_1, hw_1⟩ := hw_1
  have hfr : Fr v v_1 := by rw [hu_1]; exact hfr
  rcases hw_1 with ⟨rfl, ha_2⟩ | ⟨rfl, -⟩
  · have hb_2 := hv.at (k := 13) (j := 2) (K := 3) (by decide) rfl
    have hb_2 : 0 ≤ x0.toInt ∧ x0.toInt < 6 := by omega
    refine lv_if_eq (tgt := 15) hx hb dX7_put_5 (by decide) (fun c9 => absurd c9 (by decide)) (fun _ => ?_)
    refine lv_iload_n hx hb dX7_put_8 rfl (lv_at hl 2 rfl) ?_
    refine yc_p hP hS (va_runS (As := [.int x1]) (rest := []) ⟨hx, hb, hml, hown, hts⟩ (c_X7_isSide l x1) (cwS 1 hts gX7_put_X7_isSide rfl rfl rfl (by decide +kernel) ⟨Nat.le_of_ble_eq_true rfl, Nat.le_of_ble_eq_true rfl⟩) ex_preP rfl rfl hl.1 rfl (lv_room (Nat.le_of_ble_eq_true rfl)) dX7_put_9 ⟨Nat.le_of_ble_eq_true rfl, Nat.le_of_ble_eq_true rfl⟩) (fun r_3 H locs hw_3 hP hS => ?_)
    rcases wi_ca hw_3 with ⟨rfl, hc_4⟩ | ⟨rfl, hc_4⟩
    · have k_0 : (0 : Int32).toInt = 0 := by decide
      have k_1 : (1 : Int32).toInt = 1 := by decide
      have tc_4 := wi_tl hc_4
      refine lv_if_ne (tgt := 17) hx hb dX7_put_12 (by decide) (fun _ => ?_) (fun c9 => absurd c9 (by decide))
      refine lv_aload_n hx hb dX7_put_17 rfl (lv_at hl 0 rfl) ?_
      refine va_get (D := (dC, dI)) (ci := 7) (v := .ref (ad 13)) (C := RX7) (T := TX7) (N := 5) hx hb hts (by decide +kernel) hown hK hP (0) (wl_at (by omega) (ce_0 (by decide))) rfl 0 (by decide) (hts (.fieldLink RX7 12 "QuietStairs" "now" "LQuietStairs$House;") (by decide +kernel)) (fun _ h9 => h9) rfl dX7_put_18 ?_
      refine va_get (D := (dC, dI)) (ci := 1) (v := .ref (ad 16)) (C := RX1) (T := TX1) (N := 7) hx hb hts (by decide +kernel) hown hK hP (13) (wl_at (by omega) (ce_3 (by decide))) rfl 6 (by decide) (hts (.fieldLink RX7 86 "QuietStairs$House" "cases" "[LQuietStairs$Case;") (by decide +kernel)) (fun _ h9 => h9) rfl dX7_put_21 ?_
      refine lv_iload_n hx hb dX7_put_24 rfl (lv_at hl 1 rfl) ?_
      obtain ⟨pi5, i5, hi5, ni5, mi5⟩ := t_in (x := x0) (n := 6) ⟨by omega, by omega⟩
      refine va_aldq hx hb hK hP (16) 3 (wl_at (by omega) (ce_6 (by decide))) rfl pi5 dX7_put_25 ?_
      refine W.eq (g2 := F0 m 26 ls [.ref (ad (29 + 15 * i5))]) (by rw [ni5, if_pos hi5, show 16 + 13 + 15 * i5 = 29 + 15 * i5 from by omega]; rfl) ?_
      refine va_get (D := (dC, dI)) (ci := 0) (v := .ref (ad (29 + 15 * i5 + 2))) (C := RX0) (T := TX0) (N := 11) hx hb hts (by decide +kernel) hown hK hP (29 + 15 * i5) (wl_at (by omega) (ce_9 (kd_c i5 hi5).1.1)) rfl 7 (by decide) (hts (.fieldLink RX7 135 "QuietStairs$Case" "box" "[I") (by decide +kernel)) (fun _ h9 => h9) rfl dX7_put_26 ?_
      refine W.eq (g2 := F0 m 29 ls [.ref (ad (31 + 15 * i5))]) (by rw [show 29 + 15 * i5 + 2 = 31 + 15 * i5 from by omega]) ?_
      refine lv_iload_n hx hb dX7_put_29 rfl (lv_at hl 2 rfl) ?_
      obtain ⟨pi6, i6, hi6, ni6, mi6⟩ := t_in (x := x1) (n := 2) ⟨by omega, by omega⟩
      refine va_iald hx hb hK hP (31 + 15 * i5) 0 (wl_at (by omega) (ce_20 (kd_c i5 hi5).1.2.2.1)) rfl pi6 dX7_put_30 ?_
      refine lv_topi (fun x_7 ex_7 => ?_)
      refine lv_iconst (v := (-1)) hx hb dX7_put_31 (by decide) ?_
      have k_m1 : ((-1) : Int32).toInt = -1 := by decide
      refine lv_icmp_ne (tgt := 39) hx hb dX7_put_32 (by decide) (fun c_8 => ?_) (fun c_8 => ?_)
      · have tc_8 : x_7.toInt ≠ ((-1) : Int32).toInt := fun q => absurd (Int32.toInt_inj.mp q) c_8
        refine lv_iconst (v := 1) hx hb dX7_put_39 (by decide) ?_
        exact W.iret (v := 1) hx hb hr (fun t ht hW => ⟨⟨1, v_1, rfl, ⟨hv, hfr⟩, by rw [ht]; exact hP, hD⟩, hS.F ht⟩) hS.2.2 dX7_put_40
      · have tc_8 : x_7.toInt = ((-1) : Int32).toInt := by rw [c_8]
        refine lv_iconst (v := 0) hx hb dX7_put_35 (by decide) ?_
        refine lv_goto (tgt := 40) hx hb dX7_put_36 (by decide) ?_
        exact W.iret (v := 0) hx hb hr (fun t ht hW => ⟨⟨0, v_1, rfl, ⟨hv, hfr⟩, by rw [ht]; exact hP, hD⟩, hS.F ht⟩) hS.2.2 dX7_put_40
    · refine lv_if_ne (tgt := 17) hx hb dX7_put_12 (by decide) (fun c9 => absurd c9 (by decide)) (fun _ => ?_)
      refine lv_iconst (v := (-1)) hx hb dX7_put_15 (by decide) ?_
      exact W.iret (v := (-1)) hx hb hr (fun t ht hW => ⟨⟨(-1), v_1, rfl, ⟨hv, hfr⟩, by rw [ht]; exact hP, hD⟩, hS.F ht⟩) hS.2.2 dX7_put_16
  · refine lv_if_eq (tgt := 15) hx hb dX7_put_5 (by decide) (fun _ => ?_) (fun c9 => absurd c9 (by decide))
    refine lv_iconst (v := (-1)) hx hb dX7_put_15 (by decide) ?_
    exact W.iret (v := (-1)) hx hb hr (fun t ht hW => ⟨⟨(-1), v_1, rfl, ⟨hv, hfr⟩, by rw [ht]; exact hP, hD⟩, hS.F ht⟩) hS.2.2 dX7_put_16

set_option maxHeartbeats 4000000 in
set_option maxRecDepth 100000 in
theorem g_X7_strike (l : Launch) (dC : Nat → ClassId) (dI : Nat → Nat → Nat) (cy : Nat → ClassId) (sz : Nat) (ad : Nat → Nat) (kv : Value) (N : Nat) (hN : 119 ≤ N) (v : Nat → Nat → Int32) (hv : Iv v) (x0 : Int32) : Met l yX7_strike wsX7_strike ({ frames := 3, cells := 0, slots := 0, locals := 192 }) (va_Pc [.ref (ad 0), .int x0] (ex_Pre dC dI cy sz (wl ad kv cy N v))) (va_Qi (fun (r : Int32) (u : Nat → Nat → Int32) => Iv u ∧ Fr v u) (fun u t => ex_Pst dC dI (va_A (wl ad kv cy N v) sz) (wl ad kv cy N u) t) (va_A (wl ad kv cy N v) sz)) 0 0 (va_A (wl ad kv cy N v) sz) := by
  refine Met.ofW (cc := cX7_strike) (maxL := 2) (ret := (some .int)) (by decide) rfl ?_
  intro p e s m args below meth c s₁ B hml hv
  obtain ⟨rfl, hsz, hE, hP, hK, hD0⟩ := hv
  have hx := B.exec
  have hb := B.bytes
  have hr := B.returns
  have hts := atoms_spec (ws := wsX7_strike) B.pre
  have hown : s.vm.findClass RX7 = some m.cls := findClass_of_methodNamed B.named
  have hlocks := B.notSynchronized
  subst hsz
  have hD := hD0.self (sz := s.heap.size)
  generalize hAe : va_A (wl ad kv cy N v) s.heap.size = A at hD ⊢
  have hA : ∀ q : Nat, s.heap.size ≤ q → A q := fun q h => by rw [← hAe]; exact Or.inr h
  have hS : va_S A s.heap s.heap [] := va_S.rf
  have hP : va_P (dC, dI) vwCl (wl ad kv cy N v) s.heap := hP
  have hl := lv_entry ([.ref (ad 0), .int x0]) (n := 2) (Nat.le_of_ble_eq_true rfl)
  rw [lg_entry_eq]
  generalize (lg_sl ([.ref (ad 0), .int x0]) ++ List.replicate (2 - (lg_sl ([.ref (ad 0), .int x0])).length) Slot.unset).toArray = ls at hl ⊢
  have hl : lv_has ls 2 [(0, .ref (ad 0)), (1, .int x0)] := hl
  have hfr : Fr v v := Fr.rf
  refine lv_aload_n hx hb dX7_strike_0 rfl (lv_at hl 0 rfl) ?_
  refine lv_iload_n hx hb dX7_strike_1 rfl (lv_at hl 1 rfl) ?_
  refine yw_i (w1 := fun (u : Nat → Nat → Int32) => wl ad kv cy N u) hD hS hA (va_runV (As := [.int x0]) (rest := []) ⟨hx, hb, hml, hown, hts⟩ (g_X7_isCase l dC dI cy _ ad kv N hN v hv x0) (cwV 1 hts gX7_strike_X7_isCase rfl rfl rfl (by decide +kernel) ⟨Nat.le_of_ble_eq_true rfl, Nat.le_of_ble_eq_true rfl⟩) (yw_preV hE hK hP hD (ci := 7) (q0 := 0) rfl (wl_at (by omega) (ce_0 (by decide)))) rfl rfl hl.1 rfl (lv_room (Nat.le_of_ble_eq_true rfl)) dX7_strike_2 ⟨Nat.le_of_ble_eq_true rfl, Nat.le_of_ble_eq_true rfl⟩) (fun r_1 v_1 H locs hw_1 hP hD hS => ?_)
  obtain ⟨hv, hw_1⟩ := hw_1
  obtain ⟨hu_1, hw_1⟩ := hw_1
  have hfr : Fr v v_1 := by rw [hu_1]; exact hfr
  rcases hw_1 with ⟨rfl, ha_2⟩ | ⟨rfl, -⟩
  · have hb_2 := hv.at (k := 13) (j := 2) (K := 3) (by decide) rfl
    have hb_2 : 0 ≤ x0.toInt ∧ x0.toInt < 6 := by omega
    refine lv_if_ne (tgt := 10) hx hb dX7_strike_5 (by decide) (fun _ => ?_) (fun c9 => absurd c9 (by decide))
    refine lv_aload_n hx hb dX7_strike_10 rfl (lv_at hl 0 rfl) ?_
    refine va_get (D := (dC, dI)) (ci := 7) (v := .ref (ad 13)) (C := RX7) (T := TX7) (N := 5) hx hb hts (by decide +kernel) hown hK hP (0) (wl_at (by omega) (ce_0 (by decide))) rfl 0 (by decide) (hts (.fieldLink RX7 12 "QuietStairs" "now" "LQuietStairs$House;") (by decide +kernel)) (fun _ h9 => h9) rfl dX7_strike_11 ?_
    refine va_get (D := (dC, dI)) (ci := 1) (v := .ref (ad 16)) (C := RX1) (T := TX1) (N := 7) hx hb hts (by decide +kernel) hown hK hP (13) (wl_at (by omega) (ce_3 (by decide))) rfl 6 (by decide) (hts (.fieldLink RX7 86 "QuietStairs$House" "cases" "[LQuietStairs$Case;") (by decide +kernel)) (fun _ h9 => h9) rfl dX7_strike_14 ?_
    refine lv_iload_n hx hb dX7_strike_17 rfl (lv_at hl 1 rfl) ?_
    obtain ⟨pi3, i3, hi3, ni3, mi3⟩ := t_in (x := x0) (n := 6) ⟨by omega, by omega⟩
    refine va_aldq hx hb hK hP (16) 3 (wl_at (by omega) (ce_6 (by decide))) rfl pi3 dX7_strike_18 ?_
    refine W.eq (g2 := F0 m 19 ls [.ref (ad (29 + 15 * i3))]) (by rw [ni3, if_pos hi3, show 16 + 13 + 15 * i3 = 29 + 15 * i3 from by omega]; rfl) ?_
    refine va_get (D := (dC, dI)) (ci := 0) (v := .int (v_1 (29 + 15 * i3) 5)) (C := RX0) (T := TX0) (N := 11) hx hb hts (by decide +kernel) hown hK hP (29 + 15 * i3) (wl_at (by omega) (ce_9 (kd_c i3 hi3).1.1)) rfl 5 (by decide) (hts (.fieldLink RX7 169 "QuietStairs$Case" "termCount" "I") (by decide +kernel)) (fun _ h9 => h9) rfl dX7_strike_19 ?_
    refine lv_topi (fun x_4 ex_4 => ?_)
    have bx_4 : 0 ≤ x_4.toInt ∧ x_4.toInt ≤ 5 := by rw [ex_4]; exact hv.at (K := 9) (kd_c i3 hi3).1.1 rfl
    have k_0 : (0 : Int32).toInt = 0 := by decide
    refine lv_if_ne (tgt := 28) hx hb dX7_strike_22 (by decide) (fun c_5 => ?_) (fun c_5 => ?_)
    · have tc_5 : x_4.toInt ≠ (0 : Int32).toInt := fun q => absurd (Int32.toInt_inj.mp q) c_5
      refine lv_aload_n hx hb dX7_strike_28 rfl (lv_at hl 0 rfl) ?_
      refine va_get (D := (dC, dI)) (ci := 7) (v := .ref (ad 13)) (C := RX7) (T := TX7) (N := 5) hx hb hts (by decide +kernel) hown hK hP (0) (wl_at (by omega) (ce_0 (by decide))) rfl 0 (by decide) (hts (.fieldLink RX7 12 "QuietStairs" "now" "LQuietStairs$House;") (by decide +kernel)) (fun _ h9 => h9) rfl dX7_strike_29 ?_
      refine va_get (D := (dC, dI)) (ci := 1) (v := .ref (ad 16)) (C := RX1) (T := TX1) (N := 7) hx hb hts (by decide +kernel) hown hK hP (13) (wl_at (by omega) (ce_3 (by decide))) rfl 6 (by decide) (hts (.fieldLink RX7 86 "QuietStairs$House" "cases" "[LQuietStairs$Case;") (by decide +kernel)) (fun _ h9 => h9) rfl dX7_strike_32 ?_
      refine lv_iload_n hx hb dX7_strike_35 rfl (lv_at hl 1 rfl) ?_
      refine va_aldq hx hb hK hP (16) 3 (wl_at (by omega) (ce_6 (by decide))) rfl pi3 dX7_strike_36 ?_
      refine W.eq (g2 := F0 m 37 ls [.ref (ad (29 + 15 * i3))]) (by rw [ni3, if_pos hi3, show 16 + 13 + 15 * i3 = 29 + 15 * i3 from by omega]; rfl) ?_
      refine lv_dup hx hb dX7_strike_37 rfl ?_
      refine va_get (D := (dC, dI)) (ci := 0) (v := .int (v_1 (29 + 15 * i3) 5)) (C := RX0) (T := TX0) (N := 11) hx hb hts (by decide +kernel) hown hK hP (29 + 15 * i3) (wl_at (by omega) (ce_9 (kd_c i3 hi3).1.1)) rfl 5 (by decide) (hts (.fieldLink RX7 169 "QuietStairs$Case" "termCount" "I") (by decide +kernel)) (fun _ h9 => h9) rfl dX7_strike_38 ?_
      refine lv_topi (fun x_6 ex_6 => ?_)
      rw [← ex_4] at ex_6; replace ex_6 := ex_6.symm; subst ex_6
      refine lv_iconst (v := 1) hx hb dX7_strike_41 (by decide) ?_
      have k_1 : (1 : Int32).toInt = 1 := by decide
      refine lv_isub hx hb dX7_strike_42 ?_
      refine lv_topi (fun x_7 ex_7 => ?_)
      have tx_7 : x_7.toInt = x_4.toInt - (1 : Int32).toInt := by rw [ex_7]; exact t_sub ⟨by omega, by omega⟩
      refine va_put (D := (dC, dI)) (ci := 0) (v := .int x_7) (ty := .int) (C := RX0) (T := TX0) (N := 11) hx hb hts (by decide +kernel) tyX0 tyX0_ok nmX0 hown hK hP hD hS (29 + 15 * i3) (wl_at (by omega) (ce_9 (kd_c i3 hi3).1.1)) rfl 5 (by decide) (hts (.fieldLink RX7 169 "QuietStairs$Case" "termCount" "I") (by decide +kernel)) (fun _ h9 => h9) rfl (by decide +kernel) rfl rfl (Nat.le_of_ble_eq_true rfl) dX7_strike_43 (fun H locs hP hD hS => ?_)
      obtain ⟨v_8, ev_8⟩ : ∃ u : Nat → Nat → Int32, u = upr v_1 (29 + 15 * i3) (upd (v_1 (29 + 15 * i3)) 5 x_7) := ⟨_, rfl⟩
      have hP : va_P (dC, dI) vwCl (wl ad kv cy N v_8) H := by rw [ev_8, ← wl_put (e := _) (ce_9 (kd_c i3 hi3).1.1)]; exact hP
      have hD : va_D A (wl ad kv cy N v_8) := by rw [ev_8, ← wl_put (e := _) (ce_9 (kd_c i3 hi3).1.1)]; exact hD
      have hv : Iv v_8 := by rw [ev_8]; exact hv.put (K := 9) (kd_c i3 hi3).1.1 (fun h q => by cases q; exact ⟨by omega, by omega⟩)
      have hfr : Fr v v_8 := by rw [ev_8]; exact hfr.put (by omega) (by omega) (by omega)
      refine lv_aload_n hx hb dX7_strike_46 rfl (lv_at hl 0 rfl) ?_
      refine va_get (D := (dC, dI)) (ci := 7) (v := .ref (ad 13)) (C := RX7) (T := TX7) (N := 5) hx hb hts (by decide +kernel) hown hK hP (0) (wl_at (by omega) (ce_0 (by decide))) rfl 0 (by decide) (hts (.fieldLink RX7 12 "QuietStairs" "now" "LQuietStairs$House;") (by decide +kernel)) (fun _ h9 => h9) rfl dX7_strike_47 ?_
      refine va_get (D := (dC, dI)) (ci := 1) (v := .ref (ad 16)) (C := RX1) (T := TX1) (N := 7) hx hb hts (by decide +kernel) hown hK hP (13) (wl_at (by omega) (ce_3 (by decide))) rfl 6 (by decide) (hts (.fieldLink RX7 86 "QuietStairs$House" "cases" "[LQuietStairs$Case;") (by decide +kernel)) (fun _ h9 => h9) rfl dX7_strike_50 ?_
      refine lv_iload_n hx hb dX7_strike_53 rfl (lv_at hl 1 rfl) ?_
      refine va_aldq hx hb hK hP (16) 3 (wl_at (by omega) (ce_6 (by decide))) rfl pi3 dX7_strike_54 ?_
      refine W.eq (g2 := F0 m 55 ls [.ref (ad (29 + 15 * i3))]) (by rw [ni3, if_pos hi3, show 16 + 13 + 15 * i3 = 29 + 15 * i3 from by omega]; rfl) ?_
      refine va_get (D := (dC, dI)) (ci := 0) (v := .int (v_8 (29 + 15 * i3) 5)) (C := RX0) (T := TX0) (N := 11) hx hb hts (by decide +kernel) hown hK hP (29 + 15 * i3) (wl_at (by omega) (ce_9 (kd_c i3 hi3).1.1)) rfl 5 (by decide) (hts (.fieldLink RX7 169 "QuietStairs$Case" "termCount" "I") (by decide +kernel)) (fun _ h9 => h9) rfl dX7_strike_55 ?_
      refine lv_topi (fun x_9 ex_9 => ?_)
      rw [ev_8, upr_s, pk_us] at ex_9; replace ex_9 := ex_9.symm; subst ex_9
      exact W.iret (v := x_7) hx hb hr (fun t ht hW => ⟨⟨x_7, v_8, rfl, ⟨hv, hfr⟩, by rw [ht]; exact hP, hD⟩, hS.F ht⟩) hS.2.2 dX7_strike_58
    · have tc_5 : x_4.toInt = (0 : Int32).toInt := by rw [c_5]
      refine lv_bipush (v := (-5)) hx hb dX7_strike_25 (by decide) ?_
      exact W.iret (v := (-5)) hx hb hr (fun t ht hW => ⟨⟨(-5), v_1, rfl, ⟨hv, hfr⟩, by rw [ht]; exact hP, hD⟩, hS.F ht⟩) hS.2.2 dX7_strike_27
  · refine lv_if_ne (tgt := 10) hx hb dX7_strike_5 (by decide) (fun c9 => absurd c9 (by decide)) (fun _ => ?_)
    refine lv_iconst (v := (-1)) hx hb dX7_strike_8 (by decide) ?_
    exact W.iret (v := (-1)) hx hb hr (fun t ht hW => ⟨⟨(-1), v_1, rfl, ⟨hv, hfr⟩, by rw [ht]; exact hP, hD⟩, hS.F ht⟩) hS.2.2 dX7_strike_9

set_option maxHeartbeats 4000000 in
set_option maxRecDepth 100000 in
theorem g_X7_log (l : Launch) (dC : Nat → ClassId) (dI : Nat → Nat → Nat) (cy : Nat → ClassId) (sz : Nat) (ad : Nat → Nat) (kv : Value) (N : Nat) (hN : 119 ≤ N) (v : Nat → Nat → Int32) (hv : Iv v) (x0 x1 x2 x3 : Int32) : Met l yX7_log wsX7_log ({ frames := 3, cells := 0, slots := 0, locals := 192 }) (va_Pc [.ref (ad 0), .int x0, .int x1, .int x2, .int x3] (ex_Pre dC dI cy sz (wl ad kv cy N v))) (va_Qi (fun (r : Int32) (u : Nat → Nat → Int32) => Iv u ∧ Fr v u) (fun u t => ex_Pst dC dI (va_A (wl ad kv cy N v) sz) (wl ad kv cy N u) t) (va_A (wl ad kv cy N v) sz)) 0 0 (va_A (wl ad kv cy N v) sz) := by
  refine Met.ofW (cc := cX7_log) (maxL := 7) (ret := (some .int)) (by decide) rfl ?_
  intro p e s m args below meth c s₁ B hml hv
  obtain ⟨rfl, hsz, hE, hP, hK, hD0⟩ := hv
  have hx := B.exec
  have hb := B.bytes
  have hr := B.returns
  have hts := atoms_spec (ws := wsX7_log) B.pre
  have hown : s.vm.findClass RX7 = some m.cls := findClass_of_methodNamed B.named
  have hlocks := B.notSynchronized
  subst hsz
  have hD := hD0.self (sz := s.heap.size)
  generalize hAe : va_A (wl ad kv cy N v) s.heap.size = A at hD ⊢
  have hA : ∀ q : Nat, s.heap.size ≤ q → A q := fun q h => by rw [← hAe]; exact Or.inr h
  have hS : va_S A s.heap s.heap [] := va_S.rf
  have hP : va_P (dC, dI) vwCl (wl ad kv cy N v) s.heap := hP
  have hl := lv_entry ([.ref (ad 0), .int x0, .int x1, .int x2, .int x3]) (n := 7) (Nat.le_of_ble_eq_true rfl)
  rw [lg_entry_eq]
  generalize (lg_sl ([.ref (ad 0), .int x0, .int x1, .int x2, .int x3]) ++ List.replicate (7 - (lg_sl ([.ref (ad 0), .int x0, .int x1, .int x2, .int x3])).length) Slot.unset).toArray = ls at hl ⊢
  have hl : lv_has ls 7 [(0, .ref (ad 0)), (1, .int x0), (2, .int x1), (3, .int x2), (4, .int x3)] := hl
  have hfr : Fr v v := Fr.rf
  refine lv_aload_n hx hb dX7_log_0 rfl (lv_at hl 0 rfl) ?_
  refine lv_iload_n hx hb dX7_log_1 rfl (lv_at hl 1 rfl) ?_
  refine yw_i (w1 := fun (u : Nat → Nat → Int32) => wl ad kv cy N u) hD hS hA (va_runV (As := [.int x0]) (rest := []) ⟨hx, hb, hml, hown, hts⟩ (g_X7_isCase l dC dI cy _ ad kv N hN v hv x0) (cwV 1 hts gX7_log_X7_isCase rfl rfl rfl (by decide +kernel) ⟨Nat.le_of_ble_eq_true rfl, Nat.le_of_ble_eq_true rfl⟩) (yw_preV hE hK hP hD (ci := 7) (q0 := 0) rfl (wl_at (by omega) (ce_0 (by decide)))) rfl rfl hl.1 rfl (lv_room (Nat.le_of_ble_eq_true rfl)) dX7_log_2 ⟨Nat.le_of_ble_eq_true rfl, Nat.le_of_ble_eq_true rfl⟩) (fun r_1 v_1 H locs hw_1 hP hD hS => ?_)
  obtain ⟨hv, hw_1⟩ := hw_1
  obtain ⟨hu_1, hw_1⟩ := hw_1
  have hfr : Fr v v_1 := by rw [hu_1]; exact hfr
  rcases hw_1 with ⟨rfl, ha_2⟩ | ⟨rfl, -⟩
  · have hb_2 := hv.at (k := 13) (j := 2) (K := 3) (by decide) rfl
    have hb_2 : 0 ≤ x0.toInt ∧ x0.toInt < 6 := by omega
    refine lv_if_eq (tgt := 33) hx hb dX7_log_5 (by decide) (fun c9 => absurd c9 (by decide)) (fun _ => ?_)
    refine lv_iload_n hx hb dX7_log_8 rfl (lv_at hl 2 rfl) ?_
    refine yc_p hP hS (va_runS (As := [.int x1]) (rest := []) ⟨hx, hb, hml, hown, hts⟩ (c_X7_isSide l x1) (cwS 1 hts gX7_log_X7_isSide rfl rfl rfl (by decide +kernel) ⟨Nat.le_of_ble_eq_true rfl, Nat.le_of_ble_eq_true rfl⟩) ex_preP rfl rfl hl.1 rfl (lv_room (Nat.le_of_ble_eq_true rfl)) dX7_log_9 ⟨Nat.le_of_ble_eq_true rfl, Nat.le_of_ble_eq_true rfl⟩) (fun r_3 H locs hw_3 hP hS => ?_)
    rcases wi_ca hw_3 with ⟨rfl, hc_4⟩ | ⟨rfl, hc_4⟩
    · have k_0 : (0 : Int32).toInt = 0 := by decide
      have k_1 : (1 : Int32).toInt = 1 := by decide
      have tc_4 := wi_tl hc_4
      refine lv_if_eq (tgt := 33) hx hb dX7_log_12 (by decide) (fun c9 => absurd c9 (by decide)) (fun _ => ?_)
      refine lv_iload_n hx hb dX7_log_15 rfl (lv_at hl 3 rfl) ?_
      refine yc_p hP hS (va_runS (As := [.int x2]) (rest := []) ⟨hx, hb, hml, hown, hts⟩ (c_X7_isHour l x2) (cwS 1 hts gX7_log_X7_isHour rfl rfl rfl (by decide +kernel) ⟨Nat.le_of_ble_eq_true rfl, Nat.le_of_ble_eq_true rfl⟩) ex_preP rfl rfl hl.1 rfl (lv_room (Nat.le_of_ble_eq_true rfl)) dX7_log_16 ⟨Nat.le_of_ble_eq_true rfl, Nat.le_of_ble_eq_true rfl⟩) (fun r_5 H locs hw_5 hP hS => ?_)
      rcases wi_ca hw_5 with ⟨rfl, hc_6⟩ | ⟨rfl, hc_6⟩
      · have k_23 : (23 : Int32).toInt = 23 := by decide
        have tc_6 := wi_tl hc_6
        refine lv_if_eq (tgt := 33) hx hb dX7_log_19 (by decide) (fun c9 => absurd c9 (by decide)) (fun _ => ?_)
        refine lv_iload hx hb dX7_log_22 (lv_at hl 4 rfl) ?_
        refine lv_iconst (v := 0) hx hb dX7_log_24 (by decide) ?_
        refine lv_bipush (v := 7) hx hb dX7_log_25 (by decide) ?_
        refine yc_p hP hS (va_runS (As := [.int x3, .int 0, .int 7]) (rest := []) ⟨hx, hb, hml, hown, hts⟩ (c_X7_isWithin l x3 0 7) (cwS 3 hts gX7_log_X7_isWithin rfl rfl rfl (by decide +kernel) ⟨Nat.le_of_ble_eq_true rfl, Nat.le_of_ble_eq_true rfl⟩) ex_preP rfl rfl hl.1 rfl (lv_room (Nat.le_of_ble_eq_true rfl)) dX7_log_27 ⟨Nat.le_of_ble_eq_true rfl, Nat.le_of_ble_eq_true rfl⟩) (fun r_7 H locs hw_7 hP hS => ?_)
        rcases wi_ca hw_7 with ⟨rfl, hc_8⟩ | ⟨rfl, hc_8⟩
        · have k_7 : (7 : Int32).toInt = 7 := by decide
          have tc_8 := wi_tl hc_8
          refine lv_if_ne (tgt := 35) hx hb dX7_log_30 (by decide) (fun _ => ?_) (fun c9 => absurd c9 (by decide))
          refine lv_aload_n hx hb dX7_log_35 rfl (lv_at hl 0 rfl) ?_
          refine va_get (D := (dC, dI)) (ci := 7) (v := .ref (ad 13)) (C := RX7) (T := TX7) (N := 5) hx hb hts (by decide +kernel) hown hK hP (0) (wl_at (by omega) (ce_0 (by decide))) rfl 0 (by decide) (hts (.fieldLink RX7 12 "QuietStairs" "now" "LQuietStairs$House;") (by decide +kernel)) (fun _ h9 => h9) rfl dX7_log_36 ?_
          refine va_get (D := (dC, dI)) (ci := 1) (v := .ref (ad 16)) (C := RX1) (T := TX1) (N := 7) hx hb hts (by decide +kernel) hown hK hP (13) (wl_at (by omega) (ce_3 (by decide))) rfl 6 (by decide) (hts (.fieldLink RX7 86 "QuietStairs$House" "cases" "[LQuietStairs$Case;") (by decide +kernel)) (fun _ h9 => h9) rfl dX7_log_39 ?_
          refine lv_iload_n hx hb dX7_log_42 rfl (lv_at hl 1 rfl) ?_
          obtain ⟨pi9, i9, hi9, ni9, mi9⟩ := t_in (x := x0) (n := 6) ⟨by omega, by omega⟩
          refine va_aldq hx hb hK hP (16) 3 (wl_at (by omega) (ce_6 (by decide))) rfl pi9 dX7_log_43 ?_
          refine W.eq (g2 := F0 m 44 ls [.ref (ad (29 + 15 * i9))]) (by rw [ni9, if_pos hi9, show 16 + 13 + 15 * i9 = 29 + 15 * i9 from by omega]; rfl) ?_
          refine va_get (D := (dC, dI)) (ci := 0) (v := .ref (ad (29 + 15 * i9 + 6))) (C := RX0) (T := TX0) (N := 11) hx hb hts (by decide +kernel) hown hK hP (29 + 15 * i9) (wl_at (by omega) (ce_9 (kd_c i9 hi9).1.1)) rfl 9 (by decide) (hts (.fieldLink RX7 207 "QuietStairs$Case" "logs" "[[I") (by decide +kernel)) (fun _ h9 => h9) rfl dX7_log_44 ?_
          refine W.eq (g2 := F0 m 47 ls [.ref (ad (35 + 15 * i9))]) (by rw [show 29 + 15 * i9 + 6 = 35 + 15 * i9 from by omega]) ?_
          refine lv_iload_n hx hb dX7_log_47 rfl (lv_at hl 2 rfl) ?_
          obtain ⟨pi10, i10, hi10, ni10, mi10⟩ := t_in (x := x1) (n := 2) ⟨by omega, by omega⟩
          refine ya_ald hx hb hK hP (35 + 15 * i9) (wl_at (by omega) (ce_13 (kd_c i9 hi9).1.2.2.2.2.1)) pi10 dX7_log_48 ?_
          refine W.eq (g2 := F0 m 49 ls [.ref (ad (36 + 15 * i9 + i10))]) (by rw [ni10, if_pos hi10, show 35 + 15 * i9 + 1 + i10 = 36 + 15 * i9 + i10 from by omega]; rfl) ?_
          refine lv_astore (lv' := [(5, .ref (ad (36 + 15 * i9 + i10))), (0, .ref (ad 0)), (1, .int x0), (2, .int x1), (3, .int x2), (4, .int x3)]) hx hb dX7_log_49 hl (by decide) rfl (fun ls hl => ?_)
          refine lv_aload hx hb dX7_log_51 (lv_at hl 0 rfl) ?_
          refine lv_iload_n hx hb dX7_log_53 rfl (lv_at hl 4 rfl) ?_
          obtain ⟨pi11, i11, hi11, ni11, mi11⟩ := t_in (x := x2) (n := 24) ⟨by omega, by omega⟩
          refine va_iald hx hb hK hP (36 + 15 * i9 + i10) 0 (wl_at (by omega) (ce_14 (kd_o i9 hi9 i10 hi10).1.2)) rfl pi11 dX7_log_54 ?_
          refine lv_topi (fun x_12 ex_12 => ?_)
          refine lv_istore (lv' := [(6, .int x_12), (5, .ref (ad (36 + 15 * i9 + i10))), (0, .ref (ad 0)), (1, .int x0), (2, .int x1), (3, .int x2), (4, .int x3)]) hx hb dX7_log_55 hl (by decide) rfl (fun ls hl => ?_)
          refine lv_aload hx hb dX7_log_57 (lv_at hl 1 rfl) ?_
          refine lv_iload_n hx hb dX7_log_59 rfl (lv_at hl 5 rfl) ?_
          refine lv_iload hx hb dX7_log_60 (lv_at hl 6 rfl) ?_
          refine va_iast hx hb hK hP hD hS (36 + 15 * i9 + i10) 0 (wl_at (by omega) (ce_14 (kd_o i9 hi9 i10 hi10).1.2)) rfl pi11 dX7_log_62 (fun H locs hP hD hS => ?_)
          obtain ⟨v_13, ev_13⟩ : ∃ u : Nat → Nat → Int32, u = upr v_1 (36 + 15 * i9 + i10) (upd (v_1 (36 + 15 * i9 + i10)) (x2.toNatClampNeg) x3) := ⟨_, rfl⟩
          have hP : va_P (dC, dI) vwCl (wl ad kv cy N v_13) H := by rw [ev_13, ← wl_put (e := _) (ce_14 (kd_o i9 hi9 i10 hi10).1.2)]; exact hP
          have hD : va_D A (wl ad kv cy N v_13) := by rw [ev_13, ← wl_put (e := _) (ce_14 (kd_o i9 hi9 i10 hi10).1.2)]; exact hD
          have hv : Iv v_13 := by rw [ev_13]; exact hv.put (K := 14) (kd_o i9 hi9 i10 hi10).1.2 (fun h q => by simp [bd] at q)
          have hfr : Fr v v_13 := by rw [ev_13]; exact hfr.put (by omega) (by omega) (by omega)
          refine lv_iload hx hb dX7_log_63 (lv_at hl 0 rfl) ?_
          exact W.iret (v := x_12) hx hb hr (fun t ht hW => ⟨⟨x_12, v_13, rfl, ⟨hv, hfr⟩, by rw [ht]; exact hP, hD⟩, hS.F ht⟩) hS.2.2 dX7_log_65
        · refine lv_if_ne (tgt := 35) hx hb dX7_log_30 (by decide) (fun c9 => absurd c9 (by decide)) (fun _ => ?_)
          refine lv_iconst (v := (-1)) hx hb dX7_log_33 (by decide) ?_
          exact W.iret (v := (-1)) hx hb hr (fun t ht hW => ⟨⟨(-1), v_1, rfl, ⟨hv, hfr⟩, by rw [ht]; exact hP, hD⟩, hS.F ht⟩) hS.2.2 dX7_log_34
      · refine lv_if_eq (tgt := 33) hx hb dX7_log_19 (by decide) (fun _ => ?_) (fun c9 => absurd c9 (by decide))
        refine lv_iconst (v := (-1)) hx hb dX7_log_33 (by decide) ?_
        exact W.iret (v := (-1)) hx hb hr (fun t ht hW => ⟨⟨(-1), v_1, rfl, ⟨hv, hfr⟩, by rw [ht]; exact hP, hD⟩, hS.F ht⟩) hS.2.2 dX7_log_34
    · refine lv_if_eq (tgt := 33) hx hb dX7_log_12 (by decide) (fun _ => ?_) (fun c9 => absurd c9 (by decide))
      refine lv_iconst (v := (-1)) hx hb dX7_log_33 (by decide) ?_
      exact W.iret (v := (-1)) hx hb hr (fun t ht hW => ⟨⟨(-1), v_1, rfl, ⟨hv, hfr⟩, by rw [ht]; exact hP, hD⟩, hS.F ht⟩) hS.2.2 dX7_log_34
  · refine lv_if_eq (tgt := 33) hx hb dX7_log_5 (by decide) (fun _ => ?_) (fun c9 => absurd c9 (by decide))
    refine lv_iconst (v := (-1)) hx hb dX7_log_33 (by decide) ?_
    exact W.iret (v := (-1)) hx hb hr (fun t ht hW => ⟨⟨(-1), v_1, rfl, ⟨hv, hfr⟩, by rw [ht]; exact hP, hD⟩, hS.F ht⟩) hS.2.2 dX7_log_34
end
section
theorem dX1_countState_0 : decode cX1_countState 0 = .ok (.iconst 0, 1) := by decide +kernel
theorem dX1_countState_1 : decode cX1_countState 1 = .ok (.istore_n 2, 1) := by decide +kernel
theorem dX1_countState_2 : decode cX1_countState 2 = .ok (.iconst 0, 1) := by decide +kernel
theorem dX1_countState_3 : decode cX1_countState 3 = .ok (.istore_n 3, 1) := by decide +kernel
theorem dX1_countState_4 : decode cX1_countState 4 = .ok (.iload_n 3, 1) := by decide +kernel
theorem dX1_countState_5 : decode cX1_countState 5 = .ok (.aload_n 0, 1) := by decide +kernel
theorem dX1_countState_6 : decode cX1_countState 6 = .ok (.getfield 66, 3) := by decide +kernel
theorem dX1_countState_9 : decode cX1_countState 9 = .ok (.if_icmp .ge 25, 3) := by decide +kernel
theorem dX1_countState_34 : decode cX1_countState 34 = .ok (.iload_n 2, 1) := by decide +kernel
theorem dX1_countState_35 : decode cX1_countState 35 = .ok (.ireturn, 1) := by decide +kernel
theorem dX1_countState_12 : decode cX1_countState 12 = .ok (.aload_n 0, 1) := by decide +kernel
theorem dX1_countState_13 : decode cX1_countState 13 = .ok (.getfield 25, 3) := by decide +kernel
theorem dX1_countState_16 : decode cX1_countState 16 = .ok (.iload_n 3, 1) := by decide +kernel
theorem dX1_countState_17 : decode cX1_countState 17 = .ok (.aaload, 1) := by decide +kernel
theorem dX1_countState_18 : decode cX1_countState 18 = .ok (.getfield 79, 3) := by decide +kernel
theorem dX1_countState_21 : decode cX1_countState 21 = .ok (.iload_n 1, 1) := by decide +kernel
theorem dX1_countState_22 : decode cX1_countState 22 = .ok (.if_icmp .ne 6, 3) := by decide +kernel
theorem dX1_countState_28 : decode cX1_countState 28 = .ok (.iinc 3 1, 3) := by decide +kernel
theorem dX1_countState_31 : decode cX1_countState 31 = .ok (.goto (-27), 3) := by decide +kernel
theorem dX1_countState_25 : decode cX1_countState 25 = .ok (.iinc 2 1, 3) := by decide +kernel
theorem dX1_countTerms_0 : decode cX1_countTerms 0 = .ok (.iconst 0, 1) := by decide +kernel
theorem dX1_countTerms_1 : decode cX1_countTerms 1 = .ok (.istore_n 1, 1) := by decide +kernel
theorem dX1_countTerms_2 : decode cX1_countTerms 2 = .ok (.iconst 0, 1) := by decide +kernel
theorem dX1_countTerms_3 : decode cX1_countTerms 3 = .ok (.istore_n 2, 1) := by decide +kernel
theorem dX1_countTerms_4 : decode cX1_countTerms 4 = .ok (.iload_n 2, 1) := by decide +kernel
theorem dX1_countTerms_5 : decode cX1_countTerms 5 = .ok (.aload_n 0, 1) := by decide +kernel
theorem dX1_countTerms_6 : decode cX1_countTerms 6 = .ok (.getfield 66, 3) := by decide +kernel
theorem dX1_countTerms_9 : decode cX1_countTerms 9 = .ok (.if_icmp .ge 21, 3) := by decide +kernel
theorem dX1_countTerms_30 : decode cX1_countTerms 30 = .ok (.iload_n 1, 1) := by decide +kernel
theorem dX1_countTerms_31 : decode cX1_countTerms 31 = .ok (.ireturn, 1) := by decide +kernel
theorem dX1_countTerms_12 : decode cX1_countTerms 12 = .ok (.iload_n 1, 1) := by decide +kernel
theorem dX1_countTerms_13 : decode cX1_countTerms 13 = .ok (.aload_n 0, 1) := by decide +kernel
theorem dX1_countTerms_14 : decode cX1_countTerms 14 = .ok (.getfield 25, 3) := by decide +kernel
theorem dX1_countTerms_17 : decode cX1_countTerms 17 = .ok (.iload_n 2, 1) := by decide +kernel
theorem dX1_countTerms_18 : decode cX1_countTerms 18 = .ok (.aaload, 1) := by decide +kernel
theorem dX1_countTerms_19 : decode cX1_countTerms 19 = .ok (.getfield 82, 3) := by decide +kernel
theorem dX1_countTerms_22 : decode cX1_countTerms 22 = .ok (.iadd, 1) := by decide +kernel
theorem dX1_countTerms_23 : decode cX1_countTerms 23 = .ok (.istore_n 1, 1) := by decide +kernel
theorem dX1_countTerms_24 : decode cX1_countTerms 24 = .ok (.iinc 2 1, 3) := by decide +kernel
theorem dX1_countTerms_27 : decode cX1_countTerms 27 = .ok (.goto (-23), 3) := by decide +kernel
set_option maxHeartbeats 4000000 in
set_option maxRecDepth 100000 in
theorem g_X1_countState (l : Launch) (dC : Nat → ClassId) (dI : Nat → Nat → Nat) (cy : Nat → ClassId) (sz : Nat) (ad : Nat → Nat) (kv : Value) (N : Nat) (hN : 119 ≤ N) (v : Nat → Nat → Int32) (hv : Iv v)  (x0 : Int32) : Met l yX1_countState wsX1_countState ({ frames := 3, cells := 0, slots := 0, locals := 192 }) (va_Pc [.ref (ad 13), .int x0] (ex_Pre dC dI cy sz (wl ad kv cy N v))) (va_Qi (fun (r : Int32) (u : Nat → Nat → Int32) => Iv u ∧ Fr v u) (fun u t => ex_Pst dC dI (va_A (wl ad kv cy N v) sz) (wl ad kv cy N u) t) (va_A (wl ad kv cy N v) sz)) 0 0 (va_A (wl ad kv cy N v) sz) := by
  refine Met.ofW (cc := cX1_countState) (maxL := 4) (ret := (some .int)) (by decide) rfl ?_
  intro p e s m args below meth c s₁ B hml hv
  obtain ⟨rfl, hsz, hE, hP, hK, hD0⟩ := hv
  have hx := B.exec
  have hb := B.bytes
  have hr := B.returns
  have hts := atoms_spec (ws := wsX1_countState) B.pre
  have hown : s.vm.findClass RX1 = some m.cls := findClass_of_methodNamed B.named
  have hlocks := B.notSynchronized
  subst hsz
  have hD := hD0.self (sz := s.heap.size)
  generalize hAe : va_A (wl ad kv cy N v) s.heap.size = A at hD ⊢
  have hA : ∀ q : Nat, s.heap.size ≤ q → A q := fun q h => by rw [← hAe]; exact Or.inr h
  have hS : va_S A s.heap s.heap [] := va_S.rf
  have hP : va_P (dC, dI) vwCl (wl ad kv cy N v) s.heap := hP
  have hl := lv_entry ([.ref (ad 13), .int x0]) (n := 4) (Nat.le_of_ble_eq_true rfl)
  rw [lg_entry_eq]
  generalize (lg_sl ([.ref (ad 13), .int x0]) ++ List.replicate (4 - (lg_sl ([.ref (ad 13), .int x0])).length) Slot.unset).toArray = ls at hl ⊢
  have hl : lv_has ls 4 [(0, .ref (ad 13)), (1, .int x0)] := hl
  have hfr : Fr v v := Fr.rf
  refine lv_iconst (v := 0) hx hb dX1_countState_0 (by decide) ?_
  refine lv_istore_n (lv' := [(2, .int 0), (0, .ref (ad 13)), (1, .int x0)]) hx hb dX1_countState_1 rfl hl (by decide) rfl (fun ls hl => ?_)
  refine lv_iconst (v := 0) hx hb dX1_countState_2 (by decide) ?_
  refine lv_istore_n (lv' := [(3, .int 0), (2, .int 0), (0, .ref (ad 13)), (1, .int x0)]) hx hb dX1_countState_3 rfl hl (by decide) rfl (fun ls hl => ?_)
  have k_0 : (0 : Int32).toInt = 0 := by decide
  have hloop_1 : ∀ (n : Nat) (y1_3 y1_2 : Int32) (u1 : Nat → Nat → Int32) (H : Heap) (locs : List Loc), 0 ≤ y1_3.toInt → y1_3.toInt ≤ 6 → (6 - y1_3.toInt).toNat < n → Iv u1 → Fr v u1 → va_P (dC, dI) vwCl (wl ad kv cy N u1) H → va_D A (wl ad kv cy N u1) → va_S A s.heap H locs → ∀ ls : Array Slot, lv_has ls 4 [(3, .int y1_3), (2, .int y1_2), (0, .ref (ad 13)), (1, .int x0)] → W p l e (headSpec wsX1_countState ({ frames := 3, cells := 0, slots := 0, locals := 192 })).room s m [Value.ref (ad 13), Value.int x0].toArray below meth c H locs 0 0 (MQ below (va_Qi (fun (r : Int32) (u : Nat → Nat → Int32) => Iv u ∧ Fr v u) (fun u t => ex_Pst dC dI A (wl ad kv cy N u) t) A) [Value.ref (ad 13), Value.int x0].toArray s 0 0 A) (F0 m 4 ls []) := by
    intro n
    induction n with
    | zero =>
      intro y1_3 y1_2 u1 H locs ay1_3 by1_3 hm_1 hv hfr hP hD hS ls hl
      exact absurd hm_1 (by omega)
    | succ n ih_1 =>
      intro y1_3 y1_2 u1 H locs ay1_3 by1_3 hm_1 hv hfr hP hD hS ls hl
      refine lv_iload_n hx hb dX1_countState_4 rfl (lv_at hl 0 rfl) ?_
      refine lv_aload_n hx hb dX1_countState_5 rfl (lv_at hl 2 rfl) ?_
      refine va_get (D := (dC, dI)) (ci := 1) (v := .int (u1 (13) 2)) (C := RX1) (T := TX1) (N := 7) hx hb hts (by decide +kernel) hown hK hP (13) (wl_at (by omega) (ce_3 (by decide))) rfl 2 (by decide) (hts (.fieldLink RX1 66 "QuietStairs$House" "caseCount" "I") (by decide +kernel)) (fun _ h9 => h9) rfl dX1_countState_6 ?_
      refine lv_topi (fun x_2 ex_2 => ?_)
      have bx_2 : 0 ≤ x_2.toInt ∧ x_2.toInt ≤ 6 := by rw [ex_2]; exact hv.at (K := 3) (by decide) rfl
      refine lv_icmp_ge (tgt := 34) hx hb dX1_countState_9 (by decide) (fun c_3 => ?_) (fun c_3 => ?_)
      · have tc_3 : y1_3.toInt ≥ x_2.toInt := Int32.le_iff_toInt_le.mp c_3
        refine lv_iload_n hx hb dX1_countState_34 rfl (lv_at hl 1 rfl) ?_
        exact W.iret (v := y1_2) hx hb hr (fun t ht hW => ⟨⟨y1_2, u1, rfl, ⟨hv, hfr⟩, by rw [ht]; exact hP, hD⟩, hS.F ht⟩) hS.2.2 dX1_countState_35
      · have tc_3 : y1_3.toInt < x_2.toInt := Int32.lt_iff_toInt_lt.mp (Int32.not_le.mp c_3)
        refine lv_aload_n hx hb dX1_countState_12 rfl (lv_at hl 2 rfl) ?_
        refine va_get (D := (dC, dI)) (ci := 1) (v := .ref (ad 16)) (C := RX1) (T := TX1) (N := 7) hx hb hts (by decide +kernel) hown hK hP (13) (wl_at (by omega) (ce_3 (by decide))) rfl 6 (by decide) (hts (.fieldLink RX1 25 "QuietStairs$House" "cases" "[LQuietStairs$Case;") (by decide +kernel)) (fun _ h9 => h9) rfl dX1_countState_13 ?_
        refine lv_iload_n hx hb dX1_countState_16 rfl (lv_at hl 0 rfl) ?_
        obtain ⟨pi4, i4, hi4, ni4, mi4⟩ := t_in (x := y1_3) (n := 6) ⟨by omega, by omega⟩
        refine va_aldq hx hb hK hP (16) 3 (wl_at (by omega) (ce_6 (by decide))) rfl pi4 dX1_countState_17 ?_
        refine W.eq (g2 := F0 m 18 ls [.ref (ad (29 + 15 * i4))]) (by rw [ni4, if_pos hi4, show 16 + 13 + 15 * i4 = 29 + 15 * i4 from by omega]; rfl) ?_
        refine va_get (D := (dC, dI)) (ci := 0) (v := .int (u1 (29 + 15 * i4) 0)) (C := RX0) (T := TX0) (N := 11) hx hb hts (by decide +kernel) hown hK hP (29 + 15 * i4) (wl_at (by omega) (ce_9 (kd_c i4 hi4).1.1)) rfl 0 (by decide) (hts (.fieldLink RX1 79 "QuietStairs$Case" "state" "I") (by decide +kernel)) (fun _ h9 => h9) rfl dX1_countState_18 ?_
        refine lv_topi (fun x_5 ex_5 => ?_)
        refine lv_iload_n hx hb dX1_countState_21 rfl (lv_at hl 3 rfl) ?_
        refine lv_icmp_ne (tgt := 28) hx hb dX1_countState_22 (by decide) (fun c_6 => ?_) (fun c_6 => ?_)
        · have tc_6 : x_5.toInt ≠ x0.toInt := fun q => absurd (Int32.toInt_inj.mp q) c_6
          obtain ⟨x_7, ex_7⟩ : ∃ y : Int32, y = y1_3 + 1 := ⟨_, rfl⟩
          refine lv_iinc (v := x_7) (lv' := [(3, .int x_7), (2, .int y1_2), (0, .ref (ad 13)), (1, .int x0)]) hx hb dX1_countState_28 hl (k := 0) rfl (by rw [ex_7]; rfl) (by decide) rfl (fun ls hl => ?_)
          have k_1 : (1 : Int32).toInt = 1 := by decide
          have tx_7 : x_7.toInt = y1_3.toInt + (1 : Int32).toInt := by rw [ex_7]; exact t_add ⟨by omega, by omega⟩
          refine lv_goto (tgt := 4) hx hb dX1_countState_31 (by decide) ?_
          exact ih_1 x_7 y1_2 u1 H locs (by omega) (by omega) (by omega) hv hfr hP hD hS ls (lv_sub hl [0, 1, 2, 3] rfl)
        · have tc_6 : x_5.toInt = x0.toInt := by rw [c_6]
          obtain ⟨x_7, ex_7⟩ : ∃ y : Int32, y = y1_2 + 1 := ⟨_, rfl⟩
          refine lv_iinc (v := x_7) (lv' := [(2, .int x_7), (3, .int y1_3), (0, .ref (ad 13)), (1, .int x0)]) hx hb dX1_countState_25 hl (k := 1) rfl (by rw [ex_7]; rfl) (by decide) rfl (fun ls hl => ?_)
          obtain ⟨x_8, ex_8⟩ : ∃ y : Int32, y = y1_3 + 1 := ⟨_, rfl⟩
          refine lv_iinc (v := x_8) (lv' := [(3, .int x_8), (2, .int x_7), (0, .ref (ad 13)), (1, .int x0)]) hx hb dX1_countState_28 hl (k := 1) rfl (by rw [ex_8]; rfl) (by decide) rfl (fun ls hl => ?_)
          have k_1 : (1 : Int32).toInt = 1 := by decide
          have tx_8 : x_8.toInt = y1_3.toInt + (1 : Int32).toInt := by rw [ex_8]; exact t_add ⟨by omega, by omega⟩
          refine lv_goto (tgt := 4) hx hb dX1_countState_31 (by decide) ?_
          exact ih_1 x_8 x_7 u1 H locs (by omega) (by omega) (by omega) hv hfr hP hD hS ls (lv_sub hl [0, 1, 2, 3] rfl)
  exact hloop_1 ((6 - (0 : Int32).toInt).toNat + 1) 0 0 v _ _ (by omega) (by omega) (by omega) hv hfr hP hD hS ls hl

set_option maxHeartbeats 4000000 in
set_option maxRecDepth 100000 in
theorem g_X1_countTerms (l : Launch) (dC : Nat → ClassId) (dI : Nat → Nat → Nat) (cy : Nat → ClassId) (sz : Nat) (ad : Nat → Nat) (kv : Value) (N : Nat) (hN : 119 ≤ N) (v : Nat → Nat → Int32) (hv : Iv v)  : Met l yX1_countTerms wsX1_countTerms ({ frames := 3, cells := 0, slots := 0, locals := 192 }) (va_Pc [.ref (ad 13)] (ex_Pre dC dI cy sz (wl ad kv cy N v))) (va_Qi (fun (r : Int32) (u : Nat → Nat → Int32) => Iv u ∧ Fr v u) (fun u t => ex_Pst dC dI (va_A (wl ad kv cy N v) sz) (wl ad kv cy N u) t) (va_A (wl ad kv cy N v) sz)) 0 0 (va_A (wl ad kv cy N v) sz) := by
  refine Met.ofW (cc := cX1_countTerms) (maxL := 3) (ret := (some .int)) (by decide) rfl ?_
  intro p e s m args below meth c s₁ B hml hv
  obtain ⟨rfl, hsz, hE, hP, hK, hD0⟩ := hv
  have hx := B.exec
  have hb := B.bytes
  have hr := B.returns
  have hts := atoms_spec (ws := wsX1_countTerms) B.pre
  have hown : s.vm.findClass RX1 = some m.cls := findClass_of_methodNamed B.named
  have hlocks := B.notSynchronized
  subst hsz
  have hD := hD0.self (sz := s.heap.size)
  generalize hAe : va_A (wl ad kv cy N v) s.heap.size = A at hD ⊢
  have hA : ∀ q : Nat, s.heap.size ≤ q → A q := fun q h => by rw [← hAe]; exact Or.inr h
  have hS : va_S A s.heap s.heap [] := va_S.rf
  have hP : va_P (dC, dI) vwCl (wl ad kv cy N v) s.heap := hP
  have hl := lv_entry ([.ref (ad 13)]) (n := 3) (Nat.le_of_ble_eq_true rfl)
  rw [lg_entry_eq]
  generalize (lg_sl ([.ref (ad 13)]) ++ List.replicate (3 - (lg_sl ([.ref (ad 13)])).length) Slot.unset).toArray = ls at hl ⊢
  have hl : lv_has ls 3 [(0, .ref (ad 13))] := hl
  have hfr : Fr v v := Fr.rf
  refine lv_iconst (v := 0) hx hb dX1_countTerms_0 (by decide) ?_
  refine lv_istore_n (lv' := [(1, .int 0), (0, .ref (ad 13))]) hx hb dX1_countTerms_1 rfl hl (by decide) rfl (fun ls hl => ?_)
  refine lv_iconst (v := 0) hx hb dX1_countTerms_2 (by decide) ?_
  refine lv_istore_n (lv' := [(2, .int 0), (1, .int 0), (0, .ref (ad 13))]) hx hb dX1_countTerms_3 rfl hl (by decide) rfl (fun ls hl => ?_)
  have k_0 : (0 : Int32).toInt = 0 := by decide
  have hloop_1 : ∀ (n : Nat) (y1_2 y1_1 : Int32) (u1 : Nat → Nat → Int32) (H : Heap) (locs : List Loc), 0 ≤ y1_2.toInt → y1_2.toInt ≤ 6 → (6 - y1_2.toInt).toNat < n → Iv u1 → Fr v u1 → va_P (dC, dI) vwCl (wl ad kv cy N u1) H → va_D A (wl ad kv cy N u1) → va_S A s.heap H locs → ∀ ls : Array Slot, lv_has ls 3 [(2, .int y1_2), (1, .int y1_1), (0, .ref (ad 13))] → W p l e (headSpec wsX1_countTerms ({ frames := 3, cells := 0, slots := 0, locals := 192 })).room s m [Value.ref (ad 13)].toArray below meth c H locs 0 0 (MQ below (va_Qi (fun (r : Int32) (u : Nat → Nat → Int32) => Iv u ∧ Fr v u) (fun u t => ex_Pst dC dI A (wl ad kv cy N u) t) A) [Value.ref (ad 13)].toArray s 0 0 A) (F0 m 4 ls []) := by
    intro n
    induction n with
    | zero =>
      intro y1_2 y1_1 u1 H locs ay1_2 by1_2 hm_1 hv hfr hP hD hS ls hl
      exact absurd hm_1 (by omega)
    | succ n ih_1 =>
      intro y1_2 y1_1 u1 H locs ay1_2 by1_2 hm_1 hv hfr hP hD hS ls hl
      refine lv_iload_n hx hb dX1_countTerms_4 rfl (lv_at hl 0 rfl) ?_
      refine lv_aload_n hx hb dX1_countTerms_5 rfl (lv_at hl 2 rfl) ?_
      refine va_get (D := (dC, dI)) (ci := 1) (v := .int (u1 (13) 2)) (C := RX1) (T := TX1) (N := 7) hx hb hts (by decide +kernel) hown hK hP (13) (wl_at (by omega) (ce_3 (by decide))) rfl 2 (by decide) (hts (.fieldLink RX1 66 "QuietStairs$House" "caseCount" "I") (by decide +kernel)) (fun _ h9 => h9) rfl dX1_countTerms_6 ?_
      refine lv_topi (fun x_2 ex_2 => ?_)
      have bx_2 : 0 ≤ x_2.toInt ∧ x_2.toInt ≤ 6 := by rw [ex_2]; exact hv.at (K := 3) (by decide) rfl
      refine lv_icmp_ge (tgt := 30) hx hb dX1_countTerms_9 (by decide) (fun c_3 => ?_) (fun c_3 => ?_)
      · have tc_3 : y1_2.toInt ≥ x_2.toInt := Int32.le_iff_toInt_le.mp c_3
        refine lv_iload_n hx hb dX1_countTerms_30 rfl (lv_at hl 1 rfl) ?_
        exact W.iret (v := y1_1) hx hb hr (fun t ht hW => ⟨⟨y1_1, u1, rfl, ⟨hv, hfr⟩, by rw [ht]; exact hP, hD⟩, hS.F ht⟩) hS.2.2 dX1_countTerms_31
      · have tc_3 : y1_2.toInt < x_2.toInt := Int32.lt_iff_toInt_lt.mp (Int32.not_le.mp c_3)
        refine lv_iload_n hx hb dX1_countTerms_12 rfl (lv_at hl 1 rfl) ?_
        refine lv_aload_n hx hb dX1_countTerms_13 rfl (lv_at hl 2 rfl) ?_
        refine va_get (D := (dC, dI)) (ci := 1) (v := .ref (ad 16)) (C := RX1) (T := TX1) (N := 7) hx hb hts (by decide +kernel) hown hK hP (13) (wl_at (by omega) (ce_3 (by decide))) rfl 6 (by decide) (hts (.fieldLink RX1 25 "QuietStairs$House" "cases" "[LQuietStairs$Case;") (by decide +kernel)) (fun _ h9 => h9) rfl dX1_countTerms_14 ?_
        refine lv_iload_n hx hb dX1_countTerms_17 rfl (lv_at hl 0 rfl) ?_
        obtain ⟨pi4, i4, hi4, ni4, mi4⟩ := t_in (x := y1_2) (n := 6) ⟨by omega, by omega⟩
        refine va_aldq hx hb hK hP (16) 3 (wl_at (by omega) (ce_6 (by decide))) rfl pi4 dX1_countTerms_18 ?_
        refine W.eq (g2 := F0 m 19 ls [.ref (ad (29 + 15 * i4)), .int y1_1]) (by rw [ni4, if_pos hi4, show 16 + 13 + 15 * i4 = 29 + 15 * i4 from by omega]; rfl) ?_
        refine va_get (D := (dC, dI)) (ci := 0) (v := .int (u1 (29 + 15 * i4) 5)) (C := RX0) (T := TX0) (N := 11) hx hb hts (by decide +kernel) hown hK hP (29 + 15 * i4) (wl_at (by omega) (ce_9 (kd_c i4 hi4).1.1)) rfl 5 (by decide) (hts (.fieldLink RX1 82 "QuietStairs$Case" "termCount" "I") (by decide +kernel)) (fun _ h9 => h9) rfl dX1_countTerms_19 ?_
        refine lv_topi (fun x_5 ex_5 => ?_)
        have bx_5 : 0 ≤ x_5.toInt ∧ x_5.toInt ≤ 5 := by rw [ex_5]; exact hv.at (K := 9) (kd_c i4 hi4).1.1 rfl
        refine lv_iadd hx hb dX1_countTerms_22 ?_
        refine lv_topi (fun x_6 ex_6 => ?_)
        refine lv_istore_n (lv' := [(1, .int x_6), (2, .int y1_2), (0, .ref (ad 13))]) hx hb dX1_countTerms_23 rfl hl (by decide) rfl (fun ls hl => ?_)
        obtain ⟨x_7, ex_7⟩ : ∃ y : Int32, y = y1_2 + 1 := ⟨_, rfl⟩
        refine lv_iinc (v := x_7) (lv' := [(2, .int x_7), (1, .int x_6), (0, .ref (ad 13))]) hx hb dX1_countTerms_24 hl (k := 1) rfl (by rw [ex_7]; rfl) (by decide) rfl (fun ls hl => ?_)
        have k_1 : (1 : Int32).toInt = 1 := by decide
        have tx_7 : x_7.toInt = y1_2.toInt + (1 : Int32).toInt := by rw [ex_7]; exact t_add ⟨by omega, by omega⟩
        refine lv_goto (tgt := 4) hx hb dX1_countTerms_27 (by decide) ?_
        exact ih_1 x_7 x_6 u1 H locs (by omega) (by omega) (by omega) hv hfr hP hD hS ls (lv_sub hl [0, 1, 2] rfl)
  exact hloop_1 ((6 - (0 : Int32).toInt).toNat + 1) 0 0 v _ _ (by omega) (by omega) (by omega) hv hfr hP hD hS ls hl
end
section
theorem dX7_party_0 : decode cX7_party 0 = .ok (.iload_n 1, 1) := by decide +kernel
theorem dX7_party_1 : decode cX7_party 1 = .ok (.iconst 0, 1) := by decide +kernel
theorem dX7_party_2 : decode cX7_party 2 = .ok (.bipush 9, 2) := by decide +kernel
set_option maxRecDepth 20000 in
theorem ggX7_party_X7_isWithin : GoodIn wsX7_party wsX7_isWithin := goodIn_r _ [9] (by decide +kernel) (by decide +kernel)
set_option maxRecDepth 20000 in
theorem gX7_party_X7_isWithin : GoodIn wsX7_party (va_wsS RX7 37 yX7_isWithin wsX7_isWithin) := goodIn_app (goodIn_of _ (by decide +kernel)) ggX7_party_X7_isWithin
theorem dX7_party_4 : decode cX7_party 4 = .ok (.invokestatic 37, 3) := by decide +kernel
theorem dX7_party_7 : decode cX7_party 7 = .ok (.ifCond .eq 12, 3) := by decide +kernel
theorem dX7_party_10 : decode cX7_party 10 = .ok (.iload_n 2, 1) := by decide +kernel
theorem dX7_party_11 : decode cX7_party 11 = .ok (.iconst 0, 1) := by decide +kernel
theorem dX7_party_12 : decode cX7_party 12 = .ok (.iconst 2, 1) := by decide +kernel
theorem dX7_party_13 : decode cX7_party 13 = .ok (.invokestatic 37, 3) := by decide +kernel
theorem dX7_party_16 : decode cX7_party 16 = .ok (.ifCond .ne 5, 3) := by decide +kernel
theorem dX7_party_21 : decode cX7_party 21 = .ok (.aload_n 0, 1) := by decide +kernel
theorem dX7_party_22 : decode cX7_party 22 = .ok (.getfield 12, 3) := by decide +kernel
theorem dX7_party_25 : decode cX7_party 25 = .ok (.getfield 41, 3) := by decide +kernel
theorem dX7_party_28 : decode cX7_party 28 = .ok (.bipush 8, 2) := by decide +kernel
theorem dX7_party_30 : decode cX7_party 30 = .ok (.if_icmp .lt 6, 3) := by decide +kernel
theorem dX7_party_36 : decode cX7_party 36 = .ok (.aload_n 0, 1) := by decide +kernel
theorem dX7_party_37 : decode cX7_party 37 = .ok (.getfield 12, 3) := by decide +kernel
theorem dX7_party_40 : decode cX7_party 40 = .ok (.getfield 44, 3) := by decide +kernel
theorem dX7_party_43 : decode cX7_party 43 = .ok (.aload_n 0, 1) := by decide +kernel
theorem dX7_party_44 : decode cX7_party 44 = .ok (.getfield 12, 3) := by decide +kernel
theorem dX7_party_47 : decode cX7_party 47 = .ok (.getfield 41, 3) := by decide +kernel
theorem dX7_party_50 : decode cX7_party 50 = .ok (.aaload, 1) := by decide +kernel
theorem dX7_party_51 : decode cX7_party 51 = .ok (.astore_n 3, 1) := by decide +kernel
theorem dX7_party_52 : decode cX7_party 52 = .ok (.aload_n 3, 1) := by decide +kernel
theorem dX7_party_53 : decode cX7_party 53 = .ok (.iload_n 1, 1) := by decide +kernel
theorem dX7_party_54 : decode cX7_party 54 = .ok (.putfield 48, 3) := by decide +kernel
theorem dX7_party_57 : decode cX7_party 57 = .ok (.aload_n 3, 1) := by decide +kernel
theorem dX7_party_58 : decode cX7_party 58 = .ok (.iload_n 2, 1) := by decide +kernel
theorem dX7_party_59 : decode cX7_party 59 = .ok (.putfield 53, 3) := by decide +kernel
theorem dX7_party_62 : decode cX7_party 62 = .ok (.aload_n 0, 1) := by decide +kernel
theorem dX7_party_63 : decode cX7_party 63 = .ok (.getfield 12, 3) := by decide +kernel
theorem dX7_party_66 : decode cX7_party 66 = .ok (.dup, 1) := by decide +kernel
theorem dX7_party_67 : decode cX7_party 67 = .ok (.getfield 41, 3) := by decide +kernel
theorem dX7_party_70 : decode cX7_party 70 = .ok (.dup_x1, 1) := by decide +kernel
theorem dX7_party_71 : decode cX7_party 71 = .ok (.iconst 1, 1) := by decide +kernel
theorem dX7_party_72 : decode cX7_party 72 = .ok (.iadd, 1) := by decide +kernel
theorem dX7_party_73 : decode cX7_party 73 = .ok (.putfield 41, 3) := by decide +kernel
theorem dX7_party_76 : decode cX7_party 76 = .ok (.ireturn, 1) := by decide +kernel
theorem dX7_party_33 : decode cX7_party 33 = .ok (.bipush (-2), 2) := by decide +kernel
theorem dX7_party_35 : decode cX7_party 35 = .ok (.ireturn, 1) := by decide +kernel
theorem dX7_party_19 : decode cX7_party 19 = .ok (.iconst (-1), 1) := by decide +kernel
theorem dX7_party_20 : decode cX7_party 20 = .ok (.ireturn, 1) := by decide +kernel
theorem dX7_mediator_0 : decode cX7_mediator 0 = .ok (.iload_n 1, 1) := by decide +kernel
theorem dX7_mediator_1 : decode cX7_mediator 1 = .ok (.iconst 0, 1) := by decide +kernel
theorem dX7_mediator_2 : decode cX7_mediator 2 = .ok (.bipush 9, 2) := by decide +kernel
set_option maxRecDepth 20000 in
theorem ggX7_mediator_X7_isWithin : GoodIn wsX7_mediator wsX7_isWithin := goodIn_r _ [10] (by decide +kernel) (by decide +kernel)
set_option maxRecDepth 20000 in
theorem gX7_mediator_X7_isWithin : GoodIn wsX7_mediator (va_wsS RX7 37 yX7_isWithin wsX7_isWithin) := goodIn_app (goodIn_of _ (by decide +kernel)) ggX7_mediator_X7_isWithin
theorem dX7_mediator_4 : decode cX7_mediator 4 = .ok (.invokestatic 37, 3) := by decide +kernel
theorem dX7_mediator_7 : decode cX7_mediator 7 = .ok (.ifCond .eq 13, 3) := by decide +kernel
theorem dX7_mediator_10 : decode cX7_mediator 10 = .ok (.iload_n 2, 1) := by decide +kernel
theorem dX7_mediator_11 : decode cX7_mediator 11 = .ok (.iconst 1, 1) := by decide +kernel
theorem dX7_mediator_12 : decode cX7_mediator 12 = .ok (.bipush 7, 2) := by decide +kernel
theorem dX7_mediator_14 : decode cX7_mediator 14 = .ok (.invokestatic 37, 3) := by decide +kernel
theorem dX7_mediator_17 : decode cX7_mediator 17 = .ok (.ifCond .ne 5, 3) := by decide +kernel
theorem dX7_mediator_22 : decode cX7_mediator 22 = .ok (.aload_n 0, 1) := by decide +kernel
theorem dX7_mediator_23 : decode cX7_mediator 23 = .ok (.getfield 12, 3) := by decide +kernel
theorem dX7_mediator_26 : decode cX7_mediator 26 = .ok (.getfield 56, 3) := by decide +kernel
theorem dX7_mediator_29 : decode cX7_mediator 29 = .ok (.iconst 4, 1) := by decide +kernel
theorem dX7_mediator_30 : decode cX7_mediator 30 = .ok (.if_icmp .lt 6, 3) := by decide +kernel
theorem dX7_mediator_36 : decode cX7_mediator 36 = .ok (.aload_n 0, 1) := by decide +kernel
theorem dX7_mediator_37 : decode cX7_mediator 37 = .ok (.getfield 12, 3) := by decide +kernel
theorem dX7_mediator_40 : decode cX7_mediator 40 = .ok (.getfield 59, 3) := by decide +kernel
theorem dX7_mediator_43 : decode cX7_mediator 43 = .ok (.aload_n 0, 1) := by decide +kernel
theorem dX7_mediator_44 : decode cX7_mediator 44 = .ok (.getfield 12, 3) := by decide +kernel
theorem dX7_mediator_47 : decode cX7_mediator 47 = .ok (.getfield 56, 3) := by decide +kernel
theorem dX7_mediator_50 : decode cX7_mediator 50 = .ok (.aaload, 1) := by decide +kernel
theorem dX7_mediator_51 : decode cX7_mediator 51 = .ok (.astore_n 3, 1) := by decide +kernel
theorem dX7_mediator_52 : decode cX7_mediator 52 = .ok (.aload_n 3, 1) := by decide +kernel
theorem dX7_mediator_53 : decode cX7_mediator 53 = .ok (.iload_n 1, 1) := by decide +kernel
theorem dX7_mediator_54 : decode cX7_mediator 54 = .ok (.putfield 63, 3) := by decide +kernel
theorem dX7_mediator_57 : decode cX7_mediator 57 = .ok (.aload_n 3, 1) := by decide +kernel
theorem dX7_mediator_58 : decode cX7_mediator 58 = .ok (.iload_n 2, 1) := by decide +kernel
theorem dX7_mediator_59 : decode cX7_mediator 59 = .ok (.putfield 66, 3) := by decide +kernel
theorem dX7_mediator_62 : decode cX7_mediator 62 = .ok (.aload_n 3, 1) := by decide +kernel
theorem dX7_mediator_63 : decode cX7_mediator 63 = .ok (.iconst 0, 1) := by decide +kernel
theorem dX7_mediator_64 : decode cX7_mediator 64 = .ok (.putfield 69, 3) := by decide +kernel
theorem dX7_mediator_67 : decode cX7_mediator 67 = .ok (.aload_n 0, 1) := by decide +kernel
theorem dX7_mediator_68 : decode cX7_mediator 68 = .ok (.getfield 12, 3) := by decide +kernel
theorem dX7_mediator_71 : decode cX7_mediator 71 = .ok (.dup, 1) := by decide +kernel
theorem dX7_mediator_72 : decode cX7_mediator 72 = .ok (.getfield 56, 3) := by decide +kernel
theorem dX7_mediator_75 : decode cX7_mediator 75 = .ok (.dup_x1, 1) := by decide +kernel
theorem dX7_mediator_76 : decode cX7_mediator 76 = .ok (.iconst 1, 1) := by decide +kernel
theorem dX7_mediator_77 : decode cX7_mediator 77 = .ok (.iadd, 1) := by decide +kernel
theorem dX7_mediator_78 : decode cX7_mediator 78 = .ok (.putfield 56, 3) := by decide +kernel
theorem dX7_mediator_81 : decode cX7_mediator 81 = .ok (.ireturn, 1) := by decide +kernel
theorem dX7_mediator_33 : decode cX7_mediator 33 = .ok (.bipush (-2), 2) := by decide +kernel
theorem dX7_mediator_35 : decode cX7_mediator 35 = .ok (.ireturn, 1) := by decide +kernel
theorem dX7_mediator_20 : decode cX7_mediator 20 = .ok (.iconst (-1), 1) := by decide +kernel
theorem dX7_mediator_21 : decode cX7_mediator 21 = .ok (.ireturn, 1) := by decide +kernel
theorem dX7_rooms_0 : decode cX7_rooms 0 = .ok (.iload_n 1, 1) := by decide +kernel
theorem dX7_rooms_1 : decode cX7_rooms 1 = .ok (.iconst 1, 1) := by decide +kernel
theorem dX7_rooms_2 : decode cX7_rooms 2 = .ok (.iconst 2, 1) := by decide +kernel
set_option maxRecDepth 20000 in
theorem ggX7_rooms_X7_isWithin : GoodIn wsX7_rooms wsX7_isWithin := goodIn_r _ [5] (by decide +kernel) (by decide +kernel)
set_option maxRecDepth 20000 in
theorem gX7_rooms_X7_isWithin : GoodIn wsX7_rooms (va_wsS RX7 37 yX7_isWithin wsX7_isWithin) := goodIn_app (goodIn_of _ (by decide +kernel)) ggX7_rooms_X7_isWithin
theorem dX7_rooms_3 : decode cX7_rooms 3 = .ok (.invokestatic 37, 3) := by decide +kernel
theorem dX7_rooms_6 : decode cX7_rooms 6 = .ok (.ifCond .ne 5, 3) := by decide +kernel
theorem dX7_rooms_11 : decode cX7_rooms 11 = .ok (.aload_n 0, 1) := by decide +kernel
theorem dX7_rooms_12 : decode cX7_rooms 12 = .ok (.getfield 33, 3) := by decide +kernel
theorem dX7_rooms_15 : decode cX7_rooms 15 = .ok (.istore_n 2, 1) := by decide +kernel
theorem dX7_rooms_16 : decode cX7_rooms 16 = .ok (.aload_n 0, 1) := by decide +kernel
theorem dX7_rooms_17 : decode cX7_rooms 17 = .ok (.iload_n 1, 1) := by decide +kernel
theorem dX7_rooms_18 : decode cX7_rooms 18 = .ok (.putfield 33, 3) := by decide +kernel
theorem dX7_rooms_21 : decode cX7_rooms 21 = .ok (.iload_n 2, 1) := by decide +kernel
theorem dX7_rooms_22 : decode cX7_rooms 22 = .ok (.ireturn, 1) := by decide +kernel
theorem dX7_rooms_9 : decode cX7_rooms 9 = .ok (.iconst (-1), 1) := by decide +kernel
theorem dX7_rooms_10 : decode cX7_rooms 10 = .ok (.ireturn, 1) := by decide +kernel
theorem dX7_kin_0 : decode cX7_kin 0 = .ok (.aload_n 0, 1) := by decide +kernel
theorem dX7_kin_1 : decode cX7_kin 1 = .ok (.iload_n 1, 1) := by decide +kernel
set_option maxRecDepth 20000 in
theorem ggX7_kin_X7_isMediator : GoodIn wsX7_kin wsX7_isMediator := goodIn_r _ [8, 1, 9, 10, 11, 7, 12, 21, 22, 23, 24, 25, 26, 27, 28, 29, 30, 31, 32] (by decide +kernel) (by decide +kernel)
set_option maxRecDepth 20000 in
theorem gX7_kin_X7_isMediator : GoodIn wsX7_kin (wsV RX7 72 RX7 yX7_isMediator wsX7_isMediator) := goodIn_app (goodIn_of _ (by decide +kernel)) ggX7_kin_X7_isMediator
theorem dX7_kin_2 : decode cX7_kin 2 = .ok (.invokevirtual 72, 3) := by decide +kernel
theorem dX7_kin_5 : decode cX7_kin 5 = .ok (.ifCond .eq 11, 3) := by decide +kernel
theorem dX7_kin_8 : decode cX7_kin 8 = .ok (.aload_n 0, 1) := by decide +kernel
theorem dX7_kin_9 : decode cX7_kin 9 = .ok (.iload_n 2, 1) := by decide +kernel
set_option maxRecDepth 20000 in
theorem ggX7_kin_X7_isParty : GoodIn wsX7_kin wsX7_isParty := goodIn_r _ [16, 1, 17, 10, 11, 7, 12, 21, 22, 23, 24, 25, 26, 27, 28, 29, 30, 31, 32] (by decide +kernel) (by decide +kernel)
set_option maxRecDepth 20000 in
theorem gX7_kin_X7_isParty : GoodIn wsX7_kin (wsV RX7 76 RX7 yX7_isParty wsX7_isParty) := goodIn_app (goodIn_of _ (by decide +kernel)) ggX7_kin_X7_isParty
theorem dX7_kin_10 : decode cX7_kin 10 = .ok (.invokevirtual 76, 3) := by decide +kernel
theorem dX7_kin_13 : decode cX7_kin 13 = .ok (.ifCond .ne 5, 3) := by decide +kernel
theorem dX7_kin_18 : decode cX7_kin 18 = .ok (.aload_n 0, 1) := by decide +kernel
theorem dX7_kin_19 : decode cX7_kin 19 = .ok (.getfield 12, 3) := by decide +kernel
theorem dX7_kin_22 : decode cX7_kin 22 = .ok (.getfield 59, 3) := by decide +kernel
theorem dX7_kin_25 : decode cX7_kin 25 = .ok (.iload_n 1, 1) := by decide +kernel
theorem dX7_kin_26 : decode cX7_kin 26 = .ok (.aaload, 1) := by decide +kernel
theorem dX7_kin_27 : decode cX7_kin 27 = .ok (.astore 4, 2) := by decide +kernel
theorem dX7_kin_29 : decode cX7_kin 29 = .ok (.aload 4, 2) := by decide +kernel
theorem dX7_kin_31 : decode cX7_kin 31 = .ok (.getfield 69, 3) := by decide +kernel
theorem dX7_kin_34 : decode cX7_kin 34 = .ok (.iload_n 2, 1) := by decide +kernel
set_option maxRecDepth 20000 in
theorem ggX7_kin_X7_hasBit : GoodIn wsX7_kin wsX7_hasBit := goodIn_r _ [20] (by decide +kernel) (by decide +kernel)
set_option maxRecDepth 20000 in
theorem gX7_kin_X7_hasBit : GoodIn wsX7_kin (va_wsS RX7 79 yX7_hasBit wsX7_hasBit) := goodIn_app (goodIn_of _ (by decide +kernel)) ggX7_kin_X7_hasBit
theorem dX7_kin_35 : decode cX7_kin 35 = .ok (.invokestatic 79, 3) := by decide +kernel
theorem dX7_kin_38 : decode cX7_kin 38 = .ok (.iload_n 3, 1) := by decide +kernel
theorem dX7_kin_39 : decode cX7_kin 39 = .ok (.if_icmp .ne 5, 3) := by decide +kernel
theorem dX7_kin_44 : decode cX7_kin 44 = .ok (.aload 4, 2) := by decide +kernel
theorem dX7_kin_46 : decode cX7_kin 46 = .ok (.dup, 1) := by decide +kernel
theorem dX7_kin_47 : decode cX7_kin 47 = .ok (.getfield 69, 3) := by decide +kernel
theorem dX7_kin_50 : decode cX7_kin 50 = .ok (.iconst 1, 1) := by decide +kernel
theorem dX7_kin_51 : decode cX7_kin 51 = .ok (.iload_n 2, 1) := by decide +kernel
theorem dX7_kin_52 : decode cX7_kin 52 = .ok (.ishl, 1) := by decide +kernel
theorem dX7_kin_53 : decode cX7_kin 53 = .ok (.ixor, 1) := by decide +kernel
theorem dX7_kin_54 : decode cX7_kin 54 = .ok (.putfield 69, 3) := by decide +kernel
theorem dX7_kin_57 : decode cX7_kin 57 = .ok (.iconst 1, 1) := by decide +kernel
theorem dX7_kin_58 : decode cX7_kin 58 = .ok (.ireturn, 1) := by decide +kernel
theorem dX7_kin_42 : decode cX7_kin 42 = .ok (.iconst 0, 1) := by decide +kernel
theorem dX7_kin_43 : decode cX7_kin 43 = .ok (.ireturn, 1) := by decide +kernel
theorem dX7_kin_16 : decode cX7_kin 16 = .ok (.iconst (-1), 1) := by decide +kernel
theorem dX7_kin_17 : decode cX7_kin 17 = .ok (.ireturn, 1) := by decide +kernel
theorem dX7_mark_0 : decode cX7_mark 0 = .ok (.aload_n 0, 1) := by decide +kernel
theorem dX7_mark_1 : decode cX7_mark 1 = .ok (.iload_n 1, 1) := by decide +kernel
set_option maxRecDepth 20000 in
theorem ggX7_mark_X7_isCase : GoodIn wsX7_mark wsX7_isCase := goodIn_r _ [9, 1, 10, 11, 12, 8, 13, 17, 18, 19, 20, 21, 22, 23, 24, 25, 26, 27, 28] (by decide +kernel) (by decide +kernel)
set_option maxRecDepth 20000 in
theorem gX7_mark_X7_isCase : GoodIn wsX7_mark (wsV RX7 96 RX7 yX7_isCase wsX7_isCase) := goodIn_app (goodIn_of _ (by decide +kernel)) ggX7_mark_X7_isCase
theorem dX7_mark_2 : decode cX7_mark 2 = .ok (.invokevirtual 96, 3) := by decide +kernel
theorem dX7_mark_5 : decode cX7_mark 5 = .ok (.ifCond .eq 16, 3) := by decide +kernel
theorem dX7_mark_8 : decode cX7_mark 8 = .ok (.aload_n 0, 1) := by decide +kernel
theorem dX7_mark_9 : decode cX7_mark 9 = .ok (.iload_n 2, 1) := by decide +kernel
theorem dX7_mark_10 : decode cX7_mark 10 = .ok (.invokevirtual 96, 3) := by decide +kernel
theorem dX7_mark_13 : decode cX7_mark 13 = .ok (.ifCond .eq 8, 3) := by decide +kernel
theorem dX7_mark_16 : decode cX7_mark 16 = .ok (.iload_n 1, 1) := by decide +kernel
theorem dX7_mark_17 : decode cX7_mark 17 = .ok (.iload_n 2, 1) := by decide +kernel
theorem dX7_mark_18 : decode cX7_mark 18 = .ok (.if_icmp .ne 5, 3) := by decide +kernel
theorem dX7_mark_23 : decode cX7_mark 23 = .ok (.aload_n 0, 1) := by decide +kernel
theorem dX7_mark_24 : decode cX7_mark 24 = .ok (.getfield 12, 3) := by decide +kernel
theorem dX7_mark_27 : decode cX7_mark 27 = .ok (.getfield 86, 3) := by decide +kernel
theorem dX7_mark_30 : decode cX7_mark 30 = .ok (.iload_n 1, 1) := by decide +kernel
theorem dX7_mark_31 : decode cX7_mark 31 = .ok (.aaload, 1) := by decide +kernel
theorem dX7_mark_32 : decode cX7_mark 32 = .ok (.getfield 105, 3) := by decide +kernel
theorem dX7_mark_35 : decode cX7_mark 35 = .ok (.iload_n 2, 1) := by decide +kernel
set_option maxRecDepth 20000 in
theorem ggX7_mark_X7_hasBit : GoodIn wsX7_mark wsX7_hasBit := goodIn_r _ [16] (by decide +kernel) (by decide +kernel)
set_option maxRecDepth 20000 in
theorem gX7_mark_X7_hasBit : GoodIn wsX7_mark (va_wsS RX7 79 yX7_hasBit wsX7_hasBit) := goodIn_app (goodIn_of _ (by decide +kernel)) ggX7_mark_X7_hasBit
theorem dX7_mark_36 : decode cX7_mark 36 = .ok (.invokestatic 79, 3) := by decide +kernel
theorem dX7_mark_39 : decode cX7_mark 39 = .ok (.ifCond .eq 6, 3) := by decide +kernel
theorem dX7_mark_45 : decode cX7_mark 45 = .ok (.aload_n 0, 1) := by decide +kernel
theorem dX7_mark_46 : decode cX7_mark 46 = .ok (.getfield 12, 3) := by decide +kernel
theorem dX7_mark_49 : decode cX7_mark 49 = .ok (.getfield 108, 3) := by decide +kernel
theorem dX7_mark_52 : decode cX7_mark 52 = .ok (.bipush 6, 2) := by decide +kernel
theorem dX7_mark_54 : decode cX7_mark 54 = .ok (.if_icmp .lt 6, 3) := by decide +kernel
theorem dX7_mark_60 : decode cX7_mark 60 = .ok (.aload_n 0, 1) := by decide +kernel
theorem dX7_mark_61 : decode cX7_mark 61 = .ok (.getfield 12, 3) := by decide +kernel
theorem dX7_mark_64 : decode cX7_mark 64 = .ok (.getfield 86, 3) := by decide +kernel
theorem dX7_mark_67 : decode cX7_mark 67 = .ok (.iload_n 1, 1) := by decide +kernel
theorem dX7_mark_68 : decode cX7_mark 68 = .ok (.aaload, 1) := by decide +kernel
theorem dX7_mark_69 : decode cX7_mark 69 = .ok (.dup, 1) := by decide +kernel
theorem dX7_mark_70 : decode cX7_mark 70 = .ok (.getfield 105, 3) := by decide +kernel
theorem dX7_mark_73 : decode cX7_mark 73 = .ok (.iconst 1, 1) := by decide +kernel
theorem dX7_mark_74 : decode cX7_mark 74 = .ok (.iload_n 2, 1) := by decide +kernel
theorem dX7_mark_75 : decode cX7_mark 75 = .ok (.ishl, 1) := by decide +kernel
theorem dX7_mark_76 : decode cX7_mark 76 = .ok (.ior, 1) := by decide +kernel
theorem dX7_mark_77 : decode cX7_mark 77 = .ok (.putfield 105, 3) := by decide +kernel
theorem dX7_mark_80 : decode cX7_mark 80 = .ok (.aload_n 0, 1) := by decide +kernel
theorem dX7_mark_81 : decode cX7_mark 81 = .ok (.getfield 12, 3) := by decide +kernel
theorem dX7_mark_84 : decode cX7_mark 84 = .ok (.getfield 86, 3) := by decide +kernel
theorem dX7_mark_87 : decode cX7_mark 87 = .ok (.iload_n 2, 1) := by decide +kernel
theorem dX7_mark_88 : decode cX7_mark 88 = .ok (.aaload, 1) := by decide +kernel
theorem dX7_mark_89 : decode cX7_mark 89 = .ok (.dup, 1) := by decide +kernel
theorem dX7_mark_90 : decode cX7_mark 90 = .ok (.getfield 105, 3) := by decide +kernel
theorem dX7_mark_93 : decode cX7_mark 93 = .ok (.iconst 1, 1) := by decide +kernel
theorem dX7_mark_94 : decode cX7_mark 94 = .ok (.iload_n 1, 1) := by decide +kernel
theorem dX7_mark_95 : decode cX7_mark 95 = .ok (.ishl, 1) := by decide +kernel
theorem dX7_mark_96 : decode cX7_mark 96 = .ok (.ior, 1) := by decide +kernel
theorem dX7_mark_97 : decode cX7_mark 97 = .ok (.putfield 105, 3) := by decide +kernel
theorem dX7_mark_100 : decode cX7_mark 100 = .ok (.aload_n 0, 1) := by decide +kernel
theorem dX7_mark_101 : decode cX7_mark 101 = .ok (.getfield 12, 3) := by decide +kernel
theorem dX7_mark_104 : decode cX7_mark 104 = .ok (.dup, 1) := by decide +kernel
theorem dX7_mark_105 : decode cX7_mark 105 = .ok (.getfield 108, 3) := by decide +kernel
theorem dX7_mark_108 : decode cX7_mark 108 = .ok (.iconst 1, 1) := by decide +kernel
theorem dX7_mark_109 : decode cX7_mark 109 = .ok (.iadd, 1) := by decide +kernel
theorem dX7_mark_110 : decode cX7_mark 110 = .ok (.putfield 108, 3) := by decide +kernel
theorem dX7_mark_113 : decode cX7_mark 113 = .ok (.aload_n 0, 1) := by decide +kernel
theorem dX7_mark_114 : decode cX7_mark 114 = .ok (.getfield 12, 3) := by decide +kernel
theorem dX7_mark_117 : decode cX7_mark 117 = .ok (.getfield 108, 3) := by decide +kernel
theorem dX7_mark_120 : decode cX7_mark 120 = .ok (.ireturn, 1) := by decide +kernel
theorem dX7_mark_57 : decode cX7_mark 57 = .ok (.bipush (-2), 2) := by decide +kernel
theorem dX7_mark_59 : decode cX7_mark 59 = .ok (.ireturn, 1) := by decide +kernel
theorem dX7_mark_42 : decode cX7_mark 42 = .ok (.bipush (-3), 2) := by decide +kernel
theorem dX7_mark_44 : decode cX7_mark 44 = .ok (.ireturn, 1) := by decide +kernel
theorem dX7_mark_21 : decode cX7_mark 21 = .ok (.iconst (-1), 1) := by decide +kernel
theorem dX7_mark_22 : decode cX7_mark 22 = .ok (.ireturn, 1) := by decide +kernel
theorem dX7_term_0 : decode cX7_term 0 = .ok (.aload_n 0, 1) := by decide +kernel
theorem dX7_term_1 : decode cX7_term 1 = .ok (.iload_n 1, 1) := by decide +kernel
set_option maxRecDepth 20000 in
theorem ggX7_term_X7_isCase : GoodIn wsX7_term wsX7_isCase := goodIn_r _ [15, 1, 16, 17, 18, 14, 19, 26, 27, 28, 29, 30, 31, 32, 33, 34, 35, 36, 37] (by decide +kernel) (by decide +kernel)
set_option maxRecDepth 20000 in
theorem gX7_term_X7_isCase : GoodIn wsX7_term (wsV RX7 96 RX7 yX7_isCase wsX7_isCase) := goodIn_app (goodIn_of _ (by decide +kernel)) ggX7_term_X7_isCase
theorem dX7_term_2 : decode cX7_term 2 = .ok (.invokevirtual 96, 3) := by decide +kernel
theorem dX7_term_5 : decode cX7_term 5 = .ok (.ifCond .eq 43, 3) := by decide +kernel
theorem dX7_term_8 : decode cX7_term 8 = .ok (.iload_n 2, 1) := by decide +kernel
set_option maxRecDepth 20000 in
theorem ggX7_term_X7_isSide : GoodIn wsX7_term wsX7_isSide := goodIn_r _ [22, 17, 18, 14, 19] (by decide +kernel) (by decide +kernel)
set_option maxRecDepth 20000 in
theorem gX7_term_X7_isSide : GoodIn wsX7_term (va_wsS RX7 132 yX7_isSide wsX7_isSide) := goodIn_app (goodIn_of _ (by decide +kernel)) ggX7_term_X7_isSide
theorem dX7_term_9 : decode cX7_term 9 = .ok (.invokestatic 132, 3) := by decide +kernel
theorem dX7_term_12 : decode cX7_term 12 = .ok (.ifCond .eq 36, 3) := by decide +kernel
theorem dX7_term_15 : decode cX7_term 15 = .ok (.iload 4, 2) := by decide +kernel
theorem dX7_term_17 : decode cX7_term 17 = .ok (.iconst 0, 1) := by decide +kernel
theorem dX7_term_18 : decode cX7_term 18 = .ok (.iconst 5, 1) := by decide +kernel
set_option maxRecDepth 20000 in
theorem ggX7_term_X7_isWithin : GoodIn wsX7_term wsX7_isWithin := goodIn_r _ [19] (by decide +kernel) (by decide +kernel)
set_option maxRecDepth 20000 in
theorem gX7_term_X7_isWithin : GoodIn wsX7_term (va_wsS RX7 37 yX7_isWithin wsX7_isWithin) := goodIn_app (goodIn_of _ (by decide +kernel)) ggX7_term_X7_isWithin
theorem dX7_term_19 : decode cX7_term 19 = .ok (.invokestatic 37, 3) := by decide +kernel
theorem dX7_term_22 : decode cX7_term 22 = .ok (.ifCond .eq 26, 3) := by decide +kernel
theorem dX7_term_25 : decode cX7_term 25 = .ok (.iload 5, 2) := by decide +kernel
set_option maxRecDepth 20000 in
theorem ggX7_term_X7_isHour : GoodIn wsX7_term wsX7_isHour := goodIn_r _ [25, 17, 18, 14, 19] (by decide +kernel) (by decide +kernel)
set_option maxRecDepth 20000 in
theorem gX7_term_X7_isHour : GoodIn wsX7_term (va_wsS RX7 166 yX7_isHour wsX7_isHour) := goodIn_app (goodIn_of _ (by decide +kernel)) ggX7_term_X7_isHour
theorem dX7_term_27 : decode cX7_term 27 = .ok (.invokestatic 166, 3) := by decide +kernel
theorem dX7_term_30 : decode cX7_term 30 = .ok (.ifCond .eq 18, 3) := by decide +kernel
theorem dX7_term_33 : decode cX7_term 33 = .ok (.iload 6, 2) := by decide +kernel
theorem dX7_term_35 : decode cX7_term 35 = .ok (.invokestatic 166, 3) := by decide +kernel
theorem dX7_term_38 : decode cX7_term 38 = .ok (.ifCond .eq 10, 3) := by decide +kernel
theorem dX7_term_41 : decode cX7_term 41 = .ok (.iload 5, 2) := by decide +kernel
theorem dX7_term_43 : decode cX7_term 43 = .ok (.iload 6, 2) := by decide +kernel
theorem dX7_term_45 : decode cX7_term 45 = .ok (.if_icmp .le 5, 3) := by decide +kernel
theorem dX7_term_50 : decode cX7_term 50 = .ok (.aload_n 0, 1) := by decide +kernel
theorem dX7_term_51 : decode cX7_term 51 = .ok (.getfield 12, 3) := by decide +kernel
theorem dX7_term_54 : decode cX7_term 54 = .ok (.getfield 86, 3) := by decide +kernel
theorem dX7_term_57 : decode cX7_term 57 = .ok (.iload_n 1, 1) := by decide +kernel
theorem dX7_term_58 : decode cX7_term 58 = .ok (.aaload, 1) := by decide +kernel
theorem dX7_term_59 : decode cX7_term 59 = .ok (.astore 7, 2) := by decide +kernel
theorem dX7_term_61 : decode cX7_term 61 = .ok (.aload 7, 2) := by decide +kernel
theorem dX7_term_63 : decode cX7_term 63 = .ok (.getfield 99, 3) := by decide +kernel
theorem dX7_term_66 : decode cX7_term 66 = .ok (.iconst 1, 1) := by decide +kernel
theorem dX7_term_67 : decode cX7_term 67 = .ok (.if_icmp .eq 6, 3) := by decide +kernel
theorem dX7_term_73 : decode cX7_term 73 = .ok (.aload 7, 2) := by decide +kernel
theorem dX7_term_75 : decode cX7_term 75 = .ok (.getfield 169, 3) := by decide +kernel
theorem dX7_term_78 : decode cX7_term 78 = .ok (.iconst 5, 1) := by decide +kernel
theorem dX7_term_79 : decode cX7_term 79 = .ok (.if_icmp .lt 6, 3) := by decide +kernel
theorem dX7_term_85 : decode cX7_term 85 = .ok (.aload 7, 2) := by decide +kernel
theorem dX7_term_87 : decode cX7_term 87 = .ok (.getfield 172, 3) := by decide +kernel
theorem dX7_term_90 : decode cX7_term 90 = .ok (.aload 7, 2) := by decide +kernel
theorem dX7_term_92 : decode cX7_term 92 = .ok (.getfield 169, 3) := by decide +kernel
theorem dX7_term_95 : decode cX7_term 95 = .ok (.aaload, 1) := by decide +kernel
theorem dX7_term_96 : decode cX7_term 96 = .ok (.astore 8, 2) := by decide +kernel
theorem dX7_term_98 : decode cX7_term 98 = .ok (.aload 8, 2) := by decide +kernel
theorem dX7_term_100 : decode cX7_term 100 = .ok (.iload_n 2, 1) := by decide +kernel
theorem dX7_term_101 : decode cX7_term 101 = .ok (.putfield 176, 3) := by decide +kernel
theorem dX7_term_104 : decode cX7_term 104 = .ok (.aload 8, 2) := by decide +kernel
theorem dX7_term_106 : decode cX7_term 106 = .ok (.iload_n 3, 1) := by decide +kernel
theorem dX7_term_107 : decode cX7_term 107 = .ok (.putfield 181, 3) := by decide +kernel
theorem dX7_term_110 : decode cX7_term 110 = .ok (.aload 8, 2) := by decide +kernel
theorem dX7_term_112 : decode cX7_term 112 = .ok (.iload 4, 2) := by decide +kernel
theorem dX7_term_114 : decode cX7_term 114 = .ok (.putfield 185, 3) := by decide +kernel
theorem dX7_term_117 : decode cX7_term 117 = .ok (.aload 8, 2) := by decide +kernel
theorem dX7_term_119 : decode cX7_term 119 = .ok (.iload 5, 2) := by decide +kernel
theorem dX7_term_121 : decode cX7_term 121 = .ok (.putfield 188, 3) := by decide +kernel
theorem dX7_term_124 : decode cX7_term 124 = .ok (.aload 8, 2) := by decide +kernel
theorem dX7_term_126 : decode cX7_term 126 = .ok (.iload 6, 2) := by decide +kernel
theorem dX7_term_128 : decode cX7_term 128 = .ok (.putfield 191, 3) := by decide +kernel
theorem dX7_term_131 : decode cX7_term 131 = .ok (.aload 7, 2) := by decide +kernel
theorem dX7_term_133 : decode cX7_term 133 = .ok (.dup, 1) := by decide +kernel
theorem dX7_term_134 : decode cX7_term 134 = .ok (.getfield 169, 3) := by decide +kernel
theorem dX7_term_137 : decode cX7_term 137 = .ok (.dup_x1, 1) := by decide +kernel
theorem dX7_term_138 : decode cX7_term 138 = .ok (.iconst 1, 1) := by decide +kernel
theorem dX7_term_139 : decode cX7_term 139 = .ok (.iadd, 1) := by decide +kernel
theorem dX7_term_140 : decode cX7_term 140 = .ok (.putfield 169, 3) := by decide +kernel
theorem dX7_term_143 : decode cX7_term 143 = .ok (.ireturn, 1) := by decide +kernel
theorem dX7_term_82 : decode cX7_term 82 = .ok (.bipush (-2), 2) := by decide +kernel
theorem dX7_term_84 : decode cX7_term 84 = .ok (.ireturn, 1) := by decide +kernel
theorem dX7_term_70 : decode cX7_term 70 = .ok (.bipush (-4), 2) := by decide +kernel
theorem dX7_term_72 : decode cX7_term 72 = .ok (.ireturn, 1) := by decide +kernel
theorem dX7_term_48 : decode cX7_term 48 = .ok (.iconst (-1), 1) := by decide +kernel
theorem dX7_term_49 : decode cX7_term 49 = .ok (.ireturn, 1) := by decide +kernel
theorem dX7_isTerm_0 : decode cX7_isTerm 0 = .ok (.aload_n 0, 1) := by decide +kernel
theorem dX7_isTerm_1 : decode cX7_isTerm 1 = .ok (.iload_n 1, 1) := by decide +kernel
set_option maxRecDepth 20000 in
theorem ggX7_isTerm_X7_isCase : GoodIn wsX7_isTerm wsX7_isCase := goodIn_r _ [8, 1, 9, 10, 11, 7, 12, 13, 14, 15, 16, 17, 18, 19, 20, 21, 22, 23, 24] (by decide +kernel) (by decide +kernel)
set_option maxRecDepth 20000 in
theorem gX7_isTerm_X7_isCase : GoodIn wsX7_isTerm (wsV RX7 96 RX7 yX7_isCase wsX7_isCase) := goodIn_app (goodIn_of _ (by decide +kernel)) ggX7_isTerm_X7_isCase
theorem dX7_isTerm_2 : decode cX7_isTerm 2 = .ok (.invokevirtual 96, 3) := by decide +kernel
theorem dX7_isTerm_5 : decode cX7_isTerm 5 = .ok (.ifCond .eq 29, 3) := by decide +kernel
theorem dX7_isTerm_8 : decode cX7_isTerm 8 = .ok (.iload_n 2, 1) := by decide +kernel
theorem dX7_isTerm_9 : decode cX7_isTerm 9 = .ok (.iconst 0, 1) := by decide +kernel
theorem dX7_isTerm_10 : decode cX7_isTerm 10 = .ok (.aload_n 0, 1) := by decide +kernel
theorem dX7_isTerm_11 : decode cX7_isTerm 11 = .ok (.getfield 12, 3) := by decide +kernel
theorem dX7_isTerm_14 : decode cX7_isTerm 14 = .ok (.getfield 86, 3) := by decide +kernel
theorem dX7_isTerm_17 : decode cX7_isTerm 17 = .ok (.iload_n 1, 1) := by decide +kernel
theorem dX7_isTerm_18 : decode cX7_isTerm 18 = .ok (.aaload, 1) := by decide +kernel
theorem dX7_isTerm_19 : decode cX7_isTerm 19 = .ok (.getfield 169, 3) := by decide +kernel
theorem dX7_isTerm_22 : decode cX7_isTerm 22 = .ok (.iconst 1, 1) := by decide +kernel
theorem dX7_isTerm_23 : decode cX7_isTerm 23 = .ok (.isub, 1) := by decide +kernel
set_option maxRecDepth 20000 in
theorem ggX7_isTerm_X7_isWithin : GoodIn wsX7_isTerm wsX7_isWithin := goodIn_r _ [12] (by decide +kernel) (by decide +kernel)
set_option maxRecDepth 20000 in
theorem gX7_isTerm_X7_isWithin : GoodIn wsX7_isTerm (va_wsS RX7 37 yX7_isWithin wsX7_isWithin) := goodIn_app (goodIn_of _ (by decide +kernel)) ggX7_isTerm_X7_isWithin
theorem dX7_isTerm_24 : decode cX7_isTerm 24 = .ok (.invokestatic 37, 3) := by decide +kernel
theorem dX7_isTerm_27 : decode cX7_isTerm 27 = .ok (.ifCond .eq 7, 3) := by decide +kernel
theorem dX7_isTerm_30 : decode cX7_isTerm 30 = .ok (.iconst 1, 1) := by decide +kernel
theorem dX7_isTerm_31 : decode cX7_isTerm 31 = .ok (.goto 4, 3) := by decide +kernel
theorem dX7_isTerm_35 : decode cX7_isTerm 35 = .ok (.ireturn, 1) := by decide +kernel
theorem dX7_isTerm_34 : decode cX7_isTerm 34 = .ok (.iconst 0, 1) := by decide +kernel
theorem t_bool {x : Int32} (h : 0 ≤ x.toInt ∧ x.toInt ≤ 1) : x = 0 ∨ x = 1 := by
  have k0 : (0 : Int32).toInt = 0 := by decide
  have k1 : (1 : Int32).toInt = 1 := by decide
  rcases (show x.toInt = 0 ∨ x.toInt = 1 by omega) with q | q
  · exact Or.inl (Int32.toInt_inj.mp (by rw [q, k0]))
  · exact Or.inr (Int32.toInt_inj.mp (by rw [q, k1]))

set_option maxHeartbeats 4000000 in
set_option maxRecDepth 100000 in
theorem g_X7_party (l : Launch) (dC : Nat → ClassId) (dI : Nat → Nat → Nat) (cy : Nat → ClassId) (sz : Nat) (ad : Nat → Nat) (kv : Value) (N : Nat) (hN : 119 ≤ N) (v : Nat → Nat → Int32) (hv : Iv v)  (x0 x1 : Int32) : Met l yX7_party wsX7_party ({ frames := 1, cells := 0, slots := 0, locals := 64 }) (va_Pc [.ref (ad 0), .int x0, .int x1] (ex_Pre dC dI cy sz (wl ad kv cy N v))) (va_Qi (fun (r : Int32) (u : Nat → Nat → Int32) => Iv u ∧ True) (fun u t => ex_Pst dC dI (va_A (wl ad kv cy N v) sz) (wl ad kv cy N u) t) (va_A (wl ad kv cy N v) sz)) 0 0 (va_A (wl ad kv cy N v) sz) := by
  refine Met.ofW (cc := cX7_party) (maxL := 4) (ret := (some .int)) (by decide) rfl ?_
  intro p e s m args below meth c s₁ B hml hv
  obtain ⟨rfl, hsz, hE, hP, hK, hD0⟩ := hv
  have hx := B.exec
  have hb := B.bytes
  have hr := B.returns
  have hts := atoms_spec (ws := wsX7_party) B.pre
  have hown : s.vm.findClass RX7 = some m.cls := findClass_of_methodNamed B.named
  have hlocks := B.notSynchronized
  subst hsz
  have hD := hD0.self (sz := s.heap.size)
  generalize hAe : va_A (wl ad kv cy N v) s.heap.size = A at hD ⊢
  have hA : ∀ q : Nat, s.heap.size ≤ q → A q := fun q h => by rw [← hAe]; exact Or.inr h
  have hS : va_S A s.heap s.heap [] := va_S.rf
  have hP : va_P (dC, dI) vwCl (wl ad kv cy N v) s.heap := hP
  have hl := lv_entry ([.ref (ad 0), .int x0, .int x1]) (n := 4) (Nat.le_of_ble_eq_true rfl)
  rw [lg_entry_eq]
  generalize (lg_sl ([.ref (ad 0), .int x0, .int x1]) ++ List.replicate (4 - (lg_sl ([.ref (ad 0), .int x0, .int x1])).length) Slot.unset).toArray = ls at hl ⊢
  have hl : lv_has ls 4 [(0, .ref (ad 0)), (1, .int x0), (2, .int x1)] := hl
  have hfr : Fr v v := Fr.rf
  refine lv_iload_n hx hb dX7_party_0 rfl (lv_at hl 1 rfl) ?_
  refine lv_iconst (v := 0) hx hb dX7_party_1 (by decide) ?_
  refine lv_bipush (v := 9) hx hb dX7_party_2 (by decide) ?_
  refine yc_p hP hS (va_runS (As := [.int x0, .int 0, .int 9]) (rest := []) ⟨hx, hb, hml, hown, hts⟩ (c_X7_isWithin l x0 0 9) (cwS 3 hts gX7_party_X7_isWithin rfl rfl rfl (by decide +kernel) ⟨Nat.le_of_ble_eq_true rfl, Nat.le_of_ble_eq_true rfl⟩) ex_preP rfl rfl hl.1 rfl (lv_room (Nat.le_of_ble_eq_true rfl)) dX7_party_4 ⟨Nat.le_of_ble_eq_true rfl, Nat.le_of_ble_eq_true rfl⟩) (fun r_1 H locs hw_1 hP hS => ?_)
  rcases wi_ca hw_1 with ⟨rfl, hc_2⟩ | ⟨rfl, hc_2⟩
  · have k_0 : (0 : Int32).toInt = 0 := by decide
    have k_9 : (9 : Int32).toInt = 9 := by decide
    have tc_2 := wi_tl hc_2
    refine lv_if_eq (tgt := 19) hx hb dX7_party_7 (by decide) (fun c9 => absurd c9 (by decide)) (fun _ => ?_)
    refine lv_iload_n hx hb dX7_party_10 rfl (lv_at hl 2 rfl) ?_
    refine lv_iconst (v := 0) hx hb dX7_party_11 (by decide) ?_
    refine lv_iconst (v := 2) hx hb dX7_party_12 (by decide) ?_
    refine yc_p hP hS (va_runS (As := [.int x1, .int 0, .int 2]) (rest := []) ⟨hx, hb, hml, hown, hts⟩ (c_X7_isWithin l x1 0 2) (cwS 3 hts gX7_party_X7_isWithin rfl rfl rfl (by decide +kernel) ⟨Nat.le_of_ble_eq_true rfl, Nat.le_of_ble_eq_true rfl⟩) ex_preP rfl rfl hl.1 rfl (lv_room (Nat.le_of_ble_eq_true rfl)) dX7_party_13 ⟨Nat.le_of_ble_eq_true rfl, Nat.le_of_ble_eq_true rfl⟩) (fun r_3 H locs hw_3 hP hS => ?_)
    rcases wi_ca hw_3 with ⟨rfl, hc_4⟩ | ⟨rfl, hc_4⟩
    · have k_2 : (2 : Int32).toInt = 2 := by decide
      have tc_4 := wi_tl hc_4
      refine lv_if_ne (tgt := 21) hx hb dX7_party_16 (by decide) (fun _ => ?_) (fun c9 => absurd c9 (by decide))
      refine lv_aload_n hx hb dX7_party_21 rfl (lv_at hl 0 rfl) ?_
      refine va_get (D := (dC, dI)) (ci := 7) (v := .ref (ad 13)) (C := RX7) (T := TX7) (N := 5) hx hb hts (by decide +kernel) hown hK hP (0) (wl_at (by omega) (ce_0 (by decide))) rfl 0 (by decide) (hts (.fieldLink RX7 12 "QuietStairs" "now" "LQuietStairs$House;") (by decide +kernel)) (fun _ h9 => h9) rfl dX7_party_22 ?_
      refine va_get (D := (dC, dI)) (ci := 1) (v := .int (v (13) 0)) (C := RX1) (T := TX1) (N := 7) hx hb hts (by decide +kernel) hown hK hP (13) (wl_at (by omega) (ce_3 (by decide))) rfl 0 (by decide) (hts (.fieldLink RX7 41 "QuietStairs$House" "partyCount" "I") (by decide +kernel)) (fun _ h9 => h9) rfl dX7_party_25 ?_
      refine lv_topi (fun x_5 ex_5 => ?_)
      have bx_5 : 0 ≤ x_5.toInt ∧ x_5.toInt ≤ 8 := by rw [ex_5]; exact hv.at (K := 3) (by decide) rfl
      refine lv_bipush (v := 8) hx hb dX7_party_28 (by decide) ?_
      have k_8 : (8 : Int32).toInt = 8 := by decide
      refine lv_icmp_lt (tgt := 36) hx hb dX7_party_30 (by decide) (fun c_6 => ?_) (fun c_6 => ?_)
      · have tc_6 : x_5.toInt < (8 : Int32).toInt := Int32.lt_iff_toInt_lt.mp c_6
        refine lv_aload_n hx hb dX7_party_36 rfl (lv_at hl 0 rfl) ?_
        refine va_get (D := (dC, dI)) (ci := 7) (v := .ref (ad 13)) (C := RX7) (T := TX7) (N := 5) hx hb hts (by decide +kernel) hown hK hP (0) (wl_at (by omega) (ce_0 (by decide))) rfl 0 (by decide) (hts (.fieldLink RX7 12 "QuietStairs" "now" "LQuietStairs$House;") (by decide +kernel)) (fun _ h9 => h9) rfl dX7_party_37 ?_
        refine va_get (D := (dC, dI)) (ci := 1) (v := .ref (ad 14)) (C := RX1) (T := TX1) (N := 7) hx hb hts (by decide +kernel) hown hK hP (13) (wl_at (by omega) (ce_3 (by decide))) rfl 4 (by decide) (hts (.fieldLink RX7 44 "QuietStairs$House" "parties" "[LQuietStairs$Party;") (by decide +kernel)) (fun _ h9 => h9) rfl dX7_party_40 ?_
        refine lv_aload_n hx hb dX7_party_43 rfl (lv_at hl 0 rfl) ?_
        refine va_get (D := (dC, dI)) (ci := 7) (v := .ref (ad 13)) (C := RX7) (T := TX7) (N := 5) hx hb hts (by decide +kernel) hown hK hP (0) (wl_at (by omega) (ce_0 (by decide))) rfl 0 (by decide) (hts (.fieldLink RX7 12 "QuietStairs" "now" "LQuietStairs$House;") (by decide +kernel)) (fun _ h9 => h9) rfl dX7_party_44 ?_
        refine va_get (D := (dC, dI)) (ci := 1) (v := .int (v (13) 0)) (C := RX1) (T := TX1) (N := 7) hx hb hts (by decide +kernel) hown hK hP (13) (wl_at (by omega) (ce_3 (by decide))) rfl 0 (by decide) (hts (.fieldLink RX7 41 "QuietStairs$House" "partyCount" "I") (by decide +kernel)) (fun _ h9 => h9) rfl dX7_party_47 ?_
        refine lv_topi (fun x_7 ex_7 => ?_)
        rw [← ex_5] at ex_7; replace ex_7 := ex_7.symm; subst ex_7
        obtain ⟨pi8, i8, hi8, ni8, mi8⟩ := t_in (x := x_5) (n := 8) ⟨by omega, by omega⟩
        refine va_aldq hx hb hK hP (14) 1 (wl_at (by omega) (ce_4 (by decide))) rfl pi8 dX7_party_50 ?_
        refine W.eq (g2 := F0 m 51 ls [.ref (ad (17 + i8))]) (by rw [ni8, if_pos hi8, show 14 + 3 + i8 = 17 + i8 from by omega]; rfl) ?_
        refine lv_astore_n (lv' := [(3, .ref (ad (17 + i8))), (0, .ref (ad 0)), (1, .int x0), (2, .int x1)]) hx hb dX7_party_51 rfl hl (by decide) rfl (fun ls hl => ?_)
        refine lv_aload_n hx hb dX7_party_52 rfl (lv_at hl 0 rfl) ?_
        refine lv_iload_n hx hb dX7_party_53 rfl (lv_at hl 2 rfl) ?_
        refine va_put (D := (dC, dI)) (ci := 3) (v := .int x0) (ty := .int) (C := RX3) (T := TX3) (N := 2) hx hb hts (by decide +kernel) tyX3 tyX3_ok nmX3 hown hK hP hD hS (17 + i8) (wl_at (by omega) (ce_7 (kd_p i8 hi8).1)) rfl 0 (by decide) (hts (.fieldLink RX7 48 "QuietStairs$Party" "floor" "I") (by decide +kernel)) (fun _ h9 => h9) rfl (by decide +kernel) rfl rfl (Nat.le_of_ble_eq_true rfl) dX7_party_54 (fun H locs hP hD hS => ?_)
        obtain ⟨v_9, ev_9⟩ : ∃ u : Nat → Nat → Int32, u = upr v (17 + i8) (upd (v (17 + i8)) 0 x0) := ⟨_, rfl⟩
        have hP : va_P (dC, dI) vwCl (wl ad kv cy N v_9) H := by rw [ev_9, ← wl_put (e := _) (ce_7 (kd_p i8 hi8).1)]; exact hP
        have hD : va_D A (wl ad kv cy N v_9) := by rw [ev_9, ← wl_put (e := _) (ce_7 (kd_p i8 hi8).1)]; exact hD
        have hv : Iv v_9 := by rw [ev_9]; exact hv.put (K := 7) (kd_p i8 hi8).1 (fun h q => by simp [bd] at q)
        have hfr : Fr v v_9 := by rw [ev_9]; exact hfr.put (by omega) (by omega) (by omega)
        refine lv_aload_n hx hb dX7_party_57 rfl (lv_at hl 0 rfl) ?_
        refine lv_iload_n hx hb dX7_party_58 rfl (lv_at hl 3 rfl) ?_
        refine va_put (D := (dC, dI)) (ci := 3) (v := .int x1) (ty := .int) (C := RX3) (T := TX3) (N := 2) hx hb hts (by decide +kernel) tyX3 tyX3_ok nmX3 hown hK hP hD hS (17 + i8) (wl_at (by omega) (ce_7 (kd_p i8 hi8).1)) rfl 1 (by decide) (hts (.fieldLink RX7 53 "QuietStairs$Party" "tongue" "I") (by decide +kernel)) (fun _ h9 => h9) rfl (by decide +kernel) rfl rfl (Nat.le_of_ble_eq_true rfl) dX7_party_59 (fun H locs hP hD hS => ?_)
        obtain ⟨v_10, ev_10⟩ : ∃ u : Nat → Nat → Int32, u = upr v_9 (17 + i8) (upd (v_9 (17 + i8)) 1 x1) := ⟨_, rfl⟩
        have hP : va_P (dC, dI) vwCl (wl ad kv cy N v_10) H := by rw [ev_10, ← wl_put (e := _) (ce_7 (kd_p i8 hi8).1)]; exact hP
        have hD : va_D A (wl ad kv cy N v_10) := by rw [ev_10, ← wl_put (e := _) (ce_7 (kd_p i8 hi8).1)]; exact hD
        have hv : Iv v_10 := by rw [ev_10]; exact hv.put (K := 7) (kd_p i8 hi8).1 (fun h q => by simp [bd] at q)
        have hfr : Fr v v_10 := by rw [ev_10]; exact hfr.put (by omega) (by omega) (by omega)
        refine lv_aload_n hx hb dX7_party_62 rfl (lv_at hl 1 rfl) ?_
        refine va_get (D := (dC, dI)) (ci := 7) (v := .ref (ad 13)) (C := RX7) (T := TX7) (N := 5) hx hb hts (by decide +kernel) hown hK hP (0) (wl_at (by omega) (ce_0 (by decide))) rfl 0 (by decide) (hts (.fieldLink RX7 12 "QuietStairs" "now" "LQuietStairs$House;") (by decide +kernel)) (fun _ h9 => h9) rfl dX7_party_63 ?_
        refine lv_dup hx hb dX7_party_66 rfl ?_
        refine va_get (D := (dC, dI)) (ci := 1) (v := .int (v_10 (13) 0)) (C := RX1) (T := TX1) (N := 7) hx hb hts (by decide +kernel) hown hK hP (13) (wl_at (by omega) (ce_3 (by decide))) rfl 0 (by decide) (hts (.fieldLink RX7 41 "QuietStairs$House" "partyCount" "I") (by decide +kernel)) (fun _ h9 => h9) rfl dX7_party_67 ?_
        refine lv_topi (fun x_11 ex_11 => ?_)
        rw [ev_10, upr_n (by omega)] at ex_11
        rw [ev_9, upr_n (by omega)] at ex_11
        rw [← ex_5] at ex_11; replace ex_11 := ex_11.symm; subst ex_11
        refine lv_dup_x1 hx hb dX7_party_70 rfl rfl ?_
        refine lv_iconst (v := 1) hx hb dX7_party_71 (by decide) ?_
        have k_1 : (1 : Int32).toInt = 1 := by decide
        refine lv_iadd hx hb dX7_party_72 ?_
        refine lv_topi (fun x_12 ex_12 => ?_)
        have tx_12 : x_12.toInt = x_5.toInt + (1 : Int32).toInt := by rw [ex_12]; exact t_add ⟨by omega, by omega⟩
        refine va_put (D := (dC, dI)) (ci := 1) (v := .int x_12) (ty := .int) (C := RX1) (T := TX1) (N := 7) hx hb hts (by decide +kernel) tyX1 tyX1_ok nmX1 hown hK hP hD hS (13) (wl_at (by omega) (ce_3 (by decide))) rfl 0 (by decide) (hts (.fieldLink RX7 41 "QuietStairs$House" "partyCount" "I") (by decide +kernel)) (fun _ h9 => h9) rfl (by decide +kernel) rfl rfl (Nat.le_of_ble_eq_true rfl) dX7_party_73 (fun H locs hP hD hS => ?_)
        obtain ⟨v_13, ev_13⟩ : ∃ u : Nat → Nat → Int32, u = upr v_10 (13) (upd (v_10 (13)) 0 x_12) := ⟨_, rfl⟩
        have hP : va_P (dC, dI) vwCl (wl ad kv cy N v_13) H := by rw [ev_13, ← wl_put (e := _) (ce_3 (by decide))]; exact hP
        have hD : va_D A (wl ad kv cy N v_13) := by rw [ev_13, ← wl_put (e := _) (ce_3 (by decide))]; exact hD
        have hv : Iv v_13 := by rw [ev_13]; exact hv.put (K := 3) (by decide) (fun h q => by cases q; exact ⟨by omega, by omega⟩)
        exact W.iret (v := x_5) hx hb hr (fun t ht hW => ⟨⟨x_5, v_13, rfl, ⟨hv, trivial⟩, by rw [ht]; exact hP, hD⟩, hS.F ht⟩) hS.2.2 dX7_party_76
      · have tc_6 : x_5.toInt ≥ (8 : Int32).toInt := Int32.le_iff_toInt_le.mp (Int32.not_lt.mp c_6)
        refine lv_bipush (v := (-2)) hx hb dX7_party_33 (by decide) ?_
        exact W.iret (v := (-2)) hx hb hr (fun t ht hW => ⟨⟨(-2), v, rfl, ⟨hv, trivial⟩, by rw [ht]; exact hP, hD⟩, hS.F ht⟩) hS.2.2 dX7_party_35
    · refine lv_if_ne (tgt := 21) hx hb dX7_party_16 (by decide) (fun c9 => absurd c9 (by decide)) (fun _ => ?_)
      refine lv_iconst (v := (-1)) hx hb dX7_party_19 (by decide) ?_
      exact W.iret (v := (-1)) hx hb hr (fun t ht hW => ⟨⟨(-1), v, rfl, ⟨hv, trivial⟩, by rw [ht]; exact hP, hD⟩, hS.F ht⟩) hS.2.2 dX7_party_20
  · refine lv_if_eq (tgt := 19) hx hb dX7_party_7 (by decide) (fun _ => ?_) (fun c9 => absurd c9 (by decide))
    refine lv_iconst (v := (-1)) hx hb dX7_party_19 (by decide) ?_
    exact W.iret (v := (-1)) hx hb hr (fun t ht hW => ⟨⟨(-1), v, rfl, ⟨hv, trivial⟩, by rw [ht]; exact hP, hD⟩, hS.F ht⟩) hS.2.2 dX7_party_20

set_option maxHeartbeats 4000000 in
set_option maxRecDepth 100000 in
theorem g_X7_mediator (l : Launch) (dC : Nat → ClassId) (dI : Nat → Nat → Nat) (cy : Nat → ClassId) (sz : Nat) (ad : Nat → Nat) (kv : Value) (N : Nat) (hN : 119 ≤ N) (v : Nat → Nat → Int32) (hv : Iv v)  (x0 x1 : Int32) : Met l yX7_mediator wsX7_mediator ({ frames := 1, cells := 0, slots := 0, locals := 64 }) (va_Pc [.ref (ad 0), .int x0, .int x1] (ex_Pre dC dI cy sz (wl ad kv cy N v))) (va_Qi (fun (r : Int32) (u : Nat → Nat → Int32) => Iv u ∧ True) (fun u t => ex_Pst dC dI (va_A (wl ad kv cy N v) sz) (wl ad kv cy N u) t) (va_A (wl ad kv cy N v) sz)) 0 0 (va_A (wl ad kv cy N v) sz) := by
  refine Met.ofW (cc := cX7_mediator) (maxL := 4) (ret := (some .int)) (by decide) rfl ?_
  intro p e s m args below meth c s₁ B hml hv
  obtain ⟨rfl, hsz, hE, hP, hK, hD0⟩ := hv
  have hx := B.exec
  have hb := B.bytes
  have hr := B.returns
  have hts := atoms_spec (ws := wsX7_mediator) B.pre
  have hown : s.vm.findClass RX7 = some m.cls := findClass_of_methodNamed B.named
  have hlocks := B.notSynchronized
  subst hsz
  have hD := hD0.self (sz := s.heap.size)
  generalize hAe : va_A (wl ad kv cy N v) s.heap.size = A at hD ⊢
  have hA : ∀ q : Nat, s.heap.size ≤ q → A q := fun q h => by rw [← hAe]; exact Or.inr h
  have hS : va_S A s.heap s.heap [] := va_S.rf
  have hP : va_P (dC, dI) vwCl (wl ad kv cy N v) s.heap := hP
  have hl := lv_entry ([.ref (ad 0), .int x0, .int x1]) (n := 4) (Nat.le_of_ble_eq_true rfl)
  rw [lg_entry_eq]
  generalize (lg_sl ([.ref (ad 0), .int x0, .int x1]) ++ List.replicate (4 - (lg_sl ([.ref (ad 0), .int x0, .int x1])).length) Slot.unset).toArray = ls at hl ⊢
  have hl : lv_has ls 4 [(0, .ref (ad 0)), (1, .int x0), (2, .int x1)] := hl
  have hfr : Fr v v := Fr.rf
  refine lv_iload_n hx hb dX7_mediator_0 rfl (lv_at hl 1 rfl) ?_
  refine lv_iconst (v := 0) hx hb dX7_mediator_1 (by decide) ?_
  refine lv_bipush (v := 9) hx hb dX7_mediator_2 (by decide) ?_
  refine yc_p hP hS (va_runS (As := [.int x0, .int 0, .int 9]) (rest := []) ⟨hx, hb, hml, hown, hts⟩ (c_X7_isWithin l x0 0 9) (cwS 3 hts gX7_mediator_X7_isWithin rfl rfl rfl (by decide +kernel) ⟨Nat.le_of_ble_eq_true rfl, Nat.le_of_ble_eq_true rfl⟩) ex_preP rfl rfl hl.1 rfl (lv_room (Nat.le_of_ble_eq_true rfl)) dX7_mediator_4 ⟨Nat.le_of_ble_eq_true rfl, Nat.le_of_ble_eq_true rfl⟩) (fun r_1 H locs hw_1 hP hS => ?_)
  rcases wi_ca hw_1 with ⟨rfl, hc_2⟩ | ⟨rfl, hc_2⟩
  · have k_0 : (0 : Int32).toInt = 0 := by decide
    have k_9 : (9 : Int32).toInt = 9 := by decide
    have tc_2 := wi_tl hc_2
    refine lv_if_eq (tgt := 20) hx hb dX7_mediator_7 (by decide) (fun c9 => absurd c9 (by decide)) (fun _ => ?_)
    refine lv_iload_n hx hb dX7_mediator_10 rfl (lv_at hl 2 rfl) ?_
    refine lv_iconst (v := 1) hx hb dX7_mediator_11 (by decide) ?_
    refine lv_bipush (v := 7) hx hb dX7_mediator_12 (by decide) ?_
    refine yc_p hP hS (va_runS (As := [.int x1, .int 1, .int 7]) (rest := []) ⟨hx, hb, hml, hown, hts⟩ (c_X7_isWithin l x1 1 7) (cwS 3 hts gX7_mediator_X7_isWithin rfl rfl rfl (by decide +kernel) ⟨Nat.le_of_ble_eq_true rfl, Nat.le_of_ble_eq_true rfl⟩) ex_preP rfl rfl hl.1 rfl (lv_room (Nat.le_of_ble_eq_true rfl)) dX7_mediator_14 ⟨Nat.le_of_ble_eq_true rfl, Nat.le_of_ble_eq_true rfl⟩) (fun r_3 H locs hw_3 hP hS => ?_)
    rcases wi_ca hw_3 with ⟨rfl, hc_4⟩ | ⟨rfl, hc_4⟩
    · have k_1 : (1 : Int32).toInt = 1 := by decide
      have k_7 : (7 : Int32).toInt = 7 := by decide
      have tc_4 := wi_tl hc_4
      refine lv_if_ne (tgt := 22) hx hb dX7_mediator_17 (by decide) (fun _ => ?_) (fun c9 => absurd c9 (by decide))
      refine lv_aload_n hx hb dX7_mediator_22 rfl (lv_at hl 0 rfl) ?_
      refine va_get (D := (dC, dI)) (ci := 7) (v := .ref (ad 13)) (C := RX7) (T := TX7) (N := 5) hx hb hts (by decide +kernel) hown hK hP (0) (wl_at (by omega) (ce_0 (by decide))) rfl 0 (by decide) (hts (.fieldLink RX7 12 "QuietStairs" "now" "LQuietStairs$House;") (by decide +kernel)) (fun _ h9 => h9) rfl dX7_mediator_23 ?_
      refine va_get (D := (dC, dI)) (ci := 1) (v := .int (v (13) 1)) (C := RX1) (T := TX1) (N := 7) hx hb hts (by decide +kernel) hown hK hP (13) (wl_at (by omega) (ce_3 (by decide))) rfl 1 (by decide) (hts (.fieldLink RX7 56 "QuietStairs$House" "mediatorCount" "I") (by decide +kernel)) (fun _ h9 => h9) rfl dX7_mediator_26 ?_
      refine lv_topi (fun x_5 ex_5 => ?_)
      have bx_5 : 0 ≤ x_5.toInt ∧ x_5.toInt ≤ 4 := by rw [ex_5]; exact hv.at (K := 3) (by decide) rfl
      refine lv_iconst (v := 4) hx hb dX7_mediator_29 (by decide) ?_
      have k_4 : (4 : Int32).toInt = 4 := by decide
      refine lv_icmp_lt (tgt := 36) hx hb dX7_mediator_30 (by decide) (fun c_6 => ?_) (fun c_6 => ?_)
      · have tc_6 : x_5.toInt < (4 : Int32).toInt := Int32.lt_iff_toInt_lt.mp c_6
        refine lv_aload_n hx hb dX7_mediator_36 rfl (lv_at hl 0 rfl) ?_
        refine va_get (D := (dC, dI)) (ci := 7) (v := .ref (ad 13)) (C := RX7) (T := TX7) (N := 5) hx hb hts (by decide +kernel) hown hK hP (0) (wl_at (by omega) (ce_0 (by decide))) rfl 0 (by decide) (hts (.fieldLink RX7 12 "QuietStairs" "now" "LQuietStairs$House;") (by decide +kernel)) (fun _ h9 => h9) rfl dX7_mediator_37 ?_
        refine va_get (D := (dC, dI)) (ci := 1) (v := .ref (ad 15)) (C := RX1) (T := TX1) (N := 7) hx hb hts (by decide +kernel) hown hK hP (13) (wl_at (by omega) (ce_3 (by decide))) rfl 5 (by decide) (hts (.fieldLink RX7 59 "QuietStairs$House" "mediators" "[LQuietStairs$Mediator;") (by decide +kernel)) (fun _ h9 => h9) rfl dX7_mediator_40 ?_
        refine lv_aload_n hx hb dX7_mediator_43 rfl (lv_at hl 0 rfl) ?_
        refine va_get (D := (dC, dI)) (ci := 7) (v := .ref (ad 13)) (C := RX7) (T := TX7) (N := 5) hx hb hts (by decide +kernel) hown hK hP (0) (wl_at (by omega) (ce_0 (by decide))) rfl 0 (by decide) (hts (.fieldLink RX7 12 "QuietStairs" "now" "LQuietStairs$House;") (by decide +kernel)) (fun _ h9 => h9) rfl dX7_mediator_44 ?_
        refine va_get (D := (dC, dI)) (ci := 1) (v := .int (v (13) 1)) (C := RX1) (T := TX1) (N := 7) hx hb hts (by decide +kernel) hown hK hP (13) (wl_at (by omega) (ce_3 (by decide))) rfl 1 (by decide) (hts (.fieldLink RX7 56 "QuietStairs$House" "mediatorCount" "I") (by decide +kernel)) (fun _ h9 => h9) rfl dX7_mediator_47 ?_
        refine lv_topi (fun x_7 ex_7 => ?_)
        rw [← ex_5] at ex_7; replace ex_7 := ex_7.symm; subst ex_7
        obtain ⟨pi8, i8, hi8, ni8, mi8⟩ := t_in (x := x_5) (n := 4) ⟨by omega, by omega⟩
        refine va_aldq hx hb hK hP (15) 2 (wl_at (by omega) (ce_5 (by decide))) rfl pi8 dX7_mediator_50 ?_
        refine W.eq (g2 := F0 m 51 ls [.ref (ad (25 + i8))]) (by rw [ni8, if_pos hi8, show 15 + 10 + i8 = 25 + i8 from by omega]; rfl) ?_
        refine lv_astore_n (lv' := [(3, .ref (ad (25 + i8))), (0, .ref (ad 0)), (1, .int x0), (2, .int x1)]) hx hb dX7_mediator_51 rfl hl (by decide) rfl (fun ls hl => ?_)
        refine lv_aload_n hx hb dX7_mediator_52 rfl (lv_at hl 0 rfl) ?_
        refine lv_iload_n hx hb dX7_mediator_53 rfl (lv_at hl 2 rfl) ?_
        refine va_put (D := (dC, dI)) (ci := 2) (v := .int x0) (ty := .int) (C := RX2) (T := TX2) (N := 3) hx hb hts (by decide +kernel) tyX2 tyX2_ok nmX2 hown hK hP hD hS (25 + i8) (wl_at (by omega) (ce_8 (kd_m i8 hi8).1)) rfl 0 (by decide) (hts (.fieldLink RX7 63 "QuietStairs$Mediator" "floor" "I") (by decide +kernel)) (fun _ h9 => h9) rfl (by decide +kernel) rfl rfl (Nat.le_of_ble_eq_true rfl) dX7_mediator_54 (fun H locs hP hD hS => ?_)
        obtain ⟨v_9, ev_9⟩ : ∃ u : Nat → Nat → Int32, u = upr v (25 + i8) (upd (v (25 + i8)) 0 x0) := ⟨_, rfl⟩
        have hP : va_P (dC, dI) vwCl (wl ad kv cy N v_9) H := by rw [ev_9, ← wl_put (e := _) (ce_8 (kd_m i8 hi8).1)]; exact hP
        have hD : va_D A (wl ad kv cy N v_9) := by rw [ev_9, ← wl_put (e := _) (ce_8 (kd_m i8 hi8).1)]; exact hD
        have hv : Iv v_9 := by rw [ev_9]; exact hv.put (K := 8) (kd_m i8 hi8).1 (fun h q => by simp [bd] at q)
        have hfr : Fr v v_9 := by rw [ev_9]; exact hfr.put (by omega) (by omega) (by omega)
        refine lv_aload_n hx hb dX7_mediator_57 rfl (lv_at hl 0 rfl) ?_
        refine lv_iload_n hx hb dX7_mediator_58 rfl (lv_at hl 3 rfl) ?_
        refine va_put (D := (dC, dI)) (ci := 2) (v := .int x1) (ty := .int) (C := RX2) (T := TX2) (N := 3) hx hb hts (by decide +kernel) tyX2 tyX2_ok nmX2 hown hK hP hD hS (25 + i8) (wl_at (by omega) (ce_8 (kd_m i8 hi8).1)) rfl 1 (by decide) (hts (.fieldLink RX7 66 "QuietStairs$Mediator" "tongues" "I") (by decide +kernel)) (fun _ h9 => h9) rfl (by decide +kernel) rfl rfl (Nat.le_of_ble_eq_true rfl) dX7_mediator_59 (fun H locs hP hD hS => ?_)
        obtain ⟨v_10, ev_10⟩ : ∃ u : Nat → Nat → Int32, u = upr v_9 (25 + i8) (upd (v_9 (25 + i8)) 1 x1) := ⟨_, rfl⟩
        have hP : va_P (dC, dI) vwCl (wl ad kv cy N v_10) H := by rw [ev_10, ← wl_put (e := _) (ce_8 (kd_m i8 hi8).1)]; exact hP
        have hD : va_D A (wl ad kv cy N v_10) := by rw [ev_10, ← wl_put (e := _) (ce_8 (kd_m i8 hi8).1)]; exact hD
        have hv : Iv v_10 := by rw [ev_10]; exact hv.put (K := 8) (kd_m i8 hi8).1 (fun h q => by simp [bd] at q)
        have hfr : Fr v v_10 := by rw [ev_10]; exact hfr.put (by omega) (by omega) (by omega)
        refine lv_aload_n hx hb dX7_mediator_62 rfl (lv_at hl 0 rfl) ?_
        refine lv_iconst (v := 0) hx hb dX7_mediator_63 (by decide) ?_
        refine va_put (D := (dC, dI)) (ci := 2) (v := .int 0) (ty := .int) (C := RX2) (T := TX2) (N := 3) hx hb hts (by decide +kernel) tyX2 tyX2_ok nmX2 hown hK hP hD hS (25 + i8) (wl_at (by omega) (ce_8 (kd_m i8 hi8).1)) rfl 2 (by decide) (hts (.fieldLink RX7 69 "QuietStairs$Mediator" "kinBits" "I") (by decide +kernel)) (fun _ h9 => h9) rfl (by decide +kernel) rfl rfl (Nat.le_of_ble_eq_true rfl) dX7_mediator_64 (fun H locs hP hD hS => ?_)
        obtain ⟨v_11, ev_11⟩ : ∃ u : Nat → Nat → Int32, u = upr v_10 (25 + i8) (upd (v_10 (25 + i8)) 2 0) := ⟨_, rfl⟩
        have hP : va_P (dC, dI) vwCl (wl ad kv cy N v_11) H := by rw [ev_11, ← wl_put (e := _) (ce_8 (kd_m i8 hi8).1)]; exact hP
        have hD : va_D A (wl ad kv cy N v_11) := by rw [ev_11, ← wl_put (e := _) (ce_8 (kd_m i8 hi8).1)]; exact hD
        have hv : Iv v_11 := by rw [ev_11]; exact hv.put (K := 8) (kd_m i8 hi8).1 (fun h q => by simp [bd] at q)
        have hfr : Fr v v_11 := by rw [ev_11]; exact hfr.put (by omega) (by omega) (by omega)
        refine lv_aload_n hx hb dX7_mediator_67 rfl (lv_at hl 1 rfl) ?_
        refine va_get (D := (dC, dI)) (ci := 7) (v := .ref (ad 13)) (C := RX7) (T := TX7) (N := 5) hx hb hts (by decide +kernel) hown hK hP (0) (wl_at (by omega) (ce_0 (by decide))) rfl 0 (by decide) (hts (.fieldLink RX7 12 "QuietStairs" "now" "LQuietStairs$House;") (by decide +kernel)) (fun _ h9 => h9) rfl dX7_mediator_68 ?_
        refine lv_dup hx hb dX7_mediator_71 rfl ?_
        refine va_get (D := (dC, dI)) (ci := 1) (v := .int (v_11 (13) 1)) (C := RX1) (T := TX1) (N := 7) hx hb hts (by decide +kernel) hown hK hP (13) (wl_at (by omega) (ce_3 (by decide))) rfl 1 (by decide) (hts (.fieldLink RX7 56 "QuietStairs$House" "mediatorCount" "I") (by decide +kernel)) (fun _ h9 => h9) rfl dX7_mediator_72 ?_
        refine lv_topi (fun x_12 ex_12 => ?_)
        rw [ev_11, upr_n (by omega)] at ex_12
        rw [ev_10, upr_n (by omega)] at ex_12
        rw [ev_9, upr_n (by omega)] at ex_12
        rw [← ex_5] at ex_12; replace ex_12 := ex_12.symm; subst ex_12
        refine lv_dup_x1 hx hb dX7_mediator_75 rfl rfl ?_
        refine lv_iconst (v := 1) hx hb dX7_mediator_76 (by decide) ?_
        refine lv_iadd hx hb dX7_mediator_77 ?_
        refine lv_topi (fun x_13 ex_13 => ?_)
        have tx_13 : x_13.toInt = x_5.toInt + (1 : Int32).toInt := by rw [ex_13]; exact t_add ⟨by omega, by omega⟩
        refine va_put (D := (dC, dI)) (ci := 1) (v := .int x_13) (ty := .int) (C := RX1) (T := TX1) (N := 7) hx hb hts (by decide +kernel) tyX1 tyX1_ok nmX1 hown hK hP hD hS (13) (wl_at (by omega) (ce_3 (by decide))) rfl 1 (by decide) (hts (.fieldLink RX7 56 "QuietStairs$House" "mediatorCount" "I") (by decide +kernel)) (fun _ h9 => h9) rfl (by decide +kernel) rfl rfl (Nat.le_of_ble_eq_true rfl) dX7_mediator_78 (fun H locs hP hD hS => ?_)
        obtain ⟨v_14, ev_14⟩ : ∃ u : Nat → Nat → Int32, u = upr v_11 (13) (upd (v_11 (13)) 1 x_13) := ⟨_, rfl⟩
        have hP : va_P (dC, dI) vwCl (wl ad kv cy N v_14) H := by rw [ev_14, ← wl_put (e := _) (ce_3 (by decide))]; exact hP
        have hD : va_D A (wl ad kv cy N v_14) := by rw [ev_14, ← wl_put (e := _) (ce_3 (by decide))]; exact hD
        have hv : Iv v_14 := by rw [ev_14]; exact hv.put (K := 3) (by decide) (fun h q => by cases q; exact ⟨by omega, by omega⟩)
        exact W.iret (v := x_5) hx hb hr (fun t ht hW => ⟨⟨x_5, v_14, rfl, ⟨hv, trivial⟩, by rw [ht]; exact hP, hD⟩, hS.F ht⟩) hS.2.2 dX7_mediator_81
      · have tc_6 : x_5.toInt ≥ (4 : Int32).toInt := Int32.le_iff_toInt_le.mp (Int32.not_lt.mp c_6)
        refine lv_bipush (v := (-2)) hx hb dX7_mediator_33 (by decide) ?_
        exact W.iret (v := (-2)) hx hb hr (fun t ht hW => ⟨⟨(-2), v, rfl, ⟨hv, trivial⟩, by rw [ht]; exact hP, hD⟩, hS.F ht⟩) hS.2.2 dX7_mediator_35
    · refine lv_if_ne (tgt := 22) hx hb dX7_mediator_17 (by decide) (fun c9 => absurd c9 (by decide)) (fun _ => ?_)
      refine lv_iconst (v := (-1)) hx hb dX7_mediator_20 (by decide) ?_
      exact W.iret (v := (-1)) hx hb hr (fun t ht hW => ⟨⟨(-1), v, rfl, ⟨hv, trivial⟩, by rw [ht]; exact hP, hD⟩, hS.F ht⟩) hS.2.2 dX7_mediator_21
  · refine lv_if_eq (tgt := 20) hx hb dX7_mediator_7 (by decide) (fun _ => ?_) (fun c9 => absurd c9 (by decide))
    refine lv_iconst (v := (-1)) hx hb dX7_mediator_20 (by decide) ?_
    exact W.iret (v := (-1)) hx hb hr (fun t ht hW => ⟨⟨(-1), v, rfl, ⟨hv, trivial⟩, by rw [ht]; exact hP, hD⟩, hS.F ht⟩) hS.2.2 dX7_mediator_21

set_option maxHeartbeats 4000000 in
set_option maxRecDepth 100000 in
theorem g_X7_rooms (l : Launch) (dC : Nat → ClassId) (dI : Nat → Nat → Nat) (cy : Nat → ClassId) (sz : Nat) (ad : Nat → Nat) (kv : Value) (N : Nat) (hN : 119 ≤ N) (v : Nat → Nat → Int32) (hv : Iv v)  (x0 : Int32) : Met l yX7_rooms wsX7_rooms ({ frames := 1, cells := 0, slots := 0, locals := 64 }) (va_Pc [.ref (ad 0), .int x0] (ex_Pre dC dI cy sz (wl ad kv cy N v))) (va_Qi (fun (r : Int32) (u : Nat → Nat → Int32) => Iv u ∧ True) (fun u t => ex_Pst dC dI (va_A (wl ad kv cy N v) sz) (wl ad kv cy N u) t) (va_A (wl ad kv cy N v) sz)) 0 0 (va_A (wl ad kv cy N v) sz) := by
  refine Met.ofW (cc := cX7_rooms) (maxL := 3) (ret := (some .int)) (by decide) rfl ?_
  intro p e s m args below meth c s₁ B hml hv
  obtain ⟨rfl, hsz, hE, hP, hK, hD0⟩ := hv
  have hx := B.exec
  have hb := B.bytes
  have hr := B.returns
  have hts := atoms_spec (ws := wsX7_rooms) B.pre
  have hown : s.vm.findClass RX7 = some m.cls := findClass_of_methodNamed B.named
  have hlocks := B.notSynchronized
  subst hsz
  have hD := hD0.self (sz := s.heap.size)
  generalize hAe : va_A (wl ad kv cy N v) s.heap.size = A at hD ⊢
  have hA : ∀ q : Nat, s.heap.size ≤ q → A q := fun q h => by rw [← hAe]; exact Or.inr h
  have hS : va_S A s.heap s.heap [] := va_S.rf
  have hP : va_P (dC, dI) vwCl (wl ad kv cy N v) s.heap := hP
  have hl := lv_entry ([.ref (ad 0), .int x0]) (n := 3) (Nat.le_of_ble_eq_true rfl)
  rw [lg_entry_eq]
  generalize (lg_sl ([.ref (ad 0), .int x0]) ++ List.replicate (3 - (lg_sl ([.ref (ad 0), .int x0])).length) Slot.unset).toArray = ls at hl ⊢
  have hl : lv_has ls 3 [(0, .ref (ad 0)), (1, .int x0)] := hl
  have hfr : Fr v v := Fr.rf
  refine lv_iload_n hx hb dX7_rooms_0 rfl (lv_at hl 1 rfl) ?_
  refine lv_iconst (v := 1) hx hb dX7_rooms_1 (by decide) ?_
  refine lv_iconst (v := 2) hx hb dX7_rooms_2 (by decide) ?_
  refine yc_p hP hS (va_runS (As := [.int x0, .int 1, .int 2]) (rest := []) ⟨hx, hb, hml, hown, hts⟩ (c_X7_isWithin l x0 1 2) (cwS 3 hts gX7_rooms_X7_isWithin rfl rfl rfl (by decide +kernel) ⟨Nat.le_of_ble_eq_true rfl, Nat.le_of_ble_eq_true rfl⟩) ex_preP rfl rfl hl.1 rfl (lv_room (Nat.le_of_ble_eq_true rfl)) dX7_rooms_3 ⟨Nat.le_of_ble_eq_true rfl, Nat.le_of_ble_eq_true rfl⟩) (fun r_1 H locs hw_1 hP hS => ?_)
  rcases wi_ca hw_1 with ⟨rfl, hc_2⟩ | ⟨rfl, hc_2⟩
  · have k_1 : (1 : Int32).toInt = 1 := by decide
    have k_2 : (2 : Int32).toInt = 2 := by decide
    have tc_2 := wi_tl hc_2
    refine lv_if_ne (tgt := 11) hx hb dX7_rooms_6 (by decide) (fun _ => ?_) (fun c9 => absurd c9 (by decide))
    refine lv_aload_n hx hb dX7_rooms_11 rfl (lv_at hl 0 rfl) ?_
    refine va_get (D := (dC, dI)) (ci := 7) (v := .int (v (0) 4)) (C := RX7) (T := TX7) (N := 5) hx hb hts (by decide +kernel) hown hK hP (0) (wl_at (by omega) (ce_0 (by decide))) rfl 4 (by decide) (hts (.fieldLink RX7 33 "QuietStairs" "roomCount" "I") (by decide +kernel)) (fun _ h9 => h9) rfl dX7_rooms_12 ?_
    refine lv_topi (fun x_3 ex_3 => ?_)
    refine lv_istore_n (lv' := [(2, .int x_3), (0, .ref (ad 0)), (1, .int x0)]) hx hb dX7_rooms_15 rfl hl (by decide) rfl (fun ls hl => ?_)
    refine lv_aload_n hx hb dX7_rooms_16 rfl (lv_at hl 1 rfl) ?_
    refine lv_iload_n hx hb dX7_rooms_17 rfl (lv_at hl 2 rfl) ?_
    refine va_put (D := (dC, dI)) (ci := 7) (v := .int x0) (ty := .int) (C := RX7) (T := TX7) (N := 5) hx hb hts (by decide +kernel) tyX7 tyX7_ok nmX7 hown hK hP hD hS (0) (wl_at (by omega) (ce_0 (by decide))) rfl 4 (by decide) (hts (.fieldLink RX7 33 "QuietStairs" "roomCount" "I") (by decide +kernel)) (fun _ h9 => h9) rfl (by decide +kernel) rfl rfl (Nat.le_of_ble_eq_true rfl) dX7_rooms_18 (fun H locs hP hD hS => ?_)
    obtain ⟨v_4, ev_4⟩ : ∃ u : Nat → Nat → Int32, u = upr v (0) (upd (v (0)) 4 x0) := ⟨_, rfl⟩
    have hP : va_P (dC, dI) vwCl (wl ad kv cy N v_4) H := by rw [ev_4, ← wl_put (e := _) (ce_0 (by decide))]; exact hP
    have hD : va_D A (wl ad kv cy N v_4) := by rw [ev_4, ← wl_put (e := _) (ce_0 (by decide))]; exact hD
    have hv : Iv v_4 := by rw [ev_4]; exact hv.put (K := 0) (by decide) (fun h q => by simp [bd] at q)
    refine lv_iload_n hx hb dX7_rooms_21 rfl (lv_at hl 0 rfl) ?_
    exact W.iret (v := x_3) hx hb hr (fun t ht hW => ⟨⟨x_3, v_4, rfl, ⟨hv, trivial⟩, by rw [ht]; exact hP, hD⟩, hS.F ht⟩) hS.2.2 dX7_rooms_22
  · refine lv_if_ne (tgt := 11) hx hb dX7_rooms_6 (by decide) (fun c9 => absurd c9 (by decide)) (fun _ => ?_)
    refine lv_iconst (v := (-1)) hx hb dX7_rooms_9 (by decide) ?_
    exact W.iret (v := (-1)) hx hb hr (fun t ht hW => ⟨⟨(-1), v, rfl, ⟨hv, trivial⟩, by rw [ht]; exact hP, hD⟩, hS.F ht⟩) hS.2.2 dX7_rooms_10

set_option maxHeartbeats 4000000 in
set_option maxRecDepth 100000 in
theorem g_X7_kin (l : Launch) (dC : Nat → ClassId) (dI : Nat → Nat → Nat) (cy : Nat → ClassId) (sz : Nat) (ad : Nat → Nat) (kv : Value) (N : Nat) (hN : 119 ≤ N) (v : Nat → Nat → Int32) (hv : Iv v)  (x0 x1 x2 : Int32) : Met l yX7_kin wsX7_kin ({ frames := 2, cells := 0, slots := 0, locals := 128 }) (va_Pc [.ref (ad 0), .int x0, .int x1, .int x2] (ex_Pre dC dI cy sz (wl ad kv cy N v))) (va_Qi (fun (r : Int32) (u : Nat → Nat → Int32) => Iv u ∧ Fr v u) (fun u t => ex_Pst dC dI (va_A (wl ad kv cy N v) sz) (wl ad kv cy N u) t) (va_A (wl ad kv cy N v) sz)) 0 0 (va_A (wl ad kv cy N v) sz) := by
  refine Met.ofW (cc := cX7_kin) (maxL := 5) (ret := (some .int)) (by decide) rfl ?_
  intro p e s m args below meth c s₁ B hml hv
  obtain ⟨rfl, hsz, hE, hP, hK, hD0⟩ := hv
  have hx := B.exec
  have hb := B.bytes
  have hr := B.returns
  have hts := atoms_spec (ws := wsX7_kin) B.pre
  have hown : s.vm.findClass RX7 = some m.cls := findClass_of_methodNamed B.named
  have hlocks := B.notSynchronized
  subst hsz
  have hD := hD0.self (sz := s.heap.size)
  generalize hAe : va_A (wl ad kv cy N v) s.heap.size = A at hD ⊢
  have hA : ∀ q : Nat, s.heap.size ≤ q → A q := fun q h => by rw [← hAe]; exact Or.inr h
  have hS : va_S A s.heap s.heap [] := va_S.rf
  have hP : va_P (dC, dI) vwCl (wl ad kv cy N v) s.heap := hP
  have hl := lv_entry ([.ref (ad 0), .int x0, .int x1, .int x2]) (n := 5) (Nat.le_of_ble_eq_true rfl)
  rw [lg_entry_eq]
  generalize (lg_sl ([.ref (ad 0), .int x0, .int x1, .int x2]) ++ List.replicate (5 - (lg_sl ([.ref (ad 0), .int x0, .int x1, .int x2])).length) Slot.unset).toArray = ls at hl ⊢
  have hl : lv_has ls 5 [(0, .ref (ad 0)), (1, .int x0), (2, .int x1), (3, .int x2)] := hl
  have hfr : Fr v v := Fr.rf
  refine lv_aload_n hx hb dX7_kin_0 rfl (lv_at hl 0 rfl) ?_
  refine lv_iload_n hx hb dX7_kin_1 rfl (lv_at hl 1 rfl) ?_
  refine yw_i (w1 := fun (u : Nat → Nat → Int32) => wl ad kv cy N u) hD hS hA (va_runV (As := [.int x0]) (rest := []) ⟨hx, hb, hml, hown, hts⟩ (g_X7_isMediator l dC dI cy _ ad kv N hN v hv x0) (cwV 1 hts gX7_kin_X7_isMediator rfl rfl rfl (by decide +kernel) ⟨Nat.le_of_ble_eq_true rfl, Nat.le_of_ble_eq_true rfl⟩) (yw_preV hE hK hP hD (ci := 7) (q0 := 0) rfl (wl_at (by omega) (ce_0 (by decide)))) rfl rfl hl.1 rfl (lv_room (Nat.le_of_ble_eq_true rfl)) dX7_kin_2 ⟨Nat.le_of_ble_eq_true rfl, Nat.le_of_ble_eq_true rfl⟩) (fun r_1 v_1 H locs hw_1 hP hD hS => ?_)
  obtain ⟨hv, hw_1⟩ := hw_1
  obtain ⟨hu_1, hw_1⟩ := hw_1
  have hfr : Fr v v_1 := by rw [hu_1]; exact hfr
  rcases hw_1 with ⟨rfl, ha_2⟩ | ⟨rfl, -⟩
  · have hb_2 := hv.at (k := 13) (j := 1) (K := 3) (by decide) rfl
    have hb_2 : 0 ≤ x0.toInt ∧ x0.toInt < 4 := by omega
    refine lv_if_eq (tgt := 16) hx hb dX7_kin_5 (by decide) (fun c9 => absurd c9 (by decide)) (fun _ => ?_)
    refine lv_aload_n hx hb dX7_kin_8 rfl (lv_at hl 0 rfl) ?_
    refine lv_iload_n hx hb dX7_kin_9 rfl (lv_at hl 2 rfl) ?_
    refine yw_i (w1 := fun (u : Nat → Nat → Int32) => wl ad kv cy N u) hD hS hA (va_runV (As := [.int x1]) (rest := []) ⟨hx, hb, hml, hown, hts⟩ (g_X7_isParty l dC dI cy _ ad kv N hN v_1 hv x1) (cwV 1 hts gX7_kin_X7_isParty rfl rfl rfl (by decide +kernel) ⟨Nat.le_of_ble_eq_true rfl, Nat.le_of_ble_eq_true rfl⟩) (yw_preV hE hK hP hD (ci := 7) (q0 := 0) rfl (wl_at (by omega) (ce_0 (by decide)))) rfl rfl hl.1 rfl (lv_room (Nat.le_of_ble_eq_true rfl)) dX7_kin_10 ⟨Nat.le_of_ble_eq_true rfl, Nat.le_of_ble_eq_true rfl⟩) (fun r_3 v_3 H locs hw_3 hP hD hS => ?_)
    obtain ⟨hv, hw_3⟩ := hw_3
    obtain ⟨hu_3, hw_3⟩ := hw_3
    have hfr : Fr v v_3 := by rw [hu_3]; exact hfr
    rcases hw_3 with ⟨rfl, ha_4⟩ | ⟨rfl, -⟩
    · have hb_4 := hv.at (k := 13) (j := 0) (K := 3) (by decide) rfl
      have hb_4 : 0 ≤ x1.toInt ∧ x1.toInt < 8 := by omega
      refine lv_if_ne (tgt := 18) hx hb dX7_kin_13 (by decide) (fun _ => ?_) (fun c9 => absurd c9 (by decide))
      refine lv_aload_n hx hb dX7_kin_18 rfl (lv_at hl 0 rfl) ?_
      refine va_get (D := (dC, dI)) (ci := 7) (v := .ref (ad 13)) (C := RX7) (T := TX7) (N := 5) hx hb hts (by decide +kernel) hown hK hP (0) (wl_at (by omega) (ce_0 (by decide))) rfl 0 (by decide) (hts (.fieldLink RX7 12 "QuietStairs" "now" "LQuietStairs$House;") (by decide +kernel)) (fun _ h9 => h9) rfl dX7_kin_19 ?_
      refine va_get (D := (dC, dI)) (ci := 1) (v := .ref (ad 15)) (C := RX1) (T := TX1) (N := 7) hx hb hts (by decide +kernel) hown hK hP (13) (wl_at (by omega) (ce_3 (by decide))) rfl 5 (by decide) (hts (.fieldLink RX7 59 "QuietStairs$House" "mediators" "[LQuietStairs$Mediator;") (by decide +kernel)) (fun _ h9 => h9) rfl dX7_kin_22 ?_
      refine lv_iload_n hx hb dX7_kin_25 rfl (lv_at hl 1 rfl) ?_
      obtain ⟨pi5, i5, hi5, ni5, mi5⟩ := t_in (x := x0) (n := 4) ⟨by omega, by omega⟩
      refine va_aldq hx hb hK hP (15) 2 (wl_at (by omega) (ce_5 (by decide))) rfl pi5 dX7_kin_26 ?_
      refine W.eq (g2 := F0 m 27 ls [.ref (ad (25 + i5))]) (by rw [ni5, if_pos hi5, show 15 + 10 + i5 = 25 + i5 from by omega]; rfl) ?_
      refine lv_astore (lv' := [(4, .ref (ad (25 + i5))), (0, .ref (ad 0)), (1, .int x0), (2, .int x1), (3, .int x2)]) hx hb dX7_kin_27 hl (by decide) rfl (fun ls hl => ?_)
      refine lv_aload hx hb dX7_kin_29 (lv_at hl 0 rfl) ?_
      refine va_get (D := (dC, dI)) (ci := 2) (v := .int (v_3 (25 + i5) 2)) (C := RX2) (T := TX2) (N := 3) hx hb hts (by decide +kernel) hown hK hP (25 + i5) (wl_at (by omega) (ce_8 (kd_m i5 hi5).1)) rfl 2 (by decide) (hts (.fieldLink RX7 69 "QuietStairs$Mediator" "kinBits" "I") (by decide +kernel)) (fun _ h9 => h9) rfl dX7_kin_31 ?_
      refine lv_topi (fun x_6 ex_6 => ?_)
      refine lv_iload_n hx hb dX7_kin_34 rfl (lv_at hl 3 rfl) ?_
      refine yc_p hP hS (va_runS (As := [.int x_6, .int x1]) (rest := []) ⟨hx, hb, hml, hown, hts⟩ (c_X7_hasBit l x_6 x1) (cwS 2 hts gX7_kin_X7_hasBit rfl rfl rfl (by decide +kernel) ⟨Nat.le_of_ble_eq_true rfl, Nat.le_of_ble_eq_true rfl⟩) ex_preP rfl rfl hl.1 rfl (lv_room (Nat.le_of_ble_eq_true rfl)) dX7_kin_35 ⟨Nat.le_of_ble_eq_true rfl, Nat.le_of_ble_eq_true rfl⟩) (fun r_7 H locs hw_7 hP hS => ?_)
      rcases hw_7 with rfl | rfl
      · refine lv_iload_n hx hb dX7_kin_38 rfl (lv_at hl 4 rfl) ?_
        have k_0 : (0 : Int32).toInt = 0 := by decide
        refine lv_icmp_ne (tgt := 44) hx hb dX7_kin_39 (by decide) (fun c_8 => ?_) (fun c_8 => ?_)
        · have tc_8 : (0 : Int32).toInt ≠ x2.toInt := fun q => absurd (Int32.toInt_inj.mp q) c_8
          refine lv_aload hx hb dX7_kin_44 (lv_at hl 0 rfl) ?_
          refine lv_dup hx hb dX7_kin_46 rfl ?_
          refine va_get (D := (dC, dI)) (ci := 2) (v := .int (v_3 (25 + i5) 2)) (C := RX2) (T := TX2) (N := 3) hx hb hts (by decide +kernel) hown hK hP (25 + i5) (wl_at (by omega) (ce_8 (kd_m i5 hi5).1)) rfl 2 (by decide) (hts (.fieldLink RX7 69 "QuietStairs$Mediator" "kinBits" "I") (by decide +kernel)) (fun _ h9 => h9) rfl dX7_kin_47 ?_
          refine lv_topi (fun x_9 ex_9 => ?_)
          rw [← ex_6] at ex_9; replace ex_9 := ex_9.symm; subst ex_9
          refine lv_iconst (v := 1) hx hb dX7_kin_50 (by decide) ?_
          refine lv_iload_n hx hb dX7_kin_51 rfl (lv_at hl 3 rfl) ?_
          refine lv_ishl hx hb dX7_kin_52 ?_
          refine lv_topi (fun x_10 ex_10 => ?_)
          refine lv_ixor hx hb dX7_kin_53 ?_
          refine lv_topi (fun x_11 ex_11 => ?_)
          refine va_put (D := (dC, dI)) (ci := 2) (v := .int x_11) (ty := .int) (C := RX2) (T := TX2) (N := 3) hx hb hts (by decide +kernel) tyX2 tyX2_ok nmX2 hown hK hP hD hS (25 + i5) (wl_at (by omega) (ce_8 (kd_m i5 hi5).1)) rfl 2 (by decide) (hts (.fieldLink RX7 69 "QuietStairs$Mediator" "kinBits" "I") (by decide +kernel)) (fun _ h9 => h9) rfl (by decide +kernel) rfl rfl (Nat.le_of_ble_eq_true rfl) dX7_kin_54 (fun H locs hP hD hS => ?_)
          obtain ⟨v_12, ev_12⟩ : ∃ u : Nat → Nat → Int32, u = upr v_3 (25 + i5) (upd (v_3 (25 + i5)) 2 x_11) := ⟨_, rfl⟩
          have hP : va_P (dC, dI) vwCl (wl ad kv cy N v_12) H := by rw [ev_12, ← wl_put (e := _) (ce_8 (kd_m i5 hi5).1)]; exact hP
          have hD : va_D A (wl ad kv cy N v_12) := by rw [ev_12, ← wl_put (e := _) (ce_8 (kd_m i5 hi5).1)]; exact hD
          have hv : Iv v_12 := by rw [ev_12]; exact hv.put (K := 8) (kd_m i5 hi5).1 (fun h q => by simp [bd] at q)
          have hfr : Fr v v_12 := by rw [ev_12]; exact hfr.put (by omega) (by omega) (by omega)
          refine lv_iconst (v := 1) hx hb dX7_kin_57 (by decide) ?_
          exact W.iret (v := 1) hx hb hr (fun t ht hW => ⟨⟨1, v_12, rfl, ⟨hv, hfr⟩, by rw [ht]; exact hP, hD⟩, hS.F ht⟩) hS.2.2 dX7_kin_58
        · have tc_8 : (0 : Int32).toInt = x2.toInt := by rw [c_8]
          refine lv_iconst (v := 0) hx hb dX7_kin_42 (by decide) ?_
          exact W.iret (v := 0) hx hb hr (fun t ht hW => ⟨⟨0, v_3, rfl, ⟨hv, hfr⟩, by rw [ht]; exact hP, hD⟩, hS.F ht⟩) hS.2.2 dX7_kin_43
      · refine lv_iload_n hx hb dX7_kin_38 rfl (lv_at hl 4 rfl) ?_
        have k_1 : (1 : Int32).toInt = 1 := by decide
        refine lv_icmp_ne (tgt := 44) hx hb dX7_kin_39 (by decide) (fun c_8 => ?_) (fun c_8 => ?_)
        · have tc_8 : (1 : Int32).toInt ≠ x2.toInt := fun q => absurd (Int32.toInt_inj.mp q) c_8
          refine lv_aload hx hb dX7_kin_44 (lv_at hl 0 rfl) ?_
          refine lv_dup hx hb dX7_kin_46 rfl ?_
          refine va_get (D := (dC, dI)) (ci := 2) (v := .int (v_3 (25 + i5) 2)) (C := RX2) (T := TX2) (N := 3) hx hb hts (by decide +kernel) hown hK hP (25 + i5) (wl_at (by omega) (ce_8 (kd_m i5 hi5).1)) rfl 2 (by decide) (hts (.fieldLink RX7 69 "QuietStairs$Mediator" "kinBits" "I") (by decide +kernel)) (fun _ h9 => h9) rfl dX7_kin_47 ?_
          refine lv_topi (fun x_9 ex_9 => ?_)
          rw [← ex_6] at ex_9; replace ex_9 := ex_9.symm; subst ex_9
          refine lv_iconst (v := 1) hx hb dX7_kin_50 (by decide) ?_
          refine lv_iload_n hx hb dX7_kin_51 rfl (lv_at hl 3 rfl) ?_
          refine lv_ishl hx hb dX7_kin_52 ?_
          refine lv_topi (fun x_10 ex_10 => ?_)
          refine lv_ixor hx hb dX7_kin_53 ?_
          refine lv_topi (fun x_11 ex_11 => ?_)
          refine va_put (D := (dC, dI)) (ci := 2) (v := .int x_11) (ty := .int) (C := RX2) (T := TX2) (N := 3) hx hb hts (by decide +kernel) tyX2 tyX2_ok nmX2 hown hK hP hD hS (25 + i5) (wl_at (by omega) (ce_8 (kd_m i5 hi5).1)) rfl 2 (by decide) (hts (.fieldLink RX7 69 "QuietStairs$Mediator" "kinBits" "I") (by decide +kernel)) (fun _ h9 => h9) rfl (by decide +kernel) rfl rfl (Nat.le_of_ble_eq_true rfl) dX7_kin_54 (fun H locs hP hD hS => ?_)
          obtain ⟨v_12, ev_12⟩ : ∃ u : Nat → Nat → Int32, u = upr v_3 (25 + i5) (upd (v_3 (25 + i5)) 2 x_11) := ⟨_, rfl⟩
          have hP : va_P (dC, dI) vwCl (wl ad kv cy N v_12) H := by rw [ev_12, ← wl_put (e := _) (ce_8 (kd_m i5 hi5).1)]; exact hP
          have hD : va_D A (wl ad kv cy N v_12) := by rw [ev_12, ← wl_put (e := _) (ce_8 (kd_m i5 hi5).1)]; exact hD
          have hv : Iv v_12 := by rw [ev_12]; exact hv.put (K := 8) (kd_m i5 hi5).1 (fun h q => by simp [bd] at q)
          have hfr : Fr v v_12 := by rw [ev_12]; exact hfr.put (by omega) (by omega) (by omega)
          refine lv_iconst (v := 1) hx hb dX7_kin_57 (by decide) ?_
          exact W.iret (v := 1) hx hb hr (fun t ht hW => ⟨⟨1, v_12, rfl, ⟨hv, hfr⟩, by rw [ht]; exact hP, hD⟩, hS.F ht⟩) hS.2.2 dX7_kin_58
        · have tc_8 : (1 : Int32).toInt = x2.toInt := by rw [c_8]
          refine lv_iconst (v := 0) hx hb dX7_kin_42 (by decide) ?_
          exact W.iret (v := 0) hx hb hr (fun t ht hW => ⟨⟨0, v_3, rfl, ⟨hv, hfr⟩, by rw [ht]; exact hP, hD⟩, hS.F ht⟩) hS.2.2 dX7_kin_43
    · refine lv_if_ne (tgt := 18) hx hb dX7_kin_13 (by decide) (fun c9 => absurd c9 (by decide)) (fun _ => ?_)
      refine lv_iconst (v := (-1)) hx hb dX7_kin_16 (by decide) ?_
      exact W.iret (v := (-1)) hx hb hr (fun t ht hW => ⟨⟨(-1), v_3, rfl, ⟨hv, hfr⟩, by rw [ht]; exact hP, hD⟩, hS.F ht⟩) hS.2.2 dX7_kin_17
  · refine lv_if_eq (tgt := 16) hx hb dX7_kin_5 (by decide) (fun _ => ?_) (fun c9 => absurd c9 (by decide))
    refine lv_iconst (v := (-1)) hx hb dX7_kin_16 (by decide) ?_
    exact W.iret (v := (-1)) hx hb hr (fun t ht hW => ⟨⟨(-1), v_1, rfl, ⟨hv, hfr⟩, by rw [ht]; exact hP, hD⟩, hS.F ht⟩) hS.2.2 dX7_kin_17

set_option maxHeartbeats 4000000 in
set_option maxRecDepth 100000 in
theorem g_X7_mark (l : Launch) (dC : Nat → ClassId) (dI : Nat → Nat → Nat) (cy : Nat → ClassId) (sz : Nat) (ad : Nat → Nat) (kv : Value) (N : Nat) (hN : 119 ≤ N) (v : Nat → Nat → Int32) (hv : Iv v)  (x0 x1 : Int32) : Met l yX7_mark wsX7_mark ({ frames := 2, cells := 0, slots := 0, locals := 128 }) (va_Pc [.ref (ad 0), .int x0, .int x1] (ex_Pre dC dI cy sz (wl ad kv cy N v))) (va_Qi (fun (r : Int32) (u : Nat → Nat → Int32) => Iv u ∧ Fr v u) (fun u t => ex_Pst dC dI (va_A (wl ad kv cy N v) sz) (wl ad kv cy N u) t) (va_A (wl ad kv cy N v) sz)) 0 0 (va_A (wl ad kv cy N v) sz) := by
  refine Met.ofW (cc := cX7_mark) (maxL := 3) (ret := (some .int)) (by decide) rfl ?_
  intro p e s m args below meth c s₁ B hml hv
  obtain ⟨rfl, hsz, hE, hP, hK, hD0⟩ := hv
  have hx := B.exec
  have hb := B.bytes
  have hr := B.returns
  have hts := atoms_spec (ws := wsX7_mark) B.pre
  have hown : s.vm.findClass RX7 = some m.cls := findClass_of_methodNamed B.named
  have hlocks := B.notSynchronized
  subst hsz
  have hD := hD0.self (sz := s.heap.size)
  generalize hAe : va_A (wl ad kv cy N v) s.heap.size = A at hD ⊢
  have hA : ∀ q : Nat, s.heap.size ≤ q → A q := fun q h => by rw [← hAe]; exact Or.inr h
  have hS : va_S A s.heap s.heap [] := va_S.rf
  have hP : va_P (dC, dI) vwCl (wl ad kv cy N v) s.heap := hP
  have hl := lv_entry ([.ref (ad 0), .int x0, .int x1]) (n := 3) (Nat.le_of_ble_eq_true rfl)
  rw [lg_entry_eq]
  generalize (lg_sl ([.ref (ad 0), .int x0, .int x1]) ++ List.replicate (3 - (lg_sl ([.ref (ad 0), .int x0, .int x1])).length) Slot.unset).toArray = ls at hl ⊢
  have hl : lv_has ls 3 [(0, .ref (ad 0)), (1, .int x0), (2, .int x1)] := hl
  have hfr : Fr v v := Fr.rf
  refine lv_aload_n hx hb dX7_mark_0 rfl (lv_at hl 0 rfl) ?_
  refine lv_iload_n hx hb dX7_mark_1 rfl (lv_at hl 1 rfl) ?_
  refine yw_i (w1 := fun (u : Nat → Nat → Int32) => wl ad kv cy N u) hD hS hA (va_runV (As := [.int x0]) (rest := []) ⟨hx, hb, hml, hown, hts⟩ (g_X7_isCase l dC dI cy _ ad kv N hN v hv x0) (cwV 1 hts gX7_mark_X7_isCase rfl rfl rfl (by decide +kernel) ⟨Nat.le_of_ble_eq_true rfl, Nat.le_of_ble_eq_true rfl⟩) (yw_preV hE hK hP hD (ci := 7) (q0 := 0) rfl (wl_at (by omega) (ce_0 (by decide)))) rfl rfl hl.1 rfl (lv_room (Nat.le_of_ble_eq_true rfl)) dX7_mark_2 ⟨Nat.le_of_ble_eq_true rfl, Nat.le_of_ble_eq_true rfl⟩) (fun r_1 v_1 H locs hw_1 hP hD hS => ?_)
  obtain ⟨hv, hw_1⟩ := hw_1
  obtain ⟨hu_1, hw_1⟩ := hw_1
  have hfr : Fr v v_1 := by rw [hu_1]; exact hfr
  rcases hw_1 with ⟨rfl, ha_2⟩ | ⟨rfl, -⟩
  · have hb_2 := hv.at (k := 13) (j := 2) (K := 3) (by decide) rfl
    have hb_2 : 0 ≤ x0.toInt ∧ x0.toInt < 6 := by omega
    refine lv_if_eq (tgt := 21) hx hb dX7_mark_5 (by decide) (fun c9 => absurd c9 (by decide)) (fun _ => ?_)
    refine lv_aload_n hx hb dX7_mark_8 rfl (lv_at hl 0 rfl) ?_
    refine lv_iload_n hx hb dX7_mark_9 rfl (lv_at hl 2 rfl) ?_
    refine yw_i (w1 := fun (u : Nat → Nat → Int32) => wl ad kv cy N u) hD hS hA (va_runV (As := [.int x1]) (rest := []) ⟨hx, hb, hml, hown, hts⟩ (g_X7_isCase l dC dI cy _ ad kv N hN v_1 hv x1) (cwV 1 hts gX7_mark_X7_isCase rfl rfl rfl (by decide +kernel) ⟨Nat.le_of_ble_eq_true rfl, Nat.le_of_ble_eq_true rfl⟩) (yw_preV hE hK hP hD (ci := 7) (q0 := 0) rfl (wl_at (by omega) (ce_0 (by decide)))) rfl rfl hl.1 rfl (lv_room (Nat.le_of_ble_eq_true rfl)) dX7_mark_10 ⟨Nat.le_of_ble_eq_true rfl, Nat.le_of_ble_eq_true rfl⟩) (fun r_3 v_3 H locs hw_3 hP hD hS => ?_)
    obtain ⟨hv, hw_3⟩ := hw_3
    obtain ⟨hu_3, hw_3⟩ := hw_3
    have hfr : Fr v v_3 := by rw [hu_3]; exact hfr
    rcases hw_3 with ⟨rfl, ha_4⟩ | ⟨rfl, -⟩
    · have hb_4 := hv.at (k := 13) (j := 2) (K := 3) (by decide) rfl
      have hb_4 : 0 ≤ x1.toInt ∧ x1.toInt < 6 := by omega
      refine lv_if_eq (tgt := 21) hx hb dX7_mark_13 (by decide) (fun c9 => absurd c9 (by decide)) (fun _ => ?_)
      refine lv_iload_n hx hb dX7_mark_16 rfl (lv_at hl 1 rfl) ?_
      refine lv_iload_n hx hb dX7_mark_17 rfl (lv_at hl 2 rfl) ?_
      refine lv_icmp_ne (tgt := 23) hx hb dX7_mark_18 (by decide) (fun c_5 => ?_) (fun c_5 => ?_)
      · have tc_5 : x0.toInt ≠ x1.toInt := fun q => absurd (Int32.toInt_inj.mp q) c_5
        refine lv_aload_n hx hb dX7_mark_23 rfl (lv_at hl 0 rfl) ?_
        refine va_get (D := (dC, dI)) (ci := 7) (v := .ref (ad 13)) (C := RX7) (T := TX7) (N := 5) hx hb hts (by decide +kernel) hown hK hP (0) (wl_at (by omega) (ce_0 (by decide))) rfl 0 (by decide) (hts (.fieldLink RX7 12 "QuietStairs" "now" "LQuietStairs$House;") (by decide +kernel)) (fun _ h9 => h9) rfl dX7_mark_24 ?_
        refine va_get (D := (dC, dI)) (ci := 1) (v := .ref (ad 16)) (C := RX1) (T := TX1) (N := 7) hx hb hts (by decide +kernel) hown hK hP (13) (wl_at (by omega) (ce_3 (by decide))) rfl 6 (by decide) (hts (.fieldLink RX7 86 "QuietStairs$House" "cases" "[LQuietStairs$Case;") (by decide +kernel)) (fun _ h9 => h9) rfl dX7_mark_27 ?_
        refine lv_iload_n hx hb dX7_mark_30 rfl (lv_at hl 1 rfl) ?_
        obtain ⟨pi6, i6, hi6, ni6, mi6⟩ := t_in (x := x0) (n := 6) ⟨by omega, by omega⟩
        refine va_aldq hx hb hK hP (16) 3 (wl_at (by omega) (ce_6 (by decide))) rfl pi6 dX7_mark_31 ?_
        refine W.eq (g2 := F0 m 32 ls [.ref (ad (29 + 15 * i6))]) (by rw [ni6, if_pos hi6, show 16 + 13 + 15 * i6 = 29 + 15 * i6 from by omega]; rfl) ?_
        refine va_get (D := (dC, dI)) (ci := 0) (v := .int (v_3 (29 + 15 * i6) 4)) (C := RX0) (T := TX0) (N := 11) hx hb hts (by decide +kernel) hown hK hP (29 + 15 * i6) (wl_at (by omega) (ce_9 (kd_c i6 hi6).1.1)) rfl 4 (by decide) (hts (.fieldLink RX7 105 "QuietStairs$Case" "markedBits" "I") (by decide +kernel)) (fun _ h9 => h9) rfl dX7_mark_32 ?_
        refine lv_topi (fun x_7 ex_7 => ?_)
        refine lv_iload_n hx hb dX7_mark_35 rfl (lv_at hl 2 rfl) ?_
        refine yc_p hP hS (va_runS (As := [.int x_7, .int x1]) (rest := []) ⟨hx, hb, hml, hown, hts⟩ (c_X7_hasBit l x_7 x1) (cwS 2 hts gX7_mark_X7_hasBit rfl rfl rfl (by decide +kernel) ⟨Nat.le_of_ble_eq_true rfl, Nat.le_of_ble_eq_true rfl⟩) ex_preP rfl rfl hl.1 rfl (lv_room (Nat.le_of_ble_eq_true rfl)) dX7_mark_36 ⟨Nat.le_of_ble_eq_true rfl, Nat.le_of_ble_eq_true rfl⟩) (fun r_8 H locs hw_8 hP hS => ?_)
        rcases hw_8 with rfl | rfl
        · refine lv_if_eq (tgt := 45) hx hb dX7_mark_39 (by decide) (fun _ => ?_) (fun c9 => absurd c9 (by decide))
          refine lv_aload_n hx hb dX7_mark_45 rfl (lv_at hl 0 rfl) ?_
          refine va_get (D := (dC, dI)) (ci := 7) (v := .ref (ad 13)) (C := RX7) (T := TX7) (N := 5) hx hb hts (by decide +kernel) hown hK hP (0) (wl_at (by omega) (ce_0 (by decide))) rfl 0 (by decide) (hts (.fieldLink RX7 12 "QuietStairs" "now" "LQuietStairs$House;") (by decide +kernel)) (fun _ h9 => h9) rfl dX7_mark_46 ?_
          refine va_get (D := (dC, dI)) (ci := 1) (v := .int (v_3 (13) 3)) (C := RX1) (T := TX1) (N := 7) hx hb hts (by decide +kernel) hown hK hP (13) (wl_at (by omega) (ce_3 (by decide))) rfl 3 (by decide) (hts (.fieldLink RX7 108 "QuietStairs$House" "markCount" "I") (by decide +kernel)) (fun _ h9 => h9) rfl dX7_mark_49 ?_
          refine lv_topi (fun x_9 ex_9 => ?_)
          have bx_9 : 0 ≤ x_9.toInt ∧ x_9.toInt ≤ 6 := by rw [ex_9]; exact hv.at (K := 3) (by decide) rfl
          refine lv_bipush (v := 6) hx hb dX7_mark_52 (by decide) ?_
          have k_6 : (6 : Int32).toInt = 6 := by decide
          refine lv_icmp_lt (tgt := 60) hx hb dX7_mark_54 (by decide) (fun c_10 => ?_) (fun c_10 => ?_)
          · have tc_10 : x_9.toInt < (6 : Int32).toInt := Int32.lt_iff_toInt_lt.mp c_10
            refine lv_aload_n hx hb dX7_mark_60 rfl (lv_at hl 0 rfl) ?_
            refine va_get (D := (dC, dI)) (ci := 7) (v := .ref (ad 13)) (C := RX7) (T := TX7) (N := 5) hx hb hts (by decide +kernel) hown hK hP (0) (wl_at (by omega) (ce_0 (by decide))) rfl 0 (by decide) (hts (.fieldLink RX7 12 "QuietStairs" "now" "LQuietStairs$House;") (by decide +kernel)) (fun _ h9 => h9) rfl dX7_mark_61 ?_
            refine va_get (D := (dC, dI)) (ci := 1) (v := .ref (ad 16)) (C := RX1) (T := TX1) (N := 7) hx hb hts (by decide +kernel) hown hK hP (13) (wl_at (by omega) (ce_3 (by decide))) rfl 6 (by decide) (hts (.fieldLink RX7 86 "QuietStairs$House" "cases" "[LQuietStairs$Case;") (by decide +kernel)) (fun _ h9 => h9) rfl dX7_mark_64 ?_
            refine lv_iload_n hx hb dX7_mark_67 rfl (lv_at hl 1 rfl) ?_
            refine va_aldq hx hb hK hP (16) 3 (wl_at (by omega) (ce_6 (by decide))) rfl pi6 dX7_mark_68 ?_
            refine W.eq (g2 := F0 m 69 ls [.ref (ad (29 + 15 * i6))]) (by rw [ni6, if_pos hi6, show 16 + 13 + 15 * i6 = 29 + 15 * i6 from by omega]; rfl) ?_
            refine lv_dup hx hb dX7_mark_69 rfl ?_
            refine va_get (D := (dC, dI)) (ci := 0) (v := .int (v_3 (29 + 15 * i6) 4)) (C := RX0) (T := TX0) (N := 11) hx hb hts (by decide +kernel) hown hK hP (29 + 15 * i6) (wl_at (by omega) (ce_9 (kd_c i6 hi6).1.1)) rfl 4 (by decide) (hts (.fieldLink RX7 105 "QuietStairs$Case" "markedBits" "I") (by decide +kernel)) (fun _ h9 => h9) rfl dX7_mark_70 ?_
            refine lv_topi (fun x_11 ex_11 => ?_)
            rw [← ex_7] at ex_11; replace ex_11 := ex_11.symm; subst ex_11
            refine lv_iconst (v := 1) hx hb dX7_mark_73 (by decide) ?_
            refine lv_iload_n hx hb dX7_mark_74 rfl (lv_at hl 2 rfl) ?_
            refine lv_ishl hx hb dX7_mark_75 ?_
            refine lv_topi (fun x_12 ex_12 => ?_)
            have tx_12 : 1 ≤ x_12.toInt ∧ x_12.toInt ≤ 32 := by rw [ex_12]; exact t_shl ⟨by omega, by omega⟩
            refine lv_ior hx hb dX7_mark_76 ?_
            refine lv_topi (fun x_13 ex_13 => ?_)
            refine va_put (D := (dC, dI)) (ci := 0) (v := .int x_13) (ty := .int) (C := RX0) (T := TX0) (N := 11) hx hb hts (by decide +kernel) tyX0 tyX0_ok nmX0 hown hK hP hD hS (29 + 15 * i6) (wl_at (by omega) (ce_9 (kd_c i6 hi6).1.1)) rfl 4 (by decide) (hts (.fieldLink RX7 105 "QuietStairs$Case" "markedBits" "I") (by decide +kernel)) (fun _ h9 => h9) rfl (by decide +kernel) rfl rfl (Nat.le_of_ble_eq_true rfl) dX7_mark_77 (fun H locs hP hD hS => ?_)
            obtain ⟨v_14, ev_14⟩ : ∃ u : Nat → Nat → Int32, u = upr v_3 (29 + 15 * i6) (upd (v_3 (29 + 15 * i6)) 4 x_13) := ⟨_, rfl⟩
            have hP : va_P (dC, dI) vwCl (wl ad kv cy N v_14) H := by rw [ev_14, ← wl_put (e := _) (ce_9 (kd_c i6 hi6).1.1)]; exact hP
            have hD : va_D A (wl ad kv cy N v_14) := by rw [ev_14, ← wl_put (e := _) (ce_9 (kd_c i6 hi6).1.1)]; exact hD
            have hv : Iv v_14 := by rw [ev_14]; exact hv.put (K := 9) (kd_c i6 hi6).1.1 (fun h q => by simp [bd] at q)
            have hfr : Fr v v_14 := by rw [ev_14]; exact hfr.put (by omega) (by omega) (by omega)
            refine lv_aload_n hx hb dX7_mark_80 rfl (lv_at hl 0 rfl) ?_
            refine va_get (D := (dC, dI)) (ci := 7) (v := .ref (ad 13)) (C := RX7) (T := TX7) (N := 5) hx hb hts (by decide +kernel) hown hK hP (0) (wl_at (by omega) (ce_0 (by decide))) rfl 0 (by decide) (hts (.fieldLink RX7 12 "QuietStairs" "now" "LQuietStairs$House;") (by decide +kernel)) (fun _ h9 => h9) rfl dX7_mark_81 ?_
            refine va_get (D := (dC, dI)) (ci := 1) (v := .ref (ad 16)) (C := RX1) (T := TX1) (N := 7) hx hb hts (by decide +kernel) hown hK hP (13) (wl_at (by omega) (ce_3 (by decide))) rfl 6 (by decide) (hts (.fieldLink RX7 86 "QuietStairs$House" "cases" "[LQuietStairs$Case;") (by decide +kernel)) (fun _ h9 => h9) rfl dX7_mark_84 ?_
            refine lv_iload_n hx hb dX7_mark_87 rfl (lv_at hl 2 rfl) ?_
            obtain ⟨pi15, i15, hi15, ni15, mi15⟩ := t_in (x := x1) (n := 6) ⟨by omega, by omega⟩
            refine va_aldq hx hb hK hP (16) 3 (wl_at (by omega) (ce_6 (by decide))) rfl pi15 dX7_mark_88 ?_
            refine W.eq (g2 := F0 m 89 ls [.ref (ad (29 + 15 * i15))]) (by rw [ni15, if_pos hi15, show 16 + 13 + 15 * i15 = 29 + 15 * i15 from by omega]; rfl) ?_
            refine lv_dup hx hb dX7_mark_89 rfl ?_
            refine va_get (D := (dC, dI)) (ci := 0) (v := .int (v_14 (29 + 15 * i15) 4)) (C := RX0) (T := TX0) (N := 11) hx hb hts (by decide +kernel) hown hK hP (29 + 15 * i15) (wl_at (by omega) (ce_9 (kd_c i15 hi15).1.1)) rfl 4 (by decide) (hts (.fieldLink RX7 105 "QuietStairs$Case" "markedBits" "I") (by decide +kernel)) (fun _ h9 => h9) rfl dX7_mark_90 ?_
            refine lv_topi (fun x_16 ex_16 => ?_)
            refine lv_iconst (v := 1) hx hb dX7_mark_93 (by decide) ?_
            refine lv_iload_n hx hb dX7_mark_94 rfl (lv_at hl 1 rfl) ?_
            refine lv_ishl hx hb dX7_mark_95 ?_
            refine lv_topi (fun x_17 ex_17 => ?_)
            have tx_17 : 1 ≤ x_17.toInt ∧ x_17.toInt ≤ 32 := by rw [ex_17]; exact t_shl ⟨by omega, by omega⟩
            refine lv_ior hx hb dX7_mark_96 ?_
            refine lv_topi (fun x_18 ex_18 => ?_)
            refine va_put (D := (dC, dI)) (ci := 0) (v := .int x_18) (ty := .int) (C := RX0) (T := TX0) (N := 11) hx hb hts (by decide +kernel) tyX0 tyX0_ok nmX0 hown hK hP hD hS (29 + 15 * i15) (wl_at (by omega) (ce_9 (kd_c i15 hi15).1.1)) rfl 4 (by decide) (hts (.fieldLink RX7 105 "QuietStairs$Case" "markedBits" "I") (by decide +kernel)) (fun _ h9 => h9) rfl (by decide +kernel) rfl rfl (Nat.le_of_ble_eq_true rfl) dX7_mark_97 (fun H locs hP hD hS => ?_)
            obtain ⟨v_19, ev_19⟩ : ∃ u : Nat → Nat → Int32, u = upr v_14 (29 + 15 * i15) (upd (v_14 (29 + 15 * i15)) 4 x_18) := ⟨_, rfl⟩
            have hP : va_P (dC, dI) vwCl (wl ad kv cy N v_19) H := by rw [ev_19, ← wl_put (e := _) (ce_9 (kd_c i15 hi15).1.1)]; exact hP
            have hD : va_D A (wl ad kv cy N v_19) := by rw [ev_19, ← wl_put (e := _) (ce_9 (kd_c i15 hi15).1.1)]; exact hD
            have hv : Iv v_19 := by rw [ev_19]; exact hv.put (K := 9) (kd_c i15 hi15).1.1 (fun h q => by simp [bd] at q)
            have hfr : Fr v v_19 := by rw [ev_19]; exact hfr.put (by omega) (by omega) (by omega)
            refine lv_aload_n hx hb dX7_mark_100 rfl (lv_at hl 0 rfl) ?_
            refine va_get (D := (dC, dI)) (ci := 7) (v := .ref (ad 13)) (C := RX7) (T := TX7) (N := 5) hx hb hts (by decide +kernel) hown hK hP (0) (wl_at (by omega) (ce_0 (by decide))) rfl 0 (by decide) (hts (.fieldLink RX7 12 "QuietStairs" "now" "LQuietStairs$House;") (by decide +kernel)) (fun _ h9 => h9) rfl dX7_mark_101 ?_
            refine lv_dup hx hb dX7_mark_104 rfl ?_
            refine va_get (D := (dC, dI)) (ci := 1) (v := .int (v_19 (13) 3)) (C := RX1) (T := TX1) (N := 7) hx hb hts (by decide +kernel) hown hK hP (13) (wl_at (by omega) (ce_3 (by decide))) rfl 3 (by decide) (hts (.fieldLink RX7 108 "QuietStairs$House" "markCount" "I") (by decide +kernel)) (fun _ h9 => h9) rfl dX7_mark_105 ?_
            refine lv_topi (fun x_20 ex_20 => ?_)
            rw [ev_19, upr_n (by omega)] at ex_20
            rw [ev_14, upr_n (by omega)] at ex_20
            rw [← ex_9] at ex_20; replace ex_20 := ex_20.symm; subst ex_20
            refine lv_iconst (v := 1) hx hb dX7_mark_108 (by decide) ?_
            have k_1 : (1 : Int32).toInt = 1 := by decide
            refine lv_iadd hx hb dX7_mark_109 ?_
            refine lv_topi (fun x_21 ex_21 => ?_)
            have tx_21 : x_21.toInt = x_9.toInt + (1 : Int32).toInt := by rw [ex_21]; exact t_add ⟨by omega, by omega⟩
            refine va_put (D := (dC, dI)) (ci := 1) (v := .int x_21) (ty := .int) (C := RX1) (T := TX1) (N := 7) hx hb hts (by decide +kernel) tyX1 tyX1_ok nmX1 hown hK hP hD hS (13) (wl_at (by omega) (ce_3 (by decide))) rfl 3 (by decide) (hts (.fieldLink RX7 108 "QuietStairs$House" "markCount" "I") (by decide +kernel)) (fun _ h9 => h9) rfl (by decide +kernel) rfl rfl (Nat.le_of_ble_eq_true rfl) dX7_mark_110 (fun H locs hP hD hS => ?_)
            obtain ⟨v_22, ev_22⟩ : ∃ u : Nat → Nat → Int32, u = upr v_19 (13) (upd (v_19 (13)) 3 x_21) := ⟨_, rfl⟩
            have hP : va_P (dC, dI) vwCl (wl ad kv cy N v_22) H := by rw [ev_22, ← wl_put (e := _) (ce_3 (by decide))]; exact hP
            have hD : va_D A (wl ad kv cy N v_22) := by rw [ev_22, ← wl_put (e := _) (ce_3 (by decide))]; exact hD
            have hv : Iv v_22 := by rw [ev_22]; exact hv.put (K := 3) (by decide) (fun h q => by cases q; exact ⟨by omega, by omega⟩)
            have hfr : Fr v v_22 := by rw [ev_22]; exact hfr.putj (by decide)
            refine lv_aload_n hx hb dX7_mark_113 rfl (lv_at hl 0 rfl) ?_
            refine va_get (D := (dC, dI)) (ci := 7) (v := .ref (ad 13)) (C := RX7) (T := TX7) (N := 5) hx hb hts (by decide +kernel) hown hK hP (0) (wl_at (by omega) (ce_0 (by decide))) rfl 0 (by decide) (hts (.fieldLink RX7 12 "QuietStairs" "now" "LQuietStairs$House;") (by decide +kernel)) (fun _ h9 => h9) rfl dX7_mark_114 ?_
            refine va_get (D := (dC, dI)) (ci := 1) (v := .int (v_22 (13) 3)) (C := RX1) (T := TX1) (N := 7) hx hb hts (by decide +kernel) hown hK hP (13) (wl_at (by omega) (ce_3 (by decide))) rfl 3 (by decide) (hts (.fieldLink RX7 108 "QuietStairs$House" "markCount" "I") (by decide +kernel)) (fun _ h9 => h9) rfl dX7_mark_117 ?_
            refine lv_topi (fun x_23 ex_23 => ?_)
            rw [ev_22, upr_s, pk_us] at ex_23; replace ex_23 := ex_23.symm; subst ex_23
            exact W.iret (v := x_21) hx hb hr (fun t ht hW => ⟨⟨x_21, v_22, rfl, ⟨hv, hfr⟩, by rw [ht]; exact hP, hD⟩, hS.F ht⟩) hS.2.2 dX7_mark_120
          · have tc_10 : x_9.toInt ≥ (6 : Int32).toInt := Int32.le_iff_toInt_le.mp (Int32.not_lt.mp c_10)
            refine lv_bipush (v := (-2)) hx hb dX7_mark_57 (by decide) ?_
            exact W.iret (v := (-2)) hx hb hr (fun t ht hW => ⟨⟨(-2), v_3, rfl, ⟨hv, hfr⟩, by rw [ht]; exact hP, hD⟩, hS.F ht⟩) hS.2.2 dX7_mark_59
        · refine lv_if_eq (tgt := 45) hx hb dX7_mark_39 (by decide) (fun c9 => absurd c9 (by decide)) (fun _ => ?_)
          refine lv_bipush (v := (-3)) hx hb dX7_mark_42 (by decide) ?_
          exact W.iret (v := (-3)) hx hb hr (fun t ht hW => ⟨⟨(-3), v_3, rfl, ⟨hv, hfr⟩, by rw [ht]; exact hP, hD⟩, hS.F ht⟩) hS.2.2 dX7_mark_44
      · have tc_5 : x0.toInt = x1.toInt := by rw [c_5]
        refine lv_iconst (v := (-1)) hx hb dX7_mark_21 (by decide) ?_
        exact W.iret (v := (-1)) hx hb hr (fun t ht hW => ⟨⟨(-1), v_3, rfl, ⟨hv, hfr⟩, by rw [ht]; exact hP, hD⟩, hS.F ht⟩) hS.2.2 dX7_mark_22
    · refine lv_if_eq (tgt := 21) hx hb dX7_mark_13 (by decide) (fun _ => ?_) (fun c9 => absurd c9 (by decide))
      refine lv_iconst (v := (-1)) hx hb dX7_mark_21 (by decide) ?_
      exact W.iret (v := (-1)) hx hb hr (fun t ht hW => ⟨⟨(-1), v_3, rfl, ⟨hv, hfr⟩, by rw [ht]; exact hP, hD⟩, hS.F ht⟩) hS.2.2 dX7_mark_22
  · refine lv_if_eq (tgt := 21) hx hb dX7_mark_5 (by decide) (fun _ => ?_) (fun c9 => absurd c9 (by decide))
    refine lv_iconst (v := (-1)) hx hb dX7_mark_21 (by decide) ?_
    exact W.iret (v := (-1)) hx hb hr (fun t ht hW => ⟨⟨(-1), v_1, rfl, ⟨hv, hfr⟩, by rw [ht]; exact hP, hD⟩, hS.F ht⟩) hS.2.2 dX7_mark_22

set_option maxHeartbeats 4000000 in
set_option maxRecDepth 100000 in
theorem g_X7_term (l : Launch) (dC : Nat → ClassId) (dI : Nat → Nat → Nat) (cy : Nat → ClassId) (sz : Nat) (ad : Nat → Nat) (kv : Value) (N : Nat) (hN : 119 ≤ N) (v : Nat → Nat → Int32) (hv : Iv v)  (x0 x1 x2 x3 x4 x5 : Int32) (hb2 : x2 = 0 ∨ x2 = 1) : Met l yX7_term wsX7_term ({ frames := 3, cells := 0, slots := 0, locals := 192 }) (va_Pc [.ref (ad 0), .int x0, .int x1, .int x2, .int x3, .int x4, .int x5] (ex_Pre dC dI cy sz (wl ad kv cy N v))) (va_Qi (fun (r : Int32) (u : Nat → Nat → Int32) => Iv u ∧ Fr v u) (fun u t => ex_Pst dC dI (va_A (wl ad kv cy N v) sz) (wl ad kv cy N u) t) (va_A (wl ad kv cy N v) sz)) 0 0 (va_A (wl ad kv cy N v) sz) := by
  refine Met.ofW (cc := cX7_term) (maxL := 9) (ret := (some .int)) (by decide) rfl ?_
  intro p e s m args below meth c s₁ B hml hv
  obtain ⟨rfl, hsz, hE, hP, hK, hD0⟩ := hv
  have hx := B.exec
  have hb := B.bytes
  have hr := B.returns
  have hts := atoms_spec (ws := wsX7_term) B.pre
  have hown : s.vm.findClass RX7 = some m.cls := findClass_of_methodNamed B.named
  have hlocks := B.notSynchronized
  subst hsz
  have hD := hD0.self (sz := s.heap.size)
  generalize hAe : va_A (wl ad kv cy N v) s.heap.size = A at hD ⊢
  have hA : ∀ q : Nat, s.heap.size ≤ q → A q := fun q h => by rw [← hAe]; exact Or.inr h
  have hS : va_S A s.heap s.heap [] := va_S.rf
  have hP : va_P (dC, dI) vwCl (wl ad kv cy N v) s.heap := hP
  have hl := lv_entry ([.ref (ad 0), .int x0, .int x1, .int x2, .int x3, .int x4, .int x5]) (n := 9) (Nat.le_of_ble_eq_true rfl)
  rw [lg_entry_eq]
  generalize (lg_sl ([.ref (ad 0), .int x0, .int x1, .int x2, .int x3, .int x4, .int x5]) ++ List.replicate (9 - (lg_sl ([.ref (ad 0), .int x0, .int x1, .int x2, .int x3, .int x4, .int x5])).length) Slot.unset).toArray = ls at hl ⊢
  have hl : lv_has ls 9 [(0, .ref (ad 0)), (1, .int x0), (2, .int x1), (3, .int x2), (4, .int x3), (5, .int x4), (6, .int x5)] := hl
  have hfr : Fr v v := Fr.rf
  rcases hb2 with rfl | rfl
  · refine lv_aload_n hx hb dX7_term_0 rfl (lv_at hl 0 rfl) ?_
    refine lv_iload_n hx hb dX7_term_1 rfl (lv_at hl 1 rfl) ?_
    refine yw_i (w1 := fun (u : Nat → Nat → Int32) => wl ad kv cy N u) hD hS hA (va_runV (As := [.int x0]) (rest := []) ⟨hx, hb, hml, hown, hts⟩ (g_X7_isCase l dC dI cy _ ad kv N hN v hv x0) (cwV 1 hts gX7_term_X7_isCase rfl rfl rfl (by decide +kernel) ⟨Nat.le_of_ble_eq_true rfl, Nat.le_of_ble_eq_true rfl⟩) (yw_preV hE hK hP hD (ci := 7) (q0 := 0) rfl (wl_at (by omega) (ce_0 (by decide)))) rfl rfl hl.1 rfl (lv_room (Nat.le_of_ble_eq_true rfl)) dX7_term_2 ⟨Nat.le_of_ble_eq_true rfl, Nat.le_of_ble_eq_true rfl⟩) (fun r_1 v_1 H locs hw_1 hP hD hS => ?_)
    obtain ⟨hv, hw_1⟩ := hw_1
    obtain ⟨hu_1, hw_1⟩ := hw_1
    have hfr : Fr v v_1 := by rw [hu_1]; exact hfr
    rcases hw_1 with ⟨rfl, ha_2⟩ | ⟨rfl, -⟩
    · have hb_2 := hv.at (k := 13) (j := 2) (K := 3) (by decide) rfl
      have hb_2 : 0 ≤ x0.toInt ∧ x0.toInt < 6 := by omega
      refine lv_if_eq (tgt := 48) hx hb dX7_term_5 (by decide) (fun c9 => absurd c9 (by decide)) (fun _ => ?_)
      refine lv_iload_n hx hb dX7_term_8 rfl (lv_at hl 2 rfl) ?_
      refine yc_p hP hS (va_runS (As := [.int x1]) (rest := []) ⟨hx, hb, hml, hown, hts⟩ (c_X7_isSide l x1) (cwS 1 hts gX7_term_X7_isSide rfl rfl rfl (by decide +kernel) ⟨Nat.le_of_ble_eq_true rfl, Nat.le_of_ble_eq_true rfl⟩) ex_preP rfl rfl hl.1 rfl (lv_room (Nat.le_of_ble_eq_true rfl)) dX7_term_9 ⟨Nat.le_of_ble_eq_true rfl, Nat.le_of_ble_eq_true rfl⟩) (fun r_3 H locs hw_3 hP hS => ?_)
      rcases wi_ca hw_3 with ⟨rfl, hc_4⟩ | ⟨rfl, hc_4⟩
      · have k_0 : (0 : Int32).toInt = 0 := by decide
        have k_1 : (1 : Int32).toInt = 1 := by decide
        have tc_4 := wi_tl hc_4
        refine lv_if_eq (tgt := 48) hx hb dX7_term_12 (by decide) (fun c9 => absurd c9 (by decide)) (fun _ => ?_)
        refine lv_iload hx hb dX7_term_15 (lv_at hl 4 rfl) ?_
        refine lv_iconst (v := 0) hx hb dX7_term_17 (by decide) ?_
        refine lv_iconst (v := 5) hx hb dX7_term_18 (by decide) ?_
        refine yc_p hP hS (va_runS (As := [.int x3, .int 0, .int 5]) (rest := []) ⟨hx, hb, hml, hown, hts⟩ (c_X7_isWithin l x3 0 5) (cwS 3 hts gX7_term_X7_isWithin rfl rfl rfl (by decide +kernel) ⟨Nat.le_of_ble_eq_true rfl, Nat.le_of_ble_eq_true rfl⟩) ex_preP rfl rfl hl.1 rfl (lv_room (Nat.le_of_ble_eq_true rfl)) dX7_term_19 ⟨Nat.le_of_ble_eq_true rfl, Nat.le_of_ble_eq_true rfl⟩) (fun r_5 H locs hw_5 hP hS => ?_)
        rcases wi_ca hw_5 with ⟨rfl, hc_6⟩ | ⟨rfl, hc_6⟩
        · have k_5 : (5 : Int32).toInt = 5 := by decide
          have tc_6 := wi_tl hc_6
          refine lv_if_eq (tgt := 48) hx hb dX7_term_22 (by decide) (fun c9 => absurd c9 (by decide)) (fun _ => ?_)
          refine lv_iload hx hb dX7_term_25 (lv_at hl 5 rfl) ?_
          refine yc_p hP hS (va_runS (As := [.int x4]) (rest := []) ⟨hx, hb, hml, hown, hts⟩ (c_X7_isHour l x4) (cwS 1 hts gX7_term_X7_isHour rfl rfl rfl (by decide +kernel) ⟨Nat.le_of_ble_eq_true rfl, Nat.le_of_ble_eq_true rfl⟩) ex_preP rfl rfl hl.1 rfl (lv_room (Nat.le_of_ble_eq_true rfl)) dX7_term_27 ⟨Nat.le_of_ble_eq_true rfl, Nat.le_of_ble_eq_true rfl⟩) (fun r_7 H locs hw_7 hP hS => ?_)
          rcases wi_ca hw_7 with ⟨rfl, hc_8⟩ | ⟨rfl, hc_8⟩
          · have k_23 : (23 : Int32).toInt = 23 := by decide
            have tc_8 := wi_tl hc_8
            refine lv_if_eq (tgt := 48) hx hb dX7_term_30 (by decide) (fun c9 => absurd c9 (by decide)) (fun _ => ?_)
            refine lv_iload hx hb dX7_term_33 (lv_at hl 6 rfl) ?_
            refine yc_p hP hS (va_runS (As := [.int x5]) (rest := []) ⟨hx, hb, hml, hown, hts⟩ (c_X7_isHour l x5) (cwS 1 hts gX7_term_X7_isHour rfl rfl rfl (by decide +kernel) ⟨Nat.le_of_ble_eq_true rfl, Nat.le_of_ble_eq_true rfl⟩) ex_preP rfl rfl hl.1 rfl (lv_room (Nat.le_of_ble_eq_true rfl)) dX7_term_35 ⟨Nat.le_of_ble_eq_true rfl, Nat.le_of_ble_eq_true rfl⟩) (fun r_9 H locs hw_9 hP hS => ?_)
            rcases wi_ca hw_9 with ⟨rfl, hc_10⟩ | ⟨rfl, hc_10⟩
            · have tc_10 := wi_tl hc_10
              refine lv_if_eq (tgt := 48) hx hb dX7_term_38 (by decide) (fun c9 => absurd c9 (by decide)) (fun _ => ?_)
              refine lv_iload hx hb dX7_term_41 (lv_at hl 5 rfl) ?_
              refine lv_iload hx hb dX7_term_43 (lv_at hl 6 rfl) ?_
              refine lv_icmp_le (tgt := 50) hx hb dX7_term_45 (by decide) (fun c_11 => ?_) (fun c_11 => ?_)
              · have tc_11 : x4.toInt ≤ x5.toInt := Int32.le_iff_toInt_le.mp c_11
                refine lv_aload_n hx hb dX7_term_50 rfl (lv_at hl 0 rfl) ?_
                refine va_get (D := (dC, dI)) (ci := 7) (v := .ref (ad 13)) (C := RX7) (T := TX7) (N := 5) hx hb hts (by decide +kernel) hown hK hP (0) (wl_at (by omega) (ce_0 (by decide))) rfl 0 (by decide) (hts (.fieldLink RX7 12 "QuietStairs" "now" "LQuietStairs$House;") (by decide +kernel)) (fun _ h9 => h9) rfl dX7_term_51 ?_
                refine va_get (D := (dC, dI)) (ci := 1) (v := .ref (ad 16)) (C := RX1) (T := TX1) (N := 7) hx hb hts (by decide +kernel) hown hK hP (13) (wl_at (by omega) (ce_3 (by decide))) rfl 6 (by decide) (hts (.fieldLink RX7 86 "QuietStairs$House" "cases" "[LQuietStairs$Case;") (by decide +kernel)) (fun _ h9 => h9) rfl dX7_term_54 ?_
                refine lv_iload_n hx hb dX7_term_57 rfl (lv_at hl 1 rfl) ?_
                obtain ⟨pi12, i12, hi12, ni12, mi12⟩ := t_in (x := x0) (n := 6) ⟨by omega, by omega⟩
                refine va_aldq hx hb hK hP (16) 3 (wl_at (by omega) (ce_6 (by decide))) rfl pi12 dX7_term_58 ?_
                refine W.eq (g2 := F0 m 59 ls [.ref (ad (29 + 15 * i12))]) (by rw [ni12, if_pos hi12, show 16 + 13 + 15 * i12 = 29 + 15 * i12 from by omega]; rfl) ?_
                refine lv_astore (lv' := [(7, .ref (ad (29 + 15 * i12))), (0, .ref (ad 0)), (1, .int x0), (2, .int x1), (3, .int 0), (4, .int x3), (5, .int x4), (6, .int x5)]) hx hb dX7_term_59 hl (by decide) rfl (fun ls hl => ?_)
                refine lv_aload hx hb dX7_term_61 (lv_at hl 0 rfl) ?_
                refine va_get (D := (dC, dI)) (ci := 0) (v := .int (v_1 (29 + 15 * i12) 0)) (C := RX0) (T := TX0) (N := 11) hx hb hts (by decide +kernel) hown hK hP (29 + 15 * i12) (wl_at (by omega) (ce_9 (kd_c i12 hi12).1.1)) rfl 0 (by decide) (hts (.fieldLink RX7 99 "QuietStairs$Case" "state" "I") (by decide +kernel)) (fun _ h9 => h9) rfl dX7_term_63 ?_
                refine lv_topi (fun x_13 ex_13 => ?_)
                refine lv_iconst (v := 1) hx hb dX7_term_66 (by decide) ?_
                refine lv_icmp_eq (tgt := 73) hx hb dX7_term_67 (by decide) (fun c_14 => ?_) (fun c_14 => ?_)
                · have tc_14 : x_13.toInt = (1 : Int32).toInt := by rw [c_14]
                  refine lv_aload hx hb dX7_term_73 (lv_at hl 0 rfl) ?_
                  refine va_get (D := (dC, dI)) (ci := 0) (v := .int (v_1 (29 + 15 * i12) 5)) (C := RX0) (T := TX0) (N := 11) hx hb hts (by decide +kernel) hown hK hP (29 + 15 * i12) (wl_at (by omega) (ce_9 (kd_c i12 hi12).1.1)) rfl 5 (by decide) (hts (.fieldLink RX7 169 "QuietStairs$Case" "termCount" "I") (by decide +kernel)) (fun _ h9 => h9) rfl dX7_term_75 ?_
                  refine lv_topi (fun x_15 ex_15 => ?_)
                  have bx_15 : 0 ≤ x_15.toInt ∧ x_15.toInt ≤ 5 := by rw [ex_15]; exact hv.at (K := 9) (kd_c i12 hi12).1.1 rfl
                  refine lv_iconst (v := 5) hx hb dX7_term_78 (by decide) ?_
                  refine lv_icmp_lt (tgt := 85) hx hb dX7_term_79 (by decide) (fun c_16 => ?_) (fun c_16 => ?_)
                  · have tc_16 : x_15.toInt < (5 : Int32).toInt := Int32.lt_iff_toInt_lt.mp c_16
                    refine lv_aload hx hb dX7_term_85 (lv_at hl 0 rfl) ?_
                    refine va_get (D := (dC, dI)) (ci := 0) (v := .ref (ad (29 + 15 * i12 + 9))) (C := RX0) (T := TX0) (N := 11) hx hb hts (by decide +kernel) hown hK hP (29 + 15 * i12) (wl_at (by omega) (ce_9 (kd_c i12 hi12).1.1)) rfl 10 (by decide) (hts (.fieldLink RX7 172 "QuietStairs$Case" "terms" "[LQuietStairs$Term;") (by decide +kernel)) (fun _ h9 => h9) rfl dX7_term_87 ?_
                    refine W.eq (g2 := F0 m 90 ls [.ref (ad (38 + 15 * i12))]) (by rw [show 29 + 15 * i12 + 9 = 38 + 15 * i12 from by omega]) ?_
                    refine lv_aload hx hb dX7_term_90 (lv_at hl 0 rfl) ?_
                    refine va_get (D := (dC, dI)) (ci := 0) (v := .int (v_1 (29 + 15 * i12) 5)) (C := RX0) (T := TX0) (N := 11) hx hb hts (by decide +kernel) hown hK hP (29 + 15 * i12) (wl_at (by omega) (ce_9 (kd_c i12 hi12).1.1)) rfl 5 (by decide) (hts (.fieldLink RX7 169 "QuietStairs$Case" "termCount" "I") (by decide +kernel)) (fun _ h9 => h9) rfl dX7_term_92 ?_
                    refine lv_topi (fun x_17 ex_17 => ?_)
                    rw [← ex_15] at ex_17; replace ex_17 := ex_17.symm; subst ex_17
                    obtain ⟨pi18, i18, hi18, ni18, mi18⟩ := t_in (x := x_15) (n := 5) ⟨by omega, by omega⟩
                    refine va_aldq hx hb hK hP (38 + 15 * i12) 4 (wl_at (by omega) (ce_15 (kd_c i12 hi12).1.2.2.2.2.2)) rfl pi18 dX7_term_95 ?_
                    refine W.eq (g2 := F0 m 96 ls [.ref (ad (39 + 15 * i12 + i18))]) (by rw [ni18, if_pos hi18, show 38 + 15 * i12 + 1 + i18 = 39 + 15 * i12 + i18 from by omega]; rfl) ?_
                    refine lv_astore (lv' := [(8, .ref (ad (39 + 15 * i12 + i18))), (7, .ref (ad (29 + 15 * i12))), (0, .ref (ad 0)), (1, .int x0), (2, .int x1), (3, .int 0), (4, .int x3), (5, .int x4), (6, .int x5)]) hx hb dX7_term_96 hl (by decide) rfl (fun ls hl => ?_)
                    refine lv_aload hx hb dX7_term_98 (lv_at hl 0 rfl) ?_
                    refine lv_iload_n hx hb dX7_term_100 rfl (lv_at hl 4 rfl) ?_
                    refine va_put (D := (dC, dI)) (ci := 6) (v := .int x1) (ty := .int) (C := RX6) (T := TX6) (N := 5) hx hb hts (by decide +kernel) tyX6 tyX6_ok nmX6 hown hK hP hD hS (39 + 15 * i12 + i18) (wl_at (by omega) (ce_16 (kd_t i12 hi12 i18 hi18).1)) rfl 0 (by decide) (hts (.fieldLink RX7 176 "QuietStairs$Term" "side" "I") (by decide +kernel)) (fun _ h9 => h9) rfl (by decide +kernel) rfl rfl (Nat.le_of_ble_eq_true rfl) dX7_term_101 (fun H locs hP hD hS => ?_)
                    obtain ⟨v_19, ev_19⟩ : ∃ u : Nat → Nat → Int32, u = upr v_1 (39 + 15 * i12 + i18) (upd (v_1 (39 + 15 * i12 + i18)) 0 x1) := ⟨_, rfl⟩
                    have hP : va_P (dC, dI) vwCl (wl ad kv cy N v_19) H := by rw [ev_19, ← wl_put (e := _) (ce_16 (kd_t i12 hi12 i18 hi18).1)]; exact hP
                    have hD : va_D A (wl ad kv cy N v_19) := by rw [ev_19, ← wl_put (e := _) (ce_16 (kd_t i12 hi12 i18 hi18).1)]; exact hD
                    have hv : Iv v_19 := by rw [ev_19]; exact hv.put (K := 16) (kd_t i12 hi12 i18 hi18).1 (fun h q => by cases q; exact ⟨by omega, by omega⟩)
                    have hfr : Fr v v_19 := by rw [ev_19]; exact hfr.put (by omega) (by omega) (by omega)
                    refine lv_aload hx hb dX7_term_104 (lv_at hl 0 rfl) ?_
                    refine lv_iload_n hx hb dX7_term_106 rfl (lv_at hl 5 rfl) ?_
                    refine va_put (D := (dC, dI)) (ci := 6) (v := .int 0) (ty := .boolean) (C := RX6) (T := TX6) (N := 5) hx hb hts (by decide +kernel) tyX6 tyX6_ok nmX6 hown hK hP hD hS (39 + 15 * i12 + i18) (wl_at (by omega) (ce_16 (kd_t i12 hi12 i18 hi18).1)) rfl 1 (by decide) (hts (.fieldLink RX7 181 "QuietStairs$Term" "must" "Z") (by decide +kernel)) (fun _ h9 => h9) rfl (by decide +kernel) rfl rfl (Nat.le_of_ble_eq_true rfl) dX7_term_107 (fun H locs hP hD hS => ?_)
                    obtain ⟨v_20, ev_20⟩ : ∃ u : Nat → Nat → Int32, u = upr v_19 (39 + 15 * i12 + i18) (upd (v_19 (39 + 15 * i12 + i18)) 1 0) := ⟨_, rfl⟩
                    have hP : va_P (dC, dI) vwCl (wl ad kv cy N v_20) H := by rw [ev_20, ← wl_put (e := _) (ce_16 (kd_t i12 hi12 i18 hi18).1)]; exact hP
                    have hD : va_D A (wl ad kv cy N v_20) := by rw [ev_20, ← wl_put (e := _) (ce_16 (kd_t i12 hi12 i18 hi18).1)]; exact hD
                    have hv : Iv v_20 := by rw [ev_20]; exact hv.put (K := 16) (kd_t i12 hi12 i18 hi18).1 (fun h q => by cases q; exact ⟨by omega, by omega⟩)
                    have hfr : Fr v v_20 := by rw [ev_20]; exact hfr.put (by omega) (by omega) (by omega)
                    refine lv_aload hx hb dX7_term_110 (lv_at hl 0 rfl) ?_
                    refine lv_iload hx hb dX7_term_112 (lv_at hl 6 rfl) ?_
                    refine va_put (D := (dC, dI)) (ci := 6) (v := .int x3) (ty := .int) (C := RX6) (T := TX6) (N := 5) hx hb hts (by decide +kernel) tyX6 tyX6_ok nmX6 hown hK hP hD hS (39 + 15 * i12 + i18) (wl_at (by omega) (ce_16 (kd_t i12 hi12 i18 hi18).1)) rfl 2 (by decide) (hts (.fieldLink RX7 185 "QuietStairs$Term" "act" "I") (by decide +kernel)) (fun _ h9 => h9) rfl (by decide +kernel) rfl rfl (Nat.le_of_ble_eq_true rfl) dX7_term_114 (fun H locs hP hD hS => ?_)
                    obtain ⟨v_21, ev_21⟩ : ∃ u : Nat → Nat → Int32, u = upr v_20 (39 + 15 * i12 + i18) (upd (v_20 (39 + 15 * i12 + i18)) 2 x3) := ⟨_, rfl⟩
                    have hP : va_P (dC, dI) vwCl (wl ad kv cy N v_21) H := by rw [ev_21, ← wl_put (e := _) (ce_16 (kd_t i12 hi12 i18 hi18).1)]; exact hP
                    have hD : va_D A (wl ad kv cy N v_21) := by rw [ev_21, ← wl_put (e := _) (ce_16 (kd_t i12 hi12 i18 hi18).1)]; exact hD
                    have hv : Iv v_21 := by rw [ev_21]; exact hv.put (K := 16) (kd_t i12 hi12 i18 hi18).1 (fun h q => by simp [bd] at q)
                    have hfr : Fr v v_21 := by rw [ev_21]; exact hfr.put (by omega) (by omega) (by omega)
                    refine lv_aload hx hb dX7_term_117 (lv_at hl 0 rfl) ?_
                    refine lv_iload hx hb dX7_term_119 (lv_at hl 7 rfl) ?_
                    refine va_put (D := (dC, dI)) (ci := 6) (v := .int x4) (ty := .int) (C := RX6) (T := TX6) (N := 5) hx hb hts (by decide +kernel) tyX6 tyX6_ok nmX6 hown hK hP hD hS (39 + 15 * i12 + i18) (wl_at (by omega) (ce_16 (kd_t i12 hi12 i18 hi18).1)) rfl 3 (by decide) (hts (.fieldLink RX7 188 "QuietStairs$Term" "first" "I") (by decide +kernel)) (fun _ h9 => h9) rfl (by decide +kernel) rfl rfl (Nat.le_of_ble_eq_true rfl) dX7_term_121 (fun H locs hP hD hS => ?_)
                    obtain ⟨v_22, ev_22⟩ : ∃ u : Nat → Nat → Int32, u = upr v_21 (39 + 15 * i12 + i18) (upd (v_21 (39 + 15 * i12 + i18)) 3 x4) := ⟨_, rfl⟩
                    have hP : va_P (dC, dI) vwCl (wl ad kv cy N v_22) H := by rw [ev_22, ← wl_put (e := _) (ce_16 (kd_t i12 hi12 i18 hi18).1)]; exact hP
                    have hD : va_D A (wl ad kv cy N v_22) := by rw [ev_22, ← wl_put (e := _) (ce_16 (kd_t i12 hi12 i18 hi18).1)]; exact hD
                    have hv : Iv v_22 := by rw [ev_22]; exact hv.put (K := 16) (kd_t i12 hi12 i18 hi18).1 (fun h q => by cases q; exact ⟨by omega, by omega⟩)
                    have hfr : Fr v v_22 := by rw [ev_22]; exact hfr.put (by omega) (by omega) (by omega)
                    refine lv_aload hx hb dX7_term_124 (lv_at hl 0 rfl) ?_
                    refine lv_iload hx hb dX7_term_126 (lv_at hl 8 rfl) ?_
                    refine va_put (D := (dC, dI)) (ci := 6) (v := .int x5) (ty := .int) (C := RX6) (T := TX6) (N := 5) hx hb hts (by decide +kernel) tyX6 tyX6_ok nmX6 hown hK hP hD hS (39 + 15 * i12 + i18) (wl_at (by omega) (ce_16 (kd_t i12 hi12 i18 hi18).1)) rfl 4 (by decide) (hts (.fieldLink RX7 191 "QuietStairs$Term" "last" "I") (by decide +kernel)) (fun _ h9 => h9) rfl (by decide +kernel) rfl rfl (Nat.le_of_ble_eq_true rfl) dX7_term_128 (fun H locs hP hD hS => ?_)
                    obtain ⟨v_23, ev_23⟩ : ∃ u : Nat → Nat → Int32, u = upr v_22 (39 + 15 * i12 + i18) (upd (v_22 (39 + 15 * i12 + i18)) 4 x5) := ⟨_, rfl⟩
                    have hP : va_P (dC, dI) vwCl (wl ad kv cy N v_23) H := by rw [ev_23, ← wl_put (e := _) (ce_16 (kd_t i12 hi12 i18 hi18).1)]; exact hP
                    have hD : va_D A (wl ad kv cy N v_23) := by rw [ev_23, ← wl_put (e := _) (ce_16 (kd_t i12 hi12 i18 hi18).1)]; exact hD
                    have hv : Iv v_23 := by rw [ev_23]; exact hv.put (K := 16) (kd_t i12 hi12 i18 hi18).1 (fun h q => by cases q; exact ⟨by omega, by omega⟩)
                    have hfr : Fr v v_23 := by rw [ev_23]; exact hfr.put (by omega) (by omega) (by omega)
                    refine lv_aload hx hb dX7_term_131 (lv_at hl 1 rfl) ?_
                    refine lv_dup hx hb dX7_term_133 rfl ?_
                    refine va_get (D := (dC, dI)) (ci := 0) (v := .int (v_23 (29 + 15 * i12) 5)) (C := RX0) (T := TX0) (N := 11) hx hb hts (by decide +kernel) hown hK hP (29 + 15 * i12) (wl_at (by omega) (ce_9 (kd_c i12 hi12).1.1)) rfl 5 (by decide) (hts (.fieldLink RX7 169 "QuietStairs$Case" "termCount" "I") (by decide +kernel)) (fun _ h9 => h9) rfl dX7_term_134 ?_
                    refine lv_topi (fun x_24 ex_24 => ?_)
                    rw [ev_23, upr_n (by omega)] at ex_24
                    rw [ev_22, upr_n (by omega)] at ex_24
                    rw [ev_21, upr_n (by omega)] at ex_24
                    rw [ev_20, upr_n (by omega)] at ex_24
                    rw [ev_19, upr_n (by omega)] at ex_24
                    rw [← ex_15] at ex_24; replace ex_24 := ex_24.symm; subst ex_24
                    refine lv_dup_x1 hx hb dX7_term_137 rfl rfl ?_
                    refine lv_iconst (v := 1) hx hb dX7_term_138 (by decide) ?_
                    refine lv_iadd hx hb dX7_term_139 ?_
                    refine lv_topi (fun x_25 ex_25 => ?_)
                    have tx_25 : x_25.toInt = x_15.toInt + (1 : Int32).toInt := by rw [ex_25]; exact t_add ⟨by omega, by omega⟩
                    refine va_put (D := (dC, dI)) (ci := 0) (v := .int x_25) (ty := .int) (C := RX0) (T := TX0) (N := 11) hx hb hts (by decide +kernel) tyX0 tyX0_ok nmX0 hown hK hP hD hS (29 + 15 * i12) (wl_at (by omega) (ce_9 (kd_c i12 hi12).1.1)) rfl 5 (by decide) (hts (.fieldLink RX7 169 "QuietStairs$Case" "termCount" "I") (by decide +kernel)) (fun _ h9 => h9) rfl (by decide +kernel) rfl rfl (Nat.le_of_ble_eq_true rfl) dX7_term_140 (fun H locs hP hD hS => ?_)
                    obtain ⟨v_26, ev_26⟩ : ∃ u : Nat → Nat → Int32, u = upr v_23 (29 + 15 * i12) (upd (v_23 (29 + 15 * i12)) 5 x_25) := ⟨_, rfl⟩
                    have hP : va_P (dC, dI) vwCl (wl ad kv cy N v_26) H := by rw [ev_26, ← wl_put (e := _) (ce_9 (kd_c i12 hi12).1.1)]; exact hP
                    have hD : va_D A (wl ad kv cy N v_26) := by rw [ev_26, ← wl_put (e := _) (ce_9 (kd_c i12 hi12).1.1)]; exact hD
                    have hv : Iv v_26 := by rw [ev_26]; exact hv.put (K := 9) (kd_c i12 hi12).1.1 (fun h q => by cases q; exact ⟨by omega, by omega⟩)
                    have hfr : Fr v v_26 := by rw [ev_26]; exact hfr.put (by omega) (by omega) (by omega)
                    exact W.iret (v := x_15) hx hb hr (fun t ht hW => ⟨⟨x_15, v_26, rfl, ⟨hv, hfr⟩, by rw [ht]; exact hP, hD⟩, hS.F ht⟩) hS.2.2 dX7_term_143
                  · have tc_16 : x_15.toInt ≥ (5 : Int32).toInt := Int32.le_iff_toInt_le.mp (Int32.not_lt.mp c_16)
                    refine lv_bipush (v := (-2)) hx hb dX7_term_82 (by decide) ?_
                    exact W.iret (v := (-2)) hx hb hr (fun t ht hW => ⟨⟨(-2), v_1, rfl, ⟨hv, hfr⟩, by rw [ht]; exact hP, hD⟩, hS.F ht⟩) hS.2.2 dX7_term_84
                · have tc_14 : x_13.toInt ≠ (1 : Int32).toInt := fun q => absurd (Int32.toInt_inj.mp q) c_14
                  refine lv_bipush (v := (-4)) hx hb dX7_term_70 (by decide) ?_
                  exact W.iret (v := (-4)) hx hb hr (fun t ht hW => ⟨⟨(-4), v_1, rfl, ⟨hv, hfr⟩, by rw [ht]; exact hP, hD⟩, hS.F ht⟩) hS.2.2 dX7_term_72
              · have tc_11 : x4.toInt > x5.toInt := Int32.lt_iff_toInt_lt.mp (Int32.not_le.mp c_11)
                refine lv_iconst (v := (-1)) hx hb dX7_term_48 (by decide) ?_
                exact W.iret (v := (-1)) hx hb hr (fun t ht hW => ⟨⟨(-1), v_1, rfl, ⟨hv, hfr⟩, by rw [ht]; exact hP, hD⟩, hS.F ht⟩) hS.2.2 dX7_term_49
            · refine lv_if_eq (tgt := 48) hx hb dX7_term_38 (by decide) (fun _ => ?_) (fun c9 => absurd c9 (by decide))
              refine lv_iconst (v := (-1)) hx hb dX7_term_48 (by decide) ?_
              exact W.iret (v := (-1)) hx hb hr (fun t ht hW => ⟨⟨(-1), v_1, rfl, ⟨hv, hfr⟩, by rw [ht]; exact hP, hD⟩, hS.F ht⟩) hS.2.2 dX7_term_49
          · refine lv_if_eq (tgt := 48) hx hb dX7_term_30 (by decide) (fun _ => ?_) (fun c9 => absurd c9 (by decide))
            refine lv_iconst (v := (-1)) hx hb dX7_term_48 (by decide) ?_
            exact W.iret (v := (-1)) hx hb hr (fun t ht hW => ⟨⟨(-1), v_1, rfl, ⟨hv, hfr⟩, by rw [ht]; exact hP, hD⟩, hS.F ht⟩) hS.2.2 dX7_term_49
        · refine lv_if_eq (tgt := 48) hx hb dX7_term_22 (by decide) (fun _ => ?_) (fun c9 => absurd c9 (by decide))
          refine lv_iconst (v := (-1)) hx hb dX7_term_48 (by decide) ?_
          exact W.iret (v := (-1)) hx hb hr (fun t ht hW => ⟨⟨(-1), v_1, rfl, ⟨hv, hfr⟩, by rw [ht]; exact hP, hD⟩, hS.F ht⟩) hS.2.2 dX7_term_49
      · refine lv_if_eq (tgt := 48) hx hb dX7_term_12 (by decide) (fun _ => ?_) (fun c9 => absurd c9 (by decide))
        refine lv_iconst (v := (-1)) hx hb dX7_term_48 (by decide) ?_
        exact W.iret (v := (-1)) hx hb hr (fun t ht hW => ⟨⟨(-1), v_1, rfl, ⟨hv, hfr⟩, by rw [ht]; exact hP, hD⟩, hS.F ht⟩) hS.2.2 dX7_term_49
    · refine lv_if_eq (tgt := 48) hx hb dX7_term_5 (by decide) (fun _ => ?_) (fun c9 => absurd c9 (by decide))
      refine lv_iconst (v := (-1)) hx hb dX7_term_48 (by decide) ?_
      exact W.iret (v := (-1)) hx hb hr (fun t ht hW => ⟨⟨(-1), v_1, rfl, ⟨hv, hfr⟩, by rw [ht]; exact hP, hD⟩, hS.F ht⟩) hS.2.2 dX7_term_49
  · refine lv_aload_n hx hb dX7_term_0 rfl (lv_at hl 0 rfl) ?_
    refine lv_iload_n hx hb dX7_term_1 rfl (lv_at hl 1 rfl) ?_
    refine yw_i (w1 := fun (u : Nat → Nat → Int32) => wl ad kv cy N u) hD hS hA (va_runV (As := [.int x0]) (rest := []) ⟨hx, hb, hml, hown, hts⟩ (g_X7_isCase l dC dI cy _ ad kv N hN v hv x0) (cwV 1 hts gX7_term_X7_isCase rfl rfl rfl (by decide +kernel) ⟨Nat.le_of_ble_eq_true rfl, Nat.le_of_ble_eq_true rfl⟩) (yw_preV hE hK hP hD (ci := 7) (q0 := 0) rfl (wl_at (by omega) (ce_0 (by decide)))) rfl rfl hl.1 rfl (lv_room (Nat.le_of_ble_eq_true rfl)) dX7_term_2 ⟨Nat.le_of_ble_eq_true rfl, Nat.le_of_ble_eq_true rfl⟩) (fun r_27 v_27 H locs hw_27 hP hD hS => ?_)
    obtain ⟨hv, hw_27⟩ := hw_27
    obtain ⟨hu_27, hw_27⟩ := hw_27
    have hfr : Fr v v_27 := by rw [hu_27]; exact hfr
    rcases hw_27 with ⟨rfl, ha_28⟩ | ⟨rfl, -⟩
    · have hb_28 := hv.at (k := 13) (j := 2) (K := 3) (by decide) rfl
      have hb_28 : 0 ≤ x0.toInt ∧ x0.toInt < 6 := by omega
      refine lv_if_eq (tgt := 48) hx hb dX7_term_5 (by decide) (fun c9 => absurd c9 (by decide)) (fun _ => ?_)
      refine lv_iload_n hx hb dX7_term_8 rfl (lv_at hl 2 rfl) ?_
      refine yc_p hP hS (va_runS (As := [.int x1]) (rest := []) ⟨hx, hb, hml, hown, hts⟩ (c_X7_isSide l x1) (cwS 1 hts gX7_term_X7_isSide rfl rfl rfl (by decide +kernel) ⟨Nat.le_of_ble_eq_true rfl, Nat.le_of_ble_eq_true rfl⟩) ex_preP rfl rfl hl.1 rfl (lv_room (Nat.le_of_ble_eq_true rfl)) dX7_term_9 ⟨Nat.le_of_ble_eq_true rfl, Nat.le_of_ble_eq_true rfl⟩) (fun r_29 H locs hw_29 hP hS => ?_)
      rcases wi_ca hw_29 with ⟨rfl, hc_30⟩ | ⟨rfl, hc_30⟩
      · have k_0 : (0 : Int32).toInt = 0 := by decide
        have k_1 : (1 : Int32).toInt = 1 := by decide
        have tc_30 := wi_tl hc_30
        refine lv_if_eq (tgt := 48) hx hb dX7_term_12 (by decide) (fun c9 => absurd c9 (by decide)) (fun _ => ?_)
        refine lv_iload hx hb dX7_term_15 (lv_at hl 4 rfl) ?_
        refine lv_iconst (v := 0) hx hb dX7_term_17 (by decide) ?_
        refine lv_iconst (v := 5) hx hb dX7_term_18 (by decide) ?_
        refine yc_p hP hS (va_runS (As := [.int x3, .int 0, .int 5]) (rest := []) ⟨hx, hb, hml, hown, hts⟩ (c_X7_isWithin l x3 0 5) (cwS 3 hts gX7_term_X7_isWithin rfl rfl rfl (by decide +kernel) ⟨Nat.le_of_ble_eq_true rfl, Nat.le_of_ble_eq_true rfl⟩) ex_preP rfl rfl hl.1 rfl (lv_room (Nat.le_of_ble_eq_true rfl)) dX7_term_19 ⟨Nat.le_of_ble_eq_true rfl, Nat.le_of_ble_eq_true rfl⟩) (fun r_31 H locs hw_31 hP hS => ?_)
        rcases wi_ca hw_31 with ⟨rfl, hc_32⟩ | ⟨rfl, hc_32⟩
        · have k_5 : (5 : Int32).toInt = 5 := by decide
          have tc_32 := wi_tl hc_32
          refine lv_if_eq (tgt := 48) hx hb dX7_term_22 (by decide) (fun c9 => absurd c9 (by decide)) (fun _ => ?_)
          refine lv_iload hx hb dX7_term_25 (lv_at hl 5 rfl) ?_
          refine yc_p hP hS (va_runS (As := [.int x4]) (rest := []) ⟨hx, hb, hml, hown, hts⟩ (c_X7_isHour l x4) (cwS 1 hts gX7_term_X7_isHour rfl rfl rfl (by decide +kernel) ⟨Nat.le_of_ble_eq_true rfl, Nat.le_of_ble_eq_true rfl⟩) ex_preP rfl rfl hl.1 rfl (lv_room (Nat.le_of_ble_eq_true rfl)) dX7_term_27 ⟨Nat.le_of_ble_eq_true rfl, Nat.le_of_ble_eq_true rfl⟩) (fun r_33 H locs hw_33 hP hS => ?_)
          rcases wi_ca hw_33 with ⟨rfl, hc_34⟩ | ⟨rfl, hc_34⟩
          · have k_23 : (23 : Int32).toInt = 23 := by decide
            have tc_34 := wi_tl hc_34
            refine lv_if_eq (tgt := 48) hx hb dX7_term_30 (by decide) (fun c9 => absurd c9 (by decide)) (fun _ => ?_)
            refine lv_iload hx hb dX7_term_33 (lv_at hl 6 rfl) ?_
            refine yc_p hP hS (va_runS (As := [.int x5]) (rest := []) ⟨hx, hb, hml, hown, hts⟩ (c_X7_isHour l x5) (cwS 1 hts gX7_term_X7_isHour rfl rfl rfl (by decide +kernel) ⟨Nat.le_of_ble_eq_true rfl, Nat.le_of_ble_eq_true rfl⟩) ex_preP rfl rfl hl.1 rfl (lv_room (Nat.le_of_ble_eq_true rfl)) dX7_term_35 ⟨Nat.le_of_ble_eq_true rfl, Nat.le_of_ble_eq_true rfl⟩) (fun r_35 H locs hw_35 hP hS => ?_)
            rcases wi_ca hw_35 with ⟨rfl, hc_36⟩ | ⟨rfl, hc_36⟩
            · have tc_36 := wi_tl hc_36
              refine lv_if_eq (tgt := 48) hx hb dX7_term_38 (by decide) (fun c9 => absurd c9 (by decide)) (fun _ => ?_)
              refine lv_iload hx hb dX7_term_41 (lv_at hl 5 rfl) ?_
              refine lv_iload hx hb dX7_term_43 (lv_at hl 6 rfl) ?_
              refine lv_icmp_le (tgt := 50) hx hb dX7_term_45 (by decide) (fun c_37 => ?_) (fun c_37 => ?_)
              · have tc_37 : x4.toInt ≤ x5.toInt := Int32.le_iff_toInt_le.mp c_37
                refine lv_aload_n hx hb dX7_term_50 rfl (lv_at hl 0 rfl) ?_
                refine va_get (D := (dC, dI)) (ci := 7) (v := .ref (ad 13)) (C := RX7) (T := TX7) (N := 5) hx hb hts (by decide +kernel) hown hK hP (0) (wl_at (by omega) (ce_0 (by decide))) rfl 0 (by decide) (hts (.fieldLink RX7 12 "QuietStairs" "now" "LQuietStairs$House;") (by decide +kernel)) (fun _ h9 => h9) rfl dX7_term_51 ?_
                refine va_get (D := (dC, dI)) (ci := 1) (v := .ref (ad 16)) (C := RX1) (T := TX1) (N := 7) hx hb hts (by decide +kernel) hown hK hP (13) (wl_at (by omega) (ce_3 (by decide))) rfl 6 (by decide) (hts (.fieldLink RX7 86 "QuietStairs$House" "cases" "[LQuietStairs$Case;") (by decide +kernel)) (fun _ h9 => h9) rfl dX7_term_54 ?_
                refine lv_iload_n hx hb dX7_term_57 rfl (lv_at hl 1 rfl) ?_
                obtain ⟨pi38, i38, hi38, ni38, mi38⟩ := t_in (x := x0) (n := 6) ⟨by omega, by omega⟩
                refine va_aldq hx hb hK hP (16) 3 (wl_at (by omega) (ce_6 (by decide))) rfl pi38 dX7_term_58 ?_
                refine W.eq (g2 := F0 m 59 ls [.ref (ad (29 + 15 * i38))]) (by rw [ni38, if_pos hi38, show 16 + 13 + 15 * i38 = 29 + 15 * i38 from by omega]; rfl) ?_
                refine lv_astore (lv' := [(7, .ref (ad (29 + 15 * i38))), (0, .ref (ad 0)), (1, .int x0), (2, .int x1), (3, .int 1), (4, .int x3), (5, .int x4), (6, .int x5)]) hx hb dX7_term_59 hl (by decide) rfl (fun ls hl => ?_)
                refine lv_aload hx hb dX7_term_61 (lv_at hl 0 rfl) ?_
                refine va_get (D := (dC, dI)) (ci := 0) (v := .int (v_27 (29 + 15 * i38) 0)) (C := RX0) (T := TX0) (N := 11) hx hb hts (by decide +kernel) hown hK hP (29 + 15 * i38) (wl_at (by omega) (ce_9 (kd_c i38 hi38).1.1)) rfl 0 (by decide) (hts (.fieldLink RX7 99 "QuietStairs$Case" "state" "I") (by decide +kernel)) (fun _ h9 => h9) rfl dX7_term_63 ?_
                refine lv_topi (fun x_39 ex_39 => ?_)
                refine lv_iconst (v := 1) hx hb dX7_term_66 (by decide) ?_
                refine lv_icmp_eq (tgt := 73) hx hb dX7_term_67 (by decide) (fun c_40 => ?_) (fun c_40 => ?_)
                · have tc_40 : x_39.toInt = (1 : Int32).toInt := by rw [c_40]
                  refine lv_aload hx hb dX7_term_73 (lv_at hl 0 rfl) ?_
                  refine va_get (D := (dC, dI)) (ci := 0) (v := .int (v_27 (29 + 15 * i38) 5)) (C := RX0) (T := TX0) (N := 11) hx hb hts (by decide +kernel) hown hK hP (29 + 15 * i38) (wl_at (by omega) (ce_9 (kd_c i38 hi38).1.1)) rfl 5 (by decide) (hts (.fieldLink RX7 169 "QuietStairs$Case" "termCount" "I") (by decide +kernel)) (fun _ h9 => h9) rfl dX7_term_75 ?_
                  refine lv_topi (fun x_41 ex_41 => ?_)
                  have bx_41 : 0 ≤ x_41.toInt ∧ x_41.toInt ≤ 5 := by rw [ex_41]; exact hv.at (K := 9) (kd_c i38 hi38).1.1 rfl
                  refine lv_iconst (v := 5) hx hb dX7_term_78 (by decide) ?_
                  refine lv_icmp_lt (tgt := 85) hx hb dX7_term_79 (by decide) (fun c_42 => ?_) (fun c_42 => ?_)
                  · have tc_42 : x_41.toInt < (5 : Int32).toInt := Int32.lt_iff_toInt_lt.mp c_42
                    refine lv_aload hx hb dX7_term_85 (lv_at hl 0 rfl) ?_
                    refine va_get (D := (dC, dI)) (ci := 0) (v := .ref (ad (29 + 15 * i38 + 9))) (C := RX0) (T := TX0) (N := 11) hx hb hts (by decide +kernel) hown hK hP (29 + 15 * i38) (wl_at (by omega) (ce_9 (kd_c i38 hi38).1.1)) rfl 10 (by decide) (hts (.fieldLink RX7 172 "QuietStairs$Case" "terms" "[LQuietStairs$Term;") (by decide +kernel)) (fun _ h9 => h9) rfl dX7_term_87 ?_
                    refine W.eq (g2 := F0 m 90 ls [.ref (ad (38 + 15 * i38))]) (by rw [show 29 + 15 * i38 + 9 = 38 + 15 * i38 from by omega]) ?_
                    refine lv_aload hx hb dX7_term_90 (lv_at hl 0 rfl) ?_
                    refine va_get (D := (dC, dI)) (ci := 0) (v := .int (v_27 (29 + 15 * i38) 5)) (C := RX0) (T := TX0) (N := 11) hx hb hts (by decide +kernel) hown hK hP (29 + 15 * i38) (wl_at (by omega) (ce_9 (kd_c i38 hi38).1.1)) rfl 5 (by decide) (hts (.fieldLink RX7 169 "QuietStairs$Case" "termCount" "I") (by decide +kernel)) (fun _ h9 => h9) rfl dX7_term_92 ?_
                    refine lv_topi (fun x_43 ex_43 => ?_)
                    rw [← ex_41] at ex_43; replace ex_43 := ex_43.symm; subst ex_43
                    obtain ⟨pi44, i44, hi44, ni44, mi44⟩ := t_in (x := x_41) (n := 5) ⟨by omega, by omega⟩
                    refine va_aldq hx hb hK hP (38 + 15 * i38) 4 (wl_at (by omega) (ce_15 (kd_c i38 hi38).1.2.2.2.2.2)) rfl pi44 dX7_term_95 ?_
                    refine W.eq (g2 := F0 m 96 ls [.ref (ad (39 + 15 * i38 + i44))]) (by rw [ni44, if_pos hi44, show 38 + 15 * i38 + 1 + i44 = 39 + 15 * i38 + i44 from by omega]; rfl) ?_
                    refine lv_astore (lv' := [(8, .ref (ad (39 + 15 * i38 + i44))), (7, .ref (ad (29 + 15 * i38))), (0, .ref (ad 0)), (1, .int x0), (2, .int x1), (3, .int 1), (4, .int x3), (5, .int x4), (6, .int x5)]) hx hb dX7_term_96 hl (by decide) rfl (fun ls hl => ?_)
                    refine lv_aload hx hb dX7_term_98 (lv_at hl 0 rfl) ?_
                    refine lv_iload_n hx hb dX7_term_100 rfl (lv_at hl 4 rfl) ?_
                    refine va_put (D := (dC, dI)) (ci := 6) (v := .int x1) (ty := .int) (C := RX6) (T := TX6) (N := 5) hx hb hts (by decide +kernel) tyX6 tyX6_ok nmX6 hown hK hP hD hS (39 + 15 * i38 + i44) (wl_at (by omega) (ce_16 (kd_t i38 hi38 i44 hi44).1)) rfl 0 (by decide) (hts (.fieldLink RX7 176 "QuietStairs$Term" "side" "I") (by decide +kernel)) (fun _ h9 => h9) rfl (by decide +kernel) rfl rfl (Nat.le_of_ble_eq_true rfl) dX7_term_101 (fun H locs hP hD hS => ?_)
                    obtain ⟨v_45, ev_45⟩ : ∃ u : Nat → Nat → Int32, u = upr v_27 (39 + 15 * i38 + i44) (upd (v_27 (39 + 15 * i38 + i44)) 0 x1) := ⟨_, rfl⟩
                    have hP : va_P (dC, dI) vwCl (wl ad kv cy N v_45) H := by rw [ev_45, ← wl_put (e := _) (ce_16 (kd_t i38 hi38 i44 hi44).1)]; exact hP
                    have hD : va_D A (wl ad kv cy N v_45) := by rw [ev_45, ← wl_put (e := _) (ce_16 (kd_t i38 hi38 i44 hi44).1)]; exact hD
                    have hv : Iv v_45 := by rw [ev_45]; exact hv.put (K := 16) (kd_t i38 hi38 i44 hi44).1 (fun h q => by cases q; exact ⟨by omega, by omega⟩)
                    have hfr : Fr v v_45 := by rw [ev_45]; exact hfr.put (by omega) (by omega) (by omega)
                    refine lv_aload hx hb dX7_term_104 (lv_at hl 0 rfl) ?_
                    refine lv_iload_n hx hb dX7_term_106 rfl (lv_at hl 5 rfl) ?_
                    refine va_put (D := (dC, dI)) (ci := 6) (v := .int 1) (ty := .boolean) (C := RX6) (T := TX6) (N := 5) hx hb hts (by decide +kernel) tyX6 tyX6_ok nmX6 hown hK hP hD hS (39 + 15 * i38 + i44) (wl_at (by omega) (ce_16 (kd_t i38 hi38 i44 hi44).1)) rfl 1 (by decide) (hts (.fieldLink RX7 181 "QuietStairs$Term" "must" "Z") (by decide +kernel)) (fun _ h9 => h9) rfl (by decide +kernel) rfl rfl (Nat.le_of_ble_eq_true rfl) dX7_term_107 (fun H locs hP hD hS => ?_)
                    obtain ⟨v_46, ev_46⟩ : ∃ u : Nat → Nat → Int32, u = upr v_45 (39 + 15 * i38 + i44) (upd (v_45 (39 + 15 * i38 + i44)) 1 1) := ⟨_, rfl⟩
                    have hP : va_P (dC, dI) vwCl (wl ad kv cy N v_46) H := by rw [ev_46, ← wl_put (e := _) (ce_16 (kd_t i38 hi38 i44 hi44).1)]; exact hP
                    have hD : va_D A (wl ad kv cy N v_46) := by rw [ev_46, ← wl_put (e := _) (ce_16 (kd_t i38 hi38 i44 hi44).1)]; exact hD
                    have hv : Iv v_46 := by rw [ev_46]; exact hv.put (K := 16) (kd_t i38 hi38 i44 hi44).1 (fun h q => by cases q; exact ⟨by omega, by omega⟩)
                    have hfr : Fr v v_46 := by rw [ev_46]; exact hfr.put (by omega) (by omega) (by omega)
                    refine lv_aload hx hb dX7_term_110 (lv_at hl 0 rfl) ?_
                    refine lv_iload hx hb dX7_term_112 (lv_at hl 6 rfl) ?_
                    refine va_put (D := (dC, dI)) (ci := 6) (v := .int x3) (ty := .int) (C := RX6) (T := TX6) (N := 5) hx hb hts (by decide +kernel) tyX6 tyX6_ok nmX6 hown hK hP hD hS (39 + 15 * i38 + i44) (wl_at (by omega) (ce_16 (kd_t i38 hi38 i44 hi44).1)) rfl 2 (by decide) (hts (.fieldLink RX7 185 "QuietStairs$Term" "act" "I") (by decide +kernel)) (fun _ h9 => h9) rfl (by decide +kernel) rfl rfl (Nat.le_of_ble_eq_true rfl) dX7_term_114 (fun H locs hP hD hS => ?_)
                    obtain ⟨v_47, ev_47⟩ : ∃ u : Nat → Nat → Int32, u = upr v_46 (39 + 15 * i38 + i44) (upd (v_46 (39 + 15 * i38 + i44)) 2 x3) := ⟨_, rfl⟩
                    have hP : va_P (dC, dI) vwCl (wl ad kv cy N v_47) H := by rw [ev_47, ← wl_put (e := _) (ce_16 (kd_t i38 hi38 i44 hi44).1)]; exact hP
                    have hD : va_D A (wl ad kv cy N v_47) := by rw [ev_47, ← wl_put (e := _) (ce_16 (kd_t i38 hi38 i44 hi44).1)]; exact hD
                    have hv : Iv v_47 := by rw [ev_47]; exact hv.put (K := 16) (kd_t i38 hi38 i44 hi44).1 (fun h q => by simp [bd] at q)
                    have hfr : Fr v v_47 := by rw [ev_47]; exact hfr.put (by omega) (by omega) (by omega)
                    refine lv_aload hx hb dX7_term_117 (lv_at hl 0 rfl) ?_
                    refine lv_iload hx hb dX7_term_119 (lv_at hl 7 rfl) ?_
                    refine va_put (D := (dC, dI)) (ci := 6) (v := .int x4) (ty := .int) (C := RX6) (T := TX6) (N := 5) hx hb hts (by decide +kernel) tyX6 tyX6_ok nmX6 hown hK hP hD hS (39 + 15 * i38 + i44) (wl_at (by omega) (ce_16 (kd_t i38 hi38 i44 hi44).1)) rfl 3 (by decide) (hts (.fieldLink RX7 188 "QuietStairs$Term" "first" "I") (by decide +kernel)) (fun _ h9 => h9) rfl (by decide +kernel) rfl rfl (Nat.le_of_ble_eq_true rfl) dX7_term_121 (fun H locs hP hD hS => ?_)
                    obtain ⟨v_48, ev_48⟩ : ∃ u : Nat → Nat → Int32, u = upr v_47 (39 + 15 * i38 + i44) (upd (v_47 (39 + 15 * i38 + i44)) 3 x4) := ⟨_, rfl⟩
                    have hP : va_P (dC, dI) vwCl (wl ad kv cy N v_48) H := by rw [ev_48, ← wl_put (e := _) (ce_16 (kd_t i38 hi38 i44 hi44).1)]; exact hP
                    have hD : va_D A (wl ad kv cy N v_48) := by rw [ev_48, ← wl_put (e := _) (ce_16 (kd_t i38 hi38 i44 hi44).1)]; exact hD
                    have hv : Iv v_48 := by rw [ev_48]; exact hv.put (K := 16) (kd_t i38 hi38 i44 hi44).1 (fun h q => by cases q; exact ⟨by omega, by omega⟩)
                    have hfr : Fr v v_48 := by rw [ev_48]; exact hfr.put (by omega) (by omega) (by omega)
                    refine lv_aload hx hb dX7_term_124 (lv_at hl 0 rfl) ?_
                    refine lv_iload hx hb dX7_term_126 (lv_at hl 8 rfl) ?_
                    refine va_put (D := (dC, dI)) (ci := 6) (v := .int x5) (ty := .int) (C := RX6) (T := TX6) (N := 5) hx hb hts (by decide +kernel) tyX6 tyX6_ok nmX6 hown hK hP hD hS (39 + 15 * i38 + i44) (wl_at (by omega) (ce_16 (kd_t i38 hi38 i44 hi44).1)) rfl 4 (by decide) (hts (.fieldLink RX7 191 "QuietStairs$Term" "last" "I") (by decide +kernel)) (fun _ h9 => h9) rfl (by decide +kernel) rfl rfl (Nat.le_of_ble_eq_true rfl) dX7_term_128 (fun H locs hP hD hS => ?_)
                    obtain ⟨v_49, ev_49⟩ : ∃ u : Nat → Nat → Int32, u = upr v_48 (39 + 15 * i38 + i44) (upd (v_48 (39 + 15 * i38 + i44)) 4 x5) := ⟨_, rfl⟩
                    have hP : va_P (dC, dI) vwCl (wl ad kv cy N v_49) H := by rw [ev_49, ← wl_put (e := _) (ce_16 (kd_t i38 hi38 i44 hi44).1)]; exact hP
                    have hD : va_D A (wl ad kv cy N v_49) := by rw [ev_49, ← wl_put (e := _) (ce_16 (kd_t i38 hi38 i44 hi44).1)]; exact hD
                    have hv : Iv v_49 := by rw [ev_49]; exact hv.put (K := 16) (kd_t i38 hi38 i44 hi44).1 (fun h q => by cases q; exact ⟨by omega, by omega⟩)
                    have hfr : Fr v v_49 := by rw [ev_49]; exact hfr.put (by omega) (by omega) (by omega)
                    refine lv_aload hx hb dX7_term_131 (lv_at hl 1 rfl) ?_
                    refine lv_dup hx hb dX7_term_133 rfl ?_
                    refine va_get (D := (dC, dI)) (ci := 0) (v := .int (v_49 (29 + 15 * i38) 5)) (C := RX0) (T := TX0) (N := 11) hx hb hts (by decide +kernel) hown hK hP (29 + 15 * i38) (wl_at (by omega) (ce_9 (kd_c i38 hi38).1.1)) rfl 5 (by decide) (hts (.fieldLink RX7 169 "QuietStairs$Case" "termCount" "I") (by decide +kernel)) (fun _ h9 => h9) rfl dX7_term_134 ?_
                    refine lv_topi (fun x_50 ex_50 => ?_)
                    rw [ev_49, upr_n (by omega)] at ex_50
                    rw [ev_48, upr_n (by omega)] at ex_50
                    rw [ev_47, upr_n (by omega)] at ex_50
                    rw [ev_46, upr_n (by omega)] at ex_50
                    rw [ev_45, upr_n (by omega)] at ex_50
                    rw [← ex_41] at ex_50; replace ex_50 := ex_50.symm; subst ex_50
                    refine lv_dup_x1 hx hb dX7_term_137 rfl rfl ?_
                    refine lv_iconst (v := 1) hx hb dX7_term_138 (by decide) ?_
                    refine lv_iadd hx hb dX7_term_139 ?_
                    refine lv_topi (fun x_51 ex_51 => ?_)
                    have tx_51 : x_51.toInt = x_41.toInt + (1 : Int32).toInt := by rw [ex_51]; exact t_add ⟨by omega, by omega⟩
                    refine va_put (D := (dC, dI)) (ci := 0) (v := .int x_51) (ty := .int) (C := RX0) (T := TX0) (N := 11) hx hb hts (by decide +kernel) tyX0 tyX0_ok nmX0 hown hK hP hD hS (29 + 15 * i38) (wl_at (by omega) (ce_9 (kd_c i38 hi38).1.1)) rfl 5 (by decide) (hts (.fieldLink RX7 169 "QuietStairs$Case" "termCount" "I") (by decide +kernel)) (fun _ h9 => h9) rfl (by decide +kernel) rfl rfl (Nat.le_of_ble_eq_true rfl) dX7_term_140 (fun H locs hP hD hS => ?_)
                    obtain ⟨v_52, ev_52⟩ : ∃ u : Nat → Nat → Int32, u = upr v_49 (29 + 15 * i38) (upd (v_49 (29 + 15 * i38)) 5 x_51) := ⟨_, rfl⟩
                    have hP : va_P (dC, dI) vwCl (wl ad kv cy N v_52) H := by rw [ev_52, ← wl_put (e := _) (ce_9 (kd_c i38 hi38).1.1)]; exact hP
                    have hD : va_D A (wl ad kv cy N v_52) := by rw [ev_52, ← wl_put (e := _) (ce_9 (kd_c i38 hi38).1.1)]; exact hD
                    have hv : Iv v_52 := by rw [ev_52]; exact hv.put (K := 9) (kd_c i38 hi38).1.1 (fun h q => by cases q; exact ⟨by omega, by omega⟩)
                    have hfr : Fr v v_52 := by rw [ev_52]; exact hfr.put (by omega) (by omega) (by omega)
                    exact W.iret (v := x_41) hx hb hr (fun t ht hW => ⟨⟨x_41, v_52, rfl, ⟨hv, hfr⟩, by rw [ht]; exact hP, hD⟩, hS.F ht⟩) hS.2.2 dX7_term_143
                  · have tc_42 : x_41.toInt ≥ (5 : Int32).toInt := Int32.le_iff_toInt_le.mp (Int32.not_lt.mp c_42)
                    refine lv_bipush (v := (-2)) hx hb dX7_term_82 (by decide) ?_
                    exact W.iret (v := (-2)) hx hb hr (fun t ht hW => ⟨⟨(-2), v_27, rfl, ⟨hv, hfr⟩, by rw [ht]; exact hP, hD⟩, hS.F ht⟩) hS.2.2 dX7_term_84
                · have tc_40 : x_39.toInt ≠ (1 : Int32).toInt := fun q => absurd (Int32.toInt_inj.mp q) c_40
                  refine lv_bipush (v := (-4)) hx hb dX7_term_70 (by decide) ?_
                  exact W.iret (v := (-4)) hx hb hr (fun t ht hW => ⟨⟨(-4), v_27, rfl, ⟨hv, hfr⟩, by rw [ht]; exact hP, hD⟩, hS.F ht⟩) hS.2.2 dX7_term_72
              · have tc_37 : x4.toInt > x5.toInt := Int32.lt_iff_toInt_lt.mp (Int32.not_le.mp c_37)
                refine lv_iconst (v := (-1)) hx hb dX7_term_48 (by decide) ?_
                exact W.iret (v := (-1)) hx hb hr (fun t ht hW => ⟨⟨(-1), v_27, rfl, ⟨hv, hfr⟩, by rw [ht]; exact hP, hD⟩, hS.F ht⟩) hS.2.2 dX7_term_49
            · refine lv_if_eq (tgt := 48) hx hb dX7_term_38 (by decide) (fun _ => ?_) (fun c9 => absurd c9 (by decide))
              refine lv_iconst (v := (-1)) hx hb dX7_term_48 (by decide) ?_
              exact W.iret (v := (-1)) hx hb hr (fun t ht hW => ⟨⟨(-1), v_27, rfl, ⟨hv, hfr⟩, by rw [ht]; exact hP, hD⟩, hS.F ht⟩) hS.2.2 dX7_term_49
          · refine lv_if_eq (tgt := 48) hx hb dX7_term_30 (by decide) (fun _ => ?_) (fun c9 => absurd c9 (by decide))
            refine lv_iconst (v := (-1)) hx hb dX7_term_48 (by decide) ?_
            exact W.iret (v := (-1)) hx hb hr (fun t ht hW => ⟨⟨(-1), v_27, rfl, ⟨hv, hfr⟩, by rw [ht]; exact hP, hD⟩, hS.F ht⟩) hS.2.2 dX7_term_49
        · refine lv_if_eq (tgt := 48) hx hb dX7_term_22 (by decide) (fun _ => ?_) (fun c9 => absurd c9 (by decide))
          refine lv_iconst (v := (-1)) hx hb dX7_term_48 (by decide) ?_
          exact W.iret (v := (-1)) hx hb hr (fun t ht hW => ⟨⟨(-1), v_27, rfl, ⟨hv, hfr⟩, by rw [ht]; exact hP, hD⟩, hS.F ht⟩) hS.2.2 dX7_term_49
      · refine lv_if_eq (tgt := 48) hx hb dX7_term_12 (by decide) (fun _ => ?_) (fun c9 => absurd c9 (by decide))
        refine lv_iconst (v := (-1)) hx hb dX7_term_48 (by decide) ?_
        exact W.iret (v := (-1)) hx hb hr (fun t ht hW => ⟨⟨(-1), v_27, rfl, ⟨hv, hfr⟩, by rw [ht]; exact hP, hD⟩, hS.F ht⟩) hS.2.2 dX7_term_49
    · refine lv_if_eq (tgt := 48) hx hb dX7_term_5 (by decide) (fun _ => ?_) (fun c9 => absurd c9 (by decide))
      refine lv_iconst (v := (-1)) hx hb dX7_term_48 (by decide) ?_
      exact W.iret (v := (-1)) hx hb hr (fun t ht hW => ⟨⟨(-1), v_27, rfl, ⟨hv, hfr⟩, by rw [ht]; exact hP, hD⟩, hS.F ht⟩) hS.2.2 dX7_term_49

set_option maxHeartbeats 4000000 in
set_option maxRecDepth 100000 in
theorem g_X7_isTerm (l : Launch) (dC : Nat → ClassId) (dI : Nat → Nat → Nat) (cy : Nat → ClassId) (sz : Nat) (ad : Nat → Nat) (kv : Value) (N : Nat) (hN : 119 ≤ N) (v : Nat → Nat → Int32) (hv : Iv v) (x0 x1 : Int32) : Met l yX7_isTerm wsX7_isTerm ({ frames := 2, cells := 0, slots := 0, locals := 128 }) (va_Pc [.ref (ad 0), .int x0, .int x1] (ex_Pre dC dI cy sz (wl ad kv cy N v))) (va_Qi (fun (r : Int32) (u : Nat → Nat → Int32) => Iv u ∧ Fr v u ∧ ((r = 1 ∧ (0 ≤ x0.toInt ∧ x0.toInt < 6) ∧ (0 ≤ x1.toInt ∧ x1.toInt < 5)) ∨ r = 0)) (fun u t => ex_Pst dC dI (va_A (wl ad kv cy N v) sz) (wl ad kv cy N u) t) (va_A (wl ad kv cy N v) sz)) 0 0 (va_A (wl ad kv cy N v) sz) := by
  refine Met.ofW (cc := cX7_isTerm) (maxL := 3) (ret := (some .boolean)) (by decide) rfl ?_
  intro p e s m args below meth c s₁ B hml hv
  obtain ⟨rfl, hsz, hE, hP, hK, hD0⟩ := hv
  have hx := B.exec
  have hb := B.bytes
  have hr := B.returns
  have hts := atoms_spec (ws := wsX7_isTerm) B.pre
  have hown : s.vm.findClass RX7 = some m.cls := findClass_of_methodNamed B.named
  have hlocks := B.notSynchronized
  subst hsz
  have hD := hD0.self (sz := s.heap.size)
  generalize hAe : va_A (wl ad kv cy N v) s.heap.size = A at hD ⊢
  have hA : ∀ q : Nat, s.heap.size ≤ q → A q := fun q h => by rw [← hAe]; exact Or.inr h
  have hS : va_S A s.heap s.heap [] := va_S.rf
  have hP : va_P (dC, dI) vwCl (wl ad kv cy N v) s.heap := hP
  have hl := lv_entry ([.ref (ad 0), .int x0, .int x1]) (n := 3) (Nat.le_of_ble_eq_true rfl)
  rw [lg_entry_eq]
  generalize (lg_sl ([.ref (ad 0), .int x0, .int x1]) ++ List.replicate (3 - (lg_sl ([.ref (ad 0), .int x0, .int x1])).length) Slot.unset).toArray = ls at hl ⊢
  have hl : lv_has ls 3 [(0, .ref (ad 0)), (1, .int x0), (2, .int x1)] := hl
  have hfr : Fr v v := Fr.rf
  refine lv_aload_n hx hb dX7_isTerm_0 rfl (lv_at hl 0 rfl) ?_
  refine lv_iload_n hx hb dX7_isTerm_1 rfl (lv_at hl 1 rfl) ?_
  refine yw_i (w1 := fun (u : Nat → Nat → Int32) => wl ad kv cy N u) hD hS hA (va_runV (As := [.int x0]) (rest := []) ⟨hx, hb, hml, hown, hts⟩ (g_X7_isCase l dC dI cy _ ad kv N hN v hv x0) (cwV 1 hts gX7_isTerm_X7_isCase rfl rfl rfl (by decide +kernel) ⟨Nat.le_of_ble_eq_true rfl, Nat.le_of_ble_eq_true rfl⟩) (yw_preV hE hK hP hD (ci := 7) (q0 := 0) rfl (wl_at (by omega) (ce_0 (by decide)))) rfl rfl hl.1 rfl (lv_room (Nat.le_of_ble_eq_true rfl)) dX7_isTerm_2 ⟨Nat.le_of_ble_eq_true rfl, Nat.le_of_ble_eq_true rfl⟩) (fun r_1 v_1 H locs hw_1 hP hD hS => ?_)
  obtain ⟨hv, hw_1⟩ := hw_1
  obtain ⟨hu_1, hw_1⟩ := hw_1
  have hfr : Fr v v_1 := by rw [hu_1]; exact hfr
  rcases hw_1 with ⟨rfl, ha_2⟩ | ⟨rfl, -⟩
  · have hb_2 := hv.at (k := 13) (j := 2) (K := 3) (by decide) rfl
    have hb_2 : 0 ≤ x0.toInt ∧ x0.toInt < 6 := by omega
    refine lv_if_eq (tgt := 34) hx hb dX7_isTerm_5 (by decide) (fun c9 => absurd c9 (by decide)) (fun _ => ?_)
    refine lv_iload_n hx hb dX7_isTerm_8 rfl (lv_at hl 2 rfl) ?_
    refine lv_iconst (v := 0) hx hb dX7_isTerm_9 (by decide) ?_
    refine lv_aload_n hx hb dX7_isTerm_10 rfl (lv_at hl 0 rfl) ?_
    refine va_get (D := (dC, dI)) (ci := 7) (v := .ref (ad 13)) (C := RX7) (T := TX7) (N := 5) hx hb hts (by decide +kernel) hown hK hP (0) (wl_at (by omega) (ce_0 (by decide))) rfl 0 (by decide) (hts (.fieldLink RX7 12 "QuietStairs" "now" "LQuietStairs$House;") (by decide +kernel)) (fun _ h9 => h9) rfl dX7_isTerm_11 ?_
    refine va_get (D := (dC, dI)) (ci := 1) (v := .ref (ad 16)) (C := RX1) (T := TX1) (N := 7) hx hb hts (by decide +kernel) hown hK hP (13) (wl_at (by omega) (ce_3 (by decide))) rfl 6 (by decide) (hts (.fieldLink RX7 86 "QuietStairs$House" "cases" "[LQuietStairs$Case;") (by decide +kernel)) (fun _ h9 => h9) rfl dX7_isTerm_14 ?_
    refine lv_iload_n hx hb dX7_isTerm_17 rfl (lv_at hl 1 rfl) ?_
    obtain ⟨pi3, i3, hi3, ni3, mi3⟩ := t_in (x := x0) (n := 6) ⟨by omega, by omega⟩
    refine va_aldq hx hb hK hP (16) 3 (wl_at (by omega) (ce_6 (by decide))) rfl pi3 dX7_isTerm_18 ?_
    refine W.eq (g2 := F0 m 19 ls [.ref (ad (29 + 15 * i3)), .int 0, .int x1]) (by rw [ni3, if_pos hi3, show 16 + 13 + 15 * i3 = 29 + 15 * i3 from by omega]; rfl) ?_
    refine va_get (D := (dC, dI)) (ci := 0) (v := .int (v_1 (29 + 15 * i3) 5)) (C := RX0) (T := TX0) (N := 11) hx hb hts (by decide +kernel) hown hK hP (29 + 15 * i3) (wl_at (by omega) (ce_9 (kd_c i3 hi3).1.1)) rfl 5 (by decide) (hts (.fieldLink RX7 169 "QuietStairs$Case" "termCount" "I") (by decide +kernel)) (fun _ h9 => h9) rfl dX7_isTerm_19 ?_
    refine lv_topi (fun x_4 ex_4 => ?_)
    have bx_4 : 0 ≤ x_4.toInt ∧ x_4.toInt ≤ 5 := by rw [ex_4]; exact hv.at (K := 9) (kd_c i3 hi3).1.1 rfl
    refine lv_iconst (v := 1) hx hb dX7_isTerm_22 (by decide) ?_
    have k_1 : (1 : Int32).toInt = 1 := by decide
    refine lv_isub hx hb dX7_isTerm_23 ?_
    refine lv_topi (fun x_5 ex_5 => ?_)
    have tx_5 : x_5.toInt = x_4.toInt - (1 : Int32).toInt := by rw [ex_5]; exact t_sub ⟨by omega, by omega⟩
    refine yc_p hP hS (va_runS (As := [.int x1, .int 0, .int x_5]) (rest := []) ⟨hx, hb, hml, hown, hts⟩ (c_X7_isWithin l x1 0 x_5) (cwS 3 hts gX7_isTerm_X7_isWithin rfl rfl rfl (by decide +kernel) ⟨Nat.le_of_ble_eq_true rfl, Nat.le_of_ble_eq_true rfl⟩) ex_preP rfl rfl hl.1 rfl (lv_room (Nat.le_of_ble_eq_true rfl)) dX7_isTerm_24 ⟨Nat.le_of_ble_eq_true rfl, Nat.le_of_ble_eq_true rfl⟩) (fun r_6 H locs hw_6 hP hS => ?_)
    rcases wi_ca hw_6 with ⟨rfl, hc_7⟩ | ⟨rfl, hc_7⟩
    · have k_0 : (0 : Int32).toInt = 0 := by decide
      have tc_7 := wi_tl hc_7
      refine lv_if_eq (tgt := 34) hx hb dX7_isTerm_27 (by decide) (fun c9 => absurd c9 (by decide)) (fun _ => ?_)
      refine lv_iconst (v := 1) hx hb dX7_isTerm_30 (by decide) ?_
      refine lv_goto (tgt := 35) hx hb dX7_isTerm_31 (by decide) ?_
      exact W.zret (ty := .boolean) (v := 1) hx hb hr rfl (fun t ht hW => ⟨⟨1, v_1, rfl, ⟨hv, hfr, Or.inl ⟨rfl, ⟨by omega, by omega⟩, ⟨by omega, by omega⟩⟩⟩, by rw [ht]; exact hP, hD⟩, hS.F ht⟩) hS.2.2 dX7_isTerm_35
    · refine lv_if_eq (tgt := 34) hx hb dX7_isTerm_27 (by decide) (fun _ => ?_) (fun c9 => absurd c9 (by decide))
      refine lv_iconst (v := 0) hx hb dX7_isTerm_34 (by decide) ?_
      exact W.zret (ty := .boolean) (v := 0) hx hb hr rfl (fun t ht hW => ⟨⟨0, v_1, rfl, ⟨hv, hfr, Or.inr rfl⟩, by rw [ht]; exact hP, hD⟩, hS.F ht⟩) hS.2.2 dX7_isTerm_35
  · refine lv_if_eq (tgt := 34) hx hb dX7_isTerm_5 (by decide) (fun _ => ?_) (fun c9 => absurd c9 (by decide))
    refine lv_iconst (v := 0) hx hb dX7_isTerm_34 (by decide) ?_
    exact W.zret (ty := .boolean) (v := 0) hx hb hr rfl (fun t ht hW => ⟨⟨0, v_1, rfl, ⟨hv, hfr, Or.inr rfl⟩, by rw [ht]; exact hP, hD⟩, hS.F ht⟩) hS.2.2 dX7_isTerm_35
end
section
theorem dX0_hasMet_0 : decode cX0_hasMet 0 = .ok (.aload_n 0, 1) := by decide +kernel
theorem dX0_hasMet_1 : decode cX0_hasMet 1 = .ok (.getfield 33, 3) := by decide +kernel
theorem dX0_hasMet_4 : decode cX0_hasMet 4 = .ok (.iconst 1, 1) := by decide +kernel
theorem dX0_hasMet_5 : decode cX0_hasMet 5 = .ok (.if_icmp .ne 17, 3) := by decide +kernel
theorem dX0_hasMet_22 : decode cX0_hasMet 22 = .ok (.iconst 0, 1) := by decide +kernel
theorem dX0_hasMet_23 : decode cX0_hasMet 23 = .ok (.ireturn, 1) := by decide +kernel
theorem dX0_hasMet_8 : decode cX0_hasMet 8 = .ok (.iload_n 1, 1) := by decide +kernel
theorem dX0_hasMet_9 : decode cX0_hasMet 9 = .ok (.aload_n 0, 1) := by decide +kernel
theorem dX0_hasMet_10 : decode cX0_hasMet 10 = .ok (.getfield 40, 3) := by decide +kernel
theorem dX0_hasMet_13 : decode cX0_hasMet 13 = .ok (.iconst 1, 1) := by decide +kernel
theorem dX0_hasMet_14 : decode cX0_hasMet 14 = .ok (.isub, 1) := by decide +kernel
theorem dX0_hasMet_15 : decode cX0_hasMet 15 = .ok (.if_icmp .ne 7, 3) := by decide +kernel
theorem dX0_hasMet_18 : decode cX0_hasMet 18 = .ok (.iconst 1, 1) := by decide +kernel
theorem dX0_hasMet_19 : decode cX0_hasMet 19 = .ok (.goto 4, 3) := by decide +kernel
theorem dX0_leastOfOther_0 : decode cX0_leastOfOther 0 = .ok (.aload_n 0, 1) := by decide +kernel
theorem dX0_leastOfOther_1 : decode cX0_leastOfOther 1 = .ok (.getfield 20, 3) := by decide +kernel
theorem dX0_leastOfOther_4 : decode cX0_leastOfOther 4 = .ok (.iload_n 1, 1) := by decide +kernel
theorem dX0_leastOfOther_5 : decode cX0_leastOfOther 5 = .ok (.aaload, 1) := by decide +kernel
theorem dX0_leastOfOther_6 : decode cX0_leastOfOther 6 = .ok (.iload_n 2, 1) := by decide +kernel
theorem dX0_leastOfOther_7 : decode cX0_leastOfOther 7 = .ok (.iaload, 1) := by decide +kernel
theorem dX0_leastOfOther_8 : decode cX0_leastOfOther 8 = .ok (.istore_n 3, 1) := by decide +kernel
theorem dX0_leastOfOther_9 : decode cX0_leastOfOther 9 = .ok (.aload_n 0, 1) := by decide +kernel
theorem dX0_leastOfOther_10 : decode cX0_leastOfOther 10 = .ok (.iload_n 2, 1) := by decide +kernel
set_option maxRecDepth 20000 in
theorem ggX0_leastOfOther_X0_hasMet : GoodIn wsX0_leastOfOther wsX0_hasMet := goodIn_r _ [11, 12, 13, 14, 15, 16, 17, 18, 19, 20, 21, 22, 23, 24] (by decide +kernel) (by decide +kernel)
set_option maxRecDepth 20000 in
theorem gX0_leastOfOther_X0_hasMet : GoodIn wsX0_leastOfOther (wsV RX0 52 RX0 yX0_hasMet wsX0_hasMet) := goodIn_app (goodIn_of _ (by decide +kernel)) ggX0_leastOfOther_X0_hasMet
theorem dX0_leastOfOther_11 : decode cX0_leastOfOther 11 = .ok (.invokevirtual 52, 3) := by decide +kernel
theorem dX0_leastOfOther_14 : decode cX0_leastOfOther 14 = .ok (.ifCond .ne 15, 3) := by decide +kernel
theorem dX0_leastOfOther_17 : decode cX0_leastOfOther 17 = .ok (.iload_n 1, 1) := by decide +kernel
theorem dX0_leastOfOther_18 : decode cX0_leastOfOther 18 = .ok (.ifCond .ne 7, 3) := by decide +kernel
theorem dX0_leastOfOther_25 : decode cX0_leastOfOther 25 = .ok (.iload_n 3, 1) := by decide +kernel
theorem dX0_leastOfOther_26 : decode cX0_leastOfOther 26 = .ok (.iconst 1, 1) := by decide +kernel
theorem dX0_leastOfOther_27 : decode cX0_leastOfOther 27 = .ok (.iadd, 1) := by decide +kernel
theorem dX0_leastOfOther_28 : decode cX0_leastOfOther 28 = .ok (.ireturn, 1) := by decide +kernel
theorem dX0_leastOfOther_21 : decode cX0_leastOfOther 21 = .ok (.iconst 0, 1) := by decide +kernel
theorem dX0_leastOfOther_22 : decode cX0_leastOfOther 22 = .ok (.goto 6, 3) := by decide +kernel
theorem dX0_leastOfOther_29 : decode cX0_leastOfOther 29 = .ok (.iload_n 1, 1) := by decide +kernel
theorem dX0_leastOfOther_30 : decode cX0_leastOfOther 30 = .ok (.ifCond .ne 7, 3) := by decide +kernel
theorem dX0_leastOfOther_37 : decode cX0_leastOfOther 37 = .ok (.iconst 0, 1) := by decide +kernel
theorem dX0_leastOfOther_38 : decode cX0_leastOfOther 38 = .ok (.istore 4, 2) := by decide +kernel
theorem dX0_leastOfOther_40 : decode cX0_leastOfOther 40 = .ok (.iload 4, 2) := by decide +kernel
theorem dX0_leastOfOther_42 : decode cX0_leastOfOther 42 = .ok (.iconst 2, 1) := by decide +kernel
theorem dX0_leastOfOther_43 : decode cX0_leastOfOther 43 = .ok (.aload_n 0, 1) := by decide +kernel
theorem dX0_leastOfOther_44 : decode cX0_leastOfOther 44 = .ok (.getfield 37, 3) := by decide +kernel
theorem dX0_leastOfOther_47 : decode cX0_leastOfOther 47 = .ok (.imul, 1) := by decide +kernel
theorem dX0_leastOfOther_48 : decode cX0_leastOfOther 48 = .ok (.iload_n 3, 1) := by decide +kernel
theorem dX0_leastOfOther_49 : decode cX0_leastOfOther 49 = .ok (.isub, 1) := by decide +kernel
theorem dX0_leastOfOther_50 : decode cX0_leastOfOther 50 = .ok (.invokestatic 56, 3) := by decide +kernel
theorem dX0_leastOfOther_53 : decode cX0_leastOfOther 53 = .ok (.ireturn, 1) := by decide +kernel
theorem dX0_leastOfOther_33 : decode cX0_leastOfOther 33 = .ok (.iload_n 3, 1) := by decide +kernel
theorem dX0_leastOfOther_34 : decode cX0_leastOfOther 34 = .ok (.goto 4, 3) := by decide +kernel
theorem dX0_greatestOfOther_0 : decode cX0_greatestOfOther 0 = .ok (.aload_n 0, 1) := by decide +kernel
theorem dX0_greatestOfOther_1 : decode cX0_greatestOfOther 1 = .ok (.getfield 20, 3) := by decide +kernel
theorem dX0_greatestOfOther_4 : decode cX0_greatestOfOther 4 = .ok (.iload_n 1, 1) := by decide +kernel
theorem dX0_greatestOfOther_5 : decode cX0_greatestOfOther 5 = .ok (.aaload, 1) := by decide +kernel
theorem dX0_greatestOfOther_6 : decode cX0_greatestOfOther 6 = .ok (.iload_n 2, 1) := by decide +kernel
theorem dX0_greatestOfOther_7 : decode cX0_greatestOfOther 7 = .ok (.iaload, 1) := by decide +kernel
theorem dX0_greatestOfOther_8 : decode cX0_greatestOfOther 8 = .ok (.istore_n 3, 1) := by decide +kernel
theorem dX0_greatestOfOther_9 : decode cX0_greatestOfOther 9 = .ok (.aload_n 0, 1) := by decide +kernel
theorem dX0_greatestOfOther_10 : decode cX0_greatestOfOther 10 = .ok (.iload_n 2, 1) := by decide +kernel
set_option maxRecDepth 20000 in
theorem ggX0_greatestOfOther_X0_hasMet : GoodIn wsX0_greatestOfOther wsX0_hasMet := goodIn_r _ [11, 12, 13, 14, 15, 16, 17, 18, 19, 20, 21, 22, 23, 24] (by decide +kernel) (by decide +kernel)
set_option maxRecDepth 20000 in
theorem gX0_greatestOfOther_X0_hasMet : GoodIn wsX0_greatestOfOther (wsV RX0 52 RX0 yX0_hasMet wsX0_hasMet) := goodIn_app (goodIn_of _ (by decide +kernel)) ggX0_greatestOfOther_X0_hasMet
theorem dX0_greatestOfOther_11 : decode cX0_greatestOfOther 11 = .ok (.invokevirtual 52, 3) := by decide +kernel
theorem dX0_greatestOfOther_14 : decode cX0_greatestOfOther 14 = .ok (.ifCond .ne 16, 3) := by decide +kernel
theorem dX0_greatestOfOther_17 : decode cX0_greatestOfOther 17 = .ok (.iload_n 1, 1) := by decide +kernel
theorem dX0_greatestOfOther_18 : decode cX0_greatestOfOther 18 = .ok (.ifCond .ne 9, 3) := by decide +kernel
theorem dX0_greatestOfOther_27 : decode cX0_greatestOfOther 27 = .ok (.bipush 100, 2) := by decide +kernel
theorem dX0_greatestOfOther_29 : decode cX0_greatestOfOther 29 = .ok (.ireturn, 1) := by decide +kernel
theorem dX0_greatestOfOther_21 : decode cX0_greatestOfOther 21 = .ok (.iload_n 3, 1) := by decide +kernel
theorem dX0_greatestOfOther_22 : decode cX0_greatestOfOther 22 = .ok (.iconst 1, 1) := by decide +kernel
theorem dX0_greatestOfOther_23 : decode cX0_greatestOfOther 23 = .ok (.isub, 1) := by decide +kernel
theorem dX0_greatestOfOther_24 : decode cX0_greatestOfOther 24 = .ok (.goto 5, 3) := by decide +kernel
theorem dX0_greatestOfOther_30 : decode cX0_greatestOfOther 30 = .ok (.iload_n 1, 1) := by decide +kernel
theorem dX0_greatestOfOther_31 : decode cX0_greatestOfOther 31 = .ok (.ifCond .ne 8, 3) := by decide +kernel
theorem dX0_greatestOfOther_39 : decode cX0_greatestOfOther 39 = .ok (.iload_n 3, 1) := by decide +kernel
theorem dX0_greatestOfOther_40 : decode cX0_greatestOfOther 40 = .ok (.istore 4, 2) := by decide +kernel
theorem dX0_greatestOfOther_42 : decode cX0_greatestOfOther 42 = .ok (.iload 4, 2) := by decide +kernel
theorem dX0_greatestOfOther_44 : decode cX0_greatestOfOther 44 = .ok (.iconst 2, 1) := by decide +kernel
theorem dX0_greatestOfOther_45 : decode cX0_greatestOfOther 45 = .ok (.aload_n 0, 1) := by decide +kernel
theorem dX0_greatestOfOther_46 : decode cX0_greatestOfOther 46 = .ok (.getfield 37, 3) := by decide +kernel
theorem dX0_greatestOfOther_49 : decode cX0_greatestOfOther 49 = .ok (.imul, 1) := by decide +kernel
theorem dX0_greatestOfOther_50 : decode cX0_greatestOfOther 50 = .ok (.iconst 1, 1) := by decide +kernel
theorem dX0_greatestOfOther_51 : decode cX0_greatestOfOther 51 = .ok (.iadd, 1) := by decide +kernel
theorem dX0_greatestOfOther_52 : decode cX0_greatestOfOther 52 = .ok (.iload_n 3, 1) := by decide +kernel
theorem dX0_greatestOfOther_53 : decode cX0_greatestOfOther 53 = .ok (.isub, 1) := by decide +kernel
theorem dX0_greatestOfOther_54 : decode cX0_greatestOfOther 54 = .ok (.invokestatic 62, 3) := by decide +kernel
theorem dX0_greatestOfOther_57 : decode cX0_greatestOfOther 57 = .ok (.ireturn, 1) := by decide +kernel
theorem dX0_greatestOfOther_34 : decode cX0_greatestOfOther 34 = .ok (.bipush 100, 2) := by decide +kernel
theorem dX0_greatestOfOther_36 : decode cX0_greatestOfOther 36 = .ok (.goto 4, 3) := by decide +kernel
theorem dX0_endRound_0 : decode cX0_endRound 0 = .ok (.aload_n 0, 1) := by decide +kernel
theorem dX0_endRound_1 : decode cX0_endRound 1 = .ok (.getfield 15, 3) := by decide +kernel
theorem dX0_endRound_4 : decode cX0_endRound 4 = .ok (.iconst 0, 1) := by decide +kernel
theorem dX0_endRound_5 : decode cX0_endRound 5 = .ok (.iaload, 1) := by decide +kernel
theorem dX0_endRound_6 : decode cX0_endRound 6 = .ok (.istore_n 1, 1) := by decide +kernel
theorem dX0_endRound_7 : decode cX0_endRound 7 = .ok (.aload_n 0, 1) := by decide +kernel
theorem dX0_endRound_8 : decode cX0_endRound 8 = .ok (.getfield 15, 3) := by decide +kernel
theorem dX0_endRound_11 : decode cX0_endRound 11 = .ok (.iconst 1, 1) := by decide +kernel
theorem dX0_endRound_12 : decode cX0_endRound 12 = .ok (.iaload, 1) := by decide +kernel
theorem dX0_endRound_13 : decode cX0_endRound 13 = .ok (.istore_n 2, 1) := by decide +kernel
theorem dX0_endRound_14 : decode cX0_endRound 14 = .ok (.aload_n 0, 1) := by decide +kernel
theorem dX0_endRound_15 : decode cX0_endRound 15 = .ok (.getfield 40, 3) := by decide +kernel
theorem dX0_endRound_18 : decode cX0_endRound 18 = .ok (.iconst 5, 1) := by decide +kernel
theorem dX0_endRound_19 : decode cX0_endRound 19 = .ok (.if_icmp .ge 37, 3) := by decide +kernel
theorem dX0_endRound_56 : decode cX0_endRound 56 = .ok (.iload_n 2, 1) := by decide +kernel
theorem dX0_endRound_57 : decode cX0_endRound 57 = .ok (.iload_n 1, 1) := by decide +kernel
theorem dX0_endRound_58 : decode cX0_endRound 58 = .ok (.if_icmp .lt 19, 3) := by decide +kernel
theorem dX0_endRound_77 : decode cX0_endRound 77 = .ok (.aload_n 0, 1) := by decide +kernel
theorem dX0_endRound_78 : decode cX0_endRound 78 = .ok (.getfield 15, 3) := by decide +kernel
theorem dX0_endRound_81 : decode cX0_endRound 81 = .ok (.iconst 0, 1) := by decide +kernel
theorem dX0_endRound_82 : decode cX0_endRound 82 = .ok (.iconst (-1), 1) := by decide +kernel
theorem dX0_endRound_83 : decode cX0_endRound 83 = .ok (.iastore, 1) := by decide +kernel
theorem dX0_endRound_84 : decode cX0_endRound 84 = .ok (.aload_n 0, 1) := by decide +kernel
theorem dX0_endRound_85 : decode cX0_endRound 85 = .ok (.getfield 15, 3) := by decide +kernel
theorem dX0_endRound_88 : decode cX0_endRound 88 = .ok (.iconst 1, 1) := by decide +kernel
theorem dX0_endRound_89 : decode cX0_endRound 89 = .ok (.iconst (-1), 1) := by decide +kernel
theorem dX0_endRound_90 : decode cX0_endRound 90 = .ok (.iastore, 1) := by decide +kernel
theorem dX0_endRound_91 : decode cX0_endRound 91 = .ok (.iconst 0, 1) := by decide +kernel
theorem dX0_endRound_92 : decode cX0_endRound 92 = .ok (.ireturn, 1) := by decide +kernel
theorem dX0_endRound_61 : decode cX0_endRound 61 = .ok (.aload_n 0, 1) := by decide +kernel
theorem dX0_endRound_62 : decode cX0_endRound 62 = .ok (.iconst 1, 1) := by decide +kernel
theorem dX0_endRound_63 : decode cX0_endRound 63 = .ok (.putfield 33, 3) := by decide +kernel
theorem dX0_endRound_66 : decode cX0_endRound 66 = .ok (.aload_n 0, 1) := by decide +kernel
theorem dX0_endRound_67 : decode cX0_endRound 67 = .ok (.iload_n 1, 1) := by decide +kernel
theorem dX0_endRound_68 : decode cX0_endRound 68 = .ok (.iload_n 2, 1) := by decide +kernel
theorem dX0_endRound_69 : decode cX0_endRound 69 = .ok (.iadd, 1) := by decide +kernel
theorem dX0_endRound_70 : decode cX0_endRound 70 = .ok (.iconst 2, 1) := by decide +kernel
theorem dX0_endRound_71 : decode cX0_endRound 71 = .ok (.idiv, 1) := by decide +kernel
theorem dX0_endRound_72 : decode cX0_endRound 72 = .ok (.putfield 37, 3) := by decide +kernel
theorem dX0_endRound_75 : decode cX0_endRound 75 = .ok (.iconst 1, 1) := by decide +kernel
theorem dX0_endRound_76 : decode cX0_endRound 76 = .ok (.ireturn, 1) := by decide +kernel
theorem dX0_endRound_22 : decode cX0_endRound 22 = .ok (.aload_n 0, 1) := by decide +kernel
theorem dX0_endRound_23 : decode cX0_endRound 23 = .ok (.getfield 20, 3) := by decide +kernel
theorem dX0_endRound_26 : decode cX0_endRound 26 = .ok (.iconst 0, 1) := by decide +kernel
theorem dX0_endRound_27 : decode cX0_endRound 27 = .ok (.aaload, 1) := by decide +kernel
theorem dX0_endRound_28 : decode cX0_endRound 28 = .ok (.aload_n 0, 1) := by decide +kernel
theorem dX0_endRound_29 : decode cX0_endRound 29 = .ok (.getfield 40, 3) := by decide +kernel
theorem dX0_endRound_32 : decode cX0_endRound 32 = .ok (.iload_n 1, 1) := by decide +kernel
theorem dX0_endRound_33 : decode cX0_endRound 33 = .ok (.iastore, 1) := by decide +kernel
theorem dX0_endRound_34 : decode cX0_endRound 34 = .ok (.aload_n 0, 1) := by decide +kernel
theorem dX0_endRound_35 : decode cX0_endRound 35 = .ok (.getfield 20, 3) := by decide +kernel
theorem dX0_endRound_38 : decode cX0_endRound 38 = .ok (.iconst 1, 1) := by decide +kernel
theorem dX0_endRound_39 : decode cX0_endRound 39 = .ok (.aaload, 1) := by decide +kernel
theorem dX0_endRound_40 : decode cX0_endRound 40 = .ok (.aload_n 0, 1) := by decide +kernel
theorem dX0_endRound_41 : decode cX0_endRound 41 = .ok (.getfield 40, 3) := by decide +kernel
theorem dX0_endRound_44 : decode cX0_endRound 44 = .ok (.iload_n 2, 1) := by decide +kernel
theorem dX0_endRound_45 : decode cX0_endRound 45 = .ok (.iastore, 1) := by decide +kernel
theorem dX0_endRound_46 : decode cX0_endRound 46 = .ok (.aload_n 0, 1) := by decide +kernel
theorem dX0_endRound_47 : decode cX0_endRound 47 = .ok (.dup, 1) := by decide +kernel
theorem dX0_endRound_48 : decode cX0_endRound 48 = .ok (.getfield 40, 3) := by decide +kernel
theorem dX0_endRound_51 : decode cX0_endRound 51 = .ok (.iconst 1, 1) := by decide +kernel
theorem dX0_endRound_52 : decode cX0_endRound 52 = .ok (.iadd, 1) := by decide +kernel
theorem dX0_endRound_53 : decode cX0_endRound 53 = .ok (.putfield 40, 3) := by decide +kernel
set_option maxHeartbeats 4000000 in
set_option maxRecDepth 100000 in
theorem g_X0_hasMet (l : Launch) (dC : Nat → ClassId) (dI : Nat → Nat → Nat) (cy : Nat → ClassId) (sz : Nat) (ad : Nat → Nat) (kv : Value) (N : Nat) (hN : 119 ≤ N) (v : Nat → Nat → Int32) (hv : Iv v) (i : Nat) (hi : i < 6) (x0 : Int32) : Met l yX0_hasMet wsX0_hasMet ({ frames := 0, cells := 0, slots := 0, locals := 0 }) (va_Pc [.ref (ad (29 + 15 * i)), .int x0] (ex_Pre dC dI cy sz (wl ad kv cy N v))) (va_Qi (fun (r : Int32) (u : Nat → Nat → Int32) => Iv u ∧ Fr v u ∧ (r = 0 ∨ r = 1)) (fun u t => ex_Pst dC dI (va_A (wl ad kv cy N v) sz) (wl ad kv cy N u) t) (va_A (wl ad kv cy N v) sz)) 0 0 (va_A (wl ad kv cy N v) sz) := by
  refine Met.ofW (cc := cX0_hasMet) (maxL := 2) (ret := (some .boolean)) (by decide) rfl ?_
  intro p e s m args below meth c s₁ B hml hv
  obtain ⟨rfl, hsz, hE, hP, hK, hD0⟩ := hv
  have hx := B.exec
  have hb := B.bytes
  have hr := B.returns
  have hts := atoms_spec (ws := wsX0_hasMet) B.pre
  have hown : s.vm.findClass RX0 = some m.cls := findClass_of_methodNamed B.named
  have hlocks := B.notSynchronized
  subst hsz
  have hD := hD0.self (sz := s.heap.size)
  generalize hAe : va_A (wl ad kv cy N v) s.heap.size = A at hD ⊢
  have hA : ∀ q : Nat, s.heap.size ≤ q → A q := fun q h => by rw [← hAe]; exact Or.inr h
  have hS : va_S A s.heap s.heap [] := va_S.rf
  have hP : va_P (dC, dI) vwCl (wl ad kv cy N v) s.heap := hP
  have hl := lv_entry ([.ref (ad (29 + 15 * i)), .int x0]) (n := 2) (Nat.le_of_ble_eq_true rfl)
  rw [lg_entry_eq]
  generalize (lg_sl ([.ref (ad (29 + 15 * i)), .int x0]) ++ List.replicate (2 - (lg_sl ([.ref (ad (29 + 15 * i)), .int x0])).length) Slot.unset).toArray = ls at hl ⊢
  have hl : lv_has ls 2 [(0, .ref (ad (29 + 15 * i))), (1, .int x0)] := hl
  have hfr : Fr v v := Fr.rf
  refine lv_aload_n hx hb dX0_hasMet_0 rfl (lv_at hl 0 rfl) ?_
  refine va_get (D := (dC, dI)) (ci := 0) (v := .int (v (29 + 15 * i) 0)) (C := RX0) (T := TX0) (N := 11) hx hb hts (by decide +kernel) hown hK hP (29 + 15 * i) (wl_at (by omega) (ce_9 (kd_c i hi).1.1)) rfl 0 (by decide) (hts (.fieldLink RX0 33 "QuietStairs$Case" "state" "I") (by decide +kernel)) (fun _ h9 => h9) rfl dX0_hasMet_1 ?_
  refine lv_topi (fun x_1 ex_1 => ?_)
  refine lv_iconst (v := 1) hx hb dX0_hasMet_4 (by decide) ?_
  have k_1 : (1 : Int32).toInt = 1 := by decide
  refine lv_icmp_ne (tgt := 22) hx hb dX0_hasMet_5 (by decide) (fun c_2 => ?_) (fun c_2 => ?_)
  · have tc_2 : x_1.toInt ≠ (1 : Int32).toInt := fun q => absurd (Int32.toInt_inj.mp q) c_2
    refine lv_iconst (v := 0) hx hb dX0_hasMet_22 (by decide) ?_
    exact W.zret (ty := .boolean) (v := 0) hx hb hr rfl (fun t ht hW => ⟨⟨0, v, rfl, ⟨hv, hfr, by decide⟩, by rw [ht]; exact hP, hD⟩, hS.F ht⟩) hS.2.2 dX0_hasMet_23
  · have tc_2 : x_1.toInt = (1 : Int32).toInt := by rw [c_2]
    refine lv_iload_n hx hb dX0_hasMet_8 rfl (lv_at hl 1 rfl) ?_
    refine lv_aload_n hx hb dX0_hasMet_9 rfl (lv_at hl 0 rfl) ?_
    refine va_get (D := (dC, dI)) (ci := 0) (v := .int (v (29 + 15 * i) 2)) (C := RX0) (T := TX0) (N := 11) hx hb hts (by decide +kernel) hown hK hP (29 + 15 * i) (wl_at (by omega) (ce_9 (kd_c i hi).1.1)) rfl 2 (by decide) (hts (.fieldLink RX0 40 "QuietStairs$Case" "roundsOver" "I") (by decide +kernel)) (fun _ h9 => h9) rfl dX0_hasMet_10 ?_
    refine lv_topi (fun x_3 ex_3 => ?_)
    have bx_3 : 0 ≤ x_3.toInt ∧ x_3.toInt ≤ 5 := by rw [ex_3]; exact hv.at (K := 9) (kd_c i hi).1.1 rfl
    refine lv_iconst (v := 1) hx hb dX0_hasMet_13 (by decide) ?_
    refine lv_isub hx hb dX0_hasMet_14 ?_
    refine lv_topi (fun x_4 ex_4 => ?_)
    have tx_4 : x_4.toInt = x_3.toInt - (1 : Int32).toInt := by rw [ex_4]; exact t_sub ⟨by omega, by omega⟩
    refine lv_icmp_ne (tgt := 22) hx hb dX0_hasMet_15 (by decide) (fun c_5 => ?_) (fun c_5 => ?_)
    · have tc_5 : x0.toInt ≠ x_4.toInt := fun q => absurd (Int32.toInt_inj.mp q) c_5
      refine lv_iconst (v := 0) hx hb dX0_hasMet_22 (by decide) ?_
      exact W.zret (ty := .boolean) (v := 0) hx hb hr rfl (fun t ht hW => ⟨⟨0, v, rfl, ⟨hv, hfr, by decide⟩, by rw [ht]; exact hP, hD⟩, hS.F ht⟩) hS.2.2 dX0_hasMet_23
    · have tc_5 : x0.toInt = x_4.toInt := by rw [c_5]
      refine lv_iconst (v := 1) hx hb dX0_hasMet_18 (by decide) ?_
      refine lv_goto (tgt := 23) hx hb dX0_hasMet_19 (by decide) ?_
      exact W.zret (ty := .boolean) (v := 1) hx hb hr rfl (fun t ht hW => ⟨⟨1, v, rfl, ⟨hv, hfr, by decide⟩, by rw [ht]; exact hP, hD⟩, hS.F ht⟩) hS.2.2 dX0_hasMet_23

set_option maxHeartbeats 4000000 in
set_option maxRecDepth 100000 in
theorem g_X0_leastOfOther (l : Launch) (dC : Nat → ClassId) (dI : Nat → Nat → Nat) (cy : Nat → ClassId) (sz : Nat) (ad : Nat → Nat) (kv : Value) (N : Nat) (hN : 119 ≤ N) (v : Nat → Nat → Int32) (hv : Iv v) (i : Nat) (hi : i < 6) (x0 x1 : Int32) (hs : 0 ≤ x0.toInt ∧ x0.toInt ≤ 1) (ht : 0 ≤ x1.toInt ∧ x1.toInt ≤ 4) : Met l yX0_leastOfOther wsX0_leastOfOther ({ frames := 1, cells := 0, slots := 0, locals := 64 }) (va_Pc [.ref (ad (29 + 15 * i)), .int x0, .int x1] (ex_Pre dC dI cy sz (wl ad kv cy N v))) (va_Qi (fun (r : Int32) (u : Nat → Nat → Int32) => Iv u ∧ Fr v u) (fun u t => ex_Pst dC dI (va_A (wl ad kv cy N v) sz) (wl ad kv cy N u) t) (va_A (wl ad kv cy N v) sz)) 0 0 (va_A (wl ad kv cy N v) sz) := by
  refine Met.ofW (cc := cX0_leastOfOther) (maxL := 5) (ret := (some .int)) (by decide) rfl ?_
  intro p e s m args below meth c s₁ B hml hv
  obtain ⟨rfl, hsz, hE, hP, hK, hD0⟩ := hv
  have hx := B.exec
  have hb := B.bytes
  have hr := B.returns
  have hts := atoms_spec (ws := wsX0_leastOfOther) B.pre
  have hown : s.vm.findClass RX0 = some m.cls := findClass_of_methodNamed B.named
  have hlocks := B.notSynchronized
  subst hsz
  have hD := hD0.self (sz := s.heap.size)
  generalize hAe : va_A (wl ad kv cy N v) s.heap.size = A at hD ⊢
  have hA : ∀ q : Nat, s.heap.size ≤ q → A q := fun q h => by rw [← hAe]; exact Or.inr h
  have hS : va_S A s.heap s.heap [] := va_S.rf
  have hP : va_P (dC, dI) vwCl (wl ad kv cy N v) s.heap := hP
  have hl := lv_entry ([.ref (ad (29 + 15 * i)), .int x0, .int x1]) (n := 5) (Nat.le_of_ble_eq_true rfl)
  rw [lg_entry_eq]
  generalize (lg_sl ([.ref (ad (29 + 15 * i)), .int x0, .int x1]) ++ List.replicate (5 - (lg_sl ([.ref (ad (29 + 15 * i)), .int x0, .int x1])).length) Slot.unset).toArray = ls at hl ⊢
  have hl : lv_has ls 5 [(0, .ref (ad (29 + 15 * i))), (1, .int x0), (2, .int x1)] := hl
  have hfr : Fr v v := Fr.rf
  refine lv_aload_n hx hb dX0_leastOfOther_0 rfl (lv_at hl 0 rfl) ?_
  refine va_get (D := (dC, dI)) (ci := 0) (v := .ref (ad (29 + 15 * i + 3))) (C := RX0) (T := TX0) (N := 11) hx hb hts (by decide +kernel) hown hK hP (29 + 15 * i) (wl_at (by omega) (ce_9 (kd_c i hi).1.1)) rfl 8 (by decide) (hts (.fieldLink RX0 20 "QuietStairs$Case" "offers" "[[I") (by decide +kernel)) (fun _ h9 => h9) rfl dX0_leastOfOther_1 ?_
  refine W.eq (g2 := F0 m 4 ls [.ref (ad (32 + 15 * i))]) (by rw [show 29 + 15 * i + 3 = 32 + 15 * i from by omega]) ?_
  refine lv_iload_n hx hb dX0_leastOfOther_4 rfl (lv_at hl 1 rfl) ?_
  obtain ⟨pi1, i1, hi1, ni1, mi1⟩ := t_in (x := x0) (n := 2) ⟨by omega, by omega⟩
  refine ya_ald hx hb hK hP (32 + 15 * i) (wl_at (by omega) (ce_11 (kd_c i hi).1.2.2.2.1)) pi1 dX0_leastOfOther_5 ?_
  refine W.eq (g2 := F0 m 6 ls [.ref (ad (33 + 15 * i + i1))]) (by rw [ni1, if_pos hi1, show 32 + 15 * i + 1 + i1 = 33 + 15 * i + i1 from by omega]; rfl) ?_
  refine lv_iload_n hx hb dX0_leastOfOther_6 rfl (lv_at hl 2 rfl) ?_
  obtain ⟨pi2, i2, hi2, ni2, mi2⟩ := t_in (x := x1) (n := 5) ⟨by omega, by omega⟩
  refine va_iald hx hb hK hP (33 + 15 * i + i1) 0 (wl_at (by omega) (ce_12 (kd_o i hi i1 hi1).1.1)) rfl pi2 dX0_leastOfOther_7 ?_
  refine lv_topi (fun x_3 ex_3 => ?_)
  refine lv_istore_n (lv' := [(3, .int x_3), (0, .ref (ad (29 + 15 * i))), (1, .int x0), (2, .int x1)]) hx hb dX0_leastOfOther_8 rfl hl (by decide) rfl (fun ls hl => ?_)
  refine lv_aload_n hx hb dX0_leastOfOther_9 rfl (lv_at hl 1 rfl) ?_
  refine lv_iload_n hx hb dX0_leastOfOther_10 rfl (lv_at hl 3 rfl) ?_
  refine yw_i (w1 := fun (u : Nat → Nat → Int32) => wl ad kv cy N u) hD hS hA (va_runV (As := [.int x1]) (rest := []) ⟨hx, hb, hml, hown, hts⟩ (g_X0_hasMet l dC dI cy _ ad kv N hN v hv i hi x1) (cwV 1 hts gX0_leastOfOther_X0_hasMet rfl rfl rfl (by decide +kernel) ⟨Nat.le_of_ble_eq_true rfl, Nat.le_of_ble_eq_true rfl⟩) (yw_preV hE hK hP hD (ci := 0) (q0 := (29 + 15 * i)) rfl (wl_at (by omega) (ce_9 (kd_c i hi).1.1))) rfl rfl hl.1 rfl (lv_room (Nat.le_of_ble_eq_true rfl)) dX0_leastOfOther_11 ⟨Nat.le_of_ble_eq_true rfl, Nat.le_of_ble_eq_true rfl⟩) (fun r_4 v_4 H locs hw_4 hP hD hS => ?_)
  obtain ⟨hv, hw_4⟩ := hw_4
  have hfr : Fr v v_4 := hfr.trans hw_4.1
  rcases hw_4.2 with rfl | rfl
  · refine lv_if_ne (tgt := 29) hx hb dX0_leastOfOther_14 (by decide) (fun c9 => absurd c9 (by decide)) (fun _ => ?_)
    refine lv_iload_n hx hb dX0_leastOfOther_17 rfl (lv_at hl 2 rfl) ?_
    have k_0 : (0 : Int32).toInt = 0 := by decide
    refine lv_if_ne (tgt := 25) hx hb dX0_leastOfOther_18 (by decide) (fun c_5 => ?_) (fun c_5 => ?_)
    · have tc_5 : x0.toInt ≠ (0 : Int32).toInt := fun q => absurd (Int32.toInt_inj.mp q) c_5
      refine lv_iload_n hx hb dX0_leastOfOther_25 rfl (lv_at hl 0 rfl) ?_
      refine lv_iconst (v := 1) hx hb dX0_leastOfOther_26 (by decide) ?_
      have k_1 : (1 : Int32).toInt = 1 := by decide
      refine lv_iadd hx hb dX0_leastOfOther_27 ?_
      refine lv_topi (fun x_6 ex_6 => ?_)
      exact W.iret (v := x_6) hx hb hr (fun t ht hW => ⟨⟨x_6, v_4, rfl, ⟨hv, hfr⟩, by rw [ht]; exact hP, hD⟩, hS.F ht⟩) hS.2.2 dX0_leastOfOther_28
    · have tc_5 : x0.toInt = (0 : Int32).toInt := by rw [c_5]
      refine lv_iconst (v := 0) hx hb dX0_leastOfOther_21 (by decide) ?_
      refine lv_goto (tgt := 28) hx hb dX0_leastOfOther_22 (by decide) ?_
      exact W.iret (v := 0) hx hb hr (fun t ht hW => ⟨⟨0, v_4, rfl, ⟨hv, hfr⟩, by rw [ht]; exact hP, hD⟩, hS.F ht⟩) hS.2.2 dX0_leastOfOther_28
  · refine lv_if_ne (tgt := 29) hx hb dX0_leastOfOther_14 (by decide) (fun _ => ?_) (fun c9 => absurd c9 (by decide))
    refine lv_iload_n hx hb dX0_leastOfOther_29 rfl (lv_at hl 2 rfl) ?_
    have k_0 : (0 : Int32).toInt = 0 := by decide
    refine lv_if_ne (tgt := 37) hx hb dX0_leastOfOther_30 (by decide) (fun c_7 => ?_) (fun c_7 => ?_)
    · have tc_7 : x0.toInt ≠ (0 : Int32).toInt := fun q => absurd (Int32.toInt_inj.mp q) c_7
      refine lv_iconst (v := 0) hx hb dX0_leastOfOther_37 (by decide) ?_
      refine lv_istore (lv' := [(4, .int 0), (3, .int x_3), (0, .ref (ad (29 + 15 * i))), (1, .int x0), (2, .int x1)]) hx hb dX0_leastOfOther_38 hl (by decide) rfl (fun ls hl => ?_)
      refine lv_iload hx hb dX0_leastOfOther_40 (lv_at hl 0 rfl) ?_
      refine lv_iconst (v := 2) hx hb dX0_leastOfOther_42 (by decide) ?_
      refine lv_aload_n hx hb dX0_leastOfOther_43 rfl (lv_at hl 2 rfl) ?_
      refine va_get (D := (dC, dI)) (ci := 0) (v := .int (v_4 (29 + 15 * i) 1)) (C := RX0) (T := TX0) (N := 11) hx hb hts (by decide +kernel) hown hK hP (29 + 15 * i) (wl_at (by omega) (ce_9 (kd_c i hi).1.1)) rfl 1 (by decide) (hts (.fieldLink RX0 37 "QuietStairs$Case" "sum" "I") (by decide +kernel)) (fun _ h9 => h9) rfl dX0_leastOfOther_44 ?_
      refine lv_topi (fun x_8 ex_8 => ?_)
      refine lv_imul hx hb dX0_leastOfOther_47 ?_
      refine lv_topi (fun x_9 ex_9 => ?_)
      refine lv_iload_n hx hb dX0_leastOfOther_48 rfl (lv_at hl 1 rfl) ?_
      refine lv_isub hx hb dX0_leastOfOther_49 ?_
      refine lv_topi (fun x_10 ex_10 => ?_)
      refine va_mmax hx hb (hml.trans hl.1.symm) hown (hts (.methodLink RX0 56 Lib.Math.max.name) (by decide +kernel)) (hts (.static Lib.Math.max.name) (by decide +kernel)) (hts (.initialized "java/lang/Math") (by decide +kernel)) (hts (.code Lib.Math.max.name Lib.Math.max.code 2 (some .int)) (by decide +kernel)) (Nat.le_of_ble_eq_true rfl) (Nat.le_of_ble_eq_true rfl) (Nat.le_of_ble_eq_true rfl) (Nat.le_of_ble_eq_true rfl) dX0_leastOfOther_50 ?_
      refine lv_topi (fun x_11 ex_11 => ?_)
      exact W.iret (v := x_11) hx hb hr (fun t ht hW => ⟨⟨x_11, v_4, rfl, ⟨hv, hfr⟩, by rw [ht]; exact hP, hD⟩, hS.F ht⟩) hS.2.2 dX0_leastOfOther_53
    · have tc_7 : x0.toInt = (0 : Int32).toInt := by rw [c_7]
      refine lv_iload_n hx hb dX0_leastOfOther_33 rfl (lv_at hl 0 rfl) ?_
      refine lv_goto (tgt := 38) hx hb dX0_leastOfOther_34 (by decide) ?_
      refine lv_istore (lv' := [(4, .int x_3), (3, .int x_3), (0, .ref (ad (29 + 15 * i))), (1, .int x0), (2, .int x1)]) hx hb dX0_leastOfOther_38 hl (by decide) rfl (fun ls hl => ?_)
      refine lv_iload hx hb dX0_leastOfOther_40 (lv_at hl 0 rfl) ?_
      refine lv_iconst (v := 2) hx hb dX0_leastOfOther_42 (by decide) ?_
      refine lv_aload_n hx hb dX0_leastOfOther_43 rfl (lv_at hl 2 rfl) ?_
      refine va_get (D := (dC, dI)) (ci := 0) (v := .int (v_4 (29 + 15 * i) 1)) (C := RX0) (T := TX0) (N := 11) hx hb hts (by decide +kernel) hown hK hP (29 + 15 * i) (wl_at (by omega) (ce_9 (kd_c i hi).1.1)) rfl 1 (by decide) (hts (.fieldLink RX0 37 "QuietStairs$Case" "sum" "I") (by decide +kernel)) (fun _ h9 => h9) rfl dX0_leastOfOther_44 ?_
      refine lv_topi (fun x_8 ex_8 => ?_)
      refine lv_imul hx hb dX0_leastOfOther_47 ?_
      refine lv_topi (fun x_9 ex_9 => ?_)
      refine lv_iload_n hx hb dX0_leastOfOther_48 rfl (lv_at hl 1 rfl) ?_
      refine lv_isub hx hb dX0_leastOfOther_49 ?_
      refine lv_topi (fun x_10 ex_10 => ?_)
      refine va_mmax hx hb (hml.trans hl.1.symm) hown (hts (.methodLink RX0 56 Lib.Math.max.name) (by decide +kernel)) (hts (.static Lib.Math.max.name) (by decide +kernel)) (hts (.initialized "java/lang/Math") (by decide +kernel)) (hts (.code Lib.Math.max.name Lib.Math.max.code 2 (some .int)) (by decide +kernel)) (Nat.le_of_ble_eq_true rfl) (Nat.le_of_ble_eq_true rfl) (Nat.le_of_ble_eq_true rfl) (Nat.le_of_ble_eq_true rfl) dX0_leastOfOther_50 ?_
      refine lv_topi (fun x_11 ex_11 => ?_)
      exact W.iret (v := x_11) hx hb hr (fun t ht hW => ⟨⟨x_11, v_4, rfl, ⟨hv, hfr⟩, by rw [ht]; exact hP, hD⟩, hS.F ht⟩) hS.2.2 dX0_leastOfOther_53

set_option maxHeartbeats 4000000 in
set_option maxRecDepth 100000 in
theorem g_X0_greatestOfOther (l : Launch) (dC : Nat → ClassId) (dI : Nat → Nat → Nat) (cy : Nat → ClassId) (sz : Nat) (ad : Nat → Nat) (kv : Value) (N : Nat) (hN : 119 ≤ N) (v : Nat → Nat → Int32) (hv : Iv v) (i : Nat) (hi : i < 6) (x0 x1 : Int32) (hs : 0 ≤ x0.toInt ∧ x0.toInt ≤ 1) (ht : 0 ≤ x1.toInt ∧ x1.toInt ≤ 4) : Met l yX0_greatestOfOther wsX0_greatestOfOther ({ frames := 1, cells := 0, slots := 0, locals := 64 }) (va_Pc [.ref (ad (29 + 15 * i)), .int x0, .int x1] (ex_Pre dC dI cy sz (wl ad kv cy N v))) (va_Qi (fun (r : Int32) (u : Nat → Nat → Int32) => Iv u ∧ Fr v u) (fun u t => ex_Pst dC dI (va_A (wl ad kv cy N v) sz) (wl ad kv cy N u) t) (va_A (wl ad kv cy N v) sz)) 0 0 (va_A (wl ad kv cy N v) sz) := by
  refine Met.ofW (cc := cX0_greatestOfOther) (maxL := 5) (ret := (some .int)) (by decide) rfl ?_
  intro p e s m args below meth c s₁ B hml hv
  obtain ⟨rfl, hsz, hE, hP, hK, hD0⟩ := hv
  have hx := B.exec
  have hb := B.bytes
  have hr := B.returns
  have hts := atoms_spec (ws := wsX0_greatestOfOther) B.pre
  have hown : s.vm.findClass RX0 = some m.cls := findClass_of_methodNamed B.named
  have hlocks := B.notSynchronized
  subst hsz
  have hD := hD0.self (sz := s.heap.size)
  generalize hAe : va_A (wl ad kv cy N v) s.heap.size = A at hD ⊢
  have hA : ∀ q : Nat, s.heap.size ≤ q → A q := fun q h => by rw [← hAe]; exact Or.inr h
  have hS : va_S A s.heap s.heap [] := va_S.rf
  have hP : va_P (dC, dI) vwCl (wl ad kv cy N v) s.heap := hP
  have hl := lv_entry ([.ref (ad (29 + 15 * i)), .int x0, .int x1]) (n := 5) (Nat.le_of_ble_eq_true rfl)
  rw [lg_entry_eq]
  generalize (lg_sl ([.ref (ad (29 + 15 * i)), .int x0, .int x1]) ++ List.replicate (5 - (lg_sl ([.ref (ad (29 + 15 * i)), .int x0, .int x1])).length) Slot.unset).toArray = ls at hl ⊢
  have hl : lv_has ls 5 [(0, .ref (ad (29 + 15 * i))), (1, .int x0), (2, .int x1)] := hl
  have hfr : Fr v v := Fr.rf
  refine lv_aload_n hx hb dX0_greatestOfOther_0 rfl (lv_at hl 0 rfl) ?_
  refine va_get (D := (dC, dI)) (ci := 0) (v := .ref (ad (29 + 15 * i + 3))) (C := RX0) (T := TX0) (N := 11) hx hb hts (by decide +kernel) hown hK hP (29 + 15 * i) (wl_at (by omega) (ce_9 (kd_c i hi).1.1)) rfl 8 (by decide) (hts (.fieldLink RX0 20 "QuietStairs$Case" "offers" "[[I") (by decide +kernel)) (fun _ h9 => h9) rfl dX0_greatestOfOther_1 ?_
  refine W.eq (g2 := F0 m 4 ls [.ref (ad (32 + 15 * i))]) (by rw [show 29 + 15 * i + 3 = 32 + 15 * i from by omega]) ?_
  refine lv_iload_n hx hb dX0_greatestOfOther_4 rfl (lv_at hl 1 rfl) ?_
  obtain ⟨pi1, i1, hi1, ni1, mi1⟩ := t_in (x := x0) (n := 2) ⟨by omega, by omega⟩
  refine ya_ald hx hb hK hP (32 + 15 * i) (wl_at (by omega) (ce_11 (kd_c i hi).1.2.2.2.1)) pi1 dX0_greatestOfOther_5 ?_
  refine W.eq (g2 := F0 m 6 ls [.ref (ad (33 + 15 * i + i1))]) (by rw [ni1, if_pos hi1, show 32 + 15 * i + 1 + i1 = 33 + 15 * i + i1 from by omega]; rfl) ?_
  refine lv_iload_n hx hb dX0_greatestOfOther_6 rfl (lv_at hl 2 rfl) ?_
  obtain ⟨pi2, i2, hi2, ni2, mi2⟩ := t_in (x := x1) (n := 5) ⟨by omega, by omega⟩
  refine va_iald hx hb hK hP (33 + 15 * i + i1) 0 (wl_at (by omega) (ce_12 (kd_o i hi i1 hi1).1.1)) rfl pi2 dX0_greatestOfOther_7 ?_
  refine lv_topi (fun x_3 ex_3 => ?_)
  refine lv_istore_n (lv' := [(3, .int x_3), (0, .ref (ad (29 + 15 * i))), (1, .int x0), (2, .int x1)]) hx hb dX0_greatestOfOther_8 rfl hl (by decide) rfl (fun ls hl => ?_)
  refine lv_aload_n hx hb dX0_greatestOfOther_9 rfl (lv_at hl 1 rfl) ?_
  refine lv_iload_n hx hb dX0_greatestOfOther_10 rfl (lv_at hl 3 rfl) ?_
  refine yw_i (w1 := fun (u : Nat → Nat → Int32) => wl ad kv cy N u) hD hS hA (va_runV (As := [.int x1]) (rest := []) ⟨hx, hb, hml, hown, hts⟩ (g_X0_hasMet l dC dI cy _ ad kv N hN v hv i hi x1) (cwV 1 hts gX0_greatestOfOther_X0_hasMet rfl rfl rfl (by decide +kernel) ⟨Nat.le_of_ble_eq_true rfl, Nat.le_of_ble_eq_true rfl⟩) (yw_preV hE hK hP hD (ci := 0) (q0 := (29 + 15 * i)) rfl (wl_at (by omega) (ce_9 (kd_c i hi).1.1))) rfl rfl hl.1 rfl (lv_room (Nat.le_of_ble_eq_true rfl)) dX0_greatestOfOther_11 ⟨Nat.le_of_ble_eq_true rfl, Nat.le_of_ble_eq_true rfl⟩) (fun r_4 v_4 H locs hw_4 hP hD hS => ?_)
  obtain ⟨hv, hw_4⟩ := hw_4
  have hfr : Fr v v_4 := hfr.trans hw_4.1
  rcases hw_4.2 with rfl | rfl
  · refine lv_if_ne (tgt := 30) hx hb dX0_greatestOfOther_14 (by decide) (fun c9 => absurd c9 (by decide)) (fun _ => ?_)
    refine lv_iload_n hx hb dX0_greatestOfOther_17 rfl (lv_at hl 2 rfl) ?_
    have k_0 : (0 : Int32).toInt = 0 := by decide
    refine lv_if_ne (tgt := 27) hx hb dX0_greatestOfOther_18 (by decide) (fun c_5 => ?_) (fun c_5 => ?_)
    · have tc_5 : x0.toInt ≠ (0 : Int32).toInt := fun q => absurd (Int32.toInt_inj.mp q) c_5
      refine lv_bipush (v := 100) hx hb dX0_greatestOfOther_27 (by decide) ?_
      exact W.iret (v := 100) hx hb hr (fun t ht hW => ⟨⟨100, v_4, rfl, ⟨hv, hfr⟩, by rw [ht]; exact hP, hD⟩, hS.F ht⟩) hS.2.2 dX0_greatestOfOther_29
    · have tc_5 : x0.toInt = (0 : Int32).toInt := by rw [c_5]
      refine lv_iload_n hx hb dX0_greatestOfOther_21 rfl (lv_at hl 0 rfl) ?_
      refine lv_iconst (v := 1) hx hb dX0_greatestOfOther_22 (by decide) ?_
      have k_1 : (1 : Int32).toInt = 1 := by decide
      refine lv_isub hx hb dX0_greatestOfOther_23 ?_
      refine lv_topi (fun x_6 ex_6 => ?_)
      refine lv_goto (tgt := 29) hx hb dX0_greatestOfOther_24 (by decide) ?_
      exact W.iret (v := x_6) hx hb hr (fun t ht hW => ⟨⟨x_6, v_4, rfl, ⟨hv, hfr⟩, by rw [ht]; exact hP, hD⟩, hS.F ht⟩) hS.2.2 dX0_greatestOfOther_29
  · refine lv_if_ne (tgt := 30) hx hb dX0_greatestOfOther_14 (by decide) (fun _ => ?_) (fun c9 => absurd c9 (by decide))
    refine lv_iload_n hx hb dX0_greatestOfOther_30 rfl (lv_at hl 2 rfl) ?_
    have k_0 : (0 : Int32).toInt = 0 := by decide
    refine lv_if_ne (tgt := 39) hx hb dX0_greatestOfOther_31 (by decide) (fun c_7 => ?_) (fun c_7 => ?_)
    · have tc_7 : x0.toInt ≠ (0 : Int32).toInt := fun q => absurd (Int32.toInt_inj.mp q) c_7
      refine lv_iload_n hx hb dX0_greatestOfOther_39 rfl (lv_at hl 0 rfl) ?_
      refine lv_istore (lv' := [(4, .int x_3), (3, .int x_3), (0, .ref (ad (29 + 15 * i))), (1, .int x0), (2, .int x1)]) hx hb dX0_greatestOfOther_40 hl (by decide) rfl (fun ls hl => ?_)
      refine lv_iload hx hb dX0_greatestOfOther_42 (lv_at hl 0 rfl) ?_
      refine lv_iconst (v := 2) hx hb dX0_greatestOfOther_44 (by decide) ?_
      refine lv_aload_n hx hb dX0_greatestOfOther_45 rfl (lv_at hl 2 rfl) ?_
      refine va_get (D := (dC, dI)) (ci := 0) (v := .int (v_4 (29 + 15 * i) 1)) (C := RX0) (T := TX0) (N := 11) hx hb hts (by decide +kernel) hown hK hP (29 + 15 * i) (wl_at (by omega) (ce_9 (kd_c i hi).1.1)) rfl 1 (by decide) (hts (.fieldLink RX0 37 "QuietStairs$Case" "sum" "I") (by decide +kernel)) (fun _ h9 => h9) rfl dX0_greatestOfOther_46 ?_
      refine lv_topi (fun x_8 ex_8 => ?_)
      refine lv_imul hx hb dX0_greatestOfOther_49 ?_
      refine lv_topi (fun x_9 ex_9 => ?_)
      refine lv_iconst (v := 1) hx hb dX0_greatestOfOther_50 (by decide) ?_
      have k_1 : (1 : Int32).toInt = 1 := by decide
      refine lv_iadd hx hb dX0_greatestOfOther_51 ?_
      refine lv_topi (fun x_10 ex_10 => ?_)
      refine lv_iload_n hx hb dX0_greatestOfOther_52 rfl (lv_at hl 1 rfl) ?_
      refine lv_isub hx hb dX0_greatestOfOther_53 ?_
      refine lv_topi (fun x_11 ex_11 => ?_)
      refine va_mmin hx hb (hml.trans hl.1.symm) hown (hts (.methodLink RX0 62 Lib.Math.min.name) (by decide +kernel)) (hts (.static Lib.Math.min.name) (by decide +kernel)) (hts (.initialized "java/lang/Math") (by decide +kernel)) (hts (.code Lib.Math.min.name Lib.Math.min.code 2 (some .int)) (by decide +kernel)) (Nat.le_of_ble_eq_true rfl) (Nat.le_of_ble_eq_true rfl) (Nat.le_of_ble_eq_true rfl) (Nat.le_of_ble_eq_true rfl) dX0_greatestOfOther_54 ?_
      refine lv_topi (fun x_12 ex_12 => ?_)
      exact W.iret (v := x_12) hx hb hr (fun t ht hW => ⟨⟨x_12, v_4, rfl, ⟨hv, hfr⟩, by rw [ht]; exact hP, hD⟩, hS.F ht⟩) hS.2.2 dX0_greatestOfOther_57
    · have tc_7 : x0.toInt = (0 : Int32).toInt := by rw [c_7]
      refine lv_bipush (v := 100) hx hb dX0_greatestOfOther_34 (by decide) ?_
      refine lv_goto (tgt := 40) hx hb dX0_greatestOfOther_36 (by decide) ?_
      refine lv_istore (lv' := [(4, .int 100), (3, .int x_3), (0, .ref (ad (29 + 15 * i))), (1, .int x0), (2, .int x1)]) hx hb dX0_greatestOfOther_40 hl (by decide) rfl (fun ls hl => ?_)
      refine lv_iload hx hb dX0_greatestOfOther_42 (lv_at hl 0 rfl) ?_
      refine lv_iconst (v := 2) hx hb dX0_greatestOfOther_44 (by decide) ?_
      refine lv_aload_n hx hb dX0_greatestOfOther_45 rfl (lv_at hl 2 rfl) ?_
      refine va_get (D := (dC, dI)) (ci := 0) (v := .int (v_4 (29 + 15 * i) 1)) (C := RX0) (T := TX0) (N := 11) hx hb hts (by decide +kernel) hown hK hP (29 + 15 * i) (wl_at (by omega) (ce_9 (kd_c i hi).1.1)) rfl 1 (by decide) (hts (.fieldLink RX0 37 "QuietStairs$Case" "sum" "I") (by decide +kernel)) (fun _ h9 => h9) rfl dX0_greatestOfOther_46 ?_
      refine lv_topi (fun x_8 ex_8 => ?_)
      refine lv_imul hx hb dX0_greatestOfOther_49 ?_
      refine lv_topi (fun x_9 ex_9 => ?_)
      refine lv_iconst (v := 1) hx hb dX0_greatestOfOther_50 (by decide) ?_
      have k_1 : (1 : Int32).toInt = 1 := by decide
      refine lv_iadd hx hb dX0_greatestOfOther_51 ?_
      refine lv_topi (fun x_10 ex_10 => ?_)
      refine lv_iload_n hx hb dX0_greatestOfOther_52 rfl (lv_at hl 1 rfl) ?_
      refine lv_isub hx hb dX0_greatestOfOther_53 ?_
      refine lv_topi (fun x_11 ex_11 => ?_)
      refine va_mmin hx hb (hml.trans hl.1.symm) hown (hts (.methodLink RX0 62 Lib.Math.min.name) (by decide +kernel)) (hts (.static Lib.Math.min.name) (by decide +kernel)) (hts (.initialized "java/lang/Math") (by decide +kernel)) (hts (.code Lib.Math.min.name Lib.Math.min.code 2 (some .int)) (by decide +kernel)) (Nat.le_of_ble_eq_true rfl) (Nat.le_of_ble_eq_true rfl) (Nat.le_of_ble_eq_true rfl) (Nat.le_of_ble_eq_true rfl) dX0_greatestOfOther_54 ?_
      refine lv_topi (fun x_12 ex_12 => ?_)
      exact W.iret (v := x_12) hx hb hr (fun t ht hW => ⟨⟨x_12, v_4, rfl, ⟨hv, hfr⟩, by rw [ht]; exact hP, hD⟩, hS.F ht⟩) hS.2.2 dX0_greatestOfOther_57

set_option maxHeartbeats 4000000 in
set_option maxRecDepth 100000 in
theorem g_X0_endRound (l : Launch) (dC : Nat → ClassId) (dI : Nat → Nat → Nat) (cy : Nat → ClassId) (sz : Nat) (ad : Nat → Nat) (kv : Value) (N : Nat) (hN : 119 ≤ N) (v : Nat → Nat → Int32) (hv : Iv v) (i : Nat) (hi : i < 6) : Met l yX0_endRound wsX0_endRound ({ frames := 0, cells := 0, slots := 0, locals := 0 }) (va_Pc [.ref (ad (29 + 15 * i))] (ex_Pre dC dI cy sz (wl ad kv cy N v))) (va_Qi (fun (r : Int32) (u : Nat → Nat → Int32) => Iv u ∧ Fr v u ∧ (r = 0 ∨ r = 1)) (fun u t => ex_Pst dC dI (va_A (wl ad kv cy N v) sz) (wl ad kv cy N u) t) (va_A (wl ad kv cy N v) sz)) 0 0 (va_A (wl ad kv cy N v) sz) := by
  refine Met.ofW (cc := cX0_endRound) (maxL := 3) (ret := (some .boolean)) (by decide) rfl ?_
  intro p e s m args below meth c s₁ B hml hv
  obtain ⟨rfl, hsz, hE, hP, hK, hD0⟩ := hv
  have hx := B.exec
  have hb := B.bytes
  have hr := B.returns
  have hts := atoms_spec (ws := wsX0_endRound) B.pre
  have hown : s.vm.findClass RX0 = some m.cls := findClass_of_methodNamed B.named
  have hlocks := B.notSynchronized
  subst hsz
  have hD := hD0.self (sz := s.heap.size)
  generalize hAe : va_A (wl ad kv cy N v) s.heap.size = A at hD ⊢
  have hA : ∀ q : Nat, s.heap.size ≤ q → A q := fun q h => by rw [← hAe]; exact Or.inr h
  have hS : va_S A s.heap s.heap [] := va_S.rf
  have hP : va_P (dC, dI) vwCl (wl ad kv cy N v) s.heap := hP
  have hl := lv_entry ([.ref (ad (29 + 15 * i))]) (n := 3) (Nat.le_of_ble_eq_true rfl)
  rw [lg_entry_eq]
  generalize (lg_sl ([.ref (ad (29 + 15 * i))]) ++ List.replicate (3 - (lg_sl ([.ref (ad (29 + 15 * i))])).length) Slot.unset).toArray = ls at hl ⊢
  have hl : lv_has ls 3 [(0, .ref (ad (29 + 15 * i)))] := hl
  have hfr : Fr v v := Fr.rf
  refine lv_aload_n hx hb dX0_endRound_0 rfl (lv_at hl 0 rfl) ?_
  refine va_get (D := (dC, dI)) (ci := 0) (v := .ref (ad (29 + 15 * i + 2))) (C := RX0) (T := TX0) (N := 11) hx hb hts (by decide +kernel) hown hK hP (29 + 15 * i) (wl_at (by omega) (ce_9 (kd_c i hi).1.1)) rfl 7 (by decide) (hts (.fieldLink RX0 15 "QuietStairs$Case" "box" "[I") (by decide +kernel)) (fun _ h9 => h9) rfl dX0_endRound_1 ?_
  refine W.eq (g2 := F0 m 4 ls [.ref (ad (31 + 15 * i))]) (by rw [show 29 + 15 * i + 2 = 31 + 15 * i from by omega]) ?_
  refine lv_iconst (v := 0) hx hb dX0_endRound_4 (by decide) ?_
  refine va_iald hx hb hK hP (31 + 15 * i) 0 (wl_at (by omega) (ce_20 (kd_c i hi).1.2.2.1)) rfl (by unfold vp_in; decide) dX0_endRound_5 ?_
  refine lv_topi (fun x_1 ex_1 => ?_)
  refine lv_istore_n (lv' := [(1, .int x_1), (0, .ref (ad (29 + 15 * i)))]) hx hb dX0_endRound_6 rfl hl (by decide) rfl (fun ls hl => ?_)
  refine lv_aload_n hx hb dX0_endRound_7 rfl (lv_at hl 1 rfl) ?_
  refine va_get (D := (dC, dI)) (ci := 0) (v := .ref (ad (29 + 15 * i + 2))) (C := RX0) (T := TX0) (N := 11) hx hb hts (by decide +kernel) hown hK hP (29 + 15 * i) (wl_at (by omega) (ce_9 (kd_c i hi).1.1)) rfl 7 (by decide) (hts (.fieldLink RX0 15 "QuietStairs$Case" "box" "[I") (by decide +kernel)) (fun _ h9 => h9) rfl dX0_endRound_8 ?_
  refine W.eq (g2 := F0 m 11 ls [.ref (ad (31 + 15 * i))]) (by rw [show 29 + 15 * i + 2 = 31 + 15 * i from by omega]) ?_
  refine lv_iconst (v := 1) hx hb dX0_endRound_11 (by decide) ?_
  refine va_iald hx hb hK hP (31 + 15 * i) 0 (wl_at (by omega) (ce_20 (kd_c i hi).1.2.2.1)) rfl (by unfold vp_in; decide) dX0_endRound_12 ?_
  refine lv_topi (fun x_2 ex_2 => ?_)
  refine lv_istore_n (lv' := [(2, .int x_2), (1, .int x_1), (0, .ref (ad (29 + 15 * i)))]) hx hb dX0_endRound_13 rfl hl (by decide) rfl (fun ls hl => ?_)
  refine lv_aload_n hx hb dX0_endRound_14 rfl (lv_at hl 2 rfl) ?_
  refine va_get (D := (dC, dI)) (ci := 0) (v := .int (v (29 + 15 * i) 2)) (C := RX0) (T := TX0) (N := 11) hx hb hts (by decide +kernel) hown hK hP (29 + 15 * i) (wl_at (by omega) (ce_9 (kd_c i hi).1.1)) rfl 2 (by decide) (hts (.fieldLink RX0 40 "QuietStairs$Case" "roundsOver" "I") (by decide +kernel)) (fun _ h9 => h9) rfl dX0_endRound_15 ?_
  refine lv_topi (fun x_3 ex_3 => ?_)
  have bx_3 : 0 ≤ x_3.toInt ∧ x_3.toInt ≤ 5 := by rw [ex_3]; exact hv.at (K := 9) (kd_c i hi).1.1 rfl
  refine lv_iconst (v := 5) hx hb dX0_endRound_18 (by decide) ?_
  have k_5 : (5 : Int32).toInt = 5 := by decide
  refine lv_icmp_ge (tgt := 56) hx hb dX0_endRound_19 (by decide) (fun c_4 => ?_) (fun c_4 => ?_)
  · have tc_4 : x_3.toInt ≥ (5 : Int32).toInt := Int32.le_iff_toInt_le.mp c_4
    refine lv_iload_n hx hb dX0_endRound_56 rfl (lv_at hl 0 rfl) ?_
    refine lv_iload_n hx hb dX0_endRound_57 rfl (lv_at hl 1 rfl) ?_
    refine lv_icmp_lt (tgt := 77) hx hb dX0_endRound_58 (by decide) (fun c_5 => ?_) (fun c_5 => ?_)
    · have tc_5 : x_2.toInt < x_1.toInt := Int32.lt_iff_toInt_lt.mp c_5
      refine lv_aload_n hx hb dX0_endRound_77 rfl (lv_at hl 2 rfl) ?_
      refine va_get (D := (dC, dI)) (ci := 0) (v := .ref (ad (29 + 15 * i + 2))) (C := RX0) (T := TX0) (N := 11) hx hb hts (by decide +kernel) hown hK hP (29 + 15 * i) (wl_at (by omega) (ce_9 (kd_c i hi).1.1)) rfl 7 (by decide) (hts (.fieldLink RX0 15 "QuietStairs$Case" "box" "[I") (by decide +kernel)) (fun _ h9 => h9) rfl dX0_endRound_78 ?_
      refine W.eq (g2 := F0 m 81 ls [.ref (ad (31 + 15 * i))]) (by rw [show 29 + 15 * i + 2 = 31 + 15 * i from by omega]) ?_
      refine lv_iconst (v := 0) hx hb dX0_endRound_81 (by decide) ?_
      refine lv_iconst (v := (-1)) hx hb dX0_endRound_82 (by decide) ?_
      refine va_iast hx hb hK hP hD hS (31 + 15 * i) 0 (wl_at (by omega) (ce_20 (kd_c i hi).1.2.2.1)) rfl (by unfold vp_in; decide) dX0_endRound_83 (fun H locs hP hD hS => ?_)
      have k_m1 : ((-1) : Int32).toInt = -1 := by decide
      obtain ⟨v_6, ev_6⟩ : ∃ u : Nat → Nat → Int32, u = upr v (31 + 15 * i) (upd (v (31 + 15 * i)) ((0 : Int32).toNatClampNeg) (-1)) := ⟨_, rfl⟩
      have hP : va_P (dC, dI) vwCl (wl ad kv cy N v_6) H := by rw [ev_6, ← wl_put (e := _) (ce_20 (kd_c i hi).1.2.2.1)]; exact hP
      have hD : va_D A (wl ad kv cy N v_6) := by rw [ev_6, ← wl_put (e := _) (ce_20 (kd_c i hi).1.2.2.1)]; exact hD
      have hv : Iv v_6 := by rw [ev_6]; exact hv.put (K := 20) (kd_c i hi).1.2.2.1 (fun h q => by simp [bd] at q)
      have hfr : Fr v v_6 := by rw [ev_6]; exact hfr.put (by omega) (by omega) (by omega)
      refine lv_aload_n hx hb dX0_endRound_84 rfl (lv_at hl 2 rfl) ?_
      refine va_get (D := (dC, dI)) (ci := 0) (v := .ref (ad (29 + 15 * i + 2))) (C := RX0) (T := TX0) (N := 11) hx hb hts (by decide +kernel) hown hK hP (29 + 15 * i) (wl_at (by omega) (ce_9 (kd_c i hi).1.1)) rfl 7 (by decide) (hts (.fieldLink RX0 15 "QuietStairs$Case" "box" "[I") (by decide +kernel)) (fun _ h9 => h9) rfl dX0_endRound_85 ?_
      refine W.eq (g2 := F0 m 88 ls [.ref (ad (31 + 15 * i))]) (by rw [show 29 + 15 * i + 2 = 31 + 15 * i from by omega]) ?_
      refine lv_iconst (v := 1) hx hb dX0_endRound_88 (by decide) ?_
      refine lv_iconst (v := (-1)) hx hb dX0_endRound_89 (by decide) ?_
      refine va_iast hx hb hK hP hD hS (31 + 15 * i) 0 (wl_at (by omega) (ce_20 (kd_c i hi).1.2.2.1)) rfl (by unfold vp_in; decide) dX0_endRound_90 (fun H locs hP hD hS => ?_)
      obtain ⟨v_7, ev_7⟩ : ∃ u : Nat → Nat → Int32, u = upr v_6 (31 + 15 * i) (upd (v_6 (31 + 15 * i)) ((1 : Int32).toNatClampNeg) (-1)) := ⟨_, rfl⟩
      have hP : va_P (dC, dI) vwCl (wl ad kv cy N v_7) H := by rw [ev_7, ← wl_put (e := _) (ce_20 (kd_c i hi).1.2.2.1)]; exact hP
      have hD : va_D A (wl ad kv cy N v_7) := by rw [ev_7, ← wl_put (e := _) (ce_20 (kd_c i hi).1.2.2.1)]; exact hD
      have hv : Iv v_7 := by rw [ev_7]; exact hv.put (K := 20) (kd_c i hi).1.2.2.1 (fun h q => by simp [bd] at q)
      have hfr : Fr v v_7 := by rw [ev_7]; exact hfr.put (by omega) (by omega) (by omega)
      refine lv_iconst (v := 0) hx hb dX0_endRound_91 (by decide) ?_
      exact W.zret (ty := .boolean) (v := 0) hx hb hr rfl (fun t ht hW => ⟨⟨0, v_7, rfl, ⟨hv, hfr, by decide⟩, by rw [ht]; exact hP, hD⟩, hS.F ht⟩) hS.2.2 dX0_endRound_92
    · have tc_5 : x_2.toInt ≥ x_1.toInt := Int32.le_iff_toInt_le.mp (Int32.not_lt.mp c_5)
      refine lv_aload_n hx hb dX0_endRound_61 rfl (lv_at hl 2 rfl) ?_
      refine lv_iconst (v := 1) hx hb dX0_endRound_62 (by decide) ?_
      refine va_put (D := (dC, dI)) (ci := 0) (v := .int 1) (ty := .int) (C := RX0) (T := TX0) (N := 11) hx hb hts (by decide +kernel) tyX0 tyX0_ok nmX0 hown hK hP hD hS (29 + 15 * i) (wl_at (by omega) (ce_9 (kd_c i hi).1.1)) rfl 0 (by decide) (hts (.fieldLink RX0 33 "QuietStairs$Case" "state" "I") (by decide +kernel)) (fun _ h9 => h9) rfl (by decide +kernel) rfl rfl (Nat.le_of_ble_eq_true rfl) dX0_endRound_63 (fun H locs hP hD hS => ?_)
      have k_1 : (1 : Int32).toInt = 1 := by decide
      obtain ⟨v_6, ev_6⟩ : ∃ u : Nat → Nat → Int32, u = upr v (29 + 15 * i) (upd (v (29 + 15 * i)) 0 1) := ⟨_, rfl⟩
      have hP : va_P (dC, dI) vwCl (wl ad kv cy N v_6) H := by rw [ev_6, ← wl_put (e := _) (ce_9 (kd_c i hi).1.1)]; exact hP
      have hD : va_D A (wl ad kv cy N v_6) := by rw [ev_6, ← wl_put (e := _) (ce_9 (kd_c i hi).1.1)]; exact hD
      have hv : Iv v_6 := by rw [ev_6]; exact hv.put (K := 9) (kd_c i hi).1.1 (fun h q => by simp [bd] at q)
      have hfr : Fr v v_6 := by rw [ev_6]; exact hfr.put (by omega) (by omega) (by omega)
      refine lv_aload_n hx hb dX0_endRound_66 rfl (lv_at hl 2 rfl) ?_
      refine lv_iload_n hx hb dX0_endRound_67 rfl (lv_at hl 1 rfl) ?_
      refine lv_iload_n hx hb dX0_endRound_68 rfl (lv_at hl 0 rfl) ?_
      refine lv_iadd hx hb dX0_endRound_69 ?_
      refine lv_topi (fun x_7 ex_7 => ?_)
      refine lv_iconst (v := 2) hx hb dX0_endRound_70 (by decide) ?_
      refine lv_idiv hx hb dX0_endRound_71 (by decide) ?_
      refine lv_topi (fun x_8 ex_8 => ?_)
      refine va_put (D := (dC, dI)) (ci := 0) (v := .int x_8) (ty := .int) (C := RX0) (T := TX0) (N := 11) hx hb hts (by decide +kernel) tyX0 tyX0_ok nmX0 hown hK hP hD hS (29 + 15 * i) (wl_at (by omega) (ce_9 (kd_c i hi).1.1)) rfl 1 (by decide) (hts (.fieldLink RX0 37 "QuietStairs$Case" "sum" "I") (by decide +kernel)) (fun _ h9 => h9) rfl (by decide +kernel) rfl rfl (Nat.le_of_ble_eq_true rfl) dX0_endRound_72 (fun H locs hP hD hS => ?_)
      obtain ⟨v_9, ev_9⟩ : ∃ u : Nat → Nat → Int32, u = upr v_6 (29 + 15 * i) (upd (v_6 (29 + 15 * i)) 1 x_8) := ⟨_, rfl⟩
      have hP : va_P (dC, dI) vwCl (wl ad kv cy N v_9) H := by rw [ev_9, ← wl_put (e := _) (ce_9 (kd_c i hi).1.1)]; exact hP
      have hD : va_D A (wl ad kv cy N v_9) := by rw [ev_9, ← wl_put (e := _) (ce_9 (kd_c i hi).1.1)]; exact hD
      have hv : Iv v_9 := by rw [ev_9]; exact hv.put (K := 9) (kd_c i hi).1.1 (fun h q => by simp [bd] at q)
      have hfr : Fr v v_9 := by rw [ev_9]; exact hfr.put (by omega) (by omega) (by omega)
      refine lv_iconst (v := 1) hx hb dX0_endRound_75 (by decide) ?_
      exact W.zret (ty := .boolean) (v := 1) hx hb hr rfl (fun t ht hW => ⟨⟨1, v_9, rfl, ⟨hv, hfr, by decide⟩, by rw [ht]; exact hP, hD⟩, hS.F ht⟩) hS.2.2 dX0_endRound_76
  · have tc_4 : x_3.toInt < (5 : Int32).toInt := Int32.lt_iff_toInt_lt.mp (Int32.not_le.mp c_4)
    refine lv_aload_n hx hb dX0_endRound_22 rfl (lv_at hl 2 rfl) ?_
    refine va_get (D := (dC, dI)) (ci := 0) (v := .ref (ad (29 + 15 * i + 3))) (C := RX0) (T := TX0) (N := 11) hx hb hts (by decide +kernel) hown hK hP (29 + 15 * i) (wl_at (by omega) (ce_9 (kd_c i hi).1.1)) rfl 8 (by decide) (hts (.fieldLink RX0 20 "QuietStairs$Case" "offers" "[[I") (by decide +kernel)) (fun _ h9 => h9) rfl dX0_endRound_23 ?_
    refine W.eq (g2 := F0 m 26 ls [.ref (ad (32 + 15 * i))]) (by rw [show 29 + 15 * i + 3 = 32 + 15 * i from by omega]) ?_
    refine lv_iconst (v := 0) hx hb dX0_endRound_26 (by decide) ?_
    refine ya_ald hx hb hK hP (32 + 15 * i) (wl_at (by omega) (ce_11 (kd_c i hi).1.2.2.2.1)) (by unfold vp_in; decide) dX0_endRound_27 ?_
    refine W.eq (g2 := F0 m 28 ls [.ref (ad (33 + 15 * i + 0))]) (by show F0 m 28 ls (.ref (ad (32 + 15 * i + 1 + 0)) :: _) = _; rw [show 32 + 15 * i + 1 + 0 = 33 + 15 * i + 0 from by omega]) ?_
    refine lv_aload_n hx hb dX0_endRound_28 rfl (lv_at hl 2 rfl) ?_
    refine va_get (D := (dC, dI)) (ci := 0) (v := .int (v (29 + 15 * i) 2)) (C := RX0) (T := TX0) (N := 11) hx hb hts (by decide +kernel) hown hK hP (29 + 15 * i) (wl_at (by omega) (ce_9 (kd_c i hi).1.1)) rfl 2 (by decide) (hts (.fieldLink RX0 40 "QuietStairs$Case" "roundsOver" "I") (by decide +kernel)) (fun _ h9 => h9) rfl dX0_endRound_29 ?_
    refine lv_topi (fun x_5 ex_5 => ?_)
    rw [← ex_3] at ex_5; replace ex_5 := ex_5.symm; subst ex_5
    refine lv_iload_n hx hb dX0_endRound_32 rfl (lv_at hl 1 rfl) ?_
    obtain ⟨pi6, i6, hi6, ni6, mi6⟩ := t_in (x := x_3) (n := 5) ⟨by omega, by omega⟩
    refine va_iast hx hb hK hP hD hS (33 + 15 * i + 0) 0 (wl_at (by omega) (ce_12 (kd_o i hi 0 (by decide)).1.1)) rfl pi6 dX0_endRound_33 (fun H locs hP hD hS => ?_)
    obtain ⟨v_7, ev_7⟩ : ∃ u : Nat → Nat → Int32, u = upr v (33 + 15 * i + 0) (upd (v (33 + 15 * i + 0)) (x_3.toNatClampNeg) x_1) := ⟨_, rfl⟩
    have hP : va_P (dC, dI) vwCl (wl ad kv cy N v_7) H := by rw [ev_7, ← wl_put (e := _) (ce_12 (kd_o i hi 0 (by decide)).1.1)]; exact hP
    have hD : va_D A (wl ad kv cy N v_7) := by rw [ev_7, ← wl_put (e := _) (ce_12 (kd_o i hi 0 (by decide)).1.1)]; exact hD
    have hv : Iv v_7 := by rw [ev_7]; exact hv.put (K := 12) (kd_o i hi 0 (by decide)).1.1 (fun h q => by simp [bd] at q)
    have hfr : Fr v v_7 := by rw [ev_7]; exact hfr.put (by omega) (by omega) (by omega)
    refine lv_aload_n hx hb dX0_endRound_34 rfl (lv_at hl 2 rfl) ?_
    refine va_get (D := (dC, dI)) (ci := 0) (v := .ref (ad (29 + 15 * i + 3))) (C := RX0) (T := TX0) (N := 11) hx hb hts (by decide +kernel) hown hK hP (29 + 15 * i) (wl_at (by omega) (ce_9 (kd_c i hi).1.1)) rfl 8 (by decide) (hts (.fieldLink RX0 20 "QuietStairs$Case" "offers" "[[I") (by decide +kernel)) (fun _ h9 => h9) rfl dX0_endRound_35 ?_
    refine W.eq (g2 := F0 m 38 ls [.ref (ad (32 + 15 * i))]) (by rw [show 29 + 15 * i + 3 = 32 + 15 * i from by omega]) ?_
    refine lv_iconst (v := 1) hx hb dX0_endRound_38 (by decide) ?_
    refine ya_ald hx hb hK hP (32 + 15 * i) (wl_at (by omega) (ce_11 (kd_c i hi).1.2.2.2.1)) (by unfold vp_in; decide) dX0_endRound_39 ?_
    refine W.eq (g2 := F0 m 40 ls [.ref (ad (33 + 15 * i + 1))]) (by show F0 m 40 ls (.ref (ad (32 + 15 * i + 1 + 1)) :: _) = _; rw [show 32 + 15 * i + 1 + 1 = 33 + 15 * i + 1 from by omega]) ?_
    refine lv_aload_n hx hb dX0_endRound_40 rfl (lv_at hl 2 rfl) ?_
    refine va_get (D := (dC, dI)) (ci := 0) (v := .int (v_7 (29 + 15 * i) 2)) (C := RX0) (T := TX0) (N := 11) hx hb hts (by decide +kernel) hown hK hP (29 + 15 * i) (wl_at (by omega) (ce_9 (kd_c i hi).1.1)) rfl 2 (by decide) (hts (.fieldLink RX0 40 "QuietStairs$Case" "roundsOver" "I") (by decide +kernel)) (fun _ h9 => h9) rfl dX0_endRound_41 ?_
    refine lv_topi (fun x_8 ex_8 => ?_)
    rw [ev_7, upr_n (by omega)] at ex_8
    rw [← ex_3] at ex_8; replace ex_8 := ex_8.symm; subst ex_8
    refine lv_iload_n hx hb dX0_endRound_44 rfl (lv_at hl 0 rfl) ?_
    refine va_iast hx hb hK hP hD hS (33 + 15 * i + 1) 0 (wl_at (by omega) (ce_12 (kd_o i hi 1 (by decide)).1.1)) rfl pi6 dX0_endRound_45 (fun H locs hP hD hS => ?_)
    obtain ⟨v_9, ev_9⟩ : ∃ u : Nat → Nat → Int32, u = upr v_7 (33 + 15 * i + 1) (upd (v_7 (33 + 15 * i + 1)) (x_3.toNatClampNeg) x_2) := ⟨_, rfl⟩
    have hP : va_P (dC, dI) vwCl (wl ad kv cy N v_9) H := by rw [ev_9, ← wl_put (e := _) (ce_12 (kd_o i hi 1 (by decide)).1.1)]; exact hP
    have hD : va_D A (wl ad kv cy N v_9) := by rw [ev_9, ← wl_put (e := _) (ce_12 (kd_o i hi 1 (by decide)).1.1)]; exact hD
    have hv : Iv v_9 := by rw [ev_9]; exact hv.put (K := 12) (kd_o i hi 1 (by decide)).1.1 (fun h q => by simp [bd] at q)
    have hfr : Fr v v_9 := by rw [ev_9]; exact hfr.put (by omega) (by omega) (by omega)
    refine lv_aload_n hx hb dX0_endRound_46 rfl (lv_at hl 2 rfl) ?_
    refine lv_dup hx hb dX0_endRound_47 rfl ?_
    refine va_get (D := (dC, dI)) (ci := 0) (v := .int (v_9 (29 + 15 * i) 2)) (C := RX0) (T := TX0) (N := 11) hx hb hts (by decide +kernel) hown hK hP (29 + 15 * i) (wl_at (by omega) (ce_9 (kd_c i hi).1.1)) rfl 2 (by decide) (hts (.fieldLink RX0 40 "QuietStairs$Case" "roundsOver" "I") (by decide +kernel)) (fun _ h9 => h9) rfl dX0_endRound_48 ?_
    refine lv_topi (fun x_10 ex_10 => ?_)
    rw [ev_9, upr_n (by omega)] at ex_10
    rw [ev_7, upr_n (by omega)] at ex_10
    rw [← ex_3] at ex_10; replace ex_10 := ex_10.symm; subst ex_10
    refine lv_iconst (v := 1) hx hb dX0_endRound_51 (by decide) ?_
    have k_1 : (1 : Int32).toInt = 1 := by decide
    refine lv_iadd hx hb dX0_endRound_52 ?_
    refine lv_topi (fun x_11 ex_11 => ?_)
    have tx_11 : x_11.toInt = x_3.toInt + (1 : Int32).toInt := by rw [ex_11]; exact t_add ⟨by omega, by omega⟩
    refine va_put (D := (dC, dI)) (ci := 0) (v := .int x_11) (ty := .int) (C := RX0) (T := TX0) (N := 11) hx hb hts (by decide +kernel) tyX0 tyX0_ok nmX0 hown hK hP hD hS (29 + 15 * i) (wl_at (by omega) (ce_9 (kd_c i hi).1.1)) rfl 2 (by decide) (hts (.fieldLink RX0 40 "QuietStairs$Case" "roundsOver" "I") (by decide +kernel)) (fun _ h9 => h9) rfl (by decide +kernel) rfl rfl (Nat.le_of_ble_eq_true rfl) dX0_endRound_53 (fun H locs hP hD hS => ?_)
    obtain ⟨v_12, ev_12⟩ : ∃ u : Nat → Nat → Int32, u = upr v_9 (29 + 15 * i) (upd (v_9 (29 + 15 * i)) 2 x_11) := ⟨_, rfl⟩
    have hP : va_P (dC, dI) vwCl (wl ad kv cy N v_12) H := by rw [ev_12, ← wl_put (e := _) (ce_9 (kd_c i hi).1.1)]; exact hP
    have hD : va_D A (wl ad kv cy N v_12) := by rw [ev_12, ← wl_put (e := _) (ce_9 (kd_c i hi).1.1)]; exact hD
    have hv : Iv v_12 := by rw [ev_12]; exact hv.put (K := 9) (kd_c i hi).1.1 (fun h q => by cases q; exact ⟨by omega, by omega⟩)
    have hfr : Fr v v_12 := by rw [ev_12]; exact hfr.put (by omega) (by omega) (by omega)
    refine lv_iload_n hx hb dX0_endRound_56 rfl (lv_at hl 0 rfl) ?_
    refine lv_iload_n hx hb dX0_endRound_57 rfl (lv_at hl 1 rfl) ?_
    refine lv_icmp_lt (tgt := 77) hx hb dX0_endRound_58 (by decide) (fun c_13 => ?_) (fun c_13 => ?_)
    · have tc_13 : x_2.toInt < x_1.toInt := Int32.lt_iff_toInt_lt.mp c_13
      refine lv_aload_n hx hb dX0_endRound_77 rfl (lv_at hl 2 rfl) ?_
      refine va_get (D := (dC, dI)) (ci := 0) (v := .ref (ad (29 + 15 * i + 2))) (C := RX0) (T := TX0) (N := 11) hx hb hts (by decide +kernel) hown hK hP (29 + 15 * i) (wl_at (by omega) (ce_9 (kd_c i hi).1.1)) rfl 7 (by decide) (hts (.fieldLink RX0 15 "QuietStairs$Case" "box" "[I") (by decide +kernel)) (fun _ h9 => h9) rfl dX0_endRound_78 ?_
      refine W.eq (g2 := F0 m 81 ls [.ref (ad (31 + 15 * i))]) (by rw [show 29 + 15 * i + 2 = 31 + 15 * i from by omega]) ?_
      refine lv_iconst (v := 0) hx hb dX0_endRound_81 (by decide) ?_
      refine lv_iconst (v := (-1)) hx hb dX0_endRound_82 (by decide) ?_
      refine va_iast hx hb hK hP hD hS (31 + 15 * i) 0 (wl_at (by omega) (ce_20 (kd_c i hi).1.2.2.1)) rfl (by unfold vp_in; decide) dX0_endRound_83 (fun H locs hP hD hS => ?_)
      have k_m1 : ((-1) : Int32).toInt = -1 := by decide
      obtain ⟨v_14, ev_14⟩ : ∃ u : Nat → Nat → Int32, u = upr v_12 (31 + 15 * i) (upd (v_12 (31 + 15 * i)) ((0 : Int32).toNatClampNeg) (-1)) := ⟨_, rfl⟩
      have hP : va_P (dC, dI) vwCl (wl ad kv cy N v_14) H := by rw [ev_14, ← wl_put (e := _) (ce_20 (kd_c i hi).1.2.2.1)]; exact hP
      have hD : va_D A (wl ad kv cy N v_14) := by rw [ev_14, ← wl_put (e := _) (ce_20 (kd_c i hi).1.2.2.1)]; exact hD
      have hv : Iv v_14 := by rw [ev_14]; exact hv.put (K := 20) (kd_c i hi).1.2.2.1 (fun h q => by simp [bd] at q)
      have hfr : Fr v v_14 := by rw [ev_14]; exact hfr.put (by omega) (by omega) (by omega)
      refine lv_aload_n hx hb dX0_endRound_84 rfl (lv_at hl 2 rfl) ?_
      refine va_get (D := (dC, dI)) (ci := 0) (v := .ref (ad (29 + 15 * i + 2))) (C := RX0) (T := TX0) (N := 11) hx hb hts (by decide +kernel) hown hK hP (29 + 15 * i) (wl_at (by omega) (ce_9 (kd_c i hi).1.1)) rfl 7 (by decide) (hts (.fieldLink RX0 15 "QuietStairs$Case" "box" "[I") (by decide +kernel)) (fun _ h9 => h9) rfl dX0_endRound_85 ?_
      refine W.eq (g2 := F0 m 88 ls [.ref (ad (31 + 15 * i))]) (by rw [show 29 + 15 * i + 2 = 31 + 15 * i from by omega]) ?_
      refine lv_iconst (v := 1) hx hb dX0_endRound_88 (by decide) ?_
      refine lv_iconst (v := (-1)) hx hb dX0_endRound_89 (by decide) ?_
      refine va_iast hx hb hK hP hD hS (31 + 15 * i) 0 (wl_at (by omega) (ce_20 (kd_c i hi).1.2.2.1)) rfl (by unfold vp_in; decide) dX0_endRound_90 (fun H locs hP hD hS => ?_)
      obtain ⟨v_15, ev_15⟩ : ∃ u : Nat → Nat → Int32, u = upr v_14 (31 + 15 * i) (upd (v_14 (31 + 15 * i)) ((1 : Int32).toNatClampNeg) (-1)) := ⟨_, rfl⟩
      have hP : va_P (dC, dI) vwCl (wl ad kv cy N v_15) H := by rw [ev_15, ← wl_put (e := _) (ce_20 (kd_c i hi).1.2.2.1)]; exact hP
      have hD : va_D A (wl ad kv cy N v_15) := by rw [ev_15, ← wl_put (e := _) (ce_20 (kd_c i hi).1.2.2.1)]; exact hD
      have hv : Iv v_15 := by rw [ev_15]; exact hv.put (K := 20) (kd_c i hi).1.2.2.1 (fun h q => by simp [bd] at q)
      have hfr : Fr v v_15 := by rw [ev_15]; exact hfr.put (by omega) (by omega) (by omega)
      refine lv_iconst (v := 0) hx hb dX0_endRound_91 (by decide) ?_
      exact W.zret (ty := .boolean) (v := 0) hx hb hr rfl (fun t ht hW => ⟨⟨0, v_15, rfl, ⟨hv, hfr, by decide⟩, by rw [ht]; exact hP, hD⟩, hS.F ht⟩) hS.2.2 dX0_endRound_92
    · have tc_13 : x_2.toInt ≥ x_1.toInt := Int32.le_iff_toInt_le.mp (Int32.not_lt.mp c_13)
      refine lv_aload_n hx hb dX0_endRound_61 rfl (lv_at hl 2 rfl) ?_
      refine lv_iconst (v := 1) hx hb dX0_endRound_62 (by decide) ?_
      refine va_put (D := (dC, dI)) (ci := 0) (v := .int 1) (ty := .int) (C := RX0) (T := TX0) (N := 11) hx hb hts (by decide +kernel) tyX0 tyX0_ok nmX0 hown hK hP hD hS (29 + 15 * i) (wl_at (by omega) (ce_9 (kd_c i hi).1.1)) rfl 0 (by decide) (hts (.fieldLink RX0 33 "QuietStairs$Case" "state" "I") (by decide +kernel)) (fun _ h9 => h9) rfl (by decide +kernel) rfl rfl (Nat.le_of_ble_eq_true rfl) dX0_endRound_63 (fun H locs hP hD hS => ?_)
      obtain ⟨v_14, ev_14⟩ : ∃ u : Nat → Nat → Int32, u = upr v_12 (29 + 15 * i) (upd (v_12 (29 + 15 * i)) 0 1) := ⟨_, rfl⟩
      have hP : va_P (dC, dI) vwCl (wl ad kv cy N v_14) H := by rw [ev_14, ← wl_put (e := _) (ce_9 (kd_c i hi).1.1)]; exact hP
      have hD : va_D A (wl ad kv cy N v_14) := by rw [ev_14, ← wl_put (e := _) (ce_9 (kd_c i hi).1.1)]; exact hD
      have hv : Iv v_14 := by rw [ev_14]; exact hv.put (K := 9) (kd_c i hi).1.1 (fun h q => by simp [bd] at q)
      have hfr : Fr v v_14 := by rw [ev_14]; exact hfr.put (by omega) (by omega) (by omega)
      refine lv_aload_n hx hb dX0_endRound_66 rfl (lv_at hl 2 rfl) ?_
      refine lv_iload_n hx hb dX0_endRound_67 rfl (lv_at hl 1 rfl) ?_
      refine lv_iload_n hx hb dX0_endRound_68 rfl (lv_at hl 0 rfl) ?_
      refine lv_iadd hx hb dX0_endRound_69 ?_
      refine lv_topi (fun x_15 ex_15 => ?_)
      refine lv_iconst (v := 2) hx hb dX0_endRound_70 (by decide) ?_
      refine lv_idiv hx hb dX0_endRound_71 (by decide) ?_
      refine lv_topi (fun x_16 ex_16 => ?_)
      refine va_put (D := (dC, dI)) (ci := 0) (v := .int x_16) (ty := .int) (C := RX0) (T := TX0) (N := 11) hx hb hts (by decide +kernel) tyX0 tyX0_ok nmX0 hown hK hP hD hS (29 + 15 * i) (wl_at (by omega) (ce_9 (kd_c i hi).1.1)) rfl 1 (by decide) (hts (.fieldLink RX0 37 "QuietStairs$Case" "sum" "I") (by decide +kernel)) (fun _ h9 => h9) rfl (by decide +kernel) rfl rfl (Nat.le_of_ble_eq_true rfl) dX0_endRound_72 (fun H locs hP hD hS => ?_)
      obtain ⟨v_17, ev_17⟩ : ∃ u : Nat → Nat → Int32, u = upr v_14 (29 + 15 * i) (upd (v_14 (29 + 15 * i)) 1 x_16) := ⟨_, rfl⟩
      have hP : va_P (dC, dI) vwCl (wl ad kv cy N v_17) H := by rw [ev_17, ← wl_put (e := _) (ce_9 (kd_c i hi).1.1)]; exact hP
      have hD : va_D A (wl ad kv cy N v_17) := by rw [ev_17, ← wl_put (e := _) (ce_9 (kd_c i hi).1.1)]; exact hD
      have hv : Iv v_17 := by rw [ev_17]; exact hv.put (K := 9) (kd_c i hi).1.1 (fun h q => by simp [bd] at q)
      have hfr : Fr v v_17 := by rw [ev_17]; exact hfr.put (by omega) (by omega) (by omega)
      refine lv_iconst (v := 1) hx hb dX0_endRound_75 (by decide) ?_
      exact W.zret (ty := .boolean) (v := 1) hx hb hr rfl (fun t ht hW => ⟨⟨1, v_17, rfl, ⟨hv, hfr, by decide⟩, by rw [ht]; exact hP, hD⟩, hS.F ht⟩) hS.2.2 dX0_endRound_76
end
section
theorem dJ6_bitCount_0f7a4_0 : decode cJ6_bitCount_0f7a4 0 = .ok (.iload_n 0, 1) := by decide +kernel
theorem dJ6_bitCount_0f7a4_1 : decode cJ6_bitCount_0f7a4 1 = .ok (.iload_n 0, 1) := by decide +kernel
theorem dJ6_bitCount_0f7a4_2 : decode cJ6_bitCount_0f7a4 2 = .ok (.iconst 1, 1) := by decide +kernel
theorem dJ6_bitCount_0f7a4_3 : decode cJ6_bitCount_0f7a4 3 = .ok (.iushr, 1) := by decide +kernel
theorem dJ6_bitCount_0f7a4_4 : decode cJ6_bitCount_0f7a4 4 = .ok (.ldc_w 265, 3) := by decide +kernel
theorem dJ6_bitCount_0f7a4_7 : decode cJ6_bitCount_0f7a4 7 = .ok (.iand, 1) := by decide +kernel
theorem dJ6_bitCount_0f7a4_8 : decode cJ6_bitCount_0f7a4 8 = .ok (.isub, 1) := by decide +kernel
theorem dJ6_bitCount_0f7a4_9 : decode cJ6_bitCount_0f7a4 9 = .ok (.istore_n 0, 1) := by decide +kernel
theorem dJ6_bitCount_0f7a4_10 : decode cJ6_bitCount_0f7a4 10 = .ok (.iload_n 0, 1) := by decide +kernel
theorem dJ6_bitCount_0f7a4_11 : decode cJ6_bitCount_0f7a4 11 = .ok (.ldc_w 266, 3) := by decide +kernel
theorem dJ6_bitCount_0f7a4_14 : decode cJ6_bitCount_0f7a4 14 = .ok (.iand, 1) := by decide +kernel
theorem dJ6_bitCount_0f7a4_15 : decode cJ6_bitCount_0f7a4 15 = .ok (.iload_n 0, 1) := by decide +kernel
theorem dJ6_bitCount_0f7a4_16 : decode cJ6_bitCount_0f7a4 16 = .ok (.iconst 2, 1) := by decide +kernel
theorem dJ6_bitCount_0f7a4_17 : decode cJ6_bitCount_0f7a4 17 = .ok (.iushr, 1) := by decide +kernel
theorem dJ6_bitCount_0f7a4_18 : decode cJ6_bitCount_0f7a4 18 = .ok (.ldc_w 266, 3) := by decide +kernel
theorem dJ6_bitCount_0f7a4_21 : decode cJ6_bitCount_0f7a4 21 = .ok (.iand, 1) := by decide +kernel
theorem dJ6_bitCount_0f7a4_22 : decode cJ6_bitCount_0f7a4 22 = .ok (.iadd, 1) := by decide +kernel
theorem dJ6_bitCount_0f7a4_23 : decode cJ6_bitCount_0f7a4 23 = .ok (.istore_n 0, 1) := by decide +kernel
theorem dJ6_bitCount_0f7a4_24 : decode cJ6_bitCount_0f7a4 24 = .ok (.iload_n 0, 1) := by decide +kernel
theorem dJ6_bitCount_0f7a4_25 : decode cJ6_bitCount_0f7a4 25 = .ok (.iload_n 0, 1) := by decide +kernel
theorem dJ6_bitCount_0f7a4_26 : decode cJ6_bitCount_0f7a4 26 = .ok (.iconst 4, 1) := by decide +kernel
theorem dJ6_bitCount_0f7a4_27 : decode cJ6_bitCount_0f7a4 27 = .ok (.iushr, 1) := by decide +kernel
theorem dJ6_bitCount_0f7a4_28 : decode cJ6_bitCount_0f7a4 28 = .ok (.iadd, 1) := by decide +kernel
theorem dJ6_bitCount_0f7a4_29 : decode cJ6_bitCount_0f7a4 29 = .ok (.ldc_w 267, 3) := by decide +kernel
theorem dJ6_bitCount_0f7a4_32 : decode cJ6_bitCount_0f7a4 32 = .ok (.iand, 1) := by decide +kernel
theorem dJ6_bitCount_0f7a4_33 : decode cJ6_bitCount_0f7a4 33 = .ok (.istore_n 0, 1) := by decide +kernel
theorem dJ6_bitCount_0f7a4_34 : decode cJ6_bitCount_0f7a4 34 = .ok (.iload_n 0, 1) := by decide +kernel
theorem dJ6_bitCount_0f7a4_35 : decode cJ6_bitCount_0f7a4 35 = .ok (.iload_n 0, 1) := by decide +kernel
theorem dJ6_bitCount_0f7a4_36 : decode cJ6_bitCount_0f7a4 36 = .ok (.bipush 8, 2) := by decide +kernel
theorem dJ6_bitCount_0f7a4_38 : decode cJ6_bitCount_0f7a4 38 = .ok (.iushr, 1) := by decide +kernel
theorem dJ6_bitCount_0f7a4_39 : decode cJ6_bitCount_0f7a4 39 = .ok (.iadd, 1) := by decide +kernel
theorem dJ6_bitCount_0f7a4_40 : decode cJ6_bitCount_0f7a4 40 = .ok (.istore_n 0, 1) := by decide +kernel
theorem dJ6_bitCount_0f7a4_41 : decode cJ6_bitCount_0f7a4 41 = .ok (.iload_n 0, 1) := by decide +kernel
theorem dJ6_bitCount_0f7a4_42 : decode cJ6_bitCount_0f7a4 42 = .ok (.iload_n 0, 1) := by decide +kernel
theorem dJ6_bitCount_0f7a4_43 : decode cJ6_bitCount_0f7a4 43 = .ok (.bipush 16, 2) := by decide +kernel
theorem dJ6_bitCount_0f7a4_45 : decode cJ6_bitCount_0f7a4 45 = .ok (.iushr, 1) := by decide +kernel
theorem dJ6_bitCount_0f7a4_46 : decode cJ6_bitCount_0f7a4 46 = .ok (.iadd, 1) := by decide +kernel
theorem dJ6_bitCount_0f7a4_47 : decode cJ6_bitCount_0f7a4 47 = .ok (.istore_n 0, 1) := by decide +kernel
theorem dJ6_bitCount_0f7a4_48 : decode cJ6_bitCount_0f7a4 48 = .ok (.iload_n 0, 1) := by decide +kernel
theorem dJ6_bitCount_0f7a4_49 : decode cJ6_bitCount_0f7a4 49 = .ok (.bipush 63, 2) := by decide +kernel
theorem dJ6_bitCount_0f7a4_51 : decode cJ6_bitCount_0f7a4 51 = .ok (.iand, 1) := by decide +kernel
theorem dJ6_bitCount_0f7a4_52 : decode cJ6_bitCount_0f7a4 52 = .ok (.ireturn, 1) := by decide +kernel
theorem dX0_judge_0 : decode cX0_judge 0 = .ok (.aload_n 0, 1) := by decide +kernel
theorem dX0_judge_1 : decode cX0_judge 1 = .ok (.getfield 28, 3) := by decide +kernel
theorem dX0_judge_4 : decode cX0_judge 4 = .ok (.iload_n 1, 1) := by decide +kernel
theorem dX0_judge_5 : decode cX0_judge 5 = .ok (.aaload, 1) := by decide +kernel
theorem dX0_judge_6 : decode cX0_judge 6 = .ok (.astore_n 2, 1) := by decide +kernel
theorem dX0_judge_7 : decode cX0_judge 7 = .ok (.iconst 1, 1) := by decide +kernel
theorem dX0_judge_8 : decode cX0_judge 8 = .ok (.istore_n 3, 1) := by decide +kernel
theorem dX0_judge_9 : decode cX0_judge 9 = .ok (.aload_n 2, 1) := by decide +kernel
theorem dX0_judge_10 : decode cX0_judge 10 = .ok (.getfield 65, 3) := by decide +kernel
theorem dX0_judge_13 : decode cX0_judge 13 = .ok (.istore 4, 2) := by decide +kernel
theorem dX0_judge_15 : decode cX0_judge 15 = .ok (.iload 4, 2) := by decide +kernel
theorem dX0_judge_17 : decode cX0_judge 17 = .ok (.aload_n 2, 1) := by decide +kernel
theorem dX0_judge_18 : decode cX0_judge 18 = .ok (.getfield 68, 3) := by decide +kernel
theorem dX0_judge_21 : decode cX0_judge 21 = .ok (.if_icmp .gt 54, 3) := by decide +kernel
theorem dX0_judge_75 : decode cX0_judge 75 = .ok (.iload_n 3, 1) := by decide +kernel
theorem dX0_judge_76 : decode cX0_judge 76 = .ok (.ifCond .ne 5, 3) := by decide +kernel
theorem dX0_judge_81 : decode cX0_judge 81 = .ok (.aload_n 2, 1) := by decide +kernel
theorem dX0_judge_82 : decode cX0_judge 82 = .ok (.getfield 77, 3) := by decide +kernel
theorem dX0_judge_85 : decode cX0_judge 85 = .ok (.ifCond .eq 7, 3) := by decide +kernel
theorem dX0_judge_92 : decode cX0_judge 92 = .ok (.iconst 1, 1) := by decide +kernel
theorem dX0_judge_93 : decode cX0_judge 93 = .ok (.ireturn, 1) := by decide +kernel
theorem dX0_judge_88 : decode cX0_judge 88 = .ok (.iconst 0, 1) := by decide +kernel
theorem dX0_judge_89 : decode cX0_judge 89 = .ok (.goto 4, 3) := by decide +kernel
theorem dX0_judge_79 : decode cX0_judge 79 = .ok (.iconst 2, 1) := by decide +kernel
theorem dX0_judge_80 : decode cX0_judge 80 = .ok (.ireturn, 1) := by decide +kernel
theorem dX0_judge_24 : decode cX0_judge 24 = .ok (.aload_n 0, 1) := by decide +kernel
theorem dX0_judge_25 : decode cX0_judge 25 = .ok (.getfield 23, 3) := by decide +kernel
theorem dX0_judge_28 : decode cX0_judge 28 = .ok (.aload_n 2, 1) := by decide +kernel
theorem dX0_judge_29 : decode cX0_judge 29 = .ok (.getfield 71, 3) := by decide +kernel
theorem dX0_judge_32 : decode cX0_judge 32 = .ok (.aaload, 1) := by decide +kernel
theorem dX0_judge_33 : decode cX0_judge 33 = .ok (.iload 4, 2) := by decide +kernel
theorem dX0_judge_35 : decode cX0_judge 35 = .ok (.iaload, 1) := by decide +kernel
theorem dX0_judge_36 : decode cX0_judge 36 = .ok (.istore 5, 2) := by decide +kernel
theorem dX0_judge_38 : decode cX0_judge 38 = .ok (.iload 5, 2) := by decide +kernel
theorem dX0_judge_40 : decode cX0_judge 40 = .ok (.aload_n 2, 1) := by decide +kernel
theorem dX0_judge_41 : decode cX0_judge 41 = .ok (.getfield 74, 3) := by decide +kernel
theorem dX0_judge_44 : decode cX0_judge 44 = .ok (.if_icmp .ne 16, 3) := by decide +kernel
theorem dX0_judge_60 : decode cX0_judge 60 = .ok (.iload 5, 2) := by decide +kernel
theorem dX0_judge_62 : decode cX0_judge 62 = .ok (.bipush 7, 2) := by decide +kernel
theorem dX0_judge_64 : decode cX0_judge 64 = .ok (.if_icmp .ne 5, 3) := by decide +kernel
theorem dX0_judge_69 : decode cX0_judge 69 = .ok (.iinc 4 1, 3) := by decide +kernel
theorem dX0_judge_72 : decode cX0_judge 72 = .ok (.goto (-57), 3) := by decide +kernel
theorem dX0_judge_67 : decode cX0_judge 67 = .ok (.iconst 0, 1) := by decide +kernel
theorem dX0_judge_68 : decode cX0_judge 68 = .ok (.istore_n 3, 1) := by decide +kernel
theorem dX0_judge_47 : decode cX0_judge 47 = .ok (.aload_n 2, 1) := by decide +kernel
theorem dX0_judge_48 : decode cX0_judge 48 = .ok (.getfield 77, 3) := by decide +kernel
theorem dX0_judge_51 : decode cX0_judge 51 = .ok (.ifCond .eq 7, 3) := by decide +kernel
theorem dX0_judge_58 : decode cX0_judge 58 = .ok (.iconst 0, 1) := by decide +kernel
theorem dX0_judge_59 : decode cX0_judge 59 = .ok (.ireturn, 1) := by decide +kernel
theorem dX0_judge_54 : decode cX0_judge 54 = .ok (.iconst 1, 1) := by decide +kernel
theorem dX0_judge_55 : decode cX0_judge 55 = .ok (.goto 4, 3) := by decide +kernel
theorem dX0_begin_0 : decode cX0_begin 0 = .ok (.aload_n 0, 1) := by decide +kernel
theorem dX0_begin_1 : decode cX0_begin 1 = .ok (.iconst 0, 1) := by decide +kernel
theorem dX0_begin_2 : decode cX0_begin 2 = .ok (.putfield 33, 3) := by decide +kernel
theorem dX0_begin_5 : decode cX0_begin 5 = .ok (.aload_n 0, 1) := by decide +kernel
theorem dX0_begin_6 : decode cX0_begin 6 = .ok (.iconst 0, 1) := by decide +kernel
theorem dX0_begin_7 : decode cX0_begin 7 = .ok (.putfield 37, 3) := by decide +kernel
theorem dX0_begin_10 : decode cX0_begin 10 = .ok (.aload_n 0, 1) := by decide +kernel
theorem dX0_begin_11 : decode cX0_begin 11 = .ok (.iconst 0, 1) := by decide +kernel
theorem dX0_begin_12 : decode cX0_begin 12 = .ok (.putfield 40, 3) := by decide +kernel
theorem dX0_begin_15 : decode cX0_begin 15 = .ok (.aload_n 0, 1) := by decide +kernel
theorem dX0_begin_16 : decode cX0_begin 16 = .ok (.iconst 1, 1) := by decide +kernel
theorem dX0_begin_17 : decode cX0_begin 17 = .ok (.putfield 43, 3) := by decide +kernel
theorem dX0_begin_20 : decode cX0_begin 20 = .ok (.aload_n 0, 1) := by decide +kernel
theorem dX0_begin_21 : decode cX0_begin 21 = .ok (.iconst 0, 1) := by decide +kernel
theorem dX0_begin_22 : decode cX0_begin 22 = .ok (.putfield 46, 3) := by decide +kernel
theorem dX0_begin_25 : decode cX0_begin 25 = .ok (.aload_n 0, 1) := by decide +kernel
theorem dX0_begin_26 : decode cX0_begin 26 = .ok (.iconst 0, 1) := by decide +kernel
theorem dX0_begin_27 : decode cX0_begin 27 = .ok (.putfield 49, 3) := by decide +kernel
theorem dX0_begin_30 : decode cX0_begin 30 = .ok (.aload_n 0, 1) := by decide +kernel
theorem dX0_begin_31 : decode cX0_begin 31 = .ok (.getfield 9, 3) := by decide +kernel
theorem dX0_begin_34 : decode cX0_begin 34 = .ok (.iconst 0, 1) := by decide +kernel
theorem dX0_begin_35 : decode cX0_begin 35 = .ok (.iload_n 1, 1) := by decide +kernel
theorem dX0_begin_36 : decode cX0_begin 36 = .ok (.iastore, 1) := by decide +kernel
theorem dX0_begin_37 : decode cX0_begin 37 = .ok (.aload_n 0, 1) := by decide +kernel
theorem dX0_begin_38 : decode cX0_begin 38 = .ok (.getfield 9, 3) := by decide +kernel
theorem dX0_begin_41 : decode cX0_begin 41 = .ok (.iconst 1, 1) := by decide +kernel
theorem dX0_begin_42 : decode cX0_begin 42 = .ok (.iload_n 2, 1) := by decide +kernel
theorem dX0_begin_43 : decode cX0_begin 43 = .ok (.iastore, 1) := by decide +kernel
theorem dX0_begin_44 : decode cX0_begin 44 = .ok (.iconst 0, 1) := by decide +kernel
theorem dX0_begin_45 : decode cX0_begin 45 = .ok (.istore_n 3, 1) := by decide +kernel
theorem dX0_begin_46 : decode cX0_begin 46 = .ok (.iload_n 3, 1) := by decide +kernel
theorem dX0_begin_47 : decode cX0_begin 47 = .ok (.iconst 2, 1) := by decide +kernel
theorem dX0_begin_48 : decode cX0_begin 48 = .ok (.if_icmp .ge 43, 3) := by decide +kernel
theorem dX0_begin_91 : decode cX0_begin 91 = .ok (.return_, 1) := by decide +kernel
theorem dX0_begin_51 : decode cX0_begin 51 = .ok (.aload_n 0, 1) := by decide +kernel
theorem dX0_begin_52 : decode cX0_begin 52 = .ok (.getfield 15, 3) := by decide +kernel
theorem dX0_begin_55 : decode cX0_begin 55 = .ok (.iload_n 3, 1) := by decide +kernel
theorem dX0_begin_56 : decode cX0_begin 56 = .ok (.iconst (-1), 1) := by decide +kernel
theorem dX0_begin_57 : decode cX0_begin 57 = .ok (.iastore, 1) := by decide +kernel
theorem dX0_begin_58 : decode cX0_begin 58 = .ok (.iconst 0, 1) := by decide +kernel
theorem dX0_begin_59 : decode cX0_begin 59 = .ok (.istore 4, 2) := by decide +kernel
theorem dX0_begin_61 : decode cX0_begin 61 = .ok (.iload 4, 2) := by decide +kernel
theorem dX0_begin_63 : decode cX0_begin 63 = .ok (.bipush 24, 2) := by decide +kernel
theorem dX0_begin_65 : decode cX0_begin 65 = .ok (.if_icmp .ge 20, 3) := by decide +kernel
theorem dX0_begin_85 : decode cX0_begin 85 = .ok (.iinc 3 1, 3) := by decide +kernel
theorem dX0_begin_88 : decode cX0_begin 88 = .ok (.goto (-42), 3) := by decide +kernel
theorem dX0_begin_68 : decode cX0_begin 68 = .ok (.aload_n 0, 1) := by decide +kernel
theorem dX0_begin_69 : decode cX0_begin 69 = .ok (.getfield 23, 3) := by decide +kernel
theorem dX0_begin_72 : decode cX0_begin 72 = .ok (.iload_n 3, 1) := by decide +kernel
theorem dX0_begin_73 : decode cX0_begin 73 = .ok (.aaload, 1) := by decide +kernel
theorem dX0_begin_74 : decode cX0_begin 74 = .ok (.iload 4, 2) := by decide +kernel
theorem dX0_begin_76 : decode cX0_begin 76 = .ok (.bipush 7, 2) := by decide +kernel
theorem dX0_begin_78 : decode cX0_begin 78 = .ok (.iastore, 1) := by decide +kernel
theorem dX0_begin_79 : decode cX0_begin 79 = .ok (.iinc 4 1, 3) := by decide +kernel
theorem dX0_begin_82 : decode cX0_begin 82 = .ok (.goto (-21), 3) := by decide +kernel
theorem dX1_quarrelBits_0 : decode cX1_quarrelBits 0 = .ok (.iconst 1, 1) := by decide +kernel
theorem dX1_quarrelBits_1 : decode cX1_quarrelBits 1 = .ok (.iload_n 1, 1) := by decide +kernel
theorem dX1_quarrelBits_2 : decode cX1_quarrelBits 2 = .ok (.ishl, 1) := by decide +kernel
theorem dX1_quarrelBits_3 : decode cX1_quarrelBits 3 = .ok (.istore_n 2, 1) := by decide +kernel
theorem dX1_quarrelBits_4 : decode cX1_quarrelBits 4 = .ok (.iconst 1, 1) := by decide +kernel
theorem dX1_quarrelBits_5 : decode cX1_quarrelBits 5 = .ok (.istore_n 3, 1) := by decide +kernel
theorem dX1_quarrelBits_6 : decode cX1_quarrelBits 6 = .ok (.iload_n 3, 1) := by decide +kernel
theorem dX1_quarrelBits_7 : decode cX1_quarrelBits 7 = .ok (.aload_n 0, 1) := by decide +kernel
theorem dX1_quarrelBits_8 : decode cX1_quarrelBits 8 = .ok (.getfield 66, 3) := by decide +kernel
theorem dX1_quarrelBits_11 : decode cX1_quarrelBits 11 = .ok (.if_icmp .ge 49, 3) := by decide +kernel
theorem dX1_quarrelBits_60 : decode cX1_quarrelBits 60 = .ok (.iload_n 2, 1) := by decide +kernel
theorem dX1_quarrelBits_61 : decode cX1_quarrelBits 61 = .ok (.ireturn, 1) := by decide +kernel
theorem dX1_quarrelBits_14 : decode cX1_quarrelBits 14 = .ok (.iconst 0, 1) := by decide +kernel
theorem dX1_quarrelBits_15 : decode cX1_quarrelBits 15 = .ok (.istore 4, 2) := by decide +kernel
theorem dX1_quarrelBits_17 : decode cX1_quarrelBits 17 = .ok (.iload 4, 2) := by decide +kernel
theorem dX1_quarrelBits_19 : decode cX1_quarrelBits 19 = .ok (.aload_n 0, 1) := by decide +kernel
theorem dX1_quarrelBits_20 : decode cX1_quarrelBits 20 = .ok (.getfield 66, 3) := by decide +kernel
theorem dX1_quarrelBits_23 : decode cX1_quarrelBits 23 = .ok (.if_icmp .ge 31, 3) := by decide +kernel
theorem dX1_quarrelBits_54 : decode cX1_quarrelBits 54 = .ok (.iinc 3 1, 3) := by decide +kernel
theorem dX1_quarrelBits_57 : decode cX1_quarrelBits 57 = .ok (.goto (-51), 3) := by decide +kernel
theorem dX1_quarrelBits_26 : decode cX1_quarrelBits 26 = .ok (.iload_n 2, 1) := by decide +kernel
theorem dX1_quarrelBits_27 : decode cX1_quarrelBits 27 = .ok (.iload 4, 2) := by decide +kernel
set_option maxRecDepth 20000 in
theorem ggX1_quarrelBits_X7_hasBit : GoodIn wsX1_quarrelBits wsX7_hasBit := goodIn_r _ [6] (by decide +kernel) (by decide +kernel)
set_option maxRecDepth 20000 in
theorem gX1_quarrelBits_X7_hasBit_n51 : GoodIn wsX1_quarrelBits (wsX7_hasBit) := ggX1_quarrelBits_X7_hasBit
theorem dX1_quarrelBits_29 : decode cX1_quarrelBits 29 = .ok (.invokestatic 51, 3) := by decide +kernel
theorem dX1_quarrelBits_32 : decode cX1_quarrelBits 32 = .ok (.ifCond .eq 16, 3) := by decide +kernel
theorem dX1_quarrelBits_48 : decode cX1_quarrelBits 48 = .ok (.iinc 4 1, 3) := by decide +kernel
theorem dX1_quarrelBits_51 : decode cX1_quarrelBits 51 = .ok (.goto (-34), 3) := by decide +kernel
theorem dX1_quarrelBits_35 : decode cX1_quarrelBits 35 = .ok (.iload_n 2, 1) := by decide +kernel
theorem dX1_quarrelBits_36 : decode cX1_quarrelBits 36 = .ok (.aload_n 0, 1) := by decide +kernel
theorem dX1_quarrelBits_37 : decode cX1_quarrelBits 37 = .ok (.getfield 25, 3) := by decide +kernel
theorem dX1_quarrelBits_40 : decode cX1_quarrelBits 40 = .ok (.iload 4, 2) := by decide +kernel
theorem dX1_quarrelBits_42 : decode cX1_quarrelBits 42 = .ok (.aaload, 1) := by decide +kernel
theorem dX1_quarrelBits_43 : decode cX1_quarrelBits 43 = .ok (.getfield 69, 3) := by decide +kernel
theorem dX1_quarrelBits_46 : decode cX1_quarrelBits 46 = .ok (.ior, 1) := by decide +kernel
theorem dX1_quarrelBits_47 : decode cX1_quarrelBits 47 = .ok (.istore_n 2, 1) := by decide +kernel
theorem dX1_headOfQuarrel_0 : decode cX1_headOfQuarrel 0 = .ok (.aload_n 0, 1) := by decide +kernel
theorem dX1_headOfQuarrel_1 : decode cX1_headOfQuarrel 1 = .ok (.iload_n 1, 1) := by decide +kernel
set_option maxRecDepth 20000 in
theorem ggX1_headOfQuarrel_X1_quarrelBits : GoodIn wsX1_headOfQuarrel wsX1_quarrelBits := goodIn_r _ [5, 6, 7, 8, 9, 10, 11, 12, 13, 14, 15, 16, 17, 18, 19, 20, 21, 22, 23, 24, 25, 26, 27, 28, 29] (by decide +kernel) (by decide +kernel)
set_option maxRecDepth 20000 in
theorem gX1_headOfQuarrel_X1_quarrelBits : GoodIn wsX1_headOfQuarrel (wsV RX1 72 RX1 yX1_quarrelBits wsX1_quarrelBits) := goodIn_app (goodIn_of _ (by decide +kernel)) ggX1_headOfQuarrel_X1_quarrelBits
theorem dX1_headOfQuarrel_2 : decode cX1_headOfQuarrel 2 = .ok (.invokevirtual 72, 3) := by decide +kernel
theorem dX1_headOfQuarrel_5 : decode cX1_headOfQuarrel 5 = .ok (.istore_n 2, 1) := by decide +kernel
theorem dX1_headOfQuarrel_6 : decode cX1_headOfQuarrel 6 = .ok (.iconst 0, 1) := by decide +kernel
theorem dX1_headOfQuarrel_7 : decode cX1_headOfQuarrel 7 = .ok (.istore_n 3, 1) := by decide +kernel
theorem dX1_headOfQuarrel_8 : decode cX1_headOfQuarrel 8 = .ok (.iload_n 3, 1) := by decide +kernel
theorem dX1_headOfQuarrel_9 : decode cX1_headOfQuarrel 9 = .ok (.iload_n 1, 1) := by decide +kernel
theorem dX1_headOfQuarrel_10 : decode cX1_headOfQuarrel 10 = .ok (.if_icmp .ge 19, 3) := by decide +kernel
theorem dX1_headOfQuarrel_29 : decode cX1_headOfQuarrel 29 = .ok (.iload_n 1, 1) := by decide +kernel
theorem dX1_headOfQuarrel_30 : decode cX1_headOfQuarrel 30 = .ok (.ireturn, 1) := by decide +kernel
theorem dX1_headOfQuarrel_13 : decode cX1_headOfQuarrel 13 = .ok (.iload_n 2, 1) := by decide +kernel
theorem dX1_headOfQuarrel_14 : decode cX1_headOfQuarrel 14 = .ok (.iload_n 3, 1) := by decide +kernel
set_option maxRecDepth 20000 in
theorem ggX1_headOfQuarrel_X7_hasBit : GoodIn wsX1_headOfQuarrel wsX7_hasBit := goodIn_r _ [11] (by decide +kernel) (by decide +kernel)
set_option maxRecDepth 20000 in
theorem gX1_headOfQuarrel_X7_hasBit_n51 : GoodIn wsX1_headOfQuarrel (wsX7_hasBit) := ggX1_headOfQuarrel_X7_hasBit
theorem dX1_headOfQuarrel_15 : decode cX1_headOfQuarrel 15 = .ok (.invokestatic 51, 3) := by decide +kernel
theorem dX1_headOfQuarrel_18 : decode cX1_headOfQuarrel 18 = .ok (.ifCond .eq 5, 3) := by decide +kernel
theorem dX1_headOfQuarrel_23 : decode cX1_headOfQuarrel 23 = .ok (.iinc 3 1, 3) := by decide +kernel
theorem dX1_headOfQuarrel_26 : decode cX1_headOfQuarrel 26 = .ok (.goto (-18), 3) := by decide +kernel
theorem dX1_headOfQuarrel_21 : decode cX1_headOfQuarrel 21 = .ok (.iload_n 3, 1) := by decide +kernel
theorem dX1_headOfQuarrel_22 : decode cX1_headOfQuarrel 22 = .ok (.ireturn, 1) := by decide +kernel
theorem dX1_countQuarrels_0 : decode cX1_countQuarrels 0 = .ok (.iconst 0, 1) := by decide +kernel
theorem dX1_countQuarrels_1 : decode cX1_countQuarrels 1 = .ok (.istore_n 1, 1) := by decide +kernel
theorem dX1_countQuarrels_2 : decode cX1_countQuarrels 2 = .ok (.iconst 0, 1) := by decide +kernel
theorem dX1_countQuarrels_3 : decode cX1_countQuarrels 3 = .ok (.istore_n 2, 1) := by decide +kernel
theorem dX1_countQuarrels_4 : decode cX1_countQuarrels 4 = .ok (.iload_n 2, 1) := by decide +kernel
theorem dX1_countQuarrels_5 : decode cX1_countQuarrels 5 = .ok (.aload_n 0, 1) := by decide +kernel
theorem dX1_countQuarrels_6 : decode cX1_countQuarrels 6 = .ok (.getfield 66, 3) := by decide +kernel
theorem dX1_countQuarrels_9 : decode cX1_countQuarrels 9 = .ok (.if_icmp .ge 21, 3) := by decide +kernel
theorem dX1_countQuarrels_30 : decode cX1_countQuarrels 30 = .ok (.iload_n 1, 1) := by decide +kernel
theorem dX1_countQuarrels_31 : decode cX1_countQuarrels 31 = .ok (.ireturn, 1) := by decide +kernel
theorem dX1_countQuarrels_12 : decode cX1_countQuarrels 12 = .ok (.aload_n 0, 1) := by decide +kernel
theorem dX1_countQuarrels_13 : decode cX1_countQuarrels 13 = .ok (.iload_n 2, 1) := by decide +kernel
set_option maxRecDepth 20000 in
theorem ggX1_countQuarrels_X1_headOfQuarrel : GoodIn wsX1_countQuarrels wsX1_headOfQuarrel := goodIn_r _ [6, 7, 8, 9, 5, 10, 1, 11, 12, 13, 14, 15, 16, 17, 18, 19, 20, 21, 22, 23, 24, 25, 26, 27, 28, 29, 30, 31, 32, 33] (by decide +kernel) (by decide +kernel)
set_option maxRecDepth 20000 in
theorem gX1_countQuarrels_X1_headOfQuarrel : GoodIn wsX1_countQuarrels (wsV RX1 76 RX1 yX1_headOfQuarrel wsX1_headOfQuarrel) := goodIn_app (goodIn_of _ (by decide +kernel)) ggX1_countQuarrels_X1_headOfQuarrel
theorem dX1_countQuarrels_14 : decode cX1_countQuarrels 14 = .ok (.invokevirtual 76, 3) := by decide +kernel
theorem dX1_countQuarrels_17 : decode cX1_countQuarrels 17 = .ok (.iload_n 2, 1) := by decide +kernel
theorem dX1_countQuarrels_18 : decode cX1_countQuarrels 18 = .ok (.if_icmp .ne 6, 3) := by decide +kernel
theorem dX1_countQuarrels_24 : decode cX1_countQuarrels 24 = .ok (.iinc 2 1, 3) := by decide +kernel
theorem dX1_countQuarrels_27 : decode cX1_countQuarrels 27 = .ok (.goto (-23), 3) := by decide +kernel
theorem dX1_countQuarrels_21 : decode cX1_countQuarrels 21 = .ok (.iinc 1 1, 3) := by decide +kernel
theorem dX1_countJudged_0 : decode cX1_countJudged 0 = .ok (.iconst 0, 1) := by decide +kernel
theorem dX1_countJudged_1 : decode cX1_countJudged 1 = .ok (.istore_n 2, 1) := by decide +kernel
theorem dX1_countJudged_2 : decode cX1_countJudged 2 = .ok (.iconst 0, 1) := by decide +kernel
theorem dX1_countJudged_3 : decode cX1_countJudged 3 = .ok (.istore_n 3, 1) := by decide +kernel
theorem dX1_countJudged_4 : decode cX1_countJudged 4 = .ok (.iload_n 3, 1) := by decide +kernel
theorem dX1_countJudged_5 : decode cX1_countJudged 5 = .ok (.aload_n 0, 1) := by decide +kernel
theorem dX1_countJudged_6 : decode cX1_countJudged 6 = .ok (.getfield 66, 3) := by decide +kernel
theorem dX1_countJudged_9 : decode cX1_countJudged 9 = .ok (.if_icmp .ge 50, 3) := by decide +kernel
theorem dX1_countJudged_59 : decode cX1_countJudged 59 = .ok (.iload_n 2, 1) := by decide +kernel
theorem dX1_countJudged_60 : decode cX1_countJudged 60 = .ok (.ireturn, 1) := by decide +kernel
theorem dX1_countJudged_12 : decode cX1_countJudged 12 = .ok (.iconst 0, 1) := by decide +kernel
theorem dX1_countJudged_13 : decode cX1_countJudged 13 = .ok (.istore 4, 2) := by decide +kernel
theorem dX1_countJudged_15 : decode cX1_countJudged 15 = .ok (.iload 4, 2) := by decide +kernel
theorem dX1_countJudged_17 : decode cX1_countJudged 17 = .ok (.aload_n 0, 1) := by decide +kernel
theorem dX1_countJudged_18 : decode cX1_countJudged 18 = .ok (.getfield 25, 3) := by decide +kernel
theorem dX1_countJudged_21 : decode cX1_countJudged 21 = .ok (.iload_n 3, 1) := by decide +kernel
theorem dX1_countJudged_22 : decode cX1_countJudged 22 = .ok (.aaload, 1) := by decide +kernel
theorem dX1_countJudged_23 : decode cX1_countJudged 23 = .ok (.getfield 82, 3) := by decide +kernel
theorem dX1_countJudged_26 : decode cX1_countJudged 26 = .ok (.if_icmp .ge 27, 3) := by decide +kernel
theorem dX1_countJudged_53 : decode cX1_countJudged 53 = .ok (.iinc 3 1, 3) := by decide +kernel
theorem dX1_countJudged_56 : decode cX1_countJudged 56 = .ok (.goto (-52), 3) := by decide +kernel
theorem dX1_countJudged_29 : decode cX1_countJudged 29 = .ok (.aload_n 0, 1) := by decide +kernel
theorem dX1_countJudged_30 : decode cX1_countJudged 30 = .ok (.getfield 25, 3) := by decide +kernel
theorem dX1_countJudged_33 : decode cX1_countJudged 33 = .ok (.iload_n 3, 1) := by decide +kernel
theorem dX1_countJudged_34 : decode cX1_countJudged 34 = .ok (.aaload, 1) := by decide +kernel
theorem dX1_countJudged_35 : decode cX1_countJudged 35 = .ok (.iload 4, 2) := by decide +kernel
set_option maxRecDepth 20000 in
theorem ggX1_countJudged_X0_judge : GoodIn wsX1_countJudged wsX0_judge := goodIn_r _ [8, 9, 10, 11, 12, 13, 14, 15, 23, 24, 25, 26, 27, 28, 29, 30, 31, 32, 33, 34, 35, 36, 37, 38] (by decide +kernel) (by decide +kernel)
set_option maxRecDepth 20000 in
theorem gX1_countJudged_X0_judge : GoodIn wsX1_countJudged (wsV RX1 85 RX0 yX0_judge wsX0_judge) := goodIn_app (goodIn_of _ (by decide +kernel)) ggX1_countJudged_X0_judge
theorem dX1_countJudged_37 : decode cX1_countJudged 37 = .ok (.invokevirtual 85, 3) := by decide +kernel
theorem dX1_countJudged_40 : decode cX1_countJudged 40 = .ok (.iload_n 1, 1) := by decide +kernel
theorem dX1_countJudged_41 : decode cX1_countJudged 41 = .ok (.if_icmp .ne 6, 3) := by decide +kernel
theorem dX1_countJudged_47 : decode cX1_countJudged 47 = .ok (.iinc 4 1, 3) := by decide +kernel
theorem dX1_countJudged_50 : decode cX1_countJudged 50 = .ok (.goto (-35), 3) := by decide +kernel
theorem dX1_countJudged_44 : decode cX1_countJudged 44 = .ok (.iinc 2 1, 3) := by decide +kernel
set_option maxHeartbeats 4000000 in
set_option maxRecDepth 100000 in
theorem c_bitCount (l : Launch) (x0 : Int32) : Met l yJ6_bitCount_0f7a4 wsJ6_bitCount_0f7a4 ({ frames := 0, cells := 0, slots := 0, locals := 0 }) (va_Pc [.int x0] (fun _ => True)) (va_Qi (fun (r : Int32) (_ : Unit) => True) (fun _ _ => True) (fun _ => False)) 0 0 (fun _ => False) := by
  refine Met.ofW (cc := cJ6_bitCount_0f7a4) (maxL := 1) (ret := (some .int)) (by decide) rfl ?_
  intro p e s m args below meth c s₁ B hml hv
  obtain ⟨rfl, -⟩ := hv
  have hx := B.exec
  have hb := B.bytes
  have hr := B.returns
  have hts := atoms_spec (ws := wsJ6_bitCount_0f7a4) B.pre
  have hown : s.vm.findClass RJ6 = some m.cls := findClass_of_methodNamed B.named
  have hlocks := B.notSynchronized
  have hl := lv_entry ([.int x0]) (n := 1) (Nat.le_of_ble_eq_true rfl)
  rw [lg_entry_eq]
  generalize (lg_sl ([.int x0]) ++ List.replicate (1 - (lg_sl ([.int x0])).length) Slot.unset).toArray = ls at hl ⊢
  have hl : lv_has ls 1 [(0, .int x0)] := hl
  have hS : va_S (fun _ => False) s.heap s.heap [] := va_S.rf
  refine lv_iload_n hx hb dJ6_bitCount_0f7a4_0 rfl (lv_at hl 0 rfl) ?_
  refine lv_iload_n hx hb dJ6_bitCount_0f7a4_1 rfl (lv_at hl 0 rfl) ?_
  refine lv_iconst (v := 1) hx hb dJ6_bitCount_0f7a4_2 (by decide) ?_
  refine lv_iushr (v := _) hx hb dJ6_bitCount_0f7a4_3 rfl ?_
  refine lv_topi (fun x_1 ex_1 => ?_)
  refine lv_ldcw hx hb hown (hts (.constant RJ6 265 (1431655765)) (by decide +kernel)) dJ6_bitCount_0f7a4_4 ?_
  refine lv_iand hx hb dJ6_bitCount_0f7a4_7 ?_
  refine lv_topi (fun x_2 ex_2 => ?_)
  refine lv_isub hx hb dJ6_bitCount_0f7a4_8 ?_
  refine lv_topi (fun x_3 ex_3 => ?_)
  refine lv_istore_n (lv' := [(0, .int x_3)]) hx hb dJ6_bitCount_0f7a4_9 rfl hl (by decide) rfl (fun ls hl => ?_)
  refine lv_iload_n hx hb dJ6_bitCount_0f7a4_10 rfl (lv_at hl 0 rfl) ?_
  refine lv_ldcw hx hb hown (hts (.constant RJ6 266 (858993459)) (by decide +kernel)) dJ6_bitCount_0f7a4_11 ?_
  refine lv_iand hx hb dJ6_bitCount_0f7a4_14 ?_
  refine lv_topi (fun x_4 ex_4 => ?_)
  refine lv_iload_n hx hb dJ6_bitCount_0f7a4_15 rfl (lv_at hl 0 rfl) ?_
  refine lv_iconst (v := 2) hx hb dJ6_bitCount_0f7a4_16 (by decide) ?_
  refine lv_iushr (v := _) hx hb dJ6_bitCount_0f7a4_17 rfl ?_
  refine lv_topi (fun x_5 ex_5 => ?_)
  refine lv_ldcw hx hb hown (hts (.constant RJ6 266 (858993459)) (by decide +kernel)) dJ6_bitCount_0f7a4_18 ?_
  refine lv_iand hx hb dJ6_bitCount_0f7a4_21 ?_
  refine lv_topi (fun x_6 ex_6 => ?_)
  refine lv_iadd hx hb dJ6_bitCount_0f7a4_22 ?_
  refine lv_topi (fun x_7 ex_7 => ?_)
  refine lv_istore_n (lv' := [(0, .int x_7)]) hx hb dJ6_bitCount_0f7a4_23 rfl hl (by decide) rfl (fun ls hl => ?_)
  refine lv_iload_n hx hb dJ6_bitCount_0f7a4_24 rfl (lv_at hl 0 rfl) ?_
  refine lv_iload_n hx hb dJ6_bitCount_0f7a4_25 rfl (lv_at hl 0 rfl) ?_
  refine lv_iconst (v := 4) hx hb dJ6_bitCount_0f7a4_26 (by decide) ?_
  refine lv_iushr (v := _) hx hb dJ6_bitCount_0f7a4_27 rfl ?_
  refine lv_topi (fun x_8 ex_8 => ?_)
  refine lv_iadd hx hb dJ6_bitCount_0f7a4_28 ?_
  refine lv_topi (fun x_9 ex_9 => ?_)
  refine lv_ldcw hx hb hown (hts (.constant RJ6 267 (252645135)) (by decide +kernel)) dJ6_bitCount_0f7a4_29 ?_
  refine lv_iand hx hb dJ6_bitCount_0f7a4_32 ?_
  refine lv_topi (fun x_10 ex_10 => ?_)
  refine lv_istore_n (lv' := [(0, .int x_10)]) hx hb dJ6_bitCount_0f7a4_33 rfl hl (by decide) rfl (fun ls hl => ?_)
  refine lv_iload_n hx hb dJ6_bitCount_0f7a4_34 rfl (lv_at hl 0 rfl) ?_
  refine lv_iload_n hx hb dJ6_bitCount_0f7a4_35 rfl (lv_at hl 0 rfl) ?_
  refine lv_bipush (v := 8) hx hb dJ6_bitCount_0f7a4_36 (by decide) ?_
  refine lv_iushr (v := _) hx hb dJ6_bitCount_0f7a4_38 rfl ?_
  refine lv_topi (fun x_11 ex_11 => ?_)
  refine lv_iadd hx hb dJ6_bitCount_0f7a4_39 ?_
  refine lv_topi (fun x_12 ex_12 => ?_)
  refine lv_istore_n (lv' := [(0, .int x_12)]) hx hb dJ6_bitCount_0f7a4_40 rfl hl (by decide) rfl (fun ls hl => ?_)
  refine lv_iload_n hx hb dJ6_bitCount_0f7a4_41 rfl (lv_at hl 0 rfl) ?_
  refine lv_iload_n hx hb dJ6_bitCount_0f7a4_42 rfl (lv_at hl 0 rfl) ?_
  refine lv_bipush (v := 16) hx hb dJ6_bitCount_0f7a4_43 (by decide) ?_
  refine lv_iushr (v := _) hx hb dJ6_bitCount_0f7a4_45 rfl ?_
  refine lv_topi (fun x_13 ex_13 => ?_)
  refine lv_iadd hx hb dJ6_bitCount_0f7a4_46 ?_
  refine lv_topi (fun x_14 ex_14 => ?_)
  refine lv_istore_n (lv' := [(0, .int x_14)]) hx hb dJ6_bitCount_0f7a4_47 rfl hl (by decide) rfl (fun ls hl => ?_)
  refine lv_iload_n hx hb dJ6_bitCount_0f7a4_48 rfl (lv_at hl 0 rfl) ?_
  refine lv_bipush (v := 63) hx hb dJ6_bitCount_0f7a4_49 (by decide) ?_
  refine lv_iand hx hb dJ6_bitCount_0f7a4_51 ?_
  refine lv_topi (fun x_15 ex_15 => ?_)
  exact W.iret (v := x_15) hx hb hr (fun t ht hW => ⟨⟨x_15, (), rfl, trivial, trivial⟩, hS.F ht⟩) hS.2.2 dJ6_bitCount_0f7a4_52

set_option maxHeartbeats 4000000 in
set_option maxRecDepth 100000 in
theorem g_X0_judge (l : Launch) (dC : Nat → ClassId) (dI : Nat → Nat → Nat) (cy : Nat → ClassId) (sz : Nat) (ad : Nat → Nat) (kv : Value) (N : Nat) (hN : 119 ≤ N) (v : Nat → Nat → Int32) (hv : Iv v) (i : Nat) (hi : i < 6) (x0 : Int32) (hs : 0 ≤ x0.toInt ∧ x0.toInt ≤ 4) : Met l yX0_judge wsX0_judge ({ frames := 1, cells := 0, slots := 0, locals := 64 }) (va_Pc [.ref (ad (29 + 15 * i)), .int x0] (ex_Pre dC dI cy sz (wl ad kv cy N v))) (va_Qi (fun (r : Int32) (u : Nat → Nat → Int32) => Iv u ∧ Fr v u) (fun u t => ex_Pst dC dI (va_A (wl ad kv cy N v) sz) (wl ad kv cy N u) t) (va_A (wl ad kv cy N v) sz)) 0 0 (va_A (wl ad kv cy N v) sz) := by
  refine Met.ofW (cc := cX0_judge) (maxL := 6) (ret := (some .int)) (by decide) rfl ?_
  intro p e s m args below meth c s₁ B hml hv
  obtain ⟨rfl, hsz, hE, hP, hK, hD0⟩ := hv
  have hx := B.exec
  have hb := B.bytes
  have hr := B.returns
  have hts := atoms_spec (ws := wsX0_judge) B.pre
  have hown : s.vm.findClass RX0 = some m.cls := findClass_of_methodNamed B.named
  have hlocks := B.notSynchronized
  subst hsz
  have hD := hD0.self (sz := s.heap.size)
  generalize hAe : va_A (wl ad kv cy N v) s.heap.size = A at hD ⊢
  have hA : ∀ q : Nat, s.heap.size ≤ q → A q := fun q h => by rw [← hAe]; exact Or.inr h
  have hS : va_S A s.heap s.heap [] := va_S.rf
  have hP : va_P (dC, dI) vwCl (wl ad kv cy N v) s.heap := hP
  have hl := lv_entry ([.ref (ad (29 + 15 * i)), .int x0]) (n := 6) (Nat.le_of_ble_eq_true rfl)
  rw [lg_entry_eq]
  generalize (lg_sl ([.ref (ad (29 + 15 * i)), .int x0]) ++ List.replicate (6 - (lg_sl ([.ref (ad (29 + 15 * i)), .int x0])).length) Slot.unset).toArray = ls at hl ⊢
  have hl : lv_has ls 6 [(0, .ref (ad (29 + 15 * i))), (1, .int x0)] := hl
  have hfr : Fr v v := Fr.rf
  refine lv_aload_n hx hb dX0_judge_0 rfl (lv_at hl 0 rfl) ?_
  refine va_get (D := (dC, dI)) (ci := 0) (v := .ref (ad (29 + 15 * i + 9))) (C := RX0) (T := TX0) (N := 11) hx hb hts (by decide +kernel) hown hK hP (29 + 15 * i) (wl_at (by omega) (ce_9 (kd_c i hi).1.1)) rfl 10 (by decide) (hts (.fieldLink RX0 28 "QuietStairs$Case" "terms" "[LQuietStairs$Term;") (by decide +kernel)) (fun _ h9 => h9) rfl dX0_judge_1 ?_
  refine W.eq (g2 := F0 m 4 ls [.ref (ad (38 + 15 * i))]) (by rw [show 29 + 15 * i + 9 = 38 + 15 * i from by omega]) ?_
  refine lv_iload_n hx hb dX0_judge_4 rfl (lv_at hl 1 rfl) ?_
  obtain ⟨pi1, i1, hi1, ni1, mi1⟩ := t_in (x := x0) (n := 5) ⟨by omega, by omega⟩
  refine va_aldq hx hb hK hP (38 + 15 * i) 4 (wl_at (by omega) (ce_15 (kd_c i hi).1.2.2.2.2.2)) rfl pi1 dX0_judge_5 ?_
  refine W.eq (g2 := F0 m 6 ls [.ref (ad (39 + 15 * i + i1))]) (by rw [ni1, if_pos hi1, show 38 + 15 * i + 1 + i1 = 39 + 15 * i + i1 from by omega]; rfl) ?_
  refine lv_astore_n (lv' := [(2, .ref (ad (39 + 15 * i + i1))), (0, .ref (ad (29 + 15 * i))), (1, .int x0)]) hx hb dX0_judge_6 rfl hl (by decide) rfl (fun ls hl => ?_)
  refine lv_iconst (v := 1) hx hb dX0_judge_7 (by decide) ?_
  refine lv_istore_n (lv' := [(3, .int 1), (2, .ref (ad (39 + 15 * i + i1))), (0, .ref (ad (29 + 15 * i))), (1, .int x0)]) hx hb dX0_judge_8 rfl hl (by decide) rfl (fun ls hl => ?_)
  refine lv_aload_n hx hb dX0_judge_9 rfl (lv_at hl 1 rfl) ?_
  refine va_get (D := (dC, dI)) (ci := 6) (v := .int (v (39 + 15 * i + i1) 3)) (C := RX6) (T := TX6) (N := 5) hx hb hts (by decide +kernel) hown hK hP (39 + 15 * i + i1) (wl_at (by omega) (ce_16 (kd_t i hi i1 hi1).1)) rfl 3 (by decide) (hts (.fieldLink RX0 65 "QuietStairs$Term" "first" "I") (by decide +kernel)) (fun _ h9 => h9) rfl dX0_judge_10 ?_
  refine lv_topi (fun x_2 ex_2 => ?_)
  have bx_2 : 0 ≤ x_2.toInt ∧ x_2.toInt ≤ 23 := by rw [ex_2]; exact hv.at (K := 16) (kd_t i hi i1 hi1).1 rfl
  refine lv_istore (lv' := [(4, .int x_2), (3, .int 1), (2, .ref (ad (39 + 15 * i + i1))), (0, .ref (ad (29 + 15 * i))), (1, .int x0)]) hx hb dX0_judge_13 hl (by decide) rfl (fun ls hl => ?_)
  have k_1 : (1 : Int32).toInt = 1 := by decide
  have hloop_3 : ∀ (n : Nat) (y3_4 y3_3 : Int32) (u3 : Nat → Nat → Int32) (H : Heap) (locs : List Loc), 0 ≤ y3_4.toInt → y3_4.toInt ≤ 24 → (24 - y3_4.toInt).toNat < n → Iv u3 → Fr v u3 → va_P (dC, dI) vwCl (wl ad kv cy N u3) H → va_D A (wl ad kv cy N u3) → va_S A s.heap H locs → ∀ ls : Array Slot, lv_has ls 6 [(4, .int y3_4), (3, .int y3_3), (2, .ref (ad (39 + 15 * i + i1))), (0, .ref (ad (29 + 15 * i))), (1, .int x0)] → W p l e (headSpec wsX0_judge ({ frames := 1, cells := 0, slots := 0, locals := 64 })).room s m [Value.ref (ad (29 + 15 * i)), Value.int x0].toArray below meth c H locs 0 0 (MQ below (va_Qi (fun (r : Int32) (u : Nat → Nat → Int32) => Iv u ∧ Fr v u) (fun u t => ex_Pst dC dI A (wl ad kv cy N u) t) A) [Value.ref (ad (29 + 15 * i)), Value.int x0].toArray s 0 0 A) (F0 m 15 ls []) := by
    intro n
    induction n with
    | zero =>
      intro y3_4 y3_3 u3 H locs ay3_4 by3_4 hm_3 hv hfr hP hD hS ls hl
      exact absurd hm_3 (by omega)
    | succ n ih_3 =>
      intro y3_4 y3_3 u3 H locs ay3_4 by3_4 hm_3 hv hfr hP hD hS ls hl
      refine lv_iload hx hb dX0_judge_15 (lv_at hl 0 rfl) ?_
      refine lv_aload_n hx hb dX0_judge_17 rfl (lv_at hl 2 rfl) ?_
      refine va_get (D := (dC, dI)) (ci := 6) (v := .int (u3 (39 + 15 * i + i1) 4)) (C := RX6) (T := TX6) (N := 5) hx hb hts (by decide +kernel) hown hK hP (39 + 15 * i + i1) (wl_at (by omega) (ce_16 (kd_t i hi i1 hi1).1)) rfl 4 (by decide) (hts (.fieldLink RX0 68 "QuietStairs$Term" "last" "I") (by decide +kernel)) (fun _ h9 => h9) rfl dX0_judge_18 ?_
      refine lv_topi (fun x_4 ex_4 => ?_)
      have bx_4 : 0 ≤ x_4.toInt ∧ x_4.toInt ≤ 23 := by rw [ex_4]; exact hv.at (K := 16) (kd_t i hi i1 hi1).1 rfl
      refine lv_icmp_gt (tgt := 75) hx hb dX0_judge_21 (by decide) (fun c_5 => ?_) (fun c_5 => ?_)
      · have tc_5 : y3_4.toInt > x_4.toInt := Int32.lt_iff_toInt_lt.mp c_5
        refine lv_iload_n hx hb dX0_judge_75 rfl (lv_at hl 1 rfl) ?_
        have k_0 : (0 : Int32).toInt = 0 := by decide
        refine lv_if_ne (tgt := 81) hx hb dX0_judge_76 (by decide) (fun c_6 => ?_) (fun c_6 => ?_)
        · have tc_6 : y3_3.toInt ≠ (0 : Int32).toInt := fun q => absurd (Int32.toInt_inj.mp q) c_6
          refine lv_aload_n hx hb dX0_judge_81 rfl (lv_at hl 2 rfl) ?_
          refine va_get (D := (dC, dI)) (ci := 6) (v := .int (u3 (39 + 15 * i + i1) 1)) (C := RX6) (T := TX6) (N := 5) hx hb hts (by decide +kernel) hown hK hP (39 + 15 * i + i1) (wl_at (by omega) (ce_16 (kd_t i hi i1 hi1).1)) rfl 1 (by decide) (hts (.fieldLink RX0 77 "QuietStairs$Term" "must" "Z") (by decide +kernel)) (fun _ h9 => h9) rfl dX0_judge_82 ?_
          refine lv_topi (fun x_7 ex_7 => ?_)
          have bx_7 : 0 ≤ x_7.toInt ∧ x_7.toInt ≤ 1 := by rw [ex_7]; exact hv.at (K := 16) (kd_t i hi i1 hi1).1 rfl
          refine lv_if_eq (tgt := 92) hx hb dX0_judge_85 (by decide) (fun c_8 => ?_) (fun c_8 => ?_)
          · have tc_8 : x_7.toInt = (0 : Int32).toInt := by rw [c_8]
            refine lv_iconst (v := 1) hx hb dX0_judge_92 (by decide) ?_
            exact W.iret (v := 1) hx hb hr (fun t ht hW => ⟨⟨1, u3, rfl, ⟨hv, hfr⟩, by rw [ht]; exact hP, hD⟩, hS.F ht⟩) hS.2.2 dX0_judge_93
          · have tc_8 : x_7.toInt ≠ (0 : Int32).toInt := fun q => absurd (Int32.toInt_inj.mp q) c_8
            refine lv_iconst (v := 0) hx hb dX0_judge_88 (by decide) ?_
            refine lv_goto (tgt := 93) hx hb dX0_judge_89 (by decide) ?_
            exact W.iret (v := 0) hx hb hr (fun t ht hW => ⟨⟨0, u3, rfl, ⟨hv, hfr⟩, by rw [ht]; exact hP, hD⟩, hS.F ht⟩) hS.2.2 dX0_judge_93
        · have tc_6 : y3_3.toInt = (0 : Int32).toInt := by rw [c_6]
          refine lv_iconst (v := 2) hx hb dX0_judge_79 (by decide) ?_
          exact W.iret (v := 2) hx hb hr (fun t ht hW => ⟨⟨2, u3, rfl, ⟨hv, hfr⟩, by rw [ht]; exact hP, hD⟩, hS.F ht⟩) hS.2.2 dX0_judge_80
      · have tc_5 : y3_4.toInt ≤ x_4.toInt := Int32.le_iff_toInt_le.mp (Int32.not_lt.mp c_5)
        refine lv_aload_n hx hb dX0_judge_24 rfl (lv_at hl 3 rfl) ?_
        refine va_get (D := (dC, dI)) (ci := 0) (v := .ref (ad (29 + 15 * i + 6))) (C := RX0) (T := TX0) (N := 11) hx hb hts (by decide +kernel) hown hK hP (29 + 15 * i) (wl_at (by omega) (ce_9 (kd_c i hi).1.1)) rfl 9 (by decide) (hts (.fieldLink RX0 23 "QuietStairs$Case" "logs" "[[I") (by decide +kernel)) (fun _ h9 => h9) rfl dX0_judge_25 ?_
        refine W.eq (g2 := F0 m 28 ls [.ref (ad (35 + 15 * i))]) (by rw [show 29 + 15 * i + 6 = 35 + 15 * i from by omega]) ?_
        refine lv_aload_n hx hb dX0_judge_28 rfl (lv_at hl 2 rfl) ?_
        refine va_get (D := (dC, dI)) (ci := 6) (v := .int (u3 (39 + 15 * i + i1) 0)) (C := RX6) (T := TX6) (N := 5) hx hb hts (by decide +kernel) hown hK hP (39 + 15 * i + i1) (wl_at (by omega) (ce_16 (kd_t i hi i1 hi1).1)) rfl 0 (by decide) (hts (.fieldLink RX0 71 "QuietStairs$Term" "side" "I") (by decide +kernel)) (fun _ h9 => h9) rfl dX0_judge_29 ?_
        refine lv_topi (fun x_6 ex_6 => ?_)
        have bx_6 : 0 ≤ x_6.toInt ∧ x_6.toInt ≤ 1 := by rw [ex_6]; exact hv.at (K := 16) (kd_t i hi i1 hi1).1 rfl
        obtain ⟨pi7, i7, hi7, ni7, mi7⟩ := t_in (x := x_6) (n := 2) ⟨by omega, by omega⟩
        refine ya_ald hx hb hK hP (35 + 15 * i) (wl_at (by omega) (ce_13 (kd_c i hi).1.2.2.2.2.1)) pi7 dX0_judge_32 ?_
        refine W.eq (g2 := F0 m 33 ls [.ref (ad (36 + 15 * i + i7))]) (by rw [ni7, if_pos hi7, show 35 + 15 * i + 1 + i7 = 36 + 15 * i + i7 from by omega]; rfl) ?_
        refine lv_iload hx hb dX0_judge_33 (lv_at hl 0 rfl) ?_
        obtain ⟨pi8, i8, hi8, ni8, mi8⟩ := t_in (x := y3_4) (n := 24) ⟨by omega, by omega⟩
        refine va_iald hx hb hK hP (36 + 15 * i + i7) 0 (wl_at (by omega) (ce_14 (kd_o i hi i7 hi7).1.2)) rfl pi8 dX0_judge_35 ?_
        refine lv_topi (fun x_9 ex_9 => ?_)
        refine lv_istore (lv' := [(5, .int x_9), (4, .int y3_4), (3, .int y3_3), (2, .ref (ad (39 + 15 * i + i1))), (0, .ref (ad (29 + 15 * i))), (1, .int x0)]) hx hb dX0_judge_36 hl (by decide) rfl (fun ls hl => ?_)
        refine lv_iload hx hb dX0_judge_38 (lv_at hl 0 rfl) ?_
        refine lv_aload_n hx hb dX0_judge_40 rfl (lv_at hl 3 rfl) ?_
        refine va_get (D := (dC, dI)) (ci := 6) (v := .int (u3 (39 + 15 * i + i1) 2)) (C := RX6) (T := TX6) (N := 5) hx hb hts (by decide +kernel) hown hK hP (39 + 15 * i + i1) (wl_at (by omega) (ce_16 (kd_t i hi i1 hi1).1)) rfl 2 (by decide) (hts (.fieldLink RX0 74 "QuietStairs$Term" "act" "I") (by decide +kernel)) (fun _ h9 => h9) rfl dX0_judge_41 ?_
        refine lv_topi (fun x_10 ex_10 => ?_)
        refine lv_icmp_ne (tgt := 60) hx hb dX0_judge_44 (by decide) (fun c_11 => ?_) (fun c_11 => ?_)
        · have tc_11 : x_9.toInt ≠ x_10.toInt := fun q => absurd (Int32.toInt_inj.mp q) c_11
          refine lv_iload hx hb dX0_judge_60 (lv_at hl 0 rfl) ?_
          refine lv_bipush (v := 7) hx hb dX0_judge_62 (by decide) ?_
          have k_7 : (7 : Int32).toInt = 7 := by decide
          refine lv_icmp_ne (tgt := 69) hx hb dX0_judge_64 (by decide) (fun c_12 => ?_) (fun c_12 => ?_)
          · have tc_12 : x_9.toInt ≠ (7 : Int32).toInt := fun q => absurd (Int32.toInt_inj.mp q) c_12
            obtain ⟨x_13, ex_13⟩ : ∃ y : Int32, y = y3_4 + 1 := ⟨_, rfl⟩
            refine lv_iinc (v := x_13) (lv' := [(4, .int x_13), (5, .int x_9), (3, .int y3_3), (2, .ref (ad (39 + 15 * i + i1))), (0, .ref (ad (29 + 15 * i))), (1, .int x0)]) hx hb dX0_judge_69 hl (k := 1) rfl (by rw [ex_13]; rfl) (by decide) rfl (fun ls hl => ?_)
            have tx_13 : x_13.toInt = y3_4.toInt + (1 : Int32).toInt := by rw [ex_13]; exact t_add ⟨by omega, by omega⟩
            refine lv_goto (tgt := 15) hx hb dX0_judge_72 (by decide) ?_
            exact ih_3 x_13 y3_3 u3 H locs (by omega) (by omega) (by omega) hv hfr hP hD hS ls (lv_sub hl [0, 2, 3, 4, 5] rfl)
          · have tc_12 : x_9.toInt = (7 : Int32).toInt := by rw [c_12]
            refine lv_iconst (v := 0) hx hb dX0_judge_67 (by decide) ?_
            refine lv_istore_n (lv' := [(3, .int 0), (5, .int x_9), (4, .int y3_4), (2, .ref (ad (39 + 15 * i + i1))), (0, .ref (ad (29 + 15 * i))), (1, .int x0)]) hx hb dX0_judge_68 rfl hl (by decide) rfl (fun ls hl => ?_)
            obtain ⟨x_13, ex_13⟩ : ∃ y : Int32, y = y3_4 + 1 := ⟨_, rfl⟩
            refine lv_iinc (v := x_13) (lv' := [(4, .int x_13), (3, .int 0), (5, .int x_9), (2, .ref (ad (39 + 15 * i + i1))), (0, .ref (ad (29 + 15 * i))), (1, .int x0)]) hx hb dX0_judge_69 hl (k := 2) rfl (by rw [ex_13]; rfl) (by decide) rfl (fun ls hl => ?_)
            have tx_13 : x_13.toInt = y3_4.toInt + (1 : Int32).toInt := by rw [ex_13]; exact t_add ⟨by omega, by omega⟩
            refine lv_goto (tgt := 15) hx hb dX0_judge_72 (by decide) ?_
            have k_0 : (0 : Int32).toInt = 0 := by decide
            exact ih_3 x_13 0 u3 H locs (by omega) (by omega) (by omega) hv hfr hP hD hS ls (lv_sub hl [0, 1, 3, 4, 5] rfl)
        · have tc_11 : x_9.toInt = x_10.toInt := by rw [c_11]
          refine lv_aload_n hx hb dX0_judge_47 rfl (lv_at hl 3 rfl) ?_
          refine va_get (D := (dC, dI)) (ci := 6) (v := .int (u3 (39 + 15 * i + i1) 1)) (C := RX6) (T := TX6) (N := 5) hx hb hts (by decide +kernel) hown hK hP (39 + 15 * i + i1) (wl_at (by omega) (ce_16 (kd_t i hi i1 hi1).1)) rfl 1 (by decide) (hts (.fieldLink RX0 77 "QuietStairs$Term" "must" "Z") (by decide +kernel)) (fun _ h9 => h9) rfl dX0_judge_48 ?_
          refine lv_topi (fun x_12 ex_12 => ?_)
          have bx_12 : 0 ≤ x_12.toInt ∧ x_12.toInt ≤ 1 := by rw [ex_12]; exact hv.at (K := 16) (kd_t i hi i1 hi1).1 rfl
          have k_0 : (0 : Int32).toInt = 0 := by decide
          refine lv_if_eq (tgt := 58) hx hb dX0_judge_51 (by decide) (fun c_13 => ?_) (fun c_13 => ?_)
          · have tc_13 : x_12.toInt = (0 : Int32).toInt := by rw [c_13]
            refine lv_iconst (v := 0) hx hb dX0_judge_58 (by decide) ?_
            exact W.iret (v := 0) hx hb hr (fun t ht hW => ⟨⟨0, u3, rfl, ⟨hv, hfr⟩, by rw [ht]; exact hP, hD⟩, hS.F ht⟩) hS.2.2 dX0_judge_59
          · have tc_13 : x_12.toInt ≠ (0 : Int32).toInt := fun q => absurd (Int32.toInt_inj.mp q) c_13
            refine lv_iconst (v := 1) hx hb dX0_judge_54 (by decide) ?_
            refine lv_goto (tgt := 59) hx hb dX0_judge_55 (by decide) ?_
            exact W.iret (v := 1) hx hb hr (fun t ht hW => ⟨⟨1, u3, rfl, ⟨hv, hfr⟩, by rw [ht]; exact hP, hD⟩, hS.F ht⟩) hS.2.2 dX0_judge_59
  exact hloop_3 ((24 - (x_2 : Int32).toInt).toNat + 1) x_2 1 v _ _ (by omega) (by omega) (by omega) hv hfr hP hD hS ls hl

set_option maxHeartbeats 4000000 in
set_option maxRecDepth 100000 in
theorem g_X0_begin (l : Launch) (dC : Nat → ClassId) (dI : Nat → Nat → Nat) (cy : Nat → ClassId) (sz : Nat) (ad : Nat → Nat) (kv : Value) (N : Nat) (hN : 119 ≤ N) (v : Nat → Nat → Int32) (hv : Iv v) (i : Nat) (hi : i < 6) (x0 x1 : Int32) (hs : 0 ≤ x0.toInt ∧ x0.toInt ≤ 7) (ht : 0 ≤ x1.toInt ∧ x1.toInt ≤ 7) : Met l yX0_begin wsX0_begin ({ frames := 1, cells := 0, slots := 0, locals := 64 }) (va_Pc [.ref (ad (29 + 15 * i)), .int x0, .int x1] (ex_Pre dC dI cy sz (wl ad kv cy N v))) (va_Qv (fun (u : Nat → Nat → Int32) => Iv u ∧ Fs v u) (fun u t => ex_Pst dC dI (va_A (wl ad kv cy N v) sz) (wl ad kv cy N u) t) (va_A (wl ad kv cy N v) sz)) 0 0 (va_A (wl ad kv cy N v) sz) := by
  refine Met.ofW (cc := cX0_begin) (maxL := 5) (ret := none) (by decide) rfl ?_
  intro p e s m args below meth c s₁ B hml hv
  obtain ⟨rfl, hsz, hE, hP, hK, hD0⟩ := hv
  have hx := B.exec
  have hb := B.bytes
  have hr := B.returns
  have hts := atoms_spec (ws := wsX0_begin) B.pre
  have hown : s.vm.findClass RX0 = some m.cls := findClass_of_methodNamed B.named
  have hlocks := B.notSynchronized
  subst hsz
  have hD := hD0.self (sz := s.heap.size)
  generalize hAe : va_A (wl ad kv cy N v) s.heap.size = A at hD ⊢
  have hA : ∀ q : Nat, s.heap.size ≤ q → A q := fun q h => by rw [← hAe]; exact Or.inr h
  have hS : va_S A s.heap s.heap [] := va_S.rf
  have hP : va_P (dC, dI) vwCl (wl ad kv cy N v) s.heap := hP
  have hl := lv_entry ([.ref (ad (29 + 15 * i)), .int x0, .int x1]) (n := 5) (Nat.le_of_ble_eq_true rfl)
  rw [lg_entry_eq]
  generalize (lg_sl ([.ref (ad (29 + 15 * i)), .int x0, .int x1]) ++ List.replicate (5 - (lg_sl ([.ref (ad (29 + 15 * i)), .int x0, .int x1])).length) Slot.unset).toArray = ls at hl ⊢
  have hl : lv_has ls 5 [(0, .ref (ad (29 + 15 * i))), (1, .int x0), (2, .int x1)] := hl
  have hfr : Fs v v := Fs.rf
  refine lv_aload_n hx hb dX0_begin_0 rfl (lv_at hl 0 rfl) ?_
  refine lv_iconst (v := 0) hx hb dX0_begin_1 (by decide) ?_
  refine va_put (D := (dC, dI)) (ci := 0) (v := .int 0) (ty := .int) (C := RX0) (T := TX0) (N := 11) hx hb hts (by decide +kernel) tyX0 tyX0_ok nmX0 hown hK hP hD hS (29 + 15 * i) (wl_at (by omega) (ce_9 (kd_c i hi).1.1)) rfl 0 (by decide) (hts (.fieldLink RX0 33 "QuietStairs$Case" "state" "I") (by decide +kernel)) (fun _ h9 => h9) rfl (by decide +kernel) rfl rfl (Nat.le_of_ble_eq_true rfl) dX0_begin_2 (fun H locs hP hD hS => ?_)
  have k_0 : (0 : Int32).toInt = 0 := by decide
  obtain ⟨v_1, ev_1⟩ : ∃ u : Nat → Nat → Int32, u = upr v (29 + 15 * i) (upd (v (29 + 15 * i)) 0 0) := ⟨_, rfl⟩
  have hP : va_P (dC, dI) vwCl (wl ad kv cy N v_1) H := by rw [ev_1, ← wl_put (e := _) (ce_9 (kd_c i hi).1.1)]; exact hP
  have hD : va_D A (wl ad kv cy N v_1) := by rw [ev_1, ← wl_put (e := _) (ce_9 (kd_c i hi).1.1)]; exact hD
  have hv : Iv v_1 := by rw [ev_1]; exact hv.put (K := 9) (kd_c i hi).1.1 (fun h q => by simp [bd] at q)
  have hfr : Fs v v_1 := by rw [ev_1]; exact hfr.put (by omega) (by omega) (by omega)
  refine lv_aload_n hx hb dX0_begin_5 rfl (lv_at hl 0 rfl) ?_
  refine lv_iconst (v := 0) hx hb dX0_begin_6 (by decide) ?_
  refine va_put (D := (dC, dI)) (ci := 0) (v := .int 0) (ty := .int) (C := RX0) (T := TX0) (N := 11) hx hb hts (by decide +kernel) tyX0 tyX0_ok nmX0 hown hK hP hD hS (29 + 15 * i) (wl_at (by omega) (ce_9 (kd_c i hi).1.1)) rfl 1 (by decide) (hts (.fieldLink RX0 37 "QuietStairs$Case" "sum" "I") (by decide +kernel)) (fun _ h9 => h9) rfl (by decide +kernel) rfl rfl (Nat.le_of_ble_eq_true rfl) dX0_begin_7 (fun H locs hP hD hS => ?_)
  obtain ⟨v_2, ev_2⟩ : ∃ u : Nat → Nat → Int32, u = upr v_1 (29 + 15 * i) (upd (v_1 (29 + 15 * i)) 1 0) := ⟨_, rfl⟩
  have hP : va_P (dC, dI) vwCl (wl ad kv cy N v_2) H := by rw [ev_2, ← wl_put (e := _) (ce_9 (kd_c i hi).1.1)]; exact hP
  have hD : va_D A (wl ad kv cy N v_2) := by rw [ev_2, ← wl_put (e := _) (ce_9 (kd_c i hi).1.1)]; exact hD
  have hv : Iv v_2 := by rw [ev_2]; exact hv.put (K := 9) (kd_c i hi).1.1 (fun h q => by simp [bd] at q)
  have hfr : Fs v v_2 := by rw [ev_2]; exact hfr.put (by omega) (by omega) (by omega)
  refine lv_aload_n hx hb dX0_begin_10 rfl (lv_at hl 0 rfl) ?_
  refine lv_iconst (v := 0) hx hb dX0_begin_11 (by decide) ?_
  refine va_put (D := (dC, dI)) (ci := 0) (v := .int 0) (ty := .int) (C := RX0) (T := TX0) (N := 11) hx hb hts (by decide +kernel) tyX0 tyX0_ok nmX0 hown hK hP hD hS (29 + 15 * i) (wl_at (by omega) (ce_9 (kd_c i hi).1.1)) rfl 2 (by decide) (hts (.fieldLink RX0 40 "QuietStairs$Case" "roundsOver" "I") (by decide +kernel)) (fun _ h9 => h9) rfl (by decide +kernel) rfl rfl (Nat.le_of_ble_eq_true rfl) dX0_begin_12 (fun H locs hP hD hS => ?_)
  obtain ⟨v_3, ev_3⟩ : ∃ u : Nat → Nat → Int32, u = upr v_2 (29 + 15 * i) (upd (v_2 (29 + 15 * i)) 2 0) := ⟨_, rfl⟩
  have hP : va_P (dC, dI) vwCl (wl ad kv cy N v_3) H := by rw [ev_3, ← wl_put (e := _) (ce_9 (kd_c i hi).1.1)]; exact hP
  have hD : va_D A (wl ad kv cy N v_3) := by rw [ev_3, ← wl_put (e := _) (ce_9 (kd_c i hi).1.1)]; exact hD
  have hv : Iv v_3 := by rw [ev_3]; exact hv.put (K := 9) (kd_c i hi).1.1 (fun h q => by cases q; exact ⟨by omega, by omega⟩)
  have hfr : Fs v v_3 := by rw [ev_3]; exact hfr.put (by omega) (by omega) (by omega)
  refine lv_aload_n hx hb dX0_begin_15 rfl (lv_at hl 0 rfl) ?_
  refine lv_iconst (v := 1) hx hb dX0_begin_16 (by decide) ?_
  refine va_put (D := (dC, dI)) (ci := 0) (v := .int 1) (ty := .int) (C := RX0) (T := TX0) (N := 11) hx hb hts (by decide +kernel) tyX0 tyX0_ok nmX0 hown hK hP hD hS (29 + 15 * i) (wl_at (by omega) (ce_9 (kd_c i hi).1.1)) rfl 3 (by decide) (hts (.fieldLink RX0 43 "QuietStairs$Case" "weight" "I") (by decide +kernel)) (fun _ h9 => h9) rfl (by decide +kernel) rfl rfl (Nat.le_of_ble_eq_true rfl) dX0_begin_17 (fun H locs hP hD hS => ?_)
  have k_1 : (1 : Int32).toInt = 1 := by decide
  obtain ⟨v_4, ev_4⟩ : ∃ u : Nat → Nat → Int32, u = upr v_3 (29 + 15 * i) (upd (v_3 (29 + 15 * i)) 3 1) := ⟨_, rfl⟩
  have hP : va_P (dC, dI) vwCl (wl ad kv cy N v_4) H := by rw [ev_4, ← wl_put (e := _) (ce_9 (kd_c i hi).1.1)]; exact hP
  have hD : va_D A (wl ad kv cy N v_4) := by rw [ev_4, ← wl_put (e := _) (ce_9 (kd_c i hi).1.1)]; exact hD
  have hv : Iv v_4 := by rw [ev_4]; exact hv.put (K := 9) (kd_c i hi).1.1 (fun h q => by simp [bd] at q)
  have hfr : Fs v v_4 := by rw [ev_4]; exact hfr.put (by omega) (by omega) (by omega)
  refine lv_aload_n hx hb dX0_begin_20 rfl (lv_at hl 0 rfl) ?_
  refine lv_iconst (v := 0) hx hb dX0_begin_21 (by decide) ?_
  refine va_put (D := (dC, dI)) (ci := 0) (v := .int 0) (ty := .int) (C := RX0) (T := TX0) (N := 11) hx hb hts (by decide +kernel) tyX0 tyX0_ok nmX0 hown hK hP hD hS (29 + 15 * i) (wl_at (by omega) (ce_9 (kd_c i hi).1.1)) rfl 4 (by decide) (hts (.fieldLink RX0 46 "QuietStairs$Case" "markedBits" "I") (by decide +kernel)) (fun _ h9 => h9) rfl (by decide +kernel) rfl rfl (Nat.le_of_ble_eq_true rfl) dX0_begin_22 (fun H locs hP hD hS => ?_)
  obtain ⟨v_5, ev_5⟩ : ∃ u : Nat → Nat → Int32, u = upr v_4 (29 + 15 * i) (upd (v_4 (29 + 15 * i)) 4 0) := ⟨_, rfl⟩
  have hP : va_P (dC, dI) vwCl (wl ad kv cy N v_5) H := by rw [ev_5, ← wl_put (e := _) (ce_9 (kd_c i hi).1.1)]; exact hP
  have hD : va_D A (wl ad kv cy N v_5) := by rw [ev_5, ← wl_put (e := _) (ce_9 (kd_c i hi).1.1)]; exact hD
  have hv : Iv v_5 := by rw [ev_5]; exact hv.put (K := 9) (kd_c i hi).1.1 (fun h q => by simp [bd] at q)
  have hfr : Fs v v_5 := by rw [ev_5]; exact hfr.put (by omega) (by omega) (by omega)
  refine lv_aload_n hx hb dX0_begin_25 rfl (lv_at hl 0 rfl) ?_
  refine lv_iconst (v := 0) hx hb dX0_begin_26 (by decide) ?_
  refine va_put (D := (dC, dI)) (ci := 0) (v := .int 0) (ty := .int) (C := RX0) (T := TX0) (N := 11) hx hb hts (by decide +kernel) tyX0 tyX0_ok nmX0 hown hK hP hD hS (29 + 15 * i) (wl_at (by omega) (ce_9 (kd_c i hi).1.1)) rfl 5 (by decide) (hts (.fieldLink RX0 49 "QuietStairs$Case" "termCount" "I") (by decide +kernel)) (fun _ h9 => h9) rfl (by decide +kernel) rfl rfl (Nat.le_of_ble_eq_true rfl) dX0_begin_27 (fun H locs hP hD hS => ?_)
  obtain ⟨v_6, ev_6⟩ : ∃ u : Nat → Nat → Int32, u = upr v_5 (29 + 15 * i) (upd (v_5 (29 + 15 * i)) 5 0) := ⟨_, rfl⟩
  have hP : va_P (dC, dI) vwCl (wl ad kv cy N v_6) H := by rw [ev_6, ← wl_put (e := _) (ce_9 (kd_c i hi).1.1)]; exact hP
  have hD : va_D A (wl ad kv cy N v_6) := by rw [ev_6, ← wl_put (e := _) (ce_9 (kd_c i hi).1.1)]; exact hD
  have hv : Iv v_6 := by rw [ev_6]; exact hv.put (K := 9) (kd_c i hi).1.1 (fun h q => by cases q; exact ⟨by omega, by omega⟩)
  have hfr : Fs v v_6 := by rw [ev_6]; exact hfr.put (by omega) (by omega) (by omega)
  refine lv_aload_n hx hb dX0_begin_30 rfl (lv_at hl 0 rfl) ?_
  refine va_get (D := (dC, dI)) (ci := 0) (v := .ref (ad (29 + 15 * i + 1))) (C := RX0) (T := TX0) (N := 11) hx hb hts (by decide +kernel) hown hK hP (29 + 15 * i) (wl_at (by omega) (ce_9 (kd_c i hi).1.1)) rfl 6 (by decide) (hts (.fieldLink RX0 9 "QuietStairs$Case" "parties" "[I") (by decide +kernel)) (fun _ h9 => h9) rfl dX0_begin_31 ?_
  refine W.eq (g2 := F0 m 34 ls [.ref (ad (30 + 15 * i))]) (by rw [show 29 + 15 * i + 1 = 30 + 15 * i from by omega]) ?_
  refine lv_iconst (v := 0) hx hb dX0_begin_34 (by decide) ?_
  refine lv_iload_n hx hb dX0_begin_35 rfl (lv_at hl 1 rfl) ?_
  refine va_iast hx hb hK hP hD hS (30 + 15 * i) 0 (wl_at (by omega) (ce_10 (kd_c i hi).1.2.1)) rfl (by unfold vp_in; decide) dX0_begin_36 (fun H locs hP hD hS => ?_)
  obtain ⟨v_7, ev_7⟩ : ∃ u : Nat → Nat → Int32, u = upr v_6 (30 + 15 * i) (upd (v_6 (30 + 15 * i)) ((0 : Int32).toNatClampNeg) x0) := ⟨_, rfl⟩
  have hP : va_P (dC, dI) vwCl (wl ad kv cy N v_7) H := by rw [ev_7, ← wl_put (e := _) (ce_10 (kd_c i hi).1.2.1)]; exact hP
  have hD : va_D A (wl ad kv cy N v_7) := by rw [ev_7, ← wl_put (e := _) (ce_10 (kd_c i hi).1.2.1)]; exact hD
  have hv : Iv v_7 := by rw [ev_7]; exact hv.put (K := 10) (kd_c i hi).1.2.1 (fun h q => by cases q; exact ⟨by omega, by omega⟩)
  have hfr : Fs v v_7 := by rw [ev_7]; exact hfr.put (by omega) (by omega) (by omega)
  refine lv_aload_n hx hb dX0_begin_37 rfl (lv_at hl 0 rfl) ?_
  refine va_get (D := (dC, dI)) (ci := 0) (v := .ref (ad (29 + 15 * i + 1))) (C := RX0) (T := TX0) (N := 11) hx hb hts (by decide +kernel) hown hK hP (29 + 15 * i) (wl_at (by omega) (ce_9 (kd_c i hi).1.1)) rfl 6 (by decide) (hts (.fieldLink RX0 9 "QuietStairs$Case" "parties" "[I") (by decide +kernel)) (fun _ h9 => h9) rfl dX0_begin_38 ?_
  refine W.eq (g2 := F0 m 41 ls [.ref (ad (30 + 15 * i))]) (by rw [show 29 + 15 * i + 1 = 30 + 15 * i from by omega]) ?_
  refine lv_iconst (v := 1) hx hb dX0_begin_41 (by decide) ?_
  refine lv_iload_n hx hb dX0_begin_42 rfl (lv_at hl 2 rfl) ?_
  refine va_iast hx hb hK hP hD hS (30 + 15 * i) 0 (wl_at (by omega) (ce_10 (kd_c i hi).1.2.1)) rfl (by unfold vp_in; decide) dX0_begin_43 (fun H locs hP hD hS => ?_)
  obtain ⟨v_8, ev_8⟩ : ∃ u : Nat → Nat → Int32, u = upr v_7 (30 + 15 * i) (upd (v_7 (30 + 15 * i)) ((1 : Int32).toNatClampNeg) x1) := ⟨_, rfl⟩
  have hP : va_P (dC, dI) vwCl (wl ad kv cy N v_8) H := by rw [ev_8, ← wl_put (e := _) (ce_10 (kd_c i hi).1.2.1)]; exact hP
  have hD : va_D A (wl ad kv cy N v_8) := by rw [ev_8, ← wl_put (e := _) (ce_10 (kd_c i hi).1.2.1)]; exact hD
  have hv : Iv v_8 := by rw [ev_8]; exact hv.put (K := 10) (kd_c i hi).1.2.1 (fun h q => by cases q; exact ⟨by omega, by omega⟩)
  have hfr : Fs v v_8 := by rw [ev_8]; exact hfr.put (by omega) (by omega) (by omega)
  refine lv_iconst (v := 0) hx hb dX0_begin_44 (by decide) ?_
  refine lv_istore_n (lv' := [(3, .int 0), (0, .ref (ad (29 + 15 * i))), (1, .int x0), (2, .int x1)]) hx hb dX0_begin_45 rfl hl (by decide) rfl (fun ls hl => ?_)
  have hloop_9 : ∀ (n : Nat) (y9_3 : Int32) (u9 : Nat → Nat → Int32) (H : Heap) (locs : List Loc), 0 ≤ y9_3.toInt → y9_3.toInt ≤ 2 → (2 - y9_3.toInt).toNat < n → Iv u9 → Fs v u9 → va_P (dC, dI) vwCl (wl ad kv cy N u9) H → va_D A (wl ad kv cy N u9) → va_S A s.heap H locs → ∀ ls : Array Slot, lv_has ls 5 [(3, .int y9_3), (0, .ref (ad (29 + 15 * i))), (1, .int x0), (2, .int x1)] → W p l e (headSpec wsX0_begin ({ frames := 1, cells := 0, slots := 0, locals := 64 })).room s m [Value.ref (ad (29 + 15 * i)), Value.int x0, Value.int x1].toArray below meth c H locs 0 0 (MQ below (va_Qv (fun (u : Nat → Nat → Int32) => Iv u ∧ Fs v u) (fun u t => ex_Pst dC dI A (wl ad kv cy N u) t) A) [Value.ref (ad (29 + 15 * i)), Value.int x0, Value.int x1].toArray s 0 0 A) (F0 m 46 ls []) := by
    intro n
    induction n with
    | zero =>
      intro y9_3 u9 H locs ay9_3 by9_3 hm_9 hv hfr hP hD hS ls hl
      exact absurd hm_9 (by omega)
    | succ n ih_9 =>
      intro y9_3 u9 H locs ay9_3 by9_3 hm_9 hv hfr hP hD hS ls hl
      refine lv_iload_n hx hb dX0_begin_46 rfl (lv_at hl 0 rfl) ?_
      refine lv_iconst (v := 2) hx hb dX0_begin_47 (by decide) ?_
      have k_2 : (2 : Int32).toInt = 2 := by decide
      refine lv_icmp_ge (tgt := 91) hx hb dX0_begin_48 (by decide) (fun c_10 => ?_) (fun c_10 => ?_)
      · have tc_10 : y9_3.toInt ≥ (2 : Int32).toInt := Int32.le_iff_toInt_le.mp c_10
        exact W.vret hx hb hr (fun t ht hW => ⟨⟨u9, rfl, ⟨hv, hfr⟩, by rw [ht]; exact hP, hD⟩, hS.F ht⟩) hS.2.2 dX0_begin_91
      · have tc_10 : y9_3.toInt < (2 : Int32).toInt := Int32.lt_iff_toInt_lt.mp (Int32.not_le.mp c_10)
        refine lv_aload_n hx hb dX0_begin_51 rfl (lv_at hl 1 rfl) ?_
        refine va_get (D := (dC, dI)) (ci := 0) (v := .ref (ad (29 + 15 * i + 2))) (C := RX0) (T := TX0) (N := 11) hx hb hts (by decide +kernel) hown hK hP (29 + 15 * i) (wl_at (by omega) (ce_9 (kd_c i hi).1.1)) rfl 7 (by decide) (hts (.fieldLink RX0 15 "QuietStairs$Case" "box" "[I") (by decide +kernel)) (fun _ h9 => h9) rfl dX0_begin_52 ?_
        refine W.eq (g2 := F0 m 55 ls [.ref (ad (31 + 15 * i))]) (by rw [show 29 + 15 * i + 2 = 31 + 15 * i from by omega]) ?_
        refine lv_iload_n hx hb dX0_begin_55 rfl (lv_at hl 0 rfl) ?_
        refine lv_iconst (v := (-1)) hx hb dX0_begin_56 (by decide) ?_
        obtain ⟨pi11, i11, hi11, ni11, mi11⟩ := t_in (x := y9_3) (n := 2) ⟨by omega, by omega⟩
        refine va_iast hx hb hK hP hD hS (31 + 15 * i) 0 (wl_at (by omega) (ce_20 (kd_c i hi).1.2.2.1)) rfl pi11 dX0_begin_57 (fun H locs hP hD hS => ?_)
        have k_m1 : ((-1) : Int32).toInt = -1 := by decide
        obtain ⟨v_12, ev_12⟩ : ∃ u : Nat → Nat → Int32, u = upr u9 (31 + 15 * i) (upd (u9 (31 + 15 * i)) (y9_3.toNatClampNeg) (-1)) := ⟨_, rfl⟩
        have hP : va_P (dC, dI) vwCl (wl ad kv cy N v_12) H := by rw [ev_12, ← wl_put (e := _) (ce_20 (kd_c i hi).1.2.2.1)]; exact hP
        have hD : va_D A (wl ad kv cy N v_12) := by rw [ev_12, ← wl_put (e := _) (ce_20 (kd_c i hi).1.2.2.1)]; exact hD
        have hv : Iv v_12 := by rw [ev_12]; exact hv.put (K := 20) (kd_c i hi).1.2.2.1 (fun h q => by simp [bd] at q)
        have hfr : Fs v v_12 := by rw [ev_12]; exact hfr.put (by omega) (by omega) (by omega)
        refine lv_iconst (v := 0) hx hb dX0_begin_58 (by decide) ?_
        refine lv_istore (lv' := [(4, .int 0), (3, .int y9_3), (0, .ref (ad (29 + 15 * i))), (1, .int x0), (2, .int x1)]) hx hb dX0_begin_59 hl (by decide) rfl (fun ls hl => ?_)
        have hloop_13 : ∀ (n : Nat) (y13_4 : Int32) (u13 : Nat → Nat → Int32) (H : Heap) (locs : List Loc), 0 ≤ y13_4.toInt → y13_4.toInt ≤ 24 → (24 - y13_4.toInt).toNat < n → Iv u13 → Fs v u13 → va_P (dC, dI) vwCl (wl ad kv cy N u13) H → va_D A (wl ad kv cy N u13) → va_S A s.heap H locs → ∀ ls : Array Slot, lv_has ls 5 [(4, .int y13_4), (3, .int y9_3), (0, .ref (ad (29 + 15 * i))), (1, .int x0), (2, .int x1)] → W p l e (headSpec wsX0_begin ({ frames := 1, cells := 0, slots := 0, locals := 64 })).room s m [Value.ref (ad (29 + 15 * i)), Value.int x0, Value.int x1].toArray below meth c H locs 0 0 (MQ below (va_Qv (fun (u : Nat → Nat → Int32) => Iv u ∧ Fs v u) (fun u t => ex_Pst dC dI A (wl ad kv cy N u) t) A) [Value.ref (ad (29 + 15 * i)), Value.int x0, Value.int x1].toArray s 0 0 A) (F0 m 61 ls []) := by
          intro n
          induction n with
          | zero =>
            intro y13_4 u13 H locs ay13_4 by13_4 hm_13 hv hfr hP hD hS ls hl
            exact absurd hm_13 (by omega)
          | succ n ih_13 =>
            intro y13_4 u13 H locs ay13_4 by13_4 hm_13 hv hfr hP hD hS ls hl
            refine lv_iload hx hb dX0_begin_61 (lv_at hl 0 rfl) ?_
            refine lv_bipush (v := 24) hx hb dX0_begin_63 (by decide) ?_
            have k_24 : (24 : Int32).toInt = 24 := by decide
            refine lv_icmp_ge (tgt := 85) hx hb dX0_begin_65 (by decide) (fun c_14 => ?_) (fun c_14 => ?_)
            · have tc_14 : y13_4.toInt ≥ (24 : Int32).toInt := Int32.le_iff_toInt_le.mp c_14
              obtain ⟨x_15, ex_15⟩ : ∃ y : Int32, y = y9_3 + 1 := ⟨_, rfl⟩
              refine lv_iinc (v := x_15) (lv' := [(3, .int x_15), (4, .int y13_4), (0, .ref (ad (29 + 15 * i))), (1, .int x0), (2, .int x1)]) hx hb dX0_begin_85 hl (k := 1) rfl (by rw [ex_15]; rfl) (by decide) rfl (fun ls hl => ?_)
              have tx_15 : x_15.toInt = y9_3.toInt + (1 : Int32).toInt := by rw [ex_15]; exact t_add ⟨by omega, by omega⟩
              refine lv_goto (tgt := 46) hx hb dX0_begin_88 (by decide) ?_
              exact ih_9 x_15 u13 H locs (by omega) (by omega) (by omega) hv hfr hP hD hS ls (lv_sub hl [0, 2, 3, 4] rfl)
            · have tc_14 : y13_4.toInt < (24 : Int32).toInt := Int32.lt_iff_toInt_lt.mp (Int32.not_le.mp c_14)
              refine lv_aload_n hx hb dX0_begin_68 rfl (lv_at hl 2 rfl) ?_
              refine va_get (D := (dC, dI)) (ci := 0) (v := .ref (ad (29 + 15 * i + 6))) (C := RX0) (T := TX0) (N := 11) hx hb hts (by decide +kernel) hown hK hP (29 + 15 * i) (wl_at (by omega) (ce_9 (kd_c i hi).1.1)) rfl 9 (by decide) (hts (.fieldLink RX0 23 "QuietStairs$Case" "logs" "[[I") (by decide +kernel)) (fun _ h9 => h9) rfl dX0_begin_69 ?_
              refine W.eq (g2 := F0 m 72 ls [.ref (ad (35 + 15 * i))]) (by rw [show 29 + 15 * i + 6 = 35 + 15 * i from by omega]) ?_
              refine lv_iload_n hx hb dX0_begin_72 rfl (lv_at hl 1 rfl) ?_
              refine ya_ald hx hb hK hP (35 + 15 * i) (wl_at (by omega) (ce_13 (kd_c i hi).1.2.2.2.2.1)) pi11 dX0_begin_73 ?_
              refine W.eq (g2 := F0 m 74 ls [.ref (ad (36 + 15 * i + i11))]) (by rw [ni11, if_pos hi11, show 35 + 15 * i + 1 + i11 = 36 + 15 * i + i11 from by omega]; rfl) ?_
              refine lv_iload hx hb dX0_begin_74 (lv_at hl 0 rfl) ?_
              refine lv_bipush (v := 7) hx hb dX0_begin_76 (by decide) ?_
              obtain ⟨pi15, i15, hi15, ni15, mi15⟩ := t_in (x := y13_4) (n := 24) ⟨by omega, by omega⟩
              refine va_iast hx hb hK hP hD hS (36 + 15 * i + i11) 0 (wl_at (by omega) (ce_14 (kd_o i hi i11 hi11).1.2)) rfl pi15 dX0_begin_78 (fun H locs hP hD hS => ?_)
              have k_7 : (7 : Int32).toInt = 7 := by decide
              obtain ⟨v_16, ev_16⟩ : ∃ u : Nat → Nat → Int32, u = upr u13 (36 + 15 * i + i11) (upd (u13 (36 + 15 * i + i11)) (y13_4.toNatClampNeg) 7) := ⟨_, rfl⟩
              have hP : va_P (dC, dI) vwCl (wl ad kv cy N v_16) H := by rw [ev_16, ← wl_put (e := _) (ce_14 (kd_o i hi i11 hi11).1.2)]; exact hP
              have hD : va_D A (wl ad kv cy N v_16) := by rw [ev_16, ← wl_put (e := _) (ce_14 (kd_o i hi i11 hi11).1.2)]; exact hD
              have hv : Iv v_16 := by rw [ev_16]; exact hv.put (K := 14) (kd_o i hi i11 hi11).1.2 (fun h q => by simp [bd] at q)
              have hfr : Fs v v_16 := by rw [ev_16]; exact hfr.put (by omega) (by omega) (by omega)
              obtain ⟨x_17, ex_17⟩ : ∃ y : Int32, y = y13_4 + 1 := ⟨_, rfl⟩
              refine lv_iinc (v := x_17) (lv' := [(4, .int x_17), (3, .int y9_3), (0, .ref (ad (29 + 15 * i))), (1, .int x0), (2, .int x1)]) hx hb dX0_begin_79 hl (k := 0) rfl (by rw [ex_17]; rfl) (by decide) rfl (fun ls hl => ?_)
              have tx_17 : x_17.toInt = y13_4.toInt + (1 : Int32).toInt := by rw [ex_17]; exact t_add ⟨by omega, by omega⟩
              refine lv_goto (tgt := 61) hx hb dX0_begin_82 (by decide) ?_
              exact ih_13 x_17 v_16 H locs (by omega) (by omega) (by omega) hv hfr hP hD hS ls (lv_sub hl [0, 1, 2, 3, 4] rfl)
        exact hloop_13 ((24 - (0 : Int32).toInt).toNat + 1) 0 v_12 _ _ (by omega) (by omega) (by omega) hv hfr hP hD hS ls hl
  exact hloop_9 ((2 - (0 : Int32).toInt).toNat + 1) 0 v_8 _ _ (by omega) (by omega) (by omega) hv hfr hP hD hS ls hl

set_option maxHeartbeats 4000000 in
set_option maxRecDepth 100000 in
theorem g_X1_quarrelBits (l : Launch) (dC : Nat → ClassId) (dI : Nat → Nat → Nat) (cy : Nat → ClassId) (sz : Nat) (ad : Nat → Nat) (kv : Value) (N : Nat) (hN : 119 ≤ N) (v : Nat → Nat → Int32) (hv : Iv v)  (x0 : Int32) : Met l yX1_quarrelBits wsX1_quarrelBits ({ frames := 1, cells := 0, slots := 0, locals := 64 }) (va_Pc [.ref (ad 13), .int x0] (ex_Pre dC dI cy sz (wl ad kv cy N v))) (va_Qi (fun (r : Int32) (u : Nat → Nat → Int32) => Iv u ∧ Fr v u) (fun u t => ex_Pst dC dI (va_A (wl ad kv cy N v) sz) (wl ad kv cy N u) t) (va_A (wl ad kv cy N v) sz)) 0 0 (va_A (wl ad kv cy N v) sz) := by
  refine Met.ofW (cc := cX1_quarrelBits) (maxL := 5) (ret := (some .int)) (by decide) rfl ?_
  intro p e s m args below meth c s₁ B hml hv
  obtain ⟨rfl, hsz, hE, hP, hK, hD0⟩ := hv
  have hx := B.exec
  have hb := B.bytes
  have hr := B.returns
  have hts := atoms_spec (ws := wsX1_quarrelBits) B.pre
  have hown : s.vm.findClass RX1 = some m.cls := findClass_of_methodNamed B.named
  have hlocks := B.notSynchronized
  subst hsz
  have hD := hD0.self (sz := s.heap.size)
  generalize hAe : va_A (wl ad kv cy N v) s.heap.size = A at hD ⊢
  have hA : ∀ q : Nat, s.heap.size ≤ q → A q := fun q h => by rw [← hAe]; exact Or.inr h
  have hS : va_S A s.heap s.heap [] := va_S.rf
  have hP : va_P (dC, dI) vwCl (wl ad kv cy N v) s.heap := hP
  have hl := lv_entry ([.ref (ad 13), .int x0]) (n := 5) (Nat.le_of_ble_eq_true rfl)
  rw [lg_entry_eq]
  generalize (lg_sl ([.ref (ad 13), .int x0]) ++ List.replicate (5 - (lg_sl ([.ref (ad 13), .int x0])).length) Slot.unset).toArray = ls at hl ⊢
  have hl : lv_has ls 5 [(0, .ref (ad 13)), (1, .int x0)] := hl
  have hfr : Fr v v := Fr.rf
  refine lv_iconst (v := 1) hx hb dX1_quarrelBits_0 (by decide) ?_
  refine lv_iload_n hx hb dX1_quarrelBits_1 rfl (lv_at hl 1 rfl) ?_
  refine lv_ishl hx hb dX1_quarrelBits_2 ?_
  refine lv_topi (fun x_1 ex_1 => ?_)
  refine lv_istore_n (lv' := [(2, .int x_1), (0, .ref (ad 13)), (1, .int x0)]) hx hb dX1_quarrelBits_3 rfl hl (by decide) rfl (fun ls hl => ?_)
  refine lv_iconst (v := 1) hx hb dX1_quarrelBits_4 (by decide) ?_
  refine lv_istore_n (lv' := [(3, .int 1), (2, .int x_1), (0, .ref (ad 13)), (1, .int x0)]) hx hb dX1_quarrelBits_5 rfl hl (by decide) rfl (fun ls hl => ?_)
  have k_1 : (1 : Int32).toInt = 1 := by decide
  have hloop_2 : ∀ (n : Nat) (y2_3 y2_2 : Int32) (u2 : Nat → Nat → Int32) (H : Heap) (locs : List Loc), 1 ≤ y2_3.toInt → y2_3.toInt ≤ 6 → (6 - y2_3.toInt).toNat < n → Iv u2 → Fr v u2 → va_P (dC, dI) vwCl (wl ad kv cy N u2) H → va_D A (wl ad kv cy N u2) → va_S A s.heap H locs → ∀ ls : Array Slot, lv_has ls 5 [(3, .int y2_3), (2, .int y2_2), (0, .ref (ad 13)), (1, .int x0)] → W p l e (headSpec wsX1_quarrelBits ({ frames := 1, cells := 0, slots := 0, locals := 64 })).room s m [Value.ref (ad 13), Value.int x0].toArray below meth c H locs 0 0 (MQ below (va_Qi (fun (r : Int32) (u : Nat → Nat → Int32) => Iv u ∧ Fr v u) (fun u t => ex_Pst dC dI A (wl ad kv cy N u) t) A) [Value.ref (ad 13), Value.int x0].toArray s 0 0 A) (F0 m 6 ls []) := by
    intro n
    induction n with
    | zero =>
      intro y2_3 y2_2 u2 H locs ay2_3 by2_3 hm_2 hv hfr hP hD hS ls hl
      exact absurd hm_2 (by omega)
    | succ n ih_2 =>
      intro y2_3 y2_2 u2 H locs ay2_3 by2_3 hm_2 hv hfr hP hD hS ls hl
      refine lv_iload_n hx hb dX1_quarrelBits_6 rfl (lv_at hl 0 rfl) ?_
      refine lv_aload_n hx hb dX1_quarrelBits_7 rfl (lv_at hl 2 rfl) ?_
      refine va_get (D := (dC, dI)) (ci := 1) (v := .int (u2 (13) 2)) (C := RX1) (T := TX1) (N := 7) hx hb hts (by decide +kernel) hown hK hP (13) (wl_at (by omega) (ce_3 (by decide))) rfl 2 (by decide) (hts (.fieldLink RX1 66 "QuietStairs$House" "caseCount" "I") (by decide +kernel)) (fun _ h9 => h9) rfl dX1_quarrelBits_8 ?_
      refine lv_topi (fun x_3 ex_3 => ?_)
      have bx_3 : 0 ≤ x_3.toInt ∧ x_3.toInt ≤ 6 := by rw [ex_3]; exact hv.at (K := 3) (by decide) rfl
      refine lv_icmp_ge (tgt := 60) hx hb dX1_quarrelBits_11 (by decide) (fun c_4 => ?_) (fun c_4 => ?_)
      · have tc_4 : y2_3.toInt ≥ x_3.toInt := Int32.le_iff_toInt_le.mp c_4
        refine lv_iload_n hx hb dX1_quarrelBits_60 rfl (lv_at hl 1 rfl) ?_
        exact W.iret (v := y2_2) hx hb hr (fun t ht hW => ⟨⟨y2_2, u2, rfl, ⟨hv, hfr⟩, by rw [ht]; exact hP, hD⟩, hS.F ht⟩) hS.2.2 dX1_quarrelBits_61
      · have tc_4 : y2_3.toInt < x_3.toInt := Int32.lt_iff_toInt_lt.mp (Int32.not_le.mp c_4)
        refine lv_iconst (v := 0) hx hb dX1_quarrelBits_14 (by decide) ?_
        refine lv_istore (lv' := [(4, .int 0), (3, .int y2_3), (2, .int y2_2), (0, .ref (ad 13)), (1, .int x0)]) hx hb dX1_quarrelBits_15 hl (by decide) rfl (fun ls hl => ?_)
        have k_0 : (0 : Int32).toInt = 0 := by decide
        have hloop_5 : ∀ (n : Nat) (y5_4 y5_2 : Int32) (u5 : Nat → Nat → Int32) (H : Heap) (locs : List Loc), 0 ≤ y5_4.toInt → y5_4.toInt ≤ 6 → (6 - y5_4.toInt).toNat < n → Iv u5 → Fr v u5 → va_P (dC, dI) vwCl (wl ad kv cy N u5) H → va_D A (wl ad kv cy N u5) → va_S A s.heap H locs → ∀ ls : Array Slot, lv_has ls 5 [(4, .int y5_4), (3, .int y2_3), (2, .int y5_2), (0, .ref (ad 13)), (1, .int x0)] → W p l e (headSpec wsX1_quarrelBits ({ frames := 1, cells := 0, slots := 0, locals := 64 })).room s m [Value.ref (ad 13), Value.int x0].toArray below meth c H locs 0 0 (MQ below (va_Qi (fun (r : Int32) (u : Nat → Nat → Int32) => Iv u ∧ Fr v u) (fun u t => ex_Pst dC dI A (wl ad kv cy N u) t) A) [Value.ref (ad 13), Value.int x0].toArray s 0 0 A) (F0 m 17 ls []) := by
          intro n
          induction n with
          | zero =>
            intro y5_4 y5_2 u5 H locs ay5_4 by5_4 hm_5 hv hfr hP hD hS ls hl
            exact absurd hm_5 (by omega)
          | succ n ih_5 =>
            intro y5_4 y5_2 u5 H locs ay5_4 by5_4 hm_5 hv hfr hP hD hS ls hl
            refine lv_iload hx hb dX1_quarrelBits_17 (lv_at hl 0 rfl) ?_
            refine lv_aload_n hx hb dX1_quarrelBits_19 rfl (lv_at hl 3 rfl) ?_
            refine va_get (D := (dC, dI)) (ci := 1) (v := .int (u5 (13) 2)) (C := RX1) (T := TX1) (N := 7) hx hb hts (by decide +kernel) hown hK hP (13) (wl_at (by omega) (ce_3 (by decide))) rfl 2 (by decide) (hts (.fieldLink RX1 66 "QuietStairs$House" "caseCount" "I") (by decide +kernel)) (fun _ h9 => h9) rfl dX1_quarrelBits_20 ?_
            refine lv_topi (fun x_6 ex_6 => ?_)
            have bx_6 : 0 ≤ x_6.toInt ∧ x_6.toInt ≤ 6 := by rw [ex_6]; exact hv.at (K := 3) (by decide) rfl
            refine lv_icmp_ge (tgt := 54) hx hb dX1_quarrelBits_23 (by decide) (fun c_7 => ?_) (fun c_7 => ?_)
            · have tc_7 : y5_4.toInt ≥ x_6.toInt := Int32.le_iff_toInt_le.mp c_7
              obtain ⟨x_8, ex_8⟩ : ∃ y : Int32, y = y2_3 + 1 := ⟨_, rfl⟩
              refine lv_iinc (v := x_8) (lv' := [(3, .int x_8), (4, .int y5_4), (2, .int y5_2), (0, .ref (ad 13)), (1, .int x0)]) hx hb dX1_quarrelBits_54 hl (k := 1) rfl (by rw [ex_8]; rfl) (by decide) rfl (fun ls hl => ?_)
              have tx_8 : x_8.toInt = y2_3.toInt + (1 : Int32).toInt := by rw [ex_8]; exact t_add ⟨by omega, by omega⟩
              refine lv_goto (tgt := 6) hx hb dX1_quarrelBits_57 (by decide) ?_
              exact ih_2 x_8 y5_2 u5 H locs (by omega) (by omega) (by omega) hv hfr hP hD hS ls (lv_sub hl [0, 2, 3, 4] rfl)
            · have tc_7 : y5_4.toInt < x_6.toInt := Int32.lt_iff_toInt_lt.mp (Int32.not_le.mp c_7)
              refine lv_iload_n hx hb dX1_quarrelBits_26 rfl (lv_at hl 2 rfl) ?_
              refine lv_iload hx hb dX1_quarrelBits_27 (lv_at hl 0 rfl) ?_
              refine yc_p hP hS (va_runSN (As := [.int y5_2, .int y5_4]) (rest := []) ⟨hx, hb, hml, hown, hts⟩ (c_X7_hasBit l y5_2 y5_4) ⟨va_cnB 2 hts gX1_quarrelBits_X7_hasBit_n51 rfl rfl rfl hE.2.2.2.2.2.2.2.2.2.2.1 (hts (.initialized RX7) (by decide +kernel)) (by decide +kernel) ⟨Nat.le_of_ble_eq_true rfl, Nat.le_of_ble_eq_true rfl⟩, (hts (.static yX7_hasBit) (by decide +kernel)), trivial⟩ ex_preP rfl rfl hl.1 rfl (lv_room (Nat.le_of_ble_eq_true rfl)) dX1_quarrelBits_29 ⟨Nat.le_of_ble_eq_true rfl, Nat.le_of_ble_eq_true rfl⟩) (fun r_8 H locs hw_8 hP hS => ?_)
              rcases hw_8 with rfl | rfl
              · refine lv_if_eq (tgt := 48) hx hb dX1_quarrelBits_32 (by decide) (fun _ => ?_) (fun c9 => absurd c9 (by decide))
                obtain ⟨x_9, ex_9⟩ : ∃ y : Int32, y = y5_4 + 1 := ⟨_, rfl⟩
                refine lv_iinc (v := x_9) (lv' := [(4, .int x_9), (3, .int y2_3), (2, .int y5_2), (0, .ref (ad 13)), (1, .int x0)]) hx hb dX1_quarrelBits_48 hl (k := 0) rfl (by rw [ex_9]; rfl) (by decide) rfl (fun ls hl => ?_)
                have tx_9 : x_9.toInt = y5_4.toInt + (1 : Int32).toInt := by rw [ex_9]; exact t_add ⟨by omega, by omega⟩
                refine lv_goto (tgt := 17) hx hb dX1_quarrelBits_51 (by decide) ?_
                exact ih_5 x_9 y5_2 u5 H locs (by omega) (by omega) (by omega) hv hfr hP hD hS ls (lv_sub hl [0, 1, 2, 3, 4] rfl)
              · refine lv_if_eq (tgt := 48) hx hb dX1_quarrelBits_32 (by decide) (fun c9 => absurd c9 (by decide)) (fun _ => ?_)
                refine lv_iload_n hx hb dX1_quarrelBits_35 rfl (lv_at hl 2 rfl) ?_
                refine lv_aload_n hx hb dX1_quarrelBits_36 rfl (lv_at hl 3 rfl) ?_
                refine va_get (D := (dC, dI)) (ci := 1) (v := .ref (ad 16)) (C := RX1) (T := TX1) (N := 7) hx hb hts (by decide +kernel) hown hK hP (13) (wl_at (by omega) (ce_3 (by decide))) rfl 6 (by decide) (hts (.fieldLink RX1 25 "QuietStairs$House" "cases" "[LQuietStairs$Case;") (by decide +kernel)) (fun _ h9 => h9) rfl dX1_quarrelBits_37 ?_
                refine lv_iload hx hb dX1_quarrelBits_40 (lv_at hl 0 rfl) ?_
                obtain ⟨pi9, i9, hi9, ni9, mi9⟩ := t_in (x := y5_4) (n := 6) ⟨by omega, by omega⟩
                refine va_aldq hx hb hK hP (16) 3 (wl_at (by omega) (ce_6 (by decide))) rfl pi9 dX1_quarrelBits_42 ?_
                refine W.eq (g2 := F0 m 43 ls [.ref (ad (29 + 15 * i9)), .int y5_2]) (by rw [ni9, if_pos hi9, show 16 + 13 + 15 * i9 = 29 + 15 * i9 from by omega]; rfl) ?_
                refine va_get (D := (dC, dI)) (ci := 0) (v := .int (u5 (29 + 15 * i9) 4)) (C := RX0) (T := TX0) (N := 11) hx hb hts (by decide +kernel) hown hK hP (29 + 15 * i9) (wl_at (by omega) (ce_9 (kd_c i9 hi9).1.1)) rfl 4 (by decide) (hts (.fieldLink RX1 69 "QuietStairs$Case" "markedBits" "I") (by decide +kernel)) (fun _ h9 => h9) rfl dX1_quarrelBits_43 ?_
                refine lv_topi (fun x_10 ex_10 => ?_)
                refine lv_ior hx hb dX1_quarrelBits_46 ?_
                refine lv_topi (fun x_11 ex_11 => ?_)
                refine lv_istore_n (lv' := [(2, .int x_11), (4, .int y5_4), (3, .int y2_3), (0, .ref (ad 13)), (1, .int x0)]) hx hb dX1_quarrelBits_47 rfl hl (by decide) rfl (fun ls hl => ?_)
                obtain ⟨x_12, ex_12⟩ : ∃ y : Int32, y = y5_4 + 1 := ⟨_, rfl⟩
                refine lv_iinc (v := x_12) (lv' := [(4, .int x_12), (2, .int x_11), (3, .int y2_3), (0, .ref (ad 13)), (1, .int x0)]) hx hb dX1_quarrelBits_48 hl (k := 1) rfl (by rw [ex_12]; rfl) (by decide) rfl (fun ls hl => ?_)
                have tx_12 : x_12.toInt = y5_4.toInt + (1 : Int32).toInt := by rw [ex_12]; exact t_add ⟨by omega, by omega⟩
                refine lv_goto (tgt := 17) hx hb dX1_quarrelBits_51 (by decide) ?_
                exact ih_5 x_12 x_11 u5 H locs (by omega) (by omega) (by omega) hv hfr hP hD hS ls (lv_sub hl [0, 2, 1, 3, 4] rfl)
        exact hloop_5 ((6 - (0 : Int32).toInt).toNat + 1) 0 y2_2 u2 _ _ (by omega) (by omega) (by omega) hv hfr hP hD hS ls hl
  exact hloop_2 ((6 - (1 : Int32).toInt).toNat + 1) 1 x_1 v _ _ (by omega) (by omega) (by omega) hv hfr hP hD hS ls hl

set_option maxHeartbeats 4000000 in
set_option maxRecDepth 100000 in
theorem g_X1_headOfQuarrel (l : Launch) (dC : Nat → ClassId) (dI : Nat → Nat → Nat) (cy : Nat → ClassId) (sz : Nat) (ad : Nat → Nat) (kv : Value) (N : Nat) (hN : 119 ≤ N) (v : Nat → Nat → Int32) (hv : Iv v)  (x0 : Int32) (hs : 0 ≤ x0.toInt ∧ x0.toInt ≤ 5) : Met l yX1_headOfQuarrel wsX1_headOfQuarrel ({ frames := 2, cells := 0, slots := 0, locals := 128 }) (va_Pc [.ref (ad 13), .int x0] (ex_Pre dC dI cy sz (wl ad kv cy N v))) (va_Qi (fun (r : Int32) (u : Nat → Nat → Int32) => Iv u ∧ Fr v u) (fun u t => ex_Pst dC dI (va_A (wl ad kv cy N v) sz) (wl ad kv cy N u) t) (va_A (wl ad kv cy N v) sz)) 0 0 (va_A (wl ad kv cy N v) sz) := by
  refine Met.ofW (cc := cX1_headOfQuarrel) (maxL := 4) (ret := (some .int)) (by decide) rfl ?_
  intro p e s m args below meth c s₁ B hml hv
  obtain ⟨rfl, hsz, hE, hP, hK, hD0⟩ := hv
  have hx := B.exec
  have hb := B.bytes
  have hr := B.returns
  have hts := atoms_spec (ws := wsX1_headOfQuarrel) B.pre
  have hown : s.vm.findClass RX1 = some m.cls := findClass_of_methodNamed B.named
  have hlocks := B.notSynchronized
  subst hsz
  have hD := hD0.self (sz := s.heap.size)
  generalize hAe : va_A (wl ad kv cy N v) s.heap.size = A at hD ⊢
  have hA : ∀ q : Nat, s.heap.size ≤ q → A q := fun q h => by rw [← hAe]; exact Or.inr h
  have hS : va_S A s.heap s.heap [] := va_S.rf
  have hP : va_P (dC, dI) vwCl (wl ad kv cy N v) s.heap := hP
  have hl := lv_entry ([.ref (ad 13), .int x0]) (n := 4) (Nat.le_of_ble_eq_true rfl)
  rw [lg_entry_eq]
  generalize (lg_sl ([.ref (ad 13), .int x0]) ++ List.replicate (4 - (lg_sl ([.ref (ad 13), .int x0])).length) Slot.unset).toArray = ls at hl ⊢
  have hl : lv_has ls 4 [(0, .ref (ad 13)), (1, .int x0)] := hl
  have hfr : Fr v v := Fr.rf
  refine lv_aload_n hx hb dX1_headOfQuarrel_0 rfl (lv_at hl 0 rfl) ?_
  refine lv_iload_n hx hb dX1_headOfQuarrel_1 rfl (lv_at hl 1 rfl) ?_
  refine yw_i (w1 := fun (u : Nat → Nat → Int32) => wl ad kv cy N u) hD hS hA (va_runV (As := [.int x0]) (rest := []) ⟨hx, hb, hml, hown, hts⟩ (g_X1_quarrelBits l dC dI cy _ ad kv N hN v hv x0) (cwV 1 hts gX1_headOfQuarrel_X1_quarrelBits rfl rfl rfl (by decide +kernel) ⟨Nat.le_of_ble_eq_true rfl, Nat.le_of_ble_eq_true rfl⟩) (yw_preV hE hK hP hD (ci := 1) (q0 := 13) rfl (wl_at (by omega) (ce_3 (by decide)))) rfl rfl hl.1 rfl (lv_room (Nat.le_of_ble_eq_true rfl)) dX1_headOfQuarrel_2 ⟨Nat.le_of_ble_eq_true rfl, Nat.le_of_ble_eq_true rfl⟩) (fun r_1 v_1 H locs hw_1 hP hD hS => ?_)
  obtain ⟨hv, hw_1⟩ := hw_1
  have hfr : Fr v v_1 := hfr.trans hw_1
  refine lv_istore_n (lv' := [(2, .int r_1), (0, .ref (ad 13)), (1, .int x0)]) hx hb dX1_headOfQuarrel_5 rfl hl (by decide) rfl (fun ls hl => ?_)
  refine lv_iconst (v := 0) hx hb dX1_headOfQuarrel_6 (by decide) ?_
  refine lv_istore_n (lv' := [(3, .int 0), (2, .int r_1), (0, .ref (ad 13)), (1, .int x0)]) hx hb dX1_headOfQuarrel_7 rfl hl (by decide) rfl (fun ls hl => ?_)
  have k_0 : (0 : Int32).toInt = 0 := by decide
  have hloop_2 : ∀ (n : Nat) (y2_3 : Int32) (u2 : Nat → Nat → Int32) (H : Heap) (locs : List Loc), 0 ≤ y2_3.toInt → y2_3.toInt ≤ 6 → (6 - y2_3.toInt).toNat < n → Iv u2 → Fr v u2 → va_P (dC, dI) vwCl (wl ad kv cy N u2) H → va_D A (wl ad kv cy N u2) → va_S A s.heap H locs → ∀ ls : Array Slot, lv_has ls 4 [(3, .int y2_3), (2, .int r_1), (0, .ref (ad 13)), (1, .int x0)] → W p l e (headSpec wsX1_headOfQuarrel ({ frames := 2, cells := 0, slots := 0, locals := 128 })).room s m [Value.ref (ad 13), Value.int x0].toArray below meth c H locs 0 0 (MQ below (va_Qi (fun (r : Int32) (u : Nat → Nat → Int32) => Iv u ∧ Fr v u) (fun u t => ex_Pst dC dI A (wl ad kv cy N u) t) A) [Value.ref (ad 13), Value.int x0].toArray s 0 0 A) (F0 m 8 ls []) := by
    intro n
    induction n with
    | zero =>
      intro y2_3 u2 H locs ay2_3 by2_3 hm_2 hv hfr hP hD hS ls hl
      exact absurd hm_2 (by omega)
    | succ n ih_2 =>
      intro y2_3 u2 H locs ay2_3 by2_3 hm_2 hv hfr hP hD hS ls hl
      refine lv_iload_n hx hb dX1_headOfQuarrel_8 rfl (lv_at hl 0 rfl) ?_
      refine lv_iload_n hx hb dX1_headOfQuarrel_9 rfl (lv_at hl 3 rfl) ?_
      refine lv_icmp_ge (tgt := 29) hx hb dX1_headOfQuarrel_10 (by decide) (fun c_3 => ?_) (fun c_3 => ?_)
      · have tc_3 : y2_3.toInt ≥ x0.toInt := Int32.le_iff_toInt_le.mp c_3
        refine lv_iload_n hx hb dX1_headOfQuarrel_29 rfl (lv_at hl 3 rfl) ?_
        exact W.iret (v := x0) hx hb hr (fun t ht hW => ⟨⟨x0, u2, rfl, ⟨hv, hfr⟩, by rw [ht]; exact hP, hD⟩, hS.F ht⟩) hS.2.2 dX1_headOfQuarrel_30
      · have tc_3 : y2_3.toInt < x0.toInt := Int32.lt_iff_toInt_lt.mp (Int32.not_le.mp c_3)
        refine lv_iload_n hx hb dX1_headOfQuarrel_13 rfl (lv_at hl 1 rfl) ?_
        refine lv_iload_n hx hb dX1_headOfQuarrel_14 rfl (lv_at hl 0 rfl) ?_
        refine yc_p hP hS (va_runSN (As := [.int r_1, .int y2_3]) (rest := []) ⟨hx, hb, hml, hown, hts⟩ (c_X7_hasBit l r_1 y2_3) ⟨va_cnB 2 hts gX1_headOfQuarrel_X7_hasBit_n51 rfl rfl rfl hE.2.2.2.2.2.2.2.2.2.2.1 (hts (.initialized RX7) (by decide +kernel)) (by decide +kernel) ⟨Nat.le_of_ble_eq_true rfl, Nat.le_of_ble_eq_true rfl⟩, (hts (.static yX7_hasBit) (by decide +kernel)), trivial⟩ ex_preP rfl rfl hl.1 rfl (lv_room (Nat.le_of_ble_eq_true rfl)) dX1_headOfQuarrel_15 ⟨Nat.le_of_ble_eq_true rfl, Nat.le_of_ble_eq_true rfl⟩) (fun r_4 H locs hw_4 hP hS => ?_)
        rcases hw_4 with rfl | rfl
        · refine lv_if_eq (tgt := 23) hx hb dX1_headOfQuarrel_18 (by decide) (fun _ => ?_) (fun c9 => absurd c9 (by decide))
          obtain ⟨x_5, ex_5⟩ : ∃ y : Int32, y = y2_3 + 1 := ⟨_, rfl⟩
          refine lv_iinc (v := x_5) (lv' := [(3, .int x_5), (2, .int r_1), (0, .ref (ad 13)), (1, .int x0)]) hx hb dX1_headOfQuarrel_23 hl (k := 0) rfl (by rw [ex_5]; rfl) (by decide) rfl (fun ls hl => ?_)
          have k_1 : (1 : Int32).toInt = 1 := by decide
          have tx_5 : x_5.toInt = y2_3.toInt + (1 : Int32).toInt := by rw [ex_5]; exact t_add ⟨by omega, by omega⟩
          refine lv_goto (tgt := 8) hx hb dX1_headOfQuarrel_26 (by decide) ?_
          exact ih_2 x_5 u2 H locs (by omega) (by omega) (by omega) hv hfr hP hD hS ls (lv_sub hl [0, 1, 2, 3] rfl)
        · refine lv_if_eq (tgt := 23) hx hb dX1_headOfQuarrel_18 (by decide) (fun c9 => absurd c9 (by decide)) (fun _ => ?_)
          refine lv_iload_n hx hb dX1_headOfQuarrel_21 rfl (lv_at hl 0 rfl) ?_
          exact W.iret (v := y2_3) hx hb hr (fun t ht hW => ⟨⟨y2_3, u2, rfl, ⟨hv, hfr⟩, by rw [ht]; exact hP, hD⟩, hS.F ht⟩) hS.2.2 dX1_headOfQuarrel_22
  exact hloop_2 ((6 - (0 : Int32).toInt).toNat + 1) 0 v_1 _ _ (by omega) (by omega) (by omega) hv hfr hP hD hS ls hl

set_option maxHeartbeats 4000000 in
set_option maxRecDepth 100000 in
theorem g_X1_countQuarrels (l : Launch) (dC : Nat → ClassId) (dI : Nat → Nat → Nat) (cy : Nat → ClassId) (sz : Nat) (ad : Nat → Nat) (kv : Value) (N : Nat) (hN : 119 ≤ N) (v : Nat → Nat → Int32) (hv : Iv v)  : Met l yX1_countQuarrels wsX1_countQuarrels ({ frames := 3, cells := 0, slots := 0, locals := 192 }) (va_Pc [.ref (ad 13)] (ex_Pre dC dI cy sz (wl ad kv cy N v))) (va_Qi (fun (r : Int32) (u : Nat → Nat → Int32) => Iv u ∧ Fr v u) (fun u t => ex_Pst dC dI (va_A (wl ad kv cy N v) sz) (wl ad kv cy N u) t) (va_A (wl ad kv cy N v) sz)) 0 0 (va_A (wl ad kv cy N v) sz) := by
  refine Met.ofW (cc := cX1_countQuarrels) (maxL := 3) (ret := (some .int)) (by decide) rfl ?_
  intro p e s m args below meth c s₁ B hml hv
  obtain ⟨rfl, hsz, hE, hP, hK, hD0⟩ := hv
  have hx := B.exec
  have hb := B.bytes
  have hr := B.returns
  have hts := atoms_spec (ws := wsX1_countQuarrels) B.pre
  have hown : s.vm.findClass RX1 = some m.cls := findClass_of_methodNamed B.named
  have hlocks := B.notSynchronized
  subst hsz
  have hD := hD0.self (sz := s.heap.size)
  generalize hAe : va_A (wl ad kv cy N v) s.heap.size = A at hD ⊢
  have hA : ∀ q : Nat, s.heap.size ≤ q → A q := fun q h => by rw [← hAe]; exact Or.inr h
  have hS : va_S A s.heap s.heap [] := va_S.rf
  have hP : va_P (dC, dI) vwCl (wl ad kv cy N v) s.heap := hP
  have hl := lv_entry ([.ref (ad 13)]) (n := 3) (Nat.le_of_ble_eq_true rfl)
  rw [lg_entry_eq]
  generalize (lg_sl ([.ref (ad 13)]) ++ List.replicate (3 - (lg_sl ([.ref (ad 13)])).length) Slot.unset).toArray = ls at hl ⊢
  have hl : lv_has ls 3 [(0, .ref (ad 13))] := hl
  have hfr : Fr v v := Fr.rf
  refine lv_iconst (v := 0) hx hb dX1_countQuarrels_0 (by decide) ?_
  refine lv_istore_n (lv' := [(1, .int 0), (0, .ref (ad 13))]) hx hb dX1_countQuarrels_1 rfl hl (by decide) rfl (fun ls hl => ?_)
  refine lv_iconst (v := 0) hx hb dX1_countQuarrels_2 (by decide) ?_
  refine lv_istore_n (lv' := [(2, .int 0), (1, .int 0), (0, .ref (ad 13))]) hx hb dX1_countQuarrels_3 rfl hl (by decide) rfl (fun ls hl => ?_)
  have k_0 : (0 : Int32).toInt = 0 := by decide
  have hloop_1 : ∀ (n : Nat) (y1_2 y1_1 : Int32) (u1 : Nat → Nat → Int32) (H : Heap) (locs : List Loc), 0 ≤ y1_2.toInt → y1_2.toInt ≤ 6 → (6 - y1_2.toInt).toNat < n → Iv u1 → Fr v u1 → va_P (dC, dI) vwCl (wl ad kv cy N u1) H → va_D A (wl ad kv cy N u1) → va_S A s.heap H locs → ∀ ls : Array Slot, lv_has ls 3 [(2, .int y1_2), (1, .int y1_1), (0, .ref (ad 13))] → W p l e (headSpec wsX1_countQuarrels ({ frames := 3, cells := 0, slots := 0, locals := 192 })).room s m [Value.ref (ad 13)].toArray below meth c H locs 0 0 (MQ below (va_Qi (fun (r : Int32) (u : Nat → Nat → Int32) => Iv u ∧ Fr v u) (fun u t => ex_Pst dC dI A (wl ad kv cy N u) t) A) [Value.ref (ad 13)].toArray s 0 0 A) (F0 m 4 ls []) := by
    intro n
    induction n with
    | zero =>
      intro y1_2 y1_1 u1 H locs ay1_2 by1_2 hm_1 hv hfr hP hD hS ls hl
      exact absurd hm_1 (by omega)
    | succ n ih_1 =>
      intro y1_2 y1_1 u1 H locs ay1_2 by1_2 hm_1 hv hfr hP hD hS ls hl
      refine lv_iload_n hx hb dX1_countQuarrels_4 rfl (lv_at hl 0 rfl) ?_
      refine lv_aload_n hx hb dX1_countQuarrels_5 rfl (lv_at hl 2 rfl) ?_
      refine va_get (D := (dC, dI)) (ci := 1) (v := .int (u1 (13) 2)) (C := RX1) (T := TX1) (N := 7) hx hb hts (by decide +kernel) hown hK hP (13) (wl_at (by omega) (ce_3 (by decide))) rfl 2 (by decide) (hts (.fieldLink RX1 66 "QuietStairs$House" "caseCount" "I") (by decide +kernel)) (fun _ h9 => h9) rfl dX1_countQuarrels_6 ?_
      refine lv_topi (fun x_2 ex_2 => ?_)
      have bx_2 : 0 ≤ x_2.toInt ∧ x_2.toInt ≤ 6 := by rw [ex_2]; exact hv.at (K := 3) (by decide) rfl
      refine lv_icmp_ge (tgt := 30) hx hb dX1_countQuarrels_9 (by decide) (fun c_3 => ?_) (fun c_3 => ?_)
      · have tc_3 : y1_2.toInt ≥ x_2.toInt := Int32.le_iff_toInt_le.mp c_3
        refine lv_iload_n hx hb dX1_countQuarrels_30 rfl (lv_at hl 1 rfl) ?_
        exact W.iret (v := y1_1) hx hb hr (fun t ht hW => ⟨⟨y1_1, u1, rfl, ⟨hv, hfr⟩, by rw [ht]; exact hP, hD⟩, hS.F ht⟩) hS.2.2 dX1_countQuarrels_31
      · have tc_3 : y1_2.toInt < x_2.toInt := Int32.lt_iff_toInt_lt.mp (Int32.not_le.mp c_3)
        refine lv_aload_n hx hb dX1_countQuarrels_12 rfl (lv_at hl 2 rfl) ?_
        refine lv_iload_n hx hb dX1_countQuarrels_13 rfl (lv_at hl 0 rfl) ?_
        refine yw_i (w1 := fun (u : Nat → Nat → Int32) => wl ad kv cy N u) hD hS hA (va_runV (As := [.int y1_2]) (rest := []) ⟨hx, hb, hml, hown, hts⟩ (g_X1_headOfQuarrel l dC dI cy _ ad kv N hN u1 hv y1_2 ⟨by omega, by omega⟩) (cwV 1 hts gX1_countQuarrels_X1_headOfQuarrel rfl rfl rfl (by decide +kernel) ⟨Nat.le_of_ble_eq_true rfl, Nat.le_of_ble_eq_true rfl⟩) (yw_preV hE hK hP hD (ci := 1) (q0 := 13) rfl (wl_at (by omega) (ce_3 (by decide)))) rfl rfl hl.1 rfl (lv_room (Nat.le_of_ble_eq_true rfl)) dX1_countQuarrels_14 ⟨Nat.le_of_ble_eq_true rfl, Nat.le_of_ble_eq_true rfl⟩) (fun r_4 v_4 H locs hw_4 hP hD hS => ?_)
        obtain ⟨hv, hw_4⟩ := hw_4
        have hfr : Fr v v_4 := hfr.trans hw_4
        refine lv_iload_n hx hb dX1_countQuarrels_17 rfl (lv_at hl 0 rfl) ?_
        refine lv_icmp_ne (tgt := 24) hx hb dX1_countQuarrels_18 (by decide) (fun c_5 => ?_) (fun c_5 => ?_)
        · have tc_5 : r_4.toInt ≠ y1_2.toInt := fun q => absurd (Int32.toInt_inj.mp q) c_5
          obtain ⟨x_6, ex_6⟩ : ∃ y : Int32, y = y1_2 + 1 := ⟨_, rfl⟩
          refine lv_iinc (v := x_6) (lv' := [(2, .int x_6), (1, .int y1_1), (0, .ref (ad 13))]) hx hb dX1_countQuarrels_24 hl (k := 0) rfl (by rw [ex_6]; rfl) (by decide) rfl (fun ls hl => ?_)
          have k_1 : (1 : Int32).toInt = 1 := by decide
          have tx_6 : x_6.toInt = y1_2.toInt + (1 : Int32).toInt := by rw [ex_6]; exact t_add ⟨by omega, by omega⟩
          refine lv_goto (tgt := 4) hx hb dX1_countQuarrels_27 (by decide) ?_
          exact ih_1 x_6 y1_1 v_4 H locs (by omega) (by omega) (by omega) hv hfr hP hD hS ls (lv_sub hl [0, 1, 2] rfl)
        · have tc_5 : r_4.toInt = y1_2.toInt := by rw [c_5]
          obtain ⟨x_6, ex_6⟩ : ∃ y : Int32, y = y1_1 + 1 := ⟨_, rfl⟩
          refine lv_iinc (v := x_6) (lv' := [(1, .int x_6), (2, .int y1_2), (0, .ref (ad 13))]) hx hb dX1_countQuarrels_21 hl (k := 1) rfl (by rw [ex_6]; rfl) (by decide) rfl (fun ls hl => ?_)
          obtain ⟨x_7, ex_7⟩ : ∃ y : Int32, y = y1_2 + 1 := ⟨_, rfl⟩
          refine lv_iinc (v := x_7) (lv' := [(2, .int x_7), (1, .int x_6), (0, .ref (ad 13))]) hx hb dX1_countQuarrels_24 hl (k := 1) rfl (by rw [ex_7]; rfl) (by decide) rfl (fun ls hl => ?_)
          have k_1 : (1 : Int32).toInt = 1 := by decide
          have tx_7 : x_7.toInt = y1_2.toInt + (1 : Int32).toInt := by rw [ex_7]; exact t_add ⟨by omega, by omega⟩
          refine lv_goto (tgt := 4) hx hb dX1_countQuarrels_27 (by decide) ?_
          exact ih_1 x_7 x_6 v_4 H locs (by omega) (by omega) (by omega) hv hfr hP hD hS ls (lv_sub hl [0, 1, 2] rfl)
  exact hloop_1 ((6 - (0 : Int32).toInt).toNat + 1) 0 0 v _ _ (by omega) (by omega) (by omega) hv hfr hP hD hS ls hl

set_option maxHeartbeats 4000000 in
set_option maxRecDepth 100000 in
theorem g_X1_countJudged (l : Launch) (dC : Nat → ClassId) (dI : Nat → Nat → Nat) (cy : Nat → ClassId) (sz : Nat) (ad : Nat → Nat) (kv : Value) (N : Nat) (hN : 119 ≤ N) (v : Nat → Nat → Int32) (hv : Iv v)  (x0 : Int32) : Met l yX1_countJudged wsX1_countJudged ({ frames := 2, cells := 0, slots := 0, locals := 128 }) (va_Pc [.ref (ad 13), .int x0] (ex_Pre dC dI cy sz (wl ad kv cy N v))) (va_Qi (fun (r : Int32) (u : Nat → Nat → Int32) => Iv u ∧ Fr v u) (fun u t => ex_Pst dC dI (va_A (wl ad kv cy N v) sz) (wl ad kv cy N u) t) (va_A (wl ad kv cy N v) sz)) 0 0 (va_A (wl ad kv cy N v) sz) := by
  refine Met.ofW (cc := cX1_countJudged) (maxL := 5) (ret := (some .int)) (by decide) rfl ?_
  intro p e s m args below meth c s₁ B hml hv
  obtain ⟨rfl, hsz, hE, hP, hK, hD0⟩ := hv
  have hx := B.exec
  have hb := B.bytes
  have hr := B.returns
  have hts := atoms_spec (ws := wsX1_countJudged) B.pre
  have hown : s.vm.findClass RX1 = some m.cls := findClass_of_methodNamed B.named
  have hlocks := B.notSynchronized
  subst hsz
  have hD := hD0.self (sz := s.heap.size)
  generalize hAe : va_A (wl ad kv cy N v) s.heap.size = A at hD ⊢
  have hA : ∀ q : Nat, s.heap.size ≤ q → A q := fun q h => by rw [← hAe]; exact Or.inr h
  have hS : va_S A s.heap s.heap [] := va_S.rf
  have hP : va_P (dC, dI) vwCl (wl ad kv cy N v) s.heap := hP
  have hl := lv_entry ([.ref (ad 13), .int x0]) (n := 5) (Nat.le_of_ble_eq_true rfl)
  rw [lg_entry_eq]
  generalize (lg_sl ([.ref (ad 13), .int x0]) ++ List.replicate (5 - (lg_sl ([.ref (ad 13), .int x0])).length) Slot.unset).toArray = ls at hl ⊢
  have hl : lv_has ls 5 [(0, .ref (ad 13)), (1, .int x0)] := hl
  have hfr : Fr v v := Fr.rf
  refine lv_iconst (v := 0) hx hb dX1_countJudged_0 (by decide) ?_
  refine lv_istore_n (lv' := [(2, .int 0), (0, .ref (ad 13)), (1, .int x0)]) hx hb dX1_countJudged_1 rfl hl (by decide) rfl (fun ls hl => ?_)
  refine lv_iconst (v := 0) hx hb dX1_countJudged_2 (by decide) ?_
  refine lv_istore_n (lv' := [(3, .int 0), (2, .int 0), (0, .ref (ad 13)), (1, .int x0)]) hx hb dX1_countJudged_3 rfl hl (by decide) rfl (fun ls hl => ?_)
  have k_0 : (0 : Int32).toInt = 0 := by decide
  have hloop_1 : ∀ (n : Nat) (y1_3 y1_2 : Int32) (u1 : Nat → Nat → Int32) (H : Heap) (locs : List Loc), 0 ≤ y1_3.toInt → y1_3.toInt ≤ 6 → (6 - y1_3.toInt).toNat < n → Iv u1 → Fr v u1 → va_P (dC, dI) vwCl (wl ad kv cy N u1) H → va_D A (wl ad kv cy N u1) → va_S A s.heap H locs → ∀ ls : Array Slot, lv_has ls 5 [(3, .int y1_3), (2, .int y1_2), (0, .ref (ad 13)), (1, .int x0)] → W p l e (headSpec wsX1_countJudged ({ frames := 2, cells := 0, slots := 0, locals := 128 })).room s m [Value.ref (ad 13), Value.int x0].toArray below meth c H locs 0 0 (MQ below (va_Qi (fun (r : Int32) (u : Nat → Nat → Int32) => Iv u ∧ Fr v u) (fun u t => ex_Pst dC dI A (wl ad kv cy N u) t) A) [Value.ref (ad 13), Value.int x0].toArray s 0 0 A) (F0 m 4 ls []) := by
    intro n
    induction n with
    | zero =>
      intro y1_3 y1_2 u1 H locs ay1_3 by1_3 hm_1 hv hfr hP hD hS ls hl
      exact absurd hm_1 (by omega)
    | succ n ih_1 =>
      intro y1_3 y1_2 u1 H locs ay1_3 by1_3 hm_1 hv hfr hP hD hS ls hl
      refine lv_iload_n hx hb dX1_countJudged_4 rfl (lv_at hl 0 rfl) ?_
      refine lv_aload_n hx hb dX1_countJudged_5 rfl (lv_at hl 2 rfl) ?_
      refine va_get (D := (dC, dI)) (ci := 1) (v := .int (u1 (13) 2)) (C := RX1) (T := TX1) (N := 7) hx hb hts (by decide +kernel) hown hK hP (13) (wl_at (by omega) (ce_3 (by decide))) rfl 2 (by decide) (hts (.fieldLink RX1 66 "QuietStairs$House" "caseCount" "I") (by decide +kernel)) (fun _ h9 => h9) rfl dX1_countJudged_6 ?_
      refine lv_topi (fun x_2 ex_2 => ?_)
      have bx_2 : 0 ≤ x_2.toInt ∧ x_2.toInt ≤ 6 := by rw [ex_2]; exact hv.at (K := 3) (by decide) rfl
      refine lv_icmp_ge (tgt := 59) hx hb dX1_countJudged_9 (by decide) (fun c_3 => ?_) (fun c_3 => ?_)
      · have tc_3 : y1_3.toInt ≥ x_2.toInt := Int32.le_iff_toInt_le.mp c_3
        refine lv_iload_n hx hb dX1_countJudged_59 rfl (lv_at hl 1 rfl) ?_
        exact W.iret (v := y1_2) hx hb hr (fun t ht hW => ⟨⟨y1_2, u1, rfl, ⟨hv, hfr⟩, by rw [ht]; exact hP, hD⟩, hS.F ht⟩) hS.2.2 dX1_countJudged_60
      · have tc_3 : y1_3.toInt < x_2.toInt := Int32.lt_iff_toInt_lt.mp (Int32.not_le.mp c_3)
        refine lv_iconst (v := 0) hx hb dX1_countJudged_12 (by decide) ?_
        refine lv_istore (lv' := [(4, .int 0), (3, .int y1_3), (2, .int y1_2), (0, .ref (ad 13)), (1, .int x0)]) hx hb dX1_countJudged_13 hl (by decide) rfl (fun ls hl => ?_)
        have hloop_4 : ∀ (n : Nat) (y4_4 y4_2 : Int32) (u4 : Nat → Nat → Int32) (H : Heap) (locs : List Loc), 0 ≤ y4_4.toInt → y4_4.toInt ≤ 5 → (5 - y4_4.toInt).toNat < n → Iv u4 → Fr v u4 → va_P (dC, dI) vwCl (wl ad kv cy N u4) H → va_D A (wl ad kv cy N u4) → va_S A s.heap H locs → ∀ ls : Array Slot, lv_has ls 5 [(4, .int y4_4), (3, .int y1_3), (2, .int y4_2), (0, .ref (ad 13)), (1, .int x0)] → W p l e (headSpec wsX1_countJudged ({ frames := 2, cells := 0, slots := 0, locals := 128 })).room s m [Value.ref (ad 13), Value.int x0].toArray below meth c H locs 0 0 (MQ below (va_Qi (fun (r : Int32) (u : Nat → Nat → Int32) => Iv u ∧ Fr v u) (fun u t => ex_Pst dC dI A (wl ad kv cy N u) t) A) [Value.ref (ad 13), Value.int x0].toArray s 0 0 A) (F0 m 15 ls []) := by
          intro n
          induction n with
          | zero =>
            intro y4_4 y4_2 u4 H locs ay4_4 by4_4 hm_4 hv hfr hP hD hS ls hl
            exact absurd hm_4 (by omega)
          | succ n ih_4 =>
            intro y4_4 y4_2 u4 H locs ay4_4 by4_4 hm_4 hv hfr hP hD hS ls hl
            refine lv_iload hx hb dX1_countJudged_15 (lv_at hl 0 rfl) ?_
            refine lv_aload_n hx hb dX1_countJudged_17 rfl (lv_at hl 3 rfl) ?_
            refine va_get (D := (dC, dI)) (ci := 1) (v := .ref (ad 16)) (C := RX1) (T := TX1) (N := 7) hx hb hts (by decide +kernel) hown hK hP (13) (wl_at (by omega) (ce_3 (by decide))) rfl 6 (by decide) (hts (.fieldLink RX1 25 "QuietStairs$House" "cases" "[LQuietStairs$Case;") (by decide +kernel)) (fun _ h9 => h9) rfl dX1_countJudged_18 ?_
            refine lv_iload_n hx hb dX1_countJudged_21 rfl (lv_at hl 1 rfl) ?_
            obtain ⟨pi5, i5, hi5, ni5, mi5⟩ := t_in (x := y1_3) (n := 6) ⟨by omega, by omega⟩
            refine va_aldq hx hb hK hP (16) 3 (wl_at (by omega) (ce_6 (by decide))) rfl pi5 dX1_countJudged_22 ?_
            refine W.eq (g2 := F0 m 23 ls [.ref (ad (29 + 15 * i5)), .int y4_4]) (by rw [ni5, if_pos hi5, show 16 + 13 + 15 * i5 = 29 + 15 * i5 from by omega]; rfl) ?_
            refine va_get (D := (dC, dI)) (ci := 0) (v := .int (u4 (29 + 15 * i5) 5)) (C := RX0) (T := TX0) (N := 11) hx hb hts (by decide +kernel) hown hK hP (29 + 15 * i5) (wl_at (by omega) (ce_9 (kd_c i5 hi5).1.1)) rfl 5 (by decide) (hts (.fieldLink RX1 82 "QuietStairs$Case" "termCount" "I") (by decide +kernel)) (fun _ h9 => h9) rfl dX1_countJudged_23 ?_
            refine lv_topi (fun x_6 ex_6 => ?_)
            have bx_6 : 0 ≤ x_6.toInt ∧ x_6.toInt ≤ 5 := by rw [ex_6]; exact hv.at (K := 9) (kd_c i5 hi5).1.1 rfl
            refine lv_icmp_ge (tgt := 53) hx hb dX1_countJudged_26 (by decide) (fun c_7 => ?_) (fun c_7 => ?_)
            · have tc_7 : y4_4.toInt ≥ x_6.toInt := Int32.le_iff_toInt_le.mp c_7
              obtain ⟨x_8, ex_8⟩ : ∃ y : Int32, y = y1_3 + 1 := ⟨_, rfl⟩
              refine lv_iinc (v := x_8) (lv' := [(3, .int x_8), (4, .int y4_4), (2, .int y4_2), (0, .ref (ad 13)), (1, .int x0)]) hx hb dX1_countJudged_53 hl (k := 1) rfl (by rw [ex_8]; rfl) (by decide) rfl (fun ls hl => ?_)
              have k_1 : (1 : Int32).toInt = 1 := by decide
              have tx_8 : x_8.toInt = y1_3.toInt + (1 : Int32).toInt := by rw [ex_8]; exact t_add ⟨by omega, by omega⟩
              refine lv_goto (tgt := 4) hx hb dX1_countJudged_56 (by decide) ?_
              exact ih_1 x_8 y4_2 u4 H locs (by omega) (by omega) (by omega) hv hfr hP hD hS ls (lv_sub hl [0, 2, 3, 4] rfl)
            · have tc_7 : y4_4.toInt < x_6.toInt := Int32.lt_iff_toInt_lt.mp (Int32.not_le.mp c_7)
              refine lv_aload_n hx hb dX1_countJudged_29 rfl (lv_at hl 3 rfl) ?_
              refine va_get (D := (dC, dI)) (ci := 1) (v := .ref (ad 16)) (C := RX1) (T := TX1) (N := 7) hx hb hts (by decide +kernel) hown hK hP (13) (wl_at (by omega) (ce_3 (by decide))) rfl 6 (by decide) (hts (.fieldLink RX1 25 "QuietStairs$House" "cases" "[LQuietStairs$Case;") (by decide +kernel)) (fun _ h9 => h9) rfl dX1_countJudged_30 ?_
              refine lv_iload_n hx hb dX1_countJudged_33 rfl (lv_at hl 1 rfl) ?_
              refine va_aldq hx hb hK hP (16) 3 (wl_at (by omega) (ce_6 (by decide))) rfl pi5 dX1_countJudged_34 ?_
              refine W.eq (g2 := F0 m 35 ls [.ref (ad (29 + 15 * i5))]) (by rw [ni5, if_pos hi5, show 16 + 13 + 15 * i5 = 29 + 15 * i5 from by omega]; rfl) ?_
              refine lv_iload hx hb dX1_countJudged_35 (lv_at hl 0 rfl) ?_
              refine yw_i (w1 := fun (u : Nat → Nat → Int32) => wl ad kv cy N u) hD hS hA (va_runV (As := [.int y4_4]) (rest := []) ⟨hx, hb, hml, hown, hts⟩ (g_X0_judge l dC dI cy _ ad kv N hN u4 hv i5 hi5 y4_4 ⟨by omega, by omega⟩) (cwV 1 hts gX1_countJudged_X0_judge rfl rfl rfl (by decide +kernel) ⟨Nat.le_of_ble_eq_true rfl, Nat.le_of_ble_eq_true rfl⟩) (yw_preV hE hK hP hD (ci := 0) (q0 := (29 + 15 * i5)) rfl (wl_at (by omega) (ce_9 (kd_c i5 hi5).1.1))) rfl rfl hl.1 rfl (lv_room (Nat.le_of_ble_eq_true rfl)) dX1_countJudged_37 ⟨Nat.le_of_ble_eq_true rfl, Nat.le_of_ble_eq_true rfl⟩) (fun r_8 v_8 H locs hw_8 hP hD hS => ?_)
              obtain ⟨hv, hw_8⟩ := hw_8
              have hfr : Fr v v_8 := hfr.trans hw_8
              refine lv_iload_n hx hb dX1_countJudged_40 rfl (lv_at hl 4 rfl) ?_
              refine lv_icmp_ne (tgt := 47) hx hb dX1_countJudged_41 (by decide) (fun c_9 => ?_) (fun c_9 => ?_)
              · have tc_9 : r_8.toInt ≠ x0.toInt := fun q => absurd (Int32.toInt_inj.mp q) c_9
                obtain ⟨x_10, ex_10⟩ : ∃ y : Int32, y = y4_4 + 1 := ⟨_, rfl⟩
                refine lv_iinc (v := x_10) (lv' := [(4, .int x_10), (3, .int y1_3), (2, .int y4_2), (0, .ref (ad 13)), (1, .int x0)]) hx hb dX1_countJudged_47 hl (k := 0) rfl (by rw [ex_10]; rfl) (by decide) rfl (fun ls hl => ?_)
                have k_1 : (1 : Int32).toInt = 1 := by decide
                have tx_10 : x_10.toInt = y4_4.toInt + (1 : Int32).toInt := by rw [ex_10]; exact t_add ⟨by omega, by omega⟩
                refine lv_goto (tgt := 15) hx hb dX1_countJudged_50 (by decide) ?_
                exact ih_4 x_10 y4_2 v_8 H locs (by omega) (by omega) (by omega) hv hfr hP hD hS ls (lv_sub hl [0, 1, 2, 3, 4] rfl)
              · have tc_9 : r_8.toInt = x0.toInt := by rw [c_9]
                obtain ⟨x_10, ex_10⟩ : ∃ y : Int32, y = y4_2 + 1 := ⟨_, rfl⟩
                refine lv_iinc (v := x_10) (lv' := [(2, .int x_10), (4, .int y4_4), (3, .int y1_3), (0, .ref (ad 13)), (1, .int x0)]) hx hb dX1_countJudged_44 hl (k := 2) rfl (by rw [ex_10]; rfl) (by decide) rfl (fun ls hl => ?_)
                obtain ⟨x_11, ex_11⟩ : ∃ y : Int32, y = y4_4 + 1 := ⟨_, rfl⟩
                refine lv_iinc (v := x_11) (lv' := [(4, .int x_11), (2, .int x_10), (3, .int y1_3), (0, .ref (ad 13)), (1, .int x0)]) hx hb dX1_countJudged_47 hl (k := 1) rfl (by rw [ex_11]; rfl) (by decide) rfl (fun ls hl => ?_)
                have k_1 : (1 : Int32).toInt = 1 := by decide
                have tx_11 : x_11.toInt = y4_4.toInt + (1 : Int32).toInt := by rw [ex_11]; exact t_add ⟨by omega, by omega⟩
                refine lv_goto (tgt := 15) hx hb dX1_countJudged_50 (by decide) ?_
                exact ih_4 x_11 x_10 v_8 H locs (by omega) (by omega) (by omega) hv hfr hP hD hS ls (lv_sub hl [0, 2, 1, 3, 4] rfl)
        exact hloop_4 ((5 - (0 : Int32).toInt).toNat + 1) 0 y1_2 u1 _ _ (by omega) (by omega) (by omega) hv hfr hP hD hS ls hl
  exact hloop_1 ((6 - (0 : Int32).toInt).toNat + 1) 0 0 v _ _ (by omega) (by omega) (by omega) hv hfr hP hD hS ls hl
end
section
theorem dX7_offer_0 : decode cX7_offer 0 = .ok (.aload_n 0, 1) := by decide +kernel
theorem dX7_offer_1 : decode cX7_offer 1 = .ok (.iload_n 1, 1) := by decide +kernel
set_option maxRecDepth 20000 in
theorem ggX7_offer_X7_isCase : GoodIn wsX7_offer wsX7_isCase := goodIn_r _ [10, 1, 11, 12, 13, 9, 14, 28, 29, 30, 31, 32, 33, 34, 35, 36, 37, 38, 39] (by decide +kernel) (by decide +kernel)
set_option maxRecDepth 20000 in
theorem gX7_offer_X7_isCase : GoodIn wsX7_offer (wsV RX7 96 RX7 yX7_isCase wsX7_isCase) := goodIn_app (goodIn_of _ (by decide +kernel)) ggX7_offer_X7_isCase
theorem dX7_offer_2 : decode cX7_offer 2 = .ok (.invokevirtual 96, 3) := by decide +kernel
theorem dX7_offer_5 : decode cX7_offer 5 = .ok (.ifCond .eq 20, 3) := by decide +kernel
theorem dX7_offer_8 : decode cX7_offer 8 = .ok (.iload_n 2, 1) := by decide +kernel
set_option maxRecDepth 20000 in
theorem ggX7_offer_X7_isSide : GoodIn wsX7_offer wsX7_isSide := goodIn_r _ [17, 12, 13, 9, 14] (by decide +kernel) (by decide +kernel)
set_option maxRecDepth 20000 in
theorem gX7_offer_X7_isSide : GoodIn wsX7_offer (va_wsS RX7 132 yX7_isSide wsX7_isSide) := goodIn_app (goodIn_of _ (by decide +kernel)) ggX7_offer_X7_isSide
theorem dX7_offer_9 : decode cX7_offer 9 = .ok (.invokestatic 132, 3) := by decide +kernel
theorem dX7_offer_12 : decode cX7_offer 12 = .ok (.ifCond .eq 13, 3) := by decide +kernel
theorem dX7_offer_15 : decode cX7_offer 15 = .ok (.iload_n 3, 1) := by decide +kernel
theorem dX7_offer_16 : decode cX7_offer 16 = .ok (.iconst 0, 1) := by decide +kernel
theorem dX7_offer_17 : decode cX7_offer 17 = .ok (.bipush 100, 2) := by decide +kernel
set_option maxRecDepth 20000 in
theorem ggX7_offer_X7_isWithin : GoodIn wsX7_offer wsX7_isWithin := goodIn_r _ [14] (by decide +kernel) (by decide +kernel)
set_option maxRecDepth 20000 in
theorem gX7_offer_X7_isWithin : GoodIn wsX7_offer (va_wsS RX7 37 yX7_isWithin wsX7_isWithin) := goodIn_app (goodIn_of _ (by decide +kernel)) ggX7_offer_X7_isWithin
theorem dX7_offer_19 : decode cX7_offer 19 = .ok (.invokestatic 37, 3) := by decide +kernel
theorem dX7_offer_22 : decode cX7_offer 22 = .ok (.ifCond .ne 5, 3) := by decide +kernel
theorem dX7_offer_27 : decode cX7_offer 27 = .ok (.aload_n 0, 1) := by decide +kernel
theorem dX7_offer_28 : decode cX7_offer 28 = .ok (.getfield 12, 3) := by decide +kernel
theorem dX7_offer_31 : decode cX7_offer 31 = .ok (.getfield 86, 3) := by decide +kernel
theorem dX7_offer_34 : decode cX7_offer 34 = .ok (.iload_n 1, 1) := by decide +kernel
theorem dX7_offer_35 : decode cX7_offer 35 = .ok (.aaload, 1) := by decide +kernel
theorem dX7_offer_36 : decode cX7_offer 36 = .ok (.astore 4, 2) := by decide +kernel
theorem dX7_offer_38 : decode cX7_offer 38 = .ok (.aload 4, 2) := by decide +kernel
theorem dX7_offer_40 : decode cX7_offer 40 = .ok (.getfield 99, 3) := by decide +kernel
theorem dX7_offer_43 : decode cX7_offer 43 = .ok (.ifCond .eq 6, 3) := by decide +kernel
theorem dX7_offer_49 : decode cX7_offer 49 = .ok (.aload 4, 2) := by decide +kernel
theorem dX7_offer_51 : decode cX7_offer 51 = .ok (.getfield 135, 3) := by decide +kernel
theorem dX7_offer_54 : decode cX7_offer 54 = .ok (.iload_n 2, 1) := by decide +kernel
theorem dX7_offer_55 : decode cX7_offer 55 = .ok (.iaload, 1) := by decide +kernel
theorem dX7_offer_56 : decode cX7_offer 56 = .ok (.iconst (-1), 1) := by decide +kernel
theorem dX7_offer_57 : decode cX7_offer 57 = .ok (.if_icmp .eq 6, 3) := by decide +kernel
theorem dX7_offer_63 : decode cX7_offer 63 = .ok (.aload 4, 2) := by decide +kernel
theorem dX7_offer_65 : decode cX7_offer 65 = .ok (.getfield 117, 3) := by decide +kernel
theorem dX7_offer_68 : decode cX7_offer 68 = .ok (.iconst 5, 1) := by decide +kernel
theorem dX7_offer_69 : decode cX7_offer 69 = .ok (.if_icmp .lt 6, 3) := by decide +kernel
theorem dX7_offer_75 : decode cX7_offer 75 = .ok (.aload 4, 2) := by decide +kernel
theorem dX7_offer_77 : decode cX7_offer 77 = .ok (.getfield 135, 3) := by decide +kernel
theorem dX7_offer_80 : decode cX7_offer 80 = .ok (.iload_n 2, 1) := by decide +kernel
theorem dX7_offer_81 : decode cX7_offer 81 = .ok (.iload_n 3, 1) := by decide +kernel
theorem dX7_offer_82 : decode cX7_offer 82 = .ok (.iastore, 1) := by decide +kernel
theorem dX7_offer_83 : decode cX7_offer 83 = .ok (.aload 4, 2) := by decide +kernel
theorem dX7_offer_85 : decode cX7_offer 85 = .ok (.getfield 135, 3) := by decide +kernel
theorem dX7_offer_88 : decode cX7_offer 88 = .ok (.iconst 1, 1) := by decide +kernel
theorem dX7_offer_89 : decode cX7_offer 89 = .ok (.iload_n 2, 1) := by decide +kernel
theorem dX7_offer_90 : decode cX7_offer 90 = .ok (.isub, 1) := by decide +kernel
theorem dX7_offer_91 : decode cX7_offer 91 = .ok (.iaload, 1) := by decide +kernel
theorem dX7_offer_92 : decode cX7_offer 92 = .ok (.iconst (-1), 1) := by decide +kernel
theorem dX7_offer_93 : decode cX7_offer 93 = .ok (.if_icmp .ne 5, 3) := by decide +kernel
theorem dX7_offer_98 : decode cX7_offer 98 = .ok (.aload 4, 2) := by decide +kernel
set_option maxRecDepth 20000 in
theorem ggX7_offer_X0_endRound : GoodIn wsX7_offer wsX0_endRound := goodIn_r _ [22, 23, 24, 25, 26, 27, 40, 41, 42, 43, 44, 45, 46, 47, 48, 49, 50] (by decide +kernel) (by decide +kernel)
set_option maxRecDepth 20000 in
theorem gX7_offer_X0_endRound : GoodIn wsX7_offer (wsV RX7 138 RX0 yX0_endRound wsX0_endRound) := goodIn_app (goodIn_of _ (by decide +kernel)) ggX7_offer_X0_endRound
theorem dX7_offer_100 : decode cX7_offer 100 = .ok (.invokevirtual 138, 3) := by decide +kernel
theorem dX7_offer_103 : decode cX7_offer 103 = .ok (.ifCond .eq 7, 3) := by decide +kernel
theorem dX7_offer_110 : decode cX7_offer 110 = .ok (.iconst 2, 1) := by decide +kernel
theorem dX7_offer_111 : decode cX7_offer 111 = .ok (.ireturn, 1) := by decide +kernel
theorem dX7_offer_106 : decode cX7_offer 106 = .ok (.iconst 1, 1) := by decide +kernel
theorem dX7_offer_107 : decode cX7_offer 107 = .ok (.goto 4, 3) := by decide +kernel
theorem dX7_offer_96 : decode cX7_offer 96 = .ok (.iconst 0, 1) := by decide +kernel
theorem dX7_offer_97 : decode cX7_offer 97 = .ok (.ireturn, 1) := by decide +kernel
theorem dX7_offer_72 : decode cX7_offer 72 = .ok (.bipush (-2), 2) := by decide +kernel
theorem dX7_offer_74 : decode cX7_offer 74 = .ok (.ireturn, 1) := by decide +kernel
theorem dX7_offer_60 : decode cX7_offer 60 = .ok (.bipush (-3), 2) := by decide +kernel
theorem dX7_offer_62 : decode cX7_offer 62 = .ok (.ireturn, 1) := by decide +kernel
theorem dX7_offer_46 : decode cX7_offer 46 = .ok (.bipush (-4), 2) := by decide +kernel
theorem dX7_offer_48 : decode cX7_offer 48 = .ok (.ireturn, 1) := by decide +kernel
theorem dX7_offer_25 : decode cX7_offer 25 = .ok (.iconst (-1), 1) := by decide +kernel
theorem dX7_offer_26 : decode cX7_offer 26 = .ok (.ireturn, 1) := by decide +kernel
theorem dX7_learns_0 : decode cX7_learns 0 = .ok (.aload_n 0, 1) := by decide +kernel
theorem dX7_learns_1 : decode cX7_learns 1 = .ok (.iload_n 1, 1) := by decide +kernel
set_option maxRecDepth 20000 in
theorem ggX7_learns_X7_isCase : GoodIn wsX7_learns wsX7_isCase := goodIn_r _ [8, 1, 9, 10, 11, 7, 12, 40, 41, 42, 43, 44, 45, 46, 47, 48, 49, 50, 51] (by decide +kernel) (by decide +kernel)
set_option maxRecDepth 20000 in
theorem gX7_learns_X7_isCase : GoodIn wsX7_learns (wsV RX7 96 RX7 yX7_isCase wsX7_isCase) := goodIn_app (goodIn_of _ (by decide +kernel)) ggX7_learns_X7_isCase
theorem dX7_learns_2 : decode cX7_learns 2 = .ok (.invokevirtual 96, 3) := by decide +kernel
theorem dX7_learns_5 : decode cX7_learns 5 = .ok (.ifCond .eq 10, 3) := by decide +kernel
theorem dX7_learns_8 : decode cX7_learns 8 = .ok (.iload_n 2, 1) := by decide +kernel
set_option maxRecDepth 20000 in
theorem ggX7_learns_X7_isSide : GoodIn wsX7_learns wsX7_isSide := goodIn_r _ [15, 10, 11, 7, 12] (by decide +kernel) (by decide +kernel)
set_option maxRecDepth 20000 in
theorem gX7_learns_X7_isSide : GoodIn wsX7_learns (va_wsS RX7 132 yX7_isSide wsX7_isSide) := goodIn_app (goodIn_of _ (by decide +kernel)) ggX7_learns_X7_isSide
theorem dX7_learns_9 : decode cX7_learns 9 = .ok (.invokestatic 132, 3) := by decide +kernel
theorem dX7_learns_12 : decode cX7_learns 12 = .ok (.ifCond .ne 5, 3) := by decide +kernel
theorem dX7_learns_17 : decode cX7_learns 17 = .ok (.aload_n 0, 1) := by decide +kernel
theorem dX7_learns_18 : decode cX7_learns 18 = .ok (.getfield 12, 3) := by decide +kernel
theorem dX7_learns_21 : decode cX7_learns 21 = .ok (.getfield 86, 3) := by decide +kernel
theorem dX7_learns_24 : decode cX7_learns 24 = .ok (.iload_n 1, 1) := by decide +kernel
theorem dX7_learns_25 : decode cX7_learns 25 = .ok (.aaload, 1) := by decide +kernel
theorem dX7_learns_26 : decode cX7_learns 26 = .ok (.astore 5, 2) := by decide +kernel
theorem dX7_learns_28 : decode cX7_learns 28 = .ok (.iload_n 3, 1) := by decide +kernel
theorem dX7_learns_29 : decode cX7_learns 29 = .ok (.iconst 0, 1) := by decide +kernel
theorem dX7_learns_30 : decode cX7_learns 30 = .ok (.aload 5, 2) := by decide +kernel
theorem dX7_learns_32 : decode cX7_learns 32 = .ok (.getfield 117, 3) := by decide +kernel
theorem dX7_learns_35 : decode cX7_learns 35 = .ok (.iconst 1, 1) := by decide +kernel
theorem dX7_learns_36 : decode cX7_learns 36 = .ok (.isub, 1) := by decide +kernel
set_option maxRecDepth 20000 in
theorem ggX7_learns_X7_isWithin : GoodIn wsX7_learns wsX7_isWithin := goodIn_r _ [12] (by decide +kernel) (by decide +kernel)
set_option maxRecDepth 20000 in
theorem gX7_learns_X7_isWithin : GoodIn wsX7_learns (va_wsS RX7 37 yX7_isWithin wsX7_isWithin) := goodIn_app (goodIn_of _ (by decide +kernel)) ggX7_learns_X7_isWithin
theorem dX7_learns_37 : decode cX7_learns 37 = .ok (.invokestatic 37, 3) := by decide +kernel
theorem dX7_learns_40 : decode cX7_learns 40 = .ok (.ifCond .ne 6, 3) := by decide +kernel
theorem dX7_learns_46 : decode cX7_learns 46 = .ok (.iload 4, 2) := by decide +kernel
theorem dX7_learns_48 : decode cX7_learns 48 = .ok (.ifCond .eq 13, 3) := by decide +kernel
theorem dX7_learns_61 : decode cX7_learns 61 = .ok (.aload 5, 2) := by decide +kernel
theorem dX7_learns_63 : decode cX7_learns 63 = .ok (.iload_n 2, 1) := by decide +kernel
theorem dX7_learns_64 : decode cX7_learns 64 = .ok (.iload_n 3, 1) := by decide +kernel
set_option maxRecDepth 20000 in
theorem ggX7_learns_X0_leastOfOther : GoodIn wsX7_learns wsX0_leastOfOther := goodIn_r _ [36, 21, 22, 37, 38, 25, 39, 27, 28, 29, 19, 30, 31, 32, 52, 53, 54, 55, 56, 57, 58, 59, 60, 61, 62] (by decide +kernel) (by decide +kernel)
set_option maxRecDepth 20000 in
theorem gX7_learns_X0_leastOfOther : GoodIn wsX7_learns (wsV RX7 146 RX0 yX0_leastOfOther wsX0_leastOfOther) := goodIn_app (goodIn_of _ (by decide +kernel)) ggX7_learns_X0_leastOfOther
theorem dX7_learns_65 : decode cX7_learns 65 = .ok (.invokevirtual 146, 3) := by decide +kernel
theorem dX7_learns_68 : decode cX7_learns 68 = .ok (.ireturn, 1) := by decide +kernel
theorem dX7_learns_51 : decode cX7_learns 51 = .ok (.aload 5, 2) := by decide +kernel
theorem dX7_learns_53 : decode cX7_learns 53 = .ok (.iload_n 2, 1) := by decide +kernel
theorem dX7_learns_54 : decode cX7_learns 54 = .ok (.iload_n 3, 1) := by decide +kernel
set_option maxRecDepth 20000 in
theorem ggX7_learns_X0_greatestOfOther : GoodIn wsX7_learns wsX0_greatestOfOther := goodIn_r _ [20, 21, 22, 23, 24, 25, 26, 27, 28, 29, 19, 30, 31, 32, 52, 53, 54, 55, 56, 57, 58, 59, 60, 61, 62] (by decide +kernel) (by decide +kernel)
set_option maxRecDepth 20000 in
theorem gX7_learns_X0_greatestOfOther : GoodIn wsX7_learns (wsV RX7 142 RX0 yX0_greatestOfOther wsX0_greatestOfOther) := goodIn_app (goodIn_of _ (by decide +kernel)) ggX7_learns_X0_greatestOfOther
theorem dX7_learns_55 : decode cX7_learns 55 = .ok (.invokevirtual 142, 3) := by decide +kernel
theorem dX7_learns_58 : decode cX7_learns 58 = .ok (.goto 10, 3) := by decide +kernel
theorem dX7_learns_43 : decode cX7_learns 43 = .ok (.bipush (-5), 2) := by decide +kernel
theorem dX7_learns_45 : decode cX7_learns 45 = .ok (.ireturn, 1) := by decide +kernel
theorem dX7_learns_15 : decode cX7_learns 15 = .ok (.iconst (-1), 1) := by decide +kernel
theorem dX7_learns_16 : decode cX7_learns 16 = .ok (.ireturn, 1) := by decide +kernel
theorem dX7_termOf_0 : decode cX7_termOf 0 = .ok (.aload_n 0, 1) := by decide +kernel
theorem dX7_termOf_1 : decode cX7_termOf 1 = .ok (.iload_n 1, 1) := by decide +kernel
theorem dX7_termOf_2 : decode cX7_termOf 2 = .ok (.iload_n 2, 1) := by decide +kernel
set_option maxRecDepth 20000 in
theorem ggX7_termOf_X7_isTerm : GoodIn wsX7_termOf wsX7_isTerm := goodIn_r _ [13, 1, 2, 14, 15, 16, 17, 12, 18, 19, 20, 21, 22, 23, 24, 25, 26, 27, 28, 29, 30, 31, 32, 33, 34, 35, 36, 37, 38, 39, 40, 41, 42, 43, 44, 45] (by decide +kernel) (by decide +kernel)
set_option maxRecDepth 20000 in
theorem gX7_termOf_X7_isTerm : GoodIn wsX7_termOf (wsV RX7 194 RX7 yX7_isTerm wsX7_isTerm) := goodIn_app (goodIn_of _ (by decide +kernel)) ggX7_termOf_X7_isTerm
theorem dX7_termOf_3 : decode cX7_termOf 3 = .ok (.invokevirtual 194, 3) := by decide +kernel
theorem dX7_termOf_6 : decode cX7_termOf 6 = .ok (.ifCond .ne 5, 3) := by decide +kernel
theorem dX7_termOf_11 : decode cX7_termOf 11 = .ok (.aload_n 0, 1) := by decide +kernel
theorem dX7_termOf_12 : decode cX7_termOf 12 = .ok (.getfield 12, 3) := by decide +kernel
theorem dX7_termOf_15 : decode cX7_termOf 15 = .ok (.getfield 86, 3) := by decide +kernel
theorem dX7_termOf_18 : decode cX7_termOf 18 = .ok (.iload_n 1, 1) := by decide +kernel
theorem dX7_termOf_19 : decode cX7_termOf 19 = .ok (.aaload, 1) := by decide +kernel
theorem dX7_termOf_20 : decode cX7_termOf 20 = .ok (.getfield 172, 3) := by decide +kernel
theorem dX7_termOf_23 : decode cX7_termOf 23 = .ok (.iload_n 2, 1) := by decide +kernel
theorem dX7_termOf_24 : decode cX7_termOf 24 = .ok (.aaload, 1) := by decide +kernel
theorem dX7_termOf_25 : decode cX7_termOf 25 = .ok (.astore 4, 2) := by decide +kernel
theorem dX7_termOf_27 : decode cX7_termOf 27 = .ok (.iload_n 3, 1) := by decide +kernel
theorem dX7_termOf_28 : decode cX7_termOf 28 = .ok (.tableswitch 74 0 4 #[36, 42, 56, 62, 68], 36) := by decide +kernel
theorem dX7_termOf_102 : decode cX7_termOf 102 = .ok (.iconst (-1), 1) := by decide +kernel
theorem dX7_termOf_103 : decode cX7_termOf 103 = .ok (.ireturn, 1) := by decide +kernel
theorem dX7_termOf_64 : decode cX7_termOf 64 = .ok (.aload 4, 2) := by decide +kernel
theorem dX7_termOf_66 : decode cX7_termOf 66 = .ok (.getfield 176, 3) := by decide +kernel
theorem dX7_termOf_69 : decode cX7_termOf 69 = .ok (.ireturn, 1) := by decide +kernel
theorem dX7_termOf_70 : decode cX7_termOf 70 = .ok (.aload 4, 2) := by decide +kernel
theorem dX7_termOf_72 : decode cX7_termOf 72 = .ok (.getfield 181, 3) := by decide +kernel
theorem dX7_termOf_75 : decode cX7_termOf 75 = .ok (.ifCond .eq 7, 3) := by decide +kernel
theorem dX7_termOf_82 : decode cX7_termOf 82 = .ok (.iconst 0, 1) := by decide +kernel
theorem dX7_termOf_83 : decode cX7_termOf 83 = .ok (.ireturn, 1) := by decide +kernel
theorem dX7_termOf_78 : decode cX7_termOf 78 = .ok (.iconst 1, 1) := by decide +kernel
theorem dX7_termOf_79 : decode cX7_termOf 79 = .ok (.goto 4, 3) := by decide +kernel
theorem dX7_termOf_84 : decode cX7_termOf 84 = .ok (.aload 4, 2) := by decide +kernel
theorem dX7_termOf_86 : decode cX7_termOf 86 = .ok (.getfield 185, 3) := by decide +kernel
theorem dX7_termOf_89 : decode cX7_termOf 89 = .ok (.ireturn, 1) := by decide +kernel
theorem dX7_termOf_90 : decode cX7_termOf 90 = .ok (.aload 4, 2) := by decide +kernel
theorem dX7_termOf_92 : decode cX7_termOf 92 = .ok (.getfield 188, 3) := by decide +kernel
theorem dX7_termOf_95 : decode cX7_termOf 95 = .ok (.ireturn, 1) := by decide +kernel
theorem dX7_termOf_96 : decode cX7_termOf 96 = .ok (.aload 4, 2) := by decide +kernel
theorem dX7_termOf_98 : decode cX7_termOf 98 = .ok (.getfield 191, 3) := by decide +kernel
theorem dX7_termOf_101 : decode cX7_termOf 101 = .ok (.ireturn, 1) := by decide +kernel
theorem dX7_termOf_9 : decode cX7_termOf 9 = .ok (.iconst (-1), 1) := by decide +kernel
theorem dX7_termOf_10 : decode cX7_termOf 10 = .ok (.ireturn, 1) := by decide +kernel
theorem dX7_judged_0 : decode cX7_judged 0 = .ok (.aload_n 0, 1) := by decide +kernel
theorem dX7_judged_1 : decode cX7_judged 1 = .ok (.iload_n 1, 1) := by decide +kernel
theorem dX7_judged_2 : decode cX7_judged 2 = .ok (.iload_n 2, 1) := by decide +kernel
set_option maxRecDepth 20000 in
theorem ggX7_judged_X7_isTerm : GoodIn wsX7_judged wsX7_isTerm := goodIn_r _ [7, 1, 2, 8, 9, 10, 11, 6, 12, 13, 14, 15, 16, 29, 30, 31, 32, 33, 34, 35, 36, 37, 38, 39, 40, 41, 42, 43, 44, 45, 46, 47, 48, 49, 50, 51] (by decide +kernel) (by decide +kernel)
set_option maxRecDepth 20000 in
theorem gX7_judged_X7_isTerm : GoodIn wsX7_judged (wsV RX7 194 RX7 yX7_isTerm wsX7_isTerm) := goodIn_app (goodIn_of _ (by decide +kernel)) ggX7_judged_X7_isTerm
theorem dX7_judged_3 : decode cX7_judged 3 = .ok (.invokevirtual 194, 3) := by decide +kernel
theorem dX7_judged_6 : decode cX7_judged 6 = .ok (.ifCond .ne 5, 3) := by decide +kernel
theorem dX7_judged_11 : decode cX7_judged 11 = .ok (.aload_n 0, 1) := by decide +kernel
theorem dX7_judged_12 : decode cX7_judged 12 = .ok (.getfield 12, 3) := by decide +kernel
theorem dX7_judged_15 : decode cX7_judged 15 = .ok (.getfield 86, 3) := by decide +kernel
theorem dX7_judged_18 : decode cX7_judged 18 = .ok (.iload_n 1, 1) := by decide +kernel
theorem dX7_judged_19 : decode cX7_judged 19 = .ok (.aaload, 1) := by decide +kernel
theorem dX7_judged_20 : decode cX7_judged 20 = .ok (.iload_n 2, 1) := by decide +kernel
set_option maxRecDepth 20000 in
theorem ggX7_judged_X0_judge : GoodIn wsX7_judged wsX0_judge := goodIn_r _ [21, 22, 23, 24, 25, 26, 27, 28, 41, 42, 43, 44, 45, 46, 47, 48, 49, 50, 51, 52, 53, 54, 55, 56] (by decide +kernel) (by decide +kernel)
set_option maxRecDepth 20000 in
theorem gX7_judged_X0_judge : GoodIn wsX7_judged (wsV RX7 211 RX0 yX0_judge wsX0_judge) := goodIn_app (goodIn_of _ (by decide +kernel)) ggX7_judged_X0_judge
theorem dX7_judged_21 : decode cX7_judged 21 = .ok (.invokevirtual 211, 3) := by decide +kernel
theorem dX7_judged_24 : decode cX7_judged 24 = .ok (.ireturn, 1) := by decide +kernel
theorem dX7_judged_9 : decode cX7_judged 9 = .ok (.iconst (-1), 1) := by decide +kernel
theorem dX7_judged_10 : decode cX7_judged 10 = .ok (.ireturn, 1) := by decide +kernel
theorem dX7_open_0 : decode cX7_open 0 = .ok (.aload_n 0, 1) := by decide +kernel
theorem dX7_open_1 : decode cX7_open 1 = .ok (.iload_n 1, 1) := by decide +kernel
set_option maxRecDepth 20000 in
theorem ggX7_open_X7_isParty : GoodIn wsX7_open wsX7_isParty := goodIn_r _ [8, 1, 9, 10, 11, 7, 12, 27, 28, 29, 30, 31, 32, 33, 34, 35, 36, 37, 38] (by decide +kernel) (by decide +kernel)
set_option maxRecDepth 20000 in
theorem gX7_open_X7_isParty : GoodIn wsX7_open (wsV RX7 76 RX7 yX7_isParty wsX7_isParty) := goodIn_app (goodIn_of _ (by decide +kernel)) ggX7_open_X7_isParty
theorem dX7_open_2 : decode cX7_open 2 = .ok (.invokevirtual 76, 3) := by decide +kernel
theorem dX7_open_5 : decode cX7_open 5 = .ok (.ifCond .eq 16, 3) := by decide +kernel
theorem dX7_open_8 : decode cX7_open 8 = .ok (.aload_n 0, 1) := by decide +kernel
theorem dX7_open_9 : decode cX7_open 9 = .ok (.iload_n 2, 1) := by decide +kernel
theorem dX7_open_10 : decode cX7_open 10 = .ok (.invokevirtual 76, 3) := by decide +kernel
theorem dX7_open_13 : decode cX7_open 13 = .ok (.ifCond .eq 8, 3) := by decide +kernel
theorem dX7_open_16 : decode cX7_open 16 = .ok (.iload_n 1, 1) := by decide +kernel
theorem dX7_open_17 : decode cX7_open 17 = .ok (.iload_n 2, 1) := by decide +kernel
theorem dX7_open_18 : decode cX7_open 18 = .ok (.if_icmp .ne 5, 3) := by decide +kernel
theorem dX7_open_23 : decode cX7_open 23 = .ok (.aload_n 0, 1) := by decide +kernel
theorem dX7_open_24 : decode cX7_open 24 = .ok (.getfield 12, 3) := by decide +kernel
theorem dX7_open_27 : decode cX7_open 27 = .ok (.getfield 83, 3) := by decide +kernel
theorem dX7_open_30 : decode cX7_open 30 = .ok (.bipush 6, 2) := by decide +kernel
theorem dX7_open_32 : decode cX7_open 32 = .ok (.if_icmp .lt 6, 3) := by decide +kernel
theorem dX7_open_38 : decode cX7_open 38 = .ok (.aload_n 0, 1) := by decide +kernel
theorem dX7_open_39 : decode cX7_open 39 = .ok (.getfield 12, 3) := by decide +kernel
theorem dX7_open_42 : decode cX7_open 42 = .ok (.getfield 86, 3) := by decide +kernel
theorem dX7_open_45 : decode cX7_open 45 = .ok (.aload_n 0, 1) := by decide +kernel
theorem dX7_open_46 : decode cX7_open 46 = .ok (.getfield 12, 3) := by decide +kernel
theorem dX7_open_49 : decode cX7_open 49 = .ok (.getfield 83, 3) := by decide +kernel
theorem dX7_open_52 : decode cX7_open 52 = .ok (.aaload, 1) := by decide +kernel
theorem dX7_open_53 : decode cX7_open 53 = .ok (.iload_n 1, 1) := by decide +kernel
theorem dX7_open_54 : decode cX7_open 54 = .ok (.iload_n 2, 1) := by decide +kernel
set_option maxRecDepth 20000 in
theorem ggX7_open_X0_begin : GoodIn wsX7_open wsX0_begin := goodIn_r _ [17, 18, 19, 20, 21, 22, 23, 24, 25, 26, 39, 40, 41, 42, 43, 44, 45, 46, 47, 48, 49] (by decide +kernel) (by decide +kernel)
set_option maxRecDepth 20000 in
theorem gX7_open_X0_begin : GoodIn wsX7_open (wsV RX7 90 RX0 yX0_begin wsX0_begin) := goodIn_app (goodIn_of _ (by decide +kernel)) ggX7_open_X0_begin
theorem dX7_open_55 : decode cX7_open 55 = .ok (.invokevirtual 90, 3) := by decide +kernel
theorem dX7_open_58 : decode cX7_open 58 = .ok (.aload_n 0, 1) := by decide +kernel
theorem dX7_open_59 : decode cX7_open 59 = .ok (.getfield 12, 3) := by decide +kernel
theorem dX7_open_62 : decode cX7_open 62 = .ok (.dup, 1) := by decide +kernel
theorem dX7_open_63 : decode cX7_open 63 = .ok (.getfield 83, 3) := by decide +kernel
theorem dX7_open_66 : decode cX7_open 66 = .ok (.dup_x1, 1) := by decide +kernel
theorem dX7_open_67 : decode cX7_open 67 = .ok (.iconst 1, 1) := by decide +kernel
theorem dX7_open_68 : decode cX7_open 68 = .ok (.iadd, 1) := by decide +kernel
theorem dX7_open_69 : decode cX7_open 69 = .ok (.putfield 83, 3) := by decide +kernel
theorem dX7_open_72 : decode cX7_open 72 = .ok (.ireturn, 1) := by decide +kernel
theorem dX7_open_35 : decode cX7_open 35 = .ok (.bipush (-2), 2) := by decide +kernel
theorem dX7_open_37 : decode cX7_open 37 = .ok (.ireturn, 1) := by decide +kernel
theorem dX7_open_21 : decode cX7_open 21 = .ok (.iconst (-1), 1) := by decide +kernel
theorem dX7_open_22 : decode cX7_open 22 = .ok (.ireturn, 1) := by decide +kernel
theorem dX7_of_0 : decode cX7_of 0 = .ok (.aload_n 0, 1) := by decide +kernel
theorem dX7_of_1 : decode cX7_of 1 = .ok (.iload_n 1, 1) := by decide +kernel
set_option maxRecDepth 20000 in
theorem ggX7_of_X7_isCase : GoodIn wsX7_of wsX7_isCase := goodIn_r _ [12, 1, 13, 14, 15, 11, 16, 39, 40, 41, 42, 43, 44, 45, 46, 47, 48, 49, 50] (by decide +kernel) (by decide +kernel)
set_option maxRecDepth 20000 in
theorem gX7_of_X7_isCase : GoodIn wsX7_of (wsV RX7 96 RX7 yX7_isCase wsX7_isCase) := goodIn_app (goodIn_of _ (by decide +kernel)) ggX7_of_X7_isCase
theorem dX7_of_2 : decode cX7_of 2 = .ok (.invokevirtual 96, 3) := by decide +kernel
theorem dX7_of_5 : decode cX7_of 5 = .ok (.ifCond .ne 5, 3) := by decide +kernel
theorem dX7_of_10 : decode cX7_of 10 = .ok (.aload_n 0, 1) := by decide +kernel
theorem dX7_of_11 : decode cX7_of 11 = .ok (.getfield 12, 3) := by decide +kernel
theorem dX7_of_14 : decode cX7_of 14 = .ok (.getfield 86, 3) := by decide +kernel
theorem dX7_of_17 : decode cX7_of 17 = .ok (.iload_n 1, 1) := by decide +kernel
theorem dX7_of_18 : decode cX7_of 18 = .ok (.aaload, 1) := by decide +kernel
theorem dX7_of_19 : decode cX7_of 19 = .ok (.astore_n 3, 1) := by decide +kernel
theorem dX7_of_20 : decode cX7_of 20 = .ok (.iload_n 2, 1) := by decide +kernel
theorem dX7_of_21 : decode cX7_of 21 = .ok (.tableswitch 115 0 7 #[47, 54, 61, 66, 84, 89, 98, 110], 47) := by decide +kernel
theorem dX7_of_136 : decode cX7_of 136 = .ok (.iconst (-1), 1) := by decide +kernel
theorem dX7_of_137 : decode cX7_of 137 = .ok (.ireturn, 1) := by decide +kernel
theorem dX7_of_68 : decode cX7_of 68 = .ok (.aload_n 3, 1) := by decide +kernel
theorem dX7_of_69 : decode cX7_of 69 = .ok (.getfield 111, 3) := by decide +kernel
theorem dX7_of_72 : decode cX7_of 72 = .ok (.iconst 0, 1) := by decide +kernel
theorem dX7_of_73 : decode cX7_of 73 = .ok (.iaload, 1) := by decide +kernel
theorem dX7_of_74 : decode cX7_of 74 = .ok (.ireturn, 1) := by decide +kernel
theorem dX7_of_75 : decode cX7_of 75 = .ok (.aload_n 3, 1) := by decide +kernel
theorem dX7_of_76 : decode cX7_of 76 = .ok (.getfield 111, 3) := by decide +kernel
theorem dX7_of_79 : decode cX7_of 79 = .ok (.iconst 1, 1) := by decide +kernel
theorem dX7_of_80 : decode cX7_of 80 = .ok (.iaload, 1) := by decide +kernel
theorem dX7_of_81 : decode cX7_of 81 = .ok (.ireturn, 1) := by decide +kernel
theorem dX7_of_82 : decode cX7_of 82 = .ok (.aload_n 3, 1) := by decide +kernel
theorem dX7_of_83 : decode cX7_of 83 = .ok (.getfield 99, 3) := by decide +kernel
theorem dX7_of_86 : decode cX7_of 86 = .ok (.ireturn, 1) := by decide +kernel
theorem dX7_of_87 : decode cX7_of 87 = .ok (.aload_n 3, 1) := by decide +kernel
theorem dX7_of_88 : decode cX7_of 88 = .ok (.getfield 99, 3) := by decide +kernel
theorem dX7_of_91 : decode cX7_of 91 = .ok (.iconst 1, 1) := by decide +kernel
theorem dX7_of_92 : decode cX7_of 92 = .ok (.if_icmp .ne 10, 3) := by decide +kernel
theorem dX7_of_102 : decode cX7_of 102 = .ok (.bipush (-5), 2) := by decide +kernel
theorem dX7_of_104 : decode cX7_of 104 = .ok (.ireturn, 1) := by decide +kernel
theorem dX7_of_95 : decode cX7_of 95 = .ok (.aload_n 3, 1) := by decide +kernel
theorem dX7_of_96 : decode cX7_of 96 = .ok (.getfield 114, 3) := by decide +kernel
theorem dX7_of_99 : decode cX7_of 99 = .ok (.goto 5, 3) := by decide +kernel
theorem dX7_of_105 : decode cX7_of 105 = .ok (.aload_n 3, 1) := by decide +kernel
theorem dX7_of_106 : decode cX7_of 106 = .ok (.getfield 117, 3) := by decide +kernel
theorem dX7_of_109 : decode cX7_of 109 = .ok (.ireturn, 1) := by decide +kernel
theorem dX7_of_110 : decode cX7_of 110 = .ok (.aload_n 0, 1) := by decide +kernel
theorem dX7_of_111 : decode cX7_of 111 = .ok (.getfield 12, 3) := by decide +kernel
theorem dX7_of_114 : decode cX7_of 114 = .ok (.iload_n 1, 1) := by decide +kernel
set_option maxRecDepth 20000 in
theorem ggX7_of_X1_headOfQuarrel : GoodIn wsX7_of wsX1_headOfQuarrel := goodIn_r _ [21, 22, 23, 24, 20, 25, 26, 27, 28, 29, 11, 30, 44, 45, 46, 47, 48, 49, 50, 51, 52, 53, 54, 55, 56, 57, 58, 59, 60, 61] (by decide +kernel) (by decide +kernel)
set_option maxRecDepth 20000 in
theorem gX7_of_X1_headOfQuarrel : GoodIn wsX7_of (wsV RX7 120 RX1 yX1_headOfQuarrel wsX1_headOfQuarrel) := goodIn_app (goodIn_of _ (by decide +kernel)) ggX7_of_X1_headOfQuarrel
theorem dX7_of_115 : decode cX7_of 115 = .ok (.invokevirtual 120, 3) := by decide +kernel
theorem dX7_of_118 : decode cX7_of 118 = .ok (.ireturn, 1) := by decide +kernel
theorem dX7_of_119 : decode cX7_of 119 = .ok (.aload_n 0, 1) := by decide +kernel
theorem dX7_of_120 : decode cX7_of 120 = .ok (.getfield 12, 3) := by decide +kernel
theorem dX7_of_123 : decode cX7_of 123 = .ok (.iload_n 1, 1) := by decide +kernel
set_option maxRecDepth 20000 in
theorem ggX7_of_X1_quarrelBits : GoodIn wsX7_of wsX1_quarrelBits := goodIn_r _ [25, 26, 27, 28, 29, 11, 30, 44, 45, 46, 47, 48, 49, 50, 51, 52, 53, 54, 55, 56, 57, 58, 59, 60, 61] (by decide +kernel) (by decide +kernel)
set_option maxRecDepth 20000 in
theorem gX7_of_X1_quarrelBits : GoodIn wsX7_of (wsV RX7 124 RX1 yX1_quarrelBits wsX1_quarrelBits) := goodIn_app (goodIn_of _ (by decide +kernel)) ggX7_of_X1_quarrelBits
theorem dX7_of_124 : decode cX7_of 124 = .ok (.invokevirtual 124, 3) := by decide +kernel
set_option maxRecDepth 20000 in
theorem ggX7_of_J6_bitCount_0f7a4 : GoodIn wsX7_of wsJ6_bitCount_0f7a4 := goodIn_r _ [35, 36, 37, 38] (by decide +kernel) (by decide +kernel)
set_option maxRecDepth 20000 in
theorem gX7_of_J6_bitCount_0f7a4 : GoodIn wsX7_of (va_wsS RX7 127 yJ6_bitCount_0f7a4 wsJ6_bitCount_0f7a4) := goodIn_app (goodIn_of _ (by decide +kernel)) ggX7_of_J6_bitCount_0f7a4
theorem dX7_of_127 : decode cX7_of 127 = .ok (.invokestatic 127, 3) := by decide +kernel
theorem dX7_of_130 : decode cX7_of 130 = .ok (.ireturn, 1) := by decide +kernel
theorem dX7_of_131 : decode cX7_of 131 = .ok (.aload_n 3, 1) := by decide +kernel
theorem dX7_of_132 : decode cX7_of 132 = .ok (.getfield 102, 3) := by decide +kernel
theorem dX7_of_135 : decode cX7_of 135 = .ok (.ireturn, 1) := by decide +kernel
theorem dX7_of_8 : decode cX7_of 8 = .ok (.iconst (-1), 1) := by decide +kernel
theorem dX7_of_9 : decode cX7_of 9 = .ok (.ireturn, 1) := by decide +kernel
theorem dX7_many_0 : decode cX7_many 0 = .ok (.iload_n 1, 1) := by decide +kernel
theorem dX7_many_1 : decode cX7_many 1 = .ok (.tableswitch 152 0 10 #[59, 67, 75, 83, 92, 101, 109, 117, 125, 134, 143], 59) := by decide +kernel
theorem dX7_many_153 : decode cX7_many 153 = .ok (.iconst (-1), 1) := by decide +kernel
theorem dX7_many_154 : decode cX7_many 154 = .ok (.ireturn, 1) := by decide +kernel
theorem dX7_many_60 : decode cX7_many 60 = .ok (.aload_n 0, 1) := by decide +kernel
theorem dX7_many_61 : decode cX7_many 61 = .ok (.getfield 12, 3) := by decide +kernel
theorem dX7_many_64 : decode cX7_many 64 = .ok (.getfield 41, 3) := by decide +kernel
theorem dX7_many_67 : decode cX7_many 67 = .ok (.ireturn, 1) := by decide +kernel
theorem dX7_many_68 : decode cX7_many 68 = .ok (.aload_n 0, 1) := by decide +kernel
theorem dX7_many_69 : decode cX7_many 69 = .ok (.getfield 12, 3) := by decide +kernel
theorem dX7_many_72 : decode cX7_many 72 = .ok (.getfield 56, 3) := by decide +kernel
theorem dX7_many_75 : decode cX7_many 75 = .ok (.ireturn, 1) := by decide +kernel
theorem dX7_many_76 : decode cX7_many 76 = .ok (.aload_n 0, 1) := by decide +kernel
theorem dX7_many_77 : decode cX7_many 77 = .ok (.getfield 12, 3) := by decide +kernel
theorem dX7_many_80 : decode cX7_many 80 = .ok (.getfield 83, 3) := by decide +kernel
theorem dX7_many_83 : decode cX7_many 83 = .ok (.ireturn, 1) := by decide +kernel
theorem dX7_many_84 : decode cX7_many 84 = .ok (.aload_n 0, 1) := by decide +kernel
theorem dX7_many_85 : decode cX7_many 85 = .ok (.getfield 12, 3) := by decide +kernel
theorem dX7_many_88 : decode cX7_many 88 = .ok (.iconst 0, 1) := by decide +kernel
set_option maxRecDepth 20000 in
theorem ggX7_many_X1_countState : GoodIn wsX7_many wsX1_countState := goodIn_r _ [10, 11, 12, 13, 56, 57, 58, 59, 60, 61, 62, 63, 64, 65, 66, 67, 68, 69, 70, 71, 72, 73] (by decide +kernel) (by decide +kernel)
set_option maxRecDepth 20000 in
theorem gX7_many_X1_countState : GoodIn wsX7_many (wsV RX7 214 RX1 yX1_countState wsX1_countState) := goodIn_app (goodIn_of _ (by decide +kernel)) ggX7_many_X1_countState
theorem dX7_many_89 : decode cX7_many 89 = .ok (.invokevirtual 214, 3) := by decide +kernel
theorem dX7_many_92 : decode cX7_many 92 = .ok (.ireturn, 1) := by decide +kernel
theorem dX7_many_93 : decode cX7_many 93 = .ok (.aload_n 0, 1) := by decide +kernel
theorem dX7_many_94 : decode cX7_many 94 = .ok (.getfield 12, 3) := by decide +kernel
theorem dX7_many_97 : decode cX7_many 97 = .ok (.iconst 1, 1) := by decide +kernel
theorem dX7_many_98 : decode cX7_many 98 = .ok (.invokevirtual 214, 3) := by decide +kernel
theorem dX7_many_101 : decode cX7_many 101 = .ok (.ireturn, 1) := by decide +kernel
theorem dX7_many_102 : decode cX7_many 102 = .ok (.aload_n 0, 1) := by decide +kernel
theorem dX7_many_103 : decode cX7_many 103 = .ok (.getfield 12, 3) := by decide +kernel
theorem dX7_many_106 : decode cX7_many 106 = .ok (.getfield 108, 3) := by decide +kernel
theorem dX7_many_109 : decode cX7_many 109 = .ok (.ireturn, 1) := by decide +kernel
theorem dX7_many_110 : decode cX7_many 110 = .ok (.aload_n 0, 1) := by decide +kernel
theorem dX7_many_111 : decode cX7_many 111 = .ok (.getfield 12, 3) := by decide +kernel
set_option maxRecDepth 20000 in
theorem ggX7_many_X1_countQuarrels : GoodIn wsX7_many wsX1_countQuarrels := goodIn_r _ [17, 11, 18, 19, 20, 9, 21, 22, 23, 24, 25, 12, 26, 27, 28, 29, 56, 57, 58, 59, 60, 61, 62, 63, 64, 65, 66, 67, 68, 69, 70, 71, 72, 73] (by decide +kernel) (by decide +kernel)
set_option maxRecDepth 20000 in
theorem gX7_many_X1_countQuarrels : GoodIn wsX7_many (wsV RX7 217 RX1 yX1_countQuarrels wsX1_countQuarrels) := goodIn_app (goodIn_of _ (by decide +kernel)) ggX7_many_X1_countQuarrels
theorem dX7_many_114 : decode cX7_many 114 = .ok (.invokevirtual 217, 3) := by decide +kernel
theorem dX7_many_117 : decode cX7_many 117 = .ok (.ireturn, 1) := by decide +kernel
theorem dX7_many_118 : decode cX7_many 118 = .ok (.aload_n 0, 1) := by decide +kernel
theorem dX7_many_119 : decode cX7_many 119 = .ok (.getfield 12, 3) := by decide +kernel
set_option maxRecDepth 20000 in
theorem ggX7_many_X1_countTerms : GoodIn wsX7_many wsX1_countTerms := goodIn_r _ [33, 11, 12, 34, 56, 57, 58, 59, 60, 61, 62, 63, 64, 65, 66, 67, 68, 69, 70, 71, 72, 73] (by decide +kernel) (by decide +kernel)
set_option maxRecDepth 20000 in
theorem gX7_many_X1_countTerms : GoodIn wsX7_many (wsV RX7 221 RX1 yX1_countTerms wsX1_countTerms) := goodIn_app (goodIn_of _ (by decide +kernel)) ggX7_many_X1_countTerms
theorem dX7_many_122 : decode cX7_many 122 = .ok (.invokevirtual 221, 3) := by decide +kernel
theorem dX7_many_125 : decode cX7_many 125 = .ok (.ireturn, 1) := by decide +kernel
theorem dX7_many_126 : decode cX7_many 126 = .ok (.aload_n 0, 1) := by decide +kernel
theorem dX7_many_127 : decode cX7_many 127 = .ok (.getfield 12, 3) := by decide +kernel
theorem dX7_many_130 : decode cX7_many 130 = .ok (.iconst 1, 1) := by decide +kernel
set_option maxRecDepth 20000 in
theorem ggX7_many_X1_countJudged : GoodIn wsX7_many wsX1_countJudged := goodIn_r _ [38, 11, 12, 34, 39, 40, 41, 42, 43, 44, 45, 46, 47, 48, 49, 50, 56, 57, 58, 59, 60, 61, 62, 63, 64, 65, 66, 67, 68, 69, 70, 71, 72, 73, 74, 75, 76, 77, 78] (by decide +kernel) (by decide +kernel)
set_option maxRecDepth 20000 in
theorem gX7_many_X1_countJudged : GoodIn wsX7_many (wsV RX7 224 RX1 yX1_countJudged wsX1_countJudged) := goodIn_app (goodIn_of _ (by decide +kernel)) ggX7_many_X1_countJudged
theorem dX7_many_131 : decode cX7_many 131 = .ok (.invokevirtual 224, 3) := by decide +kernel
theorem dX7_many_134 : decode cX7_many 134 = .ok (.ireturn, 1) := by decide +kernel
theorem dX7_many_135 : decode cX7_many 135 = .ok (.aload_n 0, 1) := by decide +kernel
theorem dX7_many_136 : decode cX7_many 136 = .ok (.getfield 12, 3) := by decide +kernel
theorem dX7_many_139 : decode cX7_many 139 = .ok (.iconst 0, 1) := by decide +kernel
theorem dX7_many_140 : decode cX7_many 140 = .ok (.invokevirtual 224, 3) := by decide +kernel
theorem dX7_many_143 : decode cX7_many 143 = .ok (.ireturn, 1) := by decide +kernel
theorem dX7_many_144 : decode cX7_many 144 = .ok (.aload_n 0, 1) := by decide +kernel
theorem dX7_many_145 : decode cX7_many 145 = .ok (.getfield 12, 3) := by decide +kernel
theorem dX7_many_148 : decode cX7_many 148 = .ok (.iconst 2, 1) := by decide +kernel
theorem dX7_many_149 : decode cX7_many 149 = .ok (.invokevirtual 224, 3) := by decide +kernel
theorem dX7_many_152 : decode cX7_many 152 = .ok (.ireturn, 1) := by decide +kernel
set_option maxHeartbeats 4000000 in
set_option maxRecDepth 100000 in
theorem g_X7_offer (l : Launch) (dC : Nat → ClassId) (dI : Nat → Nat → Nat) (cy : Nat → ClassId) (sz : Nat) (ad : Nat → Nat) (kv : Value) (N : Nat) (hN : 119 ≤ N) (v : Nat → Nat → Int32) (hv : Iv v)  (x0 x1 x2 : Int32) : Met l yX7_offer wsX7_offer ({ frames := 2, cells := 0, slots := 0, locals := 128 }) (va_Pc [.ref (ad 0), .int x0, .int x1, .int x2] (ex_Pre dC dI cy sz (wl ad kv cy N v))) (va_Qi (fun (r : Int32) (u : Nat → Nat → Int32) => Iv u ∧ Fr v u) (fun u t => ex_Pst dC dI (va_A (wl ad kv cy N v) sz) (wl ad kv cy N u) t) (va_A (wl ad kv cy N v) sz)) 0 0 (va_A (wl ad kv cy N v) sz) := by
  refine Met.ofW (cc := cX7_offer) (maxL := 5) (ret := (some .int)) (by decide) rfl ?_
  intro p e s m args below meth c s₁ B hml hv
  obtain ⟨rfl, hsz, hE, hP, hK, hD0⟩ := hv
  have hx := B.exec
  have hb := B.bytes
  have hr := B.returns
  have hts := atoms_spec (ws := wsX7_offer) B.pre
  have hown : s.vm.findClass RX7 = some m.cls := findClass_of_methodNamed B.named
  have hlocks := B.notSynchronized
  subst hsz
  have hD := hD0.self (sz := s.heap.size)
  generalize hAe : va_A (wl ad kv cy N v) s.heap.size = A at hD ⊢
  have hA : ∀ q : Nat, s.heap.size ≤ q → A q := fun q h => by rw [← hAe]; exact Or.inr h
  have hS : va_S A s.heap s.heap [] := va_S.rf
  have hP : va_P (dC, dI) vwCl (wl ad kv cy N v) s.heap := hP
  have hl := lv_entry ([.ref (ad 0), .int x0, .int x1, .int x2]) (n := 5) (Nat.le_of_ble_eq_true rfl)
  rw [lg_entry_eq]
  generalize (lg_sl ([.ref (ad 0), .int x0, .int x1, .int x2]) ++ List.replicate (5 - (lg_sl ([.ref (ad 0), .int x0, .int x1, .int x2])).length) Slot.unset).toArray = ls at hl ⊢
  have hl : lv_has ls 5 [(0, .ref (ad 0)), (1, .int x0), (2, .int x1), (3, .int x2)] := hl
  have hfr : Fr v v := Fr.rf
  refine lv_aload_n hx hb dX7_offer_0 rfl (lv_at hl 0 rfl) ?_
  refine lv_iload_n hx hb dX7_offer_1 rfl (lv_at hl 1 rfl) ?_
  refine yw_i (w1 := fun (u : Nat → Nat → Int32) => wl ad kv cy N u) hD hS hA (va_runV (As := [.int x0]) (rest := []) ⟨hx, hb, hml, hown, hts⟩ (g_X7_isCase l dC dI cy _ ad kv N hN v hv x0) (cwV 1 hts gX7_offer_X7_isCase rfl rfl rfl (by decide +kernel) ⟨Nat.le_of_ble_eq_true rfl, Nat.le_of_ble_eq_true rfl⟩) (yw_preV hE hK hP hD (ci := 7) (q0 := 0) rfl (wl_at (by omega) (ce_0 (by decide)))) rfl rfl hl.1 rfl (lv_room (Nat.le_of_ble_eq_true rfl)) dX7_offer_2 ⟨Nat.le_of_ble_eq_true rfl, Nat.le_of_ble_eq_true rfl⟩) (fun r_1 v_1 H locs hw_1 hP hD hS => ?_)
  obtain ⟨hv, hw_1⟩ := hw_1
  obtain ⟨hu_1, hw_1⟩ := hw_1
  have hfr : Fr v v_1 := by rw [hu_1]; exact hfr
  rcases hw_1 with ⟨rfl, ha_2⟩ | ⟨rfl, -⟩
  · have hb_2 := hv.at (k := 13) (j := 2) (K := 3) (by decide) rfl
    have hb_2 : 0 ≤ x0.toInt ∧ x0.toInt < 6 := by omega
    refine lv_if_eq (tgt := 25) hx hb dX7_offer_5 (by decide) (fun c9 => absurd c9 (by decide)) (fun _ => ?_)
    refine lv_iload_n hx hb dX7_offer_8 rfl (lv_at hl 2 rfl) ?_
    refine yc_p hP hS (va_runS (As := [.int x1]) (rest := []) ⟨hx, hb, hml, hown, hts⟩ (c_X7_isSide l x1) (cwS 1 hts gX7_offer_X7_isSide rfl rfl rfl (by decide +kernel) ⟨Nat.le_of_ble_eq_true rfl, Nat.le_of_ble_eq_true rfl⟩) ex_preP rfl rfl hl.1 rfl (lv_room (Nat.le_of_ble_eq_true rfl)) dX7_offer_9 ⟨Nat.le_of_ble_eq_true rfl, Nat.le_of_ble_eq_true rfl⟩) (fun r_3 H locs hw_3 hP hS => ?_)
    rcases wi_ca hw_3 with ⟨rfl, hc_4⟩ | ⟨rfl, hc_4⟩
    · have k_0 : (0 : Int32).toInt = 0 := by decide
      have k_1 : (1 : Int32).toInt = 1 := by decide
      have tc_4 := wi_tl hc_4
      refine lv_if_eq (tgt := 25) hx hb dX7_offer_12 (by decide) (fun c9 => absurd c9 (by decide)) (fun _ => ?_)
      refine lv_iload_n hx hb dX7_offer_15 rfl (lv_at hl 3 rfl) ?_
      refine lv_iconst (v := 0) hx hb dX7_offer_16 (by decide) ?_
      refine lv_bipush (v := 100) hx hb dX7_offer_17 (by decide) ?_
      refine yc_p hP hS (va_runS (As := [.int x2, .int 0, .int 100]) (rest := []) ⟨hx, hb, hml, hown, hts⟩ (c_X7_isWithin l x2 0 100) (cwS 3 hts gX7_offer_X7_isWithin rfl rfl rfl (by decide +kernel) ⟨Nat.le_of_ble_eq_true rfl, Nat.le_of_ble_eq_true rfl⟩) ex_preP rfl rfl hl.1 rfl (lv_room (Nat.le_of_ble_eq_true rfl)) dX7_offer_19 ⟨Nat.le_of_ble_eq_true rfl, Nat.le_of_ble_eq_true rfl⟩) (fun r_5 H locs hw_5 hP hS => ?_)
      rcases wi_ca hw_5 with ⟨rfl, hc_6⟩ | ⟨rfl, hc_6⟩
      · have k_100 : (100 : Int32).toInt = 100 := by decide
        have tc_6 := wi_tl hc_6
        refine lv_if_ne (tgt := 27) hx hb dX7_offer_22 (by decide) (fun _ => ?_) (fun c9 => absurd c9 (by decide))
        refine lv_aload_n hx hb dX7_offer_27 rfl (lv_at hl 0 rfl) ?_
        refine va_get (D := (dC, dI)) (ci := 7) (v := .ref (ad 13)) (C := RX7) (T := TX7) (N := 5) hx hb hts (by decide +kernel) hown hK hP (0) (wl_at (by omega) (ce_0 (by decide))) rfl 0 (by decide) (hts (.fieldLink RX7 12 "QuietStairs" "now" "LQuietStairs$House;") (by decide +kernel)) (fun _ h9 => h9) rfl dX7_offer_28 ?_
        refine va_get (D := (dC, dI)) (ci := 1) (v := .ref (ad 16)) (C := RX1) (T := TX1) (N := 7) hx hb hts (by decide +kernel) hown hK hP (13) (wl_at (by omega) (ce_3 (by decide))) rfl 6 (by decide) (hts (.fieldLink RX7 86 "QuietStairs$House" "cases" "[LQuietStairs$Case;") (by decide +kernel)) (fun _ h9 => h9) rfl dX7_offer_31 ?_
        refine lv_iload_n hx hb dX7_offer_34 rfl (lv_at hl 1 rfl) ?_
        obtain ⟨pi7, i7, hi7, ni7, mi7⟩ := t_in (x := x0) (n := 6) ⟨by omega, by omega⟩
        refine va_aldq hx hb hK hP (16) 3 (wl_at (by omega) (ce_6 (by decide))) rfl pi7 dX7_offer_35 ?_
        refine W.eq (g2 := F0 m 36 ls [.ref (ad (29 + 15 * i7))]) (by rw [ni7, if_pos hi7, show 16 + 13 + 15 * i7 = 29 + 15 * i7 from by omega]; rfl) ?_
        refine lv_astore (lv' := [(4, .ref (ad (29 + 15 * i7))), (0, .ref (ad 0)), (1, .int x0), (2, .int x1), (3, .int x2)]) hx hb dX7_offer_36 hl (by decide) rfl (fun ls hl => ?_)
        refine lv_aload hx hb dX7_offer_38 (lv_at hl 0 rfl) ?_
        refine va_get (D := (dC, dI)) (ci := 0) (v := .int (v_1 (29 + 15 * i7) 0)) (C := RX0) (T := TX0) (N := 11) hx hb hts (by decide +kernel) hown hK hP (29 + 15 * i7) (wl_at (by omega) (ce_9 (kd_c i7 hi7).1.1)) rfl 0 (by decide) (hts (.fieldLink RX7 99 "QuietStairs$Case" "state" "I") (by decide +kernel)) (fun _ h9 => h9) rfl dX7_offer_40 ?_
        refine lv_topi (fun x_8 ex_8 => ?_)
        refine lv_if_eq (tgt := 49) hx hb dX7_offer_43 (by decide) (fun c_9 => ?_) (fun c_9 => ?_)
        · have tc_9 : x_8.toInt = (0 : Int32).toInt := by rw [c_9]
          refine lv_aload hx hb dX7_offer_49 (lv_at hl 0 rfl) ?_
          refine va_get (D := (dC, dI)) (ci := 0) (v := .ref (ad (29 + 15 * i7 + 2))) (C := RX0) (T := TX0) (N := 11) hx hb hts (by decide +kernel) hown hK hP (29 + 15 * i7) (wl_at (by omega) (ce_9 (kd_c i7 hi7).1.1)) rfl 7 (by decide) (hts (.fieldLink RX7 135 "QuietStairs$Case" "box" "[I") (by decide +kernel)) (fun _ h9 => h9) rfl dX7_offer_51 ?_
          refine W.eq (g2 := F0 m 54 ls [.ref (ad (31 + 15 * i7))]) (by rw [show 29 + 15 * i7 + 2 = 31 + 15 * i7 from by omega]) ?_
          refine lv_iload_n hx hb dX7_offer_54 rfl (lv_at hl 3 rfl) ?_
          obtain ⟨pi10, i10, hi10, ni10, mi10⟩ := t_in (x := x1) (n := 2) ⟨by omega, by omega⟩
          refine va_iald hx hb hK hP (31 + 15 * i7) 0 (wl_at (by omega) (ce_20 (kd_c i7 hi7).1.2.2.1)) rfl pi10 dX7_offer_55 ?_
          refine lv_topi (fun x_11 ex_11 => ?_)
          refine lv_iconst (v := (-1)) hx hb dX7_offer_56 (by decide) ?_
          have k_m1 : ((-1) : Int32).toInt = -1 := by decide
          refine lv_icmp_eq (tgt := 63) hx hb dX7_offer_57 (by decide) (fun c_12 => ?_) (fun c_12 => ?_)
          · have tc_12 : x_11.toInt = ((-1) : Int32).toInt := by rw [c_12]
            refine lv_aload hx hb dX7_offer_63 (lv_at hl 0 rfl) ?_
            refine va_get (D := (dC, dI)) (ci := 0) (v := .int (v_1 (29 + 15 * i7) 2)) (C := RX0) (T := TX0) (N := 11) hx hb hts (by decide +kernel) hown hK hP (29 + 15 * i7) (wl_at (by omega) (ce_9 (kd_c i7 hi7).1.1)) rfl 2 (by decide) (hts (.fieldLink RX7 117 "QuietStairs$Case" "roundsOver" "I") (by decide +kernel)) (fun _ h9 => h9) rfl dX7_offer_65 ?_
            refine lv_topi (fun x_13 ex_13 => ?_)
            have bx_13 : 0 ≤ x_13.toInt ∧ x_13.toInt ≤ 5 := by rw [ex_13]; exact hv.at (K := 9) (kd_c i7 hi7).1.1 rfl
            refine lv_iconst (v := 5) hx hb dX7_offer_68 (by decide) ?_
            have k_5 : (5 : Int32).toInt = 5 := by decide
            refine lv_icmp_lt (tgt := 75) hx hb dX7_offer_69 (by decide) (fun c_14 => ?_) (fun c_14 => ?_)
            · have tc_14 : x_13.toInt < (5 : Int32).toInt := Int32.lt_iff_toInt_lt.mp c_14
              refine lv_aload hx hb dX7_offer_75 (lv_at hl 0 rfl) ?_
              refine va_get (D := (dC, dI)) (ci := 0) (v := .ref (ad (29 + 15 * i7 + 2))) (C := RX0) (T := TX0) (N := 11) hx hb hts (by decide +kernel) hown hK hP (29 + 15 * i7) (wl_at (by omega) (ce_9 (kd_c i7 hi7).1.1)) rfl 7 (by decide) (hts (.fieldLink RX7 135 "QuietStairs$Case" "box" "[I") (by decide +kernel)) (fun _ h9 => h9) rfl dX7_offer_77 ?_
              refine W.eq (g2 := F0 m 80 ls [.ref (ad (31 + 15 * i7))]) (by rw [show 29 + 15 * i7 + 2 = 31 + 15 * i7 from by omega]) ?_
              refine lv_iload_n hx hb dX7_offer_80 rfl (lv_at hl 3 rfl) ?_
              refine lv_iload_n hx hb dX7_offer_81 rfl (lv_at hl 4 rfl) ?_
              refine va_iast hx hb hK hP hD hS (31 + 15 * i7) 0 (wl_at (by omega) (ce_20 (kd_c i7 hi7).1.2.2.1)) rfl pi10 dX7_offer_82 (fun H locs hP hD hS => ?_)
              obtain ⟨v_15, ev_15⟩ : ∃ u : Nat → Nat → Int32, u = upr v_1 (31 + 15 * i7) (upd (v_1 (31 + 15 * i7)) (x1.toNatClampNeg) x2) := ⟨_, rfl⟩
              have hP : va_P (dC, dI) vwCl (wl ad kv cy N v_15) H := by rw [ev_15, ← wl_put (e := _) (ce_20 (kd_c i7 hi7).1.2.2.1)]; exact hP
              have hD : va_D A (wl ad kv cy N v_15) := by rw [ev_15, ← wl_put (e := _) (ce_20 (kd_c i7 hi7).1.2.2.1)]; exact hD
              have hv : Iv v_15 := by rw [ev_15]; exact hv.put (K := 20) (kd_c i7 hi7).1.2.2.1 (fun h q => by simp [bd] at q)
              have hfr : Fr v v_15 := by rw [ev_15]; exact hfr.put (by omega) (by omega) (by omega)
              refine lv_aload hx hb dX7_offer_83 (lv_at hl 0 rfl) ?_
              refine va_get (D := (dC, dI)) (ci := 0) (v := .ref (ad (29 + 15 * i7 + 2))) (C := RX0) (T := TX0) (N := 11) hx hb hts (by decide +kernel) hown hK hP (29 + 15 * i7) (wl_at (by omega) (ce_9 (kd_c i7 hi7).1.1)) rfl 7 (by decide) (hts (.fieldLink RX7 135 "QuietStairs$Case" "box" "[I") (by decide +kernel)) (fun _ h9 => h9) rfl dX7_offer_85 ?_
              refine W.eq (g2 := F0 m 88 ls [.ref (ad (31 + 15 * i7))]) (by rw [show 29 + 15 * i7 + 2 = 31 + 15 * i7 from by omega]) ?_
              refine lv_iconst (v := 1) hx hb dX7_offer_88 (by decide) ?_
              refine lv_iload_n hx hb dX7_offer_89 rfl (lv_at hl 3 rfl) ?_
              refine lv_isub hx hb dX7_offer_90 ?_
              refine lv_topi (fun x_16 ex_16 => ?_)
              have tx_16 : x_16.toInt = (1 : Int32).toInt - x1.toInt := by rw [ex_16]; exact t_sub ⟨by omega, by omega⟩
              obtain ⟨pi17, i17, hi17, ni17, mi17⟩ := t_in (x := x_16) (n := 2) ⟨by omega, by omega⟩
              refine va_iald hx hb hK hP (31 + 15 * i7) 0 (wl_at (by omega) (ce_20 (kd_c i7 hi7).1.2.2.1)) rfl pi17 dX7_offer_91 ?_
              refine lv_topi (fun x_18 ex_18 => ?_)
              refine lv_iconst (v := (-1)) hx hb dX7_offer_92 (by decide) ?_
              refine lv_icmp_ne (tgt := 98) hx hb dX7_offer_93 (by decide) (fun c_19 => ?_) (fun c_19 => ?_)
              · have tc_19 : x_18.toInt ≠ ((-1) : Int32).toInt := fun q => absurd (Int32.toInt_inj.mp q) c_19
                refine lv_aload hx hb dX7_offer_98 (lv_at hl 0 rfl) ?_
                refine yw_i (w1 := fun (u : Nat → Nat → Int32) => wl ad kv cy N u) hD hS hA (va_runV (As := []) (rest := []) ⟨hx, hb, hml, hown, hts⟩ (g_X0_endRound l dC dI cy _ ad kv N hN v_15 hv i7 hi7) (cwV 0 hts gX7_offer_X0_endRound rfl rfl rfl (by decide +kernel) ⟨Nat.le_of_ble_eq_true rfl, Nat.le_of_ble_eq_true rfl⟩) (yw_preV hE hK hP hD (ci := 0) (q0 := (29 + 15 * i7)) rfl (wl_at (by omega) (ce_9 (kd_c i7 hi7).1.1))) rfl rfl hl.1 rfl (lv_room (Nat.le_of_ble_eq_true rfl)) dX7_offer_100 ⟨Nat.le_of_ble_eq_true rfl, Nat.le_of_ble_eq_true rfl⟩) (fun r_20 v_20 H locs hw_20 hP hD hS => ?_)
                obtain ⟨hv, hw_20⟩ := hw_20
                have hfr : Fr v v_20 := hfr.trans hw_20.1
                refine lv_if_eq (tgt := 110) hx hb dX7_offer_103 (by decide) (fun c_21 => ?_) (fun c_21 => ?_)
                · have tc_21 : r_20.toInt = (0 : Int32).toInt := by rw [c_21]
                  refine lv_iconst (v := 2) hx hb dX7_offer_110 (by decide) ?_
                  exact W.iret (v := 2) hx hb hr (fun t ht hW => ⟨⟨2, v_20, rfl, ⟨hv, hfr⟩, by rw [ht]; exact hP, hD⟩, hS.F ht⟩) hS.2.2 dX7_offer_111
                · have tc_21 : r_20.toInt ≠ (0 : Int32).toInt := fun q => absurd (Int32.toInt_inj.mp q) c_21
                  refine lv_iconst (v := 1) hx hb dX7_offer_106 (by decide) ?_
                  refine lv_goto (tgt := 111) hx hb dX7_offer_107 (by decide) ?_
                  exact W.iret (v := 1) hx hb hr (fun t ht hW => ⟨⟨1, v_20, rfl, ⟨hv, hfr⟩, by rw [ht]; exact hP, hD⟩, hS.F ht⟩) hS.2.2 dX7_offer_111
              · have tc_19 : x_18.toInt = ((-1) : Int32).toInt := by rw [c_19]
                refine lv_iconst (v := 0) hx hb dX7_offer_96 (by decide) ?_
                exact W.iret (v := 0) hx hb hr (fun t ht hW => ⟨⟨0, v_15, rfl, ⟨hv, hfr⟩, by rw [ht]; exact hP, hD⟩, hS.F ht⟩) hS.2.2 dX7_offer_97
            · have tc_14 : x_13.toInt ≥ (5 : Int32).toInt := Int32.le_iff_toInt_le.mp (Int32.not_lt.mp c_14)
              refine lv_bipush (v := (-2)) hx hb dX7_offer_72 (by decide) ?_
              exact W.iret (v := (-2)) hx hb hr (fun t ht hW => ⟨⟨(-2), v_1, rfl, ⟨hv, hfr⟩, by rw [ht]; exact hP, hD⟩, hS.F ht⟩) hS.2.2 dX7_offer_74
          · have tc_12 : x_11.toInt ≠ ((-1) : Int32).toInt := fun q => absurd (Int32.toInt_inj.mp q) c_12
            refine lv_bipush (v := (-3)) hx hb dX7_offer_60 (by decide) ?_
            exact W.iret (v := (-3)) hx hb hr (fun t ht hW => ⟨⟨(-3), v_1, rfl, ⟨hv, hfr⟩, by rw [ht]; exact hP, hD⟩, hS.F ht⟩) hS.2.2 dX7_offer_62
        · have tc_9 : x_8.toInt ≠ (0 : Int32).toInt := fun q => absurd (Int32.toInt_inj.mp q) c_9
          refine lv_bipush (v := (-4)) hx hb dX7_offer_46 (by decide) ?_
          exact W.iret (v := (-4)) hx hb hr (fun t ht hW => ⟨⟨(-4), v_1, rfl, ⟨hv, hfr⟩, by rw [ht]; exact hP, hD⟩, hS.F ht⟩) hS.2.2 dX7_offer_48
      · refine lv_if_ne (tgt := 27) hx hb dX7_offer_22 (by decide) (fun c9 => absurd c9 (by decide)) (fun _ => ?_)
        refine lv_iconst (v := (-1)) hx hb dX7_offer_25 (by decide) ?_
        exact W.iret (v := (-1)) hx hb hr (fun t ht hW => ⟨⟨(-1), v_1, rfl, ⟨hv, hfr⟩, by rw [ht]; exact hP, hD⟩, hS.F ht⟩) hS.2.2 dX7_offer_26
    · refine lv_if_eq (tgt := 25) hx hb dX7_offer_12 (by decide) (fun _ => ?_) (fun c9 => absurd c9 (by decide))
      refine lv_iconst (v := (-1)) hx hb dX7_offer_25 (by decide) ?_
      exact W.iret (v := (-1)) hx hb hr (fun t ht hW => ⟨⟨(-1), v_1, rfl, ⟨hv, hfr⟩, by rw [ht]; exact hP, hD⟩, hS.F ht⟩) hS.2.2 dX7_offer_26
  · refine lv_if_eq (tgt := 25) hx hb dX7_offer_5 (by decide) (fun _ => ?_) (fun c9 => absurd c9 (by decide))
    refine lv_iconst (v := (-1)) hx hb dX7_offer_25 (by decide) ?_
    exact W.iret (v := (-1)) hx hb hr (fun t ht hW => ⟨⟨(-1), v_1, rfl, ⟨hv, hfr⟩, by rw [ht]; exact hP, hD⟩, hS.F ht⟩) hS.2.2 dX7_offer_26

set_option maxHeartbeats 4000000 in
set_option maxRecDepth 100000 in
theorem g_X7_learns (l : Launch) (dC : Nat → ClassId) (dI : Nat → Nat → Nat) (cy : Nat → ClassId) (sz : Nat) (ad : Nat → Nat) (kv : Value) (N : Nat) (hN : 119 ≤ N) (v : Nat → Nat → Int32) (hv : Iv v)  (x0 x1 x2 x3 : Int32) : Met l yX7_learns wsX7_learns ({ frames := 3, cells := 0, slots := 0, locals := 192 }) (va_Pc [.ref (ad 0), .int x0, .int x1, .int x2, .int x3] (ex_Pre dC dI cy sz (wl ad kv cy N v))) (va_Qi (fun (r : Int32) (u : Nat → Nat → Int32) => Iv u ∧ Fr v u) (fun u t => ex_Pst dC dI (va_A (wl ad kv cy N v) sz) (wl ad kv cy N u) t) (va_A (wl ad kv cy N v) sz)) 0 0 (va_A (wl ad kv cy N v) sz) := by
  refine Met.ofW (cc := cX7_learns) (maxL := 6) (ret := (some .int)) (by decide) rfl ?_
  intro p e s m args below meth c s₁ B hml hv
  obtain ⟨rfl, hsz, hE, hP, hK, hD0⟩ := hv
  have hx := B.exec
  have hb := B.bytes
  have hr := B.returns
  have hts := atoms_spec (ws := wsX7_learns) B.pre
  have hown : s.vm.findClass RX7 = some m.cls := findClass_of_methodNamed B.named
  have hlocks := B.notSynchronized
  subst hsz
  have hD := hD0.self (sz := s.heap.size)
  generalize hAe : va_A (wl ad kv cy N v) s.heap.size = A at hD ⊢
  have hA : ∀ q : Nat, s.heap.size ≤ q → A q := fun q h => by rw [← hAe]; exact Or.inr h
  have hS : va_S A s.heap s.heap [] := va_S.rf
  have hP : va_P (dC, dI) vwCl (wl ad kv cy N v) s.heap := hP
  have hl := lv_entry ([.ref (ad 0), .int x0, .int x1, .int x2, .int x3]) (n := 6) (Nat.le_of_ble_eq_true rfl)
  rw [lg_entry_eq]
  generalize (lg_sl ([.ref (ad 0), .int x0, .int x1, .int x2, .int x3]) ++ List.replicate (6 - (lg_sl ([.ref (ad 0), .int x0, .int x1, .int x2, .int x3])).length) Slot.unset).toArray = ls at hl ⊢
  have hl : lv_has ls 6 [(0, .ref (ad 0)), (1, .int x0), (2, .int x1), (3, .int x2), (4, .int x3)] := hl
  have hfr : Fr v v := Fr.rf
  refine lv_aload_n hx hb dX7_learns_0 rfl (lv_at hl 0 rfl) ?_
  refine lv_iload_n hx hb dX7_learns_1 rfl (lv_at hl 1 rfl) ?_
  refine yw_i (w1 := fun (u : Nat → Nat → Int32) => wl ad kv cy N u) hD hS hA (va_runV (As := [.int x0]) (rest := []) ⟨hx, hb, hml, hown, hts⟩ (g_X7_isCase l dC dI cy _ ad kv N hN v hv x0) (cwV 1 hts gX7_learns_X7_isCase rfl rfl rfl (by decide +kernel) ⟨Nat.le_of_ble_eq_true rfl, Nat.le_of_ble_eq_true rfl⟩) (yw_preV hE hK hP hD (ci := 7) (q0 := 0) rfl (wl_at (by omega) (ce_0 (by decide)))) rfl rfl hl.1 rfl (lv_room (Nat.le_of_ble_eq_true rfl)) dX7_learns_2 ⟨Nat.le_of_ble_eq_true rfl, Nat.le_of_ble_eq_true rfl⟩) (fun r_1 v_1 H locs hw_1 hP hD hS => ?_)
  obtain ⟨hv, hw_1⟩ := hw_1
  obtain ⟨hu_1, hw_1⟩ := hw_1
  have hfr : Fr v v_1 := by rw [hu_1]; exact hfr
  rcases hw_1 with ⟨rfl, ha_2⟩ | ⟨rfl, -⟩
  · have hb_2 := hv.at (k := 13) (j := 2) (K := 3) (by decide) rfl
    have hb_2 : 0 ≤ x0.toInt ∧ x0.toInt < 6 := by omega
    refine lv_if_eq (tgt := 15) hx hb dX7_learns_5 (by decide) (fun c9 => absurd c9 (by decide)) (fun _ => ?_)
    refine lv_iload_n hx hb dX7_learns_8 rfl (lv_at hl 2 rfl) ?_
    refine yc_p hP hS (va_runS (As := [.int x1]) (rest := []) ⟨hx, hb, hml, hown, hts⟩ (c_X7_isSide l x1) (cwS 1 hts gX7_learns_X7_isSide rfl rfl rfl (by decide +kernel) ⟨Nat.le_of_ble_eq_true rfl, Nat.le_of_ble_eq_true rfl⟩) ex_preP rfl rfl hl.1 rfl (lv_room (Nat.le_of_ble_eq_true rfl)) dX7_learns_9 ⟨Nat.le_of_ble_eq_true rfl, Nat.le_of_ble_eq_true rfl⟩) (fun r_3 H locs hw_3 hP hS => ?_)
    rcases wi_ca hw_3 with ⟨rfl, hc_4⟩ | ⟨rfl, hc_4⟩
    · have k_0 : (0 : Int32).toInt = 0 := by decide
      have k_1 : (1 : Int32).toInt = 1 := by decide
      have tc_4 := wi_tl hc_4
      refine lv_if_ne (tgt := 17) hx hb dX7_learns_12 (by decide) (fun _ => ?_) (fun c9 => absurd c9 (by decide))
      refine lv_aload_n hx hb dX7_learns_17 rfl (lv_at hl 0 rfl) ?_
      refine va_get (D := (dC, dI)) (ci := 7) (v := .ref (ad 13)) (C := RX7) (T := TX7) (N := 5) hx hb hts (by decide +kernel) hown hK hP (0) (wl_at (by omega) (ce_0 (by decide))) rfl 0 (by decide) (hts (.fieldLink RX7 12 "QuietStairs" "now" "LQuietStairs$House;") (by decide +kernel)) (fun _ h9 => h9) rfl dX7_learns_18 ?_
      refine va_get (D := (dC, dI)) (ci := 1) (v := .ref (ad 16)) (C := RX1) (T := TX1) (N := 7) hx hb hts (by decide +kernel) hown hK hP (13) (wl_at (by omega) (ce_3 (by decide))) rfl 6 (by decide) (hts (.fieldLink RX7 86 "QuietStairs$House" "cases" "[LQuietStairs$Case;") (by decide +kernel)) (fun _ h9 => h9) rfl dX7_learns_21 ?_
      refine lv_iload_n hx hb dX7_learns_24 rfl (lv_at hl 1 rfl) ?_
      obtain ⟨pi5, i5, hi5, ni5, mi5⟩ := t_in (x := x0) (n := 6) ⟨by omega, by omega⟩
      refine va_aldq hx hb hK hP (16) 3 (wl_at (by omega) (ce_6 (by decide))) rfl pi5 dX7_learns_25 ?_
      refine W.eq (g2 := F0 m 26 ls [.ref (ad (29 + 15 * i5))]) (by rw [ni5, if_pos hi5, show 16 + 13 + 15 * i5 = 29 + 15 * i5 from by omega]; rfl) ?_
      refine lv_astore (lv' := [(5, .ref (ad (29 + 15 * i5))), (0, .ref (ad 0)), (1, .int x0), (2, .int x1), (3, .int x2), (4, .int x3)]) hx hb dX7_learns_26 hl (by decide) rfl (fun ls hl => ?_)
      refine lv_iload_n hx hb dX7_learns_28 rfl (lv_at hl 4 rfl) ?_
      refine lv_iconst (v := 0) hx hb dX7_learns_29 (by decide) ?_
      refine lv_aload hx hb dX7_learns_30 (lv_at hl 0 rfl) ?_
      refine va_get (D := (dC, dI)) (ci := 0) (v := .int (v_1 (29 + 15 * i5) 2)) (C := RX0) (T := TX0) (N := 11) hx hb hts (by decide +kernel) hown hK hP (29 + 15 * i5) (wl_at (by omega) (ce_9 (kd_c i5 hi5).1.1)) rfl 2 (by decide) (hts (.fieldLink RX7 117 "QuietStairs$Case" "roundsOver" "I") (by decide +kernel)) (fun _ h9 => h9) rfl dX7_learns_32 ?_
      refine lv_topi (fun x_6 ex_6 => ?_)
      have bx_6 : 0 ≤ x_6.toInt ∧ x_6.toInt ≤ 5 := by rw [ex_6]; exact hv.at (K := 9) (kd_c i5 hi5).1.1 rfl
      refine lv_iconst (v := 1) hx hb dX7_learns_35 (by decide) ?_
      refine lv_isub hx hb dX7_learns_36 ?_
      refine lv_topi (fun x_7 ex_7 => ?_)
      have tx_7 : x_7.toInt = x_6.toInt - (1 : Int32).toInt := by rw [ex_7]; exact t_sub ⟨by omega, by omega⟩
      refine yc_p hP hS (va_runS (As := [.int x2, .int 0, .int x_7]) (rest := []) ⟨hx, hb, hml, hown, hts⟩ (c_X7_isWithin l x2 0 x_7) (cwS 3 hts gX7_learns_X7_isWithin rfl rfl rfl (by decide +kernel) ⟨Nat.le_of_ble_eq_true rfl, Nat.le_of_ble_eq_true rfl⟩) ex_preP rfl rfl hl.1 rfl (lv_room (Nat.le_of_ble_eq_true rfl)) dX7_learns_37 ⟨Nat.le_of_ble_eq_true rfl, Nat.le_of_ble_eq_true rfl⟩) (fun r_8 H locs hw_8 hP hS => ?_)
      rcases wi_ca hw_8 with ⟨rfl, hc_9⟩ | ⟨rfl, hc_9⟩
      · have tc_9 := wi_tl hc_9
        refine lv_if_ne (tgt := 46) hx hb dX7_learns_40 (by decide) (fun _ => ?_) (fun c9 => absurd c9 (by decide))
        refine lv_iload hx hb dX7_learns_46 (lv_at hl 5 rfl) ?_
        refine lv_if_eq (tgt := 61) hx hb dX7_learns_48 (by decide) (fun c_10 => ?_) (fun c_10 => ?_)
        · have tc_10 : x3.toInt = (0 : Int32).toInt := by rw [c_10]
          refine lv_aload hx hb dX7_learns_61 (lv_at hl 0 rfl) ?_
          refine lv_iload_n hx hb dX7_learns_63 rfl (lv_at hl 3 rfl) ?_
          refine lv_iload_n hx hb dX7_learns_64 rfl (lv_at hl 4 rfl) ?_
          refine yw_i (w1 := fun (u : Nat → Nat → Int32) => wl ad kv cy N u) hD hS hA (va_runV (As := [.int x1, .int x2]) (rest := []) ⟨hx, hb, hml, hown, hts⟩ (g_X0_leastOfOther l dC dI cy _ ad kv N hN v_1 hv i5 hi5 x1 x2 ⟨by omega, by omega⟩ ⟨by omega, by omega⟩) (cwV 2 hts gX7_learns_X0_leastOfOther rfl rfl rfl (by decide +kernel) ⟨Nat.le_of_ble_eq_true rfl, Nat.le_of_ble_eq_true rfl⟩) (yw_preV hE hK hP hD (ci := 0) (q0 := (29 + 15 * i5)) rfl (wl_at (by omega) (ce_9 (kd_c i5 hi5).1.1))) rfl rfl hl.1 rfl (lv_room (Nat.le_of_ble_eq_true rfl)) dX7_learns_65 ⟨Nat.le_of_ble_eq_true rfl, Nat.le_of_ble_eq_true rfl⟩) (fun r_11 v_11 H locs hw_11 hP hD hS => ?_)
          obtain ⟨hv, hw_11⟩ := hw_11
          have hfr : Fr v v_11 := hfr.trans hw_11
          exact W.iret (v := r_11) hx hb hr (fun t ht hW => ⟨⟨r_11, v_11, rfl, ⟨hv, hfr⟩, by rw [ht]; exact hP, hD⟩, hS.F ht⟩) hS.2.2 dX7_learns_68
        · have tc_10 : x3.toInt ≠ (0 : Int32).toInt := fun q => absurd (Int32.toInt_inj.mp q) c_10
          refine lv_aload hx hb dX7_learns_51 (lv_at hl 0 rfl) ?_
          refine lv_iload_n hx hb dX7_learns_53 rfl (lv_at hl 3 rfl) ?_
          refine lv_iload_n hx hb dX7_learns_54 rfl (lv_at hl 4 rfl) ?_
          refine yw_i (w1 := fun (u : Nat → Nat → Int32) => wl ad kv cy N u) hD hS hA (va_runV (As := [.int x1, .int x2]) (rest := []) ⟨hx, hb, hml, hown, hts⟩ (g_X0_greatestOfOther l dC dI cy _ ad kv N hN v_1 hv i5 hi5 x1 x2 ⟨by omega, by omega⟩ ⟨by omega, by omega⟩) (cwV 2 hts gX7_learns_X0_greatestOfOther rfl rfl rfl (by decide +kernel) ⟨Nat.le_of_ble_eq_true rfl, Nat.le_of_ble_eq_true rfl⟩) (yw_preV hE hK hP hD (ci := 0) (q0 := (29 + 15 * i5)) rfl (wl_at (by omega) (ce_9 (kd_c i5 hi5).1.1))) rfl rfl hl.1 rfl (lv_room (Nat.le_of_ble_eq_true rfl)) dX7_learns_55 ⟨Nat.le_of_ble_eq_true rfl, Nat.le_of_ble_eq_true rfl⟩) (fun r_11 v_11 H locs hw_11 hP hD hS => ?_)
          obtain ⟨hv, hw_11⟩ := hw_11
          have hfr : Fr v v_11 := hfr.trans hw_11
          refine lv_goto (tgt := 68) hx hb dX7_learns_58 (by decide) ?_
          exact W.iret (v := r_11) hx hb hr (fun t ht hW => ⟨⟨r_11, v_11, rfl, ⟨hv, hfr⟩, by rw [ht]; exact hP, hD⟩, hS.F ht⟩) hS.2.2 dX7_learns_68
      · refine lv_if_ne (tgt := 46) hx hb dX7_learns_40 (by decide) (fun c9 => absurd c9 (by decide)) (fun _ => ?_)
        refine lv_bipush (v := (-5)) hx hb dX7_learns_43 (by decide) ?_
        exact W.iret (v := (-5)) hx hb hr (fun t ht hW => ⟨⟨(-5), v_1, rfl, ⟨hv, hfr⟩, by rw [ht]; exact hP, hD⟩, hS.F ht⟩) hS.2.2 dX7_learns_45
    · refine lv_if_ne (tgt := 17) hx hb dX7_learns_12 (by decide) (fun c9 => absurd c9 (by decide)) (fun _ => ?_)
      refine lv_iconst (v := (-1)) hx hb dX7_learns_15 (by decide) ?_
      exact W.iret (v := (-1)) hx hb hr (fun t ht hW => ⟨⟨(-1), v_1, rfl, ⟨hv, hfr⟩, by rw [ht]; exact hP, hD⟩, hS.F ht⟩) hS.2.2 dX7_learns_16
  · refine lv_if_eq (tgt := 15) hx hb dX7_learns_5 (by decide) (fun _ => ?_) (fun c9 => absurd c9 (by decide))
    refine lv_iconst (v := (-1)) hx hb dX7_learns_15 (by decide) ?_
    exact W.iret (v := (-1)) hx hb hr (fun t ht hW => ⟨⟨(-1), v_1, rfl, ⟨hv, hfr⟩, by rw [ht]; exact hP, hD⟩, hS.F ht⟩) hS.2.2 dX7_learns_16

set_option maxHeartbeats 4000000 in
set_option maxRecDepth 100000 in
theorem g_X7_termOf (l : Launch) (dC : Nat → ClassId) (dI : Nat → Nat → Nat) (cy : Nat → ClassId) (sz : Nat) (ad : Nat → Nat) (kv : Value) (N : Nat) (hN : 119 ≤ N) (v : Nat → Nat → Int32) (hv : Iv v)  (x0 x1 x2 : Int32) : Met l yX7_termOf wsX7_termOf ({ frames := 3, cells := 0, slots := 0, locals := 192 }) (va_Pc [.ref (ad 0), .int x0, .int x1, .int x2] (ex_Pre dC dI cy sz (wl ad kv cy N v))) (va_Qi (fun (r : Int32) (u : Nat → Nat → Int32) => Iv u ∧ Fr v u) (fun u t => ex_Pst dC dI (va_A (wl ad kv cy N v) sz) (wl ad kv cy N u) t) (va_A (wl ad kv cy N v) sz)) 0 0 (va_A (wl ad kv cy N v) sz) := by
  refine Met.ofW (cc := cX7_termOf) (maxL := 5) (ret := (some .int)) (by decide) rfl ?_
  intro p e s m args below meth c s₁ B hml hv
  obtain ⟨rfl, hsz, hE, hP, hK, hD0⟩ := hv
  have hx := B.exec
  have hb := B.bytes
  have hr := B.returns
  have hts := atoms_spec (ws := wsX7_termOf) B.pre
  have hown : s.vm.findClass RX7 = some m.cls := findClass_of_methodNamed B.named
  have hlocks := B.notSynchronized
  subst hsz
  have hD := hD0.self (sz := s.heap.size)
  generalize hAe : va_A (wl ad kv cy N v) s.heap.size = A at hD ⊢
  have hA : ∀ q : Nat, s.heap.size ≤ q → A q := fun q h => by rw [← hAe]; exact Or.inr h
  have hS : va_S A s.heap s.heap [] := va_S.rf
  have hP : va_P (dC, dI) vwCl (wl ad kv cy N v) s.heap := hP
  have hl := lv_entry ([.ref (ad 0), .int x0, .int x1, .int x2]) (n := 5) (Nat.le_of_ble_eq_true rfl)
  rw [lg_entry_eq]
  generalize (lg_sl ([.ref (ad 0), .int x0, .int x1, .int x2]) ++ List.replicate (5 - (lg_sl ([.ref (ad 0), .int x0, .int x1, .int x2])).length) Slot.unset).toArray = ls at hl ⊢
  have hl : lv_has ls 5 [(0, .ref (ad 0)), (1, .int x0), (2, .int x1), (3, .int x2)] := hl
  have hfr : Fr v v := Fr.rf
  refine lv_aload_n hx hb dX7_termOf_0 rfl (lv_at hl 0 rfl) ?_
  refine lv_iload_n hx hb dX7_termOf_1 rfl (lv_at hl 1 rfl) ?_
  refine lv_iload_n hx hb dX7_termOf_2 rfl (lv_at hl 2 rfl) ?_
  refine yw_i (w1 := fun (u : Nat → Nat → Int32) => wl ad kv cy N u) hD hS hA (va_runV (As := [.int x0, .int x1]) (rest := []) ⟨hx, hb, hml, hown, hts⟩ (g_X7_isTerm l dC dI cy _ ad kv N hN v hv x0 x1) (cwV 2 hts gX7_termOf_X7_isTerm rfl rfl rfl (by decide +kernel) ⟨Nat.le_of_ble_eq_true rfl, Nat.le_of_ble_eq_true rfl⟩) (yw_preV hE hK hP hD (ci := 7) (q0 := 0) rfl (wl_at (by omega) (ce_0 (by decide)))) rfl rfl hl.1 rfl (lv_room (Nat.le_of_ble_eq_true rfl)) dX7_termOf_3 ⟨Nat.le_of_ble_eq_true rfl, Nat.le_of_ble_eq_true rfl⟩) (fun r_1 v_1 H locs hw_1 hP hD hS => ?_)
  obtain ⟨hv, hw_1⟩ := hw_1
  have hfr : Fr v v_1 := hfr.trans hw_1.1
  rcases hw_1.2 with ⟨rfl, ha_2, hb_2⟩ | rfl
  · refine lv_if_ne (tgt := 11) hx hb dX7_termOf_6 (by decide) (fun _ => ?_) (fun c9 => absurd c9 (by decide))
    refine lv_aload_n hx hb dX7_termOf_11 rfl (lv_at hl 0 rfl) ?_
    refine va_get (D := (dC, dI)) (ci := 7) (v := .ref (ad 13)) (C := RX7) (T := TX7) (N := 5) hx hb hts (by decide +kernel) hown hK hP (0) (wl_at (by omega) (ce_0 (by decide))) rfl 0 (by decide) (hts (.fieldLink RX7 12 "QuietStairs" "now" "LQuietStairs$House;") (by decide +kernel)) (fun _ h9 => h9) rfl dX7_termOf_12 ?_
    refine va_get (D := (dC, dI)) (ci := 1) (v := .ref (ad 16)) (C := RX1) (T := TX1) (N := 7) hx hb hts (by decide +kernel) hown hK hP (13) (wl_at (by omega) (ce_3 (by decide))) rfl 6 (by decide) (hts (.fieldLink RX7 86 "QuietStairs$House" "cases" "[LQuietStairs$Case;") (by decide +kernel)) (fun _ h9 => h9) rfl dX7_termOf_15 ?_
    refine lv_iload_n hx hb dX7_termOf_18 rfl (lv_at hl 1 rfl) ?_
    obtain ⟨pi3, i3, hi3, ni3, mi3⟩ := t_in (x := x0) (n := 6) ⟨by omega, by omega⟩
    refine va_aldq hx hb hK hP (16) 3 (wl_at (by omega) (ce_6 (by decide))) rfl pi3 dX7_termOf_19 ?_
    refine W.eq (g2 := F0 m 20 ls [.ref (ad (29 + 15 * i3))]) (by rw [ni3, if_pos hi3, show 16 + 13 + 15 * i3 = 29 + 15 * i3 from by omega]; rfl) ?_
    refine va_get (D := (dC, dI)) (ci := 0) (v := .ref (ad (29 + 15 * i3 + 9))) (C := RX0) (T := TX0) (N := 11) hx hb hts (by decide +kernel) hown hK hP (29 + 15 * i3) (wl_at (by omega) (ce_9 (kd_c i3 hi3).1.1)) rfl 10 (by decide) (hts (.fieldLink RX7 172 "QuietStairs$Case" "terms" "[LQuietStairs$Term;") (by decide +kernel)) (fun _ h9 => h9) rfl dX7_termOf_20 ?_
    refine W.eq (g2 := F0 m 23 ls [.ref (ad (38 + 15 * i3))]) (by rw [show 29 + 15 * i3 + 9 = 38 + 15 * i3 from by omega]) ?_
    refine lv_iload_n hx hb dX7_termOf_23 rfl (lv_at hl 2 rfl) ?_
    obtain ⟨pi4, i4, hi4, ni4, mi4⟩ := t_in (x := x1) (n := 5) ⟨by omega, by omega⟩
    refine va_aldq hx hb hK hP (38 + 15 * i3) 4 (wl_at (by omega) (ce_15 (kd_c i3 hi3).1.2.2.2.2.2)) rfl pi4 dX7_termOf_24 ?_
    refine W.eq (g2 := F0 m 25 ls [.ref (ad (39 + 15 * i3 + i4))]) (by rw [ni4, if_pos hi4, show 38 + 15 * i3 + 1 + i4 = 39 + 15 * i3 + i4 from by omega]; rfl) ?_
    refine lv_astore (lv' := [(4, .ref (ad (39 + 15 * i3 + i4))), (0, .ref (ad 0)), (1, .int x0), (2, .int x1), (3, .int x2)]) hx hb dX7_termOf_25 hl (by decide) rfl (fun ls hl => ?_)
    refine lv_iload_n hx hb dX7_termOf_27 rfl (lv_at hl 4 rfl) ?_
    rcases sw_5 x2 with hsw | hsw | hsw | hsw | hsw | hsw
    · refine lv_tableOut (tgt := 102) hx hb dX7_termOf_28 hsw (by decide) ?_
      refine lv_iconst (v := (-1)) hx hb dX7_termOf_102 (by decide) ?_
      exact W.iret (v := (-1)) hx hb hr (fun t ht hW => ⟨⟨(-1), v_1, rfl, ⟨hv, hfr⟩, by rw [ht]; exact hP, hD⟩, hS.F ht⟩) hS.2.2 dX7_termOf_103
    · refine lv_tableIn (off := 36) (tgt := 64) hx hb dX7_termOf_28 (by rw [hsw]; decide) (by rw [hsw]; decide) (by rw [hsw]; decide) (by decide) ?_
      refine lv_aload hx hb dX7_termOf_64 (lv_at hl 0 rfl) ?_
      refine va_get (D := (dC, dI)) (ci := 6) (v := .int (v_1 (39 + 15 * i3 + i4) 0)) (C := RX6) (T := TX6) (N := 5) hx hb hts (by decide +kernel) hown hK hP (39 + 15 * i3 + i4) (wl_at (by omega) (ce_16 (kd_t i3 hi3 i4 hi4).1)) rfl 0 (by decide) (hts (.fieldLink RX7 176 "QuietStairs$Term" "side" "I") (by decide +kernel)) (fun _ h9 => h9) rfl dX7_termOf_66 ?_
      refine lv_topi (fun x_5 ex_5 => ?_)
      have bx_5 : 0 ≤ x_5.toInt ∧ x_5.toInt ≤ 1 := by rw [ex_5]; exact hv.at (K := 16) (kd_t i3 hi3 i4 hi4).1 rfl
      exact W.iret (v := x_5) hx hb hr (fun t ht hW => ⟨⟨x_5, v_1, rfl, ⟨hv, hfr⟩, by rw [ht]; exact hP, hD⟩, hS.F ht⟩) hS.2.2 dX7_termOf_69
    · refine lv_tableIn (off := 42) (tgt := 70) hx hb dX7_termOf_28 (by rw [hsw]; decide) (by rw [hsw]; decide) (by rw [hsw]; decide) (by decide) ?_
      refine lv_aload hx hb dX7_termOf_70 (lv_at hl 0 rfl) ?_
      refine va_get (D := (dC, dI)) (ci := 6) (v := .int (v_1 (39 + 15 * i3 + i4) 1)) (C := RX6) (T := TX6) (N := 5) hx hb hts (by decide +kernel) hown hK hP (39 + 15 * i3 + i4) (wl_at (by omega) (ce_16 (kd_t i3 hi3 i4 hi4).1)) rfl 1 (by decide) (hts (.fieldLink RX7 181 "QuietStairs$Term" "must" "Z") (by decide +kernel)) (fun _ h9 => h9) rfl dX7_termOf_72 ?_
      refine lv_topi (fun x_5 ex_5 => ?_)
      have bx_5 : 0 ≤ x_5.toInt ∧ x_5.toInt ≤ 1 := by rw [ex_5]; exact hv.at (K := 16) (kd_t i3 hi3 i4 hi4).1 rfl
      have k_0 : (0 : Int32).toInt = 0 := by decide
      refine lv_if_eq (tgt := 82) hx hb dX7_termOf_75 (by decide) (fun c_6 => ?_) (fun c_6 => ?_)
      · have tc_6 : x_5.toInt = (0 : Int32).toInt := by rw [c_6]
        refine lv_iconst (v := 0) hx hb dX7_termOf_82 (by decide) ?_
        exact W.iret (v := 0) hx hb hr (fun t ht hW => ⟨⟨0, v_1, rfl, ⟨hv, hfr⟩, by rw [ht]; exact hP, hD⟩, hS.F ht⟩) hS.2.2 dX7_termOf_83
      · have tc_6 : x_5.toInt ≠ (0 : Int32).toInt := fun q => absurd (Int32.toInt_inj.mp q) c_6
        refine lv_iconst (v := 1) hx hb dX7_termOf_78 (by decide) ?_
        refine lv_goto (tgt := 83) hx hb dX7_termOf_79 (by decide) ?_
        exact W.iret (v := 1) hx hb hr (fun t ht hW => ⟨⟨1, v_1, rfl, ⟨hv, hfr⟩, by rw [ht]; exact hP, hD⟩, hS.F ht⟩) hS.2.2 dX7_termOf_83
    · refine lv_tableIn (off := 56) (tgt := 84) hx hb dX7_termOf_28 (by rw [hsw]; decide) (by rw [hsw]; decide) (by rw [hsw]; decide) (by decide) ?_
      refine lv_aload hx hb dX7_termOf_84 (lv_at hl 0 rfl) ?_
      refine va_get (D := (dC, dI)) (ci := 6) (v := .int (v_1 (39 + 15 * i3 + i4) 2)) (C := RX6) (T := TX6) (N := 5) hx hb hts (by decide +kernel) hown hK hP (39 + 15 * i3 + i4) (wl_at (by omega) (ce_16 (kd_t i3 hi3 i4 hi4).1)) rfl 2 (by decide) (hts (.fieldLink RX7 185 "QuietStairs$Term" "act" "I") (by decide +kernel)) (fun _ h9 => h9) rfl dX7_termOf_86 ?_
      refine lv_topi (fun x_5 ex_5 => ?_)
      exact W.iret (v := x_5) hx hb hr (fun t ht hW => ⟨⟨x_5, v_1, rfl, ⟨hv, hfr⟩, by rw [ht]; exact hP, hD⟩, hS.F ht⟩) hS.2.2 dX7_termOf_89
    · refine lv_tableIn (off := 62) (tgt := 90) hx hb dX7_termOf_28 (by rw [hsw]; decide) (by rw [hsw]; decide) (by rw [hsw]; decide) (by decide) ?_
      refine lv_aload hx hb dX7_termOf_90 (lv_at hl 0 rfl) ?_
      refine va_get (D := (dC, dI)) (ci := 6) (v := .int (v_1 (39 + 15 * i3 + i4) 3)) (C := RX6) (T := TX6) (N := 5) hx hb hts (by decide +kernel) hown hK hP (39 + 15 * i3 + i4) (wl_at (by omega) (ce_16 (kd_t i3 hi3 i4 hi4).1)) rfl 3 (by decide) (hts (.fieldLink RX7 188 "QuietStairs$Term" "first" "I") (by decide +kernel)) (fun _ h9 => h9) rfl dX7_termOf_92 ?_
      refine lv_topi (fun x_5 ex_5 => ?_)
      have bx_5 : 0 ≤ x_5.toInt ∧ x_5.toInt ≤ 23 := by rw [ex_5]; exact hv.at (K := 16) (kd_t i3 hi3 i4 hi4).1 rfl
      exact W.iret (v := x_5) hx hb hr (fun t ht hW => ⟨⟨x_5, v_1, rfl, ⟨hv, hfr⟩, by rw [ht]; exact hP, hD⟩, hS.F ht⟩) hS.2.2 dX7_termOf_95
    · refine lv_tableIn (off := 68) (tgt := 96) hx hb dX7_termOf_28 (by rw [hsw]; decide) (by rw [hsw]; decide) (by rw [hsw]; decide) (by decide) ?_
      refine lv_aload hx hb dX7_termOf_96 (lv_at hl 0 rfl) ?_
      refine va_get (D := (dC, dI)) (ci := 6) (v := .int (v_1 (39 + 15 * i3 + i4) 4)) (C := RX6) (T := TX6) (N := 5) hx hb hts (by decide +kernel) hown hK hP (39 + 15 * i3 + i4) (wl_at (by omega) (ce_16 (kd_t i3 hi3 i4 hi4).1)) rfl 4 (by decide) (hts (.fieldLink RX7 191 "QuietStairs$Term" "last" "I") (by decide +kernel)) (fun _ h9 => h9) rfl dX7_termOf_98 ?_
      refine lv_topi (fun x_5 ex_5 => ?_)
      have bx_5 : 0 ≤ x_5.toInt ∧ x_5.toInt ≤ 23 := by rw [ex_5]; exact hv.at (K := 16) (kd_t i3 hi3 i4 hi4).1 rfl
      exact W.iret (v := x_5) hx hb hr (fun t ht hW => ⟨⟨x_5, v_1, rfl, ⟨hv, hfr⟩, by rw [ht]; exact hP, hD⟩, hS.F ht⟩) hS.2.2 dX7_termOf_101
  · refine lv_if_ne (tgt := 11) hx hb dX7_termOf_6 (by decide) (fun c9 => absurd c9 (by decide)) (fun _ => ?_)
    refine lv_iconst (v := (-1)) hx hb dX7_termOf_9 (by decide) ?_
    exact W.iret (v := (-1)) hx hb hr (fun t ht hW => ⟨⟨(-1), v_1, rfl, ⟨hv, hfr⟩, by rw [ht]; exact hP, hD⟩, hS.F ht⟩) hS.2.2 dX7_termOf_10

set_option maxHeartbeats 4000000 in
set_option maxRecDepth 100000 in
theorem g_X7_judged (l : Launch) (dC : Nat → ClassId) (dI : Nat → Nat → Nat) (cy : Nat → ClassId) (sz : Nat) (ad : Nat → Nat) (kv : Value) (N : Nat) (hN : 119 ≤ N) (v : Nat → Nat → Int32) (hv : Iv v)  (x0 x1 : Int32) : Met l yX7_judged wsX7_judged ({ frames := 3, cells := 0, slots := 0, locals := 192 }) (va_Pc [.ref (ad 0), .int x0, .int x1] (ex_Pre dC dI cy sz (wl ad kv cy N v))) (va_Qi (fun (r : Int32) (u : Nat → Nat → Int32) => Iv u ∧ Fr v u) (fun u t => ex_Pst dC dI (va_A (wl ad kv cy N v) sz) (wl ad kv cy N u) t) (va_A (wl ad kv cy N v) sz)) 0 0 (va_A (wl ad kv cy N v) sz) := by
  refine Met.ofW (cc := cX7_judged) (maxL := 3) (ret := (some .int)) (by decide) rfl ?_
  intro p e s m args below meth c s₁ B hml hv
  obtain ⟨rfl, hsz, hE, hP, hK, hD0⟩ := hv
  have hx := B.exec
  have hb := B.bytes
  have hr := B.returns
  have hts := atoms_spec (ws := wsX7_judged) B.pre
  have hown : s.vm.findClass RX7 = some m.cls := findClass_of_methodNamed B.named
  have hlocks := B.notSynchronized
  subst hsz
  have hD := hD0.self (sz := s.heap.size)
  generalize hAe : va_A (wl ad kv cy N v) s.heap.size = A at hD ⊢
  have hA : ∀ q : Nat, s.heap.size ≤ q → A q := fun q h => by rw [← hAe]; exact Or.inr h
  have hS : va_S A s.heap s.heap [] := va_S.rf
  have hP : va_P (dC, dI) vwCl (wl ad kv cy N v) s.heap := hP
  have hl := lv_entry ([.ref (ad 0), .int x0, .int x1]) (n := 3) (Nat.le_of_ble_eq_true rfl)
  rw [lg_entry_eq]
  generalize (lg_sl ([.ref (ad 0), .int x0, .int x1]) ++ List.replicate (3 - (lg_sl ([.ref (ad 0), .int x0, .int x1])).length) Slot.unset).toArray = ls at hl ⊢
  have hl : lv_has ls 3 [(0, .ref (ad 0)), (1, .int x0), (2, .int x1)] := hl
  have hfr : Fr v v := Fr.rf
  refine lv_aload_n hx hb dX7_judged_0 rfl (lv_at hl 0 rfl) ?_
  refine lv_iload_n hx hb dX7_judged_1 rfl (lv_at hl 1 rfl) ?_
  refine lv_iload_n hx hb dX7_judged_2 rfl (lv_at hl 2 rfl) ?_
  refine yw_i (w1 := fun (u : Nat → Nat → Int32) => wl ad kv cy N u) hD hS hA (va_runV (As := [.int x0, .int x1]) (rest := []) ⟨hx, hb, hml, hown, hts⟩ (g_X7_isTerm l dC dI cy _ ad kv N hN v hv x0 x1) (cwV 2 hts gX7_judged_X7_isTerm rfl rfl rfl (by decide +kernel) ⟨Nat.le_of_ble_eq_true rfl, Nat.le_of_ble_eq_true rfl⟩) (yw_preV hE hK hP hD (ci := 7) (q0 := 0) rfl (wl_at (by omega) (ce_0 (by decide)))) rfl rfl hl.1 rfl (lv_room (Nat.le_of_ble_eq_true rfl)) dX7_judged_3 ⟨Nat.le_of_ble_eq_true rfl, Nat.le_of_ble_eq_true rfl⟩) (fun r_1 v_1 H locs hw_1 hP hD hS => ?_)
  obtain ⟨hv, hw_1⟩ := hw_1
  have hfr : Fr v v_1 := hfr.trans hw_1.1
  rcases hw_1.2 with ⟨rfl, ha_2, hb_2⟩ | rfl
  · refine lv_if_ne (tgt := 11) hx hb dX7_judged_6 (by decide) (fun _ => ?_) (fun c9 => absurd c9 (by decide))
    refine lv_aload_n hx hb dX7_judged_11 rfl (lv_at hl 0 rfl) ?_
    refine va_get (D := (dC, dI)) (ci := 7) (v := .ref (ad 13)) (C := RX7) (T := TX7) (N := 5) hx hb hts (by decide +kernel) hown hK hP (0) (wl_at (by omega) (ce_0 (by decide))) rfl 0 (by decide) (hts (.fieldLink RX7 12 "QuietStairs" "now" "LQuietStairs$House;") (by decide +kernel)) (fun _ h9 => h9) rfl dX7_judged_12 ?_
    refine va_get (D := (dC, dI)) (ci := 1) (v := .ref (ad 16)) (C := RX1) (T := TX1) (N := 7) hx hb hts (by decide +kernel) hown hK hP (13) (wl_at (by omega) (ce_3 (by decide))) rfl 6 (by decide) (hts (.fieldLink RX7 86 "QuietStairs$House" "cases" "[LQuietStairs$Case;") (by decide +kernel)) (fun _ h9 => h9) rfl dX7_judged_15 ?_
    refine lv_iload_n hx hb dX7_judged_18 rfl (lv_at hl 1 rfl) ?_
    obtain ⟨pi3, i3, hi3, ni3, mi3⟩ := t_in (x := x0) (n := 6) ⟨by omega, by omega⟩
    refine va_aldq hx hb hK hP (16) 3 (wl_at (by omega) (ce_6 (by decide))) rfl pi3 dX7_judged_19 ?_
    refine W.eq (g2 := F0 m 20 ls [.ref (ad (29 + 15 * i3))]) (by rw [ni3, if_pos hi3, show 16 + 13 + 15 * i3 = 29 + 15 * i3 from by omega]; rfl) ?_
    refine lv_iload_n hx hb dX7_judged_20 rfl (lv_at hl 2 rfl) ?_
    refine yw_i (w1 := fun (u : Nat → Nat → Int32) => wl ad kv cy N u) hD hS hA (va_runV (As := [.int x1]) (rest := []) ⟨hx, hb, hml, hown, hts⟩ (g_X0_judge l dC dI cy _ ad kv N hN v_1 hv i3 hi3 x1 ⟨by omega, by omega⟩) (cwV 1 hts gX7_judged_X0_judge rfl rfl rfl (by decide +kernel) ⟨Nat.le_of_ble_eq_true rfl, Nat.le_of_ble_eq_true rfl⟩) (yw_preV hE hK hP hD (ci := 0) (q0 := (29 + 15 * i3)) rfl (wl_at (by omega) (ce_9 (kd_c i3 hi3).1.1))) rfl rfl hl.1 rfl (lv_room (Nat.le_of_ble_eq_true rfl)) dX7_judged_21 ⟨Nat.le_of_ble_eq_true rfl, Nat.le_of_ble_eq_true rfl⟩) (fun r_4 v_4 H locs hw_4 hP hD hS => ?_)
    obtain ⟨hv, hw_4⟩ := hw_4
    have hfr : Fr v v_4 := hfr.trans hw_4
    exact W.iret (v := r_4) hx hb hr (fun t ht hW => ⟨⟨r_4, v_4, rfl, ⟨hv, hfr⟩, by rw [ht]; exact hP, hD⟩, hS.F ht⟩) hS.2.2 dX7_judged_24
  · refine lv_if_ne (tgt := 11) hx hb dX7_judged_6 (by decide) (fun c9 => absurd c9 (by decide)) (fun _ => ?_)
    refine lv_iconst (v := (-1)) hx hb dX7_judged_9 (by decide) ?_
    exact W.iret (v := (-1)) hx hb hr (fun t ht hW => ⟨⟨(-1), v_1, rfl, ⟨hv, hfr⟩, by rw [ht]; exact hP, hD⟩, hS.F ht⟩) hS.2.2 dX7_judged_10

set_option maxHeartbeats 4000000 in
set_option maxRecDepth 100000 in
theorem g_X7_open (l : Launch) (dC : Nat → ClassId) (dI : Nat → Nat → Nat) (cy : Nat → ClassId) (sz : Nat) (ad : Nat → Nat) (kv : Value) (N : Nat) (hN : 119 ≤ N) (v : Nat → Nat → Int32) (hv : Iv v)  (x0 x1 : Int32) : Met l yX7_open wsX7_open ({ frames := 2, cells := 0, slots := 0, locals := 128 }) (va_Pc [.ref (ad 0), .int x0, .int x1] (ex_Pre dC dI cy sz (wl ad kv cy N v))) (va_Qi (fun (r : Int32) (u : Nat → Nat → Int32) => Iv u ∧ Fr v u) (fun u t => ex_Pst dC dI (va_A (wl ad kv cy N v) sz) (wl ad kv cy N u) t) (va_A (wl ad kv cy N v) sz)) 0 0 (va_A (wl ad kv cy N v) sz) := by
  refine Met.ofW (cc := cX7_open) (maxL := 3) (ret := (some .int)) (by decide) rfl ?_
  intro p e s m args below meth c s₁ B hml hv
  obtain ⟨rfl, hsz, hE, hP, hK, hD0⟩ := hv
  have hx := B.exec
  have hb := B.bytes
  have hr := B.returns
  have hts := atoms_spec (ws := wsX7_open) B.pre
  have hown : s.vm.findClass RX7 = some m.cls := findClass_of_methodNamed B.named
  have hlocks := B.notSynchronized
  subst hsz
  have hD := hD0.self (sz := s.heap.size)
  generalize hAe : va_A (wl ad kv cy N v) s.heap.size = A at hD ⊢
  have hA : ∀ q : Nat, s.heap.size ≤ q → A q := fun q h => by rw [← hAe]; exact Or.inr h
  have hS : va_S A s.heap s.heap [] := va_S.rf
  have hP : va_P (dC, dI) vwCl (wl ad kv cy N v) s.heap := hP
  have hl := lv_entry ([.ref (ad 0), .int x0, .int x1]) (n := 3) (Nat.le_of_ble_eq_true rfl)
  rw [lg_entry_eq]
  generalize (lg_sl ([.ref (ad 0), .int x0, .int x1]) ++ List.replicate (3 - (lg_sl ([.ref (ad 0), .int x0, .int x1])).length) Slot.unset).toArray = ls at hl ⊢
  have hl : lv_has ls 3 [(0, .ref (ad 0)), (1, .int x0), (2, .int x1)] := hl
  have hfr : Fr v v := Fr.rf
  refine lv_aload_n hx hb dX7_open_0 rfl (lv_at hl 0 rfl) ?_
  refine lv_iload_n hx hb dX7_open_1 rfl (lv_at hl 1 rfl) ?_
  refine yw_i (w1 := fun (u : Nat → Nat → Int32) => wl ad kv cy N u) hD hS hA (va_runV (As := [.int x0]) (rest := []) ⟨hx, hb, hml, hown, hts⟩ (g_X7_isParty l dC dI cy _ ad kv N hN v hv x0) (cwV 1 hts gX7_open_X7_isParty rfl rfl rfl (by decide +kernel) ⟨Nat.le_of_ble_eq_true rfl, Nat.le_of_ble_eq_true rfl⟩) (yw_preV hE hK hP hD (ci := 7) (q0 := 0) rfl (wl_at (by omega) (ce_0 (by decide)))) rfl rfl hl.1 rfl (lv_room (Nat.le_of_ble_eq_true rfl)) dX7_open_2 ⟨Nat.le_of_ble_eq_true rfl, Nat.le_of_ble_eq_true rfl⟩) (fun r_1 v_1 H locs hw_1 hP hD hS => ?_)
  obtain ⟨hv, hw_1⟩ := hw_1
  obtain ⟨hu_1, hw_1⟩ := hw_1
  have hfr : Fr v v_1 := by rw [hu_1]; exact hfr
  rcases hw_1 with ⟨rfl, ha_2⟩ | ⟨rfl, -⟩
  · have hb_2 := hv.at (k := 13) (j := 0) (K := 3) (by decide) rfl
    have hb_2 : 0 ≤ x0.toInt ∧ x0.toInt < 8 := by omega
    refine lv_if_eq (tgt := 21) hx hb dX7_open_5 (by decide) (fun c9 => absurd c9 (by decide)) (fun _ => ?_)
    refine lv_aload_n hx hb dX7_open_8 rfl (lv_at hl 0 rfl) ?_
    refine lv_iload_n hx hb dX7_open_9 rfl (lv_at hl 2 rfl) ?_
    refine yw_i (w1 := fun (u : Nat → Nat → Int32) => wl ad kv cy N u) hD hS hA (va_runV (As := [.int x1]) (rest := []) ⟨hx, hb, hml, hown, hts⟩ (g_X7_isParty l dC dI cy _ ad kv N hN v_1 hv x1) (cwV 1 hts gX7_open_X7_isParty rfl rfl rfl (by decide +kernel) ⟨Nat.le_of_ble_eq_true rfl, Nat.le_of_ble_eq_true rfl⟩) (yw_preV hE hK hP hD (ci := 7) (q0 := 0) rfl (wl_at (by omega) (ce_0 (by decide)))) rfl rfl hl.1 rfl (lv_room (Nat.le_of_ble_eq_true rfl)) dX7_open_10 ⟨Nat.le_of_ble_eq_true rfl, Nat.le_of_ble_eq_true rfl⟩) (fun r_3 v_3 H locs hw_3 hP hD hS => ?_)
    obtain ⟨hv, hw_3⟩ := hw_3
    obtain ⟨hu_3, hw_3⟩ := hw_3
    have hfr : Fr v v_3 := by rw [hu_3]; exact hfr
    rcases hw_3 with ⟨rfl, ha_4⟩ | ⟨rfl, -⟩
    · have hb_4 := hv.at (k := 13) (j := 0) (K := 3) (by decide) rfl
      have hb_4 : 0 ≤ x1.toInt ∧ x1.toInt < 8 := by omega
      refine lv_if_eq (tgt := 21) hx hb dX7_open_13 (by decide) (fun c9 => absurd c9 (by decide)) (fun _ => ?_)
      refine lv_iload_n hx hb dX7_open_16 rfl (lv_at hl 1 rfl) ?_
      refine lv_iload_n hx hb dX7_open_17 rfl (lv_at hl 2 rfl) ?_
      refine lv_icmp_ne (tgt := 23) hx hb dX7_open_18 (by decide) (fun c_5 => ?_) (fun c_5 => ?_)
      · have tc_5 : x0.toInt ≠ x1.toInt := fun q => absurd (Int32.toInt_inj.mp q) c_5
        refine lv_aload_n hx hb dX7_open_23 rfl (lv_at hl 0 rfl) ?_
        refine va_get (D := (dC, dI)) (ci := 7) (v := .ref (ad 13)) (C := RX7) (T := TX7) (N := 5) hx hb hts (by decide +kernel) hown hK hP (0) (wl_at (by omega) (ce_0 (by decide))) rfl 0 (by decide) (hts (.fieldLink RX7 12 "QuietStairs" "now" "LQuietStairs$House;") (by decide +kernel)) (fun _ h9 => h9) rfl dX7_open_24 ?_
        refine va_get (D := (dC, dI)) (ci := 1) (v := .int (v_3 (13) 2)) (C := RX1) (T := TX1) (N := 7) hx hb hts (by decide +kernel) hown hK hP (13) (wl_at (by omega) (ce_3 (by decide))) rfl 2 (by decide) (hts (.fieldLink RX7 83 "QuietStairs$House" "caseCount" "I") (by decide +kernel)) (fun _ h9 => h9) rfl dX7_open_27 ?_
        refine lv_topi (fun x_6 ex_6 => ?_)
        have bx_6 : 0 ≤ x_6.toInt ∧ x_6.toInt ≤ 6 := by rw [ex_6]; exact hv.at (K := 3) (by decide) rfl
        refine lv_bipush (v := 6) hx hb dX7_open_30 (by decide) ?_
        have k_6 : (6 : Int32).toInt = 6 := by decide
        refine lv_icmp_lt (tgt := 38) hx hb dX7_open_32 (by decide) (fun c_7 => ?_) (fun c_7 => ?_)
        · have tc_7 : x_6.toInt < (6 : Int32).toInt := Int32.lt_iff_toInt_lt.mp c_7
          refine lv_aload_n hx hb dX7_open_38 rfl (lv_at hl 0 rfl) ?_
          refine va_get (D := (dC, dI)) (ci := 7) (v := .ref (ad 13)) (C := RX7) (T := TX7) (N := 5) hx hb hts (by decide +kernel) hown hK hP (0) (wl_at (by omega) (ce_0 (by decide))) rfl 0 (by decide) (hts (.fieldLink RX7 12 "QuietStairs" "now" "LQuietStairs$House;") (by decide +kernel)) (fun _ h9 => h9) rfl dX7_open_39 ?_
          refine va_get (D := (dC, dI)) (ci := 1) (v := .ref (ad 16)) (C := RX1) (T := TX1) (N := 7) hx hb hts (by decide +kernel) hown hK hP (13) (wl_at (by omega) (ce_3 (by decide))) rfl 6 (by decide) (hts (.fieldLink RX7 86 "QuietStairs$House" "cases" "[LQuietStairs$Case;") (by decide +kernel)) (fun _ h9 => h9) rfl dX7_open_42 ?_
          refine lv_aload_n hx hb dX7_open_45 rfl (lv_at hl 0 rfl) ?_
          refine va_get (D := (dC, dI)) (ci := 7) (v := .ref (ad 13)) (C := RX7) (T := TX7) (N := 5) hx hb hts (by decide +kernel) hown hK hP (0) (wl_at (by omega) (ce_0 (by decide))) rfl 0 (by decide) (hts (.fieldLink RX7 12 "QuietStairs" "now" "LQuietStairs$House;") (by decide +kernel)) (fun _ h9 => h9) rfl dX7_open_46 ?_
          refine va_get (D := (dC, dI)) (ci := 1) (v := .int (v_3 (13) 2)) (C := RX1) (T := TX1) (N := 7) hx hb hts (by decide +kernel) hown hK hP (13) (wl_at (by omega) (ce_3 (by decide))) rfl 2 (by decide) (hts (.fieldLink RX7 83 "QuietStairs$House" "caseCount" "I") (by decide +kernel)) (fun _ h9 => h9) rfl dX7_open_49 ?_
          refine lv_topi (fun x_8 ex_8 => ?_)
          rw [← ex_6] at ex_8; replace ex_8 := ex_8.symm; subst ex_8
          obtain ⟨pi9, i9, hi9, ni9, mi9⟩ := t_in (x := x_6) (n := 6) ⟨by omega, by omega⟩
          refine va_aldq hx hb hK hP (16) 3 (wl_at (by omega) (ce_6 (by decide))) rfl pi9 dX7_open_52 ?_
          refine W.eq (g2 := F0 m 53 ls [.ref (ad (29 + 15 * i9))]) (by rw [ni9, if_pos hi9, show 16 + 13 + 15 * i9 = 29 + 15 * i9 from by omega]; rfl) ?_
          refine lv_iload_n hx hb dX7_open_53 rfl (lv_at hl 1 rfl) ?_
          refine lv_iload_n hx hb dX7_open_54 rfl (lv_at hl 2 rfl) ?_
          refine yw_v (w1 := fun (u : Nat → Nat → Int32) => wl ad kv cy N u) hD hS hA (va_runV (As := [.int x0, .int x1]) (rest := []) ⟨hx, hb, hml, hown, hts⟩ (g_X0_begin l dC dI cy _ ad kv N hN v_3 hv i9 hi9 x0 x1 ⟨by omega, by omega⟩ ⟨by omega, by omega⟩) (cwV 2 hts gX7_open_X0_begin rfl rfl rfl (by decide +kernel) ⟨Nat.le_of_ble_eq_true rfl, Nat.le_of_ble_eq_true rfl⟩) (yw_preV hE hK hP hD (ci := 0) (q0 := (29 + 15 * i9)) rfl (wl_at (by omega) (ce_9 (kd_c i9 hi9).1.1))) rfl rfl hl.1 rfl (lv_room (Nat.le_of_ble_eq_true rfl)) dX7_open_55 ⟨Nat.le_of_ble_eq_true rfl, Nat.le_of_ble_eq_true rfl⟩) (fun v_10 H locs hw_10 hP hD hS => ?_)
          obtain ⟨hv, hw_10⟩ := hw_10
          have hs_10 := hw_10.1
          have hfr : Fr v v_10 := hfr.trans hw_10.2
          refine lv_aload_n hx hb dX7_open_58 rfl (lv_at hl 0 rfl) ?_
          refine va_get (D := (dC, dI)) (ci := 7) (v := .ref (ad 13)) (C := RX7) (T := TX7) (N := 5) hx hb hts (by decide +kernel) hown hK hP (0) (wl_at (by omega) (ce_0 (by decide))) rfl 0 (by decide) (hts (.fieldLink RX7 12 "QuietStairs" "now" "LQuietStairs$House;") (by decide +kernel)) (fun _ h9 => h9) rfl dX7_open_59 ?_
          refine lv_dup hx hb dX7_open_62 rfl ?_
          refine va_get (D := (dC, dI)) (ci := 1) (v := .int (v_10 (13) 2)) (C := RX1) (T := TX1) (N := 7) hx hb hts (by decide +kernel) hown hK hP (13) (wl_at (by omega) (ce_3 (by decide))) rfl 2 (by decide) (hts (.fieldLink RX7 83 "QuietStairs$House" "caseCount" "I") (by decide +kernel)) (fun _ h9 => h9) rfl dX7_open_63 ?_
          refine lv_topi (fun x_11 ex_11 => ?_)
          rw [hs_10] at ex_11
          rw [← ex_6] at ex_11; replace ex_11 := ex_11.symm; subst ex_11
          refine lv_dup_x1 hx hb dX7_open_66 rfl rfl ?_
          refine lv_iconst (v := 1) hx hb dX7_open_67 (by decide) ?_
          have k_1 : (1 : Int32).toInt = 1 := by decide
          refine lv_iadd hx hb dX7_open_68 ?_
          refine lv_topi (fun x_12 ex_12 => ?_)
          have tx_12 : x_12.toInt = x_6.toInt + (1 : Int32).toInt := by rw [ex_12]; exact t_add ⟨by omega, by omega⟩
          refine va_put (D := (dC, dI)) (ci := 1) (v := .int x_12) (ty := .int) (C := RX1) (T := TX1) (N := 7) hx hb hts (by decide +kernel) tyX1 tyX1_ok nmX1 hown hK hP hD hS (13) (wl_at (by omega) (ce_3 (by decide))) rfl 2 (by decide) (hts (.fieldLink RX7 83 "QuietStairs$House" "caseCount" "I") (by decide +kernel)) (fun _ h9 => h9) rfl (by decide +kernel) rfl rfl (Nat.le_of_ble_eq_true rfl) dX7_open_69 (fun H locs hP hD hS => ?_)
          obtain ⟨v_13, ev_13⟩ : ∃ u : Nat → Nat → Int32, u = upr v_10 (13) (upd (v_10 (13)) 2 x_12) := ⟨_, rfl⟩
          have hP : va_P (dC, dI) vwCl (wl ad kv cy N v_13) H := by rw [ev_13, ← wl_put (e := _) (ce_3 (by decide))]; exact hP
          have hD : va_D A (wl ad kv cy N v_13) := by rw [ev_13, ← wl_put (e := _) (ce_3 (by decide))]; exact hD
          have hv : Iv v_13 := by rw [ev_13]; exact hv.put (K := 3) (by decide) (fun h q => by cases q; exact ⟨by omega, by omega⟩)
          have hfr : Fr v v_13 := by rw [ev_13]; exact hfr.putj (by decide)
          exact W.iret (v := x_6) hx hb hr (fun t ht hW => ⟨⟨x_6, v_13, rfl, ⟨hv, hfr⟩, by rw [ht]; exact hP, hD⟩, hS.F ht⟩) hS.2.2 dX7_open_72
        · have tc_7 : x_6.toInt ≥ (6 : Int32).toInt := Int32.le_iff_toInt_le.mp (Int32.not_lt.mp c_7)
          refine lv_bipush (v := (-2)) hx hb dX7_open_35 (by decide) ?_
          exact W.iret (v := (-2)) hx hb hr (fun t ht hW => ⟨⟨(-2), v_3, rfl, ⟨hv, hfr⟩, by rw [ht]; exact hP, hD⟩, hS.F ht⟩) hS.2.2 dX7_open_37
      · have tc_5 : x0.toInt = x1.toInt := by rw [c_5]
        refine lv_iconst (v := (-1)) hx hb dX7_open_21 (by decide) ?_
        exact W.iret (v := (-1)) hx hb hr (fun t ht hW => ⟨⟨(-1), v_3, rfl, ⟨hv, hfr⟩, by rw [ht]; exact hP, hD⟩, hS.F ht⟩) hS.2.2 dX7_open_22
    · refine lv_if_eq (tgt := 21) hx hb dX7_open_13 (by decide) (fun _ => ?_) (fun c9 => absurd c9 (by decide))
      refine lv_iconst (v := (-1)) hx hb dX7_open_21 (by decide) ?_
      exact W.iret (v := (-1)) hx hb hr (fun t ht hW => ⟨⟨(-1), v_3, rfl, ⟨hv, hfr⟩, by rw [ht]; exact hP, hD⟩, hS.F ht⟩) hS.2.2 dX7_open_22
  · refine lv_if_eq (tgt := 21) hx hb dX7_open_5 (by decide) (fun _ => ?_) (fun c9 => absurd c9 (by decide))
    refine lv_iconst (v := (-1)) hx hb dX7_open_21 (by decide) ?_
    exact W.iret (v := (-1)) hx hb hr (fun t ht hW => ⟨⟨(-1), v_1, rfl, ⟨hv, hfr⟩, by rw [ht]; exact hP, hD⟩, hS.F ht⟩) hS.2.2 dX7_open_22

set_option maxHeartbeats 4000000 in
set_option maxRecDepth 100000 in
theorem g_X7_of (l : Launch) (dC : Nat → ClassId) (dI : Nat → Nat → Nat) (cy : Nat → ClassId) (sz : Nat) (ad : Nat → Nat) (kv : Value) (N : Nat) (hN : 119 ≤ N) (v : Nat → Nat → Int32) (hv : Iv v)  (x0 x1 : Int32) : Met l yX7_of wsX7_of ({ frames := 4, cells := 0, slots := 0, locals := 256 }) (va_Pc [.ref (ad 0), .int x0, .int x1] (ex_Pre dC dI cy sz (wl ad kv cy N v))) (va_Qi (fun (r : Int32) (u : Nat → Nat → Int32) => Iv u ∧ Fr v u) (fun u t => ex_Pst dC dI (va_A (wl ad kv cy N v) sz) (wl ad kv cy N u) t) (va_A (wl ad kv cy N v) sz)) 0 0 (va_A (wl ad kv cy N v) sz) := by
  refine Met.ofW (cc := cX7_of) (maxL := 4) (ret := (some .int)) (by decide) rfl ?_
  intro p e s m args below meth c s₁ B hml hv
  obtain ⟨rfl, hsz, hE, hP, hK, hD0⟩ := hv
  have hx := B.exec
  have hb := B.bytes
  have hr := B.returns
  have hts := atoms_spec (ws := wsX7_of) B.pre
  have hown : s.vm.findClass RX7 = some m.cls := findClass_of_methodNamed B.named
  have hlocks := B.notSynchronized
  subst hsz
  have hD := hD0.self (sz := s.heap.size)
  generalize hAe : va_A (wl ad kv cy N v) s.heap.size = A at hD ⊢
  have hA : ∀ q : Nat, s.heap.size ≤ q → A q := fun q h => by rw [← hAe]; exact Or.inr h
  have hS : va_S A s.heap s.heap [] := va_S.rf
  have hP : va_P (dC, dI) vwCl (wl ad kv cy N v) s.heap := hP
  have hl := lv_entry ([.ref (ad 0), .int x0, .int x1]) (n := 4) (Nat.le_of_ble_eq_true rfl)
  rw [lg_entry_eq]
  generalize (lg_sl ([.ref (ad 0), .int x0, .int x1]) ++ List.replicate (4 - (lg_sl ([.ref (ad 0), .int x0, .int x1])).length) Slot.unset).toArray = ls at hl ⊢
  have hl : lv_has ls 4 [(0, .ref (ad 0)), (1, .int x0), (2, .int x1)] := hl
  have hfr : Fr v v := Fr.rf
  refine lv_aload_n hx hb dX7_of_0 rfl (lv_at hl 0 rfl) ?_
  refine lv_iload_n hx hb dX7_of_1 rfl (lv_at hl 1 rfl) ?_
  refine yw_i (w1 := fun (u : Nat → Nat → Int32) => wl ad kv cy N u) hD hS hA (va_runV (As := [.int x0]) (rest := []) ⟨hx, hb, hml, hown, hts⟩ (g_X7_isCase l dC dI cy _ ad kv N hN v hv x0) (cwV 1 hts gX7_of_X7_isCase rfl rfl rfl (by decide +kernel) ⟨Nat.le_of_ble_eq_true rfl, Nat.le_of_ble_eq_true rfl⟩) (yw_preV hE hK hP hD (ci := 7) (q0 := 0) rfl (wl_at (by omega) (ce_0 (by decide)))) rfl rfl hl.1 rfl (lv_room (Nat.le_of_ble_eq_true rfl)) dX7_of_2 ⟨Nat.le_of_ble_eq_true rfl, Nat.le_of_ble_eq_true rfl⟩) (fun r_1 v_1 H locs hw_1 hP hD hS => ?_)
  obtain ⟨hv, hw_1⟩ := hw_1
  obtain ⟨hu_1, hw_1⟩ := hw_1
  have hfr : Fr v v_1 := by rw [hu_1]; exact hfr
  rcases hw_1 with ⟨rfl, ha_2⟩ | ⟨rfl, -⟩
  · have hb_2 := hv.at (k := 13) (j := 2) (K := 3) (by decide) rfl
    have hb_2 : 0 ≤ x0.toInt ∧ x0.toInt < 6 := by omega
    refine lv_if_ne (tgt := 10) hx hb dX7_of_5 (by decide) (fun _ => ?_) (fun c9 => absurd c9 (by decide))
    refine lv_aload_n hx hb dX7_of_10 rfl (lv_at hl 0 rfl) ?_
    refine va_get (D := (dC, dI)) (ci := 7) (v := .ref (ad 13)) (C := RX7) (T := TX7) (N := 5) hx hb hts (by decide +kernel) hown hK hP (0) (wl_at (by omega) (ce_0 (by decide))) rfl 0 (by decide) (hts (.fieldLink RX7 12 "QuietStairs" "now" "LQuietStairs$House;") (by decide +kernel)) (fun _ h9 => h9) rfl dX7_of_11 ?_
    refine va_get (D := (dC, dI)) (ci := 1) (v := .ref (ad 16)) (C := RX1) (T := TX1) (N := 7) hx hb hts (by decide +kernel) hown hK hP (13) (wl_at (by omega) (ce_3 (by decide))) rfl 6 (by decide) (hts (.fieldLink RX7 86 "QuietStairs$House" "cases" "[LQuietStairs$Case;") (by decide +kernel)) (fun _ h9 => h9) rfl dX7_of_14 ?_
    refine lv_iload_n hx hb dX7_of_17 rfl (lv_at hl 1 rfl) ?_
    obtain ⟨pi3, i3, hi3, ni3, mi3⟩ := t_in (x := x0) (n := 6) ⟨by omega, by omega⟩
    refine va_aldq hx hb hK hP (16) 3 (wl_at (by omega) (ce_6 (by decide))) rfl pi3 dX7_of_18 ?_
    refine W.eq (g2 := F0 m 19 ls [.ref (ad (29 + 15 * i3))]) (by rw [ni3, if_pos hi3, show 16 + 13 + 15 * i3 = 29 + 15 * i3 from by omega]; rfl) ?_
    refine lv_astore_n (lv' := [(3, .ref (ad (29 + 15 * i3))), (0, .ref (ad 0)), (1, .int x0), (2, .int x1)]) hx hb dX7_of_19 rfl hl (by decide) rfl (fun ls hl => ?_)
    refine lv_iload_n hx hb dX7_of_20 rfl (lv_at hl 3 rfl) ?_
    rcases sw_8 x1 with hsw | hsw | hsw | hsw | hsw | hsw | hsw | hsw | hsw
    · refine lv_tableOut (tgt := 136) hx hb dX7_of_21 hsw (by decide) ?_
      refine lv_iconst (v := (-1)) hx hb dX7_of_136 (by decide) ?_
      exact W.iret (v := (-1)) hx hb hr (fun t ht hW => ⟨⟨(-1), v_1, rfl, ⟨hv, hfr⟩, by rw [ht]; exact hP, hD⟩, hS.F ht⟩) hS.2.2 dX7_of_137
    · refine lv_tableIn (off := 47) (tgt := 68) hx hb dX7_of_21 (by rw [hsw]; decide) (by rw [hsw]; decide) (by rw [hsw]; decide) (by decide) ?_
      refine lv_aload_n hx hb dX7_of_68 rfl (lv_at hl 0 rfl) ?_
      refine va_get (D := (dC, dI)) (ci := 0) (v := .ref (ad (29 + 15 * i3 + 1))) (C := RX0) (T := TX0) (N := 11) hx hb hts (by decide +kernel) hown hK hP (29 + 15 * i3) (wl_at (by omega) (ce_9 (kd_c i3 hi3).1.1)) rfl 6 (by decide) (hts (.fieldLink RX7 111 "QuietStairs$Case" "parties" "[I") (by decide +kernel)) (fun _ h9 => h9) rfl dX7_of_69 ?_
      refine W.eq (g2 := F0 m 72 ls [.ref (ad (30 + 15 * i3))]) (by rw [show 29 + 15 * i3 + 1 = 30 + 15 * i3 from by omega]) ?_
      refine lv_iconst (v := 0) hx hb dX7_of_72 (by decide) ?_
      refine va_iald hx hb hK hP (30 + 15 * i3) 0 (wl_at (by omega) (ce_10 (kd_c i3 hi3).1.2.1)) rfl (by unfold vp_in; decide) dX7_of_73 ?_
      refine lv_topi (fun x_4 ex_4 => ?_)
      have bx_4 : 0 ≤ x_4.toInt ∧ x_4.toInt ≤ 7 := by rw [ex_4]; exact hv.at (K := 10) (kd_c i3 hi3).1.2.1 rfl
      exact W.iret (v := x_4) hx hb hr (fun t ht hW => ⟨⟨x_4, v_1, rfl, ⟨hv, hfr⟩, by rw [ht]; exact hP, hD⟩, hS.F ht⟩) hS.2.2 dX7_of_74
    · refine lv_tableIn (off := 54) (tgt := 75) hx hb dX7_of_21 (by rw [hsw]; decide) (by rw [hsw]; decide) (by rw [hsw]; decide) (by decide) ?_
      refine lv_aload_n hx hb dX7_of_75 rfl (lv_at hl 0 rfl) ?_
      refine va_get (D := (dC, dI)) (ci := 0) (v := .ref (ad (29 + 15 * i3 + 1))) (C := RX0) (T := TX0) (N := 11) hx hb hts (by decide +kernel) hown hK hP (29 + 15 * i3) (wl_at (by omega) (ce_9 (kd_c i3 hi3).1.1)) rfl 6 (by decide) (hts (.fieldLink RX7 111 "QuietStairs$Case" "parties" "[I") (by decide +kernel)) (fun _ h9 => h9) rfl dX7_of_76 ?_
      refine W.eq (g2 := F0 m 79 ls [.ref (ad (30 + 15 * i3))]) (by rw [show 29 + 15 * i3 + 1 = 30 + 15 * i3 from by omega]) ?_
      refine lv_iconst (v := 1) hx hb dX7_of_79 (by decide) ?_
      refine va_iald hx hb hK hP (30 + 15 * i3) 0 (wl_at (by omega) (ce_10 (kd_c i3 hi3).1.2.1)) rfl (by unfold vp_in; decide) dX7_of_80 ?_
      refine lv_topi (fun x_4 ex_4 => ?_)
      have bx_4 : 0 ≤ x_4.toInt ∧ x_4.toInt ≤ 7 := by rw [ex_4]; exact hv.at (K := 10) (kd_c i3 hi3).1.2.1 rfl
      exact W.iret (v := x_4) hx hb hr (fun t ht hW => ⟨⟨x_4, v_1, rfl, ⟨hv, hfr⟩, by rw [ht]; exact hP, hD⟩, hS.F ht⟩) hS.2.2 dX7_of_81
    · refine lv_tableIn (off := 61) (tgt := 82) hx hb dX7_of_21 (by rw [hsw]; decide) (by rw [hsw]; decide) (by rw [hsw]; decide) (by decide) ?_
      refine lv_aload_n hx hb dX7_of_82 rfl (lv_at hl 0 rfl) ?_
      refine va_get (D := (dC, dI)) (ci := 0) (v := .int (v_1 (29 + 15 * i3) 0)) (C := RX0) (T := TX0) (N := 11) hx hb hts (by decide +kernel) hown hK hP (29 + 15 * i3) (wl_at (by omega) (ce_9 (kd_c i3 hi3).1.1)) rfl 0 (by decide) (hts (.fieldLink RX7 99 "QuietStairs$Case" "state" "I") (by decide +kernel)) (fun _ h9 => h9) rfl dX7_of_83 ?_
      refine lv_topi (fun x_4 ex_4 => ?_)
      exact W.iret (v := x_4) hx hb hr (fun t ht hW => ⟨⟨x_4, v_1, rfl, ⟨hv, hfr⟩, by rw [ht]; exact hP, hD⟩, hS.F ht⟩) hS.2.2 dX7_of_86
    · refine lv_tableIn (off := 66) (tgt := 87) hx hb dX7_of_21 (by rw [hsw]; decide) (by rw [hsw]; decide) (by rw [hsw]; decide) (by decide) ?_
      refine lv_aload_n hx hb dX7_of_87 rfl (lv_at hl 0 rfl) ?_
      refine va_get (D := (dC, dI)) (ci := 0) (v := .int (v_1 (29 + 15 * i3) 0)) (C := RX0) (T := TX0) (N := 11) hx hb hts (by decide +kernel) hown hK hP (29 + 15 * i3) (wl_at (by omega) (ce_9 (kd_c i3 hi3).1.1)) rfl 0 (by decide) (hts (.fieldLink RX7 99 "QuietStairs$Case" "state" "I") (by decide +kernel)) (fun _ h9 => h9) rfl dX7_of_88 ?_
      refine lv_topi (fun x_4 ex_4 => ?_)
      refine lv_iconst (v := 1) hx hb dX7_of_91 (by decide) ?_
      have k_1 : (1 : Int32).toInt = 1 := by decide
      refine lv_icmp_ne (tgt := 102) hx hb dX7_of_92 (by decide) (fun c_5 => ?_) (fun c_5 => ?_)
      · have tc_5 : x_4.toInt ≠ (1 : Int32).toInt := fun q => absurd (Int32.toInt_inj.mp q) c_5
        refine lv_bipush (v := (-5)) hx hb dX7_of_102 (by decide) ?_
        exact W.iret (v := (-5)) hx hb hr (fun t ht hW => ⟨⟨(-5), v_1, rfl, ⟨hv, hfr⟩, by rw [ht]; exact hP, hD⟩, hS.F ht⟩) hS.2.2 dX7_of_104
      · have tc_5 : x_4.toInt = (1 : Int32).toInt := by rw [c_5]
        refine lv_aload_n hx hb dX7_of_95 rfl (lv_at hl 0 rfl) ?_
        refine va_get (D := (dC, dI)) (ci := 0) (v := .int (v_1 (29 + 15 * i3) 1)) (C := RX0) (T := TX0) (N := 11) hx hb hts (by decide +kernel) hown hK hP (29 + 15 * i3) (wl_at (by omega) (ce_9 (kd_c i3 hi3).1.1)) rfl 1 (by decide) (hts (.fieldLink RX7 114 "QuietStairs$Case" "sum" "I") (by decide +kernel)) (fun _ h9 => h9) rfl dX7_of_96 ?_
        refine lv_topi (fun x_6 ex_6 => ?_)
        refine lv_goto (tgt := 104) hx hb dX7_of_99 (by decide) ?_
        exact W.iret (v := x_6) hx hb hr (fun t ht hW => ⟨⟨x_6, v_1, rfl, ⟨hv, hfr⟩, by rw [ht]; exact hP, hD⟩, hS.F ht⟩) hS.2.2 dX7_of_104
    · refine lv_tableIn (off := 84) (tgt := 105) hx hb dX7_of_21 (by rw [hsw]; decide) (by rw [hsw]; decide) (by rw [hsw]; decide) (by decide) ?_
      refine lv_aload_n hx hb dX7_of_105 rfl (lv_at hl 0 rfl) ?_
      refine va_get (D := (dC, dI)) (ci := 0) (v := .int (v_1 (29 + 15 * i3) 2)) (C := RX0) (T := TX0) (N := 11) hx hb hts (by decide +kernel) hown hK hP (29 + 15 * i3) (wl_at (by omega) (ce_9 (kd_c i3 hi3).1.1)) rfl 2 (by decide) (hts (.fieldLink RX7 117 "QuietStairs$Case" "roundsOver" "I") (by decide +kernel)) (fun _ h9 => h9) rfl dX7_of_106 ?_
      refine lv_topi (fun x_4 ex_4 => ?_)
      have bx_4 : 0 ≤ x_4.toInt ∧ x_4.toInt ≤ 5 := by rw [ex_4]; exact hv.at (K := 9) (kd_c i3 hi3).1.1 rfl
      exact W.iret (v := x_4) hx hb hr (fun t ht hW => ⟨⟨x_4, v_1, rfl, ⟨hv, hfr⟩, by rw [ht]; exact hP, hD⟩, hS.F ht⟩) hS.2.2 dX7_of_109
    · refine lv_tableIn (off := 89) (tgt := 110) hx hb dX7_of_21 (by rw [hsw]; decide) (by rw [hsw]; decide) (by rw [hsw]; decide) (by decide) ?_
      refine lv_aload_n hx hb dX7_of_110 rfl (lv_at hl 1 rfl) ?_
      refine va_get (D := (dC, dI)) (ci := 7) (v := .ref (ad 13)) (C := RX7) (T := TX7) (N := 5) hx hb hts (by decide +kernel) hown hK hP (0) (wl_at (by omega) (ce_0 (by decide))) rfl 0 (by decide) (hts (.fieldLink RX7 12 "QuietStairs" "now" "LQuietStairs$House;") (by decide +kernel)) (fun _ h9 => h9) rfl dX7_of_111 ?_
      refine lv_iload_n hx hb dX7_of_114 rfl (lv_at hl 2 rfl) ?_
      refine yw_i (w1 := fun (u : Nat → Nat → Int32) => wl ad kv cy N u) hD hS hA (va_runV (As := [.int x0]) (rest := []) ⟨hx, hb, hml, hown, hts⟩ (g_X1_headOfQuarrel l dC dI cy _ ad kv N hN v_1 hv x0 ⟨by omega, by omega⟩) (cwV 1 hts gX7_of_X1_headOfQuarrel rfl rfl rfl (by decide +kernel) ⟨Nat.le_of_ble_eq_true rfl, Nat.le_of_ble_eq_true rfl⟩) (yw_preV hE hK hP hD (ci := 1) (q0 := 13) rfl (wl_at (by omega) (ce_3 (by decide)))) rfl rfl hl.1 rfl (lv_room (Nat.le_of_ble_eq_true rfl)) dX7_of_115 ⟨Nat.le_of_ble_eq_true rfl, Nat.le_of_ble_eq_true rfl⟩) (fun r_4 v_4 H locs hw_4 hP hD hS => ?_)
      obtain ⟨hv, hw_4⟩ := hw_4
      have hfr : Fr v v_4 := hfr.trans hw_4
      exact W.iret (v := r_4) hx hb hr (fun t ht hW => ⟨⟨r_4, v_4, rfl, ⟨hv, hfr⟩, by rw [ht]; exact hP, hD⟩, hS.F ht⟩) hS.2.2 dX7_of_118
    · refine lv_tableIn (off := 98) (tgt := 119) hx hb dX7_of_21 (by rw [hsw]; decide) (by rw [hsw]; decide) (by rw [hsw]; decide) (by decide) ?_
      refine lv_aload_n hx hb dX7_of_119 rfl (lv_at hl 1 rfl) ?_
      refine va_get (D := (dC, dI)) (ci := 7) (v := .ref (ad 13)) (C := RX7) (T := TX7) (N := 5) hx hb hts (by decide +kernel) hown hK hP (0) (wl_at (by omega) (ce_0 (by decide))) rfl 0 (by decide) (hts (.fieldLink RX7 12 "QuietStairs" "now" "LQuietStairs$House;") (by decide +kernel)) (fun _ h9 => h9) rfl dX7_of_120 ?_
      refine lv_iload_n hx hb dX7_of_123 rfl (lv_at hl 2 rfl) ?_
      refine yw_i (w1 := fun (u : Nat → Nat → Int32) => wl ad kv cy N u) hD hS hA (va_runV (As := [.int x0]) (rest := []) ⟨hx, hb, hml, hown, hts⟩ (g_X1_quarrelBits l dC dI cy _ ad kv N hN v_1 hv x0) (cwV 1 hts gX7_of_X1_quarrelBits rfl rfl rfl (by decide +kernel) ⟨Nat.le_of_ble_eq_true rfl, Nat.le_of_ble_eq_true rfl⟩) (yw_preV hE hK hP hD (ci := 1) (q0 := 13) rfl (wl_at (by omega) (ce_3 (by decide)))) rfl rfl hl.1 rfl (lv_room (Nat.le_of_ble_eq_true rfl)) dX7_of_124 ⟨Nat.le_of_ble_eq_true rfl, Nat.le_of_ble_eq_true rfl⟩) (fun r_4 v_4 H locs hw_4 hP hD hS => ?_)
      obtain ⟨hv, hw_4⟩ := hw_4
      have hfr : Fr v v_4 := hfr.trans hw_4
      refine yc_p hP hS (va_runS (As := [.int r_4]) (rest := []) ⟨hx, hb, hml, hown, hts⟩ (c_bitCount l r_4) (va_cwS 1 hts gX7_of_J6_bitCount_0f7a4 rfl rfl rfl (by decide +kernel) ⟨Nat.le_of_ble_eq_true rfl, Nat.le_of_ble_eq_true rfl⟩) ex_preP rfl rfl hl.1 rfl (lv_room (Nat.le_of_ble_eq_true rfl)) dX7_of_127 ⟨Nat.le_of_ble_eq_true rfl, Nat.le_of_ble_eq_true rfl⟩) (fun r_5 H locs hw_5 hP hS => ?_)
      exact W.iret (v := r_5) hx hb hr (fun t ht hW => ⟨⟨r_5, v_4, rfl, ⟨hv, hfr⟩, by rw [ht]; exact hP, hD⟩, hS.F ht⟩) hS.2.2 dX7_of_130
    · refine lv_tableIn (off := 110) (tgt := 131) hx hb dX7_of_21 (by rw [hsw]; decide) (by rw [hsw]; decide) (by rw [hsw]; decide) (by decide) ?_
      refine lv_aload_n hx hb dX7_of_131 rfl (lv_at hl 0 rfl) ?_
      refine va_get (D := (dC, dI)) (ci := 0) (v := .int (v_1 (29 + 15 * i3) 3)) (C := RX0) (T := TX0) (N := 11) hx hb hts (by decide +kernel) hown hK hP (29 + 15 * i3) (wl_at (by omega) (ce_9 (kd_c i3 hi3).1.1)) rfl 3 (by decide) (hts (.fieldLink RX7 102 "QuietStairs$Case" "weight" "I") (by decide +kernel)) (fun _ h9 => h9) rfl dX7_of_132 ?_
      refine lv_topi (fun x_4 ex_4 => ?_)
      exact W.iret (v := x_4) hx hb hr (fun t ht hW => ⟨⟨x_4, v_1, rfl, ⟨hv, hfr⟩, by rw [ht]; exact hP, hD⟩, hS.F ht⟩) hS.2.2 dX7_of_135
  · refine lv_if_ne (tgt := 10) hx hb dX7_of_5 (by decide) (fun c9 => absurd c9 (by decide)) (fun _ => ?_)
    refine lv_iconst (v := (-1)) hx hb dX7_of_8 (by decide) ?_
    exact W.iret (v := (-1)) hx hb hr (fun t ht hW => ⟨⟨(-1), v_1, rfl, ⟨hv, hfr⟩, by rw [ht]; exact hP, hD⟩, hS.F ht⟩) hS.2.2 dX7_of_9

set_option maxHeartbeats 4000000 in
set_option maxRecDepth 100000 in
theorem g_X7_many (l : Launch) (dC : Nat → ClassId) (dI : Nat → Nat → Nat) (cy : Nat → ClassId) (sz : Nat) (ad : Nat → Nat) (kv : Value) (N : Nat) (hN : 119 ≤ N) (v : Nat → Nat → Int32) (hv : Iv v)  (x0 : Int32) : Met l yX7_many wsX7_many ({ frames := 4, cells := 0, slots := 0, locals := 256 }) (va_Pc [.ref (ad 0), .int x0] (ex_Pre dC dI cy sz (wl ad kv cy N v))) (va_Qi (fun (r : Int32) (u : Nat → Nat → Int32) => Iv u ∧ Fr v u) (fun u t => ex_Pst dC dI (va_A (wl ad kv cy N v) sz) (wl ad kv cy N u) t) (va_A (wl ad kv cy N v) sz)) 0 0 (va_A (wl ad kv cy N v) sz) := by
  refine Met.ofW (cc := cX7_many) (maxL := 2) (ret := (some .int)) (by decide) rfl ?_
  intro p e s m args below meth c s₁ B hml hv
  obtain ⟨rfl, hsz, hE, hP, hK, hD0⟩ := hv
  have hx := B.exec
  have hb := B.bytes
  have hr := B.returns
  have hts := atoms_spec (ws := wsX7_many) B.pre
  have hown : s.vm.findClass RX7 = some m.cls := findClass_of_methodNamed B.named
  have hlocks := B.notSynchronized
  subst hsz
  have hD := hD0.self (sz := s.heap.size)
  generalize hAe : va_A (wl ad kv cy N v) s.heap.size = A at hD ⊢
  have hA : ∀ q : Nat, s.heap.size ≤ q → A q := fun q h => by rw [← hAe]; exact Or.inr h
  have hS : va_S A s.heap s.heap [] := va_S.rf
  have hP : va_P (dC, dI) vwCl (wl ad kv cy N v) s.heap := hP
  have hl := lv_entry ([.ref (ad 0), .int x0]) (n := 2) (Nat.le_of_ble_eq_true rfl)
  rw [lg_entry_eq]
  generalize (lg_sl ([.ref (ad 0), .int x0]) ++ List.replicate (2 - (lg_sl ([.ref (ad 0), .int x0])).length) Slot.unset).toArray = ls at hl ⊢
  have hl : lv_has ls 2 [(0, .ref (ad 0)), (1, .int x0)] := hl
  have hfr : Fr v v := Fr.rf
  refine lv_iload_n hx hb dX7_many_0 rfl (lv_at hl 1 rfl) ?_
  rcases sw_11 x0 with hsw | hsw | hsw | hsw | hsw | hsw | hsw | hsw | hsw | hsw | hsw | hsw
  · refine lv_tableOut (tgt := 153) hx hb dX7_many_1 hsw (by decide) ?_
    refine lv_iconst (v := (-1)) hx hb dX7_many_153 (by decide) ?_
    exact W.iret (v := (-1)) hx hb hr (fun t ht hW => ⟨⟨(-1), v, rfl, ⟨hv, hfr⟩, by rw [ht]; exact hP, hD⟩, hS.F ht⟩) hS.2.2 dX7_many_154
  · refine lv_tableIn (off := 59) (tgt := 60) hx hb dX7_many_1 (by rw [hsw]; decide) (by rw [hsw]; decide) (by rw [hsw]; decide) (by decide) ?_
    refine lv_aload_n hx hb dX7_many_60 rfl (lv_at hl 0 rfl) ?_
    refine va_get (D := (dC, dI)) (ci := 7) (v := .ref (ad 13)) (C := RX7) (T := TX7) (N := 5) hx hb hts (by decide +kernel) hown hK hP (0) (wl_at (by omega) (ce_0 (by decide))) rfl 0 (by decide) (hts (.fieldLink RX7 12 "QuietStairs" "now" "LQuietStairs$House;") (by decide +kernel)) (fun _ h9 => h9) rfl dX7_many_61 ?_
    refine va_get (D := (dC, dI)) (ci := 1) (v := .int (v (13) 0)) (C := RX1) (T := TX1) (N := 7) hx hb hts (by decide +kernel) hown hK hP (13) (wl_at (by omega) (ce_3 (by decide))) rfl 0 (by decide) (hts (.fieldLink RX7 41 "QuietStairs$House" "partyCount" "I") (by decide +kernel)) (fun _ h9 => h9) rfl dX7_many_64 ?_
    refine lv_topi (fun x_1 ex_1 => ?_)
    have bx_1 : 0 ≤ x_1.toInt ∧ x_1.toInt ≤ 8 := by rw [ex_1]; exact hv.at (K := 3) (by decide) rfl
    exact W.iret (v := x_1) hx hb hr (fun t ht hW => ⟨⟨x_1, v, rfl, ⟨hv, hfr⟩, by rw [ht]; exact hP, hD⟩, hS.F ht⟩) hS.2.2 dX7_many_67
  · refine lv_tableIn (off := 67) (tgt := 68) hx hb dX7_many_1 (by rw [hsw]; decide) (by rw [hsw]; decide) (by rw [hsw]; decide) (by decide) ?_
    refine lv_aload_n hx hb dX7_many_68 rfl (lv_at hl 0 rfl) ?_
    refine va_get (D := (dC, dI)) (ci := 7) (v := .ref (ad 13)) (C := RX7) (T := TX7) (N := 5) hx hb hts (by decide +kernel) hown hK hP (0) (wl_at (by omega) (ce_0 (by decide))) rfl 0 (by decide) (hts (.fieldLink RX7 12 "QuietStairs" "now" "LQuietStairs$House;") (by decide +kernel)) (fun _ h9 => h9) rfl dX7_many_69 ?_
    refine va_get (D := (dC, dI)) (ci := 1) (v := .int (v (13) 1)) (C := RX1) (T := TX1) (N := 7) hx hb hts (by decide +kernel) hown hK hP (13) (wl_at (by omega) (ce_3 (by decide))) rfl 1 (by decide) (hts (.fieldLink RX7 56 "QuietStairs$House" "mediatorCount" "I") (by decide +kernel)) (fun _ h9 => h9) rfl dX7_many_72 ?_
    refine lv_topi (fun x_1 ex_1 => ?_)
    have bx_1 : 0 ≤ x_1.toInt ∧ x_1.toInt ≤ 4 := by rw [ex_1]; exact hv.at (K := 3) (by decide) rfl
    exact W.iret (v := x_1) hx hb hr (fun t ht hW => ⟨⟨x_1, v, rfl, ⟨hv, hfr⟩, by rw [ht]; exact hP, hD⟩, hS.F ht⟩) hS.2.2 dX7_many_75
  · refine lv_tableIn (off := 75) (tgt := 76) hx hb dX7_many_1 (by rw [hsw]; decide) (by rw [hsw]; decide) (by rw [hsw]; decide) (by decide) ?_
    refine lv_aload_n hx hb dX7_many_76 rfl (lv_at hl 0 rfl) ?_
    refine va_get (D := (dC, dI)) (ci := 7) (v := .ref (ad 13)) (C := RX7) (T := TX7) (N := 5) hx hb hts (by decide +kernel) hown hK hP (0) (wl_at (by omega) (ce_0 (by decide))) rfl 0 (by decide) (hts (.fieldLink RX7 12 "QuietStairs" "now" "LQuietStairs$House;") (by decide +kernel)) (fun _ h9 => h9) rfl dX7_many_77 ?_
    refine va_get (D := (dC, dI)) (ci := 1) (v := .int (v (13) 2)) (C := RX1) (T := TX1) (N := 7) hx hb hts (by decide +kernel) hown hK hP (13) (wl_at (by omega) (ce_3 (by decide))) rfl 2 (by decide) (hts (.fieldLink RX7 83 "QuietStairs$House" "caseCount" "I") (by decide +kernel)) (fun _ h9 => h9) rfl dX7_many_80 ?_
    refine lv_topi (fun x_1 ex_1 => ?_)
    have bx_1 : 0 ≤ x_1.toInt ∧ x_1.toInt ≤ 6 := by rw [ex_1]; exact hv.at (K := 3) (by decide) rfl
    exact W.iret (v := x_1) hx hb hr (fun t ht hW => ⟨⟨x_1, v, rfl, ⟨hv, hfr⟩, by rw [ht]; exact hP, hD⟩, hS.F ht⟩) hS.2.2 dX7_many_83
  · refine lv_tableIn (off := 83) (tgt := 84) hx hb dX7_many_1 (by rw [hsw]; decide) (by rw [hsw]; decide) (by rw [hsw]; decide) (by decide) ?_
    refine lv_aload_n hx hb dX7_many_84 rfl (lv_at hl 0 rfl) ?_
    refine va_get (D := (dC, dI)) (ci := 7) (v := .ref (ad 13)) (C := RX7) (T := TX7) (N := 5) hx hb hts (by decide +kernel) hown hK hP (0) (wl_at (by omega) (ce_0 (by decide))) rfl 0 (by decide) (hts (.fieldLink RX7 12 "QuietStairs" "now" "LQuietStairs$House;") (by decide +kernel)) (fun _ h9 => h9) rfl dX7_many_85 ?_
    refine lv_iconst (v := 0) hx hb dX7_many_88 (by decide) ?_
    refine yw_i (w1 := fun (u : Nat → Nat → Int32) => wl ad kv cy N u) hD hS hA (va_runV (As := [.int 0]) (rest := []) ⟨hx, hb, hml, hown, hts⟩ (g_X1_countState l dC dI cy _ ad kv N hN v hv 0) (cwV 1 hts gX7_many_X1_countState rfl rfl rfl (by decide +kernel) ⟨Nat.le_of_ble_eq_true rfl, Nat.le_of_ble_eq_true rfl⟩) (yw_preV hE hK hP hD (ci := 1) (q0 := 13) rfl (wl_at (by omega) (ce_3 (by decide)))) rfl rfl hl.1 rfl (lv_room (Nat.le_of_ble_eq_true rfl)) dX7_many_89 ⟨Nat.le_of_ble_eq_true rfl, Nat.le_of_ble_eq_true rfl⟩) (fun r_1 v_1 H locs hw_1 hP hD hS => ?_)
    obtain ⟨hv, hw_1⟩ := hw_1
    have hfr : Fr v v_1 := hfr.trans hw_1
    exact W.iret (v := r_1) hx hb hr (fun t ht hW => ⟨⟨r_1, v_1, rfl, ⟨hv, hfr⟩, by rw [ht]; exact hP, hD⟩, hS.F ht⟩) hS.2.2 dX7_many_92
  · refine lv_tableIn (off := 92) (tgt := 93) hx hb dX7_many_1 (by rw [hsw]; decide) (by rw [hsw]; decide) (by rw [hsw]; decide) (by decide) ?_
    refine lv_aload_n hx hb dX7_many_93 rfl (lv_at hl 0 rfl) ?_
    refine va_get (D := (dC, dI)) (ci := 7) (v := .ref (ad 13)) (C := RX7) (T := TX7) (N := 5) hx hb hts (by decide +kernel) hown hK hP (0) (wl_at (by omega) (ce_0 (by decide))) rfl 0 (by decide) (hts (.fieldLink RX7 12 "QuietStairs" "now" "LQuietStairs$House;") (by decide +kernel)) (fun _ h9 => h9) rfl dX7_many_94 ?_
    refine lv_iconst (v := 1) hx hb dX7_many_97 (by decide) ?_
    refine yw_i (w1 := fun (u : Nat → Nat → Int32) => wl ad kv cy N u) hD hS hA (va_runV (As := [.int 1]) (rest := []) ⟨hx, hb, hml, hown, hts⟩ (g_X1_countState l dC dI cy _ ad kv N hN v hv 1) (cwV 1 hts gX7_many_X1_countState rfl rfl rfl (by decide +kernel) ⟨Nat.le_of_ble_eq_true rfl, Nat.le_of_ble_eq_true rfl⟩) (yw_preV hE hK hP hD (ci := 1) (q0 := 13) rfl (wl_at (by omega) (ce_3 (by decide)))) rfl rfl hl.1 rfl (lv_room (Nat.le_of_ble_eq_true rfl)) dX7_many_98 ⟨Nat.le_of_ble_eq_true rfl, Nat.le_of_ble_eq_true rfl⟩) (fun r_1 v_1 H locs hw_1 hP hD hS => ?_)
    obtain ⟨hv, hw_1⟩ := hw_1
    have hfr : Fr v v_1 := hfr.trans hw_1
    exact W.iret (v := r_1) hx hb hr (fun t ht hW => ⟨⟨r_1, v_1, rfl, ⟨hv, hfr⟩, by rw [ht]; exact hP, hD⟩, hS.F ht⟩) hS.2.2 dX7_many_101
  · refine lv_tableIn (off := 101) (tgt := 102) hx hb dX7_many_1 (by rw [hsw]; decide) (by rw [hsw]; decide) (by rw [hsw]; decide) (by decide) ?_
    refine lv_aload_n hx hb dX7_many_102 rfl (lv_at hl 0 rfl) ?_
    refine va_get (D := (dC, dI)) (ci := 7) (v := .ref (ad 13)) (C := RX7) (T := TX7) (N := 5) hx hb hts (by decide +kernel) hown hK hP (0) (wl_at (by omega) (ce_0 (by decide))) rfl 0 (by decide) (hts (.fieldLink RX7 12 "QuietStairs" "now" "LQuietStairs$House;") (by decide +kernel)) (fun _ h9 => h9) rfl dX7_many_103 ?_
    refine va_get (D := (dC, dI)) (ci := 1) (v := .int (v (13) 3)) (C := RX1) (T := TX1) (N := 7) hx hb hts (by decide +kernel) hown hK hP (13) (wl_at (by omega) (ce_3 (by decide))) rfl 3 (by decide) (hts (.fieldLink RX7 108 "QuietStairs$House" "markCount" "I") (by decide +kernel)) (fun _ h9 => h9) rfl dX7_many_106 ?_
    refine lv_topi (fun x_1 ex_1 => ?_)
    have bx_1 : 0 ≤ x_1.toInt ∧ x_1.toInt ≤ 6 := by rw [ex_1]; exact hv.at (K := 3) (by decide) rfl
    exact W.iret (v := x_1) hx hb hr (fun t ht hW => ⟨⟨x_1, v, rfl, ⟨hv, hfr⟩, by rw [ht]; exact hP, hD⟩, hS.F ht⟩) hS.2.2 dX7_many_109
  · refine lv_tableIn (off := 109) (tgt := 110) hx hb dX7_many_1 (by rw [hsw]; decide) (by rw [hsw]; decide) (by rw [hsw]; decide) (by decide) ?_
    refine lv_aload_n hx hb dX7_many_110 rfl (lv_at hl 0 rfl) ?_
    refine va_get (D := (dC, dI)) (ci := 7) (v := .ref (ad 13)) (C := RX7) (T := TX7) (N := 5) hx hb hts (by decide +kernel) hown hK hP (0) (wl_at (by omega) (ce_0 (by decide))) rfl 0 (by decide) (hts (.fieldLink RX7 12 "QuietStairs" "now" "LQuietStairs$House;") (by decide +kernel)) (fun _ h9 => h9) rfl dX7_many_111 ?_
    refine yw_i (w1 := fun (u : Nat → Nat → Int32) => wl ad kv cy N u) hD hS hA (va_runV (As := []) (rest := []) ⟨hx, hb, hml, hown, hts⟩ (g_X1_countQuarrels l dC dI cy _ ad kv N hN v hv ) (cwV 0 hts gX7_many_X1_countQuarrels rfl rfl rfl (by decide +kernel) ⟨Nat.le_of_ble_eq_true rfl, Nat.le_of_ble_eq_true rfl⟩) (yw_preV hE hK hP hD (ci := 1) (q0 := 13) rfl (wl_at (by omega) (ce_3 (by decide)))) rfl rfl hl.1 rfl (lv_room (Nat.le_of_ble_eq_true rfl)) dX7_many_114 ⟨Nat.le_of_ble_eq_true rfl, Nat.le_of_ble_eq_true rfl⟩) (fun r_1 v_1 H locs hw_1 hP hD hS => ?_)
    obtain ⟨hv, hw_1⟩ := hw_1
    have hfr : Fr v v_1 := hfr.trans hw_1
    exact W.iret (v := r_1) hx hb hr (fun t ht hW => ⟨⟨r_1, v_1, rfl, ⟨hv, hfr⟩, by rw [ht]; exact hP, hD⟩, hS.F ht⟩) hS.2.2 dX7_many_117
  · refine lv_tableIn (off := 117) (tgt := 118) hx hb dX7_many_1 (by rw [hsw]; decide) (by rw [hsw]; decide) (by rw [hsw]; decide) (by decide) ?_
    refine lv_aload_n hx hb dX7_many_118 rfl (lv_at hl 0 rfl) ?_
    refine va_get (D := (dC, dI)) (ci := 7) (v := .ref (ad 13)) (C := RX7) (T := TX7) (N := 5) hx hb hts (by decide +kernel) hown hK hP (0) (wl_at (by omega) (ce_0 (by decide))) rfl 0 (by decide) (hts (.fieldLink RX7 12 "QuietStairs" "now" "LQuietStairs$House;") (by decide +kernel)) (fun _ h9 => h9) rfl dX7_many_119 ?_
    refine yw_i (w1 := fun (u : Nat → Nat → Int32) => wl ad kv cy N u) hD hS hA (va_runV (As := []) (rest := []) ⟨hx, hb, hml, hown, hts⟩ (g_X1_countTerms l dC dI cy _ ad kv N hN v hv ) (cwV 0 hts gX7_many_X1_countTerms rfl rfl rfl (by decide +kernel) ⟨Nat.le_of_ble_eq_true rfl, Nat.le_of_ble_eq_true rfl⟩) (yw_preV hE hK hP hD (ci := 1) (q0 := 13) rfl (wl_at (by omega) (ce_3 (by decide)))) rfl rfl hl.1 rfl (lv_room (Nat.le_of_ble_eq_true rfl)) dX7_many_122 ⟨Nat.le_of_ble_eq_true rfl, Nat.le_of_ble_eq_true rfl⟩) (fun r_1 v_1 H locs hw_1 hP hD hS => ?_)
    obtain ⟨hv, hw_1⟩ := hw_1
    have hfr : Fr v v_1 := hfr.trans hw_1
    exact W.iret (v := r_1) hx hb hr (fun t ht hW => ⟨⟨r_1, v_1, rfl, ⟨hv, hfr⟩, by rw [ht]; exact hP, hD⟩, hS.F ht⟩) hS.2.2 dX7_many_125
  · refine lv_tableIn (off := 125) (tgt := 126) hx hb dX7_many_1 (by rw [hsw]; decide) (by rw [hsw]; decide) (by rw [hsw]; decide) (by decide) ?_
    refine lv_aload_n hx hb dX7_many_126 rfl (lv_at hl 0 rfl) ?_
    refine va_get (D := (dC, dI)) (ci := 7) (v := .ref (ad 13)) (C := RX7) (T := TX7) (N := 5) hx hb hts (by decide +kernel) hown hK hP (0) (wl_at (by omega) (ce_0 (by decide))) rfl 0 (by decide) (hts (.fieldLink RX7 12 "QuietStairs" "now" "LQuietStairs$House;") (by decide +kernel)) (fun _ h9 => h9) rfl dX7_many_127 ?_
    refine lv_iconst (v := 1) hx hb dX7_many_130 (by decide) ?_
    refine yw_i (w1 := fun (u : Nat → Nat → Int32) => wl ad kv cy N u) hD hS hA (va_runV (As := [.int 1]) (rest := []) ⟨hx, hb, hml, hown, hts⟩ (g_X1_countJudged l dC dI cy _ ad kv N hN v hv 1) (cwV 1 hts gX7_many_X1_countJudged rfl rfl rfl (by decide +kernel) ⟨Nat.le_of_ble_eq_true rfl, Nat.le_of_ble_eq_true rfl⟩) (yw_preV hE hK hP hD (ci := 1) (q0 := 13) rfl (wl_at (by omega) (ce_3 (by decide)))) rfl rfl hl.1 rfl (lv_room (Nat.le_of_ble_eq_true rfl)) dX7_many_131 ⟨Nat.le_of_ble_eq_true rfl, Nat.le_of_ble_eq_true rfl⟩) (fun r_1 v_1 H locs hw_1 hP hD hS => ?_)
    obtain ⟨hv, hw_1⟩ := hw_1
    have hfr : Fr v v_1 := hfr.trans hw_1
    exact W.iret (v := r_1) hx hb hr (fun t ht hW => ⟨⟨r_1, v_1, rfl, ⟨hv, hfr⟩, by rw [ht]; exact hP, hD⟩, hS.F ht⟩) hS.2.2 dX7_many_134
  · refine lv_tableIn (off := 134) (tgt := 135) hx hb dX7_many_1 (by rw [hsw]; decide) (by rw [hsw]; decide) (by rw [hsw]; decide) (by decide) ?_
    refine lv_aload_n hx hb dX7_many_135 rfl (lv_at hl 0 rfl) ?_
    refine va_get (D := (dC, dI)) (ci := 7) (v := .ref (ad 13)) (C := RX7) (T := TX7) (N := 5) hx hb hts (by decide +kernel) hown hK hP (0) (wl_at (by omega) (ce_0 (by decide))) rfl 0 (by decide) (hts (.fieldLink RX7 12 "QuietStairs" "now" "LQuietStairs$House;") (by decide +kernel)) (fun _ h9 => h9) rfl dX7_many_136 ?_
    refine lv_iconst (v := 0) hx hb dX7_many_139 (by decide) ?_
    refine yw_i (w1 := fun (u : Nat → Nat → Int32) => wl ad kv cy N u) hD hS hA (va_runV (As := [.int 0]) (rest := []) ⟨hx, hb, hml, hown, hts⟩ (g_X1_countJudged l dC dI cy _ ad kv N hN v hv 0) (cwV 1 hts gX7_many_X1_countJudged rfl rfl rfl (by decide +kernel) ⟨Nat.le_of_ble_eq_true rfl, Nat.le_of_ble_eq_true rfl⟩) (yw_preV hE hK hP hD (ci := 1) (q0 := 13) rfl (wl_at (by omega) (ce_3 (by decide)))) rfl rfl hl.1 rfl (lv_room (Nat.le_of_ble_eq_true rfl)) dX7_many_140 ⟨Nat.le_of_ble_eq_true rfl, Nat.le_of_ble_eq_true rfl⟩) (fun r_1 v_1 H locs hw_1 hP hD hS => ?_)
    obtain ⟨hv, hw_1⟩ := hw_1
    have hfr : Fr v v_1 := hfr.trans hw_1
    exact W.iret (v := r_1) hx hb hr (fun t ht hW => ⟨⟨r_1, v_1, rfl, ⟨hv, hfr⟩, by rw [ht]; exact hP, hD⟩, hS.F ht⟩) hS.2.2 dX7_many_143
  · refine lv_tableIn (off := 143) (tgt := 144) hx hb dX7_many_1 (by rw [hsw]; decide) (by rw [hsw]; decide) (by rw [hsw]; decide) (by decide) ?_
    refine lv_aload_n hx hb dX7_many_144 rfl (lv_at hl 0 rfl) ?_
    refine va_get (D := (dC, dI)) (ci := 7) (v := .ref (ad 13)) (C := RX7) (T := TX7) (N := 5) hx hb hts (by decide +kernel) hown hK hP (0) (wl_at (by omega) (ce_0 (by decide))) rfl 0 (by decide) (hts (.fieldLink RX7 12 "QuietStairs" "now" "LQuietStairs$House;") (by decide +kernel)) (fun _ h9 => h9) rfl dX7_many_145 ?_
    refine lv_iconst (v := 2) hx hb dX7_many_148 (by decide) ?_
    refine yw_i (w1 := fun (u : Nat → Nat → Int32) => wl ad kv cy N u) hD hS hA (va_runV (As := [.int 2]) (rest := []) ⟨hx, hb, hml, hown, hts⟩ (g_X1_countJudged l dC dI cy _ ad kv N hN v hv 2) (cwV 1 hts gX7_many_X1_countJudged rfl rfl rfl (by decide +kernel) ⟨Nat.le_of_ble_eq_true rfl, Nat.le_of_ble_eq_true rfl⟩) (yw_preV hE hK hP hD (ci := 1) (q0 := 13) rfl (wl_at (by omega) (ce_3 (by decide)))) rfl rfl hl.1 rfl (lv_room (Nat.le_of_ble_eq_true rfl)) dX7_many_149 ⟨Nat.le_of_ble_eq_true rfl, Nat.le_of_ble_eq_true rfl⟩) (fun r_1 v_1 H locs hw_1 hP hD hS => ?_)
    obtain ⟨hv, hw_1⟩ := hw_1
    have hfr : Fr v v_1 := hfr.trans hw_1
    exact W.iret (v := r_1) hx hb hr (fun t ht hW => ⟨⟨r_1, v_1, rfl, ⟨hv, hfr⟩, by rw [ht]; exact hP, hD⟩, hS.F ht⟩) hS.2.2 dX7_many_152
end
section
theorem dX6_hourBits_0 : decode cX6_hourBits 0 = .ok (.iconst 1, 1) := by decide +kernel
theorem dX6_hourBits_1 : decode cX6_hourBits 1 = .ok (.aload_n 0, 1) := by decide +kernel
theorem dX6_hourBits_2 : decode cX6_hourBits 2 = .ok (.getfield 7, 3) := by decide +kernel
theorem dX6_hourBits_5 : decode cX6_hourBits 5 = .ok (.iconst 1, 1) := by decide +kernel
theorem dX6_hourBits_6 : decode cX6_hourBits 6 = .ok (.iadd, 1) := by decide +kernel
theorem dX6_hourBits_7 : decode cX6_hourBits 7 = .ok (.ishl, 1) := by decide +kernel
theorem dX6_hourBits_8 : decode cX6_hourBits 8 = .ok (.iconst 1, 1) := by decide +kernel
theorem dX6_hourBits_9 : decode cX6_hourBits 9 = .ok (.aload_n 0, 1) := by decide +kernel
theorem dX6_hourBits_10 : decode cX6_hourBits 10 = .ok (.getfield 13, 3) := by decide +kernel
theorem dX6_hourBits_13 : decode cX6_hourBits 13 = .ok (.ishl, 1) := by decide +kernel
theorem dX6_hourBits_14 : decode cX6_hourBits 14 = .ok (.isub, 1) := by decide +kernel
theorem dX6_hourBits_15 : decode cX6_hourBits 15 = .ok (.ireturn, 1) := by decide +kernel
theorem dX5_allowedHours_0 : decode cX5_allowedHours 0 = .ok (.aload_n 1, 1) := by decide +kernel
set_option maxRecDepth 20000 in
theorem ggX5_allowedHours_X6_hourBits : GoodIn wsX5_allowedHours wsX6_hourBits := goodIn_r _ [9, 10, 11, 23, 24, 25, 26, 27] (by decide +kernel) (by decide +kernel)
set_option maxRecDepth 20000 in
theorem gX5_allowedHours_X6_hourBits : GoodIn wsX5_allowedHours (wsV RX5 41 RX6 yX6_hourBits wsX6_hourBits) := goodIn_app (goodIn_of _ (by decide +kernel)) ggX5_allowedHours_X6_hourBits
theorem dX5_allowedHours_1 : decode cX5_allowedHours 1 = .ok (.invokevirtual 41, 3) := by decide +kernel
theorem dX5_allowedHours_4 : decode cX5_allowedHours 4 = .ok (.istore_n 3, 1) := by decide +kernel
theorem dX5_allowedHours_5 : decode cX5_allowedHours 5 = .ok (.iconst 0, 1) := by decide +kernel
theorem dX5_allowedHours_6 : decode cX5_allowedHours 6 = .ok (.istore 4, 2) := by decide +kernel
theorem dX5_allowedHours_8 : decode cX5_allowedHours 8 = .ok (.iload 4, 2) := by decide +kernel
theorem dX5_allowedHours_10 : decode cX5_allowedHours 10 = .ok (.iload_n 2, 1) := by decide +kernel
theorem dX5_allowedHours_11 : decode cX5_allowedHours 11 = .ok (.if_icmp .ge 60, 3) := by decide +kernel
theorem dX5_allowedHours_71 : decode cX5_allowedHours 71 = .ok (.iload_n 3, 1) := by decide +kernel
theorem dX5_allowedHours_72 : decode cX5_allowedHours 72 = .ok (.ireturn, 1) := by decide +kernel
theorem dX5_allowedHours_14 : decode cX5_allowedHours 14 = .ok (.aload_n 0, 1) := by decide +kernel
theorem dX5_allowedHours_15 : decode cX5_allowedHours 15 = .ok (.getfield 22, 3) := by decide +kernel
theorem dX5_allowedHours_18 : decode cX5_allowedHours 18 = .ok (.iload 4, 2) := by decide +kernel
theorem dX5_allowedHours_20 : decode cX5_allowedHours 20 = .ok (.aaload, 1) := by decide +kernel
theorem dX5_allowedHours_21 : decode cX5_allowedHours 21 = .ok (.astore 5, 2) := by decide +kernel
theorem dX5_allowedHours_23 : decode cX5_allowedHours 23 = .ok (.aload 5, 2) := by decide +kernel
theorem dX5_allowedHours_25 : decode cX5_allowedHours 25 = .ok (.getfield 28, 3) := by decide +kernel
theorem dX5_allowedHours_28 : decode cX5_allowedHours 28 = .ok (.aload_n 1, 1) := by decide +kernel
theorem dX5_allowedHours_29 : decode cX5_allowedHours 29 = .ok (.getfield 28, 3) := by decide +kernel
theorem dX5_allowedHours_32 : decode cX5_allowedHours 32 = .ok (.if_icmp .ne 33, 3) := by decide +kernel
theorem dX5_allowedHours_65 : decode cX5_allowedHours 65 = .ok (.iinc 4 1, 3) := by decide +kernel
theorem dX5_allowedHours_68 : decode cX5_allowedHours 68 = .ok (.goto (-60), 3) := by decide +kernel
theorem dX5_allowedHours_35 : decode cX5_allowedHours 35 = .ok (.aload 5, 2) := by decide +kernel
theorem dX5_allowedHours_37 : decode cX5_allowedHours 37 = .ok (.getfield 33, 3) := by decide +kernel
theorem dX5_allowedHours_40 : decode cX5_allowedHours 40 = .ok (.ifCond .ne 25, 3) := by decide +kernel
theorem dX5_allowedHours_43 : decode cX5_allowedHours 43 = .ok (.aload 5, 2) := by decide +kernel
theorem dX5_allowedHours_45 : decode cX5_allowedHours 45 = .ok (.getfield 44, 3) := by decide +kernel
theorem dX5_allowedHours_48 : decode cX5_allowedHours 48 = .ok (.aload_n 1, 1) := by decide +kernel
theorem dX5_allowedHours_49 : decode cX5_allowedHours 49 = .ok (.getfield 44, 3) := by decide +kernel
theorem dX5_allowedHours_52 : decode cX5_allowedHours 52 = .ok (.if_icmp .ne 13, 3) := by decide +kernel
theorem dX5_allowedHours_55 : decode cX5_allowedHours 55 = .ok (.iload_n 3, 1) := by decide +kernel
theorem dX5_allowedHours_56 : decode cX5_allowedHours 56 = .ok (.aload 5, 2) := by decide +kernel
theorem dX5_allowedHours_58 : decode cX5_allowedHours 58 = .ok (.invokevirtual 41, 3) := by decide +kernel
theorem dX5_allowedHours_61 : decode cX5_allowedHours 61 = .ok (.iconst (-1), 1) := by decide +kernel
theorem dX5_allowedHours_62 : decode cX5_allowedHours 62 = .ok (.ixor, 1) := by decide +kernel
theorem dX5_allowedHours_63 : decode cX5_allowedHours 63 = .ok (.iand, 1) := by decide +kernel
theorem dX5_allowedHours_64 : decode cX5_allowedHours 64 = .ok (.istore_n 3, 1) := by decide +kernel
theorem dX5_read_0 : decode cX5_read 0 = .ok (.aload_n 0, 1) := by decide +kernel
theorem dX5_read_1 : decode cX5_read 1 = .ok (.iconst 0, 1) := by decide +kernel
theorem dX5_read_2 : decode cX5_read 2 = .ok (.putfield 18, 3) := by decide +kernel
theorem dX5_read_5 : decode cX5_read 5 = .ok (.iconst 0, 1) := by decide +kernel
theorem dX5_read_6 : decode cX5_read 6 = .ok (.istore 4, 2) := by decide +kernel
theorem dX5_read_8 : decode cX5_read 8 = .ok (.iload 4, 2) := by decide +kernel
theorem dX5_read_10 : decode cX5_read 10 = .ok (.iload_n 3, 1) := by decide +kernel
theorem dX5_read_11 : decode cX5_read 11 = .ok (.if_icmp .ge 72, 3) := by decide +kernel
theorem dX5_read_83 : decode cX5_read 83 = .ok (.return_, 1) := by decide +kernel
theorem dX5_read_14 : decode cX5_read 14 = .ok (.aload_n 1, 1) := by decide +kernel
theorem dX5_read_15 : decode cX5_read 15 = .ok (.getfield 22, 3) := by decide +kernel
theorem dX5_read_18 : decode cX5_read 18 = .ok (.iload 4, 2) := by decide +kernel
theorem dX5_read_20 : decode cX5_read 20 = .ok (.aaload, 1) := by decide +kernel
theorem dX5_read_21 : decode cX5_read 21 = .ok (.astore 5, 2) := by decide +kernel
theorem dX5_read_23 : decode cX5_read 23 = .ok (.aload 5, 2) := by decide +kernel
theorem dX5_read_25 : decode cX5_read 25 = .ok (.getfield 28, 3) := by decide +kernel
theorem dX5_read_28 : decode cX5_read 28 = .ok (.iload_n 2, 1) := by decide +kernel
theorem dX5_read_29 : decode cX5_read 29 = .ok (.if_icmp .ne 48, 3) := by decide +kernel
theorem dX5_read_77 : decode cX5_read 77 = .ok (.iinc 4 1, 3) := by decide +kernel
theorem dX5_read_80 : decode cX5_read 80 = .ok (.goto (-72), 3) := by decide +kernel
theorem dX5_read_32 : decode cX5_read 32 = .ok (.aload 5, 2) := by decide +kernel
theorem dX5_read_34 : decode cX5_read 34 = .ok (.getfield 33, 3) := by decide +kernel
theorem dX5_read_37 : decode cX5_read 37 = .ok (.ifCond .eq 40, 3) := by decide +kernel
theorem dX5_read_40 : decode cX5_read 40 = .ok (.aload_n 0, 1) := by decide +kernel
theorem dX5_read_41 : decode cX5_read 41 = .ok (.getfield 9, 3) := by decide +kernel
theorem dX5_read_44 : decode cX5_read 44 = .ok (.aload_n 0, 1) := by decide +kernel
theorem dX5_read_45 : decode cX5_read 45 = .ok (.getfield 18, 3) := by decide +kernel
theorem dX5_read_48 : decode cX5_read 48 = .ok (.iload 4, 2) := by decide +kernel
theorem dX5_read_50 : decode cX5_read 50 = .ok (.iastore, 1) := by decide +kernel
theorem dX5_read_51 : decode cX5_read 51 = .ok (.aload_n 0, 1) := by decide +kernel
theorem dX5_read_52 : decode cX5_read 52 = .ok (.getfield 15, 3) := by decide +kernel
theorem dX5_read_55 : decode cX5_read 55 = .ok (.aload_n 0, 1) := by decide +kernel
theorem dX5_read_56 : decode cX5_read 56 = .ok (.getfield 18, 3) := by decide +kernel
theorem dX5_read_59 : decode cX5_read 59 = .ok (.aload_n 1, 1) := by decide +kernel
theorem dX5_read_60 : decode cX5_read 60 = .ok (.aload 5, 2) := by decide +kernel
theorem dX5_read_62 : decode cX5_read 62 = .ok (.iload_n 3, 1) := by decide +kernel
set_option maxRecDepth 20000 in
theorem ggX5_read_X5_allowedHours : GoodIn wsX5_read wsX5_allowedHours := goodIn_r _ [10, 2, 3, 4, 11, 12, 13, 14, 15, 16, 17, 18, 22, 23, 24, 25, 26, 27, 28, 29, 30, 31, 32, 33, 34, 35, 36, 37] (by decide +kernel) (by decide +kernel)
set_option maxRecDepth 20000 in
theorem gX5_read_X5_allowedHours : GoodIn wsX5_read (va_wsS RX5 37 yX5_allowedHours wsX5_allowedHours) := goodIn_app (goodIn_of _ (by decide +kernel)) ggX5_read_X5_allowedHours
theorem dX5_read_63 : decode cX5_read 63 = .ok (.invokestatic 37, 3) := by decide +kernel
theorem dX5_read_66 : decode cX5_read 66 = .ok (.iastore, 1) := by decide +kernel
theorem dX5_read_67 : decode cX5_read 67 = .ok (.aload_n 0, 1) := by decide +kernel
theorem dX5_read_68 : decode cX5_read 68 = .ok (.dup, 1) := by decide +kernel
theorem dX5_read_69 : decode cX5_read 69 = .ok (.getfield 18, 3) := by decide +kernel
theorem dX5_read_72 : decode cX5_read 72 = .ok (.iconst 1, 1) := by decide +kernel
theorem dX5_read_73 : decode cX5_read 73 = .ok (.iadd, 1) := by decide +kernel
theorem dX5_read_74 : decode cX5_read 74 = .ok (.putfield 18, 3) := by decide +kernel
set_option maxHeartbeats 4000000 in
set_option maxRecDepth 100000 in
theorem g_X6_hourBits (l : Launch) (dC : Nat → ClassId) (dI : Nat → Nat → Nat) (cy : Nat → ClassId) (sz : Nat) (ad : Nat → Nat) (kv : Value) (N : Nat) (hN : 119 ≤ N) (v : Nat → Nat → Int32) (hv : Iv v) (i : Nat) (hi : i < 6) (j : Nat) (hj : j < 5) : Met l yX6_hourBits wsX6_hourBits ({ frames := 0, cells := 0, slots := 0, locals := 0 }) (va_Pc [.ref (ad (39 + 15 * i + j))] (ex_Pre dC dI cy sz (wl ad kv cy N v))) (va_Qi (fun (r : Int32) (u : Nat → Nat → Int32) => Iv u ∧ Fe v u) (fun u t => ex_Pst dC dI (va_A (wl ad kv cy N v) sz) (wl ad kv cy N u) t) (va_A (wl ad kv cy N v) sz)) 0 0 (va_A (wl ad kv cy N v) sz) := by
  refine Met.ofW (cc := cX6_hourBits) (maxL := 1) (ret := (some .int)) (by decide) rfl ?_
  intro p e s m args below meth c s₁ B hml hv
  obtain ⟨rfl, hsz, hE, hP, hK, hD0⟩ := hv
  have hx := B.exec
  have hb := B.bytes
  have hr := B.returns
  have hts := atoms_spec (ws := wsX6_hourBits) B.pre
  have hown : s.vm.findClass RX6 = some m.cls := findClass_of_methodNamed B.named
  have hlocks := B.notSynchronized
  subst hsz
  have hD := hD0.self (sz := s.heap.size)
  generalize hAe : va_A (wl ad kv cy N v) s.heap.size = A at hD ⊢
  have hA : ∀ q : Nat, s.heap.size ≤ q → A q := fun q h => by rw [← hAe]; exact Or.inr h
  have hS : va_S A s.heap s.heap [] := va_S.rf
  have hP : va_P (dC, dI) vwCl (wl ad kv cy N v) s.heap := hP
  have hl := lv_entry ([.ref (ad (39 + 15 * i + j))]) (n := 1) (Nat.le_of_ble_eq_true rfl)
  rw [lg_entry_eq]
  generalize (lg_sl ([.ref (ad (39 + 15 * i + j))]) ++ List.replicate (1 - (lg_sl ([.ref (ad (39 + 15 * i + j))])).length) Slot.unset).toArray = ls at hl ⊢
  have hl : lv_has ls 1 [(0, .ref (ad (39 + 15 * i + j)))] := hl
  have hfr : Fe v v := Fe.rf
  refine lv_iconst (v := 1) hx hb dX6_hourBits_0 (by decide) ?_
  refine lv_aload_n hx hb dX6_hourBits_1 rfl (lv_at hl 0 rfl) ?_
  refine va_get (D := (dC, dI)) (ci := 6) (v := .int (v (39 + 15 * i + j) 4)) (C := RX6) (T := TX6) (N := 5) hx hb hts (by decide +kernel) hown hK hP (39 + 15 * i + j) (wl_at (by omega) (ce_16 (kd_t i hi j hj).1)) rfl 4 (by decide) (hts (.fieldLink RX6 7 "QuietStairs$Term" "last" "I") (by decide +kernel)) (fun _ h9 => h9) rfl dX6_hourBits_2 ?_
  refine lv_topi (fun x_1 ex_1 => ?_)
  have bx_1 : 0 ≤ x_1.toInt ∧ x_1.toInt ≤ 23 := by rw [ex_1]; exact hv.at (K := 16) (kd_t i hi j hj).1 rfl
  refine lv_iconst (v := 1) hx hb dX6_hourBits_5 (by decide) ?_
  have k_1 : (1 : Int32).toInt = 1 := by decide
  refine lv_iadd hx hb dX6_hourBits_6 ?_
  refine lv_topi (fun x_2 ex_2 => ?_)
  have tx_2 : x_2.toInt = x_1.toInt + (1 : Int32).toInt := by rw [ex_2]; exact t_add ⟨by omega, by omega⟩
  refine lv_ishl hx hb dX6_hourBits_7 ?_
  refine lv_topi (fun x_3 ex_3 => ?_)
  refine lv_iconst (v := 1) hx hb dX6_hourBits_8 (by decide) ?_
  refine lv_aload_n hx hb dX6_hourBits_9 rfl (lv_at hl 0 rfl) ?_
  refine va_get (D := (dC, dI)) (ci := 6) (v := .int (v (39 + 15 * i + j) 3)) (C := RX6) (T := TX6) (N := 5) hx hb hts (by decide +kernel) hown hK hP (39 + 15 * i + j) (wl_at (by omega) (ce_16 (kd_t i hi j hj).1)) rfl 3 (by decide) (hts (.fieldLink RX6 13 "QuietStairs$Term" "first" "I") (by decide +kernel)) (fun _ h9 => h9) rfl dX6_hourBits_10 ?_
  refine lv_topi (fun x_4 ex_4 => ?_)
  have bx_4 : 0 ≤ x_4.toInt ∧ x_4.toInt ≤ 23 := by rw [ex_4]; exact hv.at (K := 16) (kd_t i hi j hj).1 rfl
  refine lv_ishl hx hb dX6_hourBits_13 ?_
  refine lv_topi (fun x_5 ex_5 => ?_)
  refine lv_isub hx hb dX6_hourBits_14 ?_
  refine lv_topi (fun x_6 ex_6 => ?_)
  exact W.iret (v := x_6) hx hb hr (fun t ht hW => ⟨⟨x_6, v, rfl, ⟨hv, hfr⟩, by rw [ht]; exact hP, hD⟩, hS.F ht⟩) hS.2.2 dX6_hourBits_15

set_option maxHeartbeats 4000000 in
set_option maxRecDepth 100000 in
theorem g_X5_allowedHours (l : Launch) (dC : Nat → ClassId) (dI : Nat → Nat → Nat) (cy : Nat → ClassId) (sz : Nat) (ad : Nat → Nat) (kv : Value) (N : Nat) (hN : 119 ≤ N) (v : Nat → Nat → Int32) (hv : Iv v) (i : Nat) (hi : i < 6) (j : Nat) (hj : j < 5) (x0 : Int32) (hs : 0 ≤ x0.toInt ∧ x0.toInt ≤ 5) : Met l yX5_allowedHours wsX5_allowedHours ({ frames := 1, cells := 0, slots := 0, locals := 64 }) (va_Pc [.ref (ad (29 + 15 * i)), .ref (ad (39 + 15 * i + j)), .int x0] (ex_Pre dC dI cy sz (wl ad kv cy N v))) (va_Qi (fun (r : Int32) (u : Nat → Nat → Int32) => Iv u ∧ Fe v u) (fun u t => ex_Pst dC dI (va_A (wl ad kv cy N v) sz) (wl ad kv cy N u) t) (va_A (wl ad kv cy N v) sz)) 0 0 (va_A (wl ad kv cy N v) sz) := by
  refine Met.ofW (cc := cX5_allowedHours) (maxL := 6) (ret := (some .int)) (by decide) rfl ?_
  intro p e s m args below meth c s₁ B hml hv
  obtain ⟨rfl, hsz, hE, hP, hK, hD0⟩ := hv
  have hx := B.exec
  have hb := B.bytes
  have hr := B.returns
  have hts := atoms_spec (ws := wsX5_allowedHours) B.pre
  have hown : s.vm.findClass RX5 = some m.cls := findClass_of_methodNamed B.named
  have hlocks := B.notSynchronized
  subst hsz
  have hD := hD0.self (sz := s.heap.size)
  generalize hAe : va_A (wl ad kv cy N v) s.heap.size = A at hD ⊢
  have hA : ∀ q : Nat, s.heap.size ≤ q → A q := fun q h => by rw [← hAe]; exact Or.inr h
  have hS : va_S A s.heap s.heap [] := va_S.rf
  have hP : va_P (dC, dI) vwCl (wl ad kv cy N v) s.heap := hP
  have hl := lv_entry ([.ref (ad (29 + 15 * i)), .ref (ad (39 + 15 * i + j)), .int x0]) (n := 6) (Nat.le_of_ble_eq_true rfl)
  rw [lg_entry_eq]
  generalize (lg_sl ([.ref (ad (29 + 15 * i)), .ref (ad (39 + 15 * i + j)), .int x0]) ++ List.replicate (6 - (lg_sl ([.ref (ad (29 + 15 * i)), .ref (ad (39 + 15 * i + j)), .int x0])).length) Slot.unset).toArray = ls at hl ⊢
  have hl : lv_has ls 6 [(0, .ref (ad (29 + 15 * i))), (1, .ref (ad (39 + 15 * i + j))), (2, .int x0)] := hl
  have hfr : Fe v v := Fe.rf
  refine lv_aload_n hx hb dX5_allowedHours_0 rfl (lv_at hl 1 rfl) ?_
  refine yw_i (w1 := fun (u : Nat → Nat → Int32) => wl ad kv cy N u) hD hS hA (va_runV (As := []) (rest := []) ⟨hx, hb, hml, hown, hts⟩ (g_X6_hourBits l dC dI cy _ ad kv N hN v hv i hi j hj) (cwV 0 hts gX5_allowedHours_X6_hourBits rfl rfl rfl (by decide +kernel) ⟨Nat.le_of_ble_eq_true rfl, Nat.le_of_ble_eq_true rfl⟩) (yw_preV hE hK hP hD (ci := 6) (q0 := (39 + 15 * i + j)) rfl (wl_at (by omega) (ce_16 (kd_t i hi j hj).1))) rfl rfl hl.1 rfl (lv_room (Nat.le_of_ble_eq_true rfl)) dX5_allowedHours_1 ⟨Nat.le_of_ble_eq_true rfl, Nat.le_of_ble_eq_true rfl⟩) (fun r_1 v_1 H locs hw_1 hP hD hS => ?_)
  obtain ⟨hv, hw_1⟩ := hw_1
  have hs_1 : v_1 = v := hw_1
  have hfr : Fe v v_1 := by rw [hs_1]; exact hfr
  refine lv_istore_n (lv' := [(3, .int r_1), (0, .ref (ad (29 + 15 * i))), (1, .ref (ad (39 + 15 * i + j))), (2, .int x0)]) hx hb dX5_allowedHours_4 rfl hl (by decide) rfl (fun ls hl => ?_)
  refine lv_iconst (v := 0) hx hb dX5_allowedHours_5 (by decide) ?_
  refine lv_istore (lv' := [(4, .int 0), (3, .int r_1), (0, .ref (ad (29 + 15 * i))), (1, .ref (ad (39 + 15 * i + j))), (2, .int x0)]) hx hb dX5_allowedHours_6 hl (by decide) rfl (fun ls hl => ?_)
  have k_0 : (0 : Int32).toInt = 0 := by decide
  have hloop_2 : ∀ (n : Nat) (y2_4 y2_3 : Int32) (u2 : Nat → Nat → Int32) (H : Heap) (locs : List Loc), 0 ≤ y2_4.toInt → y2_4.toInt ≤ 5 → (5 - y2_4.toInt).toNat < n → Iv u2 → Fe v u2 → va_P (dC, dI) vwCl (wl ad kv cy N u2) H → va_D A (wl ad kv cy N u2) → va_S A s.heap H locs → ∀ ls : Array Slot, lv_has ls 6 [(4, .int y2_4), (3, .int y2_3), (0, .ref (ad (29 + 15 * i))), (1, .ref (ad (39 + 15 * i + j))), (2, .int x0)] → W p l e (headSpec wsX5_allowedHours ({ frames := 1, cells := 0, slots := 0, locals := 64 })).room s m [Value.ref (ad (29 + 15 * i)), Value.ref (ad (39 + 15 * i + j)), Value.int x0].toArray below meth c H locs 0 0 (MQ below (va_Qi (fun (r : Int32) (u : Nat → Nat → Int32) => Iv u ∧ Fe v u) (fun u t => ex_Pst dC dI A (wl ad kv cy N u) t) A) [Value.ref (ad (29 + 15 * i)), Value.ref (ad (39 + 15 * i + j)), Value.int x0].toArray s 0 0 A) (F0 m 8 ls []) := by
    intro n
    induction n with
    | zero =>
      intro y2_4 y2_3 u2 H locs ay2_4 by2_4 hm_2 hv hfr hP hD hS ls hl
      exact absurd hm_2 (by omega)
    | succ n ih_2 =>
      intro y2_4 y2_3 u2 H locs ay2_4 by2_4 hm_2 hv hfr hP hD hS ls hl
      refine lv_iload hx hb dX5_allowedHours_8 (lv_at hl 0 rfl) ?_
      refine lv_iload_n hx hb dX5_allowedHours_10 rfl (lv_at hl 4 rfl) ?_
      refine lv_icmp_ge (tgt := 71) hx hb dX5_allowedHours_11 (by decide) (fun c_3 => ?_) (fun c_3 => ?_)
      · have tc_3 : y2_4.toInt ≥ x0.toInt := Int32.le_iff_toInt_le.mp c_3
        refine lv_iload_n hx hb dX5_allowedHours_71 rfl (lv_at hl 1 rfl) ?_
        exact W.iret (v := y2_3) hx hb hr (fun t ht hW => ⟨⟨y2_3, u2, rfl, ⟨hv, hfr⟩, by rw [ht]; exact hP, hD⟩, hS.F ht⟩) hS.2.2 dX5_allowedHours_72
      · have tc_3 : y2_4.toInt < x0.toInt := Int32.lt_iff_toInt_lt.mp (Int32.not_le.mp c_3)
        refine lv_aload_n hx hb dX5_allowedHours_14 rfl (lv_at hl 2 rfl) ?_
        refine va_get (D := (dC, dI)) (ci := 0) (v := .ref (ad (29 + 15 * i + 9))) (C := RX0) (T := TX0) (N := 11) hx hb hts (by decide +kernel) hown hK hP (29 + 15 * i) (wl_at (by omega) (ce_9 (kd_c i hi).1.1)) rfl 10 (by decide) (hts (.fieldLink RX5 22 "QuietStairs$Case" "terms" "[LQuietStairs$Term;") (by decide +kernel)) (fun _ h9 => h9) rfl dX5_allowedHours_15 ?_
        refine W.eq (g2 := F0 m 18 ls [.ref (ad (38 + 15 * i))]) (by rw [show 29 + 15 * i + 9 = 38 + 15 * i from by omega]) ?_
        refine lv_iload hx hb dX5_allowedHours_18 (lv_at hl 0 rfl) ?_
        obtain ⟨pi4, i4, hi4, ni4, mi4⟩ := t_in (x := y2_4) (n := 5) ⟨by omega, by omega⟩
        refine va_aldq hx hb hK hP (38 + 15 * i) 4 (wl_at (by omega) (ce_15 (kd_c i hi).1.2.2.2.2.2)) rfl pi4 dX5_allowedHours_20 ?_
        refine W.eq (g2 := F0 m 21 ls [.ref (ad (39 + 15 * i + i4))]) (by rw [ni4, if_pos hi4, show 38 + 15 * i + 1 + i4 = 39 + 15 * i + i4 from by omega]; rfl) ?_
        refine lv_astore (lv' := [(5, .ref (ad (39 + 15 * i + i4))), (4, .int y2_4), (3, .int y2_3), (0, .ref (ad (29 + 15 * i))), (1, .ref (ad (39 + 15 * i + j))), (2, .int x0)]) hx hb dX5_allowedHours_21 hl (by decide) rfl (fun ls hl => ?_)
        refine lv_aload hx hb dX5_allowedHours_23 (lv_at hl 0 rfl) ?_
        refine va_get (D := (dC, dI)) (ci := 6) (v := .int (u2 (39 + 15 * i + i4) 0)) (C := RX6) (T := TX6) (N := 5) hx hb hts (by decide +kernel) hown hK hP (39 + 15 * i + i4) (wl_at (by omega) (ce_16 (kd_t i hi i4 hi4).1)) rfl 0 (by decide) (hts (.fieldLink RX5 28 "QuietStairs$Term" "side" "I") (by decide +kernel)) (fun _ h9 => h9) rfl dX5_allowedHours_25 ?_
        refine lv_topi (fun x_5 ex_5 => ?_)
        have bx_5 : 0 ≤ x_5.toInt ∧ x_5.toInt ≤ 1 := by rw [ex_5]; exact hv.at (K := 16) (kd_t i hi i4 hi4).1 rfl
        refine lv_aload_n hx hb dX5_allowedHours_28 rfl (lv_at hl 4 rfl) ?_
        refine va_get (D := (dC, dI)) (ci := 6) (v := .int (u2 (39 + 15 * i + j) 0)) (C := RX6) (T := TX6) (N := 5) hx hb hts (by decide +kernel) hown hK hP (39 + 15 * i + j) (wl_at (by omega) (ce_16 (kd_t i hi j hj).1)) rfl 0 (by decide) (hts (.fieldLink RX5 28 "QuietStairs$Term" "side" "I") (by decide +kernel)) (fun _ h9 => h9) rfl dX5_allowedHours_29 ?_
        refine lv_topi (fun x_6 ex_6 => ?_)
        have bx_6 : 0 ≤ x_6.toInt ∧ x_6.toInt ≤ 1 := by rw [ex_6]; exact hv.at (K := 16) (kd_t i hi j hj).1 rfl
        refine lv_icmp_ne (tgt := 65) hx hb dX5_allowedHours_32 (by decide) (fun c_7 => ?_) (fun c_7 => ?_)
        · have tc_7 : x_5.toInt ≠ x_6.toInt := fun q => absurd (Int32.toInt_inj.mp q) c_7
          obtain ⟨x_8, ex_8⟩ : ∃ y : Int32, y = y2_4 + 1 := ⟨_, rfl⟩
          refine lv_iinc (v := x_8) (lv' := [(4, .int x_8), (5, .ref (ad (39 + 15 * i + i4))), (3, .int y2_3), (0, .ref (ad (29 + 15 * i))), (1, .ref (ad (39 + 15 * i + j))), (2, .int x0)]) hx hb dX5_allowedHours_65 hl (k := 1) rfl (by rw [ex_8]; rfl) (by decide) rfl (fun ls hl => ?_)
          have k_1 : (1 : Int32).toInt = 1 := by decide
          have tx_8 : x_8.toInt = y2_4.toInt + (1 : Int32).toInt := by rw [ex_8]; exact t_add ⟨by omega, by omega⟩
          refine lv_goto (tgt := 8) hx hb dX5_allowedHours_68 (by decide) ?_
          exact ih_2 x_8 y2_3 u2 H locs (by omega) (by omega) (by omega) hv hfr hP hD hS ls (lv_sub hl [0, 2, 3, 4, 5] rfl)
        · have tc_7 : x_5.toInt = x_6.toInt := by rw [c_7]
          refine lv_aload hx hb dX5_allowedHours_35 (lv_at hl 0 rfl) ?_
          refine va_get (D := (dC, dI)) (ci := 6) (v := .int (u2 (39 + 15 * i + i4) 1)) (C := RX6) (T := TX6) (N := 5) hx hb hts (by decide +kernel) hown hK hP (39 + 15 * i + i4) (wl_at (by omega) (ce_16 (kd_t i hi i4 hi4).1)) rfl 1 (by decide) (hts (.fieldLink RX5 33 "QuietStairs$Term" "must" "Z") (by decide +kernel)) (fun _ h9 => h9) rfl dX5_allowedHours_37 ?_
          refine lv_topi (fun x_8 ex_8 => ?_)
          have bx_8 : 0 ≤ x_8.toInt ∧ x_8.toInt ≤ 1 := by rw [ex_8]; exact hv.at (K := 16) (kd_t i hi i4 hi4).1 rfl
          refine lv_if_ne (tgt := 65) hx hb dX5_allowedHours_40 (by decide) (fun c_9 => ?_) (fun c_9 => ?_)
          · have tc_9 : x_8.toInt ≠ (0 : Int32).toInt := fun q => absurd (Int32.toInt_inj.mp q) c_9
            obtain ⟨x_10, ex_10⟩ : ∃ y : Int32, y = y2_4 + 1 := ⟨_, rfl⟩
            refine lv_iinc (v := x_10) (lv' := [(4, .int x_10), (5, .ref (ad (39 + 15 * i + i4))), (3, .int y2_3), (0, .ref (ad (29 + 15 * i))), (1, .ref (ad (39 + 15 * i + j))), (2, .int x0)]) hx hb dX5_allowedHours_65 hl (k := 1) rfl (by rw [ex_10]; rfl) (by decide) rfl (fun ls hl => ?_)
            have k_1 : (1 : Int32).toInt = 1 := by decide
            have tx_10 : x_10.toInt = y2_4.toInt + (1 : Int32).toInt := by rw [ex_10]; exact t_add ⟨by omega, by omega⟩
            refine lv_goto (tgt := 8) hx hb dX5_allowedHours_68 (by decide) ?_
            exact ih_2 x_10 y2_3 u2 H locs (by omega) (by omega) (by omega) hv hfr hP hD hS ls (lv_sub hl [0, 2, 3, 4, 5] rfl)
          · have tc_9 : x_8.toInt = (0 : Int32).toInt := by rw [c_9]
            refine lv_aload hx hb dX5_allowedHours_43 (lv_at hl 0 rfl) ?_
            refine va_get (D := (dC, dI)) (ci := 6) (v := .int (u2 (39 + 15 * i + i4) 2)) (C := RX6) (T := TX6) (N := 5) hx hb hts (by decide +kernel) hown hK hP (39 + 15 * i + i4) (wl_at (by omega) (ce_16 (kd_t i hi i4 hi4).1)) rfl 2 (by decide) (hts (.fieldLink RX5 44 "QuietStairs$Term" "act" "I") (by decide +kernel)) (fun _ h9 => h9) rfl dX5_allowedHours_45 ?_
            refine lv_topi (fun x_10 ex_10 => ?_)
            refine lv_aload_n hx hb dX5_allowedHours_48 rfl (lv_at hl 4 rfl) ?_
            refine va_get (D := (dC, dI)) (ci := 6) (v := .int (u2 (39 + 15 * i + j) 2)) (C := RX6) (T := TX6) (N := 5) hx hb hts (by decide +kernel) hown hK hP (39 + 15 * i + j) (wl_at (by omega) (ce_16 (kd_t i hi j hj).1)) rfl 2 (by decide) (hts (.fieldLink RX5 44 "QuietStairs$Term" "act" "I") (by decide +kernel)) (fun _ h9 => h9) rfl dX5_allowedHours_49 ?_
            refine lv_topi (fun x_11 ex_11 => ?_)
            refine lv_icmp_ne (tgt := 65) hx hb dX5_allowedHours_52 (by decide) (fun c_12 => ?_) (fun c_12 => ?_)
            · have tc_12 : x_10.toInt ≠ x_11.toInt := fun q => absurd (Int32.toInt_inj.mp q) c_12
              obtain ⟨x_13, ex_13⟩ : ∃ y : Int32, y = y2_4 + 1 := ⟨_, rfl⟩
              refine lv_iinc (v := x_13) (lv' := [(4, .int x_13), (5, .ref (ad (39 + 15 * i + i4))), (3, .int y2_3), (0, .ref (ad (29 + 15 * i))), (1, .ref (ad (39 + 15 * i + j))), (2, .int x0)]) hx hb dX5_allowedHours_65 hl (k := 1) rfl (by rw [ex_13]; rfl) (by decide) rfl (fun ls hl => ?_)
              have k_1 : (1 : Int32).toInt = 1 := by decide
              have tx_13 : x_13.toInt = y2_4.toInt + (1 : Int32).toInt := by rw [ex_13]; exact t_add ⟨by omega, by omega⟩
              refine lv_goto (tgt := 8) hx hb dX5_allowedHours_68 (by decide) ?_
              exact ih_2 x_13 y2_3 u2 H locs (by omega) (by omega) (by omega) hv hfr hP hD hS ls (lv_sub hl [0, 2, 3, 4, 5] rfl)
            · have tc_12 : x_10.toInt = x_11.toInt := by rw [c_12]
              refine lv_iload_n hx hb dX5_allowedHours_55 rfl (lv_at hl 2 rfl) ?_
              refine lv_aload hx hb dX5_allowedHours_56 (lv_at hl 0 rfl) ?_
              refine yw_i (w1 := fun (u : Nat → Nat → Int32) => wl ad kv cy N u) hD hS hA (va_runV (As := []) (rest := [.int y2_3]) ⟨hx, hb, hml, hown, hts⟩ (g_X6_hourBits l dC dI cy _ ad kv N hN u2 hv i hi i4 hi4) (cwV 0 hts gX5_allowedHours_X6_hourBits rfl rfl rfl (by decide +kernel) ⟨Nat.le_of_ble_eq_true rfl, Nat.le_of_ble_eq_true rfl⟩) (yw_preV hE hK hP hD (ci := 6) (q0 := (39 + 15 * i + i4)) rfl (wl_at (by omega) (ce_16 (kd_t i hi i4 hi4).1))) rfl rfl hl.1 rfl (lv_room (Nat.le_of_ble_eq_true rfl)) dX5_allowedHours_58 ⟨Nat.le_of_ble_eq_true rfl, Nat.le_of_ble_eq_true rfl⟩) (fun r_13 v_13 H locs hw_13 hP hD hS => ?_)
              obtain ⟨hv, hw_13⟩ := hw_13
              have hs_13 : v_13 = u2 := hw_13
              have hfr : Fe v v_13 := by rw [hs_13]; exact hfr
              refine lv_iconst (v := (-1)) hx hb dX5_allowedHours_61 (by decide) ?_
              refine lv_ixor hx hb dX5_allowedHours_62 ?_
              refine lv_topi (fun x_14 ex_14 => ?_)
              refine lv_iand hx hb dX5_allowedHours_63 ?_
              refine lv_topi (fun x_15 ex_15 => ?_)
              refine lv_istore_n (lv' := [(3, .int x_15), (5, .ref (ad (39 + 15 * i + i4))), (4, .int y2_4), (0, .ref (ad (29 + 15 * i))), (1, .ref (ad (39 + 15 * i + j))), (2, .int x0)]) hx hb dX5_allowedHours_64 rfl hl (by decide) rfl (fun ls hl => ?_)
              obtain ⟨x_16, ex_16⟩ : ∃ y : Int32, y = y2_4 + 1 := ⟨_, rfl⟩
              refine lv_iinc (v := x_16) (lv' := [(4, .int x_16), (3, .int x_15), (5, .ref (ad (39 + 15 * i + i4))), (0, .ref (ad (29 + 15 * i))), (1, .ref (ad (39 + 15 * i + j))), (2, .int x0)]) hx hb dX5_allowedHours_65 hl (k := 2) rfl (by rw [ex_16]; rfl) (by decide) rfl (fun ls hl => ?_)
              have k_1 : (1 : Int32).toInt = 1 := by decide
              have tx_16 : x_16.toInt = y2_4.toInt + (1 : Int32).toInt := by rw [ex_16]; exact t_add ⟨by omega, by omega⟩
              refine lv_goto (tgt := 8) hx hb dX5_allowedHours_68 (by decide) ?_
              exact ih_2 x_16 x_15 v_13 H locs (by omega) (by omega) (by omega) hv hfr hP hD hS ls (lv_sub hl [0, 1, 3, 4, 5] rfl)
  exact hloop_2 ((5 - (0 : Int32).toInt).toNat + 1) 0 r_1 v_1 _ _ (by omega) (by omega) (by omega) hv hfr hP hD hS ls hl

set_option maxHeartbeats 4000000 in
set_option maxRecDepth 100000 in
theorem g_X5_read (l : Launch) (dC : Nat → ClassId) (dI : Nat → Nat → Nat) (cy : Nat → ClassId) (sz : Nat) (ad : Nat → Nat) (kv : Value) (N : Nat) (hN : 119 ≤ N) (v : Nat → Nat → Int32) (hv : Iv v) (i : Nat) (hi : i < 6) (x0 x1 : Int32) (hs : 0 ≤ x1.toInt ∧ x1.toInt ≤ 5) : Met l yX5_read wsX5_read ({ frames := 2, cells := 0, slots := 0, locals := 128 }) (va_Pc [.ref (ad 10), .ref (ad (29 + 15 * i)), .int x0, .int x1] (ex_Pre dC dI cy sz (wl ad kv cy N v))) (va_Qv (fun (u : Nat → Nat → Int32) => Iv u ∧ Fr v u) (fun u t => ex_Pst dC dI (va_A (wl ad kv cy N v) sz) (wl ad kv cy N u) t) (va_A (wl ad kv cy N v) sz)) 0 0 (va_A (wl ad kv cy N v) sz) := by
  refine Met.ofW (cc := cX5_read) (maxL := 6) (ret := none) (by decide) rfl ?_
  intro p e s m args below meth c s₁ B hml hv
  obtain ⟨rfl, hsz, hE, hP, hK, hD0⟩ := hv
  have hx := B.exec
  have hb := B.bytes
  have hr := B.returns
  have hts := atoms_spec (ws := wsX5_read) B.pre
  have hown : s.vm.findClass RX5 = some m.cls := findClass_of_methodNamed B.named
  have hlocks := B.notSynchronized
  subst hsz
  have hD := hD0.self (sz := s.heap.size)
  generalize hAe : va_A (wl ad kv cy N v) s.heap.size = A at hD ⊢
  have hA : ∀ q : Nat, s.heap.size ≤ q → A q := fun q h => by rw [← hAe]; exact Or.inr h
  have hS : va_S A s.heap s.heap [] := va_S.rf
  have hP : va_P (dC, dI) vwCl (wl ad kv cy N v) s.heap := hP
  have hl := lv_entry ([.ref (ad 10), .ref (ad (29 + 15 * i)), .int x0, .int x1]) (n := 6) (Nat.le_of_ble_eq_true rfl)
  rw [lg_entry_eq]
  generalize (lg_sl ([.ref (ad 10), .ref (ad (29 + 15 * i)), .int x0, .int x1]) ++ List.replicate (6 - (lg_sl ([.ref (ad 10), .ref (ad (29 + 15 * i)), .int x0, .int x1])).length) Slot.unset).toArray = ls at hl ⊢
  have hl : lv_has ls 6 [(0, .ref (ad 10)), (1, .ref (ad (29 + 15 * i))), (2, .int x0), (3, .int x1)] := hl
  have hfr : Fr v v := Fr.rf
  refine lv_aload_n hx hb dX5_read_0 rfl (lv_at hl 0 rfl) ?_
  refine lv_iconst (v := 0) hx hb dX5_read_1 (by decide) ?_
  refine va_put (D := (dC, dI)) (ci := 5) (v := .int 0) (ty := .int) (C := RX5) (T := TX5) (N := 3) hx hb hts (by decide +kernel) tyX5 tyX5_ok nmX5 hown hK hP hD hS (10) (wl_at (by omega) (ce_2 (by decide))) rfl 0 (by decide) (hts (.fieldLink RX5 18 "QuietStairs$Table" "count" "I") (by decide +kernel)) (fun _ h9 => h9) rfl (by decide +kernel) rfl rfl (Nat.le_of_ble_eq_true rfl) dX5_read_2 (fun H locs hP hD hS => ?_)
  have k_0 : (0 : Int32).toInt = 0 := by decide
  obtain ⟨v_1, ev_1⟩ : ∃ u : Nat → Nat → Int32, u = upr v (10) (upd (v (10)) 0 0) := ⟨_, rfl⟩
  have hP : va_P (dC, dI) vwCl (wl ad kv cy N v_1) H := by rw [ev_1, ← wl_put (e := _) (ce_2 (by decide))]; exact hP
  have hD : va_D A (wl ad kv cy N v_1) := by rw [ev_1, ← wl_put (e := _) (ce_2 (by decide))]; exact hD
  have hv : Iv v_1 := by rw [ev_1]; exact hv.put (K := 2) (by decide) (fun h q => by cases q; exact ⟨by omega, by omega⟩)
  have hfr : Fr v v_1 := by rw [ev_1]; exact hfr.put (by omega) (by omega) (by omega)
  refine lv_iconst (v := 0) hx hb dX5_read_5 (by decide) ?_
  refine lv_istore (lv' := [(4, .int 0), (0, .ref (ad 10)), (1, .ref (ad (29 + 15 * i))), (2, .int x0), (3, .int x1)]) hx hb dX5_read_6 hl (by decide) rfl (fun ls hl => ?_)
  have hz_3 : (v_1 10 0).toInt = (0 : Int32).toInt := by rw [ev_1, upr_s, pk_us]
  have hloop_2 : ∀ (n : Nat) (y2_4 : Int32) (u2 : Nat → Nat → Int32) (H : Heap) (locs : List Loc), 0 ≤ y2_4.toInt → y2_4.toInt ≤ 5 → (u2 10 0).toInt ≤ y2_4.toInt → (5 - y2_4.toInt).toNat < n → Iv u2 → Fr v u2 → va_P (dC, dI) vwCl (wl ad kv cy N u2) H → va_D A (wl ad kv cy N u2) → va_S A s.heap H locs → ∀ ls : Array Slot, lv_has ls 6 [(4, .int y2_4), (0, .ref (ad 10)), (1, .ref (ad (29 + 15 * i))), (2, .int x0), (3, .int x1)] → W p l e (headSpec wsX5_read ({ frames := 2, cells := 0, slots := 0, locals := 128 })).room s m [Value.ref (ad 10), Value.ref (ad (29 + 15 * i)), Value.int x0, Value.int x1].toArray below meth c H locs 0 0 (MQ below (va_Qv (fun (u : Nat → Nat → Int32) => Iv u ∧ Fr v u) (fun u t => ex_Pst dC dI A (wl ad kv cy N u) t) A) [Value.ref (ad 10), Value.ref (ad (29 + 15 * i)), Value.int x0, Value.int x1].toArray s 0 0 A) (F0 m 8 ls []) := by
    intro n
    induction n with
    | zero =>
      intro y2_4 u2 H locs ay2_4 by2_4 hx_2 hm_2 hv hfr hP hD hS ls hl
      exact absurd hm_2 (by omega)
    | succ n ih_2 =>
      intro y2_4 u2 H locs ay2_4 by2_4 hx_2 hm_2 hv hfr hP hD hS ls hl
      refine lv_iload hx hb dX5_read_8 (lv_at hl 0 rfl) ?_
      refine lv_iload_n hx hb dX5_read_10 rfl (lv_at hl 4 rfl) ?_
      refine lv_icmp_ge (tgt := 83) hx hb dX5_read_11 (by decide) (fun c_4 => ?_) (fun c_4 => ?_)
      · have tc_4 : y2_4.toInt ≥ x1.toInt := Int32.le_iff_toInt_le.mp c_4
        exact W.vret hx hb hr (fun t ht hW => ⟨⟨u2, rfl, ⟨hv, hfr⟩, by rw [ht]; exact hP, hD⟩, hS.F ht⟩) hS.2.2 dX5_read_83
      · have tc_4 : y2_4.toInt < x1.toInt := Int32.lt_iff_toInt_lt.mp (Int32.not_le.mp c_4)
        refine lv_aload_n hx hb dX5_read_14 rfl (lv_at hl 2 rfl) ?_
        refine va_get (D := (dC, dI)) (ci := 0) (v := .ref (ad (29 + 15 * i + 9))) (C := RX0) (T := TX0) (N := 11) hx hb hts (by decide +kernel) hown hK hP (29 + 15 * i) (wl_at (by omega) (ce_9 (kd_c i hi).1.1)) rfl 10 (by decide) (hts (.fieldLink RX5 22 "QuietStairs$Case" "terms" "[LQuietStairs$Term;") (by decide +kernel)) (fun _ h9 => h9) rfl dX5_read_15 ?_
        refine W.eq (g2 := F0 m 18 ls [.ref (ad (38 + 15 * i))]) (by rw [show 29 + 15 * i + 9 = 38 + 15 * i from by omega]) ?_
        refine lv_iload hx hb dX5_read_18 (lv_at hl 0 rfl) ?_
        obtain ⟨pi5, i5, hi5, ni5, mi5⟩ := t_in (x := y2_4) (n := 5) ⟨by omega, by omega⟩
        refine va_aldq hx hb hK hP (38 + 15 * i) 4 (wl_at (by omega) (ce_15 (kd_c i hi).1.2.2.2.2.2)) rfl pi5 dX5_read_20 ?_
        refine W.eq (g2 := F0 m 21 ls [.ref (ad (39 + 15 * i + i5))]) (by rw [ni5, if_pos hi5, show 38 + 15 * i + 1 + i5 = 39 + 15 * i + i5 from by omega]; rfl) ?_
        refine lv_astore (lv' := [(5, .ref (ad (39 + 15 * i + i5))), (4, .int y2_4), (0, .ref (ad 10)), (1, .ref (ad (29 + 15 * i))), (2, .int x0), (3, .int x1)]) hx hb dX5_read_21 hl (by decide) rfl (fun ls hl => ?_)
        refine lv_aload hx hb dX5_read_23 (lv_at hl 0 rfl) ?_
        refine va_get (D := (dC, dI)) (ci := 6) (v := .int (u2 (39 + 15 * i + i5) 0)) (C := RX6) (T := TX6) (N := 5) hx hb hts (by decide +kernel) hown hK hP (39 + 15 * i + i5) (wl_at (by omega) (ce_16 (kd_t i hi i5 hi5).1)) rfl 0 (by decide) (hts (.fieldLink RX5 28 "QuietStairs$Term" "side" "I") (by decide +kernel)) (fun _ h9 => h9) rfl dX5_read_25 ?_
        refine lv_topi (fun x_6 ex_6 => ?_)
        have bx_6 : 0 ≤ x_6.toInt ∧ x_6.toInt ≤ 1 := by rw [ex_6]; exact hv.at (K := 16) (kd_t i hi i5 hi5).1 rfl
        refine lv_iload_n hx hb dX5_read_28 rfl (lv_at hl 4 rfl) ?_
        refine lv_icmp_ne (tgt := 77) hx hb dX5_read_29 (by decide) (fun c_7 => ?_) (fun c_7 => ?_)
        · have tc_7 : x_6.toInt ≠ x0.toInt := fun q => absurd (Int32.toInt_inj.mp q) c_7
          obtain ⟨x_8, ex_8⟩ : ∃ y : Int32, y = y2_4 + 1 := ⟨_, rfl⟩
          refine lv_iinc (v := x_8) (lv' := [(4, .int x_8), (5, .ref (ad (39 + 15 * i + i5))), (0, .ref (ad 10)), (1, .ref (ad (29 + 15 * i))), (2, .int x0), (3, .int x1)]) hx hb dX5_read_77 hl (k := 1) rfl (by rw [ex_8]; rfl) (by decide) rfl (fun ls hl => ?_)
          have k_1 : (1 : Int32).toInt = 1 := by decide
          have tx_8 : x_8.toInt = y2_4.toInt + (1 : Int32).toInt := by rw [ex_8]; exact t_add ⟨by omega, by omega⟩
          refine lv_goto (tgt := 8) hx hb dX5_read_80 (by decide) ?_
          have hz_9 : (u2 10 0).toInt = (u2 10 0).toInt := rfl
          exact ih_2 x_8 u2 H locs (by omega) (by omega) (by omega) (by omega) hv hfr hP hD hS ls (lv_sub hl [0, 2, 3, 4, 5] rfl)
        · have tc_7 : x_6.toInt = x0.toInt := by rw [c_7]
          refine lv_aload hx hb dX5_read_32 (lv_at hl 0 rfl) ?_
          refine va_get (D := (dC, dI)) (ci := 6) (v := .int (u2 (39 + 15 * i + i5) 1)) (C := RX6) (T := TX6) (N := 5) hx hb hts (by decide +kernel) hown hK hP (39 + 15 * i + i5) (wl_at (by omega) (ce_16 (kd_t i hi i5 hi5).1)) rfl 1 (by decide) (hts (.fieldLink RX5 33 "QuietStairs$Term" "must" "Z") (by decide +kernel)) (fun _ h9 => h9) rfl dX5_read_34 ?_
          refine lv_topi (fun x_8 ex_8 => ?_)
          have bx_8 : 0 ≤ x_8.toInt ∧ x_8.toInt ≤ 1 := by rw [ex_8]; exact hv.at (K := 16) (kd_t i hi i5 hi5).1 rfl
          refine lv_if_eq (tgt := 77) hx hb dX5_read_37 (by decide) (fun c_9 => ?_) (fun c_9 => ?_)
          · have tc_9 : x_8.toInt = (0 : Int32).toInt := by rw [c_9]
            obtain ⟨x_10, ex_10⟩ : ∃ y : Int32, y = y2_4 + 1 := ⟨_, rfl⟩
            refine lv_iinc (v := x_10) (lv' := [(4, .int x_10), (5, .ref (ad (39 + 15 * i + i5))), (0, .ref (ad 10)), (1, .ref (ad (29 + 15 * i))), (2, .int x0), (3, .int x1)]) hx hb dX5_read_77 hl (k := 1) rfl (by rw [ex_10]; rfl) (by decide) rfl (fun ls hl => ?_)
            have k_1 : (1 : Int32).toInt = 1 := by decide
            have tx_10 : x_10.toInt = y2_4.toInt + (1 : Int32).toInt := by rw [ex_10]; exact t_add ⟨by omega, by omega⟩
            refine lv_goto (tgt := 8) hx hb dX5_read_80 (by decide) ?_
            have hz_11 : (u2 10 0).toInt = (u2 10 0).toInt := rfl
            exact ih_2 x_10 u2 H locs (by omega) (by omega) (by omega) (by omega) hv hfr hP hD hS ls (lv_sub hl [0, 2, 3, 4, 5] rfl)
          · have tc_9 : x_8.toInt ≠ (0 : Int32).toInt := fun q => absurd (Int32.toInt_inj.mp q) c_9
            refine lv_aload_n hx hb dX5_read_40 rfl (lv_at hl 2 rfl) ?_
            refine va_get (D := (dC, dI)) (ci := 5) (v := .ref (ad 11)) (C := RX5) (T := TX5) (N := 3) hx hb hts (by decide +kernel) hown hK hP (10) (wl_at (by omega) (ce_2 (by decide))) rfl 1 (by decide) (hts (.fieldLink RX5 9 "QuietStairs$Table" "musts" "[I") (by decide +kernel)) (fun _ h9 => h9) rfl dX5_read_41 ?_
            refine lv_aload_n hx hb dX5_read_44 rfl (lv_at hl 2 rfl) ?_
            refine va_get (D := (dC, dI)) (ci := 5) (v := .int (u2 (10) 0)) (C := RX5) (T := TX5) (N := 3) hx hb hts (by decide +kernel) hown hK hP (10) (wl_at (by omega) (ce_2 (by decide))) rfl 0 (by decide) (hts (.fieldLink RX5 18 "QuietStairs$Table" "count" "I") (by decide +kernel)) (fun _ h9 => h9) rfl dX5_read_45 ?_
            refine lv_topi (fun x_10 ex_10 => ?_)
            have qx_10 : x_10.toInt ≤ y2_4.toInt := by rw [ex_10]; exact hx_2
            have bx_10 : 0 ≤ x_10.toInt ∧ x_10.toInt ≤ 5 := by rw [ex_10]; exact hv.at (K := 2) (by decide) rfl
            refine lv_iload hx hb dX5_read_48 (lv_at hl 1 rfl) ?_
            obtain ⟨pi11, i11, hi11, ni11, mi11⟩ := t_in (x := x_10) (n := 5) ⟨by omega, by omega⟩
            refine va_iast hx hb hK hP hD hS (11) 0 (wl_at (by omega) (ce_19 (by decide))) rfl pi11 dX5_read_50 (fun H locs hP hD hS => ?_)
            obtain ⟨v_12, ev_12⟩ : ∃ u : Nat → Nat → Int32, u = upr u2 (11) (upd (u2 (11)) (x_10.toNatClampNeg) y2_4) := ⟨_, rfl⟩
            have hP : va_P (dC, dI) vwCl (wl ad kv cy N v_12) H := by rw [ev_12, ← wl_put (e := _) (ce_19 (by decide))]; exact hP
            have hD : va_D A (wl ad kv cy N v_12) := by rw [ev_12, ← wl_put (e := _) (ce_19 (by decide))]; exact hD
            have hv : Iv v_12 := by rw [ev_12]; exact hv.put (K := 19) (by decide) (fun h q => by simp [bd] at q)
            have hfr : Fr v v_12 := by rw [ev_12]; exact hfr.put (by omega) (by omega) (by omega)
            refine lv_aload_n hx hb dX5_read_51 rfl (lv_at hl 2 rfl) ?_
            refine va_get (D := (dC, dI)) (ci := 5) (v := .ref (ad 12)) (C := RX5) (T := TX5) (N := 3) hx hb hts (by decide +kernel) hown hK hP (10) (wl_at (by omega) (ce_2 (by decide))) rfl 2 (by decide) (hts (.fieldLink RX5 15 "QuietStairs$Table" "hourBits" "[I") (by decide +kernel)) (fun _ h9 => h9) rfl dX5_read_52 ?_
            refine lv_aload_n hx hb dX5_read_55 rfl (lv_at hl 2 rfl) ?_
            refine va_get (D := (dC, dI)) (ci := 5) (v := .int (v_12 (10) 0)) (C := RX5) (T := TX5) (N := 3) hx hb hts (by decide +kernel) hown hK hP (10) (wl_at (by omega) (ce_2 (by decide))) rfl 0 (by decide) (hts (.fieldLink RX5 18 "QuietStairs$Table" "count" "I") (by decide +kernel)) (fun _ h9 => h9) rfl dX5_read_56 ?_
            refine lv_topi (fun x_13 ex_13 => ?_)
            rw [ev_12, upr_n (by omega)] at ex_13
            rw [← ex_10] at ex_13; replace ex_13 := ex_13.symm; subst ex_13
            refine lv_aload_n hx hb dX5_read_59 rfl (lv_at hl 3 rfl) ?_
            refine lv_aload hx hb dX5_read_60 (lv_at hl 0 rfl) ?_
            refine lv_iload_n hx hb dX5_read_62 rfl (lv_at hl 5 rfl) ?_
            refine yw_i (w1 := fun (u : Nat → Nat → Int32) => wl ad kv cy N u) hD hS hA (va_runS (As := [.ref (ad (29 + 15 * i)), .ref (ad (39 + 15 * i + i5)), .int x1]) (rest := [.int x_10, .ref (ad 12)]) ⟨hx, hb, hml, hown, hts⟩ (g_X5_allowedHours l dC dI cy _ ad kv N hN v_12 hv i hi i5 hi5 x1 ⟨by omega, by omega⟩) (cwS 3 hts gX5_read_X5_allowedHours rfl rfl rfl (by decide +kernel) ⟨Nat.le_of_ble_eq_true rfl, Nat.le_of_ble_eq_true rfl⟩) (yw_preS hE hK hP hD) rfl rfl hl.1 rfl (lv_room (Nat.le_of_ble_eq_true rfl)) dX5_read_63 ⟨Nat.le_of_ble_eq_true rfl, Nat.le_of_ble_eq_true rfl⟩) (fun r_14 v_14 H locs hw_14 hP hD hS => ?_)
            obtain ⟨hv, hw_14⟩ := hw_14
            have hs_14 : v_14 = v_12 := hw_14
            have hfr : Fr v v_14 := by rw [hs_14]; exact hfr
            refine va_iast hx hb hK hP hD hS (12) 0 (wl_at (by omega) (ce_19 (by decide))) rfl pi11 dX5_read_66 (fun H locs hP hD hS => ?_)
            obtain ⟨v_15, ev_15⟩ : ∃ u : Nat → Nat → Int32, u = upr v_14 (12) (upd (v_14 (12)) (x_10.toNatClampNeg) r_14) := ⟨_, rfl⟩
            have hP : va_P (dC, dI) vwCl (wl ad kv cy N v_15) H := by rw [ev_15, ← wl_put (e := _) (ce_19 (by decide))]; exact hP
            have hD : va_D A (wl ad kv cy N v_15) := by rw [ev_15, ← wl_put (e := _) (ce_19 (by decide))]; exact hD
            have hv : Iv v_15 := by rw [ev_15]; exact hv.put (K := 19) (by decide) (fun h q => by simp [bd] at q)
            have hfr : Fr v v_15 := by rw [ev_15]; exact hfr.put (by omega) (by omega) (by omega)
            refine lv_aload_n hx hb dX5_read_67 rfl (lv_at hl 2 rfl) ?_
            refine lv_dup hx hb dX5_read_68 rfl ?_
            refine va_get (D := (dC, dI)) (ci := 5) (v := .int (v_15 (10) 0)) (C := RX5) (T := TX5) (N := 3) hx hb hts (by decide +kernel) hown hK hP (10) (wl_at (by omega) (ce_2 (by decide))) rfl 0 (by decide) (hts (.fieldLink RX5 18 "QuietStairs$Table" "count" "I") (by decide +kernel)) (fun _ h9 => h9) rfl dX5_read_69 ?_
            refine lv_topi (fun x_16 ex_16 => ?_)
            rw [ev_15, upr_n (by omega)] at ex_16
            rw [hs_14] at ex_16
            rw [ev_12, upr_n (by omega)] at ex_16
            rw [← ex_10] at ex_16; replace ex_16 := ex_16.symm; subst ex_16
            refine lv_iconst (v := 1) hx hb dX5_read_72 (by decide) ?_
            have k_1 : (1 : Int32).toInt = 1 := by decide
            refine lv_iadd hx hb dX5_read_73 ?_
            refine lv_topi (fun x_17 ex_17 => ?_)
            have tx_17 : x_17.toInt = x_10.toInt + (1 : Int32).toInt := by rw [ex_17]; exact t_add ⟨by omega, by omega⟩
            refine va_put (D := (dC, dI)) (ci := 5) (v := .int x_17) (ty := .int) (C := RX5) (T := TX5) (N := 3) hx hb hts (by decide +kernel) tyX5 tyX5_ok nmX5 hown hK hP hD hS (10) (wl_at (by omega) (ce_2 (by decide))) rfl 0 (by decide) (hts (.fieldLink RX5 18 "QuietStairs$Table" "count" "I") (by decide +kernel)) (fun _ h9 => h9) rfl (by decide +kernel) rfl rfl (Nat.le_of_ble_eq_true rfl) dX5_read_74 (fun H locs hP hD hS => ?_)
            obtain ⟨v_18, ev_18⟩ : ∃ u : Nat → Nat → Int32, u = upr v_15 (10) (upd (v_15 (10)) 0 x_17) := ⟨_, rfl⟩
            have hP : va_P (dC, dI) vwCl (wl ad kv cy N v_18) H := by rw [ev_18, ← wl_put (e := _) (ce_2 (by decide))]; exact hP
            have hD : va_D A (wl ad kv cy N v_18) := by rw [ev_18, ← wl_put (e := _) (ce_2 (by decide))]; exact hD
            have hv : Iv v_18 := by rw [ev_18]; exact hv.put (K := 2) (by decide) (fun h q => by cases q; exact ⟨by omega, by omega⟩)
            have hfr : Fr v v_18 := by rw [ev_18]; exact hfr.put (by omega) (by omega) (by omega)
            obtain ⟨x_19, ex_19⟩ : ∃ y : Int32, y = y2_4 + 1 := ⟨_, rfl⟩
            refine lv_iinc (v := x_19) (lv' := [(4, .int x_19), (5, .ref (ad (39 + 15 * i + i5))), (0, .ref (ad 10)), (1, .ref (ad (29 + 15 * i))), (2, .int x0), (3, .int x1)]) hx hb dX5_read_77 hl (k := 1) rfl (by rw [ex_19]; rfl) (by decide) rfl (fun ls hl => ?_)
            have tx_19 : x_19.toInt = y2_4.toInt + (1 : Int32).toInt := by rw [ex_19]; exact t_add ⟨by omega, by omega⟩
            refine lv_goto (tgt := 8) hx hb dX5_read_80 (by decide) ?_
            have hz_20 : (v_18 10 0).toInt = (x_17 : Int32).toInt := by rw [ev_18, upr_s, pk_us]
            exact ih_2 x_19 v_18 H locs (by omega) (by omega) (by omega) (by omega) hv hfr hP hD hS ls (lv_sub hl [0, 2, 3, 4, 5] rfl)
  exact hloop_2 ((5 - (0 : Int32).toInt).toNat + 1) 0 v_1 _ _ (by omega) (by omega) (by omega) (by omega) hv hfr hP hD hS ls hl
end
section
theorem dX5_stands_0 : decode cX5_stands 0 = .ok (.iconst 1, 1) := by decide +kernel
theorem dX5_stands_1 : decode cX5_stands 1 = .ok (.istore_n 1, 1) := by decide +kernel
theorem dX5_stands_2 : decode cX5_stands 2 = .ok (.iload_n 1, 1) := by decide +kernel
theorem dX5_stands_3 : decode cX5_stands 3 = .ok (.iconst 1, 1) := by decide +kernel
theorem dX5_stands_4 : decode cX5_stands 4 = .ok (.aload_n 0, 1) := by decide +kernel
theorem dX5_stands_5 : decode cX5_stands 5 = .ok (.getfield 18, 3) := by decide +kernel
theorem dX5_stands_8 : decode cX5_stands 8 = .ok (.ishl, 1) := by decide +kernel
theorem dX5_stands_9 : decode cX5_stands 9 = .ok (.if_icmp .ge 57, 3) := by decide +kernel
theorem dX5_stands_66 : decode cX5_stands 66 = .ok (.iconst 1, 1) := by decide +kernel
theorem dX5_stands_67 : decode cX5_stands 67 = .ok (.ireturn, 1) := by decide +kernel
theorem dX5_stands_12 : decode cX5_stands 12 = .ok (.iconst 0, 1) := by decide +kernel
theorem dX5_stands_13 : decode cX5_stands 13 = .ok (.istore_n 2, 1) := by decide +kernel
theorem dX5_stands_14 : decode cX5_stands 14 = .ok (.iconst 0, 1) := by decide +kernel
theorem dX5_stands_15 : decode cX5_stands 15 = .ok (.istore_n 3, 1) := by decide +kernel
theorem dX5_stands_16 : decode cX5_stands 16 = .ok (.iload_n 3, 1) := by decide +kernel
theorem dX5_stands_17 : decode cX5_stands 17 = .ok (.aload_n 0, 1) := by decide +kernel
theorem dX5_stands_18 : decode cX5_stands 18 = .ok (.getfield 18, 3) := by decide +kernel
theorem dX5_stands_21 : decode cX5_stands 21 = .ok (.if_icmp .ge 26, 3) := by decide +kernel
theorem dX5_stands_47 : decode cX5_stands 47 = .ok (.iload_n 2, 1) := by decide +kernel
set_option maxRecDepth 20000 in
theorem ggX5_stands_J6_bitCount_0f7a4 : GoodIn wsX5_stands wsJ6_bitCount_0f7a4 := goodIn_r _ [9, 10, 11, 12] (by decide +kernel) (by decide +kernel)
set_option maxRecDepth 20000 in
theorem gX5_stands_J6_bitCount_0f7a4 : GoodIn wsX5_stands (va_wsS RX5 51 yJ6_bitCount_0f7a4 wsJ6_bitCount_0f7a4) := goodIn_app (goodIn_of _ (by decide +kernel)) ggX5_stands_J6_bitCount_0f7a4
theorem dX5_stands_48 : decode cX5_stands 48 = .ok (.invokestatic 51, 3) := by decide +kernel
theorem dX5_stands_51 : decode cX5_stands 51 = .ok (.iload_n 1, 1) := by decide +kernel
theorem dX5_stands_52 : decode cX5_stands 52 = .ok (.invokestatic 51, 3) := by decide +kernel
theorem dX5_stands_55 : decode cX5_stands 55 = .ok (.if_icmp .ge 5, 3) := by decide +kernel
theorem dX5_stands_60 : decode cX5_stands 60 = .ok (.iinc 1 1, 3) := by decide +kernel
theorem dX5_stands_63 : decode cX5_stands 63 = .ok (.goto (-61), 3) := by decide +kernel
theorem dX5_stands_58 : decode cX5_stands 58 = .ok (.iconst 0, 1) := by decide +kernel
theorem dX5_stands_59 : decode cX5_stands 59 = .ok (.ireturn, 1) := by decide +kernel
theorem dX5_stands_24 : decode cX5_stands 24 = .ok (.iload_n 1, 1) := by decide +kernel
theorem dX5_stands_25 : decode cX5_stands 25 = .ok (.iload_n 3, 1) := by decide +kernel
set_option maxRecDepth 20000 in
theorem ggX5_stands_X7_hasBit : GoodIn wsX5_stands wsX7_hasBit := goodIn_r _ [5] (by decide +kernel) (by decide +kernel)
set_option maxRecDepth 20000 in
theorem gX5_stands_X7_hasBit_n47 : GoodIn wsX5_stands (wsX7_hasBit) := ggX5_stands_X7_hasBit
theorem dX5_stands_26 : decode cX5_stands 26 = .ok (.invokestatic 47, 3) := by decide +kernel
theorem dX5_stands_29 : decode cX5_stands 29 = .ok (.ifCond .eq 12, 3) := by decide +kernel
theorem dX5_stands_41 : decode cX5_stands 41 = .ok (.iinc 3 1, 3) := by decide +kernel
theorem dX5_stands_44 : decode cX5_stands 44 = .ok (.goto (-28), 3) := by decide +kernel
theorem dX5_stands_32 : decode cX5_stands 32 = .ok (.iload_n 2, 1) := by decide +kernel
theorem dX5_stands_33 : decode cX5_stands 33 = .ok (.aload_n 0, 1) := by decide +kernel
theorem dX5_stands_34 : decode cX5_stands 34 = .ok (.getfield 15, 3) := by decide +kernel
theorem dX5_stands_37 : decode cX5_stands 37 = .ok (.iload_n 3, 1) := by decide +kernel
theorem dX5_stands_38 : decode cX5_stands 38 = .ok (.iaload, 1) := by decide +kernel
theorem dX5_stands_39 : decode cX5_stands 39 = .ok (.ior, 1) := by decide +kernel
theorem dX5_stands_40 : decode cX5_stands 40 = .ok (.istore_n 2, 1) := by decide +kernel
theorem dX5_pinLeastHour_0 : decode cX5_pinLeastHour 0 = .ok (.aload_n 0, 1) := by decide +kernel
theorem dX5_pinLeastHour_1 : decode cX5_pinLeastHour 1 = .ok (.getfield 15, 3) := by decide +kernel
theorem dX5_pinLeastHour_4 : decode cX5_pinLeastHour 4 = .ok (.iload_n 1, 1) := by decide +kernel
theorem dX5_pinLeastHour_5 : decode cX5_pinLeastHour 5 = .ok (.iaload, 1) := by decide +kernel
theorem dX5_pinLeastHour_6 : decode cX5_pinLeastHour 6 = .ok (.istore_n 2, 1) := by decide +kernel
theorem dX5_pinLeastHour_7 : decode cX5_pinLeastHour 7 = .ok (.iconst 0, 1) := by decide +kernel
theorem dX5_pinLeastHour_8 : decode cX5_pinLeastHour 8 = .ok (.istore_n 3, 1) := by decide +kernel
theorem dX5_pinLeastHour_9 : decode cX5_pinLeastHour 9 = .ok (.iload_n 3, 1) := by decide +kernel
theorem dX5_pinLeastHour_10 : decode cX5_pinLeastHour 10 = .ok (.bipush 24, 2) := by decide +kernel
theorem dX5_pinLeastHour_12 : decode cX5_pinLeastHour 12 = .ok (.if_icmp .ge 35, 3) := by decide +kernel
theorem dX5_pinLeastHour_47 : decode cX5_pinLeastHour 47 = .ok (.aload_n 0, 1) := by decide +kernel
theorem dX5_pinLeastHour_48 : decode cX5_pinLeastHour 48 = .ok (.getfield 15, 3) := by decide +kernel
theorem dX5_pinLeastHour_51 : decode cX5_pinLeastHour 51 = .ok (.iload_n 1, 1) := by decide +kernel
theorem dX5_pinLeastHour_52 : decode cX5_pinLeastHour 52 = .ok (.iload_n 2, 1) := by decide +kernel
theorem dX5_pinLeastHour_53 : decode cX5_pinLeastHour 53 = .ok (.iastore, 1) := by decide +kernel
theorem dX5_pinLeastHour_54 : decode cX5_pinLeastHour 54 = .ok (.bipush (-5), 2) := by decide +kernel
theorem dX5_pinLeastHour_56 : decode cX5_pinLeastHour 56 = .ok (.ireturn, 1) := by decide +kernel
theorem dX5_pinLeastHour_15 : decode cX5_pinLeastHour 15 = .ok (.iload_n 2, 1) := by decide +kernel
theorem dX5_pinLeastHour_16 : decode cX5_pinLeastHour 16 = .ok (.iload_n 3, 1) := by decide +kernel
set_option maxRecDepth 20000 in
theorem ggX5_pinLeastHour_X7_hasBit : GoodIn wsX5_pinLeastHour wsX7_hasBit := goodIn_r _ [4] (by decide +kernel) (by decide +kernel)
set_option maxRecDepth 20000 in
theorem gX5_pinLeastHour_X7_hasBit_n47 : GoodIn wsX5_pinLeastHour (wsX7_hasBit) := ggX5_pinLeastHour_X7_hasBit
theorem dX5_pinLeastHour_17 : decode cX5_pinLeastHour 17 = .ok (.invokestatic 47, 3) := by decide +kernel
theorem dX5_pinLeastHour_20 : decode cX5_pinLeastHour 20 = .ok (.ifCond .eq 21, 3) := by decide +kernel
theorem dX5_pinLeastHour_41 : decode cX5_pinLeastHour 41 = .ok (.iinc 3 1, 3) := by decide +kernel
theorem dX5_pinLeastHour_44 : decode cX5_pinLeastHour 44 = .ok (.goto (-35), 3) := by decide +kernel
theorem dX5_pinLeastHour_23 : decode cX5_pinLeastHour 23 = .ok (.aload_n 0, 1) := by decide +kernel
theorem dX5_pinLeastHour_24 : decode cX5_pinLeastHour 24 = .ok (.getfield 15, 3) := by decide +kernel
theorem dX5_pinLeastHour_27 : decode cX5_pinLeastHour 27 = .ok (.iload_n 1, 1) := by decide +kernel
theorem dX5_pinLeastHour_28 : decode cX5_pinLeastHour 28 = .ok (.iconst 1, 1) := by decide +kernel
theorem dX5_pinLeastHour_29 : decode cX5_pinLeastHour 29 = .ok (.iload_n 3, 1) := by decide +kernel
theorem dX5_pinLeastHour_30 : decode cX5_pinLeastHour 30 = .ok (.ishl, 1) := by decide +kernel
theorem dX5_pinLeastHour_31 : decode cX5_pinLeastHour 31 = .ok (.iastore, 1) := by decide +kernel
theorem dX5_pinLeastHour_32 : decode cX5_pinLeastHour 32 = .ok (.aload_n 0, 1) := by decide +kernel
set_option maxRecDepth 20000 in
theorem ggX5_pinLeastHour_X5_stands : GoodIn wsX5_pinLeastHour wsX5_stands := goodIn_r _ [9, 10, 1, 2, 3, 4, 11, 12, 13, 14, 15, 16, 17, 18, 19, 20] (by decide +kernel) (by decide +kernel)
set_option maxRecDepth 20000 in
theorem gX5_pinLeastHour_X5_stands : GoodIn wsX5_pinLeastHour (wsV RX5 60 RX5 yX5_stands wsX5_stands) := goodIn_app (goodIn_of _ (by decide +kernel)) ggX5_pinLeastHour_X5_stands
theorem dX5_pinLeastHour_33 : decode cX5_pinLeastHour 33 = .ok (.invokevirtual 60, 3) := by decide +kernel
theorem dX5_pinLeastHour_36 : decode cX5_pinLeastHour 36 = .ok (.ifCond .eq 5, 3) := by decide +kernel
theorem dX5_pinLeastHour_39 : decode cX5_pinLeastHour 39 = .ok (.iload_n 3, 1) := by decide +kernel
theorem dX5_pinLeastHour_40 : decode cX5_pinLeastHour 40 = .ok (.ireturn, 1) := by decide +kernel
theorem dX5_hourOf_0 : decode cX5_hourOf 0 = .ok (.iconst 0, 1) := by decide +kernel
theorem dX5_hourOf_1 : decode cX5_hourOf 1 = .ok (.istore_n 2, 1) := by decide +kernel
theorem dX5_hourOf_2 : decode cX5_hourOf 2 = .ok (.iload_n 2, 1) := by decide +kernel
theorem dX5_hourOf_3 : decode cX5_hourOf 3 = .ok (.aload_n 0, 1) := by decide +kernel
theorem dX5_hourOf_4 : decode cX5_hourOf 4 = .ok (.getfield 18, 3) := by decide +kernel
theorem dX5_hourOf_7 : decode cX5_hourOf 7 = .ok (.if_icmp .ge 27, 3) := by decide +kernel
theorem dX5_hourOf_34 : decode cX5_hourOf 34 = .ok (.bipush (-5), 2) := by decide +kernel
theorem dX5_hourOf_36 : decode cX5_hourOf 36 = .ok (.ireturn, 1) := by decide +kernel
theorem dX5_hourOf_10 : decode cX5_hourOf 10 = .ok (.aload_n 0, 1) := by decide +kernel
theorem dX5_hourOf_11 : decode cX5_hourOf 11 = .ok (.iload_n 2, 1) := by decide +kernel
set_option maxRecDepth 20000 in
theorem ggX5_hourOf_X5_pinLeastHour : GoodIn wsX5_hourOf wsX5_pinLeastHour := goodIn_r _ [7, 8, 9, 10, 11, 12, 13, 14, 6, 15, 1, 16, 17, 18, 19, 20, 21, 22, 23, 24, 25] (by decide +kernel) (by decide +kernel)
set_option maxRecDepth 20000 in
theorem gX5_hourOf_X5_pinLeastHour : GoodIn wsX5_hourOf (wsV RX5 57 RX5 yX5_pinLeastHour wsX5_pinLeastHour) := goodIn_app (goodIn_of _ (by decide +kernel)) ggX5_hourOf_X5_pinLeastHour
theorem dX5_hourOf_12 : decode cX5_hourOf 12 = .ok (.invokevirtual 57, 3) := by decide +kernel
theorem dX5_hourOf_15 : decode cX5_hourOf 15 = .ok (.istore_n 3, 1) := by decide +kernel
theorem dX5_hourOf_16 : decode cX5_hourOf 16 = .ok (.aload_n 0, 1) := by decide +kernel
theorem dX5_hourOf_17 : decode cX5_hourOf 17 = .ok (.getfield 9, 3) := by decide +kernel
theorem dX5_hourOf_20 : decode cX5_hourOf 20 = .ok (.iload_n 2, 1) := by decide +kernel
theorem dX5_hourOf_21 : decode cX5_hourOf 21 = .ok (.iaload, 1) := by decide +kernel
theorem dX5_hourOf_22 : decode cX5_hourOf 22 = .ok (.iload_n 1, 1) := by decide +kernel
theorem dX5_hourOf_23 : decode cX5_hourOf 23 = .ok (.if_icmp .ne 5, 3) := by decide +kernel
theorem dX5_hourOf_28 : decode cX5_hourOf 28 = .ok (.iinc 2 1, 3) := by decide +kernel
theorem dX5_hourOf_31 : decode cX5_hourOf 31 = .ok (.goto (-29), 3) := by decide +kernel
theorem dX5_hourOf_26 : decode cX5_hourOf 26 = .ok (.iload_n 3, 1) := by decide +kernel
theorem dX5_hourOf_27 : decode cX5_hourOf 27 = .ok (.ireturn, 1) := by decide +kernel
theorem dX7_canHold_0 : decode cX7_canHold 0 = .ok (.aload_n 0, 1) := by decide +kernel
theorem dX7_canHold_1 : decode cX7_canHold 1 = .ok (.iload_n 1, 1) := by decide +kernel
set_option maxRecDepth 20000 in
theorem ggX7_canHold_X7_isCase : GoodIn wsX7_canHold wsX7_isCase := goodIn_r _ [9, 2, 10, 11, 12, 8, 13, 52, 53, 54, 55, 56, 57, 58, 59, 60, 61, 62, 63] (by decide +kernel) (by decide +kernel)
set_option maxRecDepth 20000 in
theorem gX7_canHold_X7_isCase : GoodIn wsX7_canHold (wsV RX7 96 RX7 yX7_isCase wsX7_isCase) := goodIn_app (goodIn_of _ (by decide +kernel)) ggX7_canHold_X7_isCase
theorem dX7_canHold_2 : decode cX7_canHold 2 = .ok (.invokevirtual 96, 3) := by decide +kernel
theorem dX7_canHold_5 : decode cX7_canHold 5 = .ok (.ifCond .eq 10, 3) := by decide +kernel
theorem dX7_canHold_8 : decode cX7_canHold 8 = .ok (.iload_n 2, 1) := by decide +kernel
set_option maxRecDepth 20000 in
theorem ggX7_canHold_X7_isSide : GoodIn wsX7_canHold wsX7_isSide := goodIn_r _ [16, 11, 12, 8, 13] (by decide +kernel) (by decide +kernel)
set_option maxRecDepth 20000 in
theorem gX7_canHold_X7_isSide : GoodIn wsX7_canHold (va_wsS RX7 132 yX7_isSide wsX7_isSide) := goodIn_app (goodIn_of _ (by decide +kernel)) ggX7_canHold_X7_isSide
theorem dX7_canHold_9 : decode cX7_canHold 9 = .ok (.invokestatic 132, 3) := by decide +kernel
theorem dX7_canHold_12 : decode cX7_canHold 12 = .ok (.ifCond .ne 5, 3) := by decide +kernel
theorem dX7_canHold_17 : decode cX7_canHold 17 = .ok (.aload_n 0, 1) := by decide +kernel
theorem dX7_canHold_18 : decode cX7_canHold 18 = .ok (.getfield 26, 3) := by decide +kernel
theorem dX7_canHold_21 : decode cX7_canHold 21 = .ok (.aload_n 0, 1) := by decide +kernel
theorem dX7_canHold_22 : decode cX7_canHold 22 = .ok (.getfield 12, 3) := by decide +kernel
theorem dX7_canHold_25 : decode cX7_canHold 25 = .ok (.getfield 86, 3) := by decide +kernel
theorem dX7_canHold_28 : decode cX7_canHold 28 = .ok (.iload_n 1, 1) := by decide +kernel
theorem dX7_canHold_29 : decode cX7_canHold 29 = .ok (.aaload, 1) := by decide +kernel
theorem dX7_canHold_30 : decode cX7_canHold 30 = .ok (.iload_n 2, 1) := by decide +kernel
theorem dX7_canHold_31 : decode cX7_canHold 31 = .ok (.aload_n 0, 1) := by decide +kernel
theorem dX7_canHold_32 : decode cX7_canHold 32 = .ok (.getfield 12, 3) := by decide +kernel
theorem dX7_canHold_35 : decode cX7_canHold 35 = .ok (.getfield 86, 3) := by decide +kernel
theorem dX7_canHold_38 : decode cX7_canHold 38 = .ok (.iload_n 1, 1) := by decide +kernel
theorem dX7_canHold_39 : decode cX7_canHold 39 = .ok (.aaload, 1) := by decide +kernel
theorem dX7_canHold_40 : decode cX7_canHold 40 = .ok (.getfield 169, 3) := by decide +kernel
set_option maxRecDepth 20000 in
theorem ggX7_canHold_X5_read : GoodIn wsX7_canHold wsX5_read := goodIn_r _ [21, 22, 23, 24, 25, 26, 27, 28, 29, 20, 30, 31, 32, 33, 34, 35, 36, 37, 38, 75, 76, 77, 64, 65, 66, 67, 68, 69, 70, 71, 72, 73, 74, 78, 79, 80, 81, 82] (by decide +kernel) (by decide +kernel)
set_option maxRecDepth 20000 in
theorem gX7_canHold_X5_read : GoodIn wsX7_canHold (wsV RX7 197 RX5 yX5_read wsX5_read) := goodIn_app (goodIn_of _ (by decide +kernel)) ggX7_canHold_X5_read
theorem dX7_canHold_43 : decode cX7_canHold 43 = .ok (.invokevirtual 197, 3) := by decide +kernel
theorem dX7_canHold_46 : decode cX7_canHold 46 = .ok (.aload_n 0, 1) := by decide +kernel
theorem dX7_canHold_47 : decode cX7_canHold 47 = .ok (.getfield 26, 3) := by decide +kernel
set_option maxRecDepth 20000 in
theorem ggX7_canHold_X5_stands : GoodIn wsX7_canHold wsX5_stands := goodIn_r _ [42, 22, 27, 43, 8, 44, 45, 46, 47, 48, 49, 50, 51, 75, 76, 77] (by decide +kernel) (by decide +kernel)
set_option maxRecDepth 20000 in
theorem gX7_canHold_X5_stands : GoodIn wsX7_canHold (wsV RX7 201 RX5 yX5_stands wsX5_stands) := goodIn_app (goodIn_of _ (by decide +kernel)) ggX7_canHold_X5_stands
theorem dX7_canHold_50 : decode cX7_canHold 50 = .ok (.invokevirtual 201, 3) := by decide +kernel
theorem dX7_canHold_53 : decode cX7_canHold 53 = .ok (.ifCond .eq 7, 3) := by decide +kernel
theorem dX7_canHold_60 : decode cX7_canHold 60 = .ok (.iconst 0, 1) := by decide +kernel
theorem dX7_canHold_61 : decode cX7_canHold 61 = .ok (.ireturn, 1) := by decide +kernel
theorem dX7_canHold_56 : decode cX7_canHold 56 = .ok (.iconst 1, 1) := by decide +kernel
theorem dX7_canHold_57 : decode cX7_canHold 57 = .ok (.goto 4, 3) := by decide +kernel
theorem dX7_canHold_15 : decode cX7_canHold 15 = .ok (.iconst (-1), 1) := by decide +kernel
theorem dX7_canHold_16 : decode cX7_canHold 16 = .ok (.ireturn, 1) := by decide +kernel
theorem dX7_hour_0 : decode cX7_hour 0 = .ok (.aload_n 0, 1) := by decide +kernel
theorem dX7_hour_1 : decode cX7_hour 1 = .ok (.iload_n 1, 1) := by decide +kernel
theorem dX7_hour_2 : decode cX7_hour 2 = .ok (.iload_n 2, 1) := by decide +kernel
set_option maxRecDepth 20000 in
theorem ggX7_hour_X7_isTerm : GoodIn wsX7_hour wsX7_isTerm := goodIn_r _ [12, 1, 2, 7, 13, 14, 15, 11, 16, 17, 18, 19, 20, 65, 66, 67, 68, 69, 70, 71, 72, 73, 74, 75, 76, 77, 78, 79, 80, 81, 82, 83, 84, 85, 86, 87] (by decide +kernel) (by decide +kernel)
set_option maxRecDepth 20000 in
theorem gX7_hour_X7_isTerm : GoodIn wsX7_hour (wsV RX7 194 RX7 yX7_isTerm wsX7_isTerm) := goodIn_app (goodIn_of _ (by decide +kernel)) ggX7_hour_X7_isTerm
theorem dX7_hour_3 : decode cX7_hour 3 = .ok (.invokevirtual 194, 3) := by decide +kernel
theorem dX7_hour_6 : decode cX7_hour 6 = .ok (.ifCond .ne 5, 3) := by decide +kernel
theorem dX7_hour_11 : decode cX7_hour 11 = .ok (.aload_n 0, 1) := by decide +kernel
theorem dX7_hour_12 : decode cX7_hour 12 = .ok (.getfield 12, 3) := by decide +kernel
theorem dX7_hour_15 : decode cX7_hour 15 = .ok (.getfield 86, 3) := by decide +kernel
theorem dX7_hour_18 : decode cX7_hour 18 = .ok (.iload_n 1, 1) := by decide +kernel
theorem dX7_hour_19 : decode cX7_hour 19 = .ok (.aaload, 1) := by decide +kernel
theorem dX7_hour_20 : decode cX7_hour 20 = .ok (.astore_n 3, 1) := by decide +kernel
theorem dX7_hour_21 : decode cX7_hour 21 = .ok (.aload_n 3, 1) := by decide +kernel
theorem dX7_hour_22 : decode cX7_hour 22 = .ok (.getfield 172, 3) := by decide +kernel
theorem dX7_hour_25 : decode cX7_hour 25 = .ok (.iload_n 2, 1) := by decide +kernel
theorem dX7_hour_26 : decode cX7_hour 26 = .ok (.aaload, 1) := by decide +kernel
theorem dX7_hour_27 : decode cX7_hour 27 = .ok (.getfield 181, 3) := by decide +kernel
theorem dX7_hour_30 : decode cX7_hour 30 = .ok (.ifCond .ne 6, 3) := by decide +kernel
theorem dX7_hour_36 : decode cX7_hour 36 = .ok (.aload_n 0, 1) := by decide +kernel
theorem dX7_hour_37 : decode cX7_hour 37 = .ok (.getfield 26, 3) := by decide +kernel
theorem dX7_hour_40 : decode cX7_hour 40 = .ok (.aload_n 3, 1) := by decide +kernel
theorem dX7_hour_41 : decode cX7_hour 41 = .ok (.aload_n 3, 1) := by decide +kernel
theorem dX7_hour_42 : decode cX7_hour 42 = .ok (.getfield 172, 3) := by decide +kernel
theorem dX7_hour_45 : decode cX7_hour 45 = .ok (.iload_n 2, 1) := by decide +kernel
theorem dX7_hour_46 : decode cX7_hour 46 = .ok (.aaload, 1) := by decide +kernel
theorem dX7_hour_47 : decode cX7_hour 47 = .ok (.getfield 176, 3) := by decide +kernel
theorem dX7_hour_50 : decode cX7_hour 50 = .ok (.aload_n 3, 1) := by decide +kernel
theorem dX7_hour_51 : decode cX7_hour 51 = .ok (.getfield 169, 3) := by decide +kernel
set_option maxRecDepth 20000 in
theorem ggX7_hour_X5_read : GoodIn wsX7_hour wsX5_read := goodIn_r _ [25, 26, 27, 28, 29, 30, 31, 32, 33, 24, 34, 35, 36, 37, 38, 39, 40, 41, 42, 93, 94, 95, 77, 78, 79, 80, 81, 82, 83, 84, 85, 86, 87, 88, 89, 90, 91, 92] (by decide +kernel) (by decide +kernel)
set_option maxRecDepth 20000 in
theorem gX7_hour_X5_read : GoodIn wsX7_hour (wsV RX7 197 RX5 yX5_read wsX5_read) := goodIn_app (goodIn_of _ (by decide +kernel)) ggX7_hour_X5_read
theorem dX7_hour_54 : decode cX7_hour 54 = .ok (.invokevirtual 197, 3) := by decide +kernel
theorem dX7_hour_57 : decode cX7_hour 57 = .ok (.aload_n 0, 1) := by decide +kernel
theorem dX7_hour_58 : decode cX7_hour 58 = .ok (.getfield 26, 3) := by decide +kernel
set_option maxRecDepth 20000 in
theorem ggX7_hour_X5_stands : GoodIn wsX7_hour wsX5_stands := goodIn_r _ [46, 26, 31, 47, 11, 48, 49, 50, 51, 52, 53, 54, 55, 93, 94, 95] (by decide +kernel) (by decide +kernel)
set_option maxRecDepth 20000 in
theorem gX7_hour_X5_stands : GoodIn wsX7_hour (wsV RX7 201 RX5 yX5_stands wsX5_stands) := goodIn_app (goodIn_of _ (by decide +kernel)) ggX7_hour_X5_stands
theorem dX7_hour_61 : decode cX7_hour 61 = .ok (.invokevirtual 201, 3) := by decide +kernel
theorem dX7_hour_64 : decode cX7_hour 64 = .ok (.ifCond .eq 14, 3) := by decide +kernel
theorem dX7_hour_78 : decode cX7_hour 78 = .ok (.bipush (-5), 2) := by decide +kernel
theorem dX7_hour_80 : decode cX7_hour 80 = .ok (.ireturn, 1) := by decide +kernel
theorem dX7_hour_67 : decode cX7_hour 67 = .ok (.aload_n 0, 1) := by decide +kernel
theorem dX7_hour_68 : decode cX7_hour 68 = .ok (.getfield 26, 3) := by decide +kernel
theorem dX7_hour_71 : decode cX7_hour 71 = .ok (.iload_n 2, 1) := by decide +kernel
set_option maxRecDepth 20000 in
theorem ggX7_hour_X5_hourOf : GoodIn wsX7_hour wsX5_hourOf := goodIn_r _ [59, 26, 30, 60, 61, 62, 24, 63, 31, 47, 11, 48, 64, 44, 45, 46, 49, 50, 51, 52, 53, 54, 55, 93, 94, 95] (by decide +kernel) (by decide +kernel)
set_option maxRecDepth 20000 in
theorem gX7_hour_X5_hourOf : GoodIn wsX7_hour (wsV RX7 204 RX5 yX5_hourOf wsX5_hourOf) := goodIn_app (goodIn_of _ (by decide +kernel)) ggX7_hour_X5_hourOf
theorem dX7_hour_72 : decode cX7_hour 72 = .ok (.invokevirtual 204, 3) := by decide +kernel
theorem dX7_hour_75 : decode cX7_hour 75 = .ok (.goto 5, 3) := by decide +kernel
theorem dX7_hour_33 : decode cX7_hour 33 = .ok (.bipush (-4), 2) := by decide +kernel
theorem dX7_hour_35 : decode cX7_hour 35 = .ok (.ireturn, 1) := by decide +kernel
theorem dX7_hour_9 : decode cX7_hour 9 = .ok (.iconst (-1), 1) := by decide +kernel
theorem dX7_hour_10 : decode cX7_hour 10 = .ok (.ireturn, 1) := by decide +kernel
theorem dX7_breaks_0 : decode cX7_breaks 0 = .ok (.aload_n 0, 1) := by decide +kernel
theorem dX7_breaks_1 : decode cX7_breaks 1 = .ok (.iload_n 1, 1) := by decide +kernel
set_option maxRecDepth 20000 in
theorem ggX7_breaks_X7_isCase : GoodIn wsX7_breaks wsX7_isCase := goodIn_r _ [11, 1, 12, 13, 14, 10, 15, 54, 55, 56, 57, 58, 59, 60, 61, 62, 63, 64, 65] (by decide +kernel) (by decide +kernel)
set_option maxRecDepth 20000 in
theorem gX7_breaks_X7_isCase : GoodIn wsX7_breaks (wsV RX7 96 RX7 yX7_isCase wsX7_isCase) := goodIn_app (goodIn_of _ (by decide +kernel)) ggX7_breaks_X7_isCase
theorem dX7_breaks_2 : decode cX7_breaks 2 = .ok (.invokevirtual 96, 3) := by decide +kernel
theorem dX7_breaks_5 : decode cX7_breaks 5 = .ok (.ifCond .eq 10, 3) := by decide +kernel
theorem dX7_breaks_8 : decode cX7_breaks 8 = .ok (.iload_n 2, 1) := by decide +kernel
set_option maxRecDepth 20000 in
theorem ggX7_breaks_X7_isSide : GoodIn wsX7_breaks wsX7_isSide := goodIn_r _ [18, 13, 14, 10, 15] (by decide +kernel) (by decide +kernel)
set_option maxRecDepth 20000 in
theorem gX7_breaks_X7_isSide : GoodIn wsX7_breaks (va_wsS RX7 132 yX7_isSide wsX7_isSide) := goodIn_app (goodIn_of _ (by decide +kernel)) ggX7_breaks_X7_isSide
theorem dX7_breaks_9 : decode cX7_breaks 9 = .ok (.invokestatic 132, 3) := by decide +kernel
theorem dX7_breaks_12 : decode cX7_breaks 12 = .ok (.ifCond .ne 5, 3) := by decide +kernel
theorem dX7_breaks_17 : decode cX7_breaks 17 = .ok (.aload_n 0, 1) := by decide +kernel
theorem dX7_breaks_18 : decode cX7_breaks 18 = .ok (.getfield 12, 3) := by decide +kernel
theorem dX7_breaks_21 : decode cX7_breaks 21 = .ok (.getfield 86, 3) := by decide +kernel
theorem dX7_breaks_24 : decode cX7_breaks 24 = .ok (.iload_n 1, 1) := by decide +kernel
theorem dX7_breaks_25 : decode cX7_breaks 25 = .ok (.aaload, 1) := by decide +kernel
theorem dX7_breaks_26 : decode cX7_breaks 26 = .ok (.astore_n 3, 1) := by decide +kernel
theorem dX7_breaks_27 : decode cX7_breaks 27 = .ok (.iconst 0, 1) := by decide +kernel
theorem dX7_breaks_28 : decode cX7_breaks 28 = .ok (.istore 4, 2) := by decide +kernel
theorem dX7_breaks_30 : decode cX7_breaks 30 = .ok (.iload 4, 2) := by decide +kernel
theorem dX7_breaks_32 : decode cX7_breaks 32 = .ok (.aload_n 3, 1) := by decide +kernel
theorem dX7_breaks_33 : decode cX7_breaks 33 = .ok (.getfield 169, 3) := by decide +kernel
theorem dX7_breaks_36 : decode cX7_breaks 36 = .ok (.if_icmp .ge 49, 3) := by decide +kernel
theorem dX7_breaks_85 : decode cX7_breaks 85 = .ok (.bipush (-5), 2) := by decide +kernel
theorem dX7_breaks_87 : decode cX7_breaks 87 = .ok (.ireturn, 1) := by decide +kernel
theorem dX7_breaks_39 : decode cX7_breaks 39 = .ok (.aload_n 3, 1) := by decide +kernel
theorem dX7_breaks_40 : decode cX7_breaks 40 = .ok (.getfield 172, 3) := by decide +kernel
theorem dX7_breaks_43 : decode cX7_breaks 43 = .ok (.iload 4, 2) := by decide +kernel
theorem dX7_breaks_45 : decode cX7_breaks 45 = .ok (.aaload, 1) := by decide +kernel
theorem dX7_breaks_46 : decode cX7_breaks 46 = .ok (.getfield 176, 3) := by decide +kernel
theorem dX7_breaks_49 : decode cX7_breaks 49 = .ok (.iload_n 2, 1) := by decide +kernel
theorem dX7_breaks_50 : decode cX7_breaks 50 = .ok (.if_icmp .ne 29, 3) := by decide +kernel
theorem dX7_breaks_79 : decode cX7_breaks 79 = .ok (.iinc 4 1, 3) := by decide +kernel
theorem dX7_breaks_82 : decode cX7_breaks 82 = .ok (.goto (-52), 3) := by decide +kernel
theorem dX7_breaks_53 : decode cX7_breaks 53 = .ok (.aload_n 0, 1) := by decide +kernel
theorem dX7_breaks_54 : decode cX7_breaks 54 = .ok (.getfield 26, 3) := by decide +kernel
theorem dX7_breaks_57 : decode cX7_breaks 57 = .ok (.aload_n 3, 1) := by decide +kernel
theorem dX7_breaks_58 : decode cX7_breaks 58 = .ok (.iload_n 2, 1) := by decide +kernel
theorem dX7_breaks_59 : decode cX7_breaks 59 = .ok (.iload 4, 2) := by decide +kernel
theorem dX7_breaks_61 : decode cX7_breaks 61 = .ok (.iconst 1, 1) := by decide +kernel
theorem dX7_breaks_62 : decode cX7_breaks 62 = .ok (.iadd, 1) := by decide +kernel
set_option maxRecDepth 20000 in
theorem ggX7_breaks_X5_read : GoodIn wsX7_breaks wsX5_read := goodIn_r _ [23, 24, 25, 26, 27, 28, 29, 30, 31, 22, 32, 33, 34, 35, 36, 37, 38, 39, 40, 82, 83, 84, 66, 67, 68, 69, 70, 71, 72, 73, 74, 75, 76, 77, 78, 79, 80, 81] (by decide +kernel) (by decide +kernel)
set_option maxRecDepth 20000 in
theorem gX7_breaks_X5_read : GoodIn wsX7_breaks (wsV RX7 197 RX5 yX5_read wsX5_read) := goodIn_app (goodIn_of _ (by decide +kernel)) ggX7_breaks_X5_read
theorem dX7_breaks_63 : decode cX7_breaks 63 = .ok (.invokevirtual 197, 3) := by decide +kernel
theorem dX7_breaks_66 : decode cX7_breaks 66 = .ok (.aload_n 0, 1) := by decide +kernel
theorem dX7_breaks_67 : decode cX7_breaks 67 = .ok (.getfield 26, 3) := by decide +kernel
set_option maxRecDepth 20000 in
theorem ggX7_breaks_X5_stands : GoodIn wsX7_breaks wsX5_stands := goodIn_r _ [44, 24, 29, 45, 10, 46, 47, 48, 49, 50, 51, 52, 53, 82, 83, 84] (by decide +kernel) (by decide +kernel)
set_option maxRecDepth 20000 in
theorem gX7_breaks_X5_stands : GoodIn wsX7_breaks (wsV RX7 201 RX5 yX5_stands wsX5_stands) := goodIn_app (goodIn_of _ (by decide +kernel)) ggX7_breaks_X5_stands
theorem dX7_breaks_70 : decode cX7_breaks 70 = .ok (.invokevirtual 201, 3) := by decide +kernel
theorem dX7_breaks_73 : decode cX7_breaks 73 = .ok (.ifCond .ne 6, 3) := by decide +kernel
theorem dX7_breaks_76 : decode cX7_breaks 76 = .ok (.iload 4, 2) := by decide +kernel
theorem dX7_breaks_78 : decode cX7_breaks 78 = .ok (.ireturn, 1) := by decide +kernel
theorem dX7_breaks_15 : decode cX7_breaks 15 = .ok (.iconst (-1), 1) := by decide +kernel
theorem dX7_breaks_16 : decode cX7_breaks 16 = .ok (.ireturn, 1) := by decide +kernel
set_option maxHeartbeats 4000000 in
set_option maxRecDepth 100000 in
theorem g_X5_stands (l : Launch) (dC : Nat → ClassId) (dI : Nat → Nat → Nat) (cy : Nat → ClassId) (sz : Nat) (ad : Nat → Nat) (kv : Value) (N : Nat) (hN : 119 ≤ N) (v : Nat → Nat → Int32) (hv : Iv v)  : Met l yX5_stands wsX5_stands ({ frames := 1, cells := 0, slots := 0, locals := 64 }) (va_Pc [.ref (ad 10)] (ex_Pre dC dI cy sz (wl ad kv cy N v))) (va_Qi (fun (r : Int32) (u : Nat → Nat → Int32) => Iv u ∧ Fr v u ∧ (r = 0 ∨ r = 1)) (fun u t => ex_Pst dC dI (va_A (wl ad kv cy N v) sz) (wl ad kv cy N u) t) (va_A (wl ad kv cy N v) sz)) 0 0 (va_A (wl ad kv cy N v) sz) := by
  refine Met.ofW (cc := cX5_stands) (maxL := 4) (ret := (some .boolean)) (by decide) rfl ?_
  intro p e s m args below meth c s₁ B hml hv
  obtain ⟨rfl, hsz, hE, hP, hK, hD0⟩ := hv
  have hx := B.exec
  have hb := B.bytes
  have hr := B.returns
  have hts := atoms_spec (ws := wsX5_stands) B.pre
  have hown : s.vm.findClass RX5 = some m.cls := findClass_of_methodNamed B.named
  have hlocks := B.notSynchronized
  subst hsz
  have hD := hD0.self (sz := s.heap.size)
  generalize hAe : va_A (wl ad kv cy N v) s.heap.size = A at hD ⊢
  have hA : ∀ q : Nat, s.heap.size ≤ q → A q := fun q h => by rw [← hAe]; exact Or.inr h
  have hS : va_S A s.heap s.heap [] := va_S.rf
  have hP : va_P (dC, dI) vwCl (wl ad kv cy N v) s.heap := hP
  have hl := lv_entry ([.ref (ad 10)]) (n := 4) (Nat.le_of_ble_eq_true rfl)
  rw [lg_entry_eq]
  generalize (lg_sl ([.ref (ad 10)]) ++ List.replicate (4 - (lg_sl ([.ref (ad 10)])).length) Slot.unset).toArray = ls at hl ⊢
  have hl : lv_has ls 4 [(0, .ref (ad 10))] := hl
  have hfr : Fr v v := Fr.rf
  refine lv_iconst (v := 1) hx hb dX5_stands_0 (by decide) ?_
  refine lv_istore_n (lv' := [(1, .int 1), (0, .ref (ad 10))]) hx hb dX5_stands_1 rfl hl (by decide) rfl (fun ls hl => ?_)
  have k_1 : (1 : Int32).toInt = 1 := by decide
  have hloop_1 : ∀ (n : Nat) (y1_1 : Int32) (u1 : Nat → Nat → Int32) (H : Heap) (locs : List Loc), 1 ≤ y1_1.toInt → y1_1.toInt ≤ 33 → (33 - y1_1.toInt).toNat < n → Iv u1 → Fr v u1 → va_P (dC, dI) vwCl (wl ad kv cy N u1) H → va_D A (wl ad kv cy N u1) → va_S A s.heap H locs → ∀ ls : Array Slot, lv_has ls 4 [(1, .int y1_1), (0, .ref (ad 10))] → W p l e (headSpec wsX5_stands ({ frames := 1, cells := 0, slots := 0, locals := 64 })).room s m [Value.ref (ad 10)].toArray below meth c H locs 0 0 (MQ below (va_Qi (fun (r : Int32) (u : Nat → Nat → Int32) => Iv u ∧ Fr v u ∧ (r = 0 ∨ r = 1)) (fun u t => ex_Pst dC dI A (wl ad kv cy N u) t) A) [Value.ref (ad 10)].toArray s 0 0 A) (F0 m 2 ls []) := by
    intro n
    induction n with
    | zero =>
      intro y1_1 u1 H locs ay1_1 by1_1 hm_1 hv hfr hP hD hS ls hl
      exact absurd hm_1 (by omega)
    | succ n ih_1 =>
      intro y1_1 u1 H locs ay1_1 by1_1 hm_1 hv hfr hP hD hS ls hl
      refine lv_iload_n hx hb dX5_stands_2 rfl (lv_at hl 0 rfl) ?_
      refine lv_iconst (v := 1) hx hb dX5_stands_3 (by decide) ?_
      refine lv_aload_n hx hb dX5_stands_4 rfl (lv_at hl 1 rfl) ?_
      refine va_get (D := (dC, dI)) (ci := 5) (v := .int (u1 (10) 0)) (C := RX5) (T := TX5) (N := 3) hx hb hts (by decide +kernel) hown hK hP (10) (wl_at (by omega) (ce_2 (by decide))) rfl 0 (by decide) (hts (.fieldLink RX5 18 "QuietStairs$Table" "count" "I") (by decide +kernel)) (fun _ h9 => h9) rfl dX5_stands_5 ?_
      refine lv_topi (fun x_2 ex_2 => ?_)
      have bx_2 : 0 ≤ x_2.toInt ∧ x_2.toInt ≤ 5 := by rw [ex_2]; exact hv.at (K := 2) (by decide) rfl
      refine lv_ishl hx hb dX5_stands_8 ?_
      refine lv_topi (fun x_3 ex_3 => ?_)
      have tx_3 : 1 ≤ x_3.toInt ∧ x_3.toInt ≤ 32 := by rw [ex_3]; exact t_shl ⟨by omega, by omega⟩
      refine lv_icmp_ge (tgt := 66) hx hb dX5_stands_9 (by decide) (fun c_4 => ?_) (fun c_4 => ?_)
      · have tc_4 : y1_1.toInt ≥ x_3.toInt := Int32.le_iff_toInt_le.mp c_4
        refine lv_iconst (v := 1) hx hb dX5_stands_66 (by decide) ?_
        exact W.zret (ty := .boolean) (v := 1) hx hb hr rfl (fun t ht hW => ⟨⟨1, u1, rfl, ⟨hv, hfr, by decide⟩, by rw [ht]; exact hP, hD⟩, hS.F ht⟩) hS.2.2 dX5_stands_67
      · have tc_4 : y1_1.toInt < x_3.toInt := Int32.lt_iff_toInt_lt.mp (Int32.not_le.mp c_4)
        refine lv_iconst (v := 0) hx hb dX5_stands_12 (by decide) ?_
        refine lv_istore_n (lv' := [(2, .int 0), (1, .int y1_1), (0, .ref (ad 10))]) hx hb dX5_stands_13 rfl hl (by decide) rfl (fun ls hl => ?_)
        refine lv_iconst (v := 0) hx hb dX5_stands_14 (by decide) ?_
        refine lv_istore_n (lv' := [(3, .int 0), (2, .int 0), (1, .int y1_1), (0, .ref (ad 10))]) hx hb dX5_stands_15 rfl hl (by decide) rfl (fun ls hl => ?_)
        have k_0 : (0 : Int32).toInt = 0 := by decide
        have hloop_5 : ∀ (n : Nat) (y5_3 y5_2 : Int32) (u5 : Nat → Nat → Int32) (H : Heap) (locs : List Loc), 0 ≤ y5_3.toInt → y5_3.toInt ≤ 5 → (5 - y5_3.toInt).toNat < n → Iv u5 → Fr v u5 → va_P (dC, dI) vwCl (wl ad kv cy N u5) H → va_D A (wl ad kv cy N u5) → va_S A s.heap H locs → ∀ ls : Array Slot, lv_has ls 4 [(3, .int y5_3), (2, .int y5_2), (1, .int y1_1), (0, .ref (ad 10))] → W p l e (headSpec wsX5_stands ({ frames := 1, cells := 0, slots := 0, locals := 64 })).room s m [Value.ref (ad 10)].toArray below meth c H locs 0 0 (MQ below (va_Qi (fun (r : Int32) (u : Nat → Nat → Int32) => Iv u ∧ Fr v u ∧ (r = 0 ∨ r = 1)) (fun u t => ex_Pst dC dI A (wl ad kv cy N u) t) A) [Value.ref (ad 10)].toArray s 0 0 A) (F0 m 16 ls []) := by
          intro n
          induction n with
          | zero =>
            intro y5_3 y5_2 u5 H locs ay5_3 by5_3 hm_5 hv hfr hP hD hS ls hl
            exact absurd hm_5 (by omega)
          | succ n ih_5 =>
            intro y5_3 y5_2 u5 H locs ay5_3 by5_3 hm_5 hv hfr hP hD hS ls hl
            refine lv_iload_n hx hb dX5_stands_16 rfl (lv_at hl 0 rfl) ?_
            refine lv_aload_n hx hb dX5_stands_17 rfl (lv_at hl 3 rfl) ?_
            refine va_get (D := (dC, dI)) (ci := 5) (v := .int (u5 (10) 0)) (C := RX5) (T := TX5) (N := 3) hx hb hts (by decide +kernel) hown hK hP (10) (wl_at (by omega) (ce_2 (by decide))) rfl 0 (by decide) (hts (.fieldLink RX5 18 "QuietStairs$Table" "count" "I") (by decide +kernel)) (fun _ h9 => h9) rfl dX5_stands_18 ?_
            refine lv_topi (fun x_6 ex_6 => ?_)
            have bx_6 : 0 ≤ x_6.toInt ∧ x_6.toInt ≤ 5 := by rw [ex_6]; exact hv.at (K := 2) (by decide) rfl
            refine lv_icmp_ge (tgt := 47) hx hb dX5_stands_21 (by decide) (fun c_7 => ?_) (fun c_7 => ?_)
            · have tc_7 : y5_3.toInt ≥ x_6.toInt := Int32.le_iff_toInt_le.mp c_7
              refine lv_iload_n hx hb dX5_stands_47 rfl (lv_at hl 1 rfl) ?_
              refine yc_p hP hS (va_runS (As := [.int y5_2]) (rest := []) ⟨hx, hb, hml, hown, hts⟩ (c_bitCount l y5_2) (va_cwS 1 hts gX5_stands_J6_bitCount_0f7a4 rfl rfl rfl (by decide +kernel) ⟨Nat.le_of_ble_eq_true rfl, Nat.le_of_ble_eq_true rfl⟩) ex_preP rfl rfl hl.1 rfl (lv_room (Nat.le_of_ble_eq_true rfl)) dX5_stands_48 ⟨Nat.le_of_ble_eq_true rfl, Nat.le_of_ble_eq_true rfl⟩) (fun r_8 H locs hw_8 hP hS => ?_)
              refine lv_iload_n hx hb dX5_stands_51 rfl (lv_at hl 2 rfl) ?_
              refine yc_p hP hS (va_runS (As := [.int y1_1]) (rest := [.int r_8]) ⟨hx, hb, hml, hown, hts⟩ (c_bitCount l y1_1) (va_cwS 1 hts gX5_stands_J6_bitCount_0f7a4 rfl rfl rfl (by decide +kernel) ⟨Nat.le_of_ble_eq_true rfl, Nat.le_of_ble_eq_true rfl⟩) ex_preP rfl rfl hl.1 rfl (lv_room (Nat.le_of_ble_eq_true rfl)) dX5_stands_52 ⟨Nat.le_of_ble_eq_true rfl, Nat.le_of_ble_eq_true rfl⟩) (fun r_9 H locs hw_9 hP hS => ?_)
              refine lv_icmp_ge (tgt := 60) hx hb dX5_stands_55 (by decide) (fun c_10 => ?_) (fun c_10 => ?_)
              · have tc_10 : r_8.toInt ≥ r_9.toInt := Int32.le_iff_toInt_le.mp c_10
                obtain ⟨x_11, ex_11⟩ : ∃ y : Int32, y = y1_1 + 1 := ⟨_, rfl⟩
                refine lv_iinc (v := x_11) (lv' := [(1, .int x_11), (3, .int y5_3), (2, .int y5_2), (0, .ref (ad 10))]) hx hb dX5_stands_60 hl (k := 2) rfl (by rw [ex_11]; rfl) (by decide) rfl (fun ls hl => ?_)
                have tx_11 : x_11.toInt = y1_1.toInt + (1 : Int32).toInt := by rw [ex_11]; exact t_add ⟨by omega, by omega⟩
                refine lv_goto (tgt := 2) hx hb dX5_stands_63 (by decide) ?_
                exact ih_1 x_11 u5 H locs (by omega) (by omega) (by omega) hv hfr hP hD hS ls (lv_sub hl [0, 3] rfl)
              · have tc_10 : r_8.toInt < r_9.toInt := Int32.lt_iff_toInt_lt.mp (Int32.not_le.mp c_10)
                refine lv_iconst (v := 0) hx hb dX5_stands_58 (by decide) ?_
                exact W.zret (ty := .boolean) (v := 0) hx hb hr rfl (fun t ht hW => ⟨⟨0, u5, rfl, ⟨hv, hfr, by decide⟩, by rw [ht]; exact hP, hD⟩, hS.F ht⟩) hS.2.2 dX5_stands_59
            · have tc_7 : y5_3.toInt < x_6.toInt := Int32.lt_iff_toInt_lt.mp (Int32.not_le.mp c_7)
              refine lv_iload_n hx hb dX5_stands_24 rfl (lv_at hl 2 rfl) ?_
              refine lv_iload_n hx hb dX5_stands_25 rfl (lv_at hl 0 rfl) ?_
              refine yc_p hP hS (va_runSN (As := [.int y1_1, .int y5_3]) (rest := []) ⟨hx, hb, hml, hown, hts⟩ (c_X7_hasBit l y1_1 y5_3) ⟨va_cnB 2 hts gX5_stands_X7_hasBit_n47 rfl rfl rfl hE.2.2.2.2.2.2.2.2.2.2.2.2.1 (hts (.initialized RX7) (by decide +kernel)) (by decide +kernel) ⟨Nat.le_of_ble_eq_true rfl, Nat.le_of_ble_eq_true rfl⟩, (hts (.static yX7_hasBit) (by decide +kernel)), trivial⟩ ex_preP rfl rfl hl.1 rfl (lv_room (Nat.le_of_ble_eq_true rfl)) dX5_stands_26 ⟨Nat.le_of_ble_eq_true rfl, Nat.le_of_ble_eq_true rfl⟩) (fun r_8 H locs hw_8 hP hS => ?_)
              rcases hw_8 with rfl | rfl
              · refine lv_if_eq (tgt := 41) hx hb dX5_stands_29 (by decide) (fun _ => ?_) (fun c9 => absurd c9 (by decide))
                obtain ⟨x_9, ex_9⟩ : ∃ y : Int32, y = y5_3 + 1 := ⟨_, rfl⟩
                refine lv_iinc (v := x_9) (lv' := [(3, .int x_9), (2, .int y5_2), (1, .int y1_1), (0, .ref (ad 10))]) hx hb dX5_stands_41 hl (k := 0) rfl (by rw [ex_9]; rfl) (by decide) rfl (fun ls hl => ?_)
                have tx_9 : x_9.toInt = y5_3.toInt + (1 : Int32).toInt := by rw [ex_9]; exact t_add ⟨by omega, by omega⟩
                refine lv_goto (tgt := 16) hx hb dX5_stands_44 (by decide) ?_
                exact ih_5 x_9 y5_2 u5 H locs (by omega) (by omega) (by omega) hv hfr hP hD hS ls (lv_sub hl [0, 1, 2, 3] rfl)
              · refine lv_if_eq (tgt := 41) hx hb dX5_stands_29 (by decide) (fun c9 => absurd c9 (by decide)) (fun _ => ?_)
                refine lv_iload_n hx hb dX5_stands_32 rfl (lv_at hl 1 rfl) ?_
                refine lv_aload_n hx hb dX5_stands_33 rfl (lv_at hl 3 rfl) ?_
                refine va_get (D := (dC, dI)) (ci := 5) (v := .ref (ad 12)) (C := RX5) (T := TX5) (N := 3) hx hb hts (by decide +kernel) hown hK hP (10) (wl_at (by omega) (ce_2 (by decide))) rfl 2 (by decide) (hts (.fieldLink RX5 15 "QuietStairs$Table" "hourBits" "[I") (by decide +kernel)) (fun _ h9 => h9) rfl dX5_stands_34 ?_
                refine lv_iload_n hx hb dX5_stands_37 rfl (lv_at hl 0 rfl) ?_
                obtain ⟨pi9, i9, hi9, ni9, mi9⟩ := t_in (x := y5_3) (n := 5) ⟨by omega, by omega⟩
                refine va_iald hx hb hK hP (12) 0 (wl_at (by omega) (ce_19 (by decide))) rfl pi9 dX5_stands_38 ?_
                refine lv_topi (fun x_10 ex_10 => ?_)
                refine lv_ior hx hb dX5_stands_39 ?_
                refine lv_topi (fun x_11 ex_11 => ?_)
                refine lv_istore_n (lv' := [(2, .int x_11), (3, .int y5_3), (1, .int y1_1), (0, .ref (ad 10))]) hx hb dX5_stands_40 rfl hl (by decide) rfl (fun ls hl => ?_)
                obtain ⟨x_12, ex_12⟩ : ∃ y : Int32, y = y5_3 + 1 := ⟨_, rfl⟩
                refine lv_iinc (v := x_12) (lv' := [(3, .int x_12), (2, .int x_11), (1, .int y1_1), (0, .ref (ad 10))]) hx hb dX5_stands_41 hl (k := 1) rfl (by rw [ex_12]; rfl) (by decide) rfl (fun ls hl => ?_)
                have tx_12 : x_12.toInt = y5_3.toInt + (1 : Int32).toInt := by rw [ex_12]; exact t_add ⟨by omega, by omega⟩
                refine lv_goto (tgt := 16) hx hb dX5_stands_44 (by decide) ?_
                exact ih_5 x_12 x_11 u5 H locs (by omega) (by omega) (by omega) hv hfr hP hD hS ls (lv_sub hl [0, 1, 2, 3] rfl)
        exact hloop_5 ((5 - (0 : Int32).toInt).toNat + 1) 0 0 u1 _ _ (by omega) (by omega) (by omega) hv hfr hP hD hS ls hl
  exact hloop_1 ((33 - (1 : Int32).toInt).toNat + 1) 1 v _ _ (by omega) (by omega) (by omega) hv hfr hP hD hS ls hl

set_option maxHeartbeats 4000000 in
set_option maxRecDepth 100000 in
theorem g_X5_pinLeastHour (l : Launch) (dC : Nat → ClassId) (dI : Nat → Nat → Nat) (cy : Nat → ClassId) (sz : Nat) (ad : Nat → Nat) (kv : Value) (N : Nat) (hN : 119 ≤ N) (v : Nat → Nat → Int32) (hv : Iv v) (x0 : Int32) (hs : 0 ≤ x0.toInt ∧ x0.toInt ≤ 4) : Met l yX5_pinLeastHour wsX5_pinLeastHour ({ frames := 2, cells := 0, slots := 0, locals := 128 }) (va_Pc [.ref (ad 10), .int x0] (ex_Pre dC dI cy sz (wl ad kv cy N v))) (va_Qi (fun (r : Int32) (u : Nat → Nat → Int32) => Iv u ∧ Fr v u) (fun u t => ex_Pst dC dI (va_A (wl ad kv cy N v) sz) (wl ad kv cy N u) t) (va_A (wl ad kv cy N v) sz)) 0 0 (va_A (wl ad kv cy N v) sz) := by
  refine Met.ofW (cc := cX5_pinLeastHour) (maxL := 4) (ret := (some .int)) (by decide) rfl ?_
  intro p e s m args below meth c s₁ B hml hv
  obtain ⟨rfl, hsz, hE, hP, hK, hD0⟩ := hv
  have hx := B.exec
  have hb := B.bytes
  have hr := B.returns
  have hts := atoms_spec (ws := wsX5_pinLeastHour) B.pre
  have hown : s.vm.findClass RX5 = some m.cls := findClass_of_methodNamed B.named
  have hlocks := B.notSynchronized
  subst hsz
  have hD := hD0.self (sz := s.heap.size)
  generalize hAe : va_A (wl ad kv cy N v) s.heap.size = A at hD ⊢
  have hA : ∀ q : Nat, s.heap.size ≤ q → A q := fun q h => by rw [← hAe]; exact Or.inr h
  have hS : va_S A s.heap s.heap [] := va_S.rf
  have hP : va_P (dC, dI) vwCl (wl ad kv cy N v) s.heap := hP
  have hl := lv_entry ([.ref (ad 10), .int x0]) (n := 4) (Nat.le_of_ble_eq_true rfl)
  rw [lg_entry_eq]
  generalize (lg_sl ([.ref (ad 10), .int x0]) ++ List.replicate (4 - (lg_sl ([.ref (ad 10), .int x0])).length) Slot.unset).toArray = ls at hl ⊢
  have hl : lv_has ls 4 [(0, .ref (ad 10)), (1, .int x0)] := hl
  have hfr : Fr v v := Fr.rf
  refine lv_aload_n hx hb dX5_pinLeastHour_0 rfl (lv_at hl 0 rfl) ?_
  refine va_get (D := (dC, dI)) (ci := 5) (v := .ref (ad 12)) (C := RX5) (T := TX5) (N := 3) hx hb hts (by decide +kernel) hown hK hP (10) (wl_at (by omega) (ce_2 (by decide))) rfl 2 (by decide) (hts (.fieldLink RX5 15 "QuietStairs$Table" "hourBits" "[I") (by decide +kernel)) (fun _ h9 => h9) rfl dX5_pinLeastHour_1 ?_
  refine lv_iload_n hx hb dX5_pinLeastHour_4 rfl (lv_at hl 1 rfl) ?_
  obtain ⟨pi1, i1, hi1, ni1, mi1⟩ := t_in (x := x0) (n := 5) ⟨by omega, by omega⟩
  refine va_iald hx hb hK hP (12) 0 (wl_at (by omega) (ce_19 (by decide))) rfl pi1 dX5_pinLeastHour_5 ?_
  refine lv_topi (fun x_2 ex_2 => ?_)
  refine lv_istore_n (lv' := [(2, .int x_2), (0, .ref (ad 10)), (1, .int x0)]) hx hb dX5_pinLeastHour_6 rfl hl (by decide) rfl (fun ls hl => ?_)
  refine lv_iconst (v := 0) hx hb dX5_pinLeastHour_7 (by decide) ?_
  refine lv_istore_n (lv' := [(3, .int 0), (2, .int x_2), (0, .ref (ad 10)), (1, .int x0)]) hx hb dX5_pinLeastHour_8 rfl hl (by decide) rfl (fun ls hl => ?_)
  have k_0 : (0 : Int32).toInt = 0 := by decide
  have hloop_3 : ∀ (n : Nat) (y3_3 : Int32) (u3 : Nat → Nat → Int32) (H : Heap) (locs : List Loc), 0 ≤ y3_3.toInt → y3_3.toInt ≤ 24 → (24 - y3_3.toInt).toNat < n → Iv u3 → Fr v u3 → va_P (dC, dI) vwCl (wl ad kv cy N u3) H → va_D A (wl ad kv cy N u3) → va_S A s.heap H locs → ∀ ls : Array Slot, lv_has ls 4 [(3, .int y3_3), (2, .int x_2), (0, .ref (ad 10)), (1, .int x0)] → W p l e (headSpec wsX5_pinLeastHour ({ frames := 2, cells := 0, slots := 0, locals := 128 })).room s m [Value.ref (ad 10), Value.int x0].toArray below meth c H locs 0 0 (MQ below (va_Qi (fun (r : Int32) (u : Nat → Nat → Int32) => Iv u ∧ Fr v u) (fun u t => ex_Pst dC dI A (wl ad kv cy N u) t) A) [Value.ref (ad 10), Value.int x0].toArray s 0 0 A) (F0 m 9 ls []) := by
    intro n
    induction n with
    | zero =>
      intro y3_3 u3 H locs ay3_3 by3_3 hm_3 hv hfr hP hD hS ls hl
      exact absurd hm_3 (by omega)
    | succ n ih_3 =>
      intro y3_3 u3 H locs ay3_3 by3_3 hm_3 hv hfr hP hD hS ls hl
      refine lv_iload_n hx hb dX5_pinLeastHour_9 rfl (lv_at hl 0 rfl) ?_
      refine lv_bipush (v := 24) hx hb dX5_pinLeastHour_10 (by decide) ?_
      have k_24 : (24 : Int32).toInt = 24 := by decide
      refine lv_icmp_ge (tgt := 47) hx hb dX5_pinLeastHour_12 (by decide) (fun c_4 => ?_) (fun c_4 => ?_)
      · have tc_4 : y3_3.toInt ≥ (24 : Int32).toInt := Int32.le_iff_toInt_le.mp c_4
        refine lv_aload_n hx hb dX5_pinLeastHour_47 rfl (lv_at hl 2 rfl) ?_
        refine va_get (D := (dC, dI)) (ci := 5) (v := .ref (ad 12)) (C := RX5) (T := TX5) (N := 3) hx hb hts (by decide +kernel) hown hK hP (10) (wl_at (by omega) (ce_2 (by decide))) rfl 2 (by decide) (hts (.fieldLink RX5 15 "QuietStairs$Table" "hourBits" "[I") (by decide +kernel)) (fun _ h9 => h9) rfl dX5_pinLeastHour_48 ?_
        refine lv_iload_n hx hb dX5_pinLeastHour_51 rfl (lv_at hl 3 rfl) ?_
        refine lv_iload_n hx hb dX5_pinLeastHour_52 rfl (lv_at hl 1 rfl) ?_
        refine va_iast hx hb hK hP hD hS (12) 0 (wl_at (by omega) (ce_19 (by decide))) rfl pi1 dX5_pinLeastHour_53 (fun H locs hP hD hS => ?_)
        obtain ⟨v_5, ev_5⟩ : ∃ u : Nat → Nat → Int32, u = upr u3 (12) (upd (u3 (12)) (x0.toNatClampNeg) x_2) := ⟨_, rfl⟩
        have hP : va_P (dC, dI) vwCl (wl ad kv cy N v_5) H := by rw [ev_5, ← wl_put (e := _) (ce_19 (by decide))]; exact hP
        have hD : va_D A (wl ad kv cy N v_5) := by rw [ev_5, ← wl_put (e := _) (ce_19 (by decide))]; exact hD
        have hv : Iv v_5 := by rw [ev_5]; exact hv.put (K := 19) (by decide) (fun h q => by simp [bd] at q)
        have hfr : Fr v v_5 := by rw [ev_5]; exact hfr.put (by omega) (by omega) (by omega)
        refine lv_bipush (v := (-5)) hx hb dX5_pinLeastHour_54 (by decide) ?_
        exact W.iret (v := (-5)) hx hb hr (fun t ht hW => ⟨⟨(-5), v_5, rfl, ⟨hv, hfr⟩, by rw [ht]; exact hP, hD⟩, hS.F ht⟩) hS.2.2 dX5_pinLeastHour_56
      · have tc_4 : y3_3.toInt < (24 : Int32).toInt := Int32.lt_iff_toInt_lt.mp (Int32.not_le.mp c_4)
        refine lv_iload_n hx hb dX5_pinLeastHour_15 rfl (lv_at hl 1 rfl) ?_
        refine lv_iload_n hx hb dX5_pinLeastHour_16 rfl (lv_at hl 0 rfl) ?_
        refine yc_p hP hS (va_runSN (As := [.int x_2, .int y3_3]) (rest := []) ⟨hx, hb, hml, hown, hts⟩ (c_X7_hasBit l x_2 y3_3) ⟨va_cnB 2 hts gX5_pinLeastHour_X7_hasBit_n47 rfl rfl rfl hE.2.2.2.2.2.2.2.2.2.2.2.2.1 (hts (.initialized RX7) (by decide +kernel)) (by decide +kernel) ⟨Nat.le_of_ble_eq_true rfl, Nat.le_of_ble_eq_true rfl⟩, (hts (.static yX7_hasBit) (by decide +kernel)), trivial⟩ ex_preP rfl rfl hl.1 rfl (lv_room (Nat.le_of_ble_eq_true rfl)) dX5_pinLeastHour_17 ⟨Nat.le_of_ble_eq_true rfl, Nat.le_of_ble_eq_true rfl⟩) (fun r_5 H locs hw_5 hP hS => ?_)
        rcases hw_5 with rfl | rfl
        · refine lv_if_eq (tgt := 41) hx hb dX5_pinLeastHour_20 (by decide) (fun _ => ?_) (fun c9 => absurd c9 (by decide))
          obtain ⟨x_6, ex_6⟩ : ∃ y : Int32, y = y3_3 + 1 := ⟨_, rfl⟩
          refine lv_iinc (v := x_6) (lv' := [(3, .int x_6), (2, .int x_2), (0, .ref (ad 10)), (1, .int x0)]) hx hb dX5_pinLeastHour_41 hl (k := 0) rfl (by rw [ex_6]; rfl) (by decide) rfl (fun ls hl => ?_)
          have k_1 : (1 : Int32).toInt = 1 := by decide
          have tx_6 : x_6.toInt = y3_3.toInt + (1 : Int32).toInt := by rw [ex_6]; exact t_add ⟨by omega, by omega⟩
          refine lv_goto (tgt := 9) hx hb dX5_pinLeastHour_44 (by decide) ?_
          exact ih_3 x_6 u3 H locs (by omega) (by omega) (by omega) hv hfr hP hD hS ls (lv_sub hl [0, 1, 2, 3] rfl)
        · refine lv_if_eq (tgt := 41) hx hb dX5_pinLeastHour_20 (by decide) (fun c9 => absurd c9 (by decide)) (fun _ => ?_)
          refine lv_aload_n hx hb dX5_pinLeastHour_23 rfl (lv_at hl 2 rfl) ?_
          refine va_get (D := (dC, dI)) (ci := 5) (v := .ref (ad 12)) (C := RX5) (T := TX5) (N := 3) hx hb hts (by decide +kernel) hown hK hP (10) (wl_at (by omega) (ce_2 (by decide))) rfl 2 (by decide) (hts (.fieldLink RX5 15 "QuietStairs$Table" "hourBits" "[I") (by decide +kernel)) (fun _ h9 => h9) rfl dX5_pinLeastHour_24 ?_
          refine lv_iload_n hx hb dX5_pinLeastHour_27 rfl (lv_at hl 3 rfl) ?_
          refine lv_iconst (v := 1) hx hb dX5_pinLeastHour_28 (by decide) ?_
          refine lv_iload_n hx hb dX5_pinLeastHour_29 rfl (lv_at hl 0 rfl) ?_
          refine lv_ishl hx hb dX5_pinLeastHour_30 ?_
          refine lv_topi (fun x_6 ex_6 => ?_)
          refine va_iast hx hb hK hP hD hS (12) 0 (wl_at (by omega) (ce_19 (by decide))) rfl pi1 dX5_pinLeastHour_31 (fun H locs hP hD hS => ?_)
          obtain ⟨v_7, ev_7⟩ : ∃ u : Nat → Nat → Int32, u = upr u3 (12) (upd (u3 (12)) (x0.toNatClampNeg) x_6) := ⟨_, rfl⟩
          have hP : va_P (dC, dI) vwCl (wl ad kv cy N v_7) H := by rw [ev_7, ← wl_put (e := _) (ce_19 (by decide))]; exact hP
          have hD : va_D A (wl ad kv cy N v_7) := by rw [ev_7, ← wl_put (e := _) (ce_19 (by decide))]; exact hD
          have hv : Iv v_7 := by rw [ev_7]; exact hv.put (K := 19) (by decide) (fun h q => by simp [bd] at q)
          have hfr : Fr v v_7 := by rw [ev_7]; exact hfr.put (by omega) (by omega) (by omega)
          refine lv_aload_n hx hb dX5_pinLeastHour_32 rfl (lv_at hl 2 rfl) ?_
          refine yw_i (w1 := fun (u : Nat → Nat → Int32) => wl ad kv cy N u) hD hS hA (va_runV (As := []) (rest := []) ⟨hx, hb, hml, hown, hts⟩ (g_X5_stands l dC dI cy _ ad kv N hN v_7 hv ) (cwV 0 hts gX5_pinLeastHour_X5_stands rfl rfl rfl (by decide +kernel) ⟨Nat.le_of_ble_eq_true rfl, Nat.le_of_ble_eq_true rfl⟩) (yw_preV hE hK hP hD (ci := 5) (q0 := 10) rfl (wl_at (by omega) (ce_2 (by decide)))) rfl rfl hl.1 rfl (lv_room (Nat.le_of_ble_eq_true rfl)) dX5_pinLeastHour_33 ⟨Nat.le_of_ble_eq_true rfl, Nat.le_of_ble_eq_true rfl⟩) (fun r_8 v_8 H locs hw_8 hP hD hS => ?_)
          obtain ⟨hv, hw_8⟩ := hw_8
          have hfr : Fr v v_8 := hfr.trans hw_8.1
          refine lv_if_eq (tgt := 41) hx hb dX5_pinLeastHour_36 (by decide) (fun c_9 => ?_) (fun c_9 => ?_)
          · have tc_9 : r_8.toInt = (0 : Int32).toInt := by rw [c_9]
            obtain ⟨x_10, ex_10⟩ : ∃ y : Int32, y = y3_3 + 1 := ⟨_, rfl⟩
            refine lv_iinc (v := x_10) (lv' := [(3, .int x_10), (2, .int x_2), (0, .ref (ad 10)), (1, .int x0)]) hx hb dX5_pinLeastHour_41 hl (k := 0) rfl (by rw [ex_10]; rfl) (by decide) rfl (fun ls hl => ?_)
            have k_1 : (1 : Int32).toInt = 1 := by decide
            have tx_10 : x_10.toInt = y3_3.toInt + (1 : Int32).toInt := by rw [ex_10]; exact t_add ⟨by omega, by omega⟩
            refine lv_goto (tgt := 9) hx hb dX5_pinLeastHour_44 (by decide) ?_
            exact ih_3 x_10 v_8 H locs (by omega) (by omega) (by omega) hv hfr hP hD hS ls (lv_sub hl [0, 1, 2, 3] rfl)
          · have tc_9 : r_8.toInt ≠ (0 : Int32).toInt := fun q => absurd (Int32.toInt_inj.mp q) c_9
            refine lv_iload_n hx hb dX5_pinLeastHour_39 rfl (lv_at hl 0 rfl) ?_
            exact W.iret (v := y3_3) hx hb hr (fun t ht hW => ⟨⟨y3_3, v_8, rfl, ⟨hv, hfr⟩, by rw [ht]; exact hP, hD⟩, hS.F ht⟩) hS.2.2 dX5_pinLeastHour_40
  exact hloop_3 ((24 - (0 : Int32).toInt).toNat + 1) 0 v _ _ (by omega) (by omega) (by omega) hv hfr hP hD hS ls hl

set_option maxHeartbeats 4000000 in
set_option maxRecDepth 100000 in
theorem g_X5_hourOf (l : Launch) (dC : Nat → ClassId) (dI : Nat → Nat → Nat) (cy : Nat → ClassId) (sz : Nat) (ad : Nat → Nat) (kv : Value) (N : Nat) (hN : 119 ≤ N) (v : Nat → Nat → Int32) (hv : Iv v) (x0 : Int32) : Met l yX5_hourOf wsX5_hourOf ({ frames := 3, cells := 0, slots := 0, locals := 192 }) (va_Pc [.ref (ad 10), .int x0] (ex_Pre dC dI cy sz (wl ad kv cy N v))) (va_Qi (fun (r : Int32) (u : Nat → Nat → Int32) => Iv u ∧ Fr v u) (fun u t => ex_Pst dC dI (va_A (wl ad kv cy N v) sz) (wl ad kv cy N u) t) (va_A (wl ad kv cy N v) sz)) 0 0 (va_A (wl ad kv cy N v) sz) := by
  refine Met.ofW (cc := cX5_hourOf) (maxL := 4) (ret := (some .int)) (by decide) rfl ?_
  intro p e s m args below meth c s₁ B hml hv
  obtain ⟨rfl, hsz, hE, hP, hK, hD0⟩ := hv
  have hx := B.exec
  have hb := B.bytes
  have hr := B.returns
  have hts := atoms_spec (ws := wsX5_hourOf) B.pre
  have hown : s.vm.findClass RX5 = some m.cls := findClass_of_methodNamed B.named
  have hlocks := B.notSynchronized
  subst hsz
  have hD := hD0.self (sz := s.heap.size)
  generalize hAe : va_A (wl ad kv cy N v) s.heap.size = A at hD ⊢
  have hA : ∀ q : Nat, s.heap.size ≤ q → A q := fun q h => by rw [← hAe]; exact Or.inr h
  have hS : va_S A s.heap s.heap [] := va_S.rf
  have hP : va_P (dC, dI) vwCl (wl ad kv cy N v) s.heap := hP
  have hl := lv_entry ([.ref (ad 10), .int x0]) (n := 4) (Nat.le_of_ble_eq_true rfl)
  rw [lg_entry_eq]
  generalize (lg_sl ([.ref (ad 10), .int x0]) ++ List.replicate (4 - (lg_sl ([.ref (ad 10), .int x0])).length) Slot.unset).toArray = ls at hl ⊢
  have hl : lv_has ls 4 [(0, .ref (ad 10)), (1, .int x0)] := hl
  have hfr : Fr v v := Fr.rf
  refine lv_iconst (v := 0) hx hb dX5_hourOf_0 (by decide) ?_
  refine lv_istore_n (lv' := [(2, .int 0), (0, .ref (ad 10)), (1, .int x0)]) hx hb dX5_hourOf_1 rfl hl (by decide) rfl (fun ls hl => ?_)
  have k_0 : (0 : Int32).toInt = 0 := by decide
  have hloop_1 : ∀ (n : Nat) (y1_2 : Int32) (u1 : Nat → Nat → Int32) (H : Heap) (locs : List Loc), 0 ≤ y1_2.toInt → y1_2.toInt ≤ 5 → (5 - y1_2.toInt).toNat < n → Iv u1 → Fr v u1 → va_P (dC, dI) vwCl (wl ad kv cy N u1) H → va_D A (wl ad kv cy N u1) → va_S A s.heap H locs → ∀ ls : Array Slot, lv_has ls 4 [(2, .int y1_2), (0, .ref (ad 10)), (1, .int x0)] → W p l e (headSpec wsX5_hourOf ({ frames := 3, cells := 0, slots := 0, locals := 192 })).room s m [Value.ref (ad 10), Value.int x0].toArray below meth c H locs 0 0 (MQ below (va_Qi (fun (r : Int32) (u : Nat → Nat → Int32) => Iv u ∧ Fr v u) (fun u t => ex_Pst dC dI A (wl ad kv cy N u) t) A) [Value.ref (ad 10), Value.int x0].toArray s 0 0 A) (F0 m 2 ls []) := by
    intro n
    induction n with
    | zero =>
      intro y1_2 u1 H locs ay1_2 by1_2 hm_1 hv hfr hP hD hS ls hl
      exact absurd hm_1 (by omega)
    | succ n ih_1 =>
      intro y1_2 u1 H locs ay1_2 by1_2 hm_1 hv hfr hP hD hS ls hl
      refine lv_iload_n hx hb dX5_hourOf_2 rfl (lv_at hl 0 rfl) ?_
      refine lv_aload_n hx hb dX5_hourOf_3 rfl (lv_at hl 1 rfl) ?_
      refine va_get (D := (dC, dI)) (ci := 5) (v := .int (u1 (10) 0)) (C := RX5) (T := TX5) (N := 3) hx hb hts (by decide +kernel) hown hK hP (10) (wl_at (by omega) (ce_2 (by decide))) rfl 0 (by decide) (hts (.fieldLink RX5 18 "QuietStairs$Table" "count" "I") (by decide +kernel)) (fun _ h9 => h9) rfl dX5_hourOf_4 ?_
      refine lv_topi (fun x_2 ex_2 => ?_)
      have bx_2 : 0 ≤ x_2.toInt ∧ x_2.toInt ≤ 5 := by rw [ex_2]; exact hv.at (K := 2) (by decide) rfl
      refine lv_icmp_ge (tgt := 34) hx hb dX5_hourOf_7 (by decide) (fun c_3 => ?_) (fun c_3 => ?_)
      · have tc_3 : y1_2.toInt ≥ x_2.toInt := Int32.le_iff_toInt_le.mp c_3
        refine lv_bipush (v := (-5)) hx hb dX5_hourOf_34 (by decide) ?_
        exact W.iret (v := (-5)) hx hb hr (fun t ht hW => ⟨⟨(-5), u1, rfl, ⟨hv, hfr⟩, by rw [ht]; exact hP, hD⟩, hS.F ht⟩) hS.2.2 dX5_hourOf_36
      · have tc_3 : y1_2.toInt < x_2.toInt := Int32.lt_iff_toInt_lt.mp (Int32.not_le.mp c_3)
        refine lv_aload_n hx hb dX5_hourOf_10 rfl (lv_at hl 1 rfl) ?_
        refine lv_iload_n hx hb dX5_hourOf_11 rfl (lv_at hl 0 rfl) ?_
        refine yw_i (w1 := fun (u : Nat → Nat → Int32) => wl ad kv cy N u) hD hS hA (va_runV (As := [.int y1_2]) (rest := []) ⟨hx, hb, hml, hown, hts⟩ (g_X5_pinLeastHour l dC dI cy _ ad kv N hN u1 hv y1_2 ⟨by omega, by omega⟩) (cwV 1 hts gX5_hourOf_X5_pinLeastHour rfl rfl rfl (by decide +kernel) ⟨Nat.le_of_ble_eq_true rfl, Nat.le_of_ble_eq_true rfl⟩) (yw_preV hE hK hP hD (ci := 5) (q0 := 10) rfl (wl_at (by omega) (ce_2 (by decide)))) rfl rfl hl.1 rfl (lv_room (Nat.le_of_ble_eq_true rfl)) dX5_hourOf_12 ⟨Nat.le_of_ble_eq_true rfl, Nat.le_of_ble_eq_true rfl⟩) (fun r_4 v_4 H locs hw_4 hP hD hS => ?_)
        obtain ⟨hv, hw_4⟩ := hw_4
        have hfr : Fr v v_4 := hfr.trans hw_4
        refine lv_istore_n (lv' := [(3, .int r_4), (2, .int y1_2), (0, .ref (ad 10)), (1, .int x0)]) hx hb dX5_hourOf_15 rfl hl (by decide) rfl (fun ls hl => ?_)
        refine lv_aload_n hx hb dX5_hourOf_16 rfl (lv_at hl 2 rfl) ?_
        refine va_get (D := (dC, dI)) (ci := 5) (v := .ref (ad 11)) (C := RX5) (T := TX5) (N := 3) hx hb hts (by decide +kernel) hown hK hP (10) (wl_at (by omega) (ce_2 (by decide))) rfl 1 (by decide) (hts (.fieldLink RX5 9 "QuietStairs$Table" "musts" "[I") (by decide +kernel)) (fun _ h9 => h9) rfl dX5_hourOf_17 ?_
        refine lv_iload_n hx hb dX5_hourOf_20 rfl (lv_at hl 1 rfl) ?_
        obtain ⟨pi5, i5, hi5, ni5, mi5⟩ := t_in (x := y1_2) (n := 5) ⟨by omega, by omega⟩
        refine va_iald hx hb hK hP (11) 0 (wl_at (by omega) (ce_19 (by decide))) rfl pi5 dX5_hourOf_21 ?_
        refine lv_topi (fun x_6 ex_6 => ?_)
        refine lv_iload_n hx hb dX5_hourOf_22 rfl (lv_at hl 3 rfl) ?_
        refine lv_icmp_ne (tgt := 28) hx hb dX5_hourOf_23 (by decide) (fun c_7 => ?_) (fun c_7 => ?_)
        · have tc_7 : x_6.toInt ≠ x0.toInt := fun q => absurd (Int32.toInt_inj.mp q) c_7
          obtain ⟨x_8, ex_8⟩ : ∃ y : Int32, y = y1_2 + 1 := ⟨_, rfl⟩
          refine lv_iinc (v := x_8) (lv' := [(2, .int x_8), (3, .int r_4), (0, .ref (ad 10)), (1, .int x0)]) hx hb dX5_hourOf_28 hl (k := 1) rfl (by rw [ex_8]; rfl) (by decide) rfl (fun ls hl => ?_)
          have k_1 : (1 : Int32).toInt = 1 := by decide
          have tx_8 : x_8.toInt = y1_2.toInt + (1 : Int32).toInt := by rw [ex_8]; exact t_add ⟨by omega, by omega⟩
          refine lv_goto (tgt := 2) hx hb dX5_hourOf_31 (by decide) ?_
          exact ih_1 x_8 v_4 H locs (by omega) (by omega) (by omega) hv hfr hP hD hS ls (lv_sub hl [0, 2, 3] rfl)
        · have tc_7 : x_6.toInt = x0.toInt := by rw [c_7]
          refine lv_iload_n hx hb dX5_hourOf_26 rfl (lv_at hl 0 rfl) ?_
          exact W.iret (v := r_4) hx hb hr (fun t ht hW => ⟨⟨r_4, v_4, rfl, ⟨hv, hfr⟩, by rw [ht]; exact hP, hD⟩, hS.F ht⟩) hS.2.2 dX5_hourOf_27
  exact hloop_1 ((5 - (0 : Int32).toInt).toNat + 1) 0 v _ _ (by omega) (by omega) (by omega) hv hfr hP hD hS ls hl

set_option maxHeartbeats 4000000 in
set_option maxRecDepth 100000 in
theorem g_X7_canHold (l : Launch) (dC : Nat → ClassId) (dI : Nat → Nat → Nat) (cy : Nat → ClassId) (sz : Nat) (ad : Nat → Nat) (kv : Value) (N : Nat) (hN : 119 ≤ N) (v : Nat → Nat → Int32) (hv : Iv v)  (x0 x1 : Int32) : Met l yX7_canHold wsX7_canHold ({ frames := 3, cells := 0, slots := 0, locals := 192 }) (va_Pc [.ref (ad 0), .int x0, .int x1] (ex_Pre dC dI cy sz (wl ad kv cy N v))) (va_Qi (fun (r : Int32) (u : Nat → Nat → Int32) => Iv u ∧ Fr v u) (fun u t => ex_Pst dC dI (va_A (wl ad kv cy N v) sz) (wl ad kv cy N u) t) (va_A (wl ad kv cy N v) sz)) 0 0 (va_A (wl ad kv cy N v) sz) := by
  refine Met.ofW (cc := cX7_canHold) (maxL := 3) (ret := (some .int)) (by decide) rfl ?_
  intro p e s m args below meth c s₁ B hml hv
  obtain ⟨rfl, hsz, hE, hP, hK, hD0⟩ := hv
  have hx := B.exec
  have hb := B.bytes
  have hr := B.returns
  have hts := atoms_spec (ws := wsX7_canHold) B.pre
  have hown : s.vm.findClass RX7 = some m.cls := findClass_of_methodNamed B.named
  have hlocks := B.notSynchronized
  subst hsz
  have hD := hD0.self (sz := s.heap.size)
  generalize hAe : va_A (wl ad kv cy N v) s.heap.size = A at hD ⊢
  have hA : ∀ q : Nat, s.heap.size ≤ q → A q := fun q h => by rw [← hAe]; exact Or.inr h
  have hS : va_S A s.heap s.heap [] := va_S.rf
  have hP : va_P (dC, dI) vwCl (wl ad kv cy N v) s.heap := hP
  have hl := lv_entry ([.ref (ad 0), .int x0, .int x1]) (n := 3) (Nat.le_of_ble_eq_true rfl)
  rw [lg_entry_eq]
  generalize (lg_sl ([.ref (ad 0), .int x0, .int x1]) ++ List.replicate (3 - (lg_sl ([.ref (ad 0), .int x0, .int x1])).length) Slot.unset).toArray = ls at hl ⊢
  have hl : lv_has ls 3 [(0, .ref (ad 0)), (1, .int x0), (2, .int x1)] := hl
  have hfr : Fr v v := Fr.rf
  refine lv_aload_n hx hb dX7_canHold_0 rfl (lv_at hl 0 rfl) ?_
  refine lv_iload_n hx hb dX7_canHold_1 rfl (lv_at hl 1 rfl) ?_
  refine yw_i (w1 := fun (u : Nat → Nat → Int32) => wl ad kv cy N u) hD hS hA (va_runV (As := [.int x0]) (rest := []) ⟨hx, hb, hml, hown, hts⟩ (g_X7_isCase l dC dI cy _ ad kv N hN v hv x0) (cwV 1 hts gX7_canHold_X7_isCase rfl rfl rfl (by decide +kernel) ⟨Nat.le_of_ble_eq_true rfl, Nat.le_of_ble_eq_true rfl⟩) (yw_preV hE hK hP hD (ci := 7) (q0 := 0) rfl (wl_at (by omega) (ce_0 (by decide)))) rfl rfl hl.1 rfl (lv_room (Nat.le_of_ble_eq_true rfl)) dX7_canHold_2 ⟨Nat.le_of_ble_eq_true rfl, Nat.le_of_ble_eq_true rfl⟩) (fun r_1 v_1 H locs hw_1 hP hD hS => ?_)
  obtain ⟨hv, hw_1⟩ := hw_1
  obtain ⟨hu_1, hw_1⟩ := hw_1
  have hfr : Fr v v_1 := by rw [hu_1]; exact hfr
  rcases hw_1 with ⟨rfl, ha_2⟩ | ⟨rfl, -⟩
  · have hb_2 := hv.at (k := 13) (j := 2) (K := 3) (by decide) rfl
    have hb_2 : 0 ≤ x0.toInt ∧ x0.toInt < 6 := by omega
    refine lv_if_eq (tgt := 15) hx hb dX7_canHold_5 (by decide) (fun c9 => absurd c9 (by decide)) (fun _ => ?_)
    refine lv_iload_n hx hb dX7_canHold_8 rfl (lv_at hl 2 rfl) ?_
    refine yc_p hP hS (va_runS (As := [.int x1]) (rest := []) ⟨hx, hb, hml, hown, hts⟩ (c_X7_isSide l x1) (cwS 1 hts gX7_canHold_X7_isSide rfl rfl rfl (by decide +kernel) ⟨Nat.le_of_ble_eq_true rfl, Nat.le_of_ble_eq_true rfl⟩) ex_preP rfl rfl hl.1 rfl (lv_room (Nat.le_of_ble_eq_true rfl)) dX7_canHold_9 ⟨Nat.le_of_ble_eq_true rfl, Nat.le_of_ble_eq_true rfl⟩) (fun r_3 H locs hw_3 hP hS => ?_)
    rcases wi_ca hw_3 with ⟨rfl, hc_4⟩ | ⟨rfl, hc_4⟩
    · have k_0 : (0 : Int32).toInt = 0 := by decide
      have k_1 : (1 : Int32).toInt = 1 := by decide
      have tc_4 := wi_tl hc_4
      refine lv_if_ne (tgt := 17) hx hb dX7_canHold_12 (by decide) (fun _ => ?_) (fun c9 => absurd c9 (by decide))
      refine lv_aload_n hx hb dX7_canHold_17 rfl (lv_at hl 0 rfl) ?_
      refine va_get (D := (dC, dI)) (ci := 7) (v := .ref (ad 10)) (C := RX7) (T := TX7) (N := 5) hx hb hts (by decide +kernel) hown hK hP (0) (wl_at (by omega) (ce_0 (by decide))) rfl 2 (by decide) (hts (.fieldLink RX7 26 "QuietStairs" "table" "LQuietStairs$Table;") (by decide +kernel)) (fun _ h9 => h9) rfl dX7_canHold_18 ?_
      refine lv_aload_n hx hb dX7_canHold_21 rfl (lv_at hl 0 rfl) ?_
      refine va_get (D := (dC, dI)) (ci := 7) (v := .ref (ad 13)) (C := RX7) (T := TX7) (N := 5) hx hb hts (by decide +kernel) hown hK hP (0) (wl_at (by omega) (ce_0 (by decide))) rfl 0 (by decide) (hts (.fieldLink RX7 12 "QuietStairs" "now" "LQuietStairs$House;") (by decide +kernel)) (fun _ h9 => h9) rfl dX7_canHold_22 ?_
      refine va_get (D := (dC, dI)) (ci := 1) (v := .ref (ad 16)) (C := RX1) (T := TX1) (N := 7) hx hb hts (by decide +kernel) hown hK hP (13) (wl_at (by omega) (ce_3 (by decide))) rfl 6 (by decide) (hts (.fieldLink RX7 86 "QuietStairs$House" "cases" "[LQuietStairs$Case;") (by decide +kernel)) (fun _ h9 => h9) rfl dX7_canHold_25 ?_
      refine lv_iload_n hx hb dX7_canHold_28 rfl (lv_at hl 1 rfl) ?_
      obtain ⟨pi5, i5, hi5, ni5, mi5⟩ := t_in (x := x0) (n := 6) ⟨by omega, by omega⟩
      refine va_aldq hx hb hK hP (16) 3 (wl_at (by omega) (ce_6 (by decide))) rfl pi5 dX7_canHold_29 ?_
      refine W.eq (g2 := F0 m 30 ls [.ref (ad (29 + 15 * i5)), .ref (ad 10)]) (by rw [ni5, if_pos hi5, show 16 + 13 + 15 * i5 = 29 + 15 * i5 from by omega]; rfl) ?_
      refine lv_iload_n hx hb dX7_canHold_30 rfl (lv_at hl 2 rfl) ?_
      refine lv_aload_n hx hb dX7_canHold_31 rfl (lv_at hl 0 rfl) ?_
      refine va_get (D := (dC, dI)) (ci := 7) (v := .ref (ad 13)) (C := RX7) (T := TX7) (N := 5) hx hb hts (by decide +kernel) hown hK hP (0) (wl_at (by omega) (ce_0 (by decide))) rfl 0 (by decide) (hts (.fieldLink RX7 12 "QuietStairs" "now" "LQuietStairs$House;") (by decide +kernel)) (fun _ h9 => h9) rfl dX7_canHold_32 ?_
      refine va_get (D := (dC, dI)) (ci := 1) (v := .ref (ad 16)) (C := RX1) (T := TX1) (N := 7) hx hb hts (by decide +kernel) hown hK hP (13) (wl_at (by omega) (ce_3 (by decide))) rfl 6 (by decide) (hts (.fieldLink RX7 86 "QuietStairs$House" "cases" "[LQuietStairs$Case;") (by decide +kernel)) (fun _ h9 => h9) rfl dX7_canHold_35 ?_
      refine lv_iload_n hx hb dX7_canHold_38 rfl (lv_at hl 1 rfl) ?_
      refine va_aldq hx hb hK hP (16) 3 (wl_at (by omega) (ce_6 (by decide))) rfl pi5 dX7_canHold_39 ?_
      refine W.eq (g2 := F0 m 40 ls [.ref (ad (29 + 15 * i5)), .int x1, .ref (ad (29 + 15 * i5)), .ref (ad 10)]) (by rw [ni5, if_pos hi5, show 16 + 13 + 15 * i5 = 29 + 15 * i5 from by omega]; rfl) ?_
      refine va_get (D := (dC, dI)) (ci := 0) (v := .int (v_1 (29 + 15 * i5) 5)) (C := RX0) (T := TX0) (N := 11) hx hb hts (by decide +kernel) hown hK hP (29 + 15 * i5) (wl_at (by omega) (ce_9 (kd_c i5 hi5).1.1)) rfl 5 (by decide) (hts (.fieldLink RX7 169 "QuietStairs$Case" "termCount" "I") (by decide +kernel)) (fun _ h9 => h9) rfl dX7_canHold_40 ?_
      refine lv_topi (fun x_6 ex_6 => ?_)
      have bx_6 : 0 ≤ x_6.toInt ∧ x_6.toInt ≤ 5 := by rw [ex_6]; exact hv.at (K := 9) (kd_c i5 hi5).1.1 rfl
      refine yw_v (w1 := fun (u : Nat → Nat → Int32) => wl ad kv cy N u) hD hS hA (va_runV (As := [.ref (ad (29 + 15 * i5)), .int x1, .int x_6]) (rest := []) ⟨hx, hb, hml, hown, hts⟩ (g_X5_read l dC dI cy _ ad kv N hN v_1 hv i5 hi5 x1 x_6 ⟨by omega, by omega⟩) (cwV 3 hts gX7_canHold_X5_read rfl rfl rfl (by decide +kernel) ⟨Nat.le_of_ble_eq_true rfl, Nat.le_of_ble_eq_true rfl⟩) (yw_preV hE hK hP hD (ci := 5) (q0 := 10) rfl (wl_at (by omega) (ce_2 (by decide)))) rfl rfl hl.1 rfl (lv_room (Nat.le_of_ble_eq_true rfl)) dX7_canHold_43 ⟨Nat.le_of_ble_eq_true rfl, Nat.le_of_ble_eq_true rfl⟩) (fun v_7 H locs hw_7 hP hD hS => ?_)
      obtain ⟨hv, hw_7⟩ := hw_7
      have hfr : Fr v v_7 := hfr.trans hw_7
      refine lv_aload_n hx hb dX7_canHold_46 rfl (lv_at hl 0 rfl) ?_
      refine va_get (D := (dC, dI)) (ci := 7) (v := .ref (ad 10)) (C := RX7) (T := TX7) (N := 5) hx hb hts (by decide +kernel) hown hK hP (0) (wl_at (by omega) (ce_0 (by decide))) rfl 2 (by decide) (hts (.fieldLink RX7 26 "QuietStairs" "table" "LQuietStairs$Table;") (by decide +kernel)) (fun _ h9 => h9) rfl dX7_canHold_47 ?_
      refine yw_i (w1 := fun (u : Nat → Nat → Int32) => wl ad kv cy N u) hD hS hA (va_runV (As := []) (rest := []) ⟨hx, hb, hml, hown, hts⟩ (g_X5_stands l dC dI cy _ ad kv N hN v_7 hv ) (cwV 0 hts gX7_canHold_X5_stands rfl rfl rfl (by decide +kernel) ⟨Nat.le_of_ble_eq_true rfl, Nat.le_of_ble_eq_true rfl⟩) (yw_preV hE hK hP hD (ci := 5) (q0 := 10) rfl (wl_at (by omega) (ce_2 (by decide)))) rfl rfl hl.1 rfl (lv_room (Nat.le_of_ble_eq_true rfl)) dX7_canHold_50 ⟨Nat.le_of_ble_eq_true rfl, Nat.le_of_ble_eq_true rfl⟩) (fun r_8 v_8 H locs hw_8 hP hD hS => ?_)
      obtain ⟨hv, hw_8⟩ := hw_8
      have hfr : Fr v v_8 := hfr.trans hw_8.1
      refine lv_if_eq (tgt := 60) hx hb dX7_canHold_53 (by decide) (fun c_9 => ?_) (fun c_9 => ?_)
      · have tc_9 : r_8.toInt = (0 : Int32).toInt := by rw [c_9]
        refine lv_iconst (v := 0) hx hb dX7_canHold_60 (by decide) ?_
        exact W.iret (v := 0) hx hb hr (fun t ht hW => ⟨⟨0, v_8, rfl, ⟨hv, hfr⟩, by rw [ht]; exact hP, hD⟩, hS.F ht⟩) hS.2.2 dX7_canHold_61
      · have tc_9 : r_8.toInt ≠ (0 : Int32).toInt := fun q => absurd (Int32.toInt_inj.mp q) c_9
        refine lv_iconst (v := 1) hx hb dX7_canHold_56 (by decide) ?_
        refine lv_goto (tgt := 61) hx hb dX7_canHold_57 (by decide) ?_
        exact W.iret (v := 1) hx hb hr (fun t ht hW => ⟨⟨1, v_8, rfl, ⟨hv, hfr⟩, by rw [ht]; exact hP, hD⟩, hS.F ht⟩) hS.2.2 dX7_canHold_61
    · refine lv_if_ne (tgt := 17) hx hb dX7_canHold_12 (by decide) (fun c9 => absurd c9 (by decide)) (fun _ => ?_)
      refine lv_iconst (v := (-1)) hx hb dX7_canHold_15 (by decide) ?_
      exact W.iret (v := (-1)) hx hb hr (fun t ht hW => ⟨⟨(-1), v_1, rfl, ⟨hv, hfr⟩, by rw [ht]; exact hP, hD⟩, hS.F ht⟩) hS.2.2 dX7_canHold_16
  · refine lv_if_eq (tgt := 15) hx hb dX7_canHold_5 (by decide) (fun _ => ?_) (fun c9 => absurd c9 (by decide))
    refine lv_iconst (v := (-1)) hx hb dX7_canHold_15 (by decide) ?_
    exact W.iret (v := (-1)) hx hb hr (fun t ht hW => ⟨⟨(-1), v_1, rfl, ⟨hv, hfr⟩, by rw [ht]; exact hP, hD⟩, hS.F ht⟩) hS.2.2 dX7_canHold_16

set_option maxHeartbeats 4000000 in
set_option maxRecDepth 100000 in
theorem g_X7_hour (l : Launch) (dC : Nat → ClassId) (dI : Nat → Nat → Nat) (cy : Nat → ClassId) (sz : Nat) (ad : Nat → Nat) (kv : Value) (N : Nat) (hN : 119 ≤ N) (v : Nat → Nat → Int32) (hv : Iv v)  (x0 x1 : Int32) : Met l yX7_hour wsX7_hour ({ frames := 4, cells := 0, slots := 0, locals := 256 }) (va_Pc [.ref (ad 0), .int x0, .int x1] (ex_Pre dC dI cy sz (wl ad kv cy N v))) (va_Qi (fun (r : Int32) (u : Nat → Nat → Int32) => Iv u ∧ Fr v u) (fun u t => ex_Pst dC dI (va_A (wl ad kv cy N v) sz) (wl ad kv cy N u) t) (va_A (wl ad kv cy N v) sz)) 0 0 (va_A (wl ad kv cy N v) sz) := by
  refine Met.ofW (cc := cX7_hour) (maxL := 4) (ret := (some .int)) (by decide) rfl ?_
  intro p e s m args below meth c s₁ B hml hv
  obtain ⟨rfl, hsz, hE, hP, hK, hD0⟩ := hv
  have hx := B.exec
  have hb := B.bytes
  have hr := B.returns
  have hts := atoms_spec (ws := wsX7_hour) B.pre
  have hown : s.vm.findClass RX7 = some m.cls := findClass_of_methodNamed B.named
  have hlocks := B.notSynchronized
  subst hsz
  have hD := hD0.self (sz := s.heap.size)
  generalize hAe : va_A (wl ad kv cy N v) s.heap.size = A at hD ⊢
  have hA : ∀ q : Nat, s.heap.size ≤ q → A q := fun q h => by rw [← hAe]; exact Or.inr h
  have hS : va_S A s.heap s.heap [] := va_S.rf
  have hP : va_P (dC, dI) vwCl (wl ad kv cy N v) s.heap := hP
  have hl := lv_entry ([.ref (ad 0), .int x0, .int x1]) (n := 4) (Nat.le_of_ble_eq_true rfl)
  rw [lg_entry_eq]
  generalize (lg_sl ([.ref (ad 0), .int x0, .int x1]) ++ List.replicate (4 - (lg_sl ([.ref (ad 0), .int x0, .int x1])).length) Slot.unset).toArray = ls at hl ⊢
  have hl : lv_has ls 4 [(0, .ref (ad 0)), (1, .int x0), (2, .int x1)] := hl
  have hfr : Fr v v := Fr.rf
  refine lv_aload_n hx hb dX7_hour_0 rfl (lv_at hl 0 rfl) ?_
  refine lv_iload_n hx hb dX7_hour_1 rfl (lv_at hl 1 rfl) ?_
  refine lv_iload_n hx hb dX7_hour_2 rfl (lv_at hl 2 rfl) ?_
  refine yw_i (w1 := fun (u : Nat → Nat → Int32) => wl ad kv cy N u) hD hS hA (va_runV (As := [.int x0, .int x1]) (rest := []) ⟨hx, hb, hml, hown, hts⟩ (g_X7_isTerm l dC dI cy _ ad kv N hN v hv x0 x1) (cwV 2 hts gX7_hour_X7_isTerm rfl rfl rfl (by decide +kernel) ⟨Nat.le_of_ble_eq_true rfl, Nat.le_of_ble_eq_true rfl⟩) (yw_preV hE hK hP hD (ci := 7) (q0 := 0) rfl (wl_at (by omega) (ce_0 (by decide)))) rfl rfl hl.1 rfl (lv_room (Nat.le_of_ble_eq_true rfl)) dX7_hour_3 ⟨Nat.le_of_ble_eq_true rfl, Nat.le_of_ble_eq_true rfl⟩) (fun r_1 v_1 H locs hw_1 hP hD hS => ?_)
  obtain ⟨hv, hw_1⟩ := hw_1
  have hfr : Fr v v_1 := hfr.trans hw_1.1
  rcases hw_1.2 with ⟨rfl, ha_2, hb_2⟩ | rfl
  · refine lv_if_ne (tgt := 11) hx hb dX7_hour_6 (by decide) (fun _ => ?_) (fun c9 => absurd c9 (by decide))
    refine lv_aload_n hx hb dX7_hour_11 rfl (lv_at hl 0 rfl) ?_
    refine va_get (D := (dC, dI)) (ci := 7) (v := .ref (ad 13)) (C := RX7) (T := TX7) (N := 5) hx hb hts (by decide +kernel) hown hK hP (0) (wl_at (by omega) (ce_0 (by decide))) rfl 0 (by decide) (hts (.fieldLink RX7 12 "QuietStairs" "now" "LQuietStairs$House;") (by decide +kernel)) (fun _ h9 => h9) rfl dX7_hour_12 ?_
    refine va_get (D := (dC, dI)) (ci := 1) (v := .ref (ad 16)) (C := RX1) (T := TX1) (N := 7) hx hb hts (by decide +kernel) hown hK hP (13) (wl_at (by omega) (ce_3 (by decide))) rfl 6 (by decide) (hts (.fieldLink RX7 86 "QuietStairs$House" "cases" "[LQuietStairs$Case;") (by decide +kernel)) (fun _ h9 => h9) rfl dX7_hour_15 ?_
    refine lv_iload_n hx hb dX7_hour_18 rfl (lv_at hl 1 rfl) ?_
    obtain ⟨pi3, i3, hi3, ni3, mi3⟩ := t_in (x := x0) (n := 6) ⟨by omega, by omega⟩
    refine va_aldq hx hb hK hP (16) 3 (wl_at (by omega) (ce_6 (by decide))) rfl pi3 dX7_hour_19 ?_
    refine W.eq (g2 := F0 m 20 ls [.ref (ad (29 + 15 * i3))]) (by rw [ni3, if_pos hi3, show 16 + 13 + 15 * i3 = 29 + 15 * i3 from by omega]; rfl) ?_
    refine lv_astore_n (lv' := [(3, .ref (ad (29 + 15 * i3))), (0, .ref (ad 0)), (1, .int x0), (2, .int x1)]) hx hb dX7_hour_20 rfl hl (by decide) rfl (fun ls hl => ?_)
    refine lv_aload_n hx hb dX7_hour_21 rfl (lv_at hl 0 rfl) ?_
    refine va_get (D := (dC, dI)) (ci := 0) (v := .ref (ad (29 + 15 * i3 + 9))) (C := RX0) (T := TX0) (N := 11) hx hb hts (by decide +kernel) hown hK hP (29 + 15 * i3) (wl_at (by omega) (ce_9 (kd_c i3 hi3).1.1)) rfl 10 (by decide) (hts (.fieldLink RX7 172 "QuietStairs$Case" "terms" "[LQuietStairs$Term;") (by decide +kernel)) (fun _ h9 => h9) rfl dX7_hour_22 ?_
    refine W.eq (g2 := F0 m 25 ls [.ref (ad (38 + 15 * i3))]) (by rw [show 29 + 15 * i3 + 9 = 38 + 15 * i3 from by omega]) ?_
    refine lv_iload_n hx hb dX7_hour_25 rfl (lv_at hl 3 rfl) ?_
    obtain ⟨pi4, i4, hi4, ni4, mi4⟩ := t_in (x := x1) (n := 5) ⟨by omega, by omega⟩
    refine va_aldq hx hb hK hP (38 + 15 * i3) 4 (wl_at (by omega) (ce_15 (kd_c i3 hi3).1.2.2.2.2.2)) rfl pi4 dX7_hour_26 ?_
    refine W.eq (g2 := F0 m 27 ls [.ref (ad (39 + 15 * i3 + i4))]) (by rw [ni4, if_pos hi4, show 38 + 15 * i3 + 1 + i4 = 39 + 15 * i3 + i4 from by omega]; rfl) ?_
    refine va_get (D := (dC, dI)) (ci := 6) (v := .int (v_1 (39 + 15 * i3 + i4) 1)) (C := RX6) (T := TX6) (N := 5) hx hb hts (by decide +kernel) hown hK hP (39 + 15 * i3 + i4) (wl_at (by omega) (ce_16 (kd_t i3 hi3 i4 hi4).1)) rfl 1 (by decide) (hts (.fieldLink RX7 181 "QuietStairs$Term" "must" "Z") (by decide +kernel)) (fun _ h9 => h9) rfl dX7_hour_27 ?_
    refine lv_topi (fun x_5 ex_5 => ?_)
    have bx_5 : 0 ≤ x_5.toInt ∧ x_5.toInt ≤ 1 := by rw [ex_5]; exact hv.at (K := 16) (kd_t i3 hi3 i4 hi4).1 rfl
    have k_0 : (0 : Int32).toInt = 0 := by decide
    refine lv_if_ne (tgt := 36) hx hb dX7_hour_30 (by decide) (fun c_6 => ?_) (fun c_6 => ?_)
    · have tc_6 : x_5.toInt ≠ (0 : Int32).toInt := fun q => absurd (Int32.toInt_inj.mp q) c_6
      refine lv_aload_n hx hb dX7_hour_36 rfl (lv_at hl 1 rfl) ?_
      refine va_get (D := (dC, dI)) (ci := 7) (v := .ref (ad 10)) (C := RX7) (T := TX7) (N := 5) hx hb hts (by decide +kernel) hown hK hP (0) (wl_at (by omega) (ce_0 (by decide))) rfl 2 (by decide) (hts (.fieldLink RX7 26 "QuietStairs" "table" "LQuietStairs$Table;") (by decide +kernel)) (fun _ h9 => h9) rfl dX7_hour_37 ?_
      refine lv_aload_n hx hb dX7_hour_40 rfl (lv_at hl 0 rfl) ?_
      refine lv_aload_n hx hb dX7_hour_41 rfl (lv_at hl 0 rfl) ?_
      refine va_get (D := (dC, dI)) (ci := 0) (v := .ref (ad (29 + 15 * i3 + 9))) (C := RX0) (T := TX0) (N := 11) hx hb hts (by decide +kernel) hown hK hP (29 + 15 * i3) (wl_at (by omega) (ce_9 (kd_c i3 hi3).1.1)) rfl 10 (by decide) (hts (.fieldLink RX7 172 "QuietStairs$Case" "terms" "[LQuietStairs$Term;") (by decide +kernel)) (fun _ h9 => h9) rfl dX7_hour_42 ?_
      refine W.eq (g2 := F0 m 45 ls [.ref (ad (38 + 15 * i3)), .ref (ad (29 + 15 * i3)), .ref (ad 10)]) (by rw [show 29 + 15 * i3 + 9 = 38 + 15 * i3 from by omega]) ?_
      refine lv_iload_n hx hb dX7_hour_45 rfl (lv_at hl 3 rfl) ?_
      refine va_aldq hx hb hK hP (38 + 15 * i3) 4 (wl_at (by omega) (ce_15 (kd_c i3 hi3).1.2.2.2.2.2)) rfl pi4 dX7_hour_46 ?_
      refine W.eq (g2 := F0 m 47 ls [.ref (ad (39 + 15 * i3 + i4)), .ref (ad (29 + 15 * i3)), .ref (ad 10)]) (by rw [ni4, if_pos hi4, show 38 + 15 * i3 + 1 + i4 = 39 + 15 * i3 + i4 from by omega]; rfl) ?_
      refine va_get (D := (dC, dI)) (ci := 6) (v := .int (v_1 (39 + 15 * i3 + i4) 0)) (C := RX6) (T := TX6) (N := 5) hx hb hts (by decide +kernel) hown hK hP (39 + 15 * i3 + i4) (wl_at (by omega) (ce_16 (kd_t i3 hi3 i4 hi4).1)) rfl 0 (by decide) (hts (.fieldLink RX7 176 "QuietStairs$Term" "side" "I") (by decide +kernel)) (fun _ h9 => h9) rfl dX7_hour_47 ?_
      refine lv_topi (fun x_7 ex_7 => ?_)
      have bx_7 : 0 ≤ x_7.toInt ∧ x_7.toInt ≤ 1 := by rw [ex_7]; exact hv.at (K := 16) (kd_t i3 hi3 i4 hi4).1 rfl
      refine lv_aload_n hx hb dX7_hour_50 rfl (lv_at hl 0 rfl) ?_
      refine va_get (D := (dC, dI)) (ci := 0) (v := .int (v_1 (29 + 15 * i3) 5)) (C := RX0) (T := TX0) (N := 11) hx hb hts (by decide +kernel) hown hK hP (29 + 15 * i3) (wl_at (by omega) (ce_9 (kd_c i3 hi3).1.1)) rfl 5 (by decide) (hts (.fieldLink RX7 169 "QuietStairs$Case" "termCount" "I") (by decide +kernel)) (fun _ h9 => h9) rfl dX7_hour_51 ?_
      refine lv_topi (fun x_8 ex_8 => ?_)
      have bx_8 : 0 ≤ x_8.toInt ∧ x_8.toInt ≤ 5 := by rw [ex_8]; exact hv.at (K := 9) (kd_c i3 hi3).1.1 rfl
      refine yw_v (w1 := fun (u : Nat → Nat → Int32) => wl ad kv cy N u) hD hS hA (va_runV (As := [.ref (ad (29 + 15 * i3)), .int x_7, .int x_8]) (rest := []) ⟨hx, hb, hml, hown, hts⟩ (g_X5_read l dC dI cy _ ad kv N hN v_1 hv i3 hi3 x_7 x_8 ⟨by omega, by omega⟩) (cwV 3 hts gX7_hour_X5_read rfl rfl rfl (by decide +kernel) ⟨Nat.le_of_ble_eq_true rfl, Nat.le_of_ble_eq_true rfl⟩) (yw_preV hE hK hP hD (ci := 5) (q0 := 10) rfl (wl_at (by omega) (ce_2 (by decide)))) rfl rfl hl.1 rfl (lv_room (Nat.le_of_ble_eq_true rfl)) dX7_hour_54 ⟨Nat.le_of_ble_eq_true rfl, Nat.le_of_ble_eq_true rfl⟩) (fun v_9 H locs hw_9 hP hD hS => ?_)
      obtain ⟨hv, hw_9⟩ := hw_9
      have hfr : Fr v v_9 := hfr.trans hw_9
      refine lv_aload_n hx hb dX7_hour_57 rfl (lv_at hl 1 rfl) ?_
      refine va_get (D := (dC, dI)) (ci := 7) (v := .ref (ad 10)) (C := RX7) (T := TX7) (N := 5) hx hb hts (by decide +kernel) hown hK hP (0) (wl_at (by omega) (ce_0 (by decide))) rfl 2 (by decide) (hts (.fieldLink RX7 26 "QuietStairs" "table" "LQuietStairs$Table;") (by decide +kernel)) (fun _ h9 => h9) rfl dX7_hour_58 ?_
      refine yw_i (w1 := fun (u : Nat → Nat → Int32) => wl ad kv cy N u) hD hS hA (va_runV (As := []) (rest := []) ⟨hx, hb, hml, hown, hts⟩ (g_X5_stands l dC dI cy _ ad kv N hN v_9 hv ) (cwV 0 hts gX7_hour_X5_stands rfl rfl rfl (by decide +kernel) ⟨Nat.le_of_ble_eq_true rfl, Nat.le_of_ble_eq_true rfl⟩) (yw_preV hE hK hP hD (ci := 5) (q0 := 10) rfl (wl_at (by omega) (ce_2 (by decide)))) rfl rfl hl.1 rfl (lv_room (Nat.le_of_ble_eq_true rfl)) dX7_hour_61 ⟨Nat.le_of_ble_eq_true rfl, Nat.le_of_ble_eq_true rfl⟩) (fun r_10 v_10 H locs hw_10 hP hD hS => ?_)
      obtain ⟨hv, hw_10⟩ := hw_10
      have hfr : Fr v v_10 := hfr.trans hw_10.1
      refine lv_if_eq (tgt := 78) hx hb dX7_hour_64 (by decide) (fun c_11 => ?_) (fun c_11 => ?_)
      · have tc_11 : r_10.toInt = (0 : Int32).toInt := by rw [c_11]
        refine lv_bipush (v := (-5)) hx hb dX7_hour_78 (by decide) ?_
        exact W.iret (v := (-5)) hx hb hr (fun t ht hW => ⟨⟨(-5), v_10, rfl, ⟨hv, hfr⟩, by rw [ht]; exact hP, hD⟩, hS.F ht⟩) hS.2.2 dX7_hour_80
      · have tc_11 : r_10.toInt ≠ (0 : Int32).toInt := fun q => absurd (Int32.toInt_inj.mp q) c_11
        refine lv_aload_n hx hb dX7_hour_67 rfl (lv_at hl 1 rfl) ?_
        refine va_get (D := (dC, dI)) (ci := 7) (v := .ref (ad 10)) (C := RX7) (T := TX7) (N := 5) hx hb hts (by decide +kernel) hown hK hP (0) (wl_at (by omega) (ce_0 (by decide))) rfl 2 (by decide) (hts (.fieldLink RX7 26 "QuietStairs" "table" "LQuietStairs$Table;") (by decide +kernel)) (fun _ h9 => h9) rfl dX7_hour_68 ?_
        refine lv_iload_n hx hb dX7_hour_71 rfl (lv_at hl 3 rfl) ?_
        refine yw_i (w1 := fun (u : Nat → Nat → Int32) => wl ad kv cy N u) hD hS hA (va_runV (As := [.int x1]) (rest := []) ⟨hx, hb, hml, hown, hts⟩ (g_X5_hourOf l dC dI cy _ ad kv N hN v_10 hv x1) (cwV 1 hts gX7_hour_X5_hourOf rfl rfl rfl (by decide +kernel) ⟨Nat.le_of_ble_eq_true rfl, Nat.le_of_ble_eq_true rfl⟩) (yw_preV hE hK hP hD (ci := 5) (q0 := 10) rfl (wl_at (by omega) (ce_2 (by decide)))) rfl rfl hl.1 rfl (lv_room (Nat.le_of_ble_eq_true rfl)) dX7_hour_72 ⟨Nat.le_of_ble_eq_true rfl, Nat.le_of_ble_eq_true rfl⟩) (fun r_12 v_12 H locs hw_12 hP hD hS => ?_)
        obtain ⟨hv, hw_12⟩ := hw_12
        have hfr : Fr v v_12 := hfr.trans hw_12
        refine lv_goto (tgt := 80) hx hb dX7_hour_75 (by decide) ?_
        exact W.iret (v := r_12) hx hb hr (fun t ht hW => ⟨⟨r_12, v_12, rfl, ⟨hv, hfr⟩, by rw [ht]; exact hP, hD⟩, hS.F ht⟩) hS.2.2 dX7_hour_80
    · have tc_6 : x_5.toInt = (0 : Int32).toInt := by rw [c_6]
      refine lv_bipush (v := (-4)) hx hb dX7_hour_33 (by decide) ?_
      exact W.iret (v := (-4)) hx hb hr (fun t ht hW => ⟨⟨(-4), v_1, rfl, ⟨hv, hfr⟩, by rw [ht]; exact hP, hD⟩, hS.F ht⟩) hS.2.2 dX7_hour_35
  · refine lv_if_ne (tgt := 11) hx hb dX7_hour_6 (by decide) (fun c9 => absurd c9 (by decide)) (fun _ => ?_)
    refine lv_iconst (v := (-1)) hx hb dX7_hour_9 (by decide) ?_
    exact W.iret (v := (-1)) hx hb hr (fun t ht hW => ⟨⟨(-1), v_1, rfl, ⟨hv, hfr⟩, by rw [ht]; exact hP, hD⟩, hS.F ht⟩) hS.2.2 dX7_hour_10

set_option maxHeartbeats 4000000 in
set_option maxRecDepth 100000 in
theorem g_X7_breaks (l : Launch) (dC : Nat → ClassId) (dI : Nat → Nat → Nat) (cy : Nat → ClassId) (sz : Nat) (ad : Nat → Nat) (kv : Value) (N : Nat) (hN : 119 ≤ N) (v : Nat → Nat → Int32) (hv : Iv v)  (x0 x1 : Int32) : Met l yX7_breaks wsX7_breaks ({ frames := 3, cells := 0, slots := 0, locals := 192 }) (va_Pc [.ref (ad 0), .int x0, .int x1] (ex_Pre dC dI cy sz (wl ad kv cy N v))) (va_Qi (fun (r : Int32) (u : Nat → Nat → Int32) => Iv u ∧ Fr v u) (fun u t => ex_Pst dC dI (va_A (wl ad kv cy N v) sz) (wl ad kv cy N u) t) (va_A (wl ad kv cy N v) sz)) 0 0 (va_A (wl ad kv cy N v) sz) := by
  refine Met.ofW (cc := cX7_breaks) (maxL := 5) (ret := (some .int)) (by decide) rfl ?_
  intro p e s m args below meth c s₁ B hml hv
  obtain ⟨rfl, hsz, hE, hP, hK, hD0⟩ := hv
  have hx := B.exec
  have hb := B.bytes
  have hr := B.returns
  have hts := atoms_spec (ws := wsX7_breaks) B.pre
  have hown : s.vm.findClass RX7 = some m.cls := findClass_of_methodNamed B.named
  have hlocks := B.notSynchronized
  subst hsz
  have hD := hD0.self (sz := s.heap.size)
  generalize hAe : va_A (wl ad kv cy N v) s.heap.size = A at hD ⊢
  have hA : ∀ q : Nat, s.heap.size ≤ q → A q := fun q h => by rw [← hAe]; exact Or.inr h
  have hS : va_S A s.heap s.heap [] := va_S.rf
  have hP : va_P (dC, dI) vwCl (wl ad kv cy N v) s.heap := hP
  have hl := lv_entry ([.ref (ad 0), .int x0, .int x1]) (n := 5) (Nat.le_of_ble_eq_true rfl)
  rw [lg_entry_eq]
  generalize (lg_sl ([.ref (ad 0), .int x0, .int x1]) ++ List.replicate (5 - (lg_sl ([.ref (ad 0), .int x0, .int x1])).length) Slot.unset).toArray = ls at hl ⊢
  have hl : lv_has ls 5 [(0, .ref (ad 0)), (1, .int x0), (2, .int x1)] := hl
  have hfr : Fr v v := Fr.rf
  refine lv_aload_n hx hb dX7_breaks_0 rfl (lv_at hl 0 rfl) ?_
  refine lv_iload_n hx hb dX7_breaks_1 rfl (lv_at hl 1 rfl) ?_
  refine yw_i (w1 := fun (u : Nat → Nat → Int32) => wl ad kv cy N u) hD hS hA (va_runV (As := [.int x0]) (rest := []) ⟨hx, hb, hml, hown, hts⟩ (g_X7_isCase l dC dI cy _ ad kv N hN v hv x0) (cwV 1 hts gX7_breaks_X7_isCase rfl rfl rfl (by decide +kernel) ⟨Nat.le_of_ble_eq_true rfl, Nat.le_of_ble_eq_true rfl⟩) (yw_preV hE hK hP hD (ci := 7) (q0 := 0) rfl (wl_at (by omega) (ce_0 (by decide)))) rfl rfl hl.1 rfl (lv_room (Nat.le_of_ble_eq_true rfl)) dX7_breaks_2 ⟨Nat.le_of_ble_eq_true rfl, Nat.le_of_ble_eq_true rfl⟩) (fun r_1 v_1 H locs hw_1 hP hD hS => ?_)
  obtain ⟨hv, hw_1⟩ := hw_1
  obtain ⟨hu_1, hw_1⟩ := hw_1
  have hfr : Fr v v_1 := by rw [hu_1]; exact hfr
  rcases hw_1 with ⟨rfl, ha_2⟩ | ⟨rfl, -⟩
  · have hb_2 := hv.at (k := 13) (j := 2) (K := 3) (by decide) rfl
    have hb_2 : 0 ≤ x0.toInt ∧ x0.toInt < 6 := by omega
    refine lv_if_eq (tgt := 15) hx hb dX7_breaks_5 (by decide) (fun c9 => absurd c9 (by decide)) (fun _ => ?_)
    refine lv_iload_n hx hb dX7_breaks_8 rfl (lv_at hl 2 rfl) ?_
    refine yc_p hP hS (va_runS (As := [.int x1]) (rest := []) ⟨hx, hb, hml, hown, hts⟩ (c_X7_isSide l x1) (cwS 1 hts gX7_breaks_X7_isSide rfl rfl rfl (by decide +kernel) ⟨Nat.le_of_ble_eq_true rfl, Nat.le_of_ble_eq_true rfl⟩) ex_preP rfl rfl hl.1 rfl (lv_room (Nat.le_of_ble_eq_true rfl)) dX7_breaks_9 ⟨Nat.le_of_ble_eq_true rfl, Nat.le_of_ble_eq_true rfl⟩) (fun r_3 H locs hw_3 hP hS => ?_)
    rcases wi_ca hw_3 with ⟨rfl, hc_4⟩ | ⟨rfl, hc_4⟩
    · have k_0 : (0 : Int32).toInt = 0 := by decide
      have k_1 : (1 : Int32).toInt = 1 := by decide
      have tc_4 := wi_tl hc_4
      refine lv_if_ne (tgt := 17) hx hb dX7_breaks_12 (by decide) (fun _ => ?_) (fun c9 => absurd c9 (by decide))
      refine lv_aload_n hx hb dX7_breaks_17 rfl (lv_at hl 0 rfl) ?_
      refine va_get (D := (dC, dI)) (ci := 7) (v := .ref (ad 13)) (C := RX7) (T := TX7) (N := 5) hx hb hts (by decide +kernel) hown hK hP (0) (wl_at (by omega) (ce_0 (by decide))) rfl 0 (by decide) (hts (.fieldLink RX7 12 "QuietStairs" "now" "LQuietStairs$House;") (by decide +kernel)) (fun _ h9 => h9) rfl dX7_breaks_18 ?_
      refine va_get (D := (dC, dI)) (ci := 1) (v := .ref (ad 16)) (C := RX1) (T := TX1) (N := 7) hx hb hts (by decide +kernel) hown hK hP (13) (wl_at (by omega) (ce_3 (by decide))) rfl 6 (by decide) (hts (.fieldLink RX7 86 "QuietStairs$House" "cases" "[LQuietStairs$Case;") (by decide +kernel)) (fun _ h9 => h9) rfl dX7_breaks_21 ?_
      refine lv_iload_n hx hb dX7_breaks_24 rfl (lv_at hl 1 rfl) ?_
      obtain ⟨pi5, i5, hi5, ni5, mi5⟩ := t_in (x := x0) (n := 6) ⟨by omega, by omega⟩
      refine va_aldq hx hb hK hP (16) 3 (wl_at (by omega) (ce_6 (by decide))) rfl pi5 dX7_breaks_25 ?_
      refine W.eq (g2 := F0 m 26 ls [.ref (ad (29 + 15 * i5))]) (by rw [ni5, if_pos hi5, show 16 + 13 + 15 * i5 = 29 + 15 * i5 from by omega]; rfl) ?_
      refine lv_astore_n (lv' := [(3, .ref (ad (29 + 15 * i5))), (0, .ref (ad 0)), (1, .int x0), (2, .int x1)]) hx hb dX7_breaks_26 rfl hl (by decide) rfl (fun ls hl => ?_)
      refine lv_iconst (v := 0) hx hb dX7_breaks_27 (by decide) ?_
      refine lv_istore (lv' := [(4, .int 0), (3, .ref (ad (29 + 15 * i5))), (0, .ref (ad 0)), (1, .int x0), (2, .int x1)]) hx hb dX7_breaks_28 hl (by decide) rfl (fun ls hl => ?_)
      have hloop_6 : ∀ (n : Nat) (y6_4 : Int32) (u6 : Nat → Nat → Int32) (H : Heap) (locs : List Loc), 0 ≤ y6_4.toInt → y6_4.toInt ≤ 5 → (5 - y6_4.toInt).toNat < n → Iv u6 → Fr v u6 → va_P (dC, dI) vwCl (wl ad kv cy N u6) H → va_D A (wl ad kv cy N u6) → va_S A s.heap H locs → ∀ ls : Array Slot, lv_has ls 5 [(4, .int y6_4), (3, .ref (ad (29 + 15 * i5))), (0, .ref (ad 0)), (1, .int x0), (2, .int x1)] → W p l e (headSpec wsX7_breaks ({ frames := 3, cells := 0, slots := 0, locals := 192 })).room s m [Value.ref (ad 0), Value.int x0, Value.int x1].toArray below meth c H locs 0 0 (MQ below (va_Qi (fun (r : Int32) (u : Nat → Nat → Int32) => Iv u ∧ Fr v u) (fun u t => ex_Pst dC dI A (wl ad kv cy N u) t) A) [Value.ref (ad 0), Value.int x0, Value.int x1].toArray s 0 0 A) (F0 m 30 ls []) := by
        intro n
        induction n with
        | zero =>
          intro y6_4 u6 H locs ay6_4 by6_4 hm_6 hv hfr hP hD hS ls hl
          exact absurd hm_6 (by omega)
        | succ n ih_6 =>
          intro y6_4 u6 H locs ay6_4 by6_4 hm_6 hv hfr hP hD hS ls hl
          refine lv_iload hx hb dX7_breaks_30 (lv_at hl 0 rfl) ?_
          refine lv_aload_n hx hb dX7_breaks_32 rfl (lv_at hl 1 rfl) ?_
          refine va_get (D := (dC, dI)) (ci := 0) (v := .int (u6 (29 + 15 * i5) 5)) (C := RX0) (T := TX0) (N := 11) hx hb hts (by decide +kernel) hown hK hP (29 + 15 * i5) (wl_at (by omega) (ce_9 (kd_c i5 hi5).1.1)) rfl 5 (by decide) (hts (.fieldLink RX7 169 "QuietStairs$Case" "termCount" "I") (by decide +kernel)) (fun _ h9 => h9) rfl dX7_breaks_33 ?_
          refine lv_topi (fun x_7 ex_7 => ?_)
          have bx_7 : 0 ≤ x_7.toInt ∧ x_7.toInt ≤ 5 := by rw [ex_7]; exact hv.at (K := 9) (kd_c i5 hi5).1.1 rfl
          refine lv_icmp_ge (tgt := 85) hx hb dX7_breaks_36 (by decide) (fun c_8 => ?_) (fun c_8 => ?_)
          · have tc_8 : y6_4.toInt ≥ x_7.toInt := Int32.le_iff_toInt_le.mp c_8
            refine lv_bipush (v := (-5)) hx hb dX7_breaks_85 (by decide) ?_
            exact W.iret (v := (-5)) hx hb hr (fun t ht hW => ⟨⟨(-5), u6, rfl, ⟨hv, hfr⟩, by rw [ht]; exact hP, hD⟩, hS.F ht⟩) hS.2.2 dX7_breaks_87
          · have tc_8 : y6_4.toInt < x_7.toInt := Int32.lt_iff_toInt_lt.mp (Int32.not_le.mp c_8)
            refine lv_aload_n hx hb dX7_breaks_39 rfl (lv_at hl 1 rfl) ?_
            refine va_get (D := (dC, dI)) (ci := 0) (v := .ref (ad (29 + 15 * i5 + 9))) (C := RX0) (T := TX0) (N := 11) hx hb hts (by decide +kernel) hown hK hP (29 + 15 * i5) (wl_at (by omega) (ce_9 (kd_c i5 hi5).1.1)) rfl 10 (by decide) (hts (.fieldLink RX7 172 "QuietStairs$Case" "terms" "[LQuietStairs$Term;") (by decide +kernel)) (fun _ h9 => h9) rfl dX7_breaks_40 ?_
            refine W.eq (g2 := F0 m 43 ls [.ref (ad (38 + 15 * i5))]) (by rw [show 29 + 15 * i5 + 9 = 38 + 15 * i5 from by omega]) ?_
            refine lv_iload hx hb dX7_breaks_43 (lv_at hl 0 rfl) ?_
            obtain ⟨pi9, i9, hi9, ni9, mi9⟩ := t_in (x := y6_4) (n := 5) ⟨by omega, by omega⟩
            refine va_aldq hx hb hK hP (38 + 15 * i5) 4 (wl_at (by omega) (ce_15 (kd_c i5 hi5).1.2.2.2.2.2)) rfl pi9 dX7_breaks_45 ?_
            refine W.eq (g2 := F0 m 46 ls [.ref (ad (39 + 15 * i5 + i9))]) (by rw [ni9, if_pos hi9, show 38 + 15 * i5 + 1 + i9 = 39 + 15 * i5 + i9 from by omega]; rfl) ?_
            refine va_get (D := (dC, dI)) (ci := 6) (v := .int (u6 (39 + 15 * i5 + i9) 0)) (C := RX6) (T := TX6) (N := 5) hx hb hts (by decide +kernel) hown hK hP (39 + 15 * i5 + i9) (wl_at (by omega) (ce_16 (kd_t i5 hi5 i9 hi9).1)) rfl 0 (by decide) (hts (.fieldLink RX7 176 "QuietStairs$Term" "side" "I") (by decide +kernel)) (fun _ h9 => h9) rfl dX7_breaks_46 ?_
            refine lv_topi (fun x_10 ex_10 => ?_)
            have bx_10 : 0 ≤ x_10.toInt ∧ x_10.toInt ≤ 1 := by rw [ex_10]; exact hv.at (K := 16) (kd_t i5 hi5 i9 hi9).1 rfl
            refine lv_iload_n hx hb dX7_breaks_49 rfl (lv_at hl 4 rfl) ?_
            refine lv_icmp_ne (tgt := 79) hx hb dX7_breaks_50 (by decide) (fun c_11 => ?_) (fun c_11 => ?_)
            · have tc_11 : x_10.toInt ≠ x1.toInt := fun q => absurd (Int32.toInt_inj.mp q) c_11
              obtain ⟨x_12, ex_12⟩ : ∃ y : Int32, y = y6_4 + 1 := ⟨_, rfl⟩
              refine lv_iinc (v := x_12) (lv' := [(4, .int x_12), (3, .ref (ad (29 + 15 * i5))), (0, .ref (ad 0)), (1, .int x0), (2, .int x1)]) hx hb dX7_breaks_79 hl (k := 0) rfl (by rw [ex_12]; rfl) (by decide) rfl (fun ls hl => ?_)
              have tx_12 : x_12.toInt = y6_4.toInt + (1 : Int32).toInt := by rw [ex_12]; exact t_add ⟨by omega, by omega⟩
              refine lv_goto (tgt := 30) hx hb dX7_breaks_82 (by decide) ?_
              exact ih_6 x_12 u6 H locs (by omega) (by omega) (by omega) hv hfr hP hD hS ls (lv_sub hl [0, 1, 2, 3, 4] rfl)
            · have tc_11 : x_10.toInt = x1.toInt := by rw [c_11]
              refine lv_aload_n hx hb dX7_breaks_53 rfl (lv_at hl 2 rfl) ?_
              refine va_get (D := (dC, dI)) (ci := 7) (v := .ref (ad 10)) (C := RX7) (T := TX7) (N := 5) hx hb hts (by decide +kernel) hown hK hP (0) (wl_at (by omega) (ce_0 (by decide))) rfl 2 (by decide) (hts (.fieldLink RX7 26 "QuietStairs" "table" "LQuietStairs$Table;") (by decide +kernel)) (fun _ h9 => h9) rfl dX7_breaks_54 ?_
              refine lv_aload_n hx hb dX7_breaks_57 rfl (lv_at hl 1 rfl) ?_
              refine lv_iload_n hx hb dX7_breaks_58 rfl (lv_at hl 4 rfl) ?_
              refine lv_iload hx hb dX7_breaks_59 (lv_at hl 0 rfl) ?_
              refine lv_iconst (v := 1) hx hb dX7_breaks_61 (by decide) ?_
              refine lv_iadd hx hb dX7_breaks_62 ?_
              refine lv_topi (fun x_12 ex_12 => ?_)
              have tx_12 : x_12.toInt = y6_4.toInt + (1 : Int32).toInt := by rw [ex_12]; exact t_add ⟨by omega, by omega⟩
              refine yw_v (w1 := fun (u : Nat → Nat → Int32) => wl ad kv cy N u) hD hS hA (va_runV (As := [.ref (ad (29 + 15 * i5)), .int x1, .int x_12]) (rest := []) ⟨hx, hb, hml, hown, hts⟩ (g_X5_read l dC dI cy _ ad kv N hN u6 hv i5 hi5 x1 x_12 ⟨by omega, by omega⟩) (cwV 3 hts gX7_breaks_X5_read rfl rfl rfl (by decide +kernel) ⟨Nat.le_of_ble_eq_true rfl, Nat.le_of_ble_eq_true rfl⟩) (yw_preV hE hK hP hD (ci := 5) (q0 := 10) rfl (wl_at (by omega) (ce_2 (by decide)))) rfl rfl hl.1 rfl (lv_room (Nat.le_of_ble_eq_true rfl)) dX7_breaks_63 ⟨Nat.le_of_ble_eq_true rfl, Nat.le_of_ble_eq_true rfl⟩) (fun v_13 H locs hw_13 hP hD hS => ?_)
              obtain ⟨hv, hw_13⟩ := hw_13
              have hfr : Fr v v_13 := hfr.trans hw_13
              refine lv_aload_n hx hb dX7_breaks_66 rfl (lv_at hl 2 rfl) ?_
              refine va_get (D := (dC, dI)) (ci := 7) (v := .ref (ad 10)) (C := RX7) (T := TX7) (N := 5) hx hb hts (by decide +kernel) hown hK hP (0) (wl_at (by omega) (ce_0 (by decide))) rfl 2 (by decide) (hts (.fieldLink RX7 26 "QuietStairs" "table" "LQuietStairs$Table;") (by decide +kernel)) (fun _ h9 => h9) rfl dX7_breaks_67 ?_
              refine yw_i (w1 := fun (u : Nat → Nat → Int32) => wl ad kv cy N u) hD hS hA (va_runV (As := []) (rest := []) ⟨hx, hb, hml, hown, hts⟩ (g_X5_stands l dC dI cy _ ad kv N hN v_13 hv ) (cwV 0 hts gX7_breaks_X5_stands rfl rfl rfl (by decide +kernel) ⟨Nat.le_of_ble_eq_true rfl, Nat.le_of_ble_eq_true rfl⟩) (yw_preV hE hK hP hD (ci := 5) (q0 := 10) rfl (wl_at (by omega) (ce_2 (by decide)))) rfl rfl hl.1 rfl (lv_room (Nat.le_of_ble_eq_true rfl)) dX7_breaks_70 ⟨Nat.le_of_ble_eq_true rfl, Nat.le_of_ble_eq_true rfl⟩) (fun r_14 v_14 H locs hw_14 hP hD hS => ?_)
              obtain ⟨hv, hw_14⟩ := hw_14
              have hfr : Fr v v_14 := hfr.trans hw_14.1
              refine lv_if_ne (tgt := 79) hx hb dX7_breaks_73 (by decide) (fun c_15 => ?_) (fun c_15 => ?_)
              · have tc_15 : r_14.toInt ≠ (0 : Int32).toInt := fun q => absurd (Int32.toInt_inj.mp q) c_15
                obtain ⟨x_16, ex_16⟩ : ∃ y : Int32, y = y6_4 + 1 := ⟨_, rfl⟩
                refine lv_iinc (v := x_16) (lv' := [(4, .int x_16), (3, .ref (ad (29 + 15 * i5))), (0, .ref (ad 0)), (1, .int x0), (2, .int x1)]) hx hb dX7_breaks_79 hl (k := 0) rfl (by rw [ex_16]; rfl) (by decide) rfl (fun ls hl => ?_)
                have tx_16 : x_16.toInt = y6_4.toInt + (1 : Int32).toInt := by rw [ex_16]; exact t_add ⟨by omega, by omega⟩
                refine lv_goto (tgt := 30) hx hb dX7_breaks_82 (by decide) ?_
                exact ih_6 x_16 v_14 H locs (by omega) (by omega) (by omega) hv hfr hP hD hS ls (lv_sub hl [0, 1, 2, 3, 4] rfl)
              · have tc_15 : r_14.toInt = (0 : Int32).toInt := by rw [c_15]
                refine lv_iload hx hb dX7_breaks_76 (lv_at hl 0 rfl) ?_
                exact W.iret (v := y6_4) hx hb hr (fun t ht hW => ⟨⟨y6_4, v_14, rfl, ⟨hv, hfr⟩, by rw [ht]; exact hP, hD⟩, hS.F ht⟩) hS.2.2 dX7_breaks_78
      exact hloop_6 ((5 - (0 : Int32).toInt).toNat + 1) 0 v_1 _ _ (by omega) (by omega) (by omega) hv hfr hP hD hS ls hl
    · refine lv_if_ne (tgt := 17) hx hb dX7_breaks_12 (by decide) (fun c9 => absurd c9 (by decide)) (fun _ => ?_)
      refine lv_iconst (v := (-1)) hx hb dX7_breaks_15 (by decide) ?_
      exact W.iret (v := (-1)) hx hb hr (fun t ht hW => ⟨⟨(-1), v_1, rfl, ⟨hv, hfr⟩, by rw [ht]; exact hP, hD⟩, hS.F ht⟩) hS.2.2 dX7_breaks_16
  · refine lv_if_eq (tgt := 15) hx hb dX7_breaks_5 (by decide) (fun _ => ?_) (fun c9 => absurd c9 (by decide))
    refine lv_iconst (v := (-1)) hx hb dX7_breaks_15 (by decide) ?_
    exact W.iret (v := (-1)) hx hb hr (fun t ht hW => ⟨⟨(-1), v_1, rfl, ⟨hv, hfr⟩, by rw [ht]; exact hP, hD⟩, hS.F ht⟩) hS.2.2 dX7_breaks_16
end
