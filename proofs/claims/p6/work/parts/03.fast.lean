theorem iwX7_isParty_X7 : ∀ w ∈ wsX70, w ∈ wsX7_isParty := fun _ h => List.mem_cons_of_mem _ (List.mem_append_left _ (List.mem_append_right _ h))
theorem fwX7_isParty_1 : Cond.fieldLink RX7 12 "QuietStairs" "now" "LQuietStairs$House;" ∈ wsX7_isParty := List.mem_of_getElem? (i := 1) rfl
theorem iwX7_isParty_X1 : ∀ w ∈ wsX10, w ∈ wsX7_isParty := fun _ h => List.mem_cons_of_mem _ (List.mem_append_right _ h)
theorem fwX7_isParty_2 : Cond.fieldLink RX7 41 "QuietStairs$House" "partyCount" "I" ∈ wsX7_isParty := List.mem_of_getElem? (i := 2) rfl
theorem cn_RX7 : RX7 ≠ "java/lang/invoke/MethodHandle" ∧ RX7 ≠ "java/lang/invoke/VarHandle" := ⟨fun e => absurd (String.ofList_injective (show String.ofList ['Q', 'u', 'i', 'e', 't', 'S', 't', 'a', 'i', 'r', 's'] = String.ofList ['j', 'a', 'v', 'a', '/', 'l', 'a', 'n', 'g', '/', 'i', 'n', 'v', 'o', 'k', 'e', '/', 'M', 'e', 't', 'h', 'o', 'd', 'H', 'a', 'n', 'd', 'l', 'e'] from e)) (by decide +kernel), fun e => absurd (String.ofList_injective (show String.ofList ['Q', 'u', 'i', 'e', 't', 'S', 't', 'a', 'i', 'r', 's'] = String.ofList ['j', 'a', 'v', 'a', '/', 'l', 'a', 'n', 'g', '/', 'i', 'n', 'v', 'o', 'k', 'e', '/', 'V', 'a', 'r', 'H', 'a', 'n', 'd', 'l', 'e'] from e)) (by decide +kernel)⟩
theorem pm__III_Z_3 : (parseMethodDescriptor "(III)Z").map (fun d => d.parameters.length) = some 3 := by decide +kernel
theorem hd_S_X7_isWithin_3 : yX7_isWithin.cls = RX7 ∧ yX7_isWithin.cls ≠ "java/lang/invoke/MethodHandle" ∧ yX7_isWithin.cls ≠ "java/lang/invoke/VarHandle" ∧ (parseMethodDescriptor yX7_isWithin.desc).map (fun d => d.parameters.length) = some 3 := ⟨rfl, cn_RX7.1, cn_RX7.2, pm__III_Z_3⟩
theorem iwX7_isMediator_X7 : ∀ w ∈ wsX70, w ∈ wsX7_isMediator := fun _ h => List.mem_cons_of_mem _ (List.mem_append_left _ (List.mem_append_right _ h))
theorem fwX7_isMediator_1 : Cond.fieldLink RX7 12 "QuietStairs" "now" "LQuietStairs$House;" ∈ wsX7_isMediator := List.mem_of_getElem? (i := 1) rfl
theorem iwX7_isMediator_X1 : ∀ w ∈ wsX10, w ∈ wsX7_isMediator := fun _ h => List.mem_cons_of_mem _ (List.mem_append_right _ h)
theorem fwX7_isMediator_2 : Cond.fieldLink RX7 56 "QuietStairs$House" "mediatorCount" "I" ∈ wsX7_isMediator := List.mem_of_getElem? (i := 2) rfl
theorem iwX7_isCase_X7 : ∀ w ∈ wsX70, w ∈ wsX7_isCase := fun _ h => List.mem_cons_of_mem _ (List.mem_append_left _ (List.mem_append_right _ h))
theorem fwX7_isCase_1 : Cond.fieldLink RX7 12 "QuietStairs" "now" "LQuietStairs$House;" ∈ wsX7_isCase := List.mem_of_getElem? (i := 1) rfl
theorem iwX7_isCase_X1 : ∀ w ∈ wsX10, w ∈ wsX7_isCase := fun _ h => List.mem_cons_of_mem _ (List.mem_append_right _ h)
theorem fwX7_isCase_2 : Cond.fieldLink RX7 83 "QuietStairs$House" "caseCount" "I" ∈ wsX7_isCase := List.mem_of_getElem? (i := 2) rfl
theorem pm__I_Z_1 : (parseMethodDescriptor "(I)Z").map (fun d => d.parameters.length) = some 1 := by decide +kernel
theorem hd_V_X7_isCase_1 : yX7_isCase.cls = RX7 ∧ yX7_isCase.cls ≠ "java/lang/invoke/MethodHandle" ∧ yX7_isCase.cls ≠ "java/lang/invoke/VarHandle" ∧ (parseMethodDescriptor yX7_isCase.desc).map (fun d => d.parameters.length) = some 1 := ⟨rfl, cn_RX7.1, cn_RX7.2, pm__I_Z_1⟩
theorem hd_S_X7_isSide_1 : yX7_isSide.cls = RX7 ∧ yX7_isSide.cls ≠ "java/lang/invoke/MethodHandle" ∧ yX7_isSide.cls ≠ "java/lang/invoke/VarHandle" ∧ (parseMethodDescriptor yX7_isSide.desc).map (fun d => d.parameters.length) = some 1 := ⟨rfl, cn_RX7.1, cn_RX7.2, pm__I_Z_1⟩
theorem iwX7_put_X7 : ∀ w ∈ wsX70, w ∈ wsX7_put := fun _ h => List.mem_cons_of_mem _ (List.mem_append_left _ (List.mem_append_left _ (List.mem_append_right _ h)))
theorem fwX7_put_1 : Cond.fieldLink RX7 12 "QuietStairs" "now" "LQuietStairs$House;" ∈ wsX7_put := List.mem_of_getElem? (i := 1) rfl
theorem iwX7_put_X1 : ∀ w ∈ wsX10, w ∈ wsX7_put := fun _ h => List.mem_cons_of_mem _ (List.mem_append_left _ (List.mem_append_right _ h))
theorem fwX7_put_2 : Cond.fieldLink RX7 86 "QuietStairs$House" "cases" "[LQuietStairs$Case;" ∈ wsX7_put := List.mem_of_getElem? (i := 2) rfl
theorem iwX7_put_X0 : ∀ w ∈ wsX00, w ∈ wsX7_put := fun _ h => List.mem_cons_of_mem _ (List.mem_append_right _ h)
theorem fwX7_put_3 : Cond.fieldLink RX7 135 "QuietStairs$Case" "box" "[I" ∈ wsX7_put := List.mem_of_getElem? (i := 3) rfl
theorem iwX1_countState_X1 : ∀ w ∈ wsX10, w ∈ wsX1_countState := fun _ h => List.mem_cons_of_mem _ (List.mem_append_left _ (List.mem_append_right _ h))
theorem fwX1_countState_1 : Cond.fieldLink RX1 66 "QuietStairs$House" "caseCount" "I" ∈ wsX1_countState := List.mem_of_getElem? (i := 1) rfl
theorem fwX1_countState_2 : Cond.fieldLink RX1 25 "QuietStairs$House" "cases" "[LQuietStairs$Case;" ∈ wsX1_countState := List.mem_of_getElem? (i := 2) rfl
theorem iwX1_countState_X0 : ∀ w ∈ wsX00, w ∈ wsX1_countState := fun _ h => List.mem_cons_of_mem _ (List.mem_append_right _ h)
theorem fwX1_countState_3 : Cond.fieldLink RX1 79 "QuietStairs$Case" "state" "I" ∈ wsX1_countState := List.mem_of_getElem? (i := 3) rfl
theorem iwX1_countTerms_X1 : ∀ w ∈ wsX10, w ∈ wsX1_countTerms := fun _ h => List.mem_cons_of_mem _ (List.mem_append_left _ (List.mem_append_right _ h))
theorem fwX1_countTerms_1 : Cond.fieldLink RX1 66 "QuietStairs$House" "caseCount" "I" ∈ wsX1_countTerms := List.mem_of_getElem? (i := 1) rfl
theorem fwX1_countTerms_2 : Cond.fieldLink RX1 25 "QuietStairs$House" "cases" "[LQuietStairs$Case;" ∈ wsX1_countTerms := List.mem_of_getElem? (i := 2) rfl
theorem iwX1_countTerms_X0 : ∀ w ∈ wsX00, w ∈ wsX1_countTerms := fun _ h => List.mem_cons_of_mem _ (List.mem_append_right _ h)
theorem fwX1_countTerms_3 : Cond.fieldLink RX1 82 "QuietStairs$Case" "termCount" "I" ∈ wsX1_countTerms := List.mem_of_getElem? (i := 3) rfl
theorem iwX7_isTerm_X7 : ∀ w ∈ wsX70, w ∈ wsX7_isTerm := fun _ h => List.mem_cons_of_mem _ (List.mem_append_left _ (List.mem_append_left _ (List.mem_append_right _ h)))
theorem fwX7_isTerm_1 : Cond.fieldLink RX7 12 "QuietStairs" "now" "LQuietStairs$House;" ∈ wsX7_isTerm := List.mem_of_getElem? (i := 1) rfl
theorem iwX7_isTerm_X1 : ∀ w ∈ wsX10, w ∈ wsX7_isTerm := fun _ h => List.mem_cons_of_mem _ (List.mem_append_left _ (List.mem_append_right _ h))
theorem fwX7_isTerm_2 : Cond.fieldLink RX7 86 "QuietStairs$House" "cases" "[LQuietStairs$Case;" ∈ wsX7_isTerm := List.mem_of_getElem? (i := 2) rfl
theorem iwX7_isTerm_X0 : ∀ w ∈ wsX00, w ∈ wsX7_isTerm := fun _ h => List.mem_cons_of_mem _ (List.mem_append_right _ h)
theorem fwX7_isTerm_3 : Cond.fieldLink RX7 169 "QuietStairs$Case" "termCount" "I" ∈ wsX7_isTerm := List.mem_of_getElem? (i := 3) rfl
theorem iwX0_hasMet_X0 : ∀ w ∈ wsX00, w ∈ wsX0_hasMet := fun _ h => List.mem_cons_of_mem _ (List.mem_append_right _ h)
theorem fwX0_hasMet_1 : Cond.fieldLink RX0 33 "QuietStairs$Case" "state" "I" ∈ wsX0_hasMet := List.mem_of_getElem? (i := 1) rfl
theorem fwX0_hasMet_2 : Cond.fieldLink RX0 40 "QuietStairs$Case" "roundsOver" "I" ∈ wsX0_hasMet := List.mem_of_getElem? (i := 2) rfl
theorem iwX0_leastOfOther_X0 : ∀ w ∈ wsX00, w ∈ wsX0_leastOfOther := fun _ h => List.mem_cons_of_mem _ (List.mem_append_right _ h)
theorem fwX0_leastOfOther_1 : Cond.fieldLink RX0 20 "QuietStairs$Case" "offers" "[[I" ∈ wsX0_leastOfOther := List.mem_of_getElem? (i := 1) rfl
theorem cn_RX0 : RX0 ≠ "java/lang/invoke/MethodHandle" ∧ RX0 ≠ "java/lang/invoke/VarHandle" := ⟨fun e => absurd (String.ofList_injective (show String.ofList ['Q', 'u', 'i', 'e', 't', 'S', 't', 'a', 'i', 'r', 's', '$', 'C', 'a', 's', 'e'] = String.ofList ['j', 'a', 'v', 'a', '/', 'l', 'a', 'n', 'g', '/', 'i', 'n', 'v', 'o', 'k', 'e', '/', 'M', 'e', 't', 'h', 'o', 'd', 'H', 'a', 'n', 'd', 'l', 'e'] from e)) (by decide +kernel), fun e => absurd (String.ofList_injective (show String.ofList ['Q', 'u', 'i', 'e', 't', 'S', 't', 'a', 'i', 'r', 's', '$', 'C', 'a', 's', 'e'] = String.ofList ['j', 'a', 'v', 'a', '/', 'l', 'a', 'n', 'g', '/', 'i', 'n', 'v', 'o', 'k', 'e', '/', 'V', 'a', 'r', 'H', 'a', 'n', 'd', 'l', 'e'] from e)) (by decide +kernel)⟩
theorem hd_V_X0_hasMet_1 : yX0_hasMet.cls = RX0 ∧ yX0_hasMet.cls ≠ "java/lang/invoke/MethodHandle" ∧ yX0_hasMet.cls ≠ "java/lang/invoke/VarHandle" ∧ (parseMethodDescriptor yX0_hasMet.desc).map (fun d => d.parameters.length) = some 1 := ⟨rfl, cn_RX0.1, cn_RX0.2, pm__I_Z_1⟩
theorem fwX0_leastOfOther_2 : Cond.fieldLink RX0 37 "QuietStairs$Case" "sum" "I" ∈ wsX0_leastOfOther := List.mem_of_getElem? (i := 2) rfl
theorem fwX0_leastOfOther_3 : Cond.methodLink RX0 56 Lib.Math.max.name ∈ wsX0_leastOfOther := List.mem_of_getElem? (i := 3) rfl
theorem fwX0_leastOfOther_4 : Cond.static Lib.Math.max.name ∈ wsX0_leastOfOther := List.mem_of_getElem? (i := 4) rfl
theorem fwX0_leastOfOther_5 : Cond.initialized "java/lang/Math" ∈ wsX0_leastOfOther := List.mem_of_getElem? (i := 5) rfl
theorem fwX0_leastOfOther_6 : Cond.code Lib.Math.max.name Lib.Math.max.code 2 (some .int) ∈ wsX0_leastOfOther := List.mem_of_getElem? (i := 6) rfl
theorem iwX0_greatestOfOther_X0 : ∀ w ∈ wsX00, w ∈ wsX0_greatestOfOther := fun _ h => List.mem_cons_of_mem _ (List.mem_append_right _ h)
theorem fwX0_greatestOfOther_1 : Cond.fieldLink RX0 20 "QuietStairs$Case" "offers" "[[I" ∈ wsX0_greatestOfOther := List.mem_of_getElem? (i := 1) rfl
theorem fwX0_greatestOfOther_2 : Cond.fieldLink RX0 37 "QuietStairs$Case" "sum" "I" ∈ wsX0_greatestOfOther := List.mem_of_getElem? (i := 2) rfl
theorem fwX0_greatestOfOther_3 : Cond.methodLink RX0 62 Lib.Math.min.name ∈ wsX0_greatestOfOther := List.mem_of_getElem? (i := 3) rfl
theorem fwX0_greatestOfOther_4 : Cond.static Lib.Math.min.name ∈ wsX0_greatestOfOther := List.mem_of_getElem? (i := 4) rfl
theorem fwX0_greatestOfOther_5 : Cond.initialized "java/lang/Math" ∈ wsX0_greatestOfOther := List.mem_of_getElem? (i := 5) rfl
theorem fwX0_greatestOfOther_6 : Cond.code Lib.Math.min.name Lib.Math.min.code 2 (some .int) ∈ wsX0_greatestOfOther := List.mem_of_getElem? (i := 6) rfl
theorem fwJ6_bitCount_0f7a4_1 : Cond.constant RJ6 265 (1431655765) ∈ wsJ6_bitCount_0f7a4 := List.mem_of_getElem? (i := 1) rfl
theorem fwJ6_bitCount_0f7a4_2 : Cond.constant RJ6 266 (858993459) ∈ wsJ6_bitCount_0f7a4 := List.mem_of_getElem? (i := 2) rfl
theorem fwJ6_bitCount_0f7a4_3 : Cond.constant RJ6 267 (252645135) ∈ wsJ6_bitCount_0f7a4 := List.mem_of_getElem? (i := 3) rfl
theorem iwX0_judge_X0 : ∀ w ∈ wsX00, w ∈ wsX0_judge := fun _ h => List.mem_cons_of_mem _ (List.mem_append_left _ (List.mem_append_right _ h))
theorem fwX0_judge_1 : Cond.fieldLink RX0 28 "QuietStairs$Case" "terms" "[LQuietStairs$Term;" ∈ wsX0_judge := List.mem_of_getElem? (i := 1) rfl
theorem iwX0_judge_X6 : ∀ w ∈ wsX60, w ∈ wsX0_judge := fun _ h => List.mem_cons_of_mem _ (List.mem_append_right _ h)
theorem fwX0_judge_2 : Cond.fieldLink RX0 65 "QuietStairs$Term" "first" "I" ∈ wsX0_judge := List.mem_of_getElem? (i := 2) rfl
theorem fwX0_judge_3 : Cond.fieldLink RX0 68 "QuietStairs$Term" "last" "I" ∈ wsX0_judge := List.mem_of_getElem? (i := 3) rfl
theorem fwX0_judge_7 : Cond.fieldLink RX0 77 "QuietStairs$Term" "must" "Z" ∈ wsX0_judge := List.mem_of_getElem? (i := 7) rfl
theorem fwX0_judge_4 : Cond.fieldLink RX0 23 "QuietStairs$Case" "logs" "[[I" ∈ wsX0_judge := List.mem_of_getElem? (i := 4) rfl
theorem fwX0_judge_5 : Cond.fieldLink RX0 71 "QuietStairs$Term" "side" "I" ∈ wsX0_judge := List.mem_of_getElem? (i := 5) rfl
theorem fwX0_judge_6 : Cond.fieldLink RX0 74 "QuietStairs$Term" "act" "I" ∈ wsX0_judge := List.mem_of_getElem? (i := 6) rfl
theorem iwX1_quarrelBits_X1 : ∀ w ∈ wsX10, w ∈ wsX1_quarrelBits := fun _ h => List.mem_cons_of_mem _ (List.mem_append_left _ (List.mem_append_right _ h))
theorem fwX1_quarrelBits_1 : Cond.fieldLink RX1 66 "QuietStairs$House" "caseCount" "I" ∈ wsX1_quarrelBits := List.mem_of_getElem? (i := 1) rfl
theorem fwX1_quarrelBits_5 : Cond.initialized RX7 ∈ wsX1_quarrelBits := List.mem_of_getElem? (i := 5) rfl
theorem fwX1_quarrelBits_4 : Cond.static yX7_hasBit ∈ wsX1_quarrelBits := List.mem_of_getElem? (i := 4) rfl
theorem fwX1_quarrelBits_2 : Cond.fieldLink RX1 25 "QuietStairs$House" "cases" "[LQuietStairs$Case;" ∈ wsX1_quarrelBits := List.mem_of_getElem? (i := 2) rfl
theorem iwX1_quarrelBits_X0 : ∀ w ∈ wsX00, w ∈ wsX1_quarrelBits := fun _ h => List.mem_cons_of_mem _ (List.mem_append_right _ h)
theorem fwX1_quarrelBits_3 : Cond.fieldLink RX1 69 "QuietStairs$Case" "markedBits" "I" ∈ wsX1_quarrelBits := List.mem_of_getElem? (i := 3) rfl
theorem cn_RX1 : RX1 ≠ "java/lang/invoke/MethodHandle" ∧ RX1 ≠ "java/lang/invoke/VarHandle" := ⟨fun e => absurd (String.ofList_injective (show String.ofList ['Q', 'u', 'i', 'e', 't', 'S', 't', 'a', 'i', 'r', 's', '$', 'H', 'o', 'u', 's', 'e'] = String.ofList ['j', 'a', 'v', 'a', '/', 'l', 'a', 'n', 'g', '/', 'i', 'n', 'v', 'o', 'k', 'e', '/', 'M', 'e', 't', 'h', 'o', 'd', 'H', 'a', 'n', 'd', 'l', 'e'] from e)) (by decide +kernel), fun e => absurd (String.ofList_injective (show String.ofList ['Q', 'u', 'i', 'e', 't', 'S', 't', 'a', 'i', 'r', 's', '$', 'H', 'o', 'u', 's', 'e'] = String.ofList ['j', 'a', 'v', 'a', '/', 'l', 'a', 'n', 'g', '/', 'i', 'n', 'v', 'o', 'k', 'e', '/', 'V', 'a', 'r', 'H', 'a', 'n', 'd', 'l', 'e'] from e)) (by decide +kernel)⟩
theorem pm__I_I_1 : (parseMethodDescriptor "(I)I").map (fun d => d.parameters.length) = some 1 := by decide +kernel
theorem hd_V_X1_quarrelBits_1 : yX1_quarrelBits.cls = RX1 ∧ yX1_quarrelBits.cls ≠ "java/lang/invoke/MethodHandle" ∧ yX1_quarrelBits.cls ≠ "java/lang/invoke/VarHandle" ∧ (parseMethodDescriptor yX1_quarrelBits.desc).map (fun d => d.parameters.length) = some 1 := ⟨rfl, cn_RX1.1, cn_RX1.2, pm__I_I_1⟩
theorem fwX1_headOfQuarrel_10 : Cond.initialized RX7 ∈ wsX1_headOfQuarrel := List.mem_of_getElem? (i := 10) rfl
theorem fwX1_headOfQuarrel_9 : Cond.static yX7_hasBit ∈ wsX1_headOfQuarrel := List.mem_of_getElem? (i := 9) rfl
theorem iwX1_countQuarrels_X1 : ∀ w ∈ wsX10, w ∈ wsX1_countQuarrels := fun _ h => List.mem_cons_of_mem _ (List.mem_append_left _ (List.mem_append_right _ h))
theorem fwX1_countQuarrels_1 : Cond.fieldLink RX1 66 "QuietStairs$House" "caseCount" "I" ∈ wsX1_countQuarrels := List.mem_of_getElem? (i := 1) rfl
theorem hd_V_X1_headOfQuarrel_1 : yX1_headOfQuarrel.cls = RX1 ∧ yX1_headOfQuarrel.cls ≠ "java/lang/invoke/MethodHandle" ∧ yX1_headOfQuarrel.cls ≠ "java/lang/invoke/VarHandle" ∧ (parseMethodDescriptor yX1_headOfQuarrel.desc).map (fun d => d.parameters.length) = some 1 := ⟨rfl, cn_RX1.1, cn_RX1.2, pm__I_I_1⟩
theorem iwX1_countJudged_X1 : ∀ w ∈ wsX10, w ∈ wsX1_countJudged := fun _ h => List.mem_cons_of_mem _ (List.mem_append_left _ (List.mem_append_left _ (List.mem_append_right _ h)))
theorem fwX1_countJudged_1 : Cond.fieldLink RX1 66 "QuietStairs$House" "caseCount" "I" ∈ wsX1_countJudged := List.mem_of_getElem? (i := 1) rfl
theorem fwX1_countJudged_2 : Cond.fieldLink RX1 25 "QuietStairs$House" "cases" "[LQuietStairs$Case;" ∈ wsX1_countJudged := List.mem_of_getElem? (i := 2) rfl
theorem iwX1_countJudged_X0 : ∀ w ∈ wsX00, w ∈ wsX1_countJudged := fun _ h => List.mem_cons_of_mem _ (List.mem_append_left _ (List.mem_append_right _ h))
theorem fwX1_countJudged_3 : Cond.fieldLink RX1 82 "QuietStairs$Case" "termCount" "I" ∈ wsX1_countJudged := List.mem_of_getElem? (i := 3) rfl
theorem hd_V_X0_judge_1 : yX0_judge.cls = RX0 ∧ yX0_judge.cls ≠ "java/lang/invoke/MethodHandle" ∧ yX0_judge.cls ≠ "java/lang/invoke/VarHandle" ∧ (parseMethodDescriptor yX0_judge.desc).map (fun d => d.parameters.length) = some 1 := ⟨rfl, cn_RX0.1, cn_RX0.2, pm__I_I_1⟩
theorem iwX7_learns_X7 : ∀ w ∈ wsX70, w ∈ wsX7_learns := fun _ h => List.mem_cons_of_mem _ (List.mem_append_left _ (List.mem_append_left _ (List.mem_append_right _ h)))
theorem fwX7_learns_1 : Cond.fieldLink RX7 12 "QuietStairs" "now" "LQuietStairs$House;" ∈ wsX7_learns := List.mem_of_getElem? (i := 1) rfl
theorem iwX7_learns_X1 : ∀ w ∈ wsX10, w ∈ wsX7_learns := fun _ h => List.mem_cons_of_mem _ (List.mem_append_left _ (List.mem_append_right _ h))
theorem fwX7_learns_2 : Cond.fieldLink RX7 86 "QuietStairs$House" "cases" "[LQuietStairs$Case;" ∈ wsX7_learns := List.mem_of_getElem? (i := 2) rfl
theorem iwX7_learns_X0 : ∀ w ∈ wsX00, w ∈ wsX7_learns := fun _ h => List.mem_cons_of_mem _ (List.mem_append_right _ h)
theorem fwX7_learns_3 : Cond.fieldLink RX7 117 "QuietStairs$Case" "roundsOver" "I" ∈ wsX7_learns := List.mem_of_getElem? (i := 3) rfl
theorem pm__II_I_2 : (parseMethodDescriptor "(II)I").map (fun d => d.parameters.length) = some 2 := by decide +kernel
theorem hd_V_X0_leastOfOther_2 : yX0_leastOfOther.cls = RX0 ∧ yX0_leastOfOther.cls ≠ "java/lang/invoke/MethodHandle" ∧ yX0_leastOfOther.cls ≠ "java/lang/invoke/VarHandle" ∧ (parseMethodDescriptor yX0_leastOfOther.desc).map (fun d => d.parameters.length) = some 2 := ⟨rfl, cn_RX0.1, cn_RX0.2, pm__II_I_2⟩
theorem hd_V_X0_greatestOfOther_2 : yX0_greatestOfOther.cls = RX0 ∧ yX0_greatestOfOther.cls ≠ "java/lang/invoke/MethodHandle" ∧ yX0_greatestOfOther.cls ≠ "java/lang/invoke/VarHandle" ∧ (parseMethodDescriptor yX0_greatestOfOther.desc).map (fun d => d.parameters.length) = some 2 := ⟨rfl, cn_RX0.1, cn_RX0.2, pm__II_I_2⟩
theorem pm__II_Z_2 : (parseMethodDescriptor "(II)Z").map (fun d => d.parameters.length) = some 2 := by decide +kernel
theorem hd_V_X7_isTerm_2 : yX7_isTerm.cls = RX7 ∧ yX7_isTerm.cls ≠ "java/lang/invoke/MethodHandle" ∧ yX7_isTerm.cls ≠ "java/lang/invoke/VarHandle" ∧ (parseMethodDescriptor yX7_isTerm.desc).map (fun d => d.parameters.length) = some 2 := ⟨rfl, cn_RX7.1, cn_RX7.2, pm__II_Z_2⟩
theorem iwX7_termOf_X7 : ∀ w ∈ wsX70, w ∈ wsX7_termOf := fun _ h => List.mem_cons_of_mem _ (List.mem_append_left _ (List.mem_append_left _ (List.mem_append_left _ (List.mem_append_right _ h))))
theorem fwX7_termOf_1 : Cond.fieldLink RX7 12 "QuietStairs" "now" "LQuietStairs$House;" ∈ wsX7_termOf := List.mem_of_getElem? (i := 1) rfl
theorem iwX7_termOf_X1 : ∀ w ∈ wsX10, w ∈ wsX7_termOf := fun _ h => List.mem_cons_of_mem _ (List.mem_append_left _ (List.mem_append_left _ (List.mem_append_right _ h)))
theorem fwX7_termOf_2 : Cond.fieldLink RX7 86 "QuietStairs$House" "cases" "[LQuietStairs$Case;" ∈ wsX7_termOf := List.mem_of_getElem? (i := 2) rfl
theorem iwX7_termOf_X0 : ∀ w ∈ wsX00, w ∈ wsX7_termOf := fun _ h => List.mem_cons_of_mem _ (List.mem_append_left _ (List.mem_append_right _ h))
theorem fwX7_termOf_3 : Cond.fieldLink RX7 172 "QuietStairs$Case" "terms" "[LQuietStairs$Term;" ∈ wsX7_termOf := List.mem_of_getElem? (i := 3) rfl
theorem iwX7_termOf_X6 : ∀ w ∈ wsX60, w ∈ wsX7_termOf := fun _ h => List.mem_cons_of_mem _ (List.mem_append_right _ h)
theorem fwX7_termOf_4 : Cond.fieldLink RX7 176 "QuietStairs$Term" "side" "I" ∈ wsX7_termOf := List.mem_of_getElem? (i := 4) rfl
theorem fwX7_termOf_5 : Cond.fieldLink RX7 181 "QuietStairs$Term" "must" "Z" ∈ wsX7_termOf := List.mem_of_getElem? (i := 5) rfl
theorem fwX7_termOf_6 : Cond.fieldLink RX7 185 "QuietStairs$Term" "act" "I" ∈ wsX7_termOf := List.mem_of_getElem? (i := 6) rfl
theorem fwX7_termOf_7 : Cond.fieldLink RX7 188 "QuietStairs$Term" "first" "I" ∈ wsX7_termOf := List.mem_of_getElem? (i := 7) rfl
theorem fwX7_termOf_8 : Cond.fieldLink RX7 191 "QuietStairs$Term" "last" "I" ∈ wsX7_termOf := List.mem_of_getElem? (i := 8) rfl
theorem iwX7_judged_X7 : ∀ w ∈ wsX70, w ∈ wsX7_judged := fun _ h => List.mem_cons_of_mem _ (List.mem_append_left _ (List.mem_append_left _ (List.mem_append_left _ (List.mem_append_right _ h))))
theorem fwX7_judged_1 : Cond.fieldLink RX7 12 "QuietStairs" "now" "LQuietStairs$House;" ∈ wsX7_judged := List.mem_of_getElem? (i := 1) rfl
theorem iwX7_judged_X1 : ∀ w ∈ wsX10, w ∈ wsX7_judged := fun _ h => List.mem_cons_of_mem _ (List.mem_append_left _ (List.mem_append_left _ (List.mem_append_right _ h)))
theorem fwX7_judged_2 : Cond.fieldLink RX7 86 "QuietStairs$House" "cases" "[LQuietStairs$Case;" ∈ wsX7_judged := List.mem_of_getElem? (i := 2) rfl
theorem iwX7_of_X7 : ∀ w ∈ wsX70, w ∈ wsX7_of := fun _ h => List.mem_cons_of_mem _ (List.mem_append_left _ (List.mem_append_left _ (List.mem_append_right _ h)))
theorem fwX7_of_1 : Cond.fieldLink RX7 12 "QuietStairs" "now" "LQuietStairs$House;" ∈ wsX7_of := List.mem_of_getElem? (i := 1) rfl
theorem iwX7_of_X1 : ∀ w ∈ wsX10, w ∈ wsX7_of := fun _ h => List.mem_cons_of_mem _ (List.mem_append_left _ (List.mem_append_right _ h))
theorem fwX7_of_2 : Cond.fieldLink RX7 86 "QuietStairs$House" "cases" "[LQuietStairs$Case;" ∈ wsX7_of := List.mem_of_getElem? (i := 2) rfl
theorem iwX7_of_X0 : ∀ w ∈ wsX00, w ∈ wsX7_of := fun _ h => List.mem_cons_of_mem _ (List.mem_append_right _ h)
theorem fwX7_of_3 : Cond.fieldLink RX7 111 "QuietStairs$Case" "parties" "[I" ∈ wsX7_of := List.mem_of_getElem? (i := 3) rfl
theorem fwX7_of_4 : Cond.fieldLink RX7 99 "QuietStairs$Case" "state" "I" ∈ wsX7_of := List.mem_of_getElem? (i := 4) rfl
theorem fwX7_of_5 : Cond.fieldLink RX7 114 "QuietStairs$Case" "sum" "I" ∈ wsX7_of := List.mem_of_getElem? (i := 5) rfl
theorem fwX7_of_6 : Cond.fieldLink RX7 117 "QuietStairs$Case" "roundsOver" "I" ∈ wsX7_of := List.mem_of_getElem? (i := 6) rfl
theorem cn_RJ6 : RJ6 ≠ "java/lang/invoke/MethodHandle" ∧ RJ6 ≠ "java/lang/invoke/VarHandle" := ⟨fun e => absurd (String.ofList_injective (show String.ofList ['j', 'a', 'v', 'a', '/', 'l', 'a', 'n', 'g', '/', 'I', 'n', 't', 'e', 'g', 'e', 'r'] = String.ofList ['j', 'a', 'v', 'a', '/', 'l', 'a', 'n', 'g', '/', 'i', 'n', 'v', 'o', 'k', 'e', '/', 'M', 'e', 't', 'h', 'o', 'd', 'H', 'a', 'n', 'd', 'l', 'e'] from e)) (by decide +kernel), fun e => absurd (String.ofList_injective (show String.ofList ['j', 'a', 'v', 'a', '/', 'l', 'a', 'n', 'g', '/', 'I', 'n', 't', 'e', 'g', 'e', 'r'] = String.ofList ['j', 'a', 'v', 'a', '/', 'l', 'a', 'n', 'g', '/', 'i', 'n', 'v', 'o', 'k', 'e', '/', 'V', 'a', 'r', 'H', 'a', 'n', 'd', 'l', 'e'] from e)) (by decide +kernel)⟩
theorem hd_w_J6_bitCount_0f7a4_1 : yJ6_bitCount_0f7a4.cls ≠ "java/lang/invoke/MethodHandle" ∧ yJ6_bitCount_0f7a4.cls ≠ "java/lang/invoke/VarHandle" ∧ (parseMethodDescriptor yJ6_bitCount_0f7a4.desc).map (fun d => d.parameters.length) = some 1 := ⟨cn_RJ6.1, cn_RJ6.2, pm__I_I_1⟩
theorem fwX7_of_7 : Cond.fieldLink RX7 102 "QuietStairs$Case" "weight" "I" ∈ wsX7_of := List.mem_of_getElem? (i := 7) rfl
theorem iwX7_many_X7 : ∀ w ∈ wsX70, w ∈ wsX7_many := fun _ h => List.mem_cons_of_mem _ (List.mem_append_left _ (List.mem_append_left _ (List.mem_append_left _ (List.mem_append_right _ h))))
theorem fwX7_many_1 : Cond.fieldLink RX7 12 "QuietStairs" "now" "LQuietStairs$House;" ∈ wsX7_many := List.mem_of_getElem? (i := 1) rfl
theorem iwX7_many_X1 : ∀ w ∈ wsX10, w ∈ wsX7_many := fun _ h => List.mem_cons_of_mem _ (List.mem_append_left _ (List.mem_append_left _ (List.mem_append_right _ h)))
theorem fwX7_many_2 : Cond.fieldLink RX7 41 "QuietStairs$House" "partyCount" "I" ∈ wsX7_many := List.mem_of_getElem? (i := 2) rfl
theorem fwX7_many_3 : Cond.fieldLink RX7 56 "QuietStairs$House" "mediatorCount" "I" ∈ wsX7_many := List.mem_of_getElem? (i := 3) rfl
theorem fwX7_many_4 : Cond.fieldLink RX7 83 "QuietStairs$House" "caseCount" "I" ∈ wsX7_many := List.mem_of_getElem? (i := 4) rfl
theorem hd_V_X1_countState_1 : yX1_countState.cls = RX1 ∧ yX1_countState.cls ≠ "java/lang/invoke/MethodHandle" ∧ yX1_countState.cls ≠ "java/lang/invoke/VarHandle" ∧ (parseMethodDescriptor yX1_countState.desc).map (fun d => d.parameters.length) = some 1 := ⟨rfl, cn_RX1.1, cn_RX1.2, pm__I_I_1⟩
theorem fwX7_many_5 : Cond.fieldLink RX7 108 "QuietStairs$House" "markCount" "I" ∈ wsX7_many := List.mem_of_getElem? (i := 5) rfl
theorem pm___I_0 : (parseMethodDescriptor "()I").map (fun d => d.parameters.length) = some 0 := by decide +kernel
theorem hd_V_X1_countQuarrels_0 : yX1_countQuarrels.cls = RX1 ∧ yX1_countQuarrels.cls ≠ "java/lang/invoke/MethodHandle" ∧ yX1_countQuarrels.cls ≠ "java/lang/invoke/VarHandle" ∧ (parseMethodDescriptor yX1_countQuarrels.desc).map (fun d => d.parameters.length) = some 0 := ⟨rfl, cn_RX1.1, cn_RX1.2, pm___I_0⟩
theorem hd_V_X1_countTerms_0 : yX1_countTerms.cls = RX1 ∧ yX1_countTerms.cls ≠ "java/lang/invoke/MethodHandle" ∧ yX1_countTerms.cls ≠ "java/lang/invoke/VarHandle" ∧ (parseMethodDescriptor yX1_countTerms.desc).map (fun d => d.parameters.length) = some 0 := ⟨rfl, cn_RX1.1, cn_RX1.2, pm___I_0⟩
theorem hd_V_X1_countJudged_1 : yX1_countJudged.cls = RX1 ∧ yX1_countJudged.cls ≠ "java/lang/invoke/MethodHandle" ∧ yX1_countJudged.cls ≠ "java/lang/invoke/VarHandle" ∧ (parseMethodDescriptor yX1_countJudged.desc).map (fun d => d.parameters.length) = some 1 := ⟨rfl, cn_RX1.1, cn_RX1.2, pm__I_I_1⟩
theorem iwX6_hourBits_X6 : ∀ w ∈ wsX60, w ∈ wsX6_hourBits := fun _ h => List.mem_cons_of_mem _ (List.mem_append_right _ h)
theorem fwX6_hourBits_1 : Cond.fieldLink RX6 7 "QuietStairs$Term" "last" "I" ∈ wsX6_hourBits := List.mem_of_getElem? (i := 1) rfl
theorem fwX6_hourBits_2 : Cond.fieldLink RX6 13 "QuietStairs$Term" "first" "I" ∈ wsX6_hourBits := List.mem_of_getElem? (i := 2) rfl
theorem cn_RX6 : RX6 ≠ "java/lang/invoke/MethodHandle" ∧ RX6 ≠ "java/lang/invoke/VarHandle" := ⟨fun e => absurd (String.ofList_injective (show String.ofList ['Q', 'u', 'i', 'e', 't', 'S', 't', 'a', 'i', 'r', 's', '$', 'T', 'e', 'r', 'm'] = String.ofList ['j', 'a', 'v', 'a', '/', 'l', 'a', 'n', 'g', '/', 'i', 'n', 'v', 'o', 'k', 'e', '/', 'M', 'e', 't', 'h', 'o', 'd', 'H', 'a', 'n', 'd', 'l', 'e'] from e)) (by decide +kernel), fun e => absurd (String.ofList_injective (show String.ofList ['Q', 'u', 'i', 'e', 't', 'S', 't', 'a', 'i', 'r', 's', '$', 'T', 'e', 'r', 'm'] = String.ofList ['j', 'a', 'v', 'a', '/', 'l', 'a', 'n', 'g', '/', 'i', 'n', 'v', 'o', 'k', 'e', '/', 'V', 'a', 'r', 'H', 'a', 'n', 'd', 'l', 'e'] from e)) (by decide +kernel)⟩
theorem hd_V_X6_hourBits_0 : yX6_hourBits.cls = RX6 ∧ yX6_hourBits.cls ≠ "java/lang/invoke/MethodHandle" ∧ yX6_hourBits.cls ≠ "java/lang/invoke/VarHandle" ∧ (parseMethodDescriptor yX6_hourBits.desc).map (fun d => d.parameters.length) = some 0 := ⟨rfl, cn_RX6.1, cn_RX6.2, pm___I_0⟩
theorem iwX5_allowedHours_X0 : ∀ w ∈ wsX00, w ∈ wsX5_allowedHours := fun _ h => List.mem_cons_of_mem _ (List.mem_append_left _ (List.mem_append_right _ h))
theorem fwX5_allowedHours_1 : Cond.fieldLink RX5 22 "QuietStairs$Case" "terms" "[LQuietStairs$Term;" ∈ wsX5_allowedHours := List.mem_of_getElem? (i := 1) rfl
theorem iwX5_allowedHours_X6 : ∀ w ∈ wsX60, w ∈ wsX5_allowedHours := fun _ h => List.mem_cons_of_mem _ (List.mem_append_right _ h)
theorem fwX5_allowedHours_2 : Cond.fieldLink RX5 28 "QuietStairs$Term" "side" "I" ∈ wsX5_allowedHours := List.mem_of_getElem? (i := 2) rfl
theorem fwX5_allowedHours_3 : Cond.fieldLink RX5 33 "QuietStairs$Term" "must" "Z" ∈ wsX5_allowedHours := List.mem_of_getElem? (i := 3) rfl
theorem fwX5_allowedHours_4 : Cond.fieldLink RX5 44 "QuietStairs$Term" "act" "I" ∈ wsX5_allowedHours := List.mem_of_getElem? (i := 4) rfl
theorem iwX5_read_X5 : ∀ w ∈ wsX50, w ∈ wsX5_read := fun _ h => List.mem_cons_of_mem _ (List.mem_append_left _ (List.mem_append_left _ (List.mem_append_right _ h)))
theorem fwX5_read_1 : Cond.fieldLink RX5 18 "QuietStairs$Table" "count" "I" ∈ wsX5_read := List.mem_of_getElem? (i := 1) rfl
theorem iwX5_read_X0 : ∀ w ∈ wsX00, w ∈ wsX5_read := fun _ h => List.mem_cons_of_mem _ (List.mem_append_left _ (List.mem_append_right _ h))
theorem fwX5_read_2 : Cond.fieldLink RX5 22 "QuietStairs$Case" "terms" "[LQuietStairs$Term;" ∈ wsX5_read := List.mem_of_getElem? (i := 2) rfl
theorem iwX5_read_X6 : ∀ w ∈ wsX60, w ∈ wsX5_read := fun _ h => List.mem_cons_of_mem _ (List.mem_append_right _ h)
theorem fwX5_read_3 : Cond.fieldLink RX5 28 "QuietStairs$Term" "side" "I" ∈ wsX5_read := List.mem_of_getElem? (i := 3) rfl
theorem fwX5_read_4 : Cond.fieldLink RX5 33 "QuietStairs$Term" "must" "Z" ∈ wsX5_read := List.mem_of_getElem? (i := 4) rfl
theorem fwX5_read_5 : Cond.fieldLink RX5 9 "QuietStairs$Table" "musts" "[I" ∈ wsX5_read := List.mem_of_getElem? (i := 5) rfl
theorem fwX5_read_6 : Cond.fieldLink RX5 15 "QuietStairs$Table" "hourBits" "[I" ∈ wsX5_read := List.mem_of_getElem? (i := 6) rfl
theorem cn_RX5 : RX5 ≠ "java/lang/invoke/MethodHandle" ∧ RX5 ≠ "java/lang/invoke/VarHandle" := ⟨fun e => absurd (String.ofList_injective (show String.ofList ['Q', 'u', 'i', 'e', 't', 'S', 't', 'a', 'i', 'r', 's', '$', 'T', 'a', 'b', 'l', 'e'] = String.ofList ['j', 'a', 'v', 'a', '/', 'l', 'a', 'n', 'g', '/', 'i', 'n', 'v', 'o', 'k', 'e', '/', 'M', 'e', 't', 'h', 'o', 'd', 'H', 'a', 'n', 'd', 'l', 'e'] from e)) (by decide +kernel), fun e => absurd (String.ofList_injective (show String.ofList ['Q', 'u', 'i', 'e', 't', 'S', 't', 'a', 'i', 'r', 's', '$', 'T', 'a', 'b', 'l', 'e'] = String.ofList ['j', 'a', 'v', 'a', '/', 'l', 'a', 'n', 'g', '/', 'i', 'n', 'v', 'o', 'k', 'e', '/', 'V', 'a', 'r', 'H', 'a', 'n', 'd', 'l', 'e'] from e)) (by decide +kernel)⟩
theorem pm__LQuietStairs_Case_LQuietStairs_Term_I_I_3 : (parseMethodDescriptor "(LQuietStairs$Case;LQuietStairs$Term;I)I").map (fun d => d.parameters.length) = some 3 := by decide +kernel
theorem hd_S_X5_allowedHours_3 : yX5_allowedHours.cls = RX5 ∧ yX5_allowedHours.cls ≠ "java/lang/invoke/MethodHandle" ∧ yX5_allowedHours.cls ≠ "java/lang/invoke/VarHandle" ∧ (parseMethodDescriptor yX5_allowedHours.desc).map (fun d => d.parameters.length) = some 3 := ⟨rfl, cn_RX5.1, cn_RX5.2, pm__LQuietStairs_Case_LQuietStairs_Term_I_I_3⟩
theorem iwX5_stands_X5 : ∀ w ∈ wsX50, w ∈ wsX5_stands := fun _ h => List.mem_cons_of_mem _ (List.mem_append_right _ h)
theorem fwX5_stands_1 : Cond.fieldLink RX5 18 "QuietStairs$Table" "count" "I" ∈ wsX5_stands := List.mem_of_getElem? (i := 1) rfl
theorem fwX5_stands_4 : Cond.initialized RX7 ∈ wsX5_stands := List.mem_of_getElem? (i := 4) rfl
theorem fwX5_stands_3 : Cond.static yX7_hasBit ∈ wsX5_stands := List.mem_of_getElem? (i := 3) rfl
theorem fwX5_stands_2 : Cond.fieldLink RX5 15 "QuietStairs$Table" "hourBits" "[I" ∈ wsX5_stands := List.mem_of_getElem? (i := 2) rfl
theorem iwX5_pinLeastHour_X5 : ∀ w ∈ wsX50, w ∈ wsX5_pinLeastHour := fun _ h => List.mem_cons_of_mem _ (List.mem_append_right _ h)
theorem fwX5_pinLeastHour_1 : Cond.fieldLink RX5 15 "QuietStairs$Table" "hourBits" "[I" ∈ wsX5_pinLeastHour := List.mem_of_getElem? (i := 1) rfl
theorem fwX5_pinLeastHour_3 : Cond.initialized RX7 ∈ wsX5_pinLeastHour := List.mem_of_getElem? (i := 3) rfl
theorem fwX5_pinLeastHour_2 : Cond.static yX7_hasBit ∈ wsX5_pinLeastHour := List.mem_of_getElem? (i := 2) rfl
theorem pm___Z_0 : (parseMethodDescriptor "()Z").map (fun d => d.parameters.length) = some 0 := by decide +kernel
theorem hd_V_X5_stands_0 : yX5_stands.cls = RX5 ∧ yX5_stands.cls ≠ "java/lang/invoke/MethodHandle" ∧ yX5_stands.cls ≠ "java/lang/invoke/VarHandle" ∧ (parseMethodDescriptor yX5_stands.desc).map (fun d => d.parameters.length) = some 0 := ⟨rfl, cn_RX5.1, cn_RX5.2, pm___Z_0⟩
theorem iwX5_hourOf_X5 : ∀ w ∈ wsX50, w ∈ wsX5_hourOf := fun _ h => List.mem_cons_of_mem _ (List.mem_append_right _ h)
theorem fwX5_hourOf_1 : Cond.fieldLink RX5 18 "QuietStairs$Table" "count" "I" ∈ wsX5_hourOf := List.mem_of_getElem? (i := 1) rfl
theorem hd_V_X5_pinLeastHour_1 : yX5_pinLeastHour.cls = RX5 ∧ yX5_pinLeastHour.cls ≠ "java/lang/invoke/MethodHandle" ∧ yX5_pinLeastHour.cls ≠ "java/lang/invoke/VarHandle" ∧ (parseMethodDescriptor yX5_pinLeastHour.desc).map (fun d => d.parameters.length) = some 1 := ⟨rfl, cn_RX5.1, cn_RX5.2, pm__I_I_1⟩
theorem fwX5_hourOf_2 : Cond.fieldLink RX5 9 "QuietStairs$Table" "musts" "[I" ∈ wsX5_hourOf := List.mem_of_getElem? (i := 2) rfl
theorem iwX7_canHold_X7 : ∀ w ∈ wsX70, w ∈ wsX7_canHold := fun _ h => List.mem_cons_of_mem _ (List.mem_append_left _ (List.mem_append_left _ (List.mem_append_left _ (List.mem_append_left _ (List.mem_append_right _ h)))))
theorem fwX7_canHold_1 : Cond.fieldLink RX7 26 "QuietStairs" "table" "LQuietStairs$Table;" ∈ wsX7_canHold := List.mem_of_getElem? (i := 1) rfl
theorem fwX7_canHold_2 : Cond.fieldLink RX7 12 "QuietStairs" "now" "LQuietStairs$House;" ∈ wsX7_canHold := List.mem_of_getElem? (i := 2) rfl
theorem iwX7_canHold_X1 : ∀ w ∈ wsX10, w ∈ wsX7_canHold := fun _ h => List.mem_cons_of_mem _ (List.mem_append_left _ (List.mem_append_left _ (List.mem_append_left _ (List.mem_append_right _ h))))
theorem fwX7_canHold_3 : Cond.fieldLink RX7 86 "QuietStairs$House" "cases" "[LQuietStairs$Case;" ∈ wsX7_canHold := List.mem_of_getElem? (i := 3) rfl
theorem iwX7_canHold_X0 : ∀ w ∈ wsX00, w ∈ wsX7_canHold := fun _ h => List.mem_cons_of_mem _ (List.mem_append_left _ (List.mem_append_left _ (List.mem_append_right _ h)))
theorem fwX7_canHold_4 : Cond.fieldLink RX7 169 "QuietStairs$Case" "termCount" "I" ∈ wsX7_canHold := List.mem_of_getElem? (i := 4) rfl
theorem pm__LQuietStairs_Case_II_V_3 : (parseMethodDescriptor "(LQuietStairs$Case;II)V").map (fun d => d.parameters.length) = some 3 := by decide +kernel
theorem hd_V_X5_read_3 : yX5_read.cls = RX5 ∧ yX5_read.cls ≠ "java/lang/invoke/MethodHandle" ∧ yX5_read.cls ≠ "java/lang/invoke/VarHandle" ∧ (parseMethodDescriptor yX5_read.desc).map (fun d => d.parameters.length) = some 3 := ⟨rfl, cn_RX5.1, cn_RX5.2, pm__LQuietStairs_Case_II_V_3⟩
theorem iwX7_hour_X7 : ∀ w ∈ wsX70, w ∈ wsX7_hour := fun _ h => List.mem_cons_of_mem _ (List.mem_append_left _ (List.mem_append_left _ (List.mem_append_left _ (List.mem_append_left _ (List.mem_append_right _ h)))))
theorem fwX7_hour_1 : Cond.fieldLink RX7 12 "QuietStairs" "now" "LQuietStairs$House;" ∈ wsX7_hour := List.mem_of_getElem? (i := 1) rfl
theorem iwX7_hour_X1 : ∀ w ∈ wsX10, w ∈ wsX7_hour := fun _ h => List.mem_cons_of_mem _ (List.mem_append_left _ (List.mem_append_left _ (List.mem_append_left _ (List.mem_append_right _ h))))
theorem fwX7_hour_2 : Cond.fieldLink RX7 86 "QuietStairs$House" "cases" "[LQuietStairs$Case;" ∈ wsX7_hour := List.mem_of_getElem? (i := 2) rfl
theorem iwX7_hour_X0 : ∀ w ∈ wsX00, w ∈ wsX7_hour := fun _ h => List.mem_cons_of_mem _ (List.mem_append_left _ (List.mem_append_left _ (List.mem_append_right _ h)))
theorem fwX7_hour_3 : Cond.fieldLink RX7 172 "QuietStairs$Case" "terms" "[LQuietStairs$Term;" ∈ wsX7_hour := List.mem_of_getElem? (i := 3) rfl
theorem iwX7_hour_X6 : ∀ w ∈ wsX60, w ∈ wsX7_hour := fun _ h => List.mem_cons_of_mem _ (List.mem_append_left _ (List.mem_append_right _ h))
theorem fwX7_hour_4 : Cond.fieldLink RX7 181 "QuietStairs$Term" "must" "Z" ∈ wsX7_hour := List.mem_of_getElem? (i := 4) rfl
theorem fwX7_hour_5 : Cond.fieldLink RX7 26 "QuietStairs" "table" "LQuietStairs$Table;" ∈ wsX7_hour := List.mem_of_getElem? (i := 5) rfl
theorem fwX7_hour_6 : Cond.fieldLink RX7 176 "QuietStairs$Term" "side" "I" ∈ wsX7_hour := List.mem_of_getElem? (i := 6) rfl
theorem fwX7_hour_7 : Cond.fieldLink RX7 169 "QuietStairs$Case" "termCount" "I" ∈ wsX7_hour := List.mem_of_getElem? (i := 7) rfl
theorem hd_V_X5_hourOf_1 : yX5_hourOf.cls = RX5 ∧ yX5_hourOf.cls ≠ "java/lang/invoke/MethodHandle" ∧ yX5_hourOf.cls ≠ "java/lang/invoke/VarHandle" ∧ (parseMethodDescriptor yX5_hourOf.desc).map (fun d => d.parameters.length) = some 1 := ⟨rfl, cn_RX5.1, cn_RX5.2, pm__I_I_1⟩
theorem iwX7_breaks_X7 : ∀ w ∈ wsX70, w ∈ wsX7_breaks := fun _ h => List.mem_cons_of_mem _ (List.mem_append_left _ (List.mem_append_left _ (List.mem_append_left _ (List.mem_append_left _ (List.mem_append_right _ h)))))
theorem fwX7_breaks_1 : Cond.fieldLink RX7 12 "QuietStairs" "now" "LQuietStairs$House;" ∈ wsX7_breaks := List.mem_of_getElem? (i := 1) rfl
theorem iwX7_breaks_X1 : ∀ w ∈ wsX10, w ∈ wsX7_breaks := fun _ h => List.mem_cons_of_mem _ (List.mem_append_left _ (List.mem_append_left _ (List.mem_append_left _ (List.mem_append_right _ h))))
theorem fwX7_breaks_2 : Cond.fieldLink RX7 86 "QuietStairs$House" "cases" "[LQuietStairs$Case;" ∈ wsX7_breaks := List.mem_of_getElem? (i := 2) rfl
theorem iwX7_breaks_X0 : ∀ w ∈ wsX00, w ∈ wsX7_breaks := fun _ h => List.mem_cons_of_mem _ (List.mem_append_left _ (List.mem_append_left _ (List.mem_append_right _ h)))
theorem fwX7_breaks_3 : Cond.fieldLink RX7 169 "QuietStairs$Case" "termCount" "I" ∈ wsX7_breaks := List.mem_of_getElem? (i := 3) rfl
theorem fwX7_breaks_4 : Cond.fieldLink RX7 172 "QuietStairs$Case" "terms" "[LQuietStairs$Term;" ∈ wsX7_breaks := List.mem_of_getElem? (i := 4) rfl
theorem iwX7_breaks_X6 : ∀ w ∈ wsX60, w ∈ wsX7_breaks := fun _ h => List.mem_cons_of_mem _ (List.mem_append_left _ (List.mem_append_right _ h))
theorem fwX7_breaks_5 : Cond.fieldLink RX7 176 "QuietStairs$Term" "side" "I" ∈ wsX7_breaks := List.mem_of_getElem? (i := 5) rfl
theorem fwX7_breaks_6 : Cond.fieldLink RX7 26 "QuietStairs" "table" "LQuietStairs$Table;" ∈ wsX7_breaks := List.mem_of_getElem? (i := 6) rfl
theorem iwX1_hasPair_X1 : ∀ w ∈ wsX10, w ∈ wsX1_hasPair := fun _ h => List.mem_cons_of_mem _ (List.mem_append_right _ h)
theorem fwX1_hasPair_1 : Cond.fieldLink RX1 36 "QuietStairs$House" "mediatorCount" "I" ∈ wsX1_hasPair := List.mem_of_getElem? (i := 1) rfl
theorem iwX1_isNear_X2 : ∀ w ∈ wsX20, w ∈ wsX1_isNear := fun _ h => List.mem_cons_of_mem _ (List.mem_append_left _ (List.mem_append_left _ (List.mem_append_right _ h)))
theorem fwX1_isNear_1 : Cond.fieldLink RX1 59 "QuietStairs$Mediator" "kinBits" "I" ∈ wsX1_isNear := List.mem_of_getElem? (i := 1) rfl
theorem fwX1_isNear_6 : Cond.initialized RX7 ∈ wsX1_isNear := List.mem_of_getElem? (i := 6) rfl
theorem fwX1_isNear_5 : Cond.static yX7_hasBit ∈ wsX1_isNear := List.mem_of_getElem? (i := 5) rfl
theorem fwX1_isNear_2 : Cond.fieldLink RX1 62 "QuietStairs$Mediator" "floor" "I" ∈ wsX1_isNear := List.mem_of_getElem? (i := 2) rfl
theorem iwX1_isNear_X1 : ∀ w ∈ wsX10, w ∈ wsX1_isNear := fun _ h => List.mem_cons_of_mem _ (List.mem_append_left _ (List.mem_append_right _ h))
theorem fwX1_isNear_3 : Cond.fieldLink RX1 11 "QuietStairs$House" "parties" "[LQuietStairs$Party;" ∈ wsX1_isNear := List.mem_of_getElem? (i := 3) rfl
theorem iwX1_isNear_X3 : ∀ w ∈ wsX30, w ∈ wsX1_isNear := fun _ h => List.mem_cons_of_mem _ (List.mem_append_right _ h)
theorem fwX1_isNear_4 : Cond.fieldLink RX1 65 "QuietStairs$Party" "floor" "I" ∈ wsX1_isNear := List.mem_of_getElem? (i := 4) rfl
theorem iwX1_pairFits_X1 : ∀ w ∈ wsX10, w ∈ wsX1_pairFits := fun _ h => List.mem_cons_of_mem _ (List.mem_append_left _ (List.mem_append_left _ (List.mem_append_left _ (List.mem_append_right _ h))))
theorem fwX1_pairFits_1 : Cond.fieldLink RX1 19 "QuietStairs$House" "mediators" "[LQuietStairs$Mediator;" ∈ wsX1_pairFits := List.mem_of_getElem? (i := 1) rfl
theorem iwX1_pairFits_X2 : ∀ w ∈ wsX20, w ∈ wsX1_pairFits := fun _ h => List.mem_cons_of_mem _ (List.mem_append_left _ (List.mem_append_left _ (List.mem_append_right _ h)))
theorem fwX1_pairFits_2 : Cond.fieldLink RX1 43 "QuietStairs$Mediator" "tongues" "I" ∈ wsX1_pairFits := List.mem_of_getElem? (i := 2) rfl
theorem iwX1_pairFits_X0 : ∀ w ∈ wsX00, w ∈ wsX1_pairFits := fun _ h => List.mem_cons_of_mem _ (List.mem_append_left _ (List.mem_append_right _ h))
theorem fwX1_pairFits_3 : Cond.fieldLink RX1 46 "QuietStairs$Case" "parties" "[I" ∈ wsX1_pairFits := List.mem_of_getElem? (i := 3) rfl
theorem fwX1_pairFits_4 : Cond.fieldLink RX1 11 "QuietStairs$House" "parties" "[LQuietStairs$Party;" ∈ wsX1_pairFits := List.mem_of_getElem? (i := 4) rfl
theorem iwX1_pairFits_X3 : ∀ w ∈ wsX30, w ∈ wsX1_pairFits := fun _ h => List.mem_cons_of_mem _ (List.mem_append_right _ h)
theorem fwX1_pairFits_5 : Cond.fieldLink RX1 48 "QuietStairs$Party" "tongue" "I" ∈ wsX1_pairFits := List.mem_of_getElem? (i := 5) rfl
theorem fwX1_pairFits_7 : Cond.initialized RX7 ∈ wsX1_pairFits := List.mem_of_getElem? (i := 7) rfl
theorem fwX1_pairFits_6 : Cond.static yX7_hasBit ∈ wsX1_pairFits := List.mem_of_getElem? (i := 6) rfl
theorem pm__LQuietStairs_Mediator_I_Z_2 : (parseMethodDescriptor "(LQuietStairs$Mediator;I)Z").map (fun d => d.parameters.length) = some 2 := by decide +kernel
theorem hd_V_X1_isNear_2 : yX1_isNear.cls = RX1 ∧ yX1_isNear.cls ≠ "java/lang/invoke/MethodHandle" ∧ yX1_isNear.cls ≠ "java/lang/invoke/VarHandle" ∧ (parseMethodDescriptor yX1_isNear.desc).map (fun d => d.parameters.length) = some 2 := ⟨rfl, cn_RX1.1, cn_RX1.2, pm__LQuietStairs_Mediator_I_Z_2⟩
theorem iwX7_maySit_X7 : ∀ w ∈ wsX70, w ∈ wsX7_maySit := fun _ h => List.mem_cons_of_mem _ (List.mem_append_left _ (List.mem_append_left _ (List.mem_append_left _ (List.mem_append_left _ (List.mem_append_right _ h)))))
theorem fwX7_maySit_1 : Cond.fieldLink RX7 12 "QuietStairs" "now" "LQuietStairs$House;" ∈ wsX7_maySit := List.mem_of_getElem? (i := 1) rfl
theorem hd_V_X1_hasPair_1 : yX1_hasPair.cls = RX1 ∧ yX1_hasPair.cls ≠ "java/lang/invoke/MethodHandle" ∧ yX1_hasPair.cls ≠ "java/lang/invoke/VarHandle" ∧ (parseMethodDescriptor yX1_hasPair.desc).map (fun d => d.parameters.length) = some 1 := ⟨rfl, cn_RX1.1, cn_RX1.2, pm__I_Z_1⟩
theorem iwX7_maySit_X1 : ∀ w ∈ wsX10, w ∈ wsX7_maySit := fun _ h => List.mem_cons_of_mem _ (List.mem_append_left _ (List.mem_append_left _ (List.mem_append_left _ (List.mem_append_right _ h))))
theorem fwX7_maySit_2 : Cond.fieldLink RX7 86 "QuietStairs$House" "cases" "[LQuietStairs$Case;" ∈ wsX7_maySit := List.mem_of_getElem? (i := 2) rfl
theorem pm__ILQuietStairs_Case__Z_2 : (parseMethodDescriptor "(ILQuietStairs$Case;)Z").map (fun d => d.parameters.length) = some 2 := by decide +kernel
theorem hd_V_X1_pairFits_2 : yX1_pairFits.cls = RX1 ∧ yX1_pairFits.cls ≠ "java/lang/invoke/MethodHandle" ∧ yX1_pairFits.cls ≠ "java/lang/invoke/VarHandle" ∧ (parseMethodDescriptor yX1_pairFits.desc).map (fun d => d.parameters.length) = some 2 := ⟨rfl, cn_RX1.1, cn_RX1.2, pm__ILQuietStairs_Case__Z_2⟩
theorem iwX4_gather_X4 : ∀ w ∈ wsX40, w ∈ wsX4_gather := fun _ h => List.mem_cons_of_mem _ (List.mem_append_left _ (List.mem_append_left _ (List.mem_append_left _ (List.mem_append_left _ (List.mem_append_right _ h)))))
theorem fwX4_gather_1 : Cond.fieldLink RX4 61 "QuietStairs$Planner" "count" "I" ∈ wsX4_gather := List.mem_of_getElem? (i := 1) rfl
theorem iwX4_gather_X1 : ∀ w ∈ wsX10, w ∈ wsX4_gather := fun _ h => List.mem_cons_of_mem _ (List.mem_append_left _ (List.mem_append_left _ (List.mem_append_left _ (List.mem_append_right _ h))))
theorem fwX4_gather_2 : Cond.fieldLink RX4 68 "QuietStairs$House" "caseCount" "I" ∈ wsX4_gather := List.mem_of_getElem? (i := 2) rfl
theorem fwX4_gather_3 : Cond.fieldLink RX4 71 "QuietStairs$House" "cases" "[LQuietStairs$Case;" ∈ wsX4_gather := List.mem_of_getElem? (i := 3) rfl
theorem iwX4_gather_X0 : ∀ w ∈ wsX00, w ∈ wsX4_gather := fun _ h => List.mem_cons_of_mem _ (List.mem_append_left _ (List.mem_append_left _ (List.mem_append_right _ h)))
theorem fwX4_gather_4 : Cond.fieldLink RX4 75 "QuietStairs$Case" "state" "I" ∈ wsX4_gather := List.mem_of_getElem? (i := 4) rfl
theorem fwX4_gather_5 : Cond.fieldLink RX4 9 "QuietStairs$Planner" "numbers" "[I" ∈ wsX4_gather := List.mem_of_getElem? (i := 5) rfl
theorem fwX4_gather_6 : Cond.fieldLink RX4 15 "QuietStairs$Planner" "weights" "[I" ∈ wsX4_gather := List.mem_of_getElem? (i := 6) rfl
theorem fwX4_gather_7 : Cond.fieldLink RX4 80 "QuietStairs$Case" "weight" "I" ∈ wsX4_gather := List.mem_of_getElem? (i := 7) rfl
theorem fwX4_gather_8 : Cond.fieldLink RX4 18 "QuietStairs$Planner" "pairBits" "[I" ∈ wsX4_gather := List.mem_of_getElem? (i := 8) rfl
theorem cn_RX4 : RX4 ≠ "java/lang/invoke/MethodHandle" ∧ RX4 ≠ "java/lang/invoke/VarHandle" := ⟨fun e => absurd (String.ofList_injective (show String.ofList ['Q', 'u', 'i', 'e', 't', 'S', 't', 'a', 'i', 'r', 's', '$', 'P', 'l', 'a', 'n', 'n', 'e', 'r'] = String.ofList ['j', 'a', 'v', 'a', '/', 'l', 'a', 'n', 'g', '/', 'i', 'n', 'v', 'o', 'k', 'e', '/', 'M', 'e', 't', 'h', 'o', 'd', 'H', 'a', 'n', 'd', 'l', 'e'] from e)) (by decide +kernel), fun e => absurd (String.ofList_injective (show String.ofList ['Q', 'u', 'i', 'e', 't', 'S', 't', 'a', 'i', 'r', 's', '$', 'P', 'l', 'a', 'n', 'n', 'e', 'r'] = String.ofList ['j', 'a', 'v', 'a', '/', 'l', 'a', 'n', 'g', '/', 'i', 'n', 'v', 'o', 'k', 'e', '/', 'V', 'a', 'r', 'H', 'a', 'n', 'd', 'l', 'e'] from e)) (by decide +kernel)⟩
theorem pm__LQuietStairs_House_LQuietStairs_Case__I_2 : (parseMethodDescriptor "(LQuietStairs$House;LQuietStairs$Case;)I").map (fun d => d.parameters.length) = some 2 := by decide +kernel
theorem hd_S_X4_fittingPairs_2 : yX4_fittingPairs.cls = RX4 ∧ yX4_fittingPairs.cls ≠ "java/lang/invoke/MethodHandle" ∧ yX4_fittingPairs.cls ≠ "java/lang/invoke/VarHandle" ∧ (parseMethodDescriptor yX4_fittingPairs.desc).map (fun d => d.parameters.length) = some 2 := ⟨rfl, cn_RX4.1, cn_RX4.2, pm__LQuietStairs_House_LQuietStairs_Case__I_2⟩
theorem iwX4_sortByWeight_X4 : ∀ w ∈ wsX40, w ∈ wsX4_sortByWeight := fun _ h => List.mem_cons_of_mem _ (List.mem_append_right _ h)
theorem fwX4_sortByWeight_1 : Cond.fieldLink RX4 61 "QuietStairs$Planner" "count" "I" ∈ wsX4_sortByWeight := List.mem_of_getElem? (i := 1) rfl
theorem fwX4_sortByWeight_3 : Cond.fieldLink RX4 21 "QuietStairs$Planner" "heaviestFirst" "[I" ∈ wsX4_sortByWeight := List.mem_of_getElem? (i := 3) rfl
theorem fwX4_sortByWeight_2 : Cond.fieldLink RX4 15 "QuietStairs$Planner" "weights" "[I" ∈ wsX4_sortByWeight := List.mem_of_getElem? (i := 2) rfl
theorem iwX4_leastBehind_X4 : ∀ w ∈ wsX40, w ∈ wsX4_leastBehind := fun _ h => List.mem_cons_of_mem _ (List.mem_append_right _ h)
theorem fwX4_leastBehind_1 : Cond.fieldLink RX4 33 "QuietStairs$Planner" "sittings" "[I" ∈ wsX4_leastBehind := List.mem_of_getElem? (i := 1) rfl
theorem fwX4_leastBehind_2 : Cond.fieldLink RX4 61 "QuietStairs$Planner" "count" "I" ∈ wsX4_leastBehind := List.mem_of_getElem? (i := 2) rfl
theorem fwX4_leastBehind_3 : Cond.fieldLink RX4 21 "QuietStairs$Planner" "heaviestFirst" "[I" ∈ wsX4_leastBehind := List.mem_of_getElem? (i := 3) rfl
theorem fwX4_leastBehind_6 : Cond.fieldLink RX4 15 "QuietStairs$Planner" "weights" "[I" ∈ wsX4_leastBehind := List.mem_of_getElem? (i := 6) rfl
theorem fwX4_leastBehind_5 : Cond.fieldLink RX4 18 "QuietStairs$Planner" "pairBits" "[I" ∈ wsX4_leastBehind := List.mem_of_getElem? (i := 5) rfl
theorem fwX4_leastBehind_4 : Cond.fieldLink RX4 48 "QuietStairs$Planner" "seatsADay" "I" ∈ wsX4_leastBehind := List.mem_of_getElem? (i := 4) rfl
theorem iwX4_seatOf_X4 : ∀ w ∈ wsX40, w ∈ wsX4_seatOf := fun _ h => List.mem_cons_of_mem _ (List.mem_append_right _ h)
theorem fwX4_seatOf_1 : Cond.fieldLink RX4 61 "QuietStairs$Planner" "count" "I" ∈ wsX4_seatOf := List.mem_of_getElem? (i := 1) rfl
theorem fwX4_seatOf_2 : Cond.fieldLink RX4 9 "QuietStairs$Planner" "numbers" "[I" ∈ wsX4_seatOf := List.mem_of_getElem? (i := 2) rfl
theorem fwX4_seatOf_3 : Cond.fieldLink RX4 27 "QuietStairs$Planner" "bestSeats" "[I" ∈ wsX4_seatOf := List.mem_of_getElem? (i := 3) rfl
theorem hd_V_X4_leastBehind_1 : yX4_leastBehind.cls = RX4 ∧ yX4_leastBehind.cls ≠ "java/lang/invoke/MethodHandle" ∧ yX4_leastBehind.cls ≠ "java/lang/invoke/VarHandle" ∧ (parseMethodDescriptor yX4_leastBehind.desc).map (fun d => d.parameters.length) = some 1 := ⟨rfl, cn_RX4.1, cn_RX4.2, pm__I_I_1⟩
theorem iwX4_search_X4 : ∀ w ∈ wsX40, w ∈ wsX4_search := fun _ h => List.mem_cons_of_mem _ (List.mem_append_right _ h)
theorem fwX4_search_1 : Cond.fieldLink RX4 58 "QuietStairs$Planner" "leastWait" "I" ∈ wsX4_search := List.mem_of_getElem? (i := 1) rfl
theorem fwX4_search_2 : Cond.fieldLink RX4 61 "QuietStairs$Planner" "count" "I" ∈ wsX4_search := List.mem_of_getElem? (i := 2) rfl
theorem fwX4_search_3 : Cond.fieldLink RX4 24 "QuietStairs$Planner" "seats" "[I" ∈ wsX4_search := List.mem_of_getElem? (i := 3) rfl
theorem fwX4_search_4 : Cond.fieldLink RX4 27 "QuietStairs$Planner" "bestSeats" "[I" ∈ wsX4_search := List.mem_of_getElem? (i := 4) rfl
theorem fwX4_search_5 : Cond.methodLink RX4 99 arraycopyName ∈ wsX4_search := List.mem_of_getElem? (i := 5) rfl
theorem fwX4_search_6 : Cond.native arraycopyName ∈ wsX4_search := List.mem_of_getElem? (i := 6) rfl
theorem fwX4_search_7 : Cond.static arraycopyName ∈ wsX4_search := List.mem_of_getElem? (i := 7) rfl
theorem fwX4_search_8 : Cond.initialized "java/lang/System" ∈ wsX4_search := List.mem_of_getElem? (i := 8) rfl
theorem iwX4_searchDay_X4 : ∀ w ∈ wsX40, w ∈ wsX4_searchDay := fun _ h => List.mem_cons_of_mem _ (List.mem_append_right _ h)
theorem fwX4_searchDay_1 : Cond.fieldLink RX4 18 "QuietStairs$Planner" "pairBits" "[I" ∈ wsX4_searchDay := List.mem_of_getElem? (i := 1) rfl
theorem fwX4_searchDay_6 : Cond.initialized RX7 ∈ wsX4_searchDay := List.mem_of_getElem? (i := 6) rfl
theorem fwX4_searchDay_5 : Cond.static yX7_hasBit ∈ wsX4_searchDay := List.mem_of_getElem? (i := 5) rfl
theorem fwX4_searchDay_2 : Cond.fieldLink RX4 30 "QuietStairs$Planner" "busyBits" "[I" ∈ wsX4_searchDay := List.mem_of_getElem? (i := 2) rfl
theorem fwX4_searchDay_3 : Cond.fieldLink RX4 24 "QuietStairs$Planner" "seats" "[I" ∈ wsX4_searchDay := List.mem_of_getElem? (i := 3) rfl
theorem fwX4_searchDay_4 : Cond.fieldLink RX4 33 "QuietStairs$Planner" "sittings" "[I" ∈ wsX4_searchDay := List.mem_of_getElem? (i := 4) rfl
theorem pm__II_V_2 : (parseMethodDescriptor "(II)V").map (fun d => d.parameters.length) = some 2 := by decide +kernel
theorem hd_V_X4_search_2 : yX4_search.cls = RX4 ∧ yX4_search.cls ≠ "java/lang/invoke/MethodHandle" ∧ yX4_search.cls ≠ "java/lang/invoke/VarHandle" ∧ (parseMethodDescriptor yX4_search.desc).map (fun d => d.parameters.length) = some 2 := ⟨rfl, cn_RX4.1, cn_RX4.2, pm__II_V_2⟩
theorem fwX4_search_11 : Cond.fieldLink RX4 15 "QuietStairs$Planner" "weights" "[I" ∈ wsX4_search := List.mem_of_getElem? (i := 11) rfl
theorem fwX4_search_9 : Cond.fieldLink RX4 33 "QuietStairs$Planner" "sittings" "[I" ∈ wsX4_search := List.mem_of_getElem? (i := 9) rfl
theorem fwX4_search_10 : Cond.fieldLink RX4 48 "QuietStairs$Planner" "seatsADay" "I" ∈ wsX4_search := List.mem_of_getElem? (i := 10) rfl
theorem pm__III_V_3 : (parseMethodDescriptor "(III)V").map (fun d => d.parameters.length) = some 3 := by decide +kernel
theorem hd_V_X4_searchDay_3 : yX4_searchDay.cls = RX4 ∧ yX4_searchDay.cls ≠ "java/lang/invoke/MethodHandle" ∧ yX4_searchDay.cls ≠ "java/lang/invoke/VarHandle" ∧ (parseMethodDescriptor yX4_searchDay.desc).map (fun d => d.parameters.length) = some 3 := ⟨rfl, cn_RX4.1, cn_RX4.2, pm__III_V_3⟩
theorem iwX4_findPlan_X1 : ∀ w ∈ wsX10, w ∈ wsX4_findPlan := fun _ h => List.mem_cons_of_mem _ (List.mem_append_left _ (List.mem_append_left _ (List.mem_append_left _ (List.mem_append_left _ (List.mem_append_right _ h)))))
theorem fwX4_findPlan_1 : Cond.fieldLink RX4 36 "QuietStairs$House" "mediatorCount" "I" ∈ wsX4_findPlan := List.mem_of_getElem? (i := 1) rfl
theorem fwX4_findPlan_2 : Cond.methodLink RX4 42 Lib.Math.min.name ∈ wsX4_findPlan := List.mem_of_getElem? (i := 2) rfl
theorem fwX4_findPlan_3 : Cond.static Lib.Math.min.name ∈ wsX4_findPlan := List.mem_of_getElem? (i := 3) rfl
theorem fwX4_findPlan_4 : Cond.initialized "java/lang/Math" ∈ wsX4_findPlan := List.mem_of_getElem? (i := 4) rfl
theorem fwX4_findPlan_5 : Cond.code Lib.Math.min.name Lib.Math.min.code 2 (some .int) ∈ wsX4_findPlan := List.mem_of_getElem? (i := 5) rfl
theorem iwX4_findPlan_X4 : ∀ w ∈ wsX40, w ∈ wsX4_findPlan := fun _ h => List.mem_cons_of_mem _ (List.mem_append_left _ (List.mem_append_left _ (List.mem_append_left _ (List.mem_append_right _ h))))
theorem fwX4_findPlan_6 : Cond.fieldLink RX4 48 "QuietStairs$Planner" "seatsADay" "I" ∈ wsX4_findPlan := List.mem_of_getElem? (i := 6) rfl
theorem pm__LQuietStairs_House__V_1 : (parseMethodDescriptor "(LQuietStairs$House;)V").map (fun d => d.parameters.length) = some 1 := by decide +kernel
theorem hd_V_X4_gather_1 : yX4_gather.cls = RX4 ∧ yX4_gather.cls ≠ "java/lang/invoke/MethodHandle" ∧ yX4_gather.cls ≠ "java/lang/invoke/VarHandle" ∧ (parseMethodDescriptor yX4_gather.desc).map (fun d => d.parameters.length) = some 1 := ⟨rfl, cn_RX4.1, cn_RX4.2, pm__LQuietStairs_House__V_1⟩
theorem pm___V_0 : (parseMethodDescriptor "()V").map (fun d => d.parameters.length) = some 0 := by decide +kernel
theorem hd_V_X4_sortByWeight_0 : yX4_sortByWeight.cls = RX4 ∧ yX4_sortByWeight.cls ≠ "java/lang/invoke/MethodHandle" ∧ yX4_sortByWeight.cls ≠ "java/lang/invoke/VarHandle" ∧ (parseMethodDescriptor yX4_sortByWeight.desc).map (fun d => d.parameters.length) = some 0 := ⟨rfl, cn_RX4.1, cn_RX4.2, pm___V_0⟩
theorem fwX4_findPlan_7 : Cond.fieldLink RX4 58 "QuietStairs$Planner" "leastWait" "I" ∈ wsX4_findPlan := List.mem_of_getElem? (i := 7) rfl
theorem fwX4_findPlan_8 : Cond.fieldLink RX4 61 "QuietStairs$Planner" "count" "I" ∈ wsX4_findPlan := List.mem_of_getElem? (i := 8) rfl
theorem fwX4_findPlan_10 : Cond.fieldLink RX4 30 "QuietStairs$Planner" "busyBits" "[I" ∈ wsX4_findPlan := List.mem_of_getElem? (i := 10) rfl
theorem fwX4_findPlan_11 : Cond.fieldLink RX4 33 "QuietStairs$Planner" "sittings" "[I" ∈ wsX4_findPlan := List.mem_of_getElem? (i := 11) rfl
theorem fwX4_findPlan_9 : Cond.fieldLink RX4 15 "QuietStairs$Planner" "weights" "[I" ∈ wsX4_findPlan := List.mem_of_getElem? (i := 9) rfl
theorem iwX7_plan_X7 : ∀ w ∈ wsX70, w ∈ wsX7_plan := fun _ h => List.mem_cons_of_mem _ (List.mem_append_left _ (List.mem_append_left _ (List.mem_append_left _ (List.mem_append_left _ (List.mem_append_left _ (List.mem_append_right _ h))))))
theorem fwX7_plan_1 : Cond.fieldLink RX7 12 "QuietStairs" "now" "LQuietStairs$House;" ∈ wsX7_plan := List.mem_of_getElem? (i := 1) rfl
theorem iwX7_plan_X1 : ∀ w ∈ wsX10, w ∈ wsX7_plan := fun _ h => List.mem_cons_of_mem _ (List.mem_append_left _ (List.mem_append_left _ (List.mem_append_left _ (List.mem_append_left _ (List.mem_append_right _ h)))))
theorem fwX7_plan_2 : Cond.fieldLink RX7 86 "QuietStairs$House" "cases" "[LQuietStairs$Case;" ∈ wsX7_plan := List.mem_of_getElem? (i := 2) rfl
theorem iwX7_plan_X0 : ∀ w ∈ wsX00, w ∈ wsX7_plan := fun _ h => List.mem_cons_of_mem _ (List.mem_append_left _ (List.mem_append_left _ (List.mem_append_left _ (List.mem_append_right _ h))))
theorem fwX7_plan_3 : Cond.fieldLink RX7 99 "QuietStairs$Case" "state" "I" ∈ wsX7_plan := List.mem_of_getElem? (i := 3) rfl
theorem fwX7_plan_4 : Cond.fieldLink RX7 19 "QuietStairs" "planner" "LQuietStairs$Planner;" ∈ wsX7_plan := List.mem_of_getElem? (i := 4) rfl
theorem fwX7_plan_5 : Cond.fieldLink RX7 33 "QuietStairs" "roomCount" "I" ∈ wsX7_plan := List.mem_of_getElem? (i := 5) rfl
theorem pm__LQuietStairs_House_I_V_2 : (parseMethodDescriptor "(LQuietStairs$House;I)V").map (fun d => d.parameters.length) = some 2 := by decide +kernel
theorem hd_V_X4_findPlan_2 : yX4_findPlan.cls = RX4 ∧ yX4_findPlan.cls ≠ "java/lang/invoke/MethodHandle" ∧ yX4_findPlan.cls ≠ "java/lang/invoke/VarHandle" ∧ (parseMethodDescriptor yX4_findPlan.desc).map (fun d => d.parameters.length) = some 2 := ⟨rfl, cn_RX4.1, cn_RX4.2, pm__LQuietStairs_House_I_V_2⟩
theorem hd_V_X4_seatOf_1 : yX4_seatOf.cls = RX4 ∧ yX4_seatOf.cls ≠ "java/lang/invoke/MethodHandle" ∧ yX4_seatOf.cls ≠ "java/lang/invoke/VarHandle" ∧ (parseMethodDescriptor yX4_seatOf.desc).map (fun d => d.parameters.length) = some 1 := ⟨rfl, cn_RX4.1, cn_RX4.2, pm__I_I_1⟩
theorem iwX7_waits_X7 : ∀ w ∈ wsX70, w ∈ wsX7_waits := fun _ h => List.mem_cons_of_mem _ (List.mem_append_left _ (List.mem_append_left _ (List.mem_append_left _ (List.mem_append_left _ (List.mem_append_left _ (List.mem_append_right _ h))))))
theorem fwX7_waits_1 : Cond.fieldLink RX7 19 "QuietStairs" "planner" "LQuietStairs$Planner;" ∈ wsX7_waits := List.mem_of_getElem? (i := 1) rfl
theorem fwX7_waits_2 : Cond.fieldLink RX7 12 "QuietStairs" "now" "LQuietStairs$House;" ∈ wsX7_waits := List.mem_of_getElem? (i := 2) rfl
theorem fwX7_waits_3 : Cond.fieldLink RX7 33 "QuietStairs" "roomCount" "I" ∈ wsX7_waits := List.mem_of_getElem? (i := 3) rfl
theorem iwX7_waits_X4 : ∀ w ∈ wsX40, w ∈ wsX7_waits := fun _ h => List.mem_cons_of_mem _ (List.mem_append_left _ (List.mem_append_left _ (List.mem_append_left _ (List.mem_append_left _ (List.mem_append_right _ h)))))
theorem fwX7_waits_4 : Cond.fieldLink RX7 163 "QuietStairs$Planner" "leastWait" "I" ∈ wsX7_waits := List.mem_of_getElem? (i := 4) rfl
theorem fwX6_init_1 : Cond.methodLink RX6 1 objectInit ∈ wsX6_init := List.mem_of_getElem? (i := 1) rfl
theorem fwX6_init_2 : Cond.instanceMethod objectInit ∈ wsX6_init := List.mem_of_getElem? (i := 2) rfl
theorem fwX6_init_3 : Cond.code objectInit ⟨#[0xb1]⟩ 1 none ∈ wsX6_init := List.mem_of_getElem? (i := 3) rfl
theorem fwX3_init_1 : Cond.methodLink RX3 1 objectInit ∈ wsX3_init := List.mem_of_getElem? (i := 1) rfl
theorem fwX3_init_2 : Cond.instanceMethod objectInit ∈ wsX3_init := List.mem_of_getElem? (i := 2) rfl
theorem fwX3_init_3 : Cond.code objectInit ⟨#[0xb1]⟩ 1 none ∈ wsX3_init := List.mem_of_getElem? (i := 3) rfl
theorem fwX2_init_1 : Cond.methodLink RX2 1 objectInit ∈ wsX2_init := List.mem_of_getElem? (i := 1) rfl
theorem fwX2_init_2 : Cond.instanceMethod objectInit ∈ wsX2_init := List.mem_of_getElem? (i := 2) rfl
theorem fwX2_init_3 : Cond.code objectInit ⟨#[0xb1]⟩ 1 none ∈ wsX2_init := List.mem_of_getElem? (i := 3) rfl
theorem fwX0_init_1 : Cond.methodLink RX0 3 objectInit ∈ wsX0_init := List.mem_of_getElem? (i := 1) rfl
theorem fwX0_init_2 : Cond.instanceMethod objectInit ∈ wsX0_init := List.mem_of_getElem? (i := 2) rfl
theorem fwX0_init_3 : Cond.code objectInit ⟨#[0xb1]⟩ 1 none ∈ wsX0_init := List.mem_of_getElem? (i := 3) rfl
theorem fwX0_init_4 : Cond.arrayClass .int ∈ wsX0_init := List.mem_of_getElem? (i := 4) rfl
theorem iwX0_init_X0 : ∀ w ∈ wsX00, w ∈ wsX0_init := fun _ h => List.mem_cons_of_mem _ (List.mem_append_left _ (List.mem_append_right _ h))
theorem fwX0_init_5 : Cond.fieldLink RX0 9 "QuietStairs$Case" "parties" "[I" ∈ wsX0_init := List.mem_of_getElem? (i := 5) rfl
theorem fwX0_init_6 : Cond.fieldLink RX0 15 "QuietStairs$Case" "box" "[I" ∈ wsX0_init := List.mem_of_getElem? (i := 6) rfl
theorem fwX0_init_7 : Cond.classLink RX0 18 "[[I" ∈ wsX0_init := List.mem_of_getElem? (i := 7) rfl
theorem fwX0_init_8 : Cond.fieldLink RX0 20 "QuietStairs$Case" "offers" "[[I" ∈ wsX0_init := List.mem_of_getElem? (i := 8) rfl
theorem fwX0_init_9 : Cond.fieldLink RX0 23 "QuietStairs$Case" "logs" "[[I" ∈ wsX0_init := List.mem_of_getElem? (i := 9) rfl
theorem fwX0_init_10 : Cond.classLink RX0 26 RX6 ∈ wsX0_init := List.mem_of_getElem? (i := 10) rfl
theorem fwX0_init_11 : Cond.fieldLink RX0 28 "QuietStairs$Case" "terms" "[LQuietStairs$Term;" ∈ wsX0_init := List.mem_of_getElem? (i := 11) rfl
theorem iwX0_init_X6 : ∀ w ∈ wsX60, w ∈ wsX0_init := fun _ h => List.mem_cons_of_mem _ (List.mem_append_right _ h)
theorem fwX0_init_12 : Cond.instantiable RX6 5 ∈ wsX0_init := List.mem_of_getElem? (i := 12) rfl
theorem fwX0_init_13 : Cond.initialized RX6 ∈ wsX0_init := List.mem_of_getElem? (i := 13) rfl
theorem fwX0_init_14 : Cond.instanceMethod yX6_init ∈ wsX0_init := List.mem_of_getElem? (i := 14) rfl
theorem fwX1_init_1 : Cond.methodLink RX1 3 objectInit ∈ wsX1_init := List.mem_of_getElem? (i := 1) rfl
theorem fwX1_init_2 : Cond.instanceMethod objectInit ∈ wsX1_init := List.mem_of_getElem? (i := 2) rfl
theorem fwX1_init_3 : Cond.code objectInit ⟨#[0xb1]⟩ 1 none ∈ wsX1_init := List.mem_of_getElem? (i := 3) rfl
theorem fwX1_init_4 : Cond.classLink RX1 9 RX3 ∈ wsX1_init := List.mem_of_getElem? (i := 4) rfl
theorem iwX1_init_X1 : ∀ w ∈ wsX10, w ∈ wsX1_init := fun _ h => List.mem_cons_of_mem _ (List.mem_append_left _ (List.mem_append_left _ (List.mem_append_left _ (List.mem_append_left _ (List.mem_append_right _ h)))))
theorem fwX1_init_5 : Cond.fieldLink RX1 11 "QuietStairs$House" "parties" "[LQuietStairs$Party;" ∈ wsX1_init := List.mem_of_getElem? (i := 5) rfl
theorem fwX1_init_6 : Cond.classLink RX1 17 RX2 ∈ wsX1_init := List.mem_of_getElem? (i := 6) rfl
theorem fwX1_init_7 : Cond.fieldLink RX1 19 "QuietStairs$House" "mediators" "[LQuietStairs$Mediator;" ∈ wsX1_init := List.mem_of_getElem? (i := 7) rfl
theorem fwX1_init_8 : Cond.classLink RX1 23 RX0 ∈ wsX1_init := List.mem_of_getElem? (i := 8) rfl
theorem fwX1_init_9 : Cond.fieldLink RX1 25 "QuietStairs$House" "cases" "[LQuietStairs$Case;" ∈ wsX1_init := List.mem_of_getElem? (i := 9) rfl
theorem iwX1_init_X3 : ∀ w ∈ wsX30, w ∈ wsX1_init := fun _ h => List.mem_cons_of_mem _ (List.mem_append_left _ (List.mem_append_left _ (List.mem_append_left _ (List.mem_append_right _ h))))
theorem fwX1_init_10 : Cond.instantiable RX3 2 ∈ wsX1_init := List.mem_of_getElem? (i := 10) rfl
theorem fwX1_init_11 : Cond.initialized RX3 ∈ wsX1_init := List.mem_of_getElem? (i := 11) rfl
theorem fwX1_init_16 : Cond.instanceMethod yX3_init ∈ wsX1_init := List.mem_of_getElem? (i := 16) rfl
theorem iwX1_init_X2 : ∀ w ∈ wsX20, w ∈ wsX1_init := fun _ h => List.mem_cons_of_mem _ (List.mem_append_left _ (List.mem_append_left _ (List.mem_append_right _ h)))
theorem fwX1_init_12 : Cond.instantiable RX2 3 ∈ wsX1_init := List.mem_of_getElem? (i := 12) rfl
theorem fwX1_init_13 : Cond.initialized RX2 ∈ wsX1_init := List.mem_of_getElem? (i := 13) rfl
theorem fwX1_init_19 : Cond.instanceMethod yX2_init ∈ wsX1_init := List.mem_of_getElem? (i := 19) rfl
theorem iwX1_init_X0 : ∀ w ∈ wsX00, w ∈ wsX1_init := fun _ h => List.mem_cons_of_mem _ (List.mem_append_left _ (List.mem_append_right _ h))
theorem fwX1_init_14 : Cond.instantiable RX0 11 ∈ wsX1_init := List.mem_of_getElem? (i := 14) rfl
theorem fwX1_init_15 : Cond.initialized RX0 ∈ wsX1_init := List.mem_of_getElem? (i := 15) rfl
theorem fwX1_init_22 : Cond.methodLink RX1 31 yX0_init ∈ wsX1_init := List.mem_of_getElem? (i := 22) rfl
theorem fwX1_init_23 : Cond.instanceMethod yX0_init ∈ wsX1_init := List.mem_of_getElem? (i := 23) rfl
theorem fwX4_init_1 : Cond.methodLink RX4 3 objectInit ∈ wsX4_init := List.mem_of_getElem? (i := 1) rfl
theorem fwX4_init_2 : Cond.instanceMethod objectInit ∈ wsX4_init := List.mem_of_getElem? (i := 2) rfl
theorem fwX4_init_3 : Cond.code objectInit ⟨#[0xb1]⟩ 1 none ∈ wsX4_init := List.mem_of_getElem? (i := 3) rfl
theorem fwX4_init_4 : Cond.arrayClass .int ∈ wsX4_init := List.mem_of_getElem? (i := 4) rfl
theorem iwX4_init_X4 : ∀ w ∈ wsX40, w ∈ wsX4_init := fun _ h => List.mem_cons_of_mem _ (List.mem_append_right _ h)
theorem fwX4_init_5 : Cond.fieldLink RX4 9 "QuietStairs$Planner" "numbers" "[I" ∈ wsX4_init := List.mem_of_getElem? (i := 5) rfl
theorem fwX4_init_6 : Cond.fieldLink RX4 15 "QuietStairs$Planner" "weights" "[I" ∈ wsX4_init := List.mem_of_getElem? (i := 6) rfl
theorem fwX4_init_7 : Cond.fieldLink RX4 18 "QuietStairs$Planner" "pairBits" "[I" ∈ wsX4_init := List.mem_of_getElem? (i := 7) rfl
theorem fwX4_init_8 : Cond.fieldLink RX4 21 "QuietStairs$Planner" "heaviestFirst" "[I" ∈ wsX4_init := List.mem_of_getElem? (i := 8) rfl
theorem fwX4_init_9 : Cond.fieldLink RX4 24 "QuietStairs$Planner" "seats" "[I" ∈ wsX4_init := List.mem_of_getElem? (i := 9) rfl
theorem fwX4_init_10 : Cond.fieldLink RX4 27 "QuietStairs$Planner" "bestSeats" "[I" ∈ wsX4_init := List.mem_of_getElem? (i := 10) rfl
theorem fwX4_init_11 : Cond.fieldLink RX4 30 "QuietStairs$Planner" "busyBits" "[I" ∈ wsX4_init := List.mem_of_getElem? (i := 11) rfl
theorem fwX4_init_12 : Cond.fieldLink RX4 33 "QuietStairs$Planner" "sittings" "[I" ∈ wsX4_init := List.mem_of_getElem? (i := 12) rfl
theorem fwX5_init_1 : Cond.methodLink RX5 3 objectInit ∈ wsX5_init := List.mem_of_getElem? (i := 1) rfl
theorem fwX5_init_2 : Cond.instanceMethod objectInit ∈ wsX5_init := List.mem_of_getElem? (i := 2) rfl
theorem fwX5_init_3 : Cond.code objectInit ⟨#[0xb1]⟩ 1 none ∈ wsX5_init := List.mem_of_getElem? (i := 3) rfl
theorem fwX5_init_4 : Cond.arrayClass .int ∈ wsX5_init := List.mem_of_getElem? (i := 4) rfl
theorem iwX5_init_X5 : ∀ w ∈ wsX50, w ∈ wsX5_init := fun _ h => List.mem_cons_of_mem _ (List.mem_append_right _ h)
theorem fwX5_init_5 : Cond.fieldLink RX5 9 "QuietStairs$Table" "musts" "[I" ∈ wsX5_init := List.mem_of_getElem? (i := 5) rfl
theorem fwX5_init_6 : Cond.fieldLink RX5 15 "QuietStairs$Table" "hourBits" "[I" ∈ wsX5_init := List.mem_of_getElem? (i := 6) rfl
theorem fwX7_init_1 : Cond.methodLink RX7 3 objectInit ∈ wsX7_init := List.mem_of_getElem? (i := 1) rfl
theorem fwX7_init_2 : Cond.instanceMethod objectInit ∈ wsX7_init := List.mem_of_getElem? (i := 2) rfl
theorem fwX7_init_3 : Cond.code objectInit ⟨#[0xb1]⟩ 1 none ∈ wsX7_init := List.mem_of_getElem? (i := 3) rfl
theorem iwX7_init_X1 : ∀ w ∈ wsX10, w ∈ wsX7_init := fun _ h => List.mem_cons_of_mem _ (List.mem_append_left _ (List.mem_append_left _ (List.mem_append_left _ (List.mem_append_left _ (List.mem_append_left _ (List.mem_append_left _ (List.mem_append_left _ (List.mem_append_right _ h))))))))
theorem fwX7_init_4 : Cond.classLink RX7 9 RX1 ∈ wsX7_init := List.mem_of_getElem? (i := 4) rfl
theorem fwX7_init_5 : Cond.instantiable RX1 7 ∈ wsX7_init := List.mem_of_getElem? (i := 5) rfl
theorem fwX7_init_6 : Cond.initialized RX1 ∈ wsX7_init := List.mem_of_getElem? (i := 6) rfl
theorem fwX7_init_18 : Cond.methodLink RX7 11 yX1_init ∈ wsX7_init := List.mem_of_getElem? (i := 18) rfl
theorem fwX7_init_19 : Cond.instanceMethod yX1_init ∈ wsX7_init := List.mem_of_getElem? (i := 19) rfl
theorem iwX7_init_X7 : ∀ w ∈ wsX70, w ∈ wsX7_init := fun _ h => List.mem_cons_of_mem _ (List.mem_append_left _ (List.mem_append_left _ (List.mem_append_left _ (List.mem_append_left _ (List.mem_append_left _ (List.mem_append_left _ (List.mem_append_right _ h)))))))
theorem fwX7_init_7 : Cond.fieldLink RX7 12 "QuietStairs" "now" "LQuietStairs$House;" ∈ wsX7_init := List.mem_of_getElem? (i := 7) rfl
theorem iwX7_init_X4 : ∀ w ∈ wsX40, w ∈ wsX7_init := fun _ h => List.mem_cons_of_mem _ (List.mem_append_left _ (List.mem_append_left _ (List.mem_append_left _ (List.mem_append_left _ (List.mem_append_left _ (List.mem_append_right _ h))))))
theorem fwX7_init_8 : Cond.classLink RX7 16 RX4 ∈ wsX7_init := List.mem_of_getElem? (i := 8) rfl
theorem fwX7_init_9 : Cond.instantiable RX4 11 ∈ wsX7_init := List.mem_of_getElem? (i := 9) rfl
theorem fwX7_init_10 : Cond.initialized RX4 ∈ wsX7_init := List.mem_of_getElem? (i := 10) rfl
theorem fwX7_init_57 : Cond.instanceMethod yX4_init ∈ wsX7_init := List.mem_of_getElem? (i := 57) rfl
theorem fwX7_init_11 : Cond.fieldLink RX7 19 "QuietStairs" "planner" "LQuietStairs$Planner;" ∈ wsX7_init := List.mem_of_getElem? (i := 11) rfl
theorem iwX7_init_X5 : ∀ w ∈ wsX50, w ∈ wsX7_init := fun _ h => List.mem_cons_of_mem _ (List.mem_append_left _ (List.mem_append_left _ (List.mem_append_left _ (List.mem_append_left _ (List.mem_append_right _ h)))))
theorem fwX7_init_12 : Cond.classLink RX7 23 RX5 ∈ wsX7_init := List.mem_of_getElem? (i := 12) rfl
theorem fwX7_init_13 : Cond.instantiable RX5 3 ∈ wsX7_init := List.mem_of_getElem? (i := 13) rfl
theorem fwX7_init_14 : Cond.initialized RX5 ∈ wsX7_init := List.mem_of_getElem? (i := 14) rfl
theorem fwX7_init_68 : Cond.instanceMethod yX5_init ∈ wsX7_init := List.mem_of_getElem? (i := 68) rfl
theorem fwX7_init_15 : Cond.fieldLink RX7 26 "QuietStairs" "table" "LQuietStairs$Table;" ∈ wsX7_init := List.mem_of_getElem? (i := 15) rfl
theorem fwX7_init_16 : Cond.fieldLink RX7 30 "QuietStairs" "kept" "LQuietStairs$House;" ∈ wsX7_init := List.mem_of_getElem? (i := 16) rfl
theorem fwX7_init_17 : Cond.fieldLink RX7 33 "QuietStairs" "roomCount" "I" ∈ wsX7_init := List.mem_of_getElem? (i := 17) rfl
theorem cn_RX8 : RX8 ≠ "java/lang/invoke/MethodHandle" ∧ RX8 ≠ "java/lang/invoke/VarHandle" := ⟨fun e => absurd (String.ofList_injective (show String.ofList ['Q', 'u', 'i', 'e', 't', 'S', 't', 'a', 'i', 'r', 's', 'M', 'o', 'd', 'e', 'l'] = String.ofList ['j', 'a', 'v', 'a', '/', 'l', 'a', 'n', 'g', '/', 'i', 'n', 'v', 'o', 'k', 'e', '/', 'M', 'e', 't', 'h', 'o', 'd', 'H', 'a', 'n', 'd', 'l', 'e'] from e)) (by decide +kernel), fun e => absurd (String.ofList_injective (show String.ofList ['Q', 'u', 'i', 'e', 't', 'S', 't', 'a', 'i', 'r', 's', 'M', 'o', 'd', 'e', 'l'] = String.ofList ['j', 'a', 'v', 'a', '/', 'l', 'a', 'n', 'g', '/', 'i', 'n', 'v', 'o', 'k', 'e', '/', 'V', 'a', 'r', 'H', 'a', 'n', 'd', 'l', 'e'] from e)) (by decide +kernel)⟩
theorem hd_S_X8_in_3 : yX8_in.cls = RX8 ∧ yX8_in.cls ≠ "java/lang/invoke/MethodHandle" ∧ yX8_in.cls ≠ "java/lang/invoke/VarHandle" ∧ (parseMethodDescriptor yX8_in.desc).map (fun d => d.parameters.length) = some 3 := ⟨rfl, cn_RX8.1, cn_RX8.2, pm__III_Z_3⟩
theorem iwX8_isParty_X8 : ∀ w ∈ wsX80, w ∈ wsX8_isParty := fun _ h => List.mem_cons_of_mem _ (List.mem_append_right _ h)
theorem fwX8_isParty_1 : Cond.fieldLink RX8 7 "QuietStairsModel" "s" "[I" ∈ wsX8_isParty := List.mem_of_getElem? (i := 1) rfl
theorem iwX8_isMediator_X8 : ∀ w ∈ wsX80, w ∈ wsX8_isMediator := fun _ h => List.mem_cons_of_mem _ (List.mem_append_right _ h)
theorem fwX8_isMediator_1 : Cond.fieldLink RX8 7 "QuietStairsModel" "s" "[I" ∈ wsX8_isMediator := List.mem_of_getElem? (i := 1) rfl
theorem iwX8_isCase_X8 : ∀ w ∈ wsX80, w ∈ wsX8_isCase := fun _ h => List.mem_cons_of_mem _ (List.mem_append_right _ h)
theorem fwX8_isCase_1 : Cond.fieldLink RX8 7 "QuietStairsModel" "s" "[I" ∈ wsX8_isCase := List.mem_of_getElem? (i := 1) rfl
theorem hd_S_X8_otherOf_1 : yX8_otherOf.cls = RX8 ∧ yX8_otherOf.cls ≠ "java/lang/invoke/MethodHandle" ∧ yX8_otherOf.cls ≠ "java/lang/invoke/VarHandle" ∧ (parseMethodDescriptor yX8_otherOf.desc).map (fun d => d.parameters.length) = some 1 := ⟨rfl, cn_RX8.1, cn_RX8.2, pm__I_I_1⟩
theorem hd_V_X8_isMediator_1 : yX8_isMediator.cls = RX8 ∧ yX8_isMediator.cls ≠ "java/lang/invoke/MethodHandle" ∧ yX8_isMediator.cls ≠ "java/lang/invoke/VarHandle" ∧ (parseMethodDescriptor yX8_isMediator.desc).map (fun d => d.parameters.length) = some 1 := ⟨rfl, cn_RX8.1, cn_RX8.2, pm__I_Z_1⟩
theorem iwX8_mayMeet_X8 : ∀ w ∈ wsX80, w ∈ wsX8_mayMeet := fun _ h => List.mem_cons_of_mem _ (List.mem_append_right _ h)
theorem fwX8_mayMeet_1 : Cond.fieldLink RX8 7 "QuietStairsModel" "s" "[I" ∈ wsX8_mayMeet := List.mem_of_getElem? (i := 1) rfl
theorem hd_S_X8_oneOf_1 : yX8_oneOf.cls = RX8 ∧ yX8_oneOf.cls ≠ "java/lang/invoke/MethodHandle" ∧ yX8_oneOf.cls ≠ "java/lang/invoke/VarHandle" ∧ (parseMethodDescriptor yX8_oneOf.desc).map (fun d => d.parameters.length) = some 1 := ⟨rfl, cn_RX8.1, cn_RX8.2, pm__I_I_1⟩
theorem iwX8_may_X8 : ∀ w ∈ wsX80, w ∈ wsX8_may := fun _ h => List.mem_cons_of_mem _ (List.mem_append_right _ h)
theorem fwX8_may_1 : Cond.fieldLink RX8 7 "QuietStairsModel" "s" "[I" ∈ wsX8_may := List.mem_of_getElem? (i := 1) rfl
theorem hd_S_X8_at_2 : yX8_at.cls = RX8 ∧ yX8_at.cls ≠ "java/lang/invoke/MethodHandle" ∧ yX8_at.cls ≠ "java/lang/invoke/VarHandle" ∧ (parseMethodDescriptor yX8_at.desc).map (fun d => d.parameters.length) = some 2 := ⟨rfl, cn_RX8.1, cn_RX8.2, pm__II_I_2⟩
theorem hd_V_X8_mayMeet_2 : yX8_mayMeet.cls = RX8 ∧ yX8_mayMeet.cls ≠ "java/lang/invoke/MethodHandle" ∧ yX8_mayMeet.cls ≠ "java/lang/invoke/VarHandle" ∧ (parseMethodDescriptor yX8_mayMeet.desc).map (fun d => d.parameters.length) = some 2 := ⟨rfl, cn_RX8.1, cn_RX8.2, pm__II_Z_2⟩
theorem hd_V_X8_isPair_1 : yX8_isPair.cls = RX8 ∧ yX8_isPair.cls ≠ "java/lang/invoke/MethodHandle" ∧ yX8_isPair.cls ≠ "java/lang/invoke/VarHandle" ∧ (parseMethodDescriptor yX8_isPair.desc).map (fun d => d.parameters.length) = some 1 := ⟨rfl, cn_RX8.1, cn_RX8.2, pm__I_Z_1⟩
theorem hd_V_X8_isCase_1 : yX8_isCase.cls = RX8 ∧ yX8_isCase.cls ≠ "java/lang/invoke/MethodHandle" ∧ yX8_isCase.cls ≠ "java/lang/invoke/VarHandle" ∧ (parseMethodDescriptor yX8_isCase.desc).map (fun d => d.parameters.length) = some 1 := ⟨rfl, cn_RX8.1, cn_RX8.2, pm__I_Z_1⟩
theorem hd_V_X8_may_2 : yX8_may.cls = RX8 ∧ yX8_may.cls ≠ "java/lang/invoke/MethodHandle" ∧ yX8_may.cls ≠ "java/lang/invoke/VarHandle" ∧ (parseMethodDescriptor yX8_may.desc).map (fun d => d.parameters.length) = some 2 := ⟨rfl, cn_RX8.1, cn_RX8.2, pm__II_Z_2⟩
theorem iwX8_casesThat_X8 : ∀ w ∈ wsX80, w ∈ wsX8_casesThat := fun _ h => List.mem_cons_of_mem _ (List.mem_append_right _ h)
theorem fwX8_casesThat_1 : Cond.fieldLink RX8 7 "QuietStairsModel" "s" "[I" ∈ wsX8_casesThat := List.mem_of_getElem? (i := 1) rfl
theorem iwX8_joined_X8 : ∀ w ∈ wsX80, w ∈ wsX8_joined := fun _ h => List.mem_cons_of_mem _ (List.mem_append_right _ h)
theorem fwX8_joined_1 : Cond.fieldLink RX8 7 "QuietStairsModel" "s" "[I" ∈ wsX8_joined := List.mem_of_getElem? (i := 1) rfl
theorem fwX8_joined_2 : Cond.fieldLink RX8 20 "QuietStairsModel" "headOf" "[I" ∈ wsX8_joined := List.mem_of_getElem? (i := 2) rfl
theorem hd_S_X8_termAt_2 : yX8_termAt.cls = RX8 ∧ yX8_termAt.cls ≠ "java/lang/invoke/MethodHandle" ∧ yX8_termAt.cls ≠ "java/lang/invoke/VarHandle" ∧ (parseMethodDescriptor yX8_termAt.desc).map (fun d => d.parameters.length) = some 2 := ⟨rfl, cn_RX8.1, cn_RX8.2, pm__II_I_2⟩
theorem iwX8_judge_X8 : ∀ w ∈ wsX80, w ∈ wsX8_judge := fun _ h => List.mem_cons_of_mem _ (List.mem_append_right _ h)
theorem fwX8_judge_1 : Cond.fieldLink RX8 7 "QuietStairsModel" "s" "[I" ∈ wsX8_judge := List.mem_of_getElem? (i := 1) rfl
theorem iwX8_isTerm_X8 : ∀ w ∈ wsX80, w ∈ wsX8_isTerm := fun _ h => List.mem_cons_of_mem _ (List.mem_append_right _ h)
theorem fwX8_isTerm_1 : Cond.fieldLink RX8 7 "QuietStairsModel" "s" "[I" ∈ wsX8_isTerm := List.mem_of_getElem? (i := 1) rfl
theorem hd_V_X8_isTerm_2 : yX8_isTerm.cls = RX8 ∧ yX8_isTerm.cls ≠ "java/lang/invoke/MethodHandle" ∧ yX8_isTerm.cls ≠ "java/lang/invoke/VarHandle" ∧ (parseMethodDescriptor yX8_isTerm.desc).map (fun d => d.parameters.length) = some 2 := ⟨rfl, cn_RX8.1, cn_RX8.2, pm__II_Z_2⟩
theorem hd_V_X8_judge_2 : yX8_judge.cls = RX8 ∧ yX8_judge.cls ≠ "java/lang/invoke/MethodHandle" ∧ yX8_judge.cls ≠ "java/lang/invoke/VarHandle" ∧ (parseMethodDescriptor yX8_judge.desc).map (fun d => d.parameters.length) = some 2 := ⟨rfl, cn_RX8.1, cn_RX8.2, pm__II_I_2⟩
theorem iwX8_termOf_X8 : ∀ w ∈ wsX80, w ∈ wsX8_termOf := fun _ h => List.mem_cons_of_mem _ (List.mem_append_right _ h)
theorem fwX8_termOf_1 : Cond.fieldLink RX8 7 "QuietStairsModel" "s" "[I" ∈ wsX8_termOf := List.mem_of_getElem? (i := 1) rfl
theorem iwX8_termsThat_X8 : ∀ w ∈ wsX80, w ∈ wsX8_termsThat := fun _ h => List.mem_cons_of_mem _ (List.mem_append_right _ h)
theorem fwX8_termsThat_1 : Cond.fieldLink RX8 7 "QuietStairsModel" "s" "[I" ∈ wsX8_termsThat := List.mem_of_getElem? (i := 1) rfl
theorem hd_S_X8_isSide_1 : yX8_isSide.cls = RX8 ∧ yX8_isSide.cls ≠ "java/lang/invoke/MethodHandle" ∧ yX8_isSide.cls ≠ "java/lang/invoke/VarHandle" ∧ (parseMethodDescriptor yX8_isSide.desc).map (fun d => d.parameters.length) = some 1 := ⟨rfl, cn_RX8.1, cn_RX8.2, pm__I_Z_1⟩
theorem iwX8_put_X8 : ∀ w ∈ wsX80, w ∈ wsX8_put := fun _ h => List.mem_cons_of_mem _ (List.mem_append_right _ h)
theorem fwX8_put_1 : Cond.fieldLink RX8 7 "QuietStairsModel" "s" "[I" ∈ wsX8_put := List.mem_of_getElem? (i := 1) rfl
theorem iwX8_learns_X8 : ∀ w ∈ wsX80, w ∈ wsX8_learns := fun _ h => List.mem_cons_of_mem _ (List.mem_append_right _ h)
theorem fwX8_learns_1 : Cond.fieldLink RX8 7 "QuietStairsModel" "s" "[I" ∈ wsX8_learns := List.mem_of_getElem? (i := 1) rfl
theorem iwX8_rooms_X8 : ∀ w ∈ wsX80, w ∈ wsX8_rooms := fun _ h => List.mem_cons_of_mem _ (List.mem_append_right _ h)
theorem fwX8_rooms_1 : Cond.fieldLink RX8 16 "QuietStairsModel" "rooms" "I" ∈ wsX8_rooms := List.mem_of_getElem? (i := 1) rfl
theorem iwX8_keep_X8 : ∀ w ∈ wsX80, w ∈ wsX8_keep := fun _ h => List.mem_cons_of_mem _ (List.mem_append_right _ h)
theorem fwX8_keep_3 : Cond.fieldLink RX8 134 "QuietStairsModel" "isKept" "Z" ∈ wsX8_keep := List.mem_of_getElem? (i := 3) rfl
theorem fwX8_keep_1 : Cond.fieldLink RX8 13 "QuietStairsModel" "kept" "[I" ∈ wsX8_keep := List.mem_of_getElem? (i := 1) rfl
theorem fwX8_keep_2 : Cond.fieldLink RX8 7 "QuietStairsModel" "s" "[I" ∈ wsX8_keep := List.mem_of_getElem? (i := 2) rfl
theorem iwX8_back_X8 : ∀ w ∈ wsX80, w ∈ wsX8_back := fun _ h => List.mem_cons_of_mem _ (List.mem_append_right _ h)
theorem fwX8_back_1 : Cond.fieldLink RX8 134 "QuietStairsModel" "isKept" "Z" ∈ wsX8_back := List.mem_of_getElem? (i := 1) rfl
theorem fwX8_back_2 : Cond.fieldLink RX8 7 "QuietStairsModel" "s" "[I" ∈ wsX8_back := List.mem_of_getElem? (i := 2) rfl
theorem fwX8_back_3 : Cond.fieldLink RX8 13 "QuietStairsModel" "kept" "[I" ∈ wsX8_back := List.mem_of_getElem? (i := 3) rfl
theorem iwX8_isOwn_X8 : ∀ w ∈ wsX80, w ∈ wsX8_isOwn := fun _ h => List.mem_cons_of_mem _ (List.mem_append_right _ h)
theorem fwX8_isOwn_1 : Cond.fieldLink RX8 7 "QuietStairsModel" "s" "[I" ∈ wsX8_isOwn := List.mem_of_getElem? (i := 1) rfl
theorem iwX8_mayBe_X8 : ∀ w ∈ wsX80, w ∈ wsX8_mayBe := fun _ h => List.mem_cons_of_mem _ (List.mem_append_right _ h)
theorem fwX8_mayBe_1 : Cond.fieldLink RX8 7 "QuietStairsModel" "s" "[I" ∈ wsX8_mayBe := List.mem_of_getElem? (i := 1) rfl
theorem fwX8_mayBe_2 : Cond.fieldLink RX8 32 "QuietStairsModel" "hours" "[I" ∈ wsX8_mayBe := List.mem_of_getElem? (i := 2) rfl
theorem iwX8_fits_X8 : ∀ w ∈ wsX80, w ∈ wsX8_fits := fun _ h => List.mem_cons_of_mem _ (List.mem_append_right _ h)
theorem fwX8_fits_1 : Cond.fieldLink RX8 26 "QuietStairsModel" "tried" "[I" ∈ wsX8_fits := List.mem_of_getElem? (i := 1) rfl
theorem fwX8_fits_2 : Cond.fieldLink RX8 23 "QuietStairsModel" "planned" "[I" ∈ wsX8_fits := List.mem_of_getElem? (i := 2) rfl
theorem fwX8_fits_3 : Cond.fieldLink RX8 16 "QuietStairsModel" "rooms" "I" ∈ wsX8_fits := List.mem_of_getElem? (i := 3) rfl
theorem iwX8_waitsOf_X8 : ∀ w ∈ wsX80, w ∈ wsX8_waitsOf := fun _ h => List.mem_cons_of_mem _ (List.mem_append_right _ h)
theorem fwX8_waitsOf_1 : Cond.fieldLink RX8 7 "QuietStairsModel" "s" "[I" ∈ wsX8_waitsOf := List.mem_of_getElem? (i := 1) rfl
theorem fwX8_waitsOf_2 : Cond.fieldLink RX8 23 "QuietStairsModel" "planned" "[I" ∈ wsX8_waitsOf := List.mem_of_getElem? (i := 2) rfl
theorem fwX8_waitsOf_3 : Cond.fieldLink RX8 26 "QuietStairsModel" "tried" "[I" ∈ wsX8_waitsOf := List.mem_of_getElem? (i := 3) rfl
theorem hd_V_X8_isOwn_3 : yX8_isOwn.cls = RX8 ∧ yX8_isOwn.cls ≠ "java/lang/invoke/MethodHandle" ∧ yX8_isOwn.cls ≠ "java/lang/invoke/VarHandle" ∧ (parseMethodDescriptor yX8_isOwn.desc).map (fun d => d.parameters.length) = some 3 := ⟨rfl, cn_RX8.1, cn_RX8.2, pm__III_Z_3⟩
theorem iwX8_hourFrom_X8 : ∀ w ∈ wsX80, w ∈ wsX8_hourFrom := fun _ h => List.mem_cons_of_mem _ (List.mem_append_right _ h)
theorem fwX8_hourFrom_1 : Cond.fieldLink RX8 32 "QuietStairsModel" "hours" "[I" ∈ wsX8_hourFrom := List.mem_of_getElem? (i := 1) rfl
theorem fwX8_hourFrom_2 : Cond.fieldLink RX8 7 "QuietStairsModel" "s" "[I" ∈ wsX8_hourFrom := List.mem_of_getElem? (i := 2) rfl
theorem pm__IIII_Z_4 : (parseMethodDescriptor "(IIII)Z").map (fun d => d.parameters.length) = some 4 := by decide +kernel
theorem hd_V_X8_mayBe_4 : yX8_mayBe.cls = RX8 ∧ yX8_mayBe.cls ≠ "java/lang/invoke/MethodHandle" ∧ yX8_mayBe.cls ≠ "java/lang/invoke/VarHandle" ∧ (parseMethodDescriptor yX8_mayBe.desc).map (fun d => d.parameters.length) = some 4 := ⟨rfl, cn_RX8.1, cn_RX8.2, pm__IIII_Z_4⟩
theorem iwX8_findHeads_X8 : ∀ w ∈ wsX80, w ∈ wsX8_findHeads := fun _ h => List.mem_cons_of_mem _ (List.mem_append_right _ h)
theorem fwX8_findHeads_1 : Cond.fieldLink RX8 7 "QuietStairsModel" "s" "[I" ∈ wsX8_findHeads := List.mem_of_getElem? (i := 1) rfl
theorem fwX8_findHeads_2 : Cond.fieldLink RX8 20 "QuietStairsModel" "headOf" "[I" ∈ wsX8_findHeads := List.mem_of_getElem? (i := 2) rfl
theorem hd_V_X8_findHeads_0 : yX8_findHeads.cls = RX8 ∧ yX8_findHeads.cls ≠ "java/lang/invoke/MethodHandle" ∧ yX8_findHeads.cls ≠ "java/lang/invoke/VarHandle" ∧ (parseMethodDescriptor yX8_findHeads.desc).map (fun d => d.parameters.length) = some 0 := ⟨rfl, cn_RX8.1, cn_RX8.2, pm___V_0⟩
theorem iwX8_of_X8 : ∀ w ∈ wsX80, w ∈ wsX8_of := fun _ h => List.mem_cons_of_mem _ (List.mem_append_right _ h)
theorem fwX8_of_1 : Cond.fieldLink RX8 20 "QuietStairsModel" "headOf" "[I" ∈ wsX8_of := List.mem_of_getElem? (i := 1) rfl
theorem fwX8_of_2 : Cond.fieldLink RX8 7 "QuietStairsModel" "s" "[I" ∈ wsX8_of := List.mem_of_getElem? (i := 2) rfl
theorem hd_V_X8_joined_1 : yX8_joined.cls = RX8 ∧ yX8_joined.cls ≠ "java/lang/invoke/MethodHandle" ∧ yX8_joined.cls ≠ "java/lang/invoke/VarHandle" ∧ (parseMethodDescriptor yX8_joined.desc).map (fun d => d.parameters.length) = some 1 := ⟨rfl, cn_RX8.1, cn_RX8.2, pm__I_I_1⟩
theorem iwX8_quarrels_X8 : ∀ w ∈ wsX80, w ∈ wsX8_quarrels := fun _ h => List.mem_cons_of_mem _ (List.mem_append_right _ h)
theorem fwX8_quarrels_1 : Cond.fieldLink RX8 7 "QuietStairsModel" "s" "[I" ∈ wsX8_quarrels := List.mem_of_getElem? (i := 1) rfl
theorem fwX8_quarrels_2 : Cond.fieldLink RX8 20 "QuietStairsModel" "headOf" "[I" ∈ wsX8_quarrels := List.mem_of_getElem? (i := 2) rfl
theorem iwX8_many_X8 : ∀ w ∈ wsX80, w ∈ wsX8_many := fun _ h => List.mem_cons_of_mem _ (List.mem_append_right _ h)
theorem fwX8_many_1 : Cond.fieldLink RX8 7 "QuietStairsModel" "s" "[I" ∈ wsX8_many := List.mem_of_getElem? (i := 1) rfl
theorem hd_V_X8_casesThat_1 : yX8_casesThat.cls = RX8 ∧ yX8_casesThat.cls ≠ "java/lang/invoke/MethodHandle" ∧ yX8_casesThat.cls ≠ "java/lang/invoke/VarHandle" ∧ (parseMethodDescriptor yX8_casesThat.desc).map (fun d => d.parameters.length) = some 1 := ⟨rfl, cn_RX8.1, cn_RX8.2, pm__I_I_1⟩
theorem hd_V_X8_quarrels_0 : yX8_quarrels.cls = RX8 ∧ yX8_quarrels.cls ≠ "java/lang/invoke/MethodHandle" ∧ yX8_quarrels.cls ≠ "java/lang/invoke/VarHandle" ∧ (parseMethodDescriptor yX8_quarrels.desc).map (fun d => d.parameters.length) = some 0 := ⟨rfl, cn_RX8.1, cn_RX8.2, pm___I_0⟩
theorem hd_V_X8_termsThat_1 : yX8_termsThat.cls = RX8 ∧ yX8_termsThat.cls ≠ "java/lang/invoke/MethodHandle" ∧ yX8_termsThat.cls ≠ "java/lang/invoke/VarHandle" ∧ (parseMethodDescriptor yX8_termsThat.desc).map (fun d => d.parameters.length) = some 1 := ⟨rfl, cn_RX8.1, cn_RX8.2, pm__I_I_1⟩
theorem pm__IIIII_I_5 : (parseMethodDescriptor "(IIIII)I").map (fun d => d.parameters.length) = some 5 := by decide +kernel
theorem hd_V_X8_next_5 : yX8_next.cls = RX8 ∧ yX8_next.cls ≠ "java/lang/invoke/MethodHandle" ∧ yX8_next.cls ≠ "java/lang/invoke/VarHandle" ∧ (parseMethodDescriptor yX8_next.desc).map (fun d => d.parameters.length) = some 5 := ⟨rfl, cn_RX8.1, cn_RX8.2, pm__IIIII_I_5⟩
theorem hd_V_X8_hourFrom_5 : yX8_hourFrom.cls = RX8 ∧ yX8_hourFrom.cls ≠ "java/lang/invoke/MethodHandle" ∧ yX8_hourFrom.cls ≠ "java/lang/invoke/VarHandle" ∧ (parseMethodDescriptor yX8_hourFrom.desc).map (fun d => d.parameters.length) = some 5 := ⟨rfl, cn_RX8.1, cn_RX8.2, pm__IIIII_I_5⟩
theorem iwX8_makeTable_X8 : ∀ w ∈ wsX80, w ∈ wsX8_makeTable := fun _ h => List.mem_cons_of_mem _ (List.mem_append_right _ h)
theorem fwX8_makeTable_2 : Cond.fieldLink RX8 32 "QuietStairsModel" "hours" "[I" ∈ wsX8_makeTable := List.mem_of_getElem? (i := 2) rfl
theorem fwX8_makeTable_1 : Cond.fieldLink RX8 7 "QuietStairsModel" "s" "[I" ∈ wsX8_makeTable := List.mem_of_getElem? (i := 1) rfl
theorem iwX8_hour_X8 : ∀ w ∈ wsX80, w ∈ wsX8_hour := fun _ h => List.mem_cons_of_mem _ (List.mem_append_right _ h)
theorem fwX8_hour_1 : Cond.fieldLink RX8 7 "QuietStairsModel" "s" "[I" ∈ wsX8_hour := List.mem_of_getElem? (i := 1) rfl
theorem hd_V_X8_makeTable_3 : yX8_makeTable.cls = RX8 ∧ yX8_makeTable.cls ≠ "java/lang/invoke/MethodHandle" ∧ yX8_makeTable.cls ≠ "java/lang/invoke/VarHandle" ∧ (parseMethodDescriptor yX8_makeTable.desc).map (fun d => d.parameters.length) = some 3 := ⟨rfl, cn_RX8.1, cn_RX8.2, pm__III_Z_3⟩
theorem fwX8_hour_2 : Cond.fieldLink RX8 32 "QuietStairsModel" "hours" "[I" ∈ wsX8_hour := List.mem_of_getElem? (i := 2) rfl
theorem iwX8_canHold_X8 : ∀ w ∈ wsX80, w ∈ wsX8_canHold := fun _ h => List.mem_cons_of_mem _ (List.mem_append_right _ h)
theorem fwX8_canHold_1 : Cond.fieldLink RX8 7 "QuietStairsModel" "s" "[I" ∈ wsX8_canHold := List.mem_of_getElem? (i := 1) rfl
theorem iwX8_breaks_X8 : ∀ w ∈ wsX80, w ∈ wsX8_breaks := fun _ h => List.mem_cons_of_mem _ (List.mem_append_right _ h)
theorem fwX8_breaks_1 : Cond.fieldLink RX8 7 "QuietStairsModel" "s" "[I" ∈ wsX8_breaks := List.mem_of_getElem? (i := 1) rfl
theorem iwX8_note_X8 : ∀ w ∈ wsX80, w ∈ wsX8_note := fun _ h => List.mem_cons_of_mem _ (List.mem_append_right _ h)
theorem fwX8_note_1 : Cond.fieldLink RX8 79 "QuietStairsModel" "many" "I" ∈ wsX8_note := List.mem_of_getElem? (i := 1) rfl
theorem hd_V_X8_waitsOf_1 : yX8_waitsOf.cls = RX8 ∧ yX8_waitsOf.cls ≠ "java/lang/invoke/MethodHandle" ∧ yX8_waitsOf.cls ≠ "java/lang/invoke/VarHandle" ∧ (parseMethodDescriptor yX8_waitsOf.desc).map (fun d => d.parameters.length) = some 1 := ⟨rfl, cn_RX8.1, cn_RX8.2, pm__I_I_1⟩
theorem fwX8_note_2 : Cond.fieldLink RX8 85 "QuietStairsModel" "least" "I" ∈ wsX8_note := List.mem_of_getElem? (i := 2) rfl
theorem fwX8_note_3 : Cond.fieldLink RX8 29 "QuietStairsModel" "best" "[I" ∈ wsX8_note := List.mem_of_getElem? (i := 3) rfl
theorem fwX8_note_4 : Cond.fieldLink RX8 26 "QuietStairsModel" "tried" "[I" ∈ wsX8_note := List.mem_of_getElem? (i := 4) rfl
theorem iwX8_makePlan_X8 : ∀ w ∈ wsX80, w ∈ wsX8_makePlan := fun _ h => List.mem_cons_of_mem _ (List.mem_append_right _ h)
theorem fwX8_makePlan_1 : Cond.fieldLink RX8 79 "QuietStairsModel" "many" "I" ∈ wsX8_makePlan := List.mem_of_getElem? (i := 1) rfl
theorem fwX8_makePlan_2 : Cond.fieldLink RX8 7 "QuietStairsModel" "s" "[I" ∈ wsX8_makePlan := List.mem_of_getElem? (i := 2) rfl
theorem fwX8_makePlan_4 : Cond.constant RX8 88 (1000000) ∈ wsX8_makePlan := List.mem_of_getElem? (i := 4) rfl
theorem fwX8_makePlan_5 : Cond.fieldLink RX8 85 "QuietStairsModel" "least" "I" ∈ wsX8_makePlan := List.mem_of_getElem? (i := 5) rfl
theorem fwX8_makePlan_6 : Cond.fieldLink RX8 26 "QuietStairsModel" "tried" "[I" ∈ wsX8_makePlan := List.mem_of_getElem? (i := 6) rfl
theorem hd_V_X8_fits_1 : yX8_fits.cls = RX8 ∧ yX8_fits.cls ≠ "java/lang/invoke/MethodHandle" ∧ yX8_fits.cls ≠ "java/lang/invoke/VarHandle" ∧ (parseMethodDescriptor yX8_fits.desc).map (fun d => d.parameters.length) = some 1 := ⟨rfl, cn_RX8.1, cn_RX8.2, pm__I_Z_1⟩
theorem hd_V_X8_note_0 : yX8_note.cls = RX8 ∧ yX8_note.cls ≠ "java/lang/invoke/MethodHandle" ∧ yX8_note.cls ≠ "java/lang/invoke/VarHandle" ∧ (parseMethodDescriptor yX8_note.desc).map (fun d => d.parameters.length) = some 0 := ⟨rfl, cn_RX8.1, cn_RX8.2, pm___V_0⟩
theorem fwX8_makePlan_3 : Cond.fieldLink RX8 23 "QuietStairsModel" "planned" "[I" ∈ wsX8_makePlan := List.mem_of_getElem? (i := 3) rfl
theorem iwX8_plan_X8 : ∀ w ∈ wsX80, w ∈ wsX8_plan := fun _ h => List.mem_cons_of_mem _ (List.mem_append_right _ h)
theorem fwX8_plan_1 : Cond.fieldLink RX8 7 "QuietStairsModel" "s" "[I" ∈ wsX8_plan := List.mem_of_getElem? (i := 1) rfl
theorem hd_V_X8_makePlan_0 : yX8_makePlan.cls = RX8 ∧ yX8_makePlan.cls ≠ "java/lang/invoke/MethodHandle" ∧ yX8_makePlan.cls ≠ "java/lang/invoke/VarHandle" ∧ (parseMethodDescriptor yX8_makePlan.desc).map (fun d => d.parameters.length) = some 0 := ⟨rfl, cn_RX8.1, cn_RX8.2, pm___V_0⟩
theorem fwX8_plan_2 : Cond.fieldLink RX8 79 "QuietStairsModel" "many" "I" ∈ wsX8_plan := List.mem_of_getElem? (i := 2) rfl
theorem fwX8_plan_3 : Cond.fieldLink RX8 23 "QuietStairsModel" "planned" "[I" ∈ wsX8_plan := List.mem_of_getElem? (i := 3) rfl
theorem fwX8_plan_4 : Cond.fieldLink RX8 29 "QuietStairsModel" "best" "[I" ∈ wsX8_plan := List.mem_of_getElem? (i := 4) rfl
theorem iwX8_waits_X8 : ∀ w ∈ wsX80, w ∈ wsX8_waits := fun _ h => List.mem_cons_of_mem _ (List.mem_append_right _ h)
theorem fwX8_waits_1 : Cond.fieldLink RX8 85 "QuietStairsModel" "least" "I" ∈ wsX8_waits := List.mem_of_getElem? (i := 1) rfl
theorem fwX8_init_1 : Cond.methodLink RX8 1 objectInit ∈ wsX8_init := List.mem_of_getElem? (i := 1) rfl
theorem fwX8_init_2 : Cond.instanceMethod objectInit ∈ wsX8_init := List.mem_of_getElem? (i := 2) rfl
theorem fwX8_init_3 : Cond.code objectInit ⟨#[0xb1]⟩ 1 none ∈ wsX8_init := List.mem_of_getElem? (i := 3) rfl
theorem fwX8_init_4 : Cond.arrayClass .int ∈ wsX8_init := List.mem_of_getElem? (i := 4) rfl
theorem iwX8_init_X8 : ∀ w ∈ wsX80, w ∈ wsX8_init := fun _ h => List.mem_cons_of_mem _ (List.mem_append_right _ h)
theorem fwX8_init_5 : Cond.fieldLink RX8 7 "QuietStairsModel" "s" "[I" ∈ wsX8_init := List.mem_of_getElem? (i := 5) rfl
theorem fwX8_init_6 : Cond.fieldLink RX8 13 "QuietStairsModel" "kept" "[I" ∈ wsX8_init := List.mem_of_getElem? (i := 6) rfl
theorem fwX8_init_7 : Cond.fieldLink RX8 16 "QuietStairsModel" "rooms" "I" ∈ wsX8_init := List.mem_of_getElem? (i := 7) rfl
theorem fwX8_init_8 : Cond.fieldLink RX8 20 "QuietStairsModel" "headOf" "[I" ∈ wsX8_init := List.mem_of_getElem? (i := 8) rfl
theorem fwX8_init_9 : Cond.fieldLink RX8 23 "QuietStairsModel" "planned" "[I" ∈ wsX8_init := List.mem_of_getElem? (i := 9) rfl
theorem fwX8_init_10 : Cond.fieldLink RX8 26 "QuietStairsModel" "tried" "[I" ∈ wsX8_init := List.mem_of_getElem? (i := 10) rfl
theorem fwX8_init_11 : Cond.fieldLink RX8 29 "QuietStairsModel" "best" "[I" ∈ wsX8_init := List.mem_of_getElem? (i := 11) rfl
theorem fwX8_init_12 : Cond.fieldLink RX8 32 "QuietStairsModel" "hours" "[I" ∈ wsX8_init := List.mem_of_getElem? (i := 12) rfl
theorem iwX8_close_X8 : ∀ w ∈ wsX80, w ∈ wsX8_close := fun _ h => List.mem_cons_of_mem _ (List.mem_append_right _ h)
theorem fwX8_close_1 : Cond.fieldLink RX8 7 "QuietStairsModel" "s" "[I" ∈ wsX8_close := List.mem_of_getElem? (i := 1) rfl
theorem iwX8_weight_X8 : ∀ w ∈ wsX80, w ∈ wsX8_weight := fun _ h => List.mem_cons_of_mem _ (List.mem_append_right _ h)
theorem fwX8_weight_1 : Cond.fieldLink RX8 7 "QuietStairsModel" "s" "[I" ∈ wsX8_weight := List.mem_of_getElem? (i := 1) rfl
theorem iwX8_strike_X8 : ∀ w ∈ wsX80, w ∈ wsX8_strike := fun _ h => List.mem_cons_of_mem _ (List.mem_append_right _ h)
theorem fwX8_strike_1 : Cond.fieldLink RX8 7 "QuietStairsModel" "s" "[I" ∈ wsX8_strike := List.mem_of_getElem? (i := 1) rfl
theorem iwX8_log_X8 : ∀ w ∈ wsX80, w ∈ wsX8_log := fun _ h => List.mem_cons_of_mem _ (List.mem_append_right _ h)
theorem fwX8_log_1 : Cond.fieldLink RX8 7 "QuietStairsModel" "s" "[I" ∈ wsX8_log := List.mem_of_getElem? (i := 1) rfl
theorem hd_V_X8_isParty_1 : yX8_isParty.cls = RX8 ∧ yX8_isParty.cls ≠ "java/lang/invoke/MethodHandle" ∧ yX8_isParty.cls ≠ "java/lang/invoke/VarHandle" ∧ (parseMethodDescriptor yX8_isParty.desc).map (fun d => d.parameters.length) = some 1 := ⟨rfl, cn_RX8.1, cn_RX8.2, pm__I_Z_1⟩
theorem iwX8_kin_X8 : ∀ w ∈ wsX80, w ∈ wsX8_kin := fun _ h => List.mem_cons_of_mem _ (List.mem_append_right _ h)
theorem fwX8_kin_1 : Cond.fieldLink RX8 7 "QuietStairsModel" "s" "[I" ∈ wsX8_kin := List.mem_of_getElem? (i := 1) rfl
theorem iwX8_mediator_X8 : ∀ w ∈ wsX80, w ∈ wsX8_mediator := fun _ h => List.mem_cons_of_mem _ (List.mem_append_right _ h)
theorem fwX8_mediator_1 : Cond.fieldLink RX8 7 "QuietStairsModel" "s" "[I" ∈ wsX8_mediator := List.mem_of_getElem? (i := 1) rfl
theorem iwX8_term_X8 : ∀ w ∈ wsX80, w ∈ wsX8_term := fun _ h => List.mem_cons_of_mem _ (List.mem_append_right _ h)
theorem fwX8_term_1 : Cond.fieldLink RX8 7 "QuietStairsModel" "s" "[I" ∈ wsX8_term := List.mem_of_getElem? (i := 1) rfl
theorem iwX8_offer_X8 : ∀ w ∈ wsX80, w ∈ wsX8_offer := fun _ h => List.mem_cons_of_mem _ (List.mem_append_right _ h)
theorem fwX8_offer_1 : Cond.fieldLink RX8 7 "QuietStairsModel" "s" "[I" ∈ wsX8_offer := List.mem_of_getElem? (i := 1) rfl
theorem iwX7_close_X7 : ∀ w ∈ wsX70, w ∈ wsX7_close := fun _ h => List.mem_cons_of_mem _ (List.mem_append_left _ (List.mem_append_left _ (List.mem_append_right _ h)))
theorem fwX7_close_1 : Cond.fieldLink RX7 12 "QuietStairs" "now" "LQuietStairs$House;" ∈ wsX7_close := List.mem_of_getElem? (i := 1) rfl
theorem iwX7_close_X1 : ∀ w ∈ wsX10, w ∈ wsX7_close := fun _ h => List.mem_cons_of_mem _ (List.mem_append_left _ (List.mem_append_right _ h))
theorem fwX7_close_2 : Cond.fieldLink RX7 86 "QuietStairs$House" "cases" "[LQuietStairs$Case;" ∈ wsX7_close := List.mem_of_getElem? (i := 2) rfl
theorem iwX7_close_X0 : ∀ w ∈ wsX00, w ∈ wsX7_close := fun _ h => List.mem_cons_of_mem _ (List.mem_append_right _ h)
theorem fwX7_close_3 : Cond.fieldLink RX7 99 "QuietStairs$Case" "state" "I" ∈ wsX7_close := List.mem_of_getElem? (i := 3) rfl
theorem iwX7_weight_X7 : ∀ w ∈ wsX70, w ∈ wsX7_weight := fun _ h => List.mem_cons_of_mem _ (List.mem_append_left _ (List.mem_append_left _ (List.mem_append_right _ h)))
theorem fwX7_weight_1 : Cond.fieldLink RX7 12 "QuietStairs" "now" "LQuietStairs$House;" ∈ wsX7_weight := List.mem_of_getElem? (i := 1) rfl
theorem iwX7_weight_X1 : ∀ w ∈ wsX10, w ∈ wsX7_weight := fun _ h => List.mem_cons_of_mem _ (List.mem_append_left _ (List.mem_append_right _ h))
theorem fwX7_weight_2 : Cond.fieldLink RX7 86 "QuietStairs$House" "cases" "[LQuietStairs$Case;" ∈ wsX7_weight := List.mem_of_getElem? (i := 2) rfl
theorem iwX7_weight_X0 : ∀ w ∈ wsX00, w ∈ wsX7_weight := fun _ h => List.mem_cons_of_mem _ (List.mem_append_right _ h)
theorem fwX7_weight_3 : Cond.fieldLink RX7 102 "QuietStairs$Case" "weight" "I" ∈ wsX7_weight := List.mem_of_getElem? (i := 3) rfl
theorem iwX7_strike_X7 : ∀ w ∈ wsX70, w ∈ wsX7_strike := fun _ h => List.mem_cons_of_mem _ (List.mem_append_left _ (List.mem_append_left _ (List.mem_append_right _ h)))
theorem fwX7_strike_1 : Cond.fieldLink RX7 12 "QuietStairs" "now" "LQuietStairs$House;" ∈ wsX7_strike := List.mem_of_getElem? (i := 1) rfl
theorem iwX7_strike_X1 : ∀ w ∈ wsX10, w ∈ wsX7_strike := fun _ h => List.mem_cons_of_mem _ (List.mem_append_left _ (List.mem_append_right _ h))
theorem fwX7_strike_2 : Cond.fieldLink RX7 86 "QuietStairs$House" "cases" "[LQuietStairs$Case;" ∈ wsX7_strike := List.mem_of_getElem? (i := 2) rfl
theorem iwX7_strike_X0 : ∀ w ∈ wsX00, w ∈ wsX7_strike := fun _ h => List.mem_cons_of_mem _ (List.mem_append_right _ h)
theorem fwX7_strike_3 : Cond.fieldLink RX7 169 "QuietStairs$Case" "termCount" "I" ∈ wsX7_strike := List.mem_of_getElem? (i := 3) rfl
theorem hd_S_X7_isHour_1 : yX7_isHour.cls = RX7 ∧ yX7_isHour.cls ≠ "java/lang/invoke/MethodHandle" ∧ yX7_isHour.cls ≠ "java/lang/invoke/VarHandle" ∧ (parseMethodDescriptor yX7_isHour.desc).map (fun d => d.parameters.length) = some 1 := ⟨rfl, cn_RX7.1, cn_RX7.2, pm__I_Z_1⟩
theorem iwX7_log_X7 : ∀ w ∈ wsX70, w ∈ wsX7_log := fun _ h => List.mem_cons_of_mem _ (List.mem_append_left _ (List.mem_append_left _ (List.mem_append_right _ h)))
theorem fwX7_log_1 : Cond.fieldLink RX7 12 "QuietStairs" "now" "LQuietStairs$House;" ∈ wsX7_log := List.mem_of_getElem? (i := 1) rfl
theorem iwX7_log_X1 : ∀ w ∈ wsX10, w ∈ wsX7_log := fun _ h => List.mem_cons_of_mem _ (List.mem_append_left _ (List.mem_append_right _ h))
theorem fwX7_log_2 : Cond.fieldLink RX7 86 "QuietStairs$House" "cases" "[LQuietStairs$Case;" ∈ wsX7_log := List.mem_of_getElem? (i := 2) rfl
theorem iwX7_log_X0 : ∀ w ∈ wsX00, w ∈ wsX7_log := fun _ h => List.mem_cons_of_mem _ (List.mem_append_right _ h)
theorem fwX7_log_3 : Cond.fieldLink RX7 207 "QuietStairs$Case" "logs" "[[I" ∈ wsX7_log := List.mem_of_getElem? (i := 3) rfl
theorem hd_V_X7_isMediator_1 : yX7_isMediator.cls = RX7 ∧ yX7_isMediator.cls ≠ "java/lang/invoke/MethodHandle" ∧ yX7_isMediator.cls ≠ "java/lang/invoke/VarHandle" ∧ (parseMethodDescriptor yX7_isMediator.desc).map (fun d => d.parameters.length) = some 1 := ⟨rfl, cn_RX7.1, cn_RX7.2, pm__I_Z_1⟩
theorem hd_V_X7_isParty_1 : yX7_isParty.cls = RX7 ∧ yX7_isParty.cls ≠ "java/lang/invoke/MethodHandle" ∧ yX7_isParty.cls ≠ "java/lang/invoke/VarHandle" ∧ (parseMethodDescriptor yX7_isParty.desc).map (fun d => d.parameters.length) = some 1 := ⟨rfl, cn_RX7.1, cn_RX7.2, pm__I_Z_1⟩
theorem iwX7_kin_X7 : ∀ w ∈ wsX70, w ∈ wsX7_kin := fun _ h => List.mem_cons_of_mem _ (List.mem_append_left _ (List.mem_append_left _ (List.mem_append_right _ h)))
theorem fwX7_kin_1 : Cond.fieldLink RX7 12 "QuietStairs" "now" "LQuietStairs$House;" ∈ wsX7_kin := List.mem_of_getElem? (i := 1) rfl
theorem iwX7_kin_X1 : ∀ w ∈ wsX10, w ∈ wsX7_kin := fun _ h => List.mem_cons_of_mem _ (List.mem_append_left _ (List.mem_append_right _ h))
theorem fwX7_kin_2 : Cond.fieldLink RX7 59 "QuietStairs$House" "mediators" "[LQuietStairs$Mediator;" ∈ wsX7_kin := List.mem_of_getElem? (i := 2) rfl
theorem iwX7_kin_X2 : ∀ w ∈ wsX20, w ∈ wsX7_kin := fun _ h => List.mem_cons_of_mem _ (List.mem_append_right _ h)
theorem fwX7_kin_3 : Cond.fieldLink RX7 69 "QuietStairs$Mediator" "kinBits" "I" ∈ wsX7_kin := List.mem_of_getElem? (i := 3) rfl
theorem hd_S_X7_hasBit_2 : yX7_hasBit.cls = RX7 ∧ yX7_hasBit.cls ≠ "java/lang/invoke/MethodHandle" ∧ yX7_hasBit.cls ≠ "java/lang/invoke/VarHandle" ∧ (parseMethodDescriptor yX7_hasBit.desc).map (fun d => d.parameters.length) = some 2 := ⟨rfl, cn_RX7.1, cn_RX7.2, pm__II_Z_2⟩
theorem iwX7_party_X7 : ∀ w ∈ wsX70, w ∈ wsX7_party := fun _ h => List.mem_cons_of_mem _ (List.mem_append_left _ (List.mem_append_left _ (List.mem_append_right _ h)))
theorem fwX7_party_1 : Cond.fieldLink RX7 12 "QuietStairs" "now" "LQuietStairs$House;" ∈ wsX7_party := List.mem_of_getElem? (i := 1) rfl
theorem iwX7_party_X1 : ∀ w ∈ wsX10, w ∈ wsX7_party := fun _ h => List.mem_cons_of_mem _ (List.mem_append_left _ (List.mem_append_right _ h))
theorem fwX7_party_2 : Cond.fieldLink RX7 41 "QuietStairs$House" "partyCount" "I" ∈ wsX7_party := List.mem_of_getElem? (i := 2) rfl
theorem fwX7_party_3 : Cond.fieldLink RX7 44 "QuietStairs$House" "parties" "[LQuietStairs$Party;" ∈ wsX7_party := List.mem_of_getElem? (i := 3) rfl
theorem iwX7_party_X3 : ∀ w ∈ wsX30, w ∈ wsX7_party := fun _ h => List.mem_cons_of_mem _ (List.mem_append_right _ h)
theorem fwX7_party_4 : Cond.fieldLink RX7 48 "QuietStairs$Party" "floor" "I" ∈ wsX7_party := List.mem_of_getElem? (i := 4) rfl
theorem fwX7_party_5 : Cond.fieldLink RX7 53 "QuietStairs$Party" "tongue" "I" ∈ wsX7_party := List.mem_of_getElem? (i := 5) rfl
theorem iwX7_mediator_X7 : ∀ w ∈ wsX70, w ∈ wsX7_mediator := fun _ h => List.mem_cons_of_mem _ (List.mem_append_left _ (List.mem_append_left _ (List.mem_append_right _ h)))
theorem fwX7_mediator_1 : Cond.fieldLink RX7 12 "QuietStairs" "now" "LQuietStairs$House;" ∈ wsX7_mediator := List.mem_of_getElem? (i := 1) rfl
theorem iwX7_mediator_X1 : ∀ w ∈ wsX10, w ∈ wsX7_mediator := fun _ h => List.mem_cons_of_mem _ (List.mem_append_left _ (List.mem_append_right _ h))
theorem fwX7_mediator_2 : Cond.fieldLink RX7 56 "QuietStairs$House" "mediatorCount" "I" ∈ wsX7_mediator := List.mem_of_getElem? (i := 2) rfl
theorem fwX7_mediator_3 : Cond.fieldLink RX7 59 "QuietStairs$House" "mediators" "[LQuietStairs$Mediator;" ∈ wsX7_mediator := List.mem_of_getElem? (i := 3) rfl
theorem iwX7_mediator_X2 : ∀ w ∈ wsX20, w ∈ wsX7_mediator := fun _ h => List.mem_cons_of_mem _ (List.mem_append_right _ h)
theorem fwX7_mediator_4 : Cond.fieldLink RX7 63 "QuietStairs$Mediator" "floor" "I" ∈ wsX7_mediator := List.mem_of_getElem? (i := 4) rfl
theorem fwX7_mediator_5 : Cond.fieldLink RX7 66 "QuietStairs$Mediator" "tongues" "I" ∈ wsX7_mediator := List.mem_of_getElem? (i := 5) rfl
theorem fwX7_mediator_6 : Cond.fieldLink RX7 69 "QuietStairs$Mediator" "kinBits" "I" ∈ wsX7_mediator := List.mem_of_getElem? (i := 6) rfl
theorem iwX7_rooms_X7 : ∀ w ∈ wsX70, w ∈ wsX7_rooms := fun _ h => List.mem_cons_of_mem _ (List.mem_append_right _ h)
theorem fwX7_rooms_1 : Cond.fieldLink RX7 33 "QuietStairs" "roomCount" "I" ∈ wsX7_rooms := List.mem_of_getElem? (i := 1) rfl
theorem iwX7_term_X7 : ∀ w ∈ wsX70, w ∈ wsX7_term := fun _ h => List.mem_cons_of_mem _ (List.mem_append_left _ (List.mem_append_left _ (List.mem_append_left _ (List.mem_append_right _ h))))
theorem fwX7_term_1 : Cond.fieldLink RX7 12 "QuietStairs" "now" "LQuietStairs$House;" ∈ wsX7_term := List.mem_of_getElem? (i := 1) rfl
theorem iwX7_term_X1 : ∀ w ∈ wsX10, w ∈ wsX7_term := fun _ h => List.mem_cons_of_mem _ (List.mem_append_left _ (List.mem_append_left _ (List.mem_append_right _ h)))
theorem fwX7_term_2 : Cond.fieldLink RX7 86 "QuietStairs$House" "cases" "[LQuietStairs$Case;" ∈ wsX7_term := List.mem_of_getElem? (i := 2) rfl
theorem iwX7_term_X0 : ∀ w ∈ wsX00, w ∈ wsX7_term := fun _ h => List.mem_cons_of_mem _ (List.mem_append_left _ (List.mem_append_right _ h))
theorem fwX7_term_3 : Cond.fieldLink RX7 99 "QuietStairs$Case" "state" "I" ∈ wsX7_term := List.mem_of_getElem? (i := 3) rfl
theorem fwX7_term_4 : Cond.fieldLink RX7 169 "QuietStairs$Case" "termCount" "I" ∈ wsX7_term := List.mem_of_getElem? (i := 4) rfl
theorem fwX7_term_5 : Cond.fieldLink RX7 172 "QuietStairs$Case" "terms" "[LQuietStairs$Term;" ∈ wsX7_term := List.mem_of_getElem? (i := 5) rfl
theorem iwX7_term_X6 : ∀ w ∈ wsX60, w ∈ wsX7_term := fun _ h => List.mem_cons_of_mem _ (List.mem_append_right _ h)
theorem fwX7_term_6 : Cond.fieldLink RX7 176 "QuietStairs$Term" "side" "I" ∈ wsX7_term := List.mem_of_getElem? (i := 6) rfl
theorem fwX7_term_7 : Cond.fieldLink RX7 181 "QuietStairs$Term" "must" "Z" ∈ wsX7_term := List.mem_of_getElem? (i := 7) rfl
theorem fwX7_term_8 : Cond.fieldLink RX7 185 "QuietStairs$Term" "act" "I" ∈ wsX7_term := List.mem_of_getElem? (i := 8) rfl
theorem fwX7_term_9 : Cond.fieldLink RX7 188 "QuietStairs$Term" "first" "I" ∈ wsX7_term := List.mem_of_getElem? (i := 9) rfl
theorem fwX7_term_10 : Cond.fieldLink RX7 191 "QuietStairs$Term" "last" "I" ∈ wsX7_term := List.mem_of_getElem? (i := 10) rfl
theorem iwX7_mark_X7 : ∀ w ∈ wsX70, w ∈ wsX7_mark := fun _ h => List.mem_cons_of_mem _ (List.mem_append_left _ (List.mem_append_left _ (List.mem_append_right _ h)))
theorem fwX7_mark_1 : Cond.fieldLink RX7 12 "QuietStairs" "now" "LQuietStairs$House;" ∈ wsX7_mark := List.mem_of_getElem? (i := 1) rfl
theorem iwX7_mark_X1 : ∀ w ∈ wsX10, w ∈ wsX7_mark := fun _ h => List.mem_cons_of_mem _ (List.mem_append_left _ (List.mem_append_right _ h))
theorem fwX7_mark_2 : Cond.fieldLink RX7 86 "QuietStairs$House" "cases" "[LQuietStairs$Case;" ∈ wsX7_mark := List.mem_of_getElem? (i := 2) rfl
theorem iwX7_mark_X0 : ∀ w ∈ wsX00, w ∈ wsX7_mark := fun _ h => List.mem_cons_of_mem _ (List.mem_append_right _ h)
theorem fwX7_mark_3 : Cond.fieldLink RX7 105 "QuietStairs$Case" "markedBits" "I" ∈ wsX7_mark := List.mem_of_getElem? (i := 3) rfl
theorem fwX7_mark_4 : Cond.fieldLink RX7 108 "QuietStairs$House" "markCount" "I" ∈ wsX7_mark := List.mem_of_getElem? (i := 4) rfl
theorem iwX0_endRound_X0 : ∀ w ∈ wsX00, w ∈ wsX0_endRound := fun _ h => List.mem_cons_of_mem _ (List.mem_append_right _ h)
theorem fwX0_endRound_1 : Cond.fieldLink RX0 15 "QuietStairs$Case" "box" "[I" ∈ wsX0_endRound := List.mem_of_getElem? (i := 1) rfl
theorem fwX0_endRound_2 : Cond.fieldLink RX0 40 "QuietStairs$Case" "roundsOver" "I" ∈ wsX0_endRound := List.mem_of_getElem? (i := 2) rfl
theorem fwX0_endRound_3 : Cond.fieldLink RX0 20 "QuietStairs$Case" "offers" "[[I" ∈ wsX0_endRound := List.mem_of_getElem? (i := 3) rfl
theorem fwX0_endRound_4 : Cond.fieldLink RX0 33 "QuietStairs$Case" "state" "I" ∈ wsX0_endRound := List.mem_of_getElem? (i := 4) rfl
theorem fwX0_endRound_5 : Cond.fieldLink RX0 37 "QuietStairs$Case" "sum" "I" ∈ wsX0_endRound := List.mem_of_getElem? (i := 5) rfl
theorem iwX7_offer_X7 : ∀ w ∈ wsX70, w ∈ wsX7_offer := fun _ h => List.mem_cons_of_mem _ (List.mem_append_left _ (List.mem_append_left _ (List.mem_append_right _ h)))
theorem fwX7_offer_1 : Cond.fieldLink RX7 12 "QuietStairs" "now" "LQuietStairs$House;" ∈ wsX7_offer := List.mem_of_getElem? (i := 1) rfl
theorem iwX7_offer_X1 : ∀ w ∈ wsX10, w ∈ wsX7_offer := fun _ h => List.mem_cons_of_mem _ (List.mem_append_left _ (List.mem_append_right _ h))
theorem fwX7_offer_2 : Cond.fieldLink RX7 86 "QuietStairs$House" "cases" "[LQuietStairs$Case;" ∈ wsX7_offer := List.mem_of_getElem? (i := 2) rfl
theorem iwX7_offer_X0 : ∀ w ∈ wsX00, w ∈ wsX7_offer := fun _ h => List.mem_cons_of_mem _ (List.mem_append_right _ h)
theorem fwX7_offer_3 : Cond.fieldLink RX7 99 "QuietStairs$Case" "state" "I" ∈ wsX7_offer := List.mem_of_getElem? (i := 3) rfl
theorem fwX7_offer_4 : Cond.fieldLink RX7 135 "QuietStairs$Case" "box" "[I" ∈ wsX7_offer := List.mem_of_getElem? (i := 4) rfl
theorem fwX7_offer_5 : Cond.fieldLink RX7 117 "QuietStairs$Case" "roundsOver" "I" ∈ wsX7_offer := List.mem_of_getElem? (i := 5) rfl
theorem hd_V_X0_endRound_0 : yX0_endRound.cls = RX0 ∧ yX0_endRound.cls ≠ "java/lang/invoke/MethodHandle" ∧ yX0_endRound.cls ≠ "java/lang/invoke/VarHandle" ∧ (parseMethodDescriptor yX0_endRound.desc).map (fun d => d.parameters.length) = some 0 := ⟨rfl, cn_RX0.1, cn_RX0.2, pm___Z_0⟩
theorem iwX8_open_X8 : ∀ w ∈ wsX80, w ∈ wsX8_open := fun _ h => List.mem_cons_of_mem _ (List.mem_append_right _ h)
theorem fwX8_open_1 : Cond.fieldLink RX8 7 "QuietStairsModel" "s" "[I" ∈ wsX8_open := List.mem_of_getElem? (i := 1) rfl
theorem iwX8_party_X8 : ∀ w ∈ wsX80, w ∈ wsX8_party := fun _ h => List.mem_cons_of_mem _ (List.mem_append_right _ h)
theorem fwX8_party_1 : Cond.fieldLink RX8 7 "QuietStairsModel" "s" "[I" ∈ wsX8_party := List.mem_of_getElem? (i := 1) rfl
theorem iwX8_mark_X8 : ∀ w ∈ wsX80, w ∈ wsX8_mark := fun _ h => List.mem_cons_of_mem _ (List.mem_append_right _ h)
theorem fwX8_mark_1 : Cond.fieldLink RX8 7 "QuietStairsModel" "s" "[I" ∈ wsX8_mark := List.mem_of_getElem? (i := 1) rfl
theorem iwX0_begin_X0 : ∀ w ∈ wsX00, w ∈ wsX0_begin := fun _ h => List.mem_cons_of_mem _ (List.mem_append_right _ h)
theorem fwX0_begin_1 : Cond.fieldLink RX0 33 "QuietStairs$Case" "state" "I" ∈ wsX0_begin := List.mem_of_getElem? (i := 1) rfl
theorem fwX0_begin_2 : Cond.fieldLink RX0 37 "QuietStairs$Case" "sum" "I" ∈ wsX0_begin := List.mem_of_getElem? (i := 2) rfl
theorem fwX0_begin_3 : Cond.fieldLink RX0 40 "QuietStairs$Case" "roundsOver" "I" ∈ wsX0_begin := List.mem_of_getElem? (i := 3) rfl
theorem fwX0_begin_4 : Cond.fieldLink RX0 43 "QuietStairs$Case" "weight" "I" ∈ wsX0_begin := List.mem_of_getElem? (i := 4) rfl
theorem fwX0_begin_5 : Cond.fieldLink RX0 46 "QuietStairs$Case" "markedBits" "I" ∈ wsX0_begin := List.mem_of_getElem? (i := 5) rfl
theorem fwX0_begin_6 : Cond.fieldLink RX0 49 "QuietStairs$Case" "termCount" "I" ∈ wsX0_begin := List.mem_of_getElem? (i := 6) rfl
theorem fwX0_begin_7 : Cond.fieldLink RX0 9 "QuietStairs$Case" "parties" "[I" ∈ wsX0_begin := List.mem_of_getElem? (i := 7) rfl
theorem fwX0_begin_8 : Cond.fieldLink RX0 15 "QuietStairs$Case" "box" "[I" ∈ wsX0_begin := List.mem_of_getElem? (i := 8) rfl
theorem fwX0_begin_9 : Cond.fieldLink RX0 23 "QuietStairs$Case" "logs" "[[I" ∈ wsX0_begin := List.mem_of_getElem? (i := 9) rfl
theorem iwX7_open_X7 : ∀ w ∈ wsX70, w ∈ wsX7_open := fun _ h => List.mem_cons_of_mem _ (List.mem_append_left _ (List.mem_append_left _ (List.mem_append_right _ h)))
theorem fwX7_open_1 : Cond.fieldLink RX7 12 "QuietStairs" "now" "LQuietStairs$House;" ∈ wsX7_open := List.mem_of_getElem? (i := 1) rfl
theorem iwX7_open_X1 : ∀ w ∈ wsX10, w ∈ wsX7_open := fun _ h => List.mem_cons_of_mem _ (List.mem_append_left _ (List.mem_append_right _ h))
theorem fwX7_open_2 : Cond.fieldLink RX7 83 "QuietStairs$House" "caseCount" "I" ∈ wsX7_open := List.mem_of_getElem? (i := 2) rfl
theorem fwX7_open_3 : Cond.fieldLink RX7 86 "QuietStairs$House" "cases" "[LQuietStairs$Case;" ∈ wsX7_open := List.mem_of_getElem? (i := 3) rfl
theorem hd_V_X0_begin_2 : yX0_begin.cls = RX0 ∧ yX0_begin.cls ≠ "java/lang/invoke/MethodHandle" ∧ yX0_begin.cls ≠ "java/lang/invoke/VarHandle" ∧ (parseMethodDescriptor yX0_begin.desc).map (fun d => d.parameters.length) = some 2 := ⟨rfl, cn_RX0.1, cn_RX0.2, pm__II_V_2⟩
theorem iwX3_copyFrom_X3 : ∀ w ∈ wsX30, w ∈ wsX3_copyFrom := fun _ h => List.mem_cons_of_mem _ (List.mem_append_right _ h)
theorem fwX3_copyFrom_1 : Cond.fieldLink RX3 7 "QuietStairs$Party" "floor" "I" ∈ wsX3_copyFrom := List.mem_of_getElem? (i := 1) rfl
theorem fwX3_copyFrom_2 : Cond.fieldLink RX3 13 "QuietStairs$Party" "tongue" "I" ∈ wsX3_copyFrom := List.mem_of_getElem? (i := 2) rfl
theorem iwX2_copyFrom_X2 : ∀ w ∈ wsX20, w ∈ wsX2_copyFrom := fun _ h => List.mem_cons_of_mem _ (List.mem_append_right _ h)
theorem fwX2_copyFrom_1 : Cond.fieldLink RX2 7 "QuietStairs$Mediator" "floor" "I" ∈ wsX2_copyFrom := List.mem_of_getElem? (i := 1) rfl
theorem fwX2_copyFrom_2 : Cond.fieldLink RX2 13 "QuietStairs$Mediator" "tongues" "I" ∈ wsX2_copyFrom := List.mem_of_getElem? (i := 2) rfl
theorem fwX2_copyFrom_3 : Cond.fieldLink RX2 16 "QuietStairs$Mediator" "kinBits" "I" ∈ wsX2_copyFrom := List.mem_of_getElem? (i := 3) rfl
theorem iwX6_copyFrom_X6 : ∀ w ∈ wsX60, w ∈ wsX6_copyFrom := fun _ h => List.mem_cons_of_mem _ (List.mem_append_right _ h)
theorem fwX6_copyFrom_1 : Cond.fieldLink RX6 16 "QuietStairs$Term" "side" "I" ∈ wsX6_copyFrom := List.mem_of_getElem? (i := 1) rfl
theorem fwX6_copyFrom_2 : Cond.fieldLink RX6 19 "QuietStairs$Term" "must" "Z" ∈ wsX6_copyFrom := List.mem_of_getElem? (i := 2) rfl
theorem fwX6_copyFrom_3 : Cond.fieldLink RX6 23 "QuietStairs$Term" "act" "I" ∈ wsX6_copyFrom := List.mem_of_getElem? (i := 3) rfl
theorem fwX6_copyFrom_4 : Cond.fieldLink RX6 13 "QuietStairs$Term" "first" "I" ∈ wsX6_copyFrom := List.mem_of_getElem? (i := 4) rfl
theorem fwX6_copyFrom_5 : Cond.fieldLink RX6 7 "QuietStairs$Term" "last" "I" ∈ wsX6_copyFrom := List.mem_of_getElem? (i := 5) rfl
theorem iwX0_copyFrom_X0 : ∀ w ∈ wsX00, w ∈ wsX0_copyFrom := fun _ h => List.mem_cons_of_mem _ (List.mem_append_left _ (List.mem_append_right _ h))
theorem fwX0_copyFrom_1 : Cond.fieldLink RX0 33 "QuietStairs$Case" "state" "I" ∈ wsX0_copyFrom := List.mem_of_getElem? (i := 1) rfl
theorem fwX0_copyFrom_2 : Cond.fieldLink RX0 37 "QuietStairs$Case" "sum" "I" ∈ wsX0_copyFrom := List.mem_of_getElem? (i := 2) rfl
theorem fwX0_copyFrom_3 : Cond.fieldLink RX0 40 "QuietStairs$Case" "roundsOver" "I" ∈ wsX0_copyFrom := List.mem_of_getElem? (i := 3) rfl
theorem fwX0_copyFrom_4 : Cond.fieldLink RX0 43 "QuietStairs$Case" "weight" "I" ∈ wsX0_copyFrom := List.mem_of_getElem? (i := 4) rfl
theorem fwX0_copyFrom_5 : Cond.fieldLink RX0 46 "QuietStairs$Case" "markedBits" "I" ∈ wsX0_copyFrom := List.mem_of_getElem? (i := 5) rfl
theorem fwX0_copyFrom_6 : Cond.fieldLink RX0 49 "QuietStairs$Case" "termCount" "I" ∈ wsX0_copyFrom := List.mem_of_getElem? (i := 6) rfl
theorem fwX0_copyFrom_7 : Cond.fieldLink RX0 9 "QuietStairs$Case" "parties" "[I" ∈ wsX0_copyFrom := List.mem_of_getElem? (i := 7) rfl
theorem fwX0_copyFrom_8 : Cond.fieldLink RX0 15 "QuietStairs$Case" "box" "[I" ∈ wsX0_copyFrom := List.mem_of_getElem? (i := 8) rfl
theorem fwX0_copyFrom_9 : Cond.fieldLink RX0 20 "QuietStairs$Case" "offers" "[[I" ∈ wsX0_copyFrom := List.mem_of_getElem? (i := 9) rfl
theorem fwX0_copyFrom_10 : Cond.methodLink RX0 81 arraycopyName ∈ wsX0_copyFrom := List.mem_of_getElem? (i := 10) rfl
theorem fwX0_copyFrom_11 : Cond.native arraycopyName ∈ wsX0_copyFrom := List.mem_of_getElem? (i := 11) rfl
theorem fwX0_copyFrom_12 : Cond.static arraycopyName ∈ wsX0_copyFrom := List.mem_of_getElem? (i := 12) rfl
theorem fwX0_copyFrom_13 : Cond.initialized "java/lang/System" ∈ wsX0_copyFrom := List.mem_of_getElem? (i := 13) rfl
theorem fwX0_copyFrom_14 : Cond.fieldLink RX0 23 "QuietStairs$Case" "logs" "[[I" ∈ wsX0_copyFrom := List.mem_of_getElem? (i := 14) rfl
theorem fwX0_copyFrom_15 : Cond.fieldLink RX0 28 "QuietStairs$Case" "terms" "[LQuietStairs$Term;" ∈ wsX0_copyFrom := List.mem_of_getElem? (i := 15) rfl
theorem pm__LQuietStairs_Term__V_1 : (parseMethodDescriptor "(LQuietStairs$Term;)V").map (fun d => d.parameters.length) = some 1 := by decide +kernel
theorem hd_V_X6_copyFrom_1 : yX6_copyFrom.cls = RX6 ∧ yX6_copyFrom.cls ≠ "java/lang/invoke/MethodHandle" ∧ yX6_copyFrom.cls ≠ "java/lang/invoke/VarHandle" ∧ (parseMethodDescriptor yX6_copyFrom.desc).map (fun d => d.parameters.length) = some 1 := ⟨rfl, cn_RX6.1, cn_RX6.2, pm__LQuietStairs_Term__V_1⟩
theorem iwX1_copyFrom_X1 : ∀ w ∈ wsX10, w ∈ wsX1_copyFrom := fun _ h => List.mem_cons_of_mem _ (List.mem_append_left _ (List.mem_append_left _ (List.mem_append_left _ (List.mem_append_left _ (List.mem_append_right _ h)))))
theorem fwX1_copyFrom_1 : Cond.fieldLink RX1 88 "QuietStairs$House" "partyCount" "I" ∈ wsX1_copyFrom := List.mem_of_getElem? (i := 1) rfl
theorem fwX1_copyFrom_2 : Cond.fieldLink RX1 36 "QuietStairs$House" "mediatorCount" "I" ∈ wsX1_copyFrom := List.mem_of_getElem? (i := 2) rfl
theorem fwX1_copyFrom_3 : Cond.fieldLink RX1 66 "QuietStairs$House" "caseCount" "I" ∈ wsX1_copyFrom := List.mem_of_getElem? (i := 3) rfl
theorem fwX1_copyFrom_4 : Cond.fieldLink RX1 91 "QuietStairs$House" "markCount" "I" ∈ wsX1_copyFrom := List.mem_of_getElem? (i := 4) rfl
theorem fwX1_copyFrom_7 : Cond.fieldLink RX1 25 "QuietStairs$House" "cases" "[LQuietStairs$Case;" ∈ wsX1_copyFrom := List.mem_of_getElem? (i := 7) rfl
theorem pm__LQuietStairs_Case__V_1 : (parseMethodDescriptor "(LQuietStairs$Case;)V").map (fun d => d.parameters.length) = some 1 := by decide +kernel
theorem hd_V_X0_copyFrom_1 : yX0_copyFrom.cls = RX0 ∧ yX0_copyFrom.cls ≠ "java/lang/invoke/MethodHandle" ∧ yX0_copyFrom.cls ≠ "java/lang/invoke/VarHandle" ∧ (parseMethodDescriptor yX0_copyFrom.desc).map (fun d => d.parameters.length) = some 1 := ⟨rfl, cn_RX0.1, cn_RX0.2, pm__LQuietStairs_Case__V_1⟩
theorem fwX1_copyFrom_6 : Cond.fieldLink RX1 19 "QuietStairs$House" "mediators" "[LQuietStairs$Mediator;" ∈ wsX1_copyFrom := List.mem_of_getElem? (i := 6) rfl
theorem cn_RX2 : RX2 ≠ "java/lang/invoke/MethodHandle" ∧ RX2 ≠ "java/lang/invoke/VarHandle" := ⟨fun e => absurd (String.ofList_injective (show String.ofList ['Q', 'u', 'i', 'e', 't', 'S', 't', 'a', 'i', 'r', 's', '$', 'M', 'e', 'd', 'i', 'a', 't', 'o', 'r'] = String.ofList ['j', 'a', 'v', 'a', '/', 'l', 'a', 'n', 'g', '/', 'i', 'n', 'v', 'o', 'k', 'e', '/', 'M', 'e', 't', 'h', 'o', 'd', 'H', 'a', 'n', 'd', 'l', 'e'] from e)) (by decide +kernel), fun e => absurd (String.ofList_injective (show String.ofList ['Q', 'u', 'i', 'e', 't', 'S', 't', 'a', 'i', 'r', 's', '$', 'M', 'e', 'd', 'i', 'a', 't', 'o', 'r'] = String.ofList ['j', 'a', 'v', 'a', '/', 'l', 'a', 'n', 'g', '/', 'i', 'n', 'v', 'o', 'k', 'e', '/', 'V', 'a', 'r', 'H', 'a', 'n', 'd', 'l', 'e'] from e)) (by decide +kernel)⟩
theorem pm__LQuietStairs_Mediator__V_1 : (parseMethodDescriptor "(LQuietStairs$Mediator;)V").map (fun d => d.parameters.length) = some 1 := by decide +kernel
theorem hd_V_X2_copyFrom_1 : yX2_copyFrom.cls = RX2 ∧ yX2_copyFrom.cls ≠ "java/lang/invoke/MethodHandle" ∧ yX2_copyFrom.cls ≠ "java/lang/invoke/VarHandle" ∧ (parseMethodDescriptor yX2_copyFrom.desc).map (fun d => d.parameters.length) = some 1 := ⟨rfl, cn_RX2.1, cn_RX2.2, pm__LQuietStairs_Mediator__V_1⟩
theorem fwX1_copyFrom_5 : Cond.fieldLink RX1 11 "QuietStairs$House" "parties" "[LQuietStairs$Party;" ∈ wsX1_copyFrom := List.mem_of_getElem? (i := 5) rfl
theorem cn_RX3 : RX3 ≠ "java/lang/invoke/MethodHandle" ∧ RX3 ≠ "java/lang/invoke/VarHandle" := ⟨fun e => absurd (String.ofList_injective (show String.ofList ['Q', 'u', 'i', 'e', 't', 'S', 't', 'a', 'i', 'r', 's', '$', 'P', 'a', 'r', 't', 'y'] = String.ofList ['j', 'a', 'v', 'a', '/', 'l', 'a', 'n', 'g', '/', 'i', 'n', 'v', 'o', 'k', 'e', '/', 'M', 'e', 't', 'h', 'o', 'd', 'H', 'a', 'n', 'd', 'l', 'e'] from e)) (by decide +kernel), fun e => absurd (String.ofList_injective (show String.ofList ['Q', 'u', 'i', 'e', 't', 'S', 't', 'a', 'i', 'r', 's', '$', 'P', 'a', 'r', 't', 'y'] = String.ofList ['j', 'a', 'v', 'a', '/', 'l', 'a', 'n', 'g', '/', 'i', 'n', 'v', 'o', 'k', 'e', '/', 'V', 'a', 'r', 'H', 'a', 'n', 'd', 'l', 'e'] from e)) (by decide +kernel)⟩
theorem pm__LQuietStairs_Party__V_1 : (parseMethodDescriptor "(LQuietStairs$Party;)V").map (fun d => d.parameters.length) = some 1 := by decide +kernel
theorem hd_V_X3_copyFrom_1 : yX3_copyFrom.cls = RX3 ∧ yX3_copyFrom.cls ≠ "java/lang/invoke/MethodHandle" ∧ yX3_copyFrom.cls ≠ "java/lang/invoke/VarHandle" ∧ (parseMethodDescriptor yX3_copyFrom.desc).map (fun d => d.parameters.length) = some 1 := ⟨rfl, cn_RX3.1, cn_RX3.2, pm__LQuietStairs_Party__V_1⟩
theorem iwX7_back_X7 : ∀ w ∈ wsX70, w ∈ wsX7_back := fun _ h => List.mem_cons_of_mem _ (List.mem_append_left _ (List.mem_append_left _ (List.mem_append_left _ (List.mem_append_left _ (List.mem_append_left _ (List.mem_append_right _ h))))))
theorem fwX7_back_1 : Cond.fieldLink RX7 30 "QuietStairs" "kept" "LQuietStairs$House;" ∈ wsX7_back := List.mem_of_getElem? (i := 1) rfl
theorem fwX7_back_2 : Cond.fieldLink RX7 12 "QuietStairs" "now" "LQuietStairs$House;" ∈ wsX7_back := List.mem_of_getElem? (i := 2) rfl
theorem hd_V_X1_copyFrom_1 : yX1_copyFrom.cls = RX1 ∧ yX1_copyFrom.cls ≠ "java/lang/invoke/MethodHandle" ∧ yX1_copyFrom.cls ≠ "java/lang/invoke/VarHandle" ∧ (parseMethodDescriptor yX1_copyFrom.desc).map (fun d => d.parameters.length) = some 1 := ⟨rfl, cn_RX1.1, cn_RX1.2, pm__LQuietStairs_House__V_1⟩
theorem iwX7_keep_X7 : ∀ w ∈ wsX70, w ∈ wsX7_keep := fun _ h => List.mem_cons_of_mem _ (List.mem_append_left _ (List.mem_append_left _ (List.mem_append_left _ (List.mem_append_left _ (List.mem_append_left _ (List.mem_append_right _ h))))))
theorem fwX7_keep_1 : Cond.fieldLink RX7 30 "QuietStairs" "kept" "LQuietStairs$House;" ∈ wsX7_keep := List.mem_of_getElem? (i := 1) rfl
theorem fwX7_keep_5 : Cond.fieldLink RX7 12 "QuietStairs" "now" "LQuietStairs$House;" ∈ wsX7_keep := List.mem_of_getElem? (i := 5) rfl
theorem iwX7_keep_X1 : ∀ w ∈ wsX10, w ∈ wsX7_keep := fun _ h => List.mem_cons_of_mem _ (List.mem_append_left _ (List.mem_append_left _ (List.mem_append_left _ (List.mem_append_left _ (List.mem_append_right _ h)))))
theorem fwX7_keep_2 : Cond.classLink RX7 9 RX1 ∈ wsX7_keep := List.mem_of_getElem? (i := 2) rfl
theorem fwX7_keep_3 : Cond.instantiable RX1 7 ∈ wsX7_keep := List.mem_of_getElem? (i := 3) rfl
theorem fwX7_keep_4 : Cond.initialized RX1 ∈ wsX7_keep := List.mem_of_getElem? (i := 4) rfl
theorem fwX7_keep_6 : Cond.methodLink RX7 11 yX1_init ∈ wsX7_keep := List.mem_of_getElem? (i := 6) rfl
theorem fwX7_keep_7 : Cond.instanceMethod yX1_init ∈ wsX7_keep := List.mem_of_getElem? (i := 7) rfl
theorem hd_V_X7_party_2 : yX7_party.cls = RX7 ∧ yX7_party.cls ≠ "java/lang/invoke/MethodHandle" ∧ yX7_party.cls ≠ "java/lang/invoke/VarHandle" ∧ (parseMethodDescriptor yX7_party.desc).map (fun d => d.parameters.length) = some 2 := ⟨rfl, cn_RX7.1, cn_RX7.2, pm__II_I_2⟩
theorem hd_V_X8_party_2 : yX8_party.cls = RX8 ∧ yX8_party.cls ≠ "java/lang/invoke/MethodHandle" ∧ yX8_party.cls ≠ "java/lang/invoke/VarHandle" ∧ (parseMethodDescriptor yX8_party.desc).map (fun d => d.parameters.length) = some 2 := ⟨rfl, cn_RX8.1, cn_RX8.2, pm__II_I_2⟩
theorem hd_V_X7_mediator_2 : yX7_mediator.cls = RX7 ∧ yX7_mediator.cls ≠ "java/lang/invoke/MethodHandle" ∧ yX7_mediator.cls ≠ "java/lang/invoke/VarHandle" ∧ (parseMethodDescriptor yX7_mediator.desc).map (fun d => d.parameters.length) = some 2 := ⟨rfl, cn_RX7.1, cn_RX7.2, pm__II_I_2⟩
theorem hd_V_X8_mediator_2 : yX8_mediator.cls = RX8 ∧ yX8_mediator.cls ≠ "java/lang/invoke/MethodHandle" ∧ yX8_mediator.cls ≠ "java/lang/invoke/VarHandle" ∧ (parseMethodDescriptor yX8_mediator.desc).map (fun d => d.parameters.length) = some 2 := ⟨rfl, cn_RX8.1, cn_RX8.2, pm__II_I_2⟩
theorem pm__IIZ_I_3 : (parseMethodDescriptor "(IIZ)I").map (fun d => d.parameters.length) = some 3 := by decide +kernel
theorem hd_V_X7_kin_3 : yX7_kin.cls = RX7 ∧ yX7_kin.cls ≠ "java/lang/invoke/MethodHandle" ∧ yX7_kin.cls ≠ "java/lang/invoke/VarHandle" ∧ (parseMethodDescriptor yX7_kin.desc).map (fun d => d.parameters.length) = some 3 := ⟨rfl, cn_RX7.1, cn_RX7.2, pm__IIZ_I_3⟩
theorem hd_V_X8_kin_3 : yX8_kin.cls = RX8 ∧ yX8_kin.cls ≠ "java/lang/invoke/MethodHandle" ∧ yX8_kin.cls ≠ "java/lang/invoke/VarHandle" ∧ (parseMethodDescriptor yX8_kin.desc).map (fun d => d.parameters.length) = some 3 := ⟨rfl, cn_RX8.1, cn_RX8.2, pm__IIZ_I_3⟩
theorem hd_V_X7_open_2 : yX7_open.cls = RX7 ∧ yX7_open.cls ≠ "java/lang/invoke/MethodHandle" ∧ yX7_open.cls ≠ "java/lang/invoke/VarHandle" ∧ (parseMethodDescriptor yX7_open.desc).map (fun d => d.parameters.length) = some 2 := ⟨rfl, cn_RX7.1, cn_RX7.2, pm__II_I_2⟩
theorem hd_V_X8_open_2 : yX8_open.cls = RX8 ∧ yX8_open.cls ≠ "java/lang/invoke/MethodHandle" ∧ yX8_open.cls ≠ "java/lang/invoke/VarHandle" ∧ (parseMethodDescriptor yX8_open.desc).map (fun d => d.parameters.length) = some 2 := ⟨rfl, cn_RX8.1, cn_RX8.2, pm__II_I_2⟩
theorem hd_V_X7_close_1 : yX7_close.cls = RX7 ∧ yX7_close.cls ≠ "java/lang/invoke/MethodHandle" ∧ yX7_close.cls ≠ "java/lang/invoke/VarHandle" ∧ (parseMethodDescriptor yX7_close.desc).map (fun d => d.parameters.length) = some 1 := ⟨rfl, cn_RX7.1, cn_RX7.2, pm__I_I_1⟩
theorem hd_V_X8_close_1 : yX8_close.cls = RX8 ∧ yX8_close.cls ≠ "java/lang/invoke/MethodHandle" ∧ yX8_close.cls ≠ "java/lang/invoke/VarHandle" ∧ (parseMethodDescriptor yX8_close.desc).map (fun d => d.parameters.length) = some 1 := ⟨rfl, cn_RX8.1, cn_RX8.2, pm__I_I_1⟩
theorem hd_V_X7_weight_2 : yX7_weight.cls = RX7 ∧ yX7_weight.cls ≠ "java/lang/invoke/MethodHandle" ∧ yX7_weight.cls ≠ "java/lang/invoke/VarHandle" ∧ (parseMethodDescriptor yX7_weight.desc).map (fun d => d.parameters.length) = some 2 := ⟨rfl, cn_RX7.1, cn_RX7.2, pm__II_I_2⟩
theorem hd_V_X8_weight_2 : yX8_weight.cls = RX8 ∧ yX8_weight.cls ≠ "java/lang/invoke/MethodHandle" ∧ yX8_weight.cls ≠ "java/lang/invoke/VarHandle" ∧ (parseMethodDescriptor yX8_weight.desc).map (fun d => d.parameters.length) = some 2 := ⟨rfl, cn_RX8.1, cn_RX8.2, pm__II_I_2⟩
theorem hd_V_X7_mark_2 : yX7_mark.cls = RX7 ∧ yX7_mark.cls ≠ "java/lang/invoke/MethodHandle" ∧ yX7_mark.cls ≠ "java/lang/invoke/VarHandle" ∧ (parseMethodDescriptor yX7_mark.desc).map (fun d => d.parameters.length) = some 2 := ⟨rfl, cn_RX7.1, cn_RX7.2, pm__II_I_2⟩
theorem hd_V_X8_mark_2 : yX8_mark.cls = RX8 ∧ yX8_mark.cls ≠ "java/lang/invoke/MethodHandle" ∧ yX8_mark.cls ≠ "java/lang/invoke/VarHandle" ∧ (parseMethodDescriptor yX8_mark.desc).map (fun d => d.parameters.length) = some 2 := ⟨rfl, cn_RX8.1, cn_RX8.2, pm__II_I_2⟩
theorem hd_V_X7_of_2 : yX7_of.cls = RX7 ∧ yX7_of.cls ≠ "java/lang/invoke/MethodHandle" ∧ yX7_of.cls ≠ "java/lang/invoke/VarHandle" ∧ (parseMethodDescriptor yX7_of.desc).map (fun d => d.parameters.length) = some 2 := ⟨rfl, cn_RX7.1, cn_RX7.2, pm__II_I_2⟩
theorem hd_V_X8_of_2 : yX8_of.cls = RX8 ∧ yX8_of.cls ≠ "java/lang/invoke/MethodHandle" ∧ yX8_of.cls ≠ "java/lang/invoke/VarHandle" ∧ (parseMethodDescriptor yX8_of.desc).map (fun d => d.parameters.length) = some 2 := ⟨rfl, cn_RX8.1, cn_RX8.2, pm__II_I_2⟩
theorem pm__III_I_3 : (parseMethodDescriptor "(III)I").map (fun d => d.parameters.length) = some 3 := by decide +kernel
theorem hd_V_X7_offer_3 : yX7_offer.cls = RX7 ∧ yX7_offer.cls ≠ "java/lang/invoke/MethodHandle" ∧ yX7_offer.cls ≠ "java/lang/invoke/VarHandle" ∧ (parseMethodDescriptor yX7_offer.desc).map (fun d => d.parameters.length) = some 3 := ⟨rfl, cn_RX7.1, cn_RX7.2, pm__III_I_3⟩
theorem hd_V_X8_offer_3 : yX8_offer.cls = RX8 ∧ yX8_offer.cls ≠ "java/lang/invoke/MethodHandle" ∧ yX8_offer.cls ≠ "java/lang/invoke/VarHandle" ∧ (parseMethodDescriptor yX8_offer.desc).map (fun d => d.parameters.length) = some 3 := ⟨rfl, cn_RX8.1, cn_RX8.2, pm__III_I_3⟩
theorem hd_V_X7_put_2 : yX7_put.cls = RX7 ∧ yX7_put.cls ≠ "java/lang/invoke/MethodHandle" ∧ yX7_put.cls ≠ "java/lang/invoke/VarHandle" ∧ (parseMethodDescriptor yX7_put.desc).map (fun d => d.parameters.length) = some 2 := ⟨rfl, cn_RX7.1, cn_RX7.2, pm__II_I_2⟩
theorem hd_V_X8_put_2 : yX8_put.cls = RX8 ∧ yX8_put.cls ≠ "java/lang/invoke/MethodHandle" ∧ yX8_put.cls ≠ "java/lang/invoke/VarHandle" ∧ (parseMethodDescriptor yX8_put.desc).map (fun d => d.parameters.length) = some 2 := ⟨rfl, cn_RX8.1, cn_RX8.2, pm__II_I_2⟩
theorem pm__IIIZ_I_4 : (parseMethodDescriptor "(IIIZ)I").map (fun d => d.parameters.length) = some 4 := by decide +kernel
theorem hd_V_X7_learns_4 : yX7_learns.cls = RX7 ∧ yX7_learns.cls ≠ "java/lang/invoke/MethodHandle" ∧ yX7_learns.cls ≠ "java/lang/invoke/VarHandle" ∧ (parseMethodDescriptor yX7_learns.desc).map (fun d => d.parameters.length) = some 4 := ⟨rfl, cn_RX7.1, cn_RX7.2, pm__IIIZ_I_4⟩
theorem hd_V_X8_learns_4 : yX8_learns.cls = RX8 ∧ yX8_learns.cls ≠ "java/lang/invoke/MethodHandle" ∧ yX8_learns.cls ≠ "java/lang/invoke/VarHandle" ∧ (parseMethodDescriptor yX8_learns.desc).map (fun d => d.parameters.length) = some 4 := ⟨rfl, cn_RX8.1, cn_RX8.2, pm__IIIZ_I_4⟩
theorem hd_V_X7_maySit_2 : yX7_maySit.cls = RX7 ∧ yX7_maySit.cls ≠ "java/lang/invoke/MethodHandle" ∧ yX7_maySit.cls ≠ "java/lang/invoke/VarHandle" ∧ (parseMethodDescriptor yX7_maySit.desc).map (fun d => d.parameters.length) = some 2 := ⟨rfl, cn_RX7.1, cn_RX7.2, pm__II_I_2⟩
theorem hd_V_X8_maySit_2 : yX8_maySit.cls = RX8 ∧ yX8_maySit.cls ≠ "java/lang/invoke/MethodHandle" ∧ yX8_maySit.cls ≠ "java/lang/invoke/VarHandle" ∧ (parseMethodDescriptor yX8_maySit.desc).map (fun d => d.parameters.length) = some 2 := ⟨rfl, cn_RX8.1, cn_RX8.2, pm__II_I_2⟩
theorem hd_V_X7_rooms_1 : yX7_rooms.cls = RX7 ∧ yX7_rooms.cls ≠ "java/lang/invoke/MethodHandle" ∧ yX7_rooms.cls ≠ "java/lang/invoke/VarHandle" ∧ (parseMethodDescriptor yX7_rooms.desc).map (fun d => d.parameters.length) = some 1 := ⟨rfl, cn_RX7.1, cn_RX7.2, pm__I_I_1⟩
theorem hd_V_X8_rooms_1 : yX8_rooms.cls = RX8 ∧ yX8_rooms.cls ≠ "java/lang/invoke/MethodHandle" ∧ yX8_rooms.cls ≠ "java/lang/invoke/VarHandle" ∧ (parseMethodDescriptor yX8_rooms.desc).map (fun d => d.parameters.length) = some 1 := ⟨rfl, cn_RX8.1, cn_RX8.2, pm__I_I_1⟩
theorem hd_V_X7_plan_1 : yX7_plan.cls = RX7 ∧ yX7_plan.cls ≠ "java/lang/invoke/MethodHandle" ∧ yX7_plan.cls ≠ "java/lang/invoke/VarHandle" ∧ (parseMethodDescriptor yX7_plan.desc).map (fun d => d.parameters.length) = some 1 := ⟨rfl, cn_RX7.1, cn_RX7.2, pm__I_I_1⟩
theorem hd_V_X8_plan_1 : yX8_plan.cls = RX8 ∧ yX8_plan.cls ≠ "java/lang/invoke/MethodHandle" ∧ yX8_plan.cls ≠ "java/lang/invoke/VarHandle" ∧ (parseMethodDescriptor yX8_plan.desc).map (fun d => d.parameters.length) = some 1 := ⟨rfl, cn_RX8.1, cn_RX8.2, pm__I_I_1⟩
theorem hd_V_X7_waits_0 : yX7_waits.cls = RX7 ∧ yX7_waits.cls ≠ "java/lang/invoke/MethodHandle" ∧ yX7_waits.cls ≠ "java/lang/invoke/VarHandle" ∧ (parseMethodDescriptor yX7_waits.desc).map (fun d => d.parameters.length) = some 0 := ⟨rfl, cn_RX7.1, cn_RX7.2, pm___I_0⟩
theorem hd_V_X8_waits_0 : yX8_waits.cls = RX8 ∧ yX8_waits.cls ≠ "java/lang/invoke/MethodHandle" ∧ yX8_waits.cls ≠ "java/lang/invoke/VarHandle" ∧ (parseMethodDescriptor yX8_waits.desc).map (fun d => d.parameters.length) = some 0 := ⟨rfl, cn_RX8.1, cn_RX8.2, pm___I_0⟩
theorem pm__IIZIII_I_6 : (parseMethodDescriptor "(IIZIII)I").map (fun d => d.parameters.length) = some 6 := by decide +kernel
theorem hd_V_X7_term_6 : yX7_term.cls = RX7 ∧ yX7_term.cls ≠ "java/lang/invoke/MethodHandle" ∧ yX7_term.cls ≠ "java/lang/invoke/VarHandle" ∧ (parseMethodDescriptor yX7_term.desc).map (fun d => d.parameters.length) = some 6 := ⟨rfl, cn_RX7.1, cn_RX7.2, pm__IIZIII_I_6⟩
theorem hd_V_X8_term_6 : yX8_term.cls = RX8 ∧ yX8_term.cls ≠ "java/lang/invoke/MethodHandle" ∧ yX8_term.cls ≠ "java/lang/invoke/VarHandle" ∧ (parseMethodDescriptor yX8_term.desc).map (fun d => d.parameters.length) = some 6 := ⟨rfl, cn_RX8.1, cn_RX8.2, pm__IIZIII_I_6⟩
theorem hd_V_X7_strike_1 : yX7_strike.cls = RX7 ∧ yX7_strike.cls ≠ "java/lang/invoke/MethodHandle" ∧ yX7_strike.cls ≠ "java/lang/invoke/VarHandle" ∧ (parseMethodDescriptor yX7_strike.desc).map (fun d => d.parameters.length) = some 1 := ⟨rfl, cn_RX7.1, cn_RX7.2, pm__I_I_1⟩
theorem hd_V_X8_strike_1 : yX8_strike.cls = RX8 ∧ yX8_strike.cls ≠ "java/lang/invoke/MethodHandle" ∧ yX8_strike.cls ≠ "java/lang/invoke/VarHandle" ∧ (parseMethodDescriptor yX8_strike.desc).map (fun d => d.parameters.length) = some 1 := ⟨rfl, cn_RX8.1, cn_RX8.2, pm__I_I_1⟩
theorem hd_V_X7_termOf_3 : yX7_termOf.cls = RX7 ∧ yX7_termOf.cls ≠ "java/lang/invoke/MethodHandle" ∧ yX7_termOf.cls ≠ "java/lang/invoke/VarHandle" ∧ (parseMethodDescriptor yX7_termOf.desc).map (fun d => d.parameters.length) = some 3 := ⟨rfl, cn_RX7.1, cn_RX7.2, pm__III_I_3⟩
theorem hd_V_X8_termOf_3 : yX8_termOf.cls = RX8 ∧ yX8_termOf.cls ≠ "java/lang/invoke/MethodHandle" ∧ yX8_termOf.cls ≠ "java/lang/invoke/VarHandle" ∧ (parseMethodDescriptor yX8_termOf.desc).map (fun d => d.parameters.length) = some 3 := ⟨rfl, cn_RX8.1, cn_RX8.2, pm__III_I_3⟩
theorem hd_V_X7_hour_2 : yX7_hour.cls = RX7 ∧ yX7_hour.cls ≠ "java/lang/invoke/MethodHandle" ∧ yX7_hour.cls ≠ "java/lang/invoke/VarHandle" ∧ (parseMethodDescriptor yX7_hour.desc).map (fun d => d.parameters.length) = some 2 := ⟨rfl, cn_RX7.1, cn_RX7.2, pm__II_I_2⟩
theorem hd_V_X8_hour_2 : yX8_hour.cls = RX8 ∧ yX8_hour.cls ≠ "java/lang/invoke/MethodHandle" ∧ yX8_hour.cls ≠ "java/lang/invoke/VarHandle" ∧ (parseMethodDescriptor yX8_hour.desc).map (fun d => d.parameters.length) = some 2 := ⟨rfl, cn_RX8.1, cn_RX8.2, pm__II_I_2⟩
theorem hd_V_X7_canHold_2 : yX7_canHold.cls = RX7 ∧ yX7_canHold.cls ≠ "java/lang/invoke/MethodHandle" ∧ yX7_canHold.cls ≠ "java/lang/invoke/VarHandle" ∧ (parseMethodDescriptor yX7_canHold.desc).map (fun d => d.parameters.length) = some 2 := ⟨rfl, cn_RX7.1, cn_RX7.2, pm__II_I_2⟩
theorem hd_V_X8_canHold_2 : yX8_canHold.cls = RX8 ∧ yX8_canHold.cls ≠ "java/lang/invoke/MethodHandle" ∧ yX8_canHold.cls ≠ "java/lang/invoke/VarHandle" ∧ (parseMethodDescriptor yX8_canHold.desc).map (fun d => d.parameters.length) = some 2 := ⟨rfl, cn_RX8.1, cn_RX8.2, pm__II_I_2⟩
theorem hd_V_X7_breaks_2 : yX7_breaks.cls = RX7 ∧ yX7_breaks.cls ≠ "java/lang/invoke/MethodHandle" ∧ yX7_breaks.cls ≠ "java/lang/invoke/VarHandle" ∧ (parseMethodDescriptor yX7_breaks.desc).map (fun d => d.parameters.length) = some 2 := ⟨rfl, cn_RX7.1, cn_RX7.2, pm__II_I_2⟩
theorem hd_V_X8_breaks_2 : yX8_breaks.cls = RX8 ∧ yX8_breaks.cls ≠ "java/lang/invoke/MethodHandle" ∧ yX8_breaks.cls ≠ "java/lang/invoke/VarHandle" ∧ (parseMethodDescriptor yX8_breaks.desc).map (fun d => d.parameters.length) = some 2 := ⟨rfl, cn_RX8.1, cn_RX8.2, pm__II_I_2⟩
theorem pm__IIII_I_4 : (parseMethodDescriptor "(IIII)I").map (fun d => d.parameters.length) = some 4 := by decide +kernel
theorem hd_V_X7_log_4 : yX7_log.cls = RX7 ∧ yX7_log.cls ≠ "java/lang/invoke/MethodHandle" ∧ yX7_log.cls ≠ "java/lang/invoke/VarHandle" ∧ (parseMethodDescriptor yX7_log.desc).map (fun d => d.parameters.length) = some 4 := ⟨rfl, cn_RX7.1, cn_RX7.2, pm__IIII_I_4⟩
theorem hd_V_X8_log_4 : yX8_log.cls = RX8 ∧ yX8_log.cls ≠ "java/lang/invoke/MethodHandle" ∧ yX8_log.cls ≠ "java/lang/invoke/VarHandle" ∧ (parseMethodDescriptor yX8_log.desc).map (fun d => d.parameters.length) = some 4 := ⟨rfl, cn_RX8.1, cn_RX8.2, pm__IIII_I_4⟩
theorem hd_V_X7_judged_2 : yX7_judged.cls = RX7 ∧ yX7_judged.cls ≠ "java/lang/invoke/MethodHandle" ∧ yX7_judged.cls ≠ "java/lang/invoke/VarHandle" ∧ (parseMethodDescriptor yX7_judged.desc).map (fun d => d.parameters.length) = some 2 := ⟨rfl, cn_RX7.1, cn_RX7.2, pm__II_I_2⟩
theorem hd_V_X8_judged_2 : yX8_judged.cls = RX8 ∧ yX8_judged.cls ≠ "java/lang/invoke/MethodHandle" ∧ yX8_judged.cls ≠ "java/lang/invoke/VarHandle" ∧ (parseMethodDescriptor yX8_judged.desc).map (fun d => d.parameters.length) = some 2 := ⟨rfl, cn_RX8.1, cn_RX8.2, pm__II_I_2⟩
theorem hd_V_X7_many_1 : yX7_many.cls = RX7 ∧ yX7_many.cls ≠ "java/lang/invoke/MethodHandle" ∧ yX7_many.cls ≠ "java/lang/invoke/VarHandle" ∧ (parseMethodDescriptor yX7_many.desc).map (fun d => d.parameters.length) = some 1 := ⟨rfl, cn_RX7.1, cn_RX7.2, pm__I_I_1⟩
theorem hd_V_X8_many_1 : yX8_many.cls = RX8 ∧ yX8_many.cls ≠ "java/lang/invoke/MethodHandle" ∧ yX8_many.cls ≠ "java/lang/invoke/VarHandle" ∧ (parseMethodDescriptor yX8_many.desc).map (fun d => d.parameters.length) = some 1 := ⟨rfl, cn_RX8.1, cn_RX8.2, pm__I_I_1⟩
theorem hd_V_X7_keep_0 : yX7_keep.cls = RX7 ∧ yX7_keep.cls ≠ "java/lang/invoke/MethodHandle" ∧ yX7_keep.cls ≠ "java/lang/invoke/VarHandle" ∧ (parseMethodDescriptor yX7_keep.desc).map (fun d => d.parameters.length) = some 0 := ⟨rfl, cn_RX7.1, cn_RX7.2, pm___I_0⟩
theorem hd_V_X8_keep_0 : yX8_keep.cls = RX8 ∧ yX8_keep.cls ≠ "java/lang/invoke/MethodHandle" ∧ yX8_keep.cls ≠ "java/lang/invoke/VarHandle" ∧ (parseMethodDescriptor yX8_keep.desc).map (fun d => d.parameters.length) = some 0 := ⟨rfl, cn_RX8.1, cn_RX8.2, pm___I_0⟩
theorem hd_V_X7_back_0 : yX7_back.cls = RX7 ∧ yX7_back.cls ≠ "java/lang/invoke/MethodHandle" ∧ yX7_back.cls ≠ "java/lang/invoke/VarHandle" ∧ (parseMethodDescriptor yX7_back.desc).map (fun d => d.parameters.length) = some 0 := ⟨rfl, cn_RX7.1, cn_RX7.2, pm___I_0⟩
theorem hd_V_X8_back_0 : yX8_back.cls = RX8 ∧ yX8_back.cls ≠ "java/lang/invoke/MethodHandle" ∧ yX8_back.cls ≠ "java/lang/invoke/VarHandle" ∧ (parseMethodDescriptor yX8_back.desc).map (fun d => d.parameters.length) = some 0 := ⟨rfl, cn_RX8.1, cn_RX8.2, pm___I_0⟩
