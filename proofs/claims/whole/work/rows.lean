section
-- ===== PART A: goes FIRST, ahead of the names: the tables' words, and 'selects' of the private methods out of them =====
/-- a private method of a class that the tables say can be made, by its rows of tables_1 -/
def lw_okq (q : MethodName × Nat) : Prop := (q.1.cls ≠ "java/lang/invoke/MethodHandle" ∧ q.1.cls ≠ "java/lang/invoke/VarHandle") ∧ Cond.instantiable q.1.cls q.2 ∈ tables_1 ∧ Cond.privateMethod q.1 ∈ tables_1 ∧ Cond.instanceMethod q.1 ∈ tables_1
theorem lw_p0 : lw_okq (⟨"TierPods", "layScript", "()Z"⟩, 12) := ⟨⟨by decide +kernel, by decide +kernel⟩, List.mem_of_getElem? (i := 19) (by decide +kernel), List.mem_of_getElem? (i := 343) (by decide +kernel), List.mem_of_getElem? (i := 344) (by decide +kernel)⟩
theorem lw_p1 : lw_okq (⟨"TierPods$Script", "readItem", "(LTierPods$State;)Z"⟩, 4) := ⟨⟨by decide +kernel, by decide +kernel⟩, List.mem_of_getElem? (i := 27) (by decide +kernel), List.mem_of_getElem? (i := 358) (by decide +kernel), List.mem_of_getElem? (i := 359) (by decide +kernel)⟩
theorem lw_p2 : lw_okq (⟨"TierPods$Script", "take", "(C)Z"⟩, 4) := ⟨⟨by decide +kernel, by decide +kernel⟩, List.mem_of_getElem? (i := 27) (by decide +kernel), List.mem_of_getElem? (i := 362) (by decide +kernel), List.mem_of_getElem? (i := 363) (by decide +kernel)⟩
theorem lw_p3 : lw_okq (⟨"TierPods$Script", "readK", "()Z"⟩, 4) := ⟨⟨by decide +kernel, by decide +kernel⟩, List.mem_of_getElem? (i := 27) (by decide +kernel), List.mem_of_getElem? (i := 366) (by decide +kernel), List.mem_of_getElem? (i := 367) (by decide +kernel)⟩
theorem lw_p4 : lw_okq (⟨"TierPods$Script", "readFigure", "()I"⟩, 4) := ⟨⟨by decide +kernel, by decide +kernel⟩, List.mem_of_getElem? (i := 27) (by decide +kernel), List.mem_of_getElem? (i := 370) (by decide +kernel), List.mem_of_getElem? (i := 371) (by decide +kernel)⟩
theorem lw_p5 : lw_okq (⟨"TierPods$Script", "readFlow", "(LTierPods$State;)Z"⟩, 4) := ⟨⟨by decide +kernel, by decide +kernel⟩, List.mem_of_getElem? (i := 27) (by decide +kernel), List.mem_of_getElem? (i := 374) (by decide +kernel), List.mem_of_getElem? (i := 375) (by decide +kernel)⟩
theorem lw_p6 : lw_okq (⟨"TierPods$Script", "readHost", "()I"⟩, 4) := ⟨⟨by decide +kernel, by decide +kernel⟩, List.mem_of_getElem? (i := 27) (by decide +kernel), List.mem_of_getElem? (i := 378) (by decide +kernel), List.mem_of_getElem? (i := 379) (by decide +kernel)⟩
theorem lw_p7 : lw_okq (⟨"TierPods$Script", "readNumber", "(I)I"⟩, 4) := ⟨⟨by decide +kernel, by decide +kernel⟩, List.mem_of_getElem? (i := 27) (by decide +kernel), List.mem_of_getElem? (i := 385) (by decide +kernel), List.mem_of_getElem? (i := 386) (by decide +kernel)⟩
theorem lw_p8 : lw_okq (⟨"TierPods$Script", "readCut", "(LTierPods$State;)Z"⟩, 4) := ⟨⟨by decide +kernel, by decide +kernel⟩, List.mem_of_getElem? (i := 27) (by decide +kernel), List.mem_of_getElem? (i := 393) (by decide +kernel), List.mem_of_getElem? (i := 394) (by decide +kernel)⟩
theorem lw_p9 : lw_okq (⟨"TierPods$Shape", "numberSwitches", "()V"⟩, 14) := ⟨⟨by decide +kernel, by decide +kernel⟩, List.mem_of_getElem? (i := 49) (by decide +kernel), List.mem_of_getElem? (i := 408) (by decide +kernel), List.mem_of_getElem? (i := 409) (by decide +kernel)⟩
theorem lw_p10 : lw_okq (⟨"TierPods$Shape", "addSwitch", "(IIII)V"⟩, 14) := ⟨⟨by decide +kernel, by decide +kernel⟩, List.mem_of_getElem? (i := 49) (by decide +kernel), List.mem_of_getElem? (i := 412) (by decide +kernel), List.mem_of_getElem? (i := 413) (by decide +kernel)⟩
theorem lw_p11 : lw_okq (⟨"TierPods$Shape", "numberHosts", "()V"⟩, 14) := ⟨⟨by decide +kernel, by decide +kernel⟩, List.mem_of_getElem? (i := 49) (by decide +kernel), List.mem_of_getElem? (i := 416) (by decide +kernel), List.mem_of_getElem? (i := 417) (by decide +kernel)⟩
theorem lw_p12 : lw_okq (⟨"TierPods$Shape", "numberLinks", "()V"⟩, 14) := ⟨⟨by decide +kernel, by decide +kernel⟩, List.mem_of_getElem? (i := 49) (by decide +kernel), List.mem_of_getElem? (i := 420) (by decide +kernel), List.mem_of_getElem? (i := 421) (by decide +kernel)⟩
theorem lw_p13 : lw_okq (⟨"TierPods", "isSwitch", "(I)Z"⟩, 12) := ⟨⟨by decide +kernel, by decide +kernel⟩, List.mem_of_getElem? (i := 19) (by decide +kernel), List.mem_of_getElem? (i := 503) (by decide +kernel), List.mem_of_getElem? (i := 504) (by decide +kernel)⟩
theorem lw_p14 : lw_okq (⟨"TierPods", "linksOf", "(IZ)I"⟩, 12) := ⟨⟨by decide +kernel, by decide +kernel⟩, List.mem_of_getElem? (i := 19) (by decide +kernel), List.mem_of_getElem? (i := 507) (by decide +kernel), List.mem_of_getElem? (i := 508) (by decide +kernel)⟩
theorem lw_p15 : lw_okq (⟨"TierPods", "isEnd", "(II)Z"⟩, 12) := ⟨⟨by decide +kernel, by decide +kernel⟩, List.mem_of_getElem? (i := 19) (by decide +kernel), List.mem_of_getElem? (i := 511) (by decide +kernel), List.mem_of_getElem? (i := 512) (by decide +kernel)⟩
def lw_privs_1 : List (MethodName × Nat) := [(⟨"TierPods", "layScript", "()Z"⟩, 12), (⟨"TierPods$Script", "readItem", "(LTierPods$State;)Z"⟩, 4), (⟨"TierPods$Script", "take", "(C)Z"⟩, 4), (⟨"TierPods$Script", "readK", "()Z"⟩, 4), (⟨"TierPods$Script", "readFigure", "()I"⟩, 4), (⟨"TierPods$Script", "readFlow", "(LTierPods$State;)Z"⟩, 4), (⟨"TierPods$Script", "readHost", "()I"⟩, 4), (⟨"TierPods$Script", "readNumber", "(I)I"⟩, 4), (⟨"TierPods$Script", "readCut", "(LTierPods$State;)Z"⟩, 4), (⟨"TierPods$Shape", "numberSwitches", "()V"⟩, 14), (⟨"TierPods$Shape", "addSwitch", "(IIII)V"⟩, 14), (⟨"TierPods$Shape", "numberHosts", "()V"⟩, 14), (⟨"TierPods$Shape", "numberLinks", "()V"⟩, 14), (⟨"TierPods", "isSwitch", "(I)Z"⟩, 12), (⟨"TierPods", "linksOf", "(IZ)I"⟩, 12), (⟨"TierPods", "isEnd", "(II)Z"⟩, 12)]
theorem lw_r1 : ∀ q ∈ lw_privs_1, lw_okq q := List.forall_mem_cons.mpr ⟨lw_p0, List.forall_mem_cons.mpr ⟨lw_p1, List.forall_mem_cons.mpr ⟨lw_p2, List.forall_mem_cons.mpr ⟨lw_p3, List.forall_mem_cons.mpr ⟨lw_p4, List.forall_mem_cons.mpr ⟨lw_p5, List.forall_mem_cons.mpr ⟨lw_p6, List.forall_mem_cons.mpr ⟨lw_p7, List.forall_mem_cons.mpr ⟨lw_p8, List.forall_mem_cons.mpr ⟨lw_p9, List.forall_mem_cons.mpr ⟨lw_p10, List.forall_mem_cons.mpr ⟨lw_p11, List.forall_mem_cons.mpr ⟨lw_p12, List.forall_mem_cons.mpr ⟨lw_p13, List.forall_mem_cons.mpr ⟨lw_p14, List.forall_mem_cons.mpr ⟨lw_p15, fun _ h => absurd h List.not_mem_nil⟩⟩⟩⟩⟩⟩⟩⟩⟩⟩⟩⟩⟩⟩⟩⟩
theorem lw_p16 : lw_okq (⟨"TierPods", "isLink", "(I)Z"⟩, 12) := ⟨⟨by decide +kernel, by decide +kernel⟩, List.mem_of_getElem? (i := 19) (by decide +kernel), List.mem_of_getElem? (i := 520) (by decide +kernel), List.mem_of_getElem? (i := 521) (by decide +kernel)⟩
theorem lw_p17 : lw_okq (⟨"TierPods", "keepForUndo", "()V"⟩, 12) := ⟨⟨by decide +kernel, by decide +kernel⟩, List.mem_of_getElem? (i := 19) (by decide +kernel), List.mem_of_getElem? (i := 528) (by decide +kernel), List.mem_of_getElem? (i := 529) (by decide +kernel)⟩
theorem lw_p18 : lw_okq (⟨"TierPods", "turn", "(I)V"⟩, 12) := ⟨⟨by decide +kernel, by decide +kernel⟩, List.mem_of_getElem? (i := 19) (by decide +kernel), List.mem_of_getElem? (i := 539) (by decide +kernel), List.mem_of_getElem? (i := 540) (by decide +kernel)⟩
theorem lw_p19 : lw_okq (⟨"TierPods", "countChange", "()V"⟩, 12) := ⟨⟨by decide +kernel, by decide +kernel⟩, List.mem_of_getElem? (i := 19) (by decide +kernel), List.mem_of_getElem? (i := 547) (by decide +kernel), List.mem_of_getElem? (i := 548) (by decide +kernel)⟩
theorem lw_p20 : lw_okq (⟨"TierPods", "turnLinksOf", "(IZ)I"⟩, 12) := ⟨⟨by decide +kernel, by decide +kernel⟩, List.mem_of_getElem? (i := 19) (by decide +kernel), List.mem_of_getElem? (i := 558) (by decide +kernel), List.mem_of_getElem? (i := 559) (by decide +kernel)⟩
theorem lw_p21 : lw_okq (⟨"TierPods$Telling", "tellOnce", "(LTierPods$State;I)I"⟩, 2) := ⟨⟨by decide +kernel, by decide +kernel⟩, List.mem_of_getElem? (i := 164) (by decide +kernel), List.mem_of_getElem? (i := 578) (by decide +kernel), List.mem_of_getElem? (i := 579) (by decide +kernel)⟩
theorem lw_p22 : lw_okq (⟨"TierPods", "isHost", "(I)Z"⟩, 12) := ⟨⟨by decide +kernel, by decide +kernel⟩, List.mem_of_getElem? (i := 19) (by decide +kernel), List.mem_of_getElem? (i := 612) (by decide +kernel), List.mem_of_getElem? (i := 613) (by decide +kernel)⟩
theorem lw_p23 : lw_okq (⟨"TierPods", "isShift", "(I)Z"⟩, 12) := ⟨⟨by decide +kernel, by decide +kernel⟩, List.mem_of_getElem? (i := 19) (by decide +kernel), List.mem_of_getElem? (i := 616) (by decide +kernel), List.mem_of_getElem? (i := 617) (by decide +kernel)⟩
theorem lw_p24 : lw_okq (⟨"TierPods$Journey", "upFromEdge", "(LTierPods$State;III)I"⟩, 5) := ⟨⟨by decide +kernel, by decide +kernel⟩, List.mem_of_getElem? (i := 133) (by decide +kernel), List.mem_of_getElem? (i := 624) (by decide +kernel), List.mem_of_getElem? (i := 625) (by decide +kernel)⟩
theorem lw_p25 : lw_okq (⟨"TierPods$Journey", "upFromMiddle", "(LTierPods$State;III)I"⟩, 5) := ⟨⟨by decide +kernel, by decide +kernel⟩, List.mem_of_getElem? (i := 133) (by decide +kernel), List.mem_of_getElem? (i := 645) (by decide +kernel), List.mem_of_getElem? (i := 646) (by decide +kernel)⟩
theorem lw_p26 : lw_okq (⟨"TierPods", "areTwoHosts", "(II)Z"⟩, 12) := ⟨⟨by decide +kernel, by decide +kernel⟩, List.mem_of_getElem? (i := 19) (by decide +kernel), List.mem_of_getElem? (i := 653) (by decide +kernel), List.mem_of_getElem? (i := 654) (by decide +kernel)⟩
theorem lw_p27 : lw_okq (⟨"TierPods$Truth", "isOpen", "(LTierPods$State;II)Z"⟩, 3) := ⟨⟨by decide +kernel, by decide +kernel⟩, List.mem_of_getElem? (i := 177) (by decide +kernel), List.mem_of_getElem? (i := 679) (by decide +kernel), List.mem_of_getElem? (i := 680) (by decide +kernel)⟩
theorem lw_p28 : lw_okq (⟨"TierPods$Truth", "waysOverMiddle", "(LTierPods$State;IIII)I"⟩, 3) := ⟨⟨by decide +kernel, by decide +kernel⟩, List.mem_of_getElem? (i := 177) (by decide +kernel), List.mem_of_getElem? (i := 684) (by decide +kernel), List.mem_of_getElem? (i := 685) (by decide +kernel)⟩
theorem lw_p29 : lw_okq (⟨"TierPods$Truth", "pairsOf", "(II)I"⟩, 3) := ⟨⟨by decide +kernel, by decide +kernel⟩, List.mem_of_getElem? (i := 177) (by decide +kernel), List.mem_of_getElem? (i := 698) (by decide +kernel), List.mem_of_getElem? (i := 699) (by decide +kernel)⟩
theorem lw_p30 : lw_okq (⟨"TierPods$AllPairs", "addTimes", "()V"⟩, 5) := ⟨⟨by decide +kernel, by decide +kernel⟩, List.mem_of_getElem? (i := 195) (by decide +kernel), List.mem_of_getElem? (i := 708) (by decide +kernel), List.mem_of_getElem? (i := 709) (by decide +kernel)⟩
theorem lw_p31 : lw_okq (⟨"TierPods", "isFlow", "(I)Z"⟩, 12) := ⟨⟨by decide +kernel, by decide +kernel⟩, List.mem_of_getElem? (i := 19) (by decide +kernel), List.mem_of_getElem? (i := 749) (by decide +kernel), List.mem_of_getElem? (i := 750) (by decide +kernel)⟩
def lw_privs_2 : List (MethodName × Nat) := [(⟨"TierPods", "isLink", "(I)Z"⟩, 12), (⟨"TierPods", "keepForUndo", "()V"⟩, 12), (⟨"TierPods", "turn", "(I)V"⟩, 12), (⟨"TierPods", "countChange", "()V"⟩, 12), (⟨"TierPods", "turnLinksOf", "(IZ)I"⟩, 12), (⟨"TierPods$Telling", "tellOnce", "(LTierPods$State;I)I"⟩, 2), (⟨"TierPods", "isHost", "(I)Z"⟩, 12), (⟨"TierPods", "isShift", "(I)Z"⟩, 12), (⟨"TierPods$Journey", "upFromEdge", "(LTierPods$State;III)I"⟩, 5), (⟨"TierPods$Journey", "upFromMiddle", "(LTierPods$State;III)I"⟩, 5), (⟨"TierPods", "areTwoHosts", "(II)Z"⟩, 12), (⟨"TierPods$Truth", "isOpen", "(LTierPods$State;II)Z"⟩, 3), (⟨"TierPods$Truth", "waysOverMiddle", "(LTierPods$State;IIII)I"⟩, 3), (⟨"TierPods$Truth", "pairsOf", "(II)I"⟩, 3), (⟨"TierPods$AllPairs", "addTimes", "()V"⟩, 5), (⟨"TierPods", "isFlow", "(I)Z"⟩, 12)]
theorem lw_r2 : ∀ q ∈ lw_privs_2, lw_okq q := List.forall_mem_cons.mpr ⟨lw_p16, List.forall_mem_cons.mpr ⟨lw_p17, List.forall_mem_cons.mpr ⟨lw_p18, List.forall_mem_cons.mpr ⟨lw_p19, List.forall_mem_cons.mpr ⟨lw_p20, List.forall_mem_cons.mpr ⟨lw_p21, List.forall_mem_cons.mpr ⟨lw_p22, List.forall_mem_cons.mpr ⟨lw_p23, List.forall_mem_cons.mpr ⟨lw_p24, List.forall_mem_cons.mpr ⟨lw_p25, List.forall_mem_cons.mpr ⟨lw_p26, List.forall_mem_cons.mpr ⟨lw_p27, List.forall_mem_cons.mpr ⟨lw_p28, List.forall_mem_cons.mpr ⟨lw_p29, List.forall_mem_cons.mpr ⟨lw_p30, List.forall_mem_cons.mpr ⟨lw_p31, fun _ h => absurd h List.not_mem_nil⟩⟩⟩⟩⟩⟩⟩⟩⟩⟩⟩⟩⟩⟩⟩⟩
theorem lw_p32 : lw_okq (⟨"TierPods$Sharing", "removeSteps", "(I)V"⟩, 5) := ⟨⟨by decide +kernel, by decide +kernel⟩, List.mem_of_getElem? (i := 220) (by decide +kernel), List.mem_of_getElem? (i := 774) (by decide +kernel), List.mem_of_getElem? (i := 775) (by decide +kernel)⟩
theorem lw_p33 : lw_okq (⟨"TierPods$Sharing", "addStep", "(II)V"⟩, 5) := ⟨⟨by decide +kernel, by decide +kernel⟩, List.mem_of_getElem? (i := 220) (by decide +kernel), List.mem_of_getElem? (i := 779) (by decide +kernel), List.mem_of_getElem? (i := 780) (by decide +kernel)⟩
theorem lw_p34 : lw_okq (⟨"TierPods", "cutLinks", "()I"⟩, 12) := ⟨⟨by decide +kernel, by decide +kernel⟩, List.mem_of_getElem? (i := 19) (by decide +kernel), List.mem_of_getElem? (i := 830) (by decide +kernel), List.mem_of_getElem? (i := 831) (by decide +kernel)⟩
theorem lw_p35 : lw_okq (⟨"TierPodsModel", "begins", "(I)V"⟩, 30) := ⟨⟨by decide +kernel, by decide +kernel⟩, List.mem_of_getElem? (i := 834) (by decide +kernel), List.mem_of_getElem? (i := 840) (by decide +kernel), List.mem_of_getElem? (i := 841) (by decide +kernel)⟩
theorem lw_p36 : lw_okq (⟨"TierPodsModel", "knows", "(I)V"⟩, 30) := ⟨⟨by decide +kernel, by decide +kernel⟩, List.mem_of_getElem? (i := 834) (by decide +kernel), List.mem_of_getElem? (i := 844) (by decide +kernel), List.mem_of_getElem? (i := 845) (by decide +kernel)⟩
theorem lw_p37 : lw_okq (⟨"TierPodsModel", "reads", "()I"⟩, 30) := ⟨⟨by decide +kernel, by decide +kernel⟩, List.mem_of_getElem? (i := 834) (by decide +kernel), List.mem_of_getElem? (i := 951) (by decide +kernel), List.mem_of_getElem? (i := 952) (by decide +kernel)⟩
theorem lw_p38 : lw_okq (⟨"TierPodsModel", "readsItem", "(II)I"⟩, 30) := ⟨⟨by decide +kernel, by decide +kernel⟩, List.mem_of_getElem? (i := 834) (by decide +kernel), List.mem_of_getElem? (i := 955) (by decide +kernel), List.mem_of_getElem? (i := 956) (by decide +kernel)⟩
theorem lw_p39 : lw_okq (⟨"TierPodsModel", "figure", "(I)I"⟩, 30) := ⟨⟨by decide +kernel, by decide +kernel⟩, List.mem_of_getElem? (i := 834) (by decide +kernel), List.mem_of_getElem? (i := 959) (by decide +kernel), List.mem_of_getElem? (i := 960) (by decide +kernel)⟩
theorem lw_p40 : lw_okq (⟨"TierPodsModel", "letterAt", "(I)I"⟩, 30) := ⟨⟨by decide +kernel, by decide +kernel⟩, List.mem_of_getElem? (i := 834) (by decide +kernel), List.mem_of_getElem? (i := 963) (by decide +kernel), List.mem_of_getElem? (i := 964) (by decide +kernel)⟩
theorem lw_p41 : lw_okq (⟨"TierPodsModel", "readsFlow", "(I)I"⟩, 30) := ⟨⟨by decide +kernel, by decide +kernel⟩, List.mem_of_getElem? (i := 834) (by decide +kernel), List.mem_of_getElem? (i := 967) (by decide +kernel), List.mem_of_getElem? (i := 968) (by decide +kernel)⟩
theorem lw_p42 : lw_okq (⟨"TierPodsModel", "readsHost", "(I)I"⟩, 30) := ⟨⟨by decide +kernel, by decide +kernel⟩, List.mem_of_getElem? (i := 834) (by decide +kernel), List.mem_of_getElem? (i := 971) (by decide +kernel), List.mem_of_getElem? (i := 972) (by decide +kernel)⟩
theorem lw_p43 : lw_okq (⟨"TierPodsModel", "number", "(II)I"⟩, 30) := ⟨⟨by decide +kernel, by decide +kernel⟩, List.mem_of_getElem? (i := 834) (by decide +kernel), List.mem_of_getElem? (i := 978) (by decide +kernel), List.mem_of_getElem? (i := 979) (by decide +kernel)⟩
theorem lw_p44 : lw_okq (⟨"TierPodsModel", "hosts", "()I"⟩, 30) := ⟨⟨by decide +kernel, by decide +kernel⟩, List.mem_of_getElem? (i := 834) (by decide +kernel), List.mem_of_getElem? (i := 986) (by decide +kernel), List.mem_of_getElem? (i := 987) (by decide +kernel)⟩
theorem lw_p45 : lw_okq (⟨"TierPodsModel", "isSwitch", "(I)Z"⟩, 30) := ⟨⟨by decide +kernel, by decide +kernel⟩, List.mem_of_getElem? (i := 834) (by decide +kernel), List.mem_of_getElem? (i := 998) (by decide +kernel), List.mem_of_getElem? (i := 999) (by decide +kernel)⟩
theorem lw_p46 : lw_okq (⟨"TierPodsModel", "switches", "()I"⟩, 30) := ⟨⟨by decide +kernel, by decide +kernel⟩, List.mem_of_getElem? (i := 834) (by decide +kernel), List.mem_of_getElem? (i := 1002) (by decide +kernel), List.mem_of_getElem? (i := 1003) (by decide +kernel)⟩
theorem lw_p47 : lw_okq (⟨"TierPodsModel", "tier", "(I)I"⟩, 30) := ⟨⟨by decide +kernel, by decide +kernel⟩, List.mem_of_getElem? (i := 834) (by decide +kernel), List.mem_of_getElem? (i := 1006) (by decide +kernel), List.mem_of_getElem? (i := 1007) (by decide +kernel)⟩
def lw_privs_3 : List (MethodName × Nat) := [(⟨"TierPods$Sharing", "removeSteps", "(I)V"⟩, 5), (⟨"TierPods$Sharing", "addStep", "(II)V"⟩, 5), (⟨"TierPods", "cutLinks", "()I"⟩, 12), (⟨"TierPodsModel", "begins", "(I)V"⟩, 30), (⟨"TierPodsModel", "knows", "(I)V"⟩, 30), (⟨"TierPodsModel", "reads", "()I"⟩, 30), (⟨"TierPodsModel", "readsItem", "(II)I"⟩, 30), (⟨"TierPodsModel", "figure", "(I)I"⟩, 30), (⟨"TierPodsModel", "letterAt", "(I)I"⟩, 30), (⟨"TierPodsModel", "readsFlow", "(I)I"⟩, 30), (⟨"TierPodsModel", "readsHost", "(I)I"⟩, 30), (⟨"TierPodsModel", "number", "(II)I"⟩, 30), (⟨"TierPodsModel", "hosts", "()I"⟩, 30), (⟨"TierPodsModel", "isSwitch", "(I)Z"⟩, 30), (⟨"TierPodsModel", "switches", "()I"⟩, 30), (⟨"TierPodsModel", "tier", "(I)I"⟩, 30)]
theorem lw_r3 : ∀ q ∈ lw_privs_3, lw_okq q := List.forall_mem_cons.mpr ⟨lw_p32, List.forall_mem_cons.mpr ⟨lw_p33, List.forall_mem_cons.mpr ⟨lw_p34, List.forall_mem_cons.mpr ⟨lw_p35, List.forall_mem_cons.mpr ⟨lw_p36, List.forall_mem_cons.mpr ⟨lw_p37, List.forall_mem_cons.mpr ⟨lw_p38, List.forall_mem_cons.mpr ⟨lw_p39, List.forall_mem_cons.mpr ⟨lw_p40, List.forall_mem_cons.mpr ⟨lw_p41, List.forall_mem_cons.mpr ⟨lw_p42, List.forall_mem_cons.mpr ⟨lw_p43, List.forall_mem_cons.mpr ⟨lw_p44, List.forall_mem_cons.mpr ⟨lw_p45, List.forall_mem_cons.mpr ⟨lw_p46, List.forall_mem_cons.mpr ⟨lw_p47, fun _ h => absurd h List.not_mem_nil⟩⟩⟩⟩⟩⟩⟩⟩⟩⟩⟩⟩⟩⟩⟩⟩
theorem lw_p48 : lw_okq (⟨"TierPodsModel", "edges", "()I"⟩, 30) := ⟨⟨by decide +kernel, by decide +kernel⟩, List.mem_of_getElem? (i := 834) (by decide +kernel), List.mem_of_getElem? (i := 1010) (by decide +kernel), List.mem_of_getElem? (i := 1011) (by decide +kernel)⟩
theorem lw_p49 : lw_okq (⟨"TierPodsModel", "links", "()I"⟩, 30) := ⟨⟨by decide +kernel, by decide +kernel⟩, List.mem_of_getElem? (i := 834) (by decide +kernel), List.mem_of_getElem? (i := 1014) (by decide +kernel), List.mem_of_getElem? (i := 1015) (by decide +kernel)⟩
theorem lw_p50 : lw_okq (⟨"TierPodsModel", "isEnd", "(II)Z"⟩, 30) := ⟨⟨by decide +kernel, by decide +kernel⟩, List.mem_of_getElem? (i := 834) (by decide +kernel), List.mem_of_getElem? (i := 1018) (by decide +kernel), List.mem_of_getElem? (i := 1019) (by decide +kernel)⟩
theorem lw_p51 : lw_okq (⟨"TierPodsModel", "lowerOf", "(I)I"⟩, 30) := ⟨⟨by decide +kernel, by decide +kernel⟩, List.mem_of_getElem? (i := 834) (by decide +kernel), List.mem_of_getElem? (i := 1022) (by decide +kernel), List.mem_of_getElem? (i := 1023) (by decide +kernel)⟩
theorem lw_p52 : lw_okq (⟨"TierPodsModel", "upperOf", "(I)I"⟩, 30) := ⟨⟨by decide +kernel, by decide +kernel⟩, List.mem_of_getElem? (i := 834) (by decide +kernel), List.mem_of_getElem? (i := 1026) (by decide +kernel), List.mem_of_getElem? (i := 1027) (by decide +kernel)⟩
theorem lw_p53 : lw_okq (⟨"TierPodsModel", "isWhole", "(I)Z"⟩, 30) := ⟨⟨by decide +kernel, by decide +kernel⟩, List.mem_of_getElem? (i := 834) (by decide +kernel), List.mem_of_getElem? (i := 1030) (by decide +kernel), List.mem_of_getElem? (i := 1031) (by decide +kernel)⟩
theorem lw_p54 : lw_okq (⟨"TierPodsModel", "isLink", "(I)Z"⟩, 30) := ⟨⟨by decide +kernel, by decide +kernel⟩, List.mem_of_getElem? (i := 834) (by decide +kernel), List.mem_of_getElem? (i := 1038) (by decide +kernel), List.mem_of_getElem? (i := 1039) (by decide +kernel)⟩
theorem lw_p55 : lw_okq (⟨"TierPodsModel", "keeps", "()V"⟩, 30) := ⟨⟨by decide +kernel, by decide +kernel⟩, List.mem_of_getElem? (i := 834) (by decide +kernel), List.mem_of_getElem? (i := 1050) (by decide +kernel), List.mem_of_getElem? (i := 1051) (by decide +kernel)⟩
theorem lw_p56 : lw_okq (⟨"TierPodsModel", "turns", "(I)V"⟩, 30) := ⟨⟨by decide +kernel, by decide +kernel⟩, List.mem_of_getElem? (i := 834) (by decide +kernel), List.mem_of_getElem? (i := 1054) (by decide +kernel), List.mem_of_getElem? (i := 1055) (by decide +kernel)⟩
theorem lw_p57 : lw_okq (⟨"TierPodsModel", "turnsAll", "(II)I"⟩, 30) := ⟨⟨by decide +kernel, by decide +kernel⟩, List.mem_of_getElem? (i := 834) (by decide +kernel), List.mem_of_getElem? (i := 1062) (by decide +kernel), List.mem_of_getElem? (i := 1063) (by decide +kernel)⟩
theorem lw_p58 : lw_okq (⟨"TierPodsModel", "spreads", "()I"⟩, 30) := ⟨⟨by decide +kernel, by decide +kernel⟩, List.mem_of_getElem? (i := 834) (by decide +kernel), List.mem_of_getElem? (i := 1074) (by decide +kernel), List.mem_of_getElem? (i := 1075) (by decide +kernel)⟩
theorem lw_p59 : lw_okq (⟨"TierPodsModel", "isHost", "(I)Z"⟩, 30) := ⟨⟨by decide +kernel, by decide +kernel⟩, List.mem_of_getElem? (i := 834) (by decide +kernel), List.mem_of_getElem? (i := 1090) (by decide +kernel), List.mem_of_getElem? (i := 1091) (by decide +kernel)⟩
theorem lw_p60 : lw_okq (⟨"TierPodsModel", "isShift", "(I)Z"⟩, 30) := ⟨⟨by decide +kernel, by decide +kernel⟩, List.mem_of_getElem? (i := 834) (by decide +kernel), List.mem_of_getElem? (i := 1094) (by decide +kernel), List.mem_of_getElem? (i := 1095) (by decide +kernel)⟩
theorem lw_p61 : lw_okq (⟨"TierPodsModel", "goes", "(III)I"⟩, 30) := ⟨⟨by decide +kernel, by decide +kernel⟩, List.mem_of_getElem? (i := 834) (by decide +kernel), List.mem_of_getElem? (i := 1098) (by decide +kernel), List.mem_of_getElem? (i := 1099) (by decide +kernel)⟩
theorem lw_p62 : lw_okq (⟨"TierPodsModel", "fromEdge", "(III)I"⟩, 30) := ⟨⟨by decide +kernel, by decide +kernel⟩, List.mem_of_getElem? (i := 834) (by decide +kernel), List.mem_of_getElem? (i := 1102) (by decide +kernel), List.mem_of_getElem? (i := 1103) (by decide +kernel)⟩
theorem lw_p63 : lw_okq (⟨"TierPodsModel", "low", "(III)I"⟩, 30) := ⟨⟨by decide +kernel, by decide +kernel⟩, List.mem_of_getElem? (i := 834) (by decide +kernel), List.mem_of_getElem? (i := 1106) (by decide +kernel), List.mem_of_getElem? (i := 1107) (by decide +kernel)⟩
def lw_privs_4 : List (MethodName × Nat) := [(⟨"TierPodsModel", "edges", "()I"⟩, 30), (⟨"TierPodsModel", "links", "()I"⟩, 30), (⟨"TierPodsModel", "isEnd", "(II)Z"⟩, 30), (⟨"TierPodsModel", "lowerOf", "(I)I"⟩, 30), (⟨"TierPodsModel", "upperOf", "(I)I"⟩, 30), (⟨"TierPodsModel", "isWhole", "(I)Z"⟩, 30), (⟨"TierPodsModel", "isLink", "(I)Z"⟩, 30), (⟨"TierPodsModel", "keeps", "()V"⟩, 30), (⟨"TierPodsModel", "turns", "(I)V"⟩, 30), (⟨"TierPodsModel", "turnsAll", "(II)I"⟩, 30), (⟨"TierPodsModel", "spreads", "()I"⟩, 30), (⟨"TierPodsModel", "isHost", "(I)Z"⟩, 30), (⟨"TierPodsModel", "isShift", "(I)Z"⟩, 30), (⟨"TierPodsModel", "goes", "(III)I"⟩, 30), (⟨"TierPodsModel", "fromEdge", "(III)I"⟩, 30), (⟨"TierPodsModel", "low", "(III)I"⟩, 30)]
theorem lw_r4 : ∀ q ∈ lw_privs_4, lw_okq q := List.forall_mem_cons.mpr ⟨lw_p48, List.forall_mem_cons.mpr ⟨lw_p49, List.forall_mem_cons.mpr ⟨lw_p50, List.forall_mem_cons.mpr ⟨lw_p51, List.forall_mem_cons.mpr ⟨lw_p52, List.forall_mem_cons.mpr ⟨lw_p53, List.forall_mem_cons.mpr ⟨lw_p54, List.forall_mem_cons.mpr ⟨lw_p55, List.forall_mem_cons.mpr ⟨lw_p56, List.forall_mem_cons.mpr ⟨lw_p57, List.forall_mem_cons.mpr ⟨lw_p58, List.forall_mem_cons.mpr ⟨lw_p59, List.forall_mem_cons.mpr ⟨lw_p60, List.forall_mem_cons.mpr ⟨lw_p61, List.forall_mem_cons.mpr ⟨lw_p62, List.forall_mem_cons.mpr ⟨lw_p63, fun _ h => absurd h List.not_mem_nil⟩⟩⟩⟩⟩⟩⟩⟩⟩⟩⟩⟩⟩⟩⟩⟩
theorem lw_p64 : lw_okq (⟨"TierPodsModel", "isKnown", "(II)Z"⟩, 30) := ⟨⟨by decide +kernel, by decide +kernel⟩, List.mem_of_getElem? (i := 834) (by decide +kernel), List.mem_of_getElem? (i := 1110) (by decide +kernel), List.mem_of_getElem? (i := 1111) (by decide +kernel)⟩
theorem lw_p65 : lw_okq (⟨"TierPodsModel", "high", "(III)I"⟩, 30) := ⟨⟨by decide +kernel, by decide +kernel⟩, List.mem_of_getElem? (i := 834) (by decide +kernel), List.mem_of_getElem? (i := 1114) (by decide +kernel), List.mem_of_getElem? (i := 1115) (by decide +kernel)⟩
theorem lw_p66 : lw_okq (⟨"TierPodsModel", "fromMiddle", "(III)I"⟩, 30) := ⟨⟨by decide +kernel, by decide +kernel⟩, List.mem_of_getElem? (i := 834) (by decide +kernel), List.mem_of_getElem? (i := 1118) (by decide +kernel), List.mem_of_getElem? (i := 1119) (by decide +kernel)⟩
theorem lw_p67 : lw_okq (⟨"TierPodsModel", "areTwo", "(II)Z"⟩, 30) := ⟨⟨by decide +kernel, by decide +kernel⟩, List.mem_of_getElem? (i := 834) (by decide +kernel), List.mem_of_getElem? (i := 1126) (by decide +kernel), List.mem_of_getElem? (i := 1127) (by decide +kernel)⟩
theorem lw_p68 : lw_okq (⟨"TierPodsModel", "sends", "(III)V"⟩, 30) := ⟨⟨by decide +kernel, by decide +kernel⟩, List.mem_of_getElem? (i := 834) (by decide +kernel), List.mem_of_getElem? (i := 1130) (by decide +kernel), List.mem_of_getElem? (i := 1131) (by decide +kernel)⟩
theorem lw_p69 : lw_okq (⟨"TierPodsModel", "waysOf", "(II)I"⟩, 30) := ⟨⟨by decide +kernel, by decide +kernel⟩, List.mem_of_getElem? (i := 834) (by decide +kernel), List.mem_of_getElem? (i := 1142) (by decide +kernel), List.mem_of_getElem? (i := 1143) (by decide +kernel)⟩
theorem lw_p70 : lw_okq (⟨"TierPodsModel", "counts", "()V"⟩, 30) := ⟨⟨by decide +kernel, by decide +kernel⟩, List.mem_of_getElem? (i := 834) (by decide +kernel), List.mem_of_getElem? (i := 1159) (by decide +kernel), List.mem_of_getElem? (i := 1160) (by decide +kernel)⟩
theorem lw_p71 : lw_okq (⟨"TierPodsModel", "adds", "(I)V"⟩, 30) := ⟨⟨by decide +kernel, by decide +kernel⟩, List.mem_of_getElem? (i := 834) (by decide +kernel), List.mem_of_getElem? (i := 1163) (by decide +kernel), List.mem_of_getElem? (i := 1164) (by decide +kernel)⟩
theorem lw_p72 : lw_okq (⟨"TierPodsModel", "isFlow", "(I)Z"⟩, 30) := ⟨⟨by decide +kernel, by decide +kernel⟩, List.mem_of_getElem? (i := 834) (by decide +kernel), List.mem_of_getElem? (i := 1175) (by decide +kernel), List.mem_of_getElem? (i := 1176) (by decide +kernel)⟩
theorem lw_p73 : lw_okq (⟨"TierPodsModel", "measures", "()V"⟩, 30) := ⟨⟨by decide +kernel, by decide +kernel⟩, List.mem_of_getElem? (i := 834) (by decide +kernel), List.mem_of_getElem? (i := 1187) (by decide +kernel), List.mem_of_getElem? (i := 1188) (by decide +kernel)⟩
theorem lw_p74 : lw_okq (⟨"TierPodsModel", "sendsFlow", "(I)V"⟩, 30) := ⟨⟨by decide +kernel, by decide +kernel⟩, List.mem_of_getElem? (i := 834) (by decide +kernel), List.mem_of_getElem? (i := 1191) (by decide +kernel), List.mem_of_getElem? (i := 1192) (by decide +kernel)⟩
theorem lw_p75 : lw_okq (⟨"TierPodsModel", "leastShare", "()I"⟩, 30) := ⟨⟨by decide +kernel, by decide +kernel⟩, List.mem_of_getElem? (i := 834) (by decide +kernel), List.mem_of_getElem? (i := 1204) (by decide +kernel), List.mem_of_getElem? (i := 1205) (by decide +kernel)⟩
theorem lw_p76 : lw_okq (⟨"TierPodsModel", "best", "(I)V"⟩, 30) := ⟨⟨by decide +kernel, by decide +kernel⟩, List.mem_of_getElem? (i := 834) (by decide +kernel), List.mem_of_getElem? (i := 1216) (by decide +kernel), List.mem_of_getElem? (i := 1217) (by decide +kernel)⟩
def lw_privs_5 : List (MethodName × Nat) := [(⟨"TierPodsModel", "isKnown", "(II)Z"⟩, 30), (⟨"TierPodsModel", "high", "(III)I"⟩, 30), (⟨"TierPodsModel", "fromMiddle", "(III)I"⟩, 30), (⟨"TierPodsModel", "areTwo", "(II)Z"⟩, 30), (⟨"TierPodsModel", "sends", "(III)V"⟩, 30), (⟨"TierPodsModel", "waysOf", "(II)I"⟩, 30), (⟨"TierPodsModel", "counts", "()V"⟩, 30), (⟨"TierPodsModel", "adds", "(I)V"⟩, 30), (⟨"TierPodsModel", "isFlow", "(I)Z"⟩, 30), (⟨"TierPodsModel", "measures", "()V"⟩, 30), (⟨"TierPodsModel", "sendsFlow", "(I)V"⟩, 30), (⟨"TierPodsModel", "leastShare", "()I"⟩, 30), (⟨"TierPodsModel", "best", "(I)V"⟩, 30)]
theorem lw_r5 : ∀ q ∈ lw_privs_5, lw_okq q := List.forall_mem_cons.mpr ⟨lw_p64, List.forall_mem_cons.mpr ⟨lw_p65, List.forall_mem_cons.mpr ⟨lw_p66, List.forall_mem_cons.mpr ⟨lw_p67, List.forall_mem_cons.mpr ⟨lw_p68, List.forall_mem_cons.mpr ⟨lw_p69, List.forall_mem_cons.mpr ⟨lw_p70, List.forall_mem_cons.mpr ⟨lw_p71, List.forall_mem_cons.mpr ⟨lw_p72, List.forall_mem_cons.mpr ⟨lw_p73, List.forall_mem_cons.mpr ⟨lw_p74, List.forall_mem_cons.mpr ⟨lw_p75, List.forall_mem_cons.mpr ⟨lw_p76, fun _ h => absurd h List.not_mem_nil⟩⟩⟩⟩⟩⟩⟩⟩⟩⟩⟩⟩⟩
def lw_privs : List (MethodName × Nat) := lw_privs_1 ++ (lw_privs_2 ++ (lw_privs_3 ++ (lw_privs_4 ++ (lw_privs_5))))
def lw_tbl : List Cond := k2_sels lw_privs ++ tables_1
theorem lw_privs_ok : ∀ q ∈ lw_privs, lw_okq q := by
  show ∀ q ∈ lw_privs_1 ++ (lw_privs_2 ++ (lw_privs_3 ++ (lw_privs_4 ++ (lw_privs_5)))), lw_okq q
  exact List.forall_mem_append.mpr ⟨lw_r1, List.forall_mem_append.mpr ⟨lw_r2, List.forall_mem_append.mpr ⟨lw_r3, List.forall_mem_append.mpr ⟨lw_r4, lw_r5⟩⟩⟩⟩
end
section
/-! ===== THE PURE MACHINE: virtual heaps, ints as numbers, one step ===== -/
/-- a value: a number, or a reference (a virtual address, or null) -/
abbrev VV : Type := Int ⊕ Option Nat
/-- a virtual heap: shapes (kind, length) by address: kind 0 an int array, 1 a char array, c + 2 an object of class c; ref fields; int fields and array elements -/
abbrev Hp : Type := List (Nat × Nat) × (Nat → Nat → Option Nat) × (Nat → Int → Int)
/-- tag, three numbers, a number, a list -/
abbrev Op : Type := Nat × Nat × Nat × Nat × Int × List Nat
/-- pc, locals, stack, heap, cells and slots that may still be made -/
abbrev St : Type := Nat × List VV × List VV × Hp × Nat × Nat
abbrev inR (z : Int) : Prop := -2147483648 ≤ z ∧ z < 2147483648
def upF (f : Int → Int) (i v : Int) : Int → Int := fun j => if j = i then v else f j
def upA (I : Nat → Int → Int) (a : Nat) (f : Int → Int) : Nat → Int → Int := fun b => if b = a then f else I b
def upK (f : Nat → Option Nat) (k : Nat) (v : Option Nat) : Nat → Option Nat := fun j => if j = k then v else f j
def upR (R : Nat → Nat → Option Nat) (a : Nat) (f : Nat → Option Nat) : Nat → Nat → Option Nat := fun b => if b = a then f else R b
def cpF (f g : Int → Int) (sp dp n : Int) : Int → Int := fun j => if dp ≤ j ∧ j < dp + n then f (sp + (j - dp)) else g j
/-- the text constant, the script: references outside the virtual heap -/
abbrev STR : Nat := 1000000
abbrev SCR : Nat := 1000001
def n_iload (a pc : Nat) (ls st : List VV) (h : Hp) (bc bs : Nat) (t : St) : Prop := ∃ v, ls[a]? = some (.inl v) ∧ t = (pc + (if a < 4 then 1 else 2), ls, .inl v :: st, h, bc, bs)
def n_aload (a pc : Nat) (ls st : List VV) (h : Hp) (bc bs : Nat) (t : St) : Prop := ∃ v, ls[a]? = some (.inr (some v)) ∧ t = (pc + (if a < 4 then 1 else 2), ls, .inr (some v) :: st, h, bc, bs)
def n_istore (a pc : Nat) (ls st : List VV) (h : Hp) (bc bs : Nat) (t : St) : Prop := ∃ v st', st = .inl v :: st' ∧ a < ls.length ∧ t = (pc + (if a < 4 then 1 else 2), ls.set a (.inl v), st', h, bc, bs)
def n_astore (a pc : Nat) (ls st : List VV) (h : Hp) (bc bs : Nat) (t : St) : Prop := ∃ v st', st = .inr (some v) :: st' ∧ a < ls.length ∧ t = (pc + (if a < 4 then 1 else 2), ls.set a (.inr (some v)), st', h, bc, bs)
/-- a constant: z, the instruction's length n -/
def n_const (n : Nat) (z : Int) (pc : Nat) (ls st : List VV) (h : Hp) (bc bs : Nat) (t : St) : Prop := t = (pc + n, ls, .inl z :: st, h, bc, bs)
def n_bin (f : Int → Int → Int) (P : Int → Int → Prop) (pc : Nat) (ls st : List VV) (h : Hp) (bc bs : Nat) (t : St) : Prop := ∃ x y st', st = .inl y :: .inl x :: st' ∧ P x y ∧ t = (pc + 1, ls, .inl (f x y) :: st', h, bc, bs)
def n_iinc (a : Nat) (z : Int) (pc : Nat) (ls st : List VV) (h : Hp) (bc bs : Nat) (t : St) : Prop := ∃ v, ls[a]? = some (.inl v) ∧ inR (v + z) ∧ t = (pc + 3, ls.set a (.inl (v + z)), st, h, bc, bs)
def n_i2c (pc : Nat) (ls st : List VV) (h : Hp) (bc bs : Nat) (t : St) : Prop := ∃ x st', st = .inl x :: st' ∧ (0 ≤ x ∧ x < 65536) ∧ t = (pc + 1, ls, .inl x :: st', h, bc, bs)
def n_dup (pc : Nat) (ls st : List VV) (h : Hp) (bc bs : Nat) (t : St) : Prop := ∃ v st', st = v :: st' ∧ t = (pc + 1, ls, v :: v :: st', h, bc, bs)
def n_dup2 (pc : Nat) (ls st : List VV) (h : Hp) (bc bs : Nat) (t : St) : Prop := ∃ v w st', st = v :: w :: st' ∧ t = (pc + 1, ls, v :: w :: v :: w :: st', h, bc, bs)
def n_pop (pc : Nat) (ls st : List VV) (h : Hp) (bc bs : Nat) (t : St) : Prop := ∃ v st', st = v :: st' ∧ t = (pc + 1, ls, st', h, bc, bs)
def n_goto (a : Nat) (ls st : List VV) (h : Hp) (bc bs : Nat) (t : St) : Prop := t = (a, ls, st, h, bc, bs)
def n_if (P : Int → Prop) (a pc : Nat) (ls st : List VV) (h : Hp) (bc bs : Nat) (t : St) : Prop := ∃ x st', st = .inl x :: st' ∧ ((P x ∧ t = (a, ls, st', h, bc, bs)) ∨ (¬ P x ∧ t = (pc + 3, ls, st', h, bc, bs)))
def n_icmp (P : Int → Int → Prop) (a pc : Nat) (ls st : List VV) (h : Hp) (bc bs : Nat) (t : St) : Prop := ∃ x y st', st = .inl y :: .inl x :: st' ∧ ((P x y ∧ t = (a, ls, st', h, bc, bs)) ∨ (¬ P x y ∧ t = (pc + 3, ls, st', h, bc, bs)))
def n_getI (ci k pc : Nat) (ls st : List VV) (h : Hp) (bc bs : Nat) (t : St) : Prop := ∃ o n st', st = .inr (some o) :: st' ∧ h.1[o]? = some (ci + 2, n) ∧ t = (pc + 3, ls, .inl (h.2.2 o k) :: st', h, bc, bs)
def n_getR (ci k pc : Nat) (ls st : List VV) (h : Hp) (bc bs : Nat) (t : St) : Prop := ∃ o n st', st = .inr (some o) :: st' ∧ h.1[o]? = some (ci + 2, n) ∧ t = (pc + 3, ls, .inr (h.2.1 o k) :: st', h, bc, bs)
def n_putI (P : Int → Prop) (ci k pc : Nat) (ls st : List VV) (h : Hp) (bc bs : Nat) (t : St) : Prop := ∃ o n v st', st = .inl v :: .inr (some o) :: st' ∧ h.1[o]? = some (ci + 2, n) ∧ P v ∧ t = (pc + 3, ls, st', (h.1, h.2.1, upA h.2.2 o (upF (h.2.2 o) k v)), bc, bs)
def n_putR (ci k pc : Nat) (ls st : List VV) (h : Hp) (bc bs : Nat) (t : St) : Prop := ∃ o n v st', st = .inr (some v) :: .inr (some o) :: st' ∧ h.1[o]? = some (ci + 2, n) ∧ v < h.1.length ∧ t = (pc + 3, ls, st', (h.1, upR h.2.1 o (upK (h.2.1 o) k (some v)), h.2.2), bc, bs)
def n_ald (kd pc : Nat) (ls st : List VV) (h : Hp) (bc bs : Nat) (t : St) : Prop := ∃ (i : Int) (o n : Nat) (st' : List VV), st = .inl i :: .inr (some o) :: st' ∧ h.1[o]? = some (kd, n) ∧ (0 ≤ i ∧ i < n) ∧ t = (pc + 1, ls, .inl (h.2.2 o i) :: st', h, bc, bs)
def n_ast (kd : Nat) (P : Int → Prop) (pc : Nat) (ls st : List VV) (h : Hp) (bc bs : Nat) (t : St) : Prop := ∃ (i v : Int) (o n : Nat) (st' : List VV), st = .inl v :: .inl i :: .inr (some o) :: st' ∧ h.1[o]? = some (kd, n) ∧ (0 ≤ i ∧ i < n) ∧ P v ∧ t = (pc + 1, ls, st', (h.1, h.2.1, upA h.2.2 o (upF (h.2.2 o) i v)), bc, bs)
def n_alen (pc : Nat) (ls st : List VV) (h : Hp) (bc bs : Nat) (t : St) : Prop := ∃ (o n : Nat) (st' : List VV), st = .inr (some o) :: st' ∧ h.1[o]? = some (0, n) ∧ t = (pc + 1, ls, .inl (n : Int) :: st', h, bc, bs)
def n_newa (kd pc : Nat) (ls st : List VV) (h : Hp) (bc bs : Nat) (t : St) : Prop := ∃ (n : Nat) (st' : List VV), st = .inl (n : Int) :: st' ∧ n ≤ 100000 ∧ 1 ≤ bc ∧ n ≤ bs ∧ h.1.length < 1000 ∧ t = (pc + 2, ls, .inr (some h.1.length) :: st', (h.1 ++ [(kd, n)], upR h.2.1 h.1.length (fun _ => none), upA h.2.2 h.1.length (fun _ => 0)), bc - 1, bs - n)
def n_new (ci N pc : Nat) (ls st : List VV) (h : Hp) (bc bs : Nat) (t : St) : Prop := 1 ≤ bc ∧ N ≤ bs ∧ h.1.length < 1000 ∧ t = (pc + 3, ls, .inr (some h.1.length) :: st, (h.1 ++ [(ci + 2, N)], upR h.2.1 h.1.length (fun _ => none), upA h.2.2 h.1.length (fun _ => 0)), bc - 1, bs - N)
def n_objI (pc : Nat) (ls st : List VV) (h : Hp) (bc bs : Nat) (t : St) : Prop := ∃ (o : Nat) (st' : List VV), st = .inr (some o) :: st' ∧ st'.length ≤ 8 ∧ t = (pc + 3, ls, st', h, bc, bs)
def n_copy (pc : Nat) (ls st : List VV) (h : Hp) (bc bs : Nat) (t : St) : Prop := ∃ (n dp sp : Int) (a b na nb : Nat) (st' : List VV), st = .inl n :: .inl dp :: .inr (some b) :: .inl sp :: .inr (some a) :: st' ∧ h.1[a]? = some (0, na) ∧ h.1[b]? = some (0, nb) ∧ 0 ≤ n ∧ 0 ≤ sp ∧ 0 ≤ dp ∧ sp + n ≤ na ∧ dp + n ≤ nb ∧ st'.length ≤ 8 ∧ t = (pc + 3, ls, st', (h.1, h.2.1, upA h.2.2 b (cpF (h.2.2 a) (h.2.2 b) sp dp n)), bc, bs)
def n_swt (a : Nat) (tg : List Nat) (ls st : List VV) (h : Hp) (bc bs : Nat) (t : St) : Prop := ∃ x st', st = .inl x :: st' ∧ (((x < 0 ∨ (tg.length : Int) ≤ x) ∧ t = (a, ls, st', h, bc, bs)) ∨ ∃ (k b : Nat), x = (k : Int) ∧ tg[k]? = some b ∧ t = (b, ls, st', h, bc, bs))
/-- the first text: its letters -/
def txt0 : List Nat := [107, 52, 59, 102, 48, 46, 48, 46, 48, 62, 50, 46, 49, 46, 49, 44, 57, 59, 102, 48, 46, 49, 46, 48, 62, 50, 46, 49, 46, 48, 44, 53, 59, 102, 49, 46, 48, 46, 49, 62, 49, 46, 49, 46, 48, 44, 55, 59, 102, 51, 46, 49, 46, 49, 62, 48, 46, 48, 46, 49, 44, 51, 48, 59, 120, 53, 59]
def n_ldcS (pc : Nat) (ls st : List VV) (h : Hp) (bc bs : Nat) (t : St) : Prop := t = (pc + 2, ls, .inr (some STR) :: st, h, bc, bs)
def n_sLen (pc : Nat) (ls st : List VV) (h : Hp) (bc bs : Nat) (t : St) : Prop := ∃ st', st = .inr (some STR) :: st' ∧ st'.length ≤ 8 ∧ t = (pc + 3, ls, .inl 67 :: st', h, bc, bs)
def n_sCh (pc : Nat) (ls st : List VV) (h : Hp) (bc bs : Nat) (t : St) : Prop := ∃ (i b : Nat) (st' : List VV), st = .inl (i : Int) :: .inr (some STR) :: st' ∧ st'.length ≤ 8 ∧ txt0[i]? = some b ∧ t = (pc + 3, ls, .inl (b : Int) :: st', h, bc, bs)
def n_sld (X : Nat × (Int → Int)) (pc : Nat) (ls st : List VV) (h : Hp) (bc bs : Nat) (t : St) : Prop := ∃ (i : Int) (st' : List VV), st = .inl i :: .inr (some SCR) :: st' ∧ (0 ≤ i ∧ i < X.1) ∧ t = (pc + 1, ls, .inl (X.2 i) :: st', h, bc, bs)
def n_slen (X : Nat × (Int → Int)) (pc : Nat) (ls st : List VV) (h : Hp) (bc bs : Nat) (t : St) : Prop := ∃ st', st = .inr (some SCR) :: st' ∧ t = (pc + 1, ls, .inl (X.1 : Int) :: st', h, bc, bs)
def n_mm (f : Int → Int → Int) (pc : Nat) (ls st : List VV) (h : Hp) (bc bs : Nat) (t : St) : Prop := ∃ x y st', st = .inl y :: .inl x :: st' ∧ st'.length ≤ 8 ∧ t = (pc + 3, ls, .inl (f x y) :: st', h, bc, bs)
/-- one step that is no call and no return -/
def nx (X : Nat × (Int → Int)) (o : Op) (pc : Nat) (ls st : List VV) (h : Hp) (bc bs : Nat) (t : St) : Prop :=
  if o.1 = 0 then n_iload o.2.1 pc ls st h bc bs t else
  if o.1 = 1 then n_aload o.2.1 pc ls st h bc bs t else
  if o.1 = 2 then n_istore o.2.1 pc ls st h bc bs t else
  if o.1 = 3 then n_astore o.2.1 pc ls st h bc bs t else
  if o.1 = 4 then n_const 1 o.2.2.2.2.1 pc ls st h bc bs t else
  if o.1 = 5 then n_const 2 o.2.2.2.2.1 pc ls st h bc bs t else
  if o.1 = 6 then n_const 3 o.2.2.2.2.1 pc ls st h bc bs t else
  if o.1 = 7 then n_const 2 o.2.2.2.2.1 pc ls st h bc bs t else
  if o.1 = 8 then n_bin (fun x y => x + y) (fun x y => inR (x + y)) pc ls st h bc bs t else
  if o.1 = 9 then n_bin (fun x y => x - y) (fun x y => inR (x - y)) pc ls st h bc bs t else
  if o.1 = 10 then n_bin (fun x y => x * y) (fun x y => inR (x * y)) pc ls st h bc bs t else
  if o.1 = 11 then n_bin (fun x y => x / y) (fun x y => 0 ≤ x ∧ 0 < y) pc ls st h bc bs t else
  if o.1 = 12 then n_bin (fun x y => x % y) (fun x y => 0 ≤ x ∧ 0 < y) pc ls st h bc bs t else
  if o.1 = 13 then n_iinc o.2.1 o.2.2.2.2.1 pc ls st h bc bs t else
  if o.1 = 14 then n_bin (fun x _ => x % 32) (fun _ y => y = 31) pc ls st h bc bs t else
  if o.1 = 15 then n_i2c pc ls st h bc bs t else
  if o.1 = 16 then n_dup pc ls st h bc bs t else
  if o.1 = 17 then n_dup2 pc ls st h bc bs t else
  if o.1 = 18 then n_pop pc ls st h bc bs t else
  if o.1 = 19 then n_goto o.2.1 ls st h bc bs t else
  if o.1 = 20 then n_if (fun x => x = 0) o.2.1 pc ls st h bc bs t else
  if o.1 = 21 then n_if (fun x => x ≠ 0) o.2.1 pc ls st h bc bs t else
  if o.1 = 22 then n_if (fun x => x < 0) o.2.1 pc ls st h bc bs t else
  if o.1 = 23 then n_if (fun x => 0 ≤ x) o.2.1 pc ls st h bc bs t else
  if o.1 = 24 then n_if (fun x => 0 < x) o.2.1 pc ls st h bc bs t else
  if o.1 = 25 then n_if (fun x => x ≤ 0) o.2.1 pc ls st h bc bs t else
  if o.1 = 26 then n_icmp (fun x y => x = y) o.2.1 pc ls st h bc bs t else
  if o.1 = 27 then n_icmp (fun x y => x ≠ y) o.2.1 pc ls st h bc bs t else
  if o.1 = 28 then n_icmp (fun x y => x < y) o.2.1 pc ls st h bc bs t else
  if o.1 = 29 then n_icmp (fun x y => y ≤ x) o.2.1 pc ls st h bc bs t else
  if o.1 = 30 then n_icmp (fun x y => y < x) o.2.1 pc ls st h bc bs t else
  if o.1 = 31 then n_icmp (fun x y => x ≤ y) o.2.1 pc ls st h bc bs t else
  if o.1 = 32 then n_getI o.2.2.1 o.2.2.2.1 pc ls st h bc bs t else
  if o.1 = 33 then n_getR o.2.2.1 o.2.2.2.1 pc ls st h bc bs t else
  if o.1 = 34 then n_putI (fun _ => True) o.2.2.1 o.2.2.2.1 pc ls st h bc bs t else
  if o.1 = 35 then n_putI (fun v => v = 0 ∨ v = 1) o.2.2.1 o.2.2.2.1 pc ls st h bc bs t else
  if o.1 = 36 then n_putR o.2.2.1 o.2.2.2.1 pc ls st h bc bs t else
  if o.1 = 37 then n_putR o.2.2.1 o.2.2.2.1 pc ls st h bc bs t else
  if o.1 = 38 then n_ald 0 pc ls st h bc bs t else
  if o.1 = 39 then n_ast 0 (fun _ => True) pc ls st h bc bs t else
  if o.1 = 40 then n_ald 1 pc ls st h bc bs t else
  if o.1 = 41 then n_ast 1 (fun v => 0 ≤ v ∧ v < 65536) pc ls st h bc bs t else
  if o.1 = 42 then n_alen pc ls st h bc bs t else
  if o.1 = 43 then n_newa 0 pc ls st h bc bs t else
  if o.1 = 44 then n_newa 1 pc ls st h bc bs t else
  if o.1 = 45 then n_new o.2.2.1 o.2.2.2.1 pc ls st h bc bs t else
  if o.1 = 49 then n_objI pc ls st h bc bs t else
  if o.1 = 50 then n_copy pc ls st h bc bs t else
  if o.1 = 51 then n_swt o.2.1 o.2.2.2.2.2 ls st h bc bs t else
  if o.1 = 54 then n_ldcS pc ls st h bc bs t else
  if o.1 = 55 then n_sLen pc ls st h bc bs t else
  if o.1 = 56 then n_sCh pc ls st h bc bs t else
  if o.1 = 57 then n_sld X pc ls st h bc bs t else
  if o.1 = 58 then n_slen X pc ls st h bc bs t else
  if o.1 = 61 then n_mm max pc ls st h bc bs t else
  if o.1 = 62 then n_mm min pc ls st h bc bs t else False
/-- the instruction that an op stands for -/
def ins (pc : Nat) (o : Op) : Instr × Nat :=
  if o.1 = 0 then (if o.2.1 < 4 then (.iload_n (Fin.ofNat 4 o.2.1), 1) else (.iload o.2.1, 2)) else
  if o.1 = 1 then (if o.2.1 < 4 then (.aload_n (Fin.ofNat 4 o.2.1), 1) else (.aload o.2.1, 2)) else
  if o.1 = 2 then (if o.2.1 < 4 then (.istore_n (Fin.ofNat 4 o.2.1), 1) else (.istore o.2.1, 2)) else
  if o.1 = 3 then (if o.2.1 < 4 then (.astore_n (Fin.ofNat 4 o.2.1), 1) else (.astore o.2.1, 2)) else
  if o.1 = 4 then (.iconst o.2.2.2.2.1, 1) else
  if o.1 = 5 then (.bipush o.2.2.2.2.1, 2) else
  if o.1 = 6 then (.sipush o.2.2.2.2.1, 3) else
  if o.1 = 7 then (.ldc o.2.1, 2) else
  if o.1 = 8 then (.iadd, 1) else
  if o.1 = 9 then (.isub, 1) else
  if o.1 = 10 then (.imul, 1) else
  if o.1 = 11 then (.idiv, 1) else
  if o.1 = 12 then (.irem, 1) else
  if o.1 = 13 then (.iinc o.2.1 o.2.2.2.2.1, 3) else
  if o.1 = 14 then (.iand, 1) else
  if o.1 = 15 then (.i2c, 1) else
  if o.1 = 16 then (.dup, 1) else
  if o.1 = 17 then (.dup2, 1) else
  if o.1 = 18 then (.pop, 1) else
  if o.1 = 19 then (.goto ((o.2.1 : Int) - pc), 3) else
  if o.1 = 20 then (.ifCond .eq ((o.2.1 : Int) - pc), 3) else
  if o.1 = 21 then (.ifCond .ne ((o.2.1 : Int) - pc), 3) else
  if o.1 = 22 then (.ifCond .lt ((o.2.1 : Int) - pc), 3) else
  if o.1 = 23 then (.ifCond .ge ((o.2.1 : Int) - pc), 3) else
  if o.1 = 24 then (.ifCond .gt ((o.2.1 : Int) - pc), 3) else
  if o.1 = 25 then (.ifCond .le ((o.2.1 : Int) - pc), 3) else
  if o.1 = 26 then (.if_icmp .eq ((o.2.1 : Int) - pc), 3) else
  if o.1 = 27 then (.if_icmp .ne ((o.2.1 : Int) - pc), 3) else
  if o.1 = 28 then (.if_icmp .lt ((o.2.1 : Int) - pc), 3) else
  if o.1 = 29 then (.if_icmp .ge ((o.2.1 : Int) - pc), 3) else
  if o.1 = 30 then (.if_icmp .gt ((o.2.1 : Int) - pc), 3) else
  if o.1 = 31 then (.if_icmp .le ((o.2.1 : Int) - pc), 3) else
  if o.1 = 32 then (.getfield o.2.1, 3) else
  if o.1 = 33 then (.getfield o.2.1, 3) else
  if o.1 = 34 then (.putfield o.2.1, 3) else
  if o.1 = 35 then (.putfield o.2.1, 3) else
  if o.1 = 36 then (.putfield o.2.1, 3) else
  if o.1 = 37 then (.putfield o.2.1, 3) else
  if o.1 = 38 then (.iaload, 1) else
  if o.1 = 39 then (.iastore, 1) else
  if o.1 = 40 then (.caload, 1) else
  if o.1 = 41 then (.castore, 1) else
  if o.1 = 42 then (.arraylength, 1) else
  if o.1 = 43 then (.newarray .int, 2) else
  if o.1 = 44 then (.newarray .char, 2) else
  if o.1 = 45 then (.new o.2.1, 3) else
  if o.1 = 46 then (.invokevirtual o.2.1, 3) else
  if o.1 = 47 then (.invokestatic o.2.1, 3) else
  if o.1 = 48 then (.invokespecial o.2.1, 3) else
  if o.1 = 49 then (.invokespecial o.2.1, 3) else
  if o.1 = 50 then (.invokestatic o.2.1, 3) else
  if o.1 = 51 then (.tableswitch ((o.2.1 : Int) - pc) 0 ((o.2.2.2.2.2.length : Int) - 1) (o.2.2.2.2.2.map (fun t : Nat => (t : Int) - pc)).toArray, 1 + (3 - pc % 4) + 12 + 4 * o.2.2.2.2.2.length) else
  if o.1 = 52 then (.ireturn, 1) else
  if o.1 = 53 then (.return_, 1) else
  if o.1 = 54 then (.ldc o.2.1, 2) else
  if o.1 = 55 then (.invokevirtual o.2.1, 3) else
  if o.1 = 56 then (.invokevirtual o.2.1, 3) else
  if o.1 = 57 then (.iaload, 1) else
  if o.1 = 58 then (.arraylength, 1) else
  if o.1 = 59 then (.invokespecial o.2.1, 3) else
  if o.1 = 60 then (.invokestatic o.2.1, 3) else
  if o.1 = 61 then (.invokestatic o.2.1, 3) else
  if o.1 = 62 then (.invokestatic o.2.1, 3) else (.nop, 1)
end
section
/-! ===== THE TABLES: classes, methods, links, by program (wip/whole/print_tables.py) ===== -/
def wl : List Cond := lw_tbl.filter goodWord
theorem wl_t (i : Nat) {w : Cond} (h : tables_1[i]? = some w) (hg : goodWord w = true) : w ∈ wl := List.mem_filter.mpr ⟨List.mem_append_right _ (List.mem_of_getElem? h), hg⟩
theorem wl_s (i : Nat) {w : Cond} (h : (k2_sels lw_privs)[i]? = some w) (hg : goodWord w = true) : w ∈ wl := List.mem_filter.mpr ⟨List.mem_append_left _ (List.mem_of_getElem? h), hg⟩
def T_0 : u_T := fun k => match k with
  | 0 => ("TierPods$AllPairs", "shape", "LTierPods$Shape;", true)
  | 1 => ("TierPods$AllPairs", "journey", "LTierPods$Journey;", true)
  | 2 => ("TierPods$AllPairs", "timesUp", "[I", true)
  | 3 => ("TierPods$AllPairs", "timesDown", "[I", true)
  | _ => ("TierPods$AllPairs", "arrivals", "I", false)
def Y_0 : Nat → FieldType := fun k => match k with
  | 0 => .object "TierPods$Shape"
  | 1 => .object "TierPods$Journey"
  | 2 => .array .int
  | 3 => .array .int
  | _ => .int
def T_1 : u_T := fun k => match k with
  | 0 => ("TierPods$Journey", "shape", "LTierPods$Shape;", true)
  | 1 => ("TierPods$Journey", "visited", "[I", true)
  | 2 => ("TierPods$Journey", "goneOver", "[I", true)
  | 3 => ("TierPods$Journey", "visits", "I", false)
  | _ => ("TierPods$Journey", "arrived", "Z", false)
def Y_1 : Nat → FieldType := fun k => match k with
  | 0 => .object "TierPods$Shape"
  | 1 => .array .int
  | 2 => .array .int
  | 3 => .int
  | _ => .boolean
def T_2 : u_T := fun k => match k with
  | 0 => ("TierPods$Script", "letters", "[C", true)
  | 1 => ("TierPods$Script", "length", "I", false)
  | 2 => ("TierPods$Script", "k", "I", false)
  | _ => ("TierPods$Script", "at", "I", false)
def Y_2 : Nat → FieldType := fun k => match k with
  | 0 => .array .char
  | 1 => .int
  | 2 => .int
  | _ => .int
def T_3 : u_T := fun k => match k with
  | 0 => ("TierPods$Shape", "pods", "I", false)
  | 1 => ("TierPods$Shape", "half", "I", false)
  | 2 => ("TierPods$Shape", "edges", "I", false)
  | 3 => ("TierPods$Shape", "hosts", "I", false)
  | 4 => ("TierPods$Shape", "switches", "I", false)
  | 5 => ("TierPods$Shape", "links", "I", false)
  | 6 => ("TierPods$Shape", "tierOf", "[I", true)
  | 7 => ("TierPods$Shape", "podOf", "[I", true)
  | 8 => ("TierPods$Shape", "placeOf", "[I", true)
  | 9 => ("TierPods$Shape", "memberOf", "[I", true)
  | 10 => ("TierPods$Shape", "lowerOf", "[I", true)
  | 11 => ("TierPods$Shape", "upperOf", "[I", true)
  | 12 => ("TierPods$Shape", "edgeOf", "[I", true)
  | _ => ("TierPods$Shape", "digitOf", "[I", true)
def Y_3 : Nat → FieldType := fun k => match k with
  | 0 => .int
  | 1 => .int
  | 2 => .int
  | 3 => .int
  | 4 => .int
  | 5 => .int
  | 6 => .array .int
  | 7 => .array .int
  | 8 => .array .int
  | 9 => .array .int
  | 10 => .array .int
  | 11 => .array .int
  | 12 => .array .int
  | _ => .array .int
def T_4 : u_T := fun k => match k with
  | 0 => ("TierPods$Sharing", "shape", "LTierPods$Shape;", true)
  | 1 => ("TierPods$Sharing", "journey", "LTierPods$Journey;", true)
  | 2 => ("TierPods$Sharing", "steps", "[I", true)
  | 3 => ("TierPods$Sharing", "stepCounts", "[I", true)
  | _ => ("TierPods$Sharing", "users", "[I", true)
def Y_4 : Nat → FieldType := fun k => match k with
  | 0 => .object "TierPods$Shape"
  | 1 => .object "TierPods$Journey"
  | 2 => .array .int
  | 3 => .array .int
  | _ => .array .int
def T_5 : u_T := fun k => match k with
  | 0 => ("TierPods$State", "ages", "[I", true)
  | 1 => ("TierPods$State", "from", "[I", true)
  | 2 => ("TierPods$State", "to", "[I", true)
  | 3 => ("TierPods$State", "sizes", "[I", true)
  | 4 => ("TierPods$State", "shifts", "[I", true)
  | 5 => ("TierPods$State", "flows", "I", false)
  | 6 => ("TierPods$State", "marks", "[I", false)
  | 7 => ("TierPods$State", "links", "I", false)
  | _ => ("TierPods$State", "switches", "I", false)
def Y_5 : Nat → FieldType := fun k => match k with
  | 0 => .array .int
  | 1 => .array .int
  | 2 => .array .int
  | 3 => .array .int
  | 4 => .array .int
  | 5 => .int
  | 6 => .array .int
  | 7 => .int
  | _ => .int
def T_6 : u_T := fun k => match k with
  | 0 => ("TierPods$Telling", "shape", "LTierPods$Shape;", true)
  | _ => ("TierPods$Telling", "ahead", "[I", true)
def Y_6 : Nat → FieldType := fun k => match k with
  | 0 => .object "TierPods$Shape"
  | _ => .array .int
def T_7 : u_T := fun k => match k with
  | 0 => ("TierPods$Truth", "shape", "LTierPods$Shape;", true)
  | 1 => ("TierPods$Truth", "fewest", "I", false)
  | _ => ("TierPods$Truth", "most", "I", false)
def Y_7 : Nat → FieldType := fun k => match k with
  | 0 => .object "TierPods$Shape"
  | 1 => .int
  | _ => .int
def T_8 : u_T := fun k => match k with
  | 0 => ("TierPods", "script", "LTierPods$Script;", true)
  | 1 => ("TierPods", "shape", "LTierPods$Shape;", true)
  | 2 => ("TierPods", "journey", "LTierPods$Journey;", true)
  | 3 => ("TierPods", "telling", "LTierPods$Telling;", true)
  | 4 => ("TierPods", "truth", "LTierPods$Truth;", true)
  | 5 => ("TierPods", "allPairs", "LTierPods$AllPairs;", true)
  | 6 => ("TierPods", "sharing", "LTierPods$Sharing;", true)
  | 7 => ("TierPods", "now", "LTierPods$State;", false)
  | 8 => ("TierPods", "last", "LTierPods$State;", false)
  | 9 => ("TierPods", "beforeLast", "LTierPods$State;", false)
  | 10 => ("TierPods", "spare", "LTierPods$State;", false)
  | _ => ("TierPods", "undoable", "I", false)
def Y_8 : Nat → FieldType := fun k => match k with
  | 0 => .object "TierPods$Script"
  | 1 => .object "TierPods$Shape"
  | 2 => .object "TierPods$Journey"
  | 3 => .object "TierPods$Telling"
  | 4 => .object "TierPods$Truth"
  | 5 => .object "TierPods$AllPairs"
  | 6 => .object "TierPods$Sharing"
  | 7 => .object "TierPods$State"
  | 8 => .object "TierPods$State"
  | 9 => .object "TierPods$State"
  | 10 => .object "TierPods$State"
  | _ => .int
def T_9 : u_T := fun k => match k with
  | 0 => ("TierPodsModel", "length", "I", false)
  | 1 => ("TierPodsModel", "text", "[I", true)
  | 2 => ("TierPodsModel", "pods", "I", false)
  | 3 => ("TierPodsModel", "half", "I", false)
  | 4 => ("TierPodsModel", "ages", "[I", true)
  | 5 => ("TierPodsModel", "marks", "[I", true)
  | 6 => ("TierPodsModel", "marksThen", "[I", true)
  | 7 => ("TierPodsModel", "flows", "I", false)
  | 8 => ("TierPodsModel", "flowRow", "[I", true)
  | 9 => ("TierPodsModel", "done", "I", false)
  | 10 => ("TierPodsModel", "oldAges", "[I", true)
  | 11 => ("TierPodsModel", "oldMarks", "[I", true)
  | 12 => ("TierPodsModel", "oldFlows", "[I", true)
  | 13 => ("TierPodsModel", "oldMany", "[I", true)
  | 14 => ("TierPodsModel", "toldPods", "I", false)
  | 15 => ("TierPodsModel", "toldFlows", "I", false)
  | 16 => ("TierPodsModel", "toldRow", "[I", true)
  | 17 => ("TierPodsModel", "toldCuts", "[I", true)
  | 18 => ("TierPodsModel", "hops", "I", false)
  | 19 => ("TierPodsModel", "hopRow", "[I", true)
  | 20 => ("TierPodsModel", "linkRow", "[I", true)
  | 21 => ("TierPodsModel", "hasArrived", "Z", false)
  | 22 => ("TierPodsModel", "ups", "[I", true)
  | 23 => ("TierPodsModel", "downs", "[I", true)
  | 24 => ("TierPodsModel", "outs", "[I", true)
  | 25 => ("TierPodsModel", "ins", "[I", true)
  | 26 => ("TierPodsModel", "shares", "[I", true)
  | 27 => ("TierPodsModel", "firstFlows", "[I", true)
  | 28 => ("TierPodsModel", "ends", "I", false)
  | _ => ("TierPodsModel", "shiftsThen", "[I", true)
def Y_9 : Nat → FieldType := fun k => match k with
  | 0 => .int
  | 1 => .array .int
  | 2 => .int
  | 3 => .int
  | 4 => .array .int
  | 5 => .array .int
  | 6 => .array .int
  | 7 => .int
  | 8 => .array .int
  | 9 => .int
  | 10 => .array .int
  | 11 => .array .int
  | 12 => .array .int
  | 13 => .array .int
  | 14 => .int
  | 15 => .int
  | 16 => .array .int
  | 17 => .array .int
  | 18 => .int
  | 19 => .array .int
  | 20 => .array .int
  | 21 => .boolean
  | 22 => .array .int
  | 23 => .array .int
  | 24 => .array .int
  | 25 => .array .int
  | 26 => .array .int
  | 27 => .array .int
  | 28 => .int
  | _ => .array .int
def cN (o : Nat) : String := (["TierPods$AllPairs", "TierPods$Journey", "TierPods$Script", "TierPods$Shape", "TierPods$Sharing", "TierPods$State", "TierPods$Telling", "TierPods$Truth", "TierPods", "TierPodsModel", "TierPodsLaw", "java/util/Arrays"] : List String).getD o ""
def cT (o : Nat) : u_T := ([T_0, T_1, T_2, T_3, T_4, T_5, T_6, T_7, T_8, T_9] : List u_T).getD o T_0
def cY (o : Nat) : Nat → FieldType := ([Y_0, Y_1, Y_2, Y_3, Y_4, Y_5, Y_6, Y_7, Y_8, Y_9] : List (Nat → FieldType)).getD o Y_0
def nF (o : Nat) : Nat := ([5, 5, 4, 14, 5, 9, 2, 3, 12, 30] : List Nat).getD o 0
/-- a field: 0 int, 1 boolean, 2 a reference, 3 a final reference -/
def fK (o k : Nat) : Nat := (([[3, 3, 3, 3, 0], [3, 3, 3, 0, 1], [3, 0, 0, 0], [0, 0, 0, 0, 0, 0, 3, 3, 3, 3, 3, 3, 3, 3], [3, 3, 3, 3, 3], [3, 3, 3, 3, 3, 0, 2, 0, 0], [3, 3], [3, 0, 0], [3, 3, 3, 3, 3, 3, 3, 2, 2, 2, 2, 0], [0, 3, 0, 0, 3, 3, 3, 0, 3, 0, 3, 3, 3, 3, 0, 0, 3, 3, 0, 3, 3, 1, 3, 3, 3, 3, 3, 3, 0, 3]] : List (List Nat)).getD o []).getD k 0
def classes : List vw_C := [("TierPods$AllPairs", T_0, 5), ("TierPods$Journey", T_1, 5), ("TierPods$Script", T_2, 4), ("TierPods$Shape", T_3, 14), ("TierPods$Sharing", T_4, 5), ("TierPods$State", T_5, 9), ("TierPods$Telling", T_6, 2), ("TierPods$Truth", T_7, 3), ("TierPods", T_8, 12), ("TierPodsModel", T_9, 30)]
def mNs : List (String × String) := [("<init>", "(LTierPods$Shape;LTierPods$Journey;)V"), ("survey", "(LTierPods$State;)V"), ("addTimes", "()V"), ("mostTimes", "(LTierPods$State;[I)I"), ("leastTimes", "(LTierPods$State;[I)I"), ("<init>", "(LTierPods$Shape;)V"), ("travel", "(LTierPods$State;III)V"), ("wentUp", "(I)Z"), ("nextLink", "(LTierPods$State;III)I"), ("upFromEdge", "(LTierPods$State;III)I"), ("upFromMiddle", "(LTierPods$State;III)I"), ("<init>", "()V"), ("append", "(C)Z"), ("read", "(LTierPods$State;)I"), ("readItem", "(LTierPods$State;)Z"), ("readK", "()Z"), ("readFlow", "(LTierPods$State;)Z"), ("readHost", "()I"), ("readCut", "(LTierPods$State;)Z"), ("linksFor", "(I)I"), ("readNumber", "(I)I"), ("readFigure", "()I"), ("take", "(C)Z"), ("<init>", "()V"), ("build", "(I)V"), ("numberSwitches", "()V"), ("addSwitch", "(IIII)V"), ("numberHosts", "()V"), ("numberLinks", "()V"), ("middle", "(II)I"), ("core", "(II)I"), ("upLink", "(II)I"), ("byHalf", "(I)I"), ("moduloHalf", "(I)I"), ("otherEnd", "(II)I"), ("<init>", "(LTierPods$Shape;LTierPods$Journey;)V"), ("survey", "(LTierPods$State;)V"), ("route", "(LTierPods$State;II)V"), ("addStep", "(II)V"), ("removeSteps", "(I)V"), ("comesThrough", "(I)Z"), ("shareOf", "(I)I"), ("leastShare", "(I)I"), ("sizesOver", "(LTierPods$State;I)I"), ("improve", "(LTierPods$State;I)Z"), ("<init>", "()V"), ("fit", "(II)V"), ("clear", "()V"), ("copy", "(LTierPods$State;)V"), ("isWhole", "(I)Z"), ("marksOf", "(I)I"), ("markOf", "(II)I"), ("knowsWhole", "(II)Z"), ("turn", "(III)V"), ("tellAll", "()V"), ("lateMarks", "(I)I"), ("addFlow", "(III)Z"), ("removeFlow", "(I)V"), ("<init>", "(LTierPods$Shape;)V"), ("tell", "(LTierPods$State;I)I"), ("tellOnce", "(LTierPods$State;I)I"), ("<init>", "(LTierPods$Shape;)V"), ("waysOf", "(LTierPods$State;III)I"), ("waysOverMiddle", "(LTierPods$State;IIII)I"), ("isOpen", "(LTierPods$State;II)Z"), ("pairsOf", "(II)I"), ("joinedPairs", "(LTierPods$State;I)I"), ("surveyWays", "(LTierPods$State;)V"), ("<init>", "()V"), ("write", "(I)I"), ("wipe", "()I"), ("fault", "()I"), ("lay", "()I"), ("host", "(III)I"), ("node", "(II)I"), ("link", "(II)I"), ("cut", "(II)I"), ("fail", "(I)I"), ("heal", "(I)I"), ("tick", "(I)I"), ("mark", "(II)I"), ("late", "()I"), ("undo", "()I"), ("onward", "(III)I"), ("way", "(IIII)I"), ("arrives", "(III)I"), ("ways", "(II)I"), ("pairs", "(I)I"), ("parts", "(I)I"), ("spread", "(I)I"), ("flow", "(III)I"), ("drop", "(I)I"), ("shift", "(II)I"), ("told", "(II)I"), ("load", "(III)I"), ("least", "()I"), ("would", "(II)I"), ("plan", "()I"), ("count", "(I)I"), ("isSwitch", "(I)Z"), ("isLink", "(I)Z"), ("isHost", "(I)Z"), ("areTwoHosts", "(II)Z"), ("isShift", "(I)Z"), ("isFlow", "(I)Z"), ("hostAt", "(IIII)I"), ("layScript", "()Z"), ("keepForUndo", "()V"), ("countChange", "()V"), ("turn", "(I)V"), ("isEnd", "(II)Z"), ("linksOf", "(IZ)I"), ("turnLinksOf", "(IZ)I"), ("cutLinks", "()I"), ("<init>", "()V"), ("begins", "(I)V"), ("knows", "(I)V"), ("isIn", "(III)Z"), ("letterAt", "(I)I"), ("figure", "(I)I"), ("number", "(II)I"), ("readsHost", "(I)I"), ("readsFlow", "(I)I"), ("readsItem", "(II)I"), ("reads", "()I"), ("write", "(I)I"), ("wipe", "()I"), ("fault", "()I"), ("lay", "()I"), ("hosts", "()I"), ("edges", "()I"), ("switches", "()I"), ("links", "()I"), ("isHost", "(I)Z"), ("isSwitch", "(I)Z"), ("isLink", "(I)Z"), ("isShift", "(I)Z"), ("tier", "(I)I"), ("low", "(III)I"), ("high", "(III)I"), ("lowerOf", "(I)I"), ("upperOf", "(I)I"), ("isWhole", "(I)Z"), ("isEnd", "(II)Z"), ("host", "(III)I"), ("node", "(II)I"), ("link", "(II)I"), ("keeps", "()V"), ("undo", "()I"), ("turns", "(I)V"), ("cut", "(II)I"), ("turnsAll", "(II)I"), ("fail", "(I)I"), ("heal", "(I)I"), ("spreads", "()I"), ("tick", "(I)I"), ("mark", "(II)I"), ("late", "()I"), ("isKnown", "(II)Z"), ("fromEdge", "(III)I"), ("fromMiddle", "(III)I"), ("goes", "(III)I"), ("onward", "(III)I"), ("sends", "(III)V"), ("areTwo", "(II)Z"), ("way", "(IIII)I"), ("arrives", "(III)I"), ("waysOf", "(II)I"), ("ways", "(II)I"), ("pairs", "(I)I"), ("parts", "(I)I"), ("counts", "()V"), ("adds", "(I)V"), ("spread", "(I)I"), ("isFlow", "(I)Z"), ("flow", "(III)I"), ("drop", "(I)I"), ("shift", "(II)I"), ("sendsFlow", "(I)V"), ("measures", "()V"), ("leastShare", "()I"), ("told", "(II)I"), ("load", "(III)I"), ("least", "()I"), ("would", "(II)I"), ("best", "(I)V"), ("plan", "()I"), ("count", "(I)I"), ("law", "([I)Z"), ("fill", "([II)V")]
/-- 0 an instance method, 1 a static one, 2 a constructor -/
def mK (y : Nat) : Nat := ([2, 0, 0, 0, 0, 2, 0, 0, 0, 0, 0, 2, 0, 0, 0, 0, 0, 0, 0, 1, 0, 0, 0, 2, 0, 0, 0, 0, 0, 0, 0, 0, 0, 0, 0, 2, 0, 0, 0, 0, 0, 0, 0, 0, 0, 2, 0, 0, 0, 0, 0, 0, 0, 0, 0, 0, 0, 0, 2, 0, 0, 2, 0, 0, 0, 0, 0, 0, 2, 0, 0, 0, 0, 0, 0, 0, 0, 0, 0, 0, 0, 0, 0, 0, 0, 0, 0, 0, 0, 0, 0, 0, 0, 0, 0, 0, 0, 0, 0, 0, 0, 0, 0, 0, 0, 1, 0, 0, 0, 0, 0, 0, 0, 0, 2, 0, 0, 1, 0, 0, 0, 0, 0, 0, 0, 0, 0, 0, 0, 0, 0, 0, 0, 0, 0, 0, 0, 0, 0, 0, 0, 0, 0, 0, 0, 0, 0, 0, 0, 0, 0, 0, 0, 0, 0, 0, 0, 0, 0, 0, 0, 0, 0, 0, 0, 0, 0, 0, 0, 0, 0, 0, 0, 0, 0, 0, 0, 0, 0, 0, 0, 0, 0, 0, 0, 0, 0, 0, 1, 1] : List Nat).getD y 0
def mO (y : Nat) : Nat := ([0, 0, 0, 0, 0, 1, 1, 1, 1, 1, 1, 2, 2, 2, 2, 2, 2, 2, 2, 2, 2, 2, 2, 3, 3, 3, 3, 3, 3, 3, 3, 3, 3, 3, 3, 4, 4, 4, 4, 4, 4, 4, 4, 4, 4, 5, 5, 5, 5, 5, 5, 5, 5, 5, 5, 5, 5, 5, 6, 6, 6, 7, 7, 7, 7, 7, 7, 7, 8, 8, 8, 8, 8, 8, 8, 8, 8, 8, 8, 8, 8, 8, 8, 8, 8, 8, 8, 8, 8, 8, 8, 8, 8, 8, 8, 8, 8, 8, 8, 8, 8, 8, 8, 8, 8, 8, 8, 8, 8, 8, 8, 8, 8, 8, 9, 9, 9, 9, 9, 9, 9, 9, 9, 9, 9, 9, 9, 9, 9, 9, 9, 9, 9, 9, 9, 9, 9, 9, 9, 9, 9, 9, 9, 9, 9, 9, 9, 9, 9, 9, 9, 9, 9, 9, 9, 9, 9, 9, 9, 9, 9, 9, 9, 9, 9, 9, 9, 9, 9, 9, 9, 9, 9, 9, 9, 9, 9, 9, 9, 9, 9, 9, 9, 9, 9, 9, 9, 9, 10, 11] : List Nat).getD y 0
def mL (y : Nat) : Nat := ([3, 4, 3, 5, 5, 2, 8, 2, 9, 13, 12, 1, 2, 4, 2, 1, 5, 3, 3, 1, 5, 1, 2, 1, 2, 3, 5, 3, 3, 3, 3, 3, 2, 2, 3, 3, 3, 8, 3, 3, 2, 4, 4, 6, 10, 1, 3, 1, 2, 2, 2, 3, 3, 4, 3, 4, 4, 3, 2, 6, 7, 2, 7, 8, 4, 3, 6, 5, 2, 2, 2, 1, 1, 4, 3, 3, 3, 2, 2, 3, 3, 3, 2, 4, 5, 4, 3, 2, 2, 3, 4, 2, 4, 3, 5, 1, 3, 4, 2, 2, 2, 2, 3, 2, 2, 5, 2, 1, 2, 2, 3, 5, 5, 3, 2, 3, 3, 3, 2, 3, 5, 8, 5, 4, 3, 2, 2, 1, 2, 1, 1, 1, 1, 2, 2, 2, 2, 2, 4, 4, 2, 3, 2, 3, 4, 7, 3, 2, 2, 2, 3, 5, 2, 2, 5, 6, 3, 4, 3, 12, 10, 7, 4, 7, 3, 5, 4, 9, 3, 9, 4, 2, 3, 6, 2, 4, 3, 4, 2, 5, 3, 3, 5, 1, 4, 8, 4, 4, 4, 4] : List Nat).getD y 0
/-- how many values it takes, with the object -/
def mA (y : Nat) : Nat := ([3, 2, 1, 3, 3, 2, 5, 2, 5, 5, 5, 1, 2, 2, 2, 1, 2, 1, 2, 1, 2, 1, 2, 1, 2, 1, 5, 1, 1, 3, 3, 3, 2, 2, 3, 3, 2, 4, 3, 2, 2, 2, 2, 3, 3, 1, 3, 1, 2, 2, 2, 3, 3, 4, 1, 2, 4, 2, 2, 3, 3, 2, 5, 6, 4, 3, 3, 2, 1, 2, 1, 1, 1, 4, 3, 3, 3, 2, 2, 2, 3, 1, 1, 4, 5, 4, 3, 2, 2, 2, 4, 2, 3, 3, 4, 1, 3, 1, 2, 2, 2, 2, 3, 2, 2, 4, 1, 1, 1, 2, 3, 3, 3, 1, 1, 2, 2, 3, 2, 2, 3, 2, 2, 3, 1, 2, 1, 1, 1, 1, 1, 1, 1, 2, 2, 2, 2, 2, 4, 4, 2, 2, 2, 3, 4, 3, 3, 1, 1, 2, 3, 3, 2, 2, 1, 2, 3, 1, 3, 4, 4, 4, 4, 4, 3, 5, 4, 3, 3, 2, 2, 1, 2, 2, 2, 4, 2, 3, 2, 1, 1, 3, 4, 1, 3, 2, 1, 2, 1, 2] : List Nat).getD y 0
/-- its answer: 0 none, 1 an int, 2 a boolean -/
def mR (y : Nat) : Nat := ([0, 0, 0, 1, 1, 0, 0, 2, 1, 1, 1, 0, 2, 1, 2, 2, 2, 1, 2, 1, 1, 1, 2, 0, 0, 0, 0, 0, 0, 1, 1, 1, 1, 1, 1, 0, 0, 0, 0, 0, 2, 1, 1, 1, 2, 0, 0, 0, 0, 2, 1, 1, 2, 0, 0, 1, 2, 0, 0, 1, 1, 0, 1, 1, 2, 1, 1, 0, 0, 1, 1, 1, 1, 1, 1, 1, 1, 1, 1, 1, 1, 1, 1, 1, 1, 1, 1, 1, 1, 1, 1, 1, 1, 1, 1, 1, 1, 1, 1, 2, 2, 2, 2, 2, 2, 1, 2, 0, 0, 0, 2, 1, 1, 1, 0, 0, 0, 2, 1, 1, 1, 1, 1, 1, 1, 1, 1, 1, 1, 1, 1, 1, 1, 2, 2, 2, 2, 1, 1, 1, 1, 1, 2, 2, 1, 1, 1, 0, 1, 0, 1, 1, 1, 1, 1, 1, 1, 1, 2, 1, 1, 1, 1, 0, 2, 1, 1, 1, 1, 1, 1, 0, 0, 1, 2, 1, 1, 1, 0, 0, 1, 1, 1, 1, 1, 0, 1, 1, 2, 0] : List Nat).getD y 0
def mN (y : Nat) : MethodName := ⟨cN (mO y), (mNs.getD y ("", "")).1, (mNs.getD y ("", "")).2⟩
def mBs : List ByteArray := [prog_2_method_1_code, prog_2_method_2_code, prog_2_method_3_code, prog_2_method_4_code, prog_2_method_5_code, prog_3_method_1_code, prog_3_method_2_code, prog_3_method_3_code, prog_3_method_4_code, prog_3_method_5_code, prog_3_method_6_code, prog_4_method_1_code, prog_4_method_2_code, prog_4_method_3_code, prog_4_method_4_code, prog_4_method_5_code, prog_4_method_6_code, prog_4_method_7_code, prog_4_method_8_code, prog_4_method_9_code, prog_4_method_10_code, prog_4_method_11_code, prog_4_method_12_code, prog_5_method_1_code, prog_5_method_2_code, prog_5_method_3_code, prog_5_method_4_code, prog_5_method_5_code, prog_5_method_6_code, prog_5_method_7_code, prog_5_method_8_code, prog_5_method_9_code, prog_5_method_10_code, prog_5_method_11_code, prog_5_method_12_code, prog_6_method_1_code, prog_6_method_2_code, prog_6_method_3_code, prog_6_method_4_code, prog_6_method_5_code, prog_6_method_6_code, prog_6_method_7_code, prog_6_method_8_code, prog_6_method_9_code, prog_6_method_10_code, prog_7_method_1_code, prog_7_method_2_code, prog_7_method_3_code, prog_7_method_4_code, prog_7_method_5_code, prog_7_method_6_code, prog_7_method_7_code, prog_7_method_8_code, prog_7_method_9_code, prog_7_method_10_code, prog_7_method_11_code, prog_7_method_12_code, prog_7_method_13_code, prog_8_method_1_code, prog_8_method_2_code, prog_8_method_3_code, prog_9_method_1_code, prog_9_method_2_code, prog_9_method_3_code, prog_9_method_4_code, prog_9_method_5_code, prog_9_method_6_code, prog_9_method_7_code, prog_1_method_1_code, prog_1_method_2_code, prog_1_method_3_code, prog_1_method_4_code, prog_1_method_5_code, prog_1_method_6_code, prog_1_method_7_code, prog_1_method_8_code, prog_1_method_9_code, prog_1_method_10_code, prog_1_method_11_code, prog_1_method_12_code, prog_1_method_13_code, prog_1_method_14_code, prog_1_method_15_code, prog_1_method_16_code, prog_1_method_17_code, prog_1_method_18_code, prog_1_method_19_code, prog_1_method_20_code, prog_1_method_21_code, prog_1_method_22_code, prog_1_method_23_code, prog_1_method_24_code, prog_1_method_25_code, prog_1_method_26_code, prog_1_method_27_code, prog_1_method_28_code, prog_1_method_29_code, prog_1_method_30_code, prog_1_method_31_code, prog_1_method_32_code, prog_1_method_33_code, prog_1_method_34_code, prog_1_method_35_code, prog_1_method_36_code, prog_1_method_37_code, prog_1_method_38_code, prog_1_method_39_code, prog_1_method_40_code, prog_1_method_41_code, prog_1_method_42_code, prog_1_method_43_code, prog_1_method_44_code, prog_1_method_45_code, prog_1_method_46_code, prog_11_method_1_code, prog_11_method_2_code, prog_11_method_3_code, prog_11_method_4_code, prog_11_method_5_code, prog_11_method_6_code, prog_11_method_7_code, prog_11_method_8_code, prog_11_method_9_code, prog_11_method_10_code, prog_11_method_11_code, prog_11_method_12_code, prog_11_method_13_code, prog_11_method_14_code, prog_11_method_15_code, prog_11_method_16_code, prog_11_method_17_code, prog_11_method_18_code, prog_11_method_19_code, prog_11_method_20_code, prog_11_method_21_code, prog_11_method_22_code, prog_11_method_23_code, prog_11_method_24_code, prog_11_method_25_code, prog_11_method_26_code, prog_11_method_27_code, prog_11_method_28_code, prog_11_method_29_code, prog_11_method_30_code, prog_11_method_31_code, prog_11_method_32_code, prog_11_method_33_code, prog_11_method_34_code, prog_11_method_35_code, prog_11_method_36_code, prog_11_method_37_code, prog_11_method_38_code, prog_11_method_39_code, prog_11_method_40_code, prog_11_method_41_code, prog_11_method_42_code, prog_11_method_43_code, prog_11_method_44_code, prog_11_method_45_code, prog_11_method_46_code, prog_11_method_47_code, prog_11_method_48_code, prog_11_method_49_code, prog_11_method_50_code, prog_11_method_51_code, prog_11_method_52_code, prog_11_method_53_code, prog_11_method_54_code, prog_11_method_55_code, prog_11_method_56_code, prog_11_method_57_code, prog_11_method_58_code, prog_11_method_59_code, prog_11_method_60_code, prog_11_method_61_code, prog_11_method_62_code, prog_11_method_63_code, prog_11_method_64_code, prog_11_method_65_code, prog_11_method_66_code, prog_11_method_67_code, prog_11_method_68_code, prog_11_method_69_code, prog_11_method_70_code, prog_11_method_71_code, prog_11_method_72_code, prog_11_method_73_code, prog_11_method_74_code, code, prog_17_method_103_code]
def mB (y : Nat) : ByteArray := mBs.getD y code
def mT (y : Nat) : Option FieldType := if mR y = 0 then none else if mR y = 1 then some .int else some .boolean
/-- the words of a method: its code, and all the words of the tables that stay -/
def mW (y : Nat) : List Cond := Cond.code (mN y) (mB y) (mL y) (mT y) :: wl
set_option maxRecDepth 20000 in
theorem lay_0 : ∀ w ∈ u_ws (cN 0) (cT 0) (nF 0), w ∈ wl := by
  show ∀ w ∈ u_ws "TierPods$AllPairs" T_0 5, w ∈ wl
  intro w hw
  obtain ⟨k, hk, rfl⟩ := List.mem_map.mp hw
  have hk := List.mem_range.mp hk
  match k, hk with
  | 0, _ => exact wl_t 208 rfl rfl
  | 1, _ => exact wl_t 210 rfl rfl
  | 2, _ => exact wl_t 212 rfl rfl
  | 3, _ => exact wl_t 214 rfl rfl
  | 4, _ => exact wl_t 216 rfl rfl
  | k + 5, h => exact absurd h (by omega)
theorem nm_0 : ∀ a, a < nF 0 → ∀ b, b < nF 0 → a ≠ b → (cT 0 a).2.1 ≠ (cT 0 b).2.1 := by decide +kernel
theorem ty_0 : ∀ k, k < nF 0 → parseFieldDescriptor (cT 0 k).2.2.1 = some (cY 0 k) := by decide +kernel
set_option maxRecDepth 20000 in
theorem ik_0 : Cond.instantiable (cN 0) (nF 0) ∈ wl ∧ Cond.initialized (cN 0) ∈ wl := ⟨wl_t 195 rfl rfl, wl_t 7 rfl rfl⟩
theorem fk_0 : ∀ k, k < nF 0 → (fK 0 k = 0 → cY 0 k = .int ∧ (cT 0 k).2.2.2 = false) ∧ (fK 0 k = 1 → cY 0 k = .boolean ∧ (cT 0 k).2.2.2 = false) ∧ (fK 0 k = 2 → (cT 0 k).2.2.2 = false) ∧ (fK 0 k = 3 → (cT 0 k).2.2.2 = true ∧ (cT 0 k).1 = cN 0) ∧ (fK 0 k = 2 ∨ fK 0 k = 3 → (cY 0 k).isReference = true) ∧ fK 0 k ≤ 3 := by decide +kernel
set_option maxRecDepth 20000 in
theorem lay_1 : ∀ w ∈ u_ws (cN 1) (cT 1) (nF 1), w ∈ wl := by
  show ∀ w ∈ u_ws "TierPods$Journey" T_1 5, w ∈ wl
  intro w hw
  obtain ⟨k, hk, rfl⟩ := List.mem_map.mp hw
  have hk := List.mem_range.mp hk
  match k, hk with
  | 0, _ => exact wl_t 152 rfl rfl
  | 1, _ => exact wl_t 154 rfl rfl
  | 2, _ => exact wl_t 156 rfl rfl
  | 3, _ => exact wl_t 158 rfl rfl
  | 4, _ => exact wl_t 160 rfl rfl
  | k + 5, h => exact absurd h (by omega)
theorem nm_1 : ∀ a, a < nF 1 → ∀ b, b < nF 1 → a ≠ b → (cT 1 a).2.1 ≠ (cT 1 b).2.1 := by decide +kernel
theorem ty_1 : ∀ k, k < nF 1 → parseFieldDescriptor (cT 1 k).2.2.1 = some (cY 1 k) := by decide +kernel
set_option maxRecDepth 20000 in
theorem ik_1 : Cond.instantiable (cN 1) (nF 1) ∈ wl ∧ Cond.initialized (cN 1) ∈ wl := ⟨wl_t 133 rfl rfl, wl_t 4 rfl rfl⟩
theorem fk_1 : ∀ k, k < nF 1 → (fK 1 k = 0 → cY 1 k = .int ∧ (cT 1 k).2.2.2 = false) ∧ (fK 1 k = 1 → cY 1 k = .boolean ∧ (cT 1 k).2.2.2 = false) ∧ (fK 1 k = 2 → (cT 1 k).2.2.2 = false) ∧ (fK 1 k = 3 → (cT 1 k).2.2.2 = true ∧ (cT 1 k).1 = cN 1) ∧ (fK 1 k = 2 ∨ fK 1 k = 3 → (cY 1 k).isReference = true) ∧ fK 1 k ≤ 3 := by decide +kernel
set_option maxRecDepth 20000 in
theorem lay_2 : ∀ w ∈ u_ws (cN 2) (cT 2) (nF 2), w ∈ wl := by
  show ∀ w ∈ u_ws "TierPods$Script" T_2 4, w ∈ wl
  intro w hw
  obtain ⟨k, hk, rfl⟩ := List.mem_map.mp hw
  have hk := List.mem_range.mp hk
  match k, hk with
  | 0, _ => exact wl_t 38 rfl rfl
  | 1, _ => exact wl_t 40 rfl rfl
  | 2, _ => exact wl_t 42 rfl rfl
  | 3, _ => exact wl_t 44 rfl rfl
  | k + 4, h => exact absurd h (by omega)
theorem nm_2 : ∀ a, a < nF 2 → ∀ b, b < nF 2 → a ≠ b → (cT 2 a).2.1 ≠ (cT 2 b).2.1 := by decide +kernel
theorem ty_2 : ∀ k, k < nF 2 → parseFieldDescriptor (cT 2 k).2.2.1 = some (cY 2 k) := by decide +kernel
set_option maxRecDepth 20000 in
theorem ik_2 : Cond.instantiable (cN 2) (nF 2) ∈ wl ∧ Cond.initialized (cN 2) ∈ wl := ⟨wl_t 27 rfl rfl, wl_t 2 rfl rfl⟩
theorem fk_2 : ∀ k, k < nF 2 → (fK 2 k = 0 → cY 2 k = .int ∧ (cT 2 k).2.2.2 = false) ∧ (fK 2 k = 1 → cY 2 k = .boolean ∧ (cT 2 k).2.2.2 = false) ∧ (fK 2 k = 2 → (cT 2 k).2.2.2 = false) ∧ (fK 2 k = 3 → (cT 2 k).2.2.2 = true ∧ (cT 2 k).1 = cN 2) ∧ (fK 2 k = 2 ∨ fK 2 k = 3 → (cY 2 k).isReference = true) ∧ fK 2 k ≤ 3 := by decide +kernel
set_option maxRecDepth 20000 in
theorem lay_3 : ∀ w ∈ u_ws (cN 3) (cT 3) (nF 3), w ∈ wl := by
  show ∀ w ∈ u_ws "TierPods$Shape" T_3 14, w ∈ wl
  intro w hw
  obtain ⟨k, hk, rfl⟩ := List.mem_map.mp hw
  have hk := List.mem_range.mp hk
  match k, hk with
  | 0, _ => exact wl_t 102 rfl rfl
  | 1, _ => exact wl_t 104 rfl rfl
  | 2, _ => exact wl_t 106 rfl rfl
  | 3, _ => exact wl_t 108 rfl rfl
  | 4, _ => exact wl_t 110 rfl rfl
  | 5, _ => exact wl_t 112 rfl rfl
  | 6, _ => exact wl_t 114 rfl rfl
  | 7, _ => exact wl_t 116 rfl rfl
  | 8, _ => exact wl_t 118 rfl rfl
  | 9, _ => exact wl_t 120 rfl rfl
  | 10, _ => exact wl_t 122 rfl rfl
  | 11, _ => exact wl_t 124 rfl rfl
  | 12, _ => exact wl_t 126 rfl rfl
  | 13, _ => exact wl_t 128 rfl rfl
  | k + 14, h => exact absurd h (by omega)
theorem nm_3 : ∀ a, a < nF 3 → ∀ b, b < nF 3 → a ≠ b → (cT 3 a).2.1 ≠ (cT 3 b).2.1 := by decide +kernel
theorem ty_3 : ∀ k, k < nF 3 → parseFieldDescriptor (cT 3 k).2.2.1 = some (cY 3 k) := by decide +kernel
set_option maxRecDepth 20000 in
theorem ik_3 : Cond.instantiable (cN 3) (nF 3) ∈ wl ∧ Cond.initialized (cN 3) ∈ wl := ⟨wl_t 49 rfl rfl, wl_t 3 rfl rfl⟩
theorem fk_3 : ∀ k, k < nF 3 → (fK 3 k = 0 → cY 3 k = .int ∧ (cT 3 k).2.2.2 = false) ∧ (fK 3 k = 1 → cY 3 k = .boolean ∧ (cT 3 k).2.2.2 = false) ∧ (fK 3 k = 2 → (cT 3 k).2.2.2 = false) ∧ (fK 3 k = 3 → (cT 3 k).2.2.2 = true ∧ (cT 3 k).1 = cN 3) ∧ (fK 3 k = 2 ∨ fK 3 k = 3 → (cY 3 k).isReference = true) ∧ fK 3 k ≤ 3 := by decide +kernel
set_option maxRecDepth 20000 in
theorem lay_4 : ∀ w ∈ u_ws (cN 4) (cT 4) (nF 4), w ∈ wl := by
  show ∀ w ∈ u_ws "TierPods$Sharing" T_4 5, w ∈ wl
  intro w hw
  obtain ⟨k, hk, rfl⟩ := List.mem_map.mp hw
  have hk := List.mem_range.mp hk
  match k, hk with
  | 0, _ => exact wl_t 231 rfl rfl
  | 1, _ => exact wl_t 233 rfl rfl
  | 2, _ => exact wl_t 235 rfl rfl
  | 3, _ => exact wl_t 237 rfl rfl
  | 4, _ => exact wl_t 239 rfl rfl
  | k + 5, h => exact absurd h (by omega)
theorem nm_4 : ∀ a, a < nF 4 → ∀ b, b < nF 4 → a ≠ b → (cT 4 a).2.1 ≠ (cT 4 b).2.1 := by decide +kernel
theorem ty_4 : ∀ k, k < nF 4 → parseFieldDescriptor (cT 4 k).2.2.1 = some (cY 4 k) := by decide +kernel
set_option maxRecDepth 20000 in
theorem ik_4 : Cond.instantiable (cN 4) (nF 4) ∈ wl ∧ Cond.initialized (cN 4) ∈ wl := ⟨wl_t 220 rfl rfl, wl_t 8 rfl rfl⟩
theorem fk_4 : ∀ k, k < nF 4 → (fK 4 k = 0 → cY 4 k = .int ∧ (cT 4 k).2.2.2 = false) ∧ (fK 4 k = 1 → cY 4 k = .boolean ∧ (cT 4 k).2.2.2 = false) ∧ (fK 4 k = 2 → (cT 4 k).2.2.2 = false) ∧ (fK 4 k = 3 → (cT 4 k).2.2.2 = true ∧ (cT 4 k).1 = cN 4) ∧ (fK 4 k = 2 ∨ fK 4 k = 3 → (cY 4 k).isReference = true) ∧ fK 4 k ≤ 3 := by decide +kernel
set_option maxRecDepth 20000 in
theorem lay_5 : ∀ w ∈ u_ws (cN 5) (cT 5) (nF 5), w ∈ wl := by
  show ∀ w ∈ u_ws "TierPods$State" T_5 9, w ∈ wl
  intro w hw
  obtain ⟨k, hk, rfl⟩ := List.mem_map.mp hw
  have hk := List.mem_range.mp hk
  match k, hk with
  | 0, _ => exact wl_t 270 rfl rfl
  | 1, _ => exact wl_t 272 rfl rfl
  | 2, _ => exact wl_t 274 rfl rfl
  | 3, _ => exact wl_t 276 rfl rfl
  | 4, _ => exact wl_t 278 rfl rfl
  | 5, _ => exact wl_t 280 rfl rfl
  | 6, _ => exact wl_t 282 rfl rfl
  | 7, _ => exact wl_t 284 rfl rfl
  | 8, _ => exact wl_t 286 rfl rfl
  | k + 9, h => exact absurd h (by omega)
theorem nm_5 : ∀ a, a < nF 5 → ∀ b, b < nF 5 → a ≠ b → (cT 5 a).2.1 ≠ (cT 5 b).2.1 := by decide +kernel
theorem ty_5 : ∀ k, k < nF 5 → parseFieldDescriptor (cT 5 k).2.2.1 = some (cY 5 k) := by decide +kernel
set_option maxRecDepth 20000 in
theorem ik_5 : Cond.instantiable (cN 5) (nF 5) ∈ wl ∧ Cond.initialized (cN 5) ∈ wl := ⟨wl_t 243 rfl rfl, wl_t 9 rfl rfl⟩
theorem fk_5 : ∀ k, k < nF 5 → (fK 5 k = 0 → cY 5 k = .int ∧ (cT 5 k).2.2.2 = false) ∧ (fK 5 k = 1 → cY 5 k = .boolean ∧ (cT 5 k).2.2.2 = false) ∧ (fK 5 k = 2 → (cT 5 k).2.2.2 = false) ∧ (fK 5 k = 3 → (cT 5 k).2.2.2 = true ∧ (cT 5 k).1 = cN 5) ∧ (fK 5 k = 2 ∨ fK 5 k = 3 → (cY 5 k).isReference = true) ∧ fK 5 k ≤ 3 := by decide +kernel
set_option maxRecDepth 20000 in
theorem lay_6 : ∀ w ∈ u_ws (cN 6) (cT 6) (nF 6), w ∈ wl := by
  show ∀ w ∈ u_ws "TierPods$Telling" T_6 2, w ∈ wl
  intro w hw
  obtain ⟨k, hk, rfl⟩ := List.mem_map.mp hw
  have hk := List.mem_range.mp hk
  match k, hk with
  | 0, _ => exact wl_t 171 rfl rfl
  | 1, _ => exact wl_t 173 rfl rfl
  | k + 2, h => exact absurd h (by omega)
theorem nm_6 : ∀ a, a < nF 6 → ∀ b, b < nF 6 → a ≠ b → (cT 6 a).2.1 ≠ (cT 6 b).2.1 := by decide +kernel
theorem ty_6 : ∀ k, k < nF 6 → parseFieldDescriptor (cT 6 k).2.2.1 = some (cY 6 k) := by decide +kernel
set_option maxRecDepth 20000 in
theorem ik_6 : Cond.instantiable (cN 6) (nF 6) ∈ wl ∧ Cond.initialized (cN 6) ∈ wl := ⟨wl_t 164 rfl rfl, wl_t 5 rfl rfl⟩
theorem fk_6 : ∀ k, k < nF 6 → (fK 6 k = 0 → cY 6 k = .int ∧ (cT 6 k).2.2.2 = false) ∧ (fK 6 k = 1 → cY 6 k = .boolean ∧ (cT 6 k).2.2.2 = false) ∧ (fK 6 k = 2 → (cT 6 k).2.2.2 = false) ∧ (fK 6 k = 3 → (cT 6 k).2.2.2 = true ∧ (cT 6 k).1 = cN 6) ∧ (fK 6 k = 2 ∨ fK 6 k = 3 → (cY 6 k).isReference = true) ∧ fK 6 k ≤ 3 := by decide +kernel
set_option maxRecDepth 20000 in
theorem lay_7 : ∀ w ∈ u_ws (cN 7) (cT 7) (nF 7), w ∈ wl := by
  show ∀ w ∈ u_ws "TierPods$Truth" T_7 3, w ∈ wl
  intro w hw
  obtain ⟨k, hk, rfl⟩ := List.mem_map.mp hw
  have hk := List.mem_range.mp hk
  match k, hk with
  | 0, _ => exact wl_t 187 rfl rfl
  | 1, _ => exact wl_t 189 rfl rfl
  | 2, _ => exact wl_t 191 rfl rfl
  | k + 3, h => exact absurd h (by omega)
theorem nm_7 : ∀ a, a < nF 7 → ∀ b, b < nF 7 → a ≠ b → (cT 7 a).2.1 ≠ (cT 7 b).2.1 := by decide +kernel
theorem ty_7 : ∀ k, k < nF 7 → parseFieldDescriptor (cT 7 k).2.2.1 = some (cY 7 k) := by decide +kernel
set_option maxRecDepth 20000 in
theorem ik_7 : Cond.instantiable (cN 7) (nF 7) ∈ wl ∧ Cond.initialized (cN 7) ∈ wl := ⟨wl_t 177 rfl rfl, wl_t 6 rfl rfl⟩
theorem fk_7 : ∀ k, k < nF 7 → (fK 7 k = 0 → cY 7 k = .int ∧ (cT 7 k).2.2.2 = false) ∧ (fK 7 k = 1 → cY 7 k = .boolean ∧ (cT 7 k).2.2.2 = false) ∧ (fK 7 k = 2 → (cT 7 k).2.2.2 = false) ∧ (fK 7 k = 3 → (cT 7 k).2.2.2 = true ∧ (cT 7 k).1 = cN 7) ∧ (fK 7 k = 2 ∨ fK 7 k = 3 → (cY 7 k).isReference = true) ∧ fK 7 k ≤ 3 := by decide +kernel
set_option maxRecDepth 20000 in
theorem lay_8 : ∀ w ∈ u_ws (cN 8) (cT 8) (nF 8), w ∈ wl := by
  show ∀ w ∈ u_ws "TierPods" T_8 12, w ∈ wl
  intro w hw
  obtain ⟨k, hk, rfl⟩ := List.mem_map.mp hw
  have hk := List.mem_range.mp hk
  match k, hk with
  | 0, _ => exact wl_t 451 rfl rfl
  | 1, _ => exact wl_t 453 rfl rfl
  | 2, _ => exact wl_t 455 rfl rfl
  | 3, _ => exact wl_t 457 rfl rfl
  | 4, _ => exact wl_t 459 rfl rfl
  | 5, _ => exact wl_t 461 rfl rfl
  | 6, _ => exact wl_t 463 rfl rfl
  | 7, _ => exact wl_t 465 rfl rfl
  | 8, _ => exact wl_t 467 rfl rfl
  | 9, _ => exact wl_t 469 rfl rfl
  | 10, _ => exact wl_t 471 rfl rfl
  | 11, _ => exact wl_t 473 rfl rfl
  | k + 12, h => exact absurd h (by omega)
theorem nm_8 : ∀ a, a < nF 8 → ∀ b, b < nF 8 → a ≠ b → (cT 8 a).2.1 ≠ (cT 8 b).2.1 := by decide +kernel
theorem ty_8 : ∀ k, k < nF 8 → parseFieldDescriptor (cT 8 k).2.2.1 = some (cY 8 k) := by decide +kernel
set_option maxRecDepth 20000 in
theorem ik_8 : Cond.instantiable (cN 8) (nF 8) ∈ wl ∧ Cond.initialized (cN 8) ∈ wl := ⟨wl_t 19 rfl rfl, wl_t 1 rfl rfl⟩
theorem fk_8 : ∀ k, k < nF 8 → (fK 8 k = 0 → cY 8 k = .int ∧ (cT 8 k).2.2.2 = false) ∧ (fK 8 k = 1 → cY 8 k = .boolean ∧ (cT 8 k).2.2.2 = false) ∧ (fK 8 k = 2 → (cT 8 k).2.2.2 = false) ∧ (fK 8 k = 3 → (cT 8 k).2.2.2 = true ∧ (cT 8 k).1 = cN 8) ∧ (fK 8 k = 2 ∨ fK 8 k = 3 → (cY 8 k).isReference = true) ∧ fK 8 k ≤ 3 := by decide +kernel
set_option maxRecDepth 20000 in
theorem lay_9 : ∀ w ∈ u_ws (cN 9) (cT 9) (nF 9), w ∈ wl := by
  show ∀ w ∈ u_ws "TierPodsModel" T_9 30, w ∈ wl
  intro w hw
  obtain ⟨k, hk, rfl⟩ := List.mem_map.mp hw
  have hk := List.mem_range.mp hk
  match k, hk with
  | 0, _ => exact wl_t 877 rfl rfl
  | 1, _ => exact wl_t 879 rfl rfl
  | 2, _ => exact wl_t 881 rfl rfl
  | 3, _ => exact wl_t 883 rfl rfl
  | 4, _ => exact wl_t 885 rfl rfl
  | 5, _ => exact wl_t 887 rfl rfl
  | 6, _ => exact wl_t 889 rfl rfl
  | 7, _ => exact wl_t 891 rfl rfl
  | 8, _ => exact wl_t 893 rfl rfl
  | 9, _ => exact wl_t 895 rfl rfl
  | 10, _ => exact wl_t 897 rfl rfl
  | 11, _ => exact wl_t 899 rfl rfl
  | 12, _ => exact wl_t 901 rfl rfl
  | 13, _ => exact wl_t 903 rfl rfl
  | 14, _ => exact wl_t 905 rfl rfl
  | 15, _ => exact wl_t 907 rfl rfl
  | 16, _ => exact wl_t 909 rfl rfl
  | 17, _ => exact wl_t 911 rfl rfl
  | 18, _ => exact wl_t 913 rfl rfl
  | 19, _ => exact wl_t 915 rfl rfl
  | 20, _ => exact wl_t 917 rfl rfl
  | 21, _ => exact wl_t 919 rfl rfl
  | 22, _ => exact wl_t 921 rfl rfl
  | 23, _ => exact wl_t 923 rfl rfl
  | 24, _ => exact wl_t 925 rfl rfl
  | 25, _ => exact wl_t 927 rfl rfl
  | 26, _ => exact wl_t 929 rfl rfl
  | 27, _ => exact wl_t 931 rfl rfl
  | 28, _ => exact wl_t 933 rfl rfl
  | 29, _ => exact wl_t 935 rfl rfl
  | k + 30, h => exact absurd h (by omega)
theorem nm_9 : ∀ a, a < nF 9 → ∀ b, b < nF 9 → a ≠ b → (cT 9 a).2.1 ≠ (cT 9 b).2.1 := by decide +kernel
theorem ty_9 : ∀ k, k < nF 9 → parseFieldDescriptor (cT 9 k).2.2.1 = some (cY 9 k) := by decide +kernel
set_option maxRecDepth 20000 in
theorem ik_9 : Cond.instantiable (cN 9) (nF 9) ∈ wl ∧ Cond.initialized (cN 9) ∈ wl := ⟨wl_t 834 rfl rfl, wl_t 15 rfl rfl⟩
theorem fk_9 : ∀ k, k < nF 9 → (fK 9 k = 0 → cY 9 k = .int ∧ (cT 9 k).2.2.2 = false) ∧ (fK 9 k = 1 → cY 9 k = .boolean ∧ (cT 9 k).2.2.2 = false) ∧ (fK 9 k = 2 → (cT 9 k).2.2.2 = false) ∧ (fK 9 k = 3 → (cT 9 k).2.2.2 = true ∧ (cT 9 k).1 = cN 9) ∧ (fK 9 k = 2 ∨ fK 9 k = 3 → (cY 9 k).isReference = true) ∧ fK 9 k ≤ 3 := by decide +kernel
/-- what the tables say of a class -/
def OKC (o : Nat) : Prop := classes[o]? = some (cN o, cT o, nF o) ∧ (∀ w ∈ u_ws (cN o) (cT o) (nF o), w ∈ wl) ∧ (∀ a, a < nF o → ∀ b, b < nF o → a ≠ b → (cT o a).2.1 ≠ (cT o b).2.1) ∧ (∀ k, k < nF o → parseFieldDescriptor (cT o k).2.2.1 = some (cY o k)) ∧ (Cond.instantiable (cN o) (nF o) ∈ wl ∧ Cond.initialized (cN o) ∈ wl) ∧ (∀ k, k < nF o → (fK o k = 0 → cY o k = .int ∧ (cT o k).2.2.2 = false) ∧ (fK o k = 1 → cY o k = .boolean ∧ (cT o k).2.2.2 = false) ∧ (fK o k = 2 → (cT o k).2.2.2 = false) ∧ (fK o k = 3 → (cT o k).2.2.2 = true ∧ (cT o k).1 = cN o) ∧ (fK o k = 2 ∨ fK o k = 3 → (cY o k).isReference = true) ∧ fK o k ≤ 3)
set_option maxRecDepth 20000 in
theorem okc : ∀ o, o < 10 → OKC o := by
  intro o ho
  match o, ho with
  | 0, _ => exact ⟨rfl, lay_0, nm_0, ty_0, ik_0, fk_0⟩
  | 1, _ => exact ⟨rfl, lay_1, nm_1, ty_1, ik_1, fk_1⟩
  | 2, _ => exact ⟨rfl, lay_2, nm_2, ty_2, ik_2, fk_2⟩
  | 3, _ => exact ⟨rfl, lay_3, nm_3, ty_3, ik_3, fk_3⟩
  | 4, _ => exact ⟨rfl, lay_4, nm_4, ty_4, ik_4, fk_4⟩
  | 5, _ => exact ⟨rfl, lay_5, nm_5, ty_5, ik_5, fk_5⟩
  | 6, _ => exact ⟨rfl, lay_6, nm_6, ty_6, ik_6, fk_6⟩
  | 7, _ => exact ⟨rfl, lay_7, nm_7, ty_7, ik_7, fk_7⟩
  | 8, _ => exact ⟨rfl, lay_8, nm_8, ty_8, ik_8, fk_8⟩
  | 9, _ => exact ⟨rfl, lay_9, nm_9, ty_9, ik_9, fk_9⟩
  | o + 10, h => exact absurd h (by omega)
end
section
/-! ===== what the tables say of the methods ===== -/
theorem plains : ∀ o, o < 12 → plainName (cN o) = true ∧ (cN o ≠ "java/lang/invoke/MethodHandle" ∧ cN o ≠ "java/lang/invoke/VarHandle") := by decide +kernel
theorem pars : ∀ y, y < 190 → (parseMethodDescriptor (mN y).desc).map (fun d => d.parameters.length) = some (if mK y = 1 then mA y else mA y - 1) := by decide +kernel
theorem nums : ∀ y, y < 190 → mO y < 12 ∧ mL y ≤ 13 ∧ mA y ≤ mL y ∧ mR y ≤ 2 ∧ mK y ≤ 2 ∧ (mK y ≠ 1 → 1 ≤ mA y ∧ mO y < 10) ∧ (mK y = 2 → mR y = 0) := by decide +kernel
set_option maxRecDepth 20000 in
theorem ini_0 : Cond.initialized (cN 0) ∈ wl := wl_t 7 rfl rfl
set_option maxRecDepth 20000 in
theorem ini_1 : Cond.initialized (cN 1) ∈ wl := wl_t 4 rfl rfl
set_option maxRecDepth 20000 in
theorem ini_2 : Cond.initialized (cN 2) ∈ wl := wl_t 2 rfl rfl
set_option maxRecDepth 20000 in
theorem ini_3 : Cond.initialized (cN 3) ∈ wl := wl_t 3 rfl rfl
set_option maxRecDepth 20000 in
theorem ini_4 : Cond.initialized (cN 4) ∈ wl := wl_t 8 rfl rfl
set_option maxRecDepth 20000 in
theorem ini_5 : Cond.initialized (cN 5) ∈ wl := wl_t 9 rfl rfl
set_option maxRecDepth 20000 in
theorem ini_6 : Cond.initialized (cN 6) ∈ wl := wl_t 5 rfl rfl
set_option maxRecDepth 20000 in
theorem ini_7 : Cond.initialized (cN 7) ∈ wl := wl_t 6 rfl rfl
set_option maxRecDepth 20000 in
theorem ini_8 : Cond.initialized (cN 8) ∈ wl := wl_t 1 rfl rfl
set_option maxRecDepth 20000 in
theorem ini_9 : Cond.initialized (cN 9) ∈ wl := wl_t 15 rfl rfl
set_option maxRecDepth 20000 in
theorem ini_11 : Cond.initialized (cN 11) ∈ wl := wl_t 14 rfl rfl
theorem inis : ∀ o, o < 12 → o ≠ 10 → Cond.initialized (cN o) ∈ wl := by
  intro o ho h10
  match o, ho, h10 with
  | 0, _, _ => exact ini_0
  | 1, _, _ => exact ini_1
  | 2, _, _ => exact ini_2
  | 3, _, _ => exact ini_3
  | 4, _, _ => exact ini_4
  | 5, _, _ => exact ini_5
  | 6, _, _ => exact ini_6
  | 7, _, _ => exact ini_7
  | 8, _, _ => exact ini_8
  | 9, _, _ => exact ini_9
  | 10, _, h => exact absurd rfl h
  | 11, _, _ => exact ini_11
  | o + 12, h, _ => exact absurd h (by omega)
/-- a method's words: its code; a static one's; an instance method's; which one is selected -/
def OKM (y : Nat) : Prop := Cond.code (mN y) (mB y) (mL y) (mT y) ∈ wl ∧ (mK y = 1 → Cond.static (mN y) ∈ wl) ∧ (mK y ≠ 1 → Cond.instanceMethod (mN y) ∈ wl) ∧ (mK y = 0 → Cond.selects (mN y).cls (mN y) (mN y) ∈ wl) ∧ (mK y = 2 → (mN y).name = "<init>")
set_option maxRecDepth 20000 in
theorem okm_0 : OKM 0 := ⟨wl_t 198 rfl rfl, fun h => absurd h (by decide), fun _ => wl_t 197 rfl rfl, fun h => absurd h (by decide), fun _ => rfl⟩
set_option maxRecDepth 20000 in
theorem okm_1 : OKM 1 := ⟨wl_t 704 rfl rfl, fun h => absurd h (by decide), fun _ => wl_t 702 rfl rfl, fun _ => wl_t 703 rfl rfl, fun h => absurd h (by decide)⟩
set_option maxRecDepth 20000 in
theorem okm_2 : OKM 2 := ⟨wl_t 710 rfl rfl, fun h => absurd h (by decide), fun _ => wl_t 709 rfl rfl, fun _ => wl_s 30 rfl rfl, fun h => absurd h (by decide)⟩
set_option maxRecDepth 20000 in
theorem okm_3 : OKM 3 := ⟨wl_t 732 rfl rfl, fun h => absurd h (by decide), fun _ => wl_t 730 rfl rfl, fun _ => wl_t 731 rfl rfl, fun h => absurd h (by decide)⟩
set_option maxRecDepth 20000 in
theorem okm_4 : OKM 4 := ⟨wl_t 738 rfl rfl, fun h => absurd h (by decide), fun _ => wl_t 736 rfl rfl, fun _ => wl_t 737 rfl rfl, fun h => absurd h (by decide)⟩
set_option maxRecDepth 20000 in
theorem okm_5 : OKM 5 := ⟨wl_t 136 rfl rfl, fun h => absurd h (by decide), fun _ => wl_t 135 rfl rfl, fun h => absurd h (by decide), fun _ => rfl⟩
set_option maxRecDepth 20000 in
theorem okm_6 : OKM 6 := ⟨wl_t 659 rfl rfl, fun h => absurd h (by decide), fun _ => wl_t 657 rfl rfl, fun _ => wl_t 658 rfl rfl, fun h => absurd h (by decide)⟩
set_option maxRecDepth 20000 in
theorem okm_7 : OKM 7 := ⟨wl_t 714 rfl rfl, fun h => absurd h (by decide), fun _ => wl_t 712 rfl rfl, fun _ => wl_t 713 rfl rfl, fun h => absurd h (by decide)⟩
set_option maxRecDepth 20000 in
theorem okm_8 : OKM 8 := ⟨wl_t 622 rfl rfl, fun h => absurd h (by decide), fun _ => wl_t 620 rfl rfl, fun _ => wl_t 621 rfl rfl, fun h => absurd h (by decide)⟩
set_option maxRecDepth 20000 in
theorem okm_9 : OKM 9 := ⟨wl_t 626 rfl rfl, fun h => absurd h (by decide), fun _ => wl_t 625 rfl rfl, fun _ => wl_s 24 rfl rfl, fun h => absurd h (by decide)⟩
set_option maxRecDepth 20000 in
theorem okm_10 : OKM 10 := ⟨wl_t 647 rfl rfl, fun h => absurd h (by decide), fun _ => wl_t 646 rfl rfl, fun _ => wl_s 25 rfl rfl, fun h => absurd h (by decide)⟩
set_option maxRecDepth 20000 in
theorem okm_11 : OKM 11 := ⟨wl_t 30 rfl rfl, fun h => absurd h (by decide), fun _ => wl_t 29 rfl rfl, fun h => absurd h (by decide), fun _ => rfl⟩
set_option maxRecDepth 20000 in
theorem okm_12 : OKM 12 := ⟨wl_t 341 rfl rfl, fun h => absurd h (by decide), fun _ => wl_t 339 rfl rfl, fun _ => wl_t 340 rfl rfl, fun h => absurd h (by decide)⟩
set_option maxRecDepth 20000 in
theorem okm_13 : OKM 13 := ⟨wl_t 349 rfl rfl, fun h => absurd h (by decide), fun _ => wl_t 347 rfl rfl, fun _ => wl_t 348 rfl rfl, fun h => absurd h (by decide)⟩
set_option maxRecDepth 20000 in
theorem okm_14 : OKM 14 := ⟨wl_t 360 rfl rfl, fun h => absurd h (by decide), fun _ => wl_t 359 rfl rfl, fun _ => wl_s 1 rfl rfl, fun h => absurd h (by decide)⟩
set_option maxRecDepth 20000 in
theorem okm_15 : OKM 15 := ⟨wl_t 368 rfl rfl, fun h => absurd h (by decide), fun _ => wl_t 367 rfl rfl, fun _ => wl_s 3 rfl rfl, fun h => absurd h (by decide)⟩
set_option maxRecDepth 20000 in
theorem okm_16 : OKM 16 := ⟨wl_t 376 rfl rfl, fun h => absurd h (by decide), fun _ => wl_t 375 rfl rfl, fun _ => wl_s 5 rfl rfl, fun h => absurd h (by decide)⟩
set_option maxRecDepth 20000 in
theorem okm_17 : OKM 17 := ⟨wl_t 380 rfl rfl, fun h => absurd h (by decide), fun _ => wl_t 379 rfl rfl, fun _ => wl_s 6 rfl rfl, fun h => absurd h (by decide)⟩
set_option maxRecDepth 20000 in
theorem okm_18 : OKM 18 := ⟨wl_t 395 rfl rfl, fun h => absurd h (by decide), fun _ => wl_t 394 rfl rfl, fun _ => wl_s 8 rfl rfl, fun h => absurd h (by decide)⟩
set_option maxRecDepth 20000 in
theorem okm_19 : OKM 19 := ⟨wl_t 398 rfl rfl, fun _ => wl_t 397 rfl rfl, fun h => absurd h (by decide), fun h => absurd h (by decide), fun h => absurd h (by decide)⟩
set_option maxRecDepth 20000 in
theorem okm_20 : OKM 20 := ⟨wl_t 387 rfl rfl, fun h => absurd h (by decide), fun _ => wl_t 386 rfl rfl, fun _ => wl_s 7 rfl rfl, fun h => absurd h (by decide)⟩
set_option maxRecDepth 20000 in
theorem okm_21 : OKM 21 := ⟨wl_t 372 rfl rfl, fun h => absurd h (by decide), fun _ => wl_t 371 rfl rfl, fun _ => wl_s 4 rfl rfl, fun h => absurd h (by decide)⟩
set_option maxRecDepth 20000 in
theorem okm_22 : OKM 22 := ⟨wl_t 364 rfl rfl, fun h => absurd h (by decide), fun _ => wl_t 363 rfl rfl, fun _ => wl_s 2 rfl rfl, fun h => absurd h (by decide)⟩
set_option maxRecDepth 20000 in
theorem okm_23 : OKM 23 := ⟨wl_t 52 rfl rfl, fun h => absurd h (by decide), fun _ => wl_t 51 rfl rfl, fun h => absurd h (by decide), fun _ => rfl⟩
set_option maxRecDepth 20000 in
theorem okm_24 : OKM 24 := ⟨wl_t 406 rfl rfl, fun h => absurd h (by decide), fun _ => wl_t 404 rfl rfl, fun _ => wl_t 405 rfl rfl, fun h => absurd h (by decide)⟩
set_option maxRecDepth 20000 in
theorem okm_25 : OKM 25 := ⟨wl_t 410 rfl rfl, fun h => absurd h (by decide), fun _ => wl_t 409 rfl rfl, fun _ => wl_s 9 rfl rfl, fun h => absurd h (by decide)⟩
set_option maxRecDepth 20000 in
theorem okm_26 : OKM 26 := ⟨wl_t 414 rfl rfl, fun h => absurd h (by decide), fun _ => wl_t 413 rfl rfl, fun _ => wl_s 10 rfl rfl, fun h => absurd h (by decide)⟩
set_option maxRecDepth 20000 in
theorem okm_27 : OKM 27 := ⟨wl_t 418 rfl rfl, fun h => absurd h (by decide), fun _ => wl_t 417 rfl rfl, fun _ => wl_s 11 rfl rfl, fun h => absurd h (by decide)⟩
set_option maxRecDepth 20000 in
theorem okm_28 : OKM 28 := ⟨wl_t 422 rfl rfl, fun h => absurd h (by decide), fun _ => wl_t 421 rfl rfl, fun _ => wl_s 12 rfl rfl, fun h => absurd h (by decide)⟩
set_option maxRecDepth 20000 in
theorem okm_29 : OKM 29 := ⟨wl_t 426 rfl rfl, fun h => absurd h (by decide), fun _ => wl_t 424 rfl rfl, fun _ => wl_t 425 rfl rfl, fun h => absurd h (by decide)⟩
set_option maxRecDepth 20000 in
theorem okm_30 : OKM 30 := ⟨wl_t 430 rfl rfl, fun h => absurd h (by decide), fun _ => wl_t 428 rfl rfl, fun _ => wl_t 429 rfl rfl, fun h => absurd h (by decide)⟩
set_option maxRecDepth 20000 in
theorem okm_31 : OKM 31 := ⟨wl_t 638 rfl rfl, fun h => absurd h (by decide), fun _ => wl_t 636 rfl rfl, fun _ => wl_t 637 rfl rfl, fun h => absurd h (by decide)⟩
set_option maxRecDepth 20000 in
theorem okm_32 : OKM 32 := ⟨wl_t 630 rfl rfl, fun h => absurd h (by decide), fun _ => wl_t 628 rfl rfl, fun _ => wl_t 629 rfl rfl, fun h => absurd h (by decide)⟩
set_option maxRecDepth 20000 in
theorem okm_33 : OKM 33 := ⟨wl_t 634 rfl rfl, fun h => absurd h (by decide), fun _ => wl_t 632 rfl rfl, fun _ => wl_t 633 rfl rfl, fun h => absurd h (by decide)⟩
set_option maxRecDepth 20000 in
theorem okm_34 : OKM 34 := ⟨wl_t 664 rfl rfl, fun h => absurd h (by decide), fun _ => wl_t 662 rfl rfl, fun _ => wl_t 663 rfl rfl, fun h => absurd h (by decide)⟩
set_option maxRecDepth 20000 in
theorem okm_35 : OKM 35 := ⟨wl_t 223 rfl rfl, fun h => absurd h (by decide), fun _ => wl_t 222 rfl rfl, fun h => absurd h (by decide), fun _ => rfl⟩
set_option maxRecDepth 20000 in
theorem okm_36 : OKM 36 := ⟨wl_t 767 rfl rfl, fun h => absurd h (by decide), fun _ => wl_t 765 rfl rfl, fun _ => wl_t 766 rfl rfl, fun h => absurd h (by decide)⟩
set_option maxRecDepth 20000 in
theorem okm_37 : OKM 37 := ⟨wl_t 772 rfl rfl, fun h => absurd h (by decide), fun _ => wl_t 770 rfl rfl, fun _ => wl_t 771 rfl rfl, fun h => absurd h (by decide)⟩
set_option maxRecDepth 20000 in
theorem okm_38 : OKM 38 := ⟨wl_t 781 rfl rfl, fun h => absurd h (by decide), fun _ => wl_t 780 rfl rfl, fun _ => wl_s 33 rfl rfl, fun h => absurd h (by decide)⟩
set_option maxRecDepth 20000 in
theorem okm_39 : OKM 39 := ⟨wl_t 776 rfl rfl, fun h => absurd h (by decide), fun _ => wl_t 775 rfl rfl, fun _ => wl_s 32 rfl rfl, fun h => absurd h (by decide)⟩
set_option maxRecDepth 20000 in
theorem okm_40 : OKM 40 := ⟨wl_t 786 rfl rfl, fun h => absurd h (by decide), fun _ => wl_t 784 rfl rfl, fun _ => wl_t 785 rfl rfl, fun h => absurd h (by decide)⟩
set_option maxRecDepth 20000 in
theorem okm_41 : OKM 41 := ⟨wl_t 790 rfl rfl, fun h => absurd h (by decide), fun _ => wl_t 788 rfl rfl, fun _ => wl_t 789 rfl rfl, fun h => absurd h (by decide)⟩
set_option maxRecDepth 20000 in
theorem okm_42 : OKM 42 := ⟨wl_t 808 rfl rfl, fun h => absurd h (by decide), fun _ => wl_t 806 rfl rfl, fun _ => wl_t 807 rfl rfl, fun h => absurd h (by decide)⟩
set_option maxRecDepth 20000 in
theorem okm_43 : OKM 43 := ⟨wl_t 800 rfl rfl, fun h => absurd h (by decide), fun _ => wl_t 798 rfl rfl, fun _ => wl_t 799 rfl rfl, fun h => absurd h (by decide)⟩
set_option maxRecDepth 20000 in
theorem okm_44 : OKM 44 := ⟨wl_t 823 rfl rfl, fun h => absurd h (by decide), fun _ => wl_t 821 rfl rfl, fun _ => wl_t 822 rfl rfl, fun h => absurd h (by decide)⟩
set_option maxRecDepth 20000 in
theorem okm_45 : OKM 45 := ⟨wl_t 246 rfl rfl, fun h => absurd h (by decide), fun _ => wl_t 245 rfl rfl, fun h => absurd h (by decide), fun _ => rfl⟩
set_option maxRecDepth 20000 in
theorem okm_46 : OKM 46 := ⟨wl_t 434 rfl rfl, fun h => absurd h (by decide), fun _ => wl_t 432 rfl rfl, fun _ => wl_t 433 rfl rfl, fun h => absurd h (by decide)⟩
set_option maxRecDepth 20000 in
theorem okm_47 : OKM 47 := ⟨wl_t 353 rfl rfl, fun h => absurd h (by decide), fun _ => wl_t 351 rfl rfl, fun _ => wl_t 352 rfl rfl, fun h => absurd h (by decide)⟩
set_option maxRecDepth 20000 in
theorem okm_48 : OKM 48 := ⟨wl_t 534 rfl rfl, fun h => absurd h (by decide), fun _ => wl_t 532 rfl rfl, fun _ => wl_t 533 rfl rfl, fun h => absurd h (by decide)⟩
set_option maxRecDepth 20000 in
theorem okm_49 : OKM 49 := ⟨wl_t 402 rfl rfl, fun h => absurd h (by decide), fun _ => wl_t 400 rfl rfl, fun _ => wl_t 401 rfl rfl, fun h => absurd h (by decide)⟩
set_option maxRecDepth 20000 in
theorem okm_50 : OKM 50 := ⟨wl_t 584 rfl rfl, fun h => absurd h (by decide), fun _ => wl_t 582 rfl rfl, fun _ => wl_t 583 rfl rfl, fun h => absurd h (by decide)⟩
set_option maxRecDepth 20000 in
theorem okm_51 : OKM 51 := ⟨wl_t 597 rfl rfl, fun h => absurd h (by decide), fun _ => wl_t 595 rfl rfl, fun _ => wl_t 596 rfl rfl, fun h => absurd h (by decide)⟩
set_option maxRecDepth 20000 in
theorem okm_52 : OKM 52 := ⟨wl_t 642 rfl rfl, fun h => absurd h (by decide), fun _ => wl_t 640 rfl rfl, fun _ => wl_t 641 rfl rfl, fun h => absurd h (by decide)⟩
set_option maxRecDepth 20000 in
theorem okm_53 : OKM 53 := ⟨wl_t 545 rfl rfl, fun h => absurd h (by decide), fun _ => wl_t 543 rfl rfl, fun _ => wl_t 544 rfl rfl, fun h => absurd h (by decide)⟩
set_option maxRecDepth 20000 in
theorem okm_54 : OKM 54 := ⟨wl_t 438 rfl rfl, fun h => absurd h (by decide), fun _ => wl_t 436 rfl rfl, fun _ => wl_t 437 rfl rfl, fun h => absurd h (by decide)⟩
set_option maxRecDepth 20000 in
theorem okm_55 : OKM 55 := ⟨wl_t 576 rfl rfl, fun h => absurd h (by decide), fun _ => wl_t 574 rfl rfl, fun _ => wl_t 575 rfl rfl, fun h => absurd h (by decide)⟩
set_option maxRecDepth 20000 in
theorem okm_56 : OKM 56 := ⟨wl_t 391 rfl rfl, fun h => absurd h (by decide), fun _ => wl_t 389 rfl rfl, fun _ => wl_t 390 rfl rfl, fun h => absurd h (by decide)⟩
set_option maxRecDepth 20000 in
theorem okm_57 : OKM 57 := ⟨wl_t 755 rfl rfl, fun h => absurd h (by decide), fun _ => wl_t 753 rfl rfl, fun _ => wl_t 754 rfl rfl, fun h => absurd h (by decide)⟩
set_option maxRecDepth 20000 in
theorem okm_58 : OKM 58 := ⟨wl_t 167 rfl rfl, fun h => absurd h (by decide), fun _ => wl_t 166 rfl rfl, fun h => absurd h (by decide), fun _ => rfl⟩
set_option maxRecDepth 20000 in
theorem okm_59 : OKM 59 := ⟨wl_t 572 rfl rfl, fun h => absurd h (by decide), fun _ => wl_t 570 rfl rfl, fun _ => wl_t 571 rfl rfl, fun h => absurd h (by decide)⟩
set_option maxRecDepth 20000 in
theorem okm_60 : OKM 60 := ⟨wl_t 580 rfl rfl, fun h => absurd h (by decide), fun _ => wl_t 579 rfl rfl, fun _ => wl_s 21 rfl rfl, fun h => absurd h (by decide)⟩
set_option maxRecDepth 20000 in
theorem okm_61 : OKM 61 := ⟨wl_t 180 rfl rfl, fun h => absurd h (by decide), fun _ => wl_t 179 rfl rfl, fun h => absurd h (by decide), fun _ => rfl⟩
set_option maxRecDepth 20000 in
theorem okm_62 : OKM 62 := ⟨wl_t 676 rfl rfl, fun h => absurd h (by decide), fun _ => wl_t 674 rfl rfl, fun _ => wl_t 675 rfl rfl, fun h => absurd h (by decide)⟩
set_option maxRecDepth 20000 in
theorem okm_63 : OKM 63 := ⟨wl_t 686 rfl rfl, fun h => absurd h (by decide), fun _ => wl_t 685 rfl rfl, fun _ => wl_s 28 rfl rfl, fun h => absurd h (by decide)⟩
set_option maxRecDepth 20000 in
theorem okm_64 : OKM 64 := ⟨wl_t 681 rfl rfl, fun h => absurd h (by decide), fun _ => wl_t 680 rfl rfl, fun _ => wl_s 27 rfl rfl, fun h => absurd h (by decide)⟩
set_option maxRecDepth 20000 in
theorem okm_65 : OKM 65 := ⟨wl_t 700 rfl rfl, fun h => absurd h (by decide), fun _ => wl_t 699 rfl rfl, fun _ => wl_s 29 rfl rfl, fun h => absurd h (by decide)⟩
set_option maxRecDepth 20000 in
theorem okm_66 : OKM 66 := ⟨wl_t 695 rfl rfl, fun h => absurd h (by decide), fun _ => wl_t 693 rfl rfl, fun _ => wl_t 694 rfl rfl, fun h => absurd h (by decide)⟩
set_option maxRecDepth 20000 in
theorem okm_67 : OKM 67 := ⟨wl_t 718 rfl rfl, fun h => absurd h (by decide), fun _ => wl_t 716 rfl rfl, fun _ => wl_t 717 rfl rfl, fun h => absurd h (by decide)⟩
set_option maxRecDepth 20000 in
theorem okm_68 : OKM 68 := ⟨wl_t 22 rfl rfl, fun h => absurd h (by decide), fun _ => wl_t 21 rfl rfl, fun h => absurd h (by decide), fun _ => rfl⟩
set_option maxRecDepth 20000 in
theorem okm_69 : OKM 69 := ⟨wl_t 480 rfl rfl, fun h => absurd h (by decide), fun _ => wl_t 478 rfl rfl, fun _ => wl_t 479 rfl rfl, fun h => absurd h (by decide)⟩
set_option maxRecDepth 20000 in
theorem okm_70 : OKM 70 := ⟨wl_t 484 rfl rfl, fun h => absurd h (by decide), fun _ => wl_t 482 rfl rfl, fun _ => wl_t 483 rfl rfl, fun h => absurd h (by decide)⟩
set_option maxRecDepth 20000 in
theorem okm_71 : OKM 71 := ⟨wl_t 488 rfl rfl, fun h => absurd h (by decide), fun _ => wl_t 486 rfl rfl, fun _ => wl_t 487 rfl rfl, fun h => absurd h (by decide)⟩
set_option maxRecDepth 20000 in
theorem okm_72 : OKM 72 := ⟨wl_t 492 rfl rfl, fun h => absurd h (by decide), fun _ => wl_t 490 rfl rfl, fun _ => wl_t 491 rfl rfl, fun h => absurd h (by decide)⟩
set_option maxRecDepth 20000 in
theorem okm_73 : OKM 73 := ⟨wl_t 496 rfl rfl, fun h => absurd h (by decide), fun _ => wl_t 494 rfl rfl, fun _ => wl_t 495 rfl rfl, fun h => absurd h (by decide)⟩
set_option maxRecDepth 20000 in
theorem okm_74 : OKM 74 := ⟨wl_t 501 rfl rfl, fun h => absurd h (by decide), fun _ => wl_t 499 rfl rfl, fun _ => wl_t 500 rfl rfl, fun h => absurd h (by decide)⟩
set_option maxRecDepth 20000 in
theorem okm_75 : OKM 75 := ⟨wl_t 518 rfl rfl, fun h => absurd h (by decide), fun _ => wl_t 516 rfl rfl, fun _ => wl_t 517 rfl rfl, fun h => absurd h (by decide)⟩
set_option maxRecDepth 20000 in
theorem okm_76 : OKM 76 := ⟨wl_t 526 rfl rfl, fun h => absurd h (by decide), fun _ => wl_t 524 rfl rfl, fun _ => wl_t 525 rfl rfl, fun h => absurd h (by decide)⟩
set_option maxRecDepth 20000 in
theorem okm_77 : OKM 77 := ⟨wl_t 556 rfl rfl, fun h => absurd h (by decide), fun _ => wl_t 554 rfl rfl, fun _ => wl_t 555 rfl rfl, fun h => absurd h (by decide)⟩
set_option maxRecDepth 20000 in
theorem okm_78 : OKM 78 := ⟨wl_t 564 rfl rfl, fun h => absurd h (by decide), fun _ => wl_t 562 rfl rfl, fun _ => wl_t 563 rfl rfl, fun h => absurd h (by decide)⟩
set_option maxRecDepth 20000 in
theorem okm_79 : OKM 79 := ⟨wl_t 568 rfl rfl, fun h => absurd h (by decide), fun _ => wl_t 566 rfl rfl, fun _ => wl_t 567 rfl rfl, fun h => absurd h (by decide)⟩
set_option maxRecDepth 20000 in
theorem okm_80 : OKM 80 := ⟨wl_t 593 rfl rfl, fun h => absurd h (by decide), fun _ => wl_t 591 rfl rfl, fun _ => wl_t 592 rfl rfl, fun h => absurd h (by decide)⟩
set_option maxRecDepth 20000 in
theorem okm_81 : OKM 81 := ⟨wl_t 601 rfl rfl, fun h => absurd h (by decide), fun _ => wl_t 599 rfl rfl, fun _ => wl_t 600 rfl rfl, fun h => absurd h (by decide)⟩
set_option maxRecDepth 20000 in
theorem okm_82 : OKM 82 := ⟨wl_t 606 rfl rfl, fun h => absurd h (by decide), fun _ => wl_t 604 rfl rfl, fun _ => wl_t 605 rfl rfl, fun h => absurd h (by decide)⟩
set_option maxRecDepth 20000 in
theorem okm_83 : OKM 83 := ⟨wl_t 610 rfl rfl, fun h => absurd h (by decide), fun _ => wl_t 608 rfl rfl, fun _ => wl_t 609 rfl rfl, fun h => absurd h (by decide)⟩
set_option maxRecDepth 20000 in
theorem okm_84 : OKM 84 := ⟨wl_t 651 rfl rfl, fun h => absurd h (by decide), fun _ => wl_t 649 rfl rfl, fun _ => wl_t 650 rfl rfl, fun h => absurd h (by decide)⟩
set_option maxRecDepth 20000 in
theorem okm_85 : OKM 85 := ⟨wl_t 668 rfl rfl, fun h => absurd h (by decide), fun _ => wl_t 666 rfl rfl, fun _ => wl_t 667 rfl rfl, fun h => absurd h (by decide)⟩
set_option maxRecDepth 20000 in
theorem okm_86 : OKM 86 := ⟨wl_t 672 rfl rfl, fun h => absurd h (by decide), fun _ => wl_t 670 rfl rfl, fun _ => wl_t 671 rfl rfl, fun h => absurd h (by decide)⟩
set_option maxRecDepth 20000 in
theorem okm_87 : OKM 87 := ⟨wl_t 691 rfl rfl, fun h => absurd h (by decide), fun _ => wl_t 689 rfl rfl, fun _ => wl_t 690 rfl rfl, fun h => absurd h (by decide)⟩
set_option maxRecDepth 20000 in
theorem okm_88 : OKM 88 := ⟨wl_t 724 rfl rfl, fun h => absurd h (by decide), fun _ => wl_t 722 rfl rfl, fun _ => wl_t 723 rfl rfl, fun h => absurd h (by decide)⟩
set_option maxRecDepth 20000 in
theorem okm_89 : OKM 89 := ⟨wl_t 728 rfl rfl, fun h => absurd h (by decide), fun _ => wl_t 726 rfl rfl, fun _ => wl_t 727 rfl rfl, fun h => absurd h (by decide)⟩
set_option maxRecDepth 20000 in
theorem okm_90 : OKM 90 := ⟨wl_t 742 rfl rfl, fun h => absurd h (by decide), fun _ => wl_t 740 rfl rfl, fun _ => wl_t 741 rfl rfl, fun h => absurd h (by decide)⟩
set_option maxRecDepth 20000 in
theorem okm_91 : OKM 91 := ⟨wl_t 747 rfl rfl, fun h => absurd h (by decide), fun _ => wl_t 745 rfl rfl, fun _ => wl_t 746 rfl rfl, fun h => absurd h (by decide)⟩
set_option maxRecDepth 20000 in
theorem okm_92 : OKM 92 := ⟨wl_t 759 rfl rfl, fun h => absurd h (by decide), fun _ => wl_t 757 rfl rfl, fun _ => wl_t 758 rfl rfl, fun h => absurd h (by decide)⟩
set_option maxRecDepth 20000 in
theorem okm_93 : OKM 93 := ⟨wl_t 763 rfl rfl, fun h => absurd h (by decide), fun _ => wl_t 761 rfl rfl, fun _ => wl_t 762 rfl rfl, fun h => absurd h (by decide)⟩
set_option maxRecDepth 20000 in
theorem okm_94 : OKM 94 := ⟨wl_t 796 rfl rfl, fun h => absurd h (by decide), fun _ => wl_t 794 rfl rfl, fun _ => wl_t 795 rfl rfl, fun h => absurd h (by decide)⟩
set_option maxRecDepth 20000 in
theorem okm_95 : OKM 95 := ⟨wl_t 804 rfl rfl, fun h => absurd h (by decide), fun _ => wl_t 802 rfl rfl, fun _ => wl_t 803 rfl rfl, fun h => absurd h (by decide)⟩
set_option maxRecDepth 20000 in
theorem okm_96 : OKM 96 := ⟨wl_t 814 rfl rfl, fun h => absurd h (by decide), fun _ => wl_t 812 rfl rfl, fun _ => wl_t 813 rfl rfl, fun h => absurd h (by decide)⟩
set_option maxRecDepth 20000 in
theorem okm_97 : OKM 97 := ⟨wl_t 819 rfl rfl, fun h => absurd h (by decide), fun _ => wl_t 817 rfl rfl, fun _ => wl_t 818 rfl rfl, fun h => absurd h (by decide)⟩
set_option maxRecDepth 20000 in
theorem okm_98 : OKM 98 := ⟨wl_t 828 rfl rfl, fun h => absurd h (by decide), fun _ => wl_t 826 rfl rfl, fun _ => wl_t 827 rfl rfl, fun h => absurd h (by decide)⟩
set_option maxRecDepth 20000 in
theorem okm_99 : OKM 99 := ⟨wl_t 505 rfl rfl, fun h => absurd h (by decide), fun _ => wl_t 504 rfl rfl, fun _ => wl_s 13 rfl rfl, fun h => absurd h (by decide)⟩
set_option maxRecDepth 20000 in
theorem okm_100 : OKM 100 := ⟨wl_t 522 rfl rfl, fun h => absurd h (by decide), fun _ => wl_t 521 rfl rfl, fun _ => wl_s 16 rfl rfl, fun h => absurd h (by decide)⟩
set_option maxRecDepth 20000 in
theorem okm_101 : OKM 101 := ⟨wl_t 614 rfl rfl, fun h => absurd h (by decide), fun _ => wl_t 613 rfl rfl, fun _ => wl_s 22 rfl rfl, fun h => absurd h (by decide)⟩
set_option maxRecDepth 20000 in
theorem okm_102 : OKM 102 := ⟨wl_t 655 rfl rfl, fun h => absurd h (by decide), fun _ => wl_t 654 rfl rfl, fun _ => wl_s 26 rfl rfl, fun h => absurd h (by decide)⟩
set_option maxRecDepth 20000 in
theorem okm_103 : OKM 103 := ⟨wl_t 618 rfl rfl, fun h => absurd h (by decide), fun _ => wl_t 617 rfl rfl, fun _ => wl_s 23 rfl rfl, fun h => absurd h (by decide)⟩
set_option maxRecDepth 20000 in
theorem okm_104 : OKM 104 := ⟨wl_t 751 rfl rfl, fun h => absurd h (by decide), fun _ => wl_t 750 rfl rfl, fun _ => wl_s 31 rfl rfl, fun h => absurd h (by decide)⟩
set_option maxRecDepth 20000 in
theorem okm_105 : OKM 105 := ⟨wl_t 383 rfl rfl, fun _ => wl_t 382 rfl rfl, fun h => absurd h (by decide), fun h => absurd h (by decide), fun h => absurd h (by decide)⟩
set_option maxRecDepth 20000 in
theorem okm_106 : OKM 106 := ⟨wl_t 345 rfl rfl, fun h => absurd h (by decide), fun _ => wl_t 344 rfl rfl, fun _ => wl_s 0 rfl rfl, fun h => absurd h (by decide)⟩
set_option maxRecDepth 20000 in
theorem okm_107 : OKM 107 := ⟨wl_t 530 rfl rfl, fun h => absurd h (by decide), fun _ => wl_t 529 rfl rfl, fun _ => wl_s 17 rfl rfl, fun h => absurd h (by decide)⟩
set_option maxRecDepth 20000 in
theorem okm_108 : OKM 108 := ⟨wl_t 549 rfl rfl, fun h => absurd h (by decide), fun _ => wl_t 548 rfl rfl, fun _ => wl_s 19 rfl rfl, fun h => absurd h (by decide)⟩
set_option maxRecDepth 20000 in
theorem okm_109 : OKM 109 := ⟨wl_t 541 rfl rfl, fun h => absurd h (by decide), fun _ => wl_t 540 rfl rfl, fun _ => wl_s 18 rfl rfl, fun h => absurd h (by decide)⟩
set_option maxRecDepth 20000 in
theorem okm_110 : OKM 110 := ⟨wl_t 513 rfl rfl, fun h => absurd h (by decide), fun _ => wl_t 512 rfl rfl, fun _ => wl_s 15 rfl rfl, fun h => absurd h (by decide)⟩
set_option maxRecDepth 20000 in
theorem okm_111 : OKM 111 := ⟨wl_t 509 rfl rfl, fun h => absurd h (by decide), fun _ => wl_t 508 rfl rfl, fun _ => wl_s 14 rfl rfl, fun h => absurd h (by decide)⟩
set_option maxRecDepth 20000 in
theorem okm_112 : OKM 112 := ⟨wl_t 560 rfl rfl, fun h => absurd h (by decide), fun _ => wl_t 559 rfl rfl, fun _ => wl_s 20 rfl rfl, fun h => absurd h (by decide)⟩
set_option maxRecDepth 20000 in
theorem okm_113 : OKM 113 := ⟨wl_t 832 rfl rfl, fun h => absurd h (by decide), fun _ => wl_t 831 rfl rfl, fun _ => wl_s 34 rfl rfl, fun h => absurd h (by decide)⟩
set_option maxRecDepth 20000 in
theorem okm_114 : OKM 114 := ⟨wl_t 837 rfl rfl, fun h => absurd h (by decide), fun _ => wl_t 836 rfl rfl, fun h => absurd h (by decide), fun _ => rfl⟩
set_option maxRecDepth 20000 in
theorem okm_115 : OKM 115 := ⟨wl_t 842 rfl rfl, fun h => absurd h (by decide), fun _ => wl_t 841 rfl rfl, fun _ => wl_s 35 rfl rfl, fun h => absurd h (by decide)⟩
set_option maxRecDepth 20000 in
theorem okm_116 : OKM 116 := ⟨wl_t 846 rfl rfl, fun h => absurd h (by decide), fun _ => wl_t 845 rfl rfl, fun _ => wl_s 36 rfl rfl, fun h => absurd h (by decide)⟩
set_option maxRecDepth 20000 in
theorem okm_117 : OKM 117 := ⟨wl_t 976 rfl rfl, fun _ => wl_t 975 rfl rfl, fun h => absurd h (by decide), fun h => absurd h (by decide), fun h => absurd h (by decide)⟩
set_option maxRecDepth 20000 in
theorem okm_118 : OKM 118 := ⟨wl_t 965 rfl rfl, fun h => absurd h (by decide), fun _ => wl_t 964 rfl rfl, fun _ => wl_s 40 rfl rfl, fun h => absurd h (by decide)⟩
set_option maxRecDepth 20000 in
theorem okm_119 : OKM 119 := ⟨wl_t 961 rfl rfl, fun h => absurd h (by decide), fun _ => wl_t 960 rfl rfl, fun _ => wl_s 39 rfl rfl, fun h => absurd h (by decide)⟩
set_option maxRecDepth 20000 in
theorem okm_120 : OKM 120 := ⟨wl_t 980 rfl rfl, fun h => absurd h (by decide), fun _ => wl_t 979 rfl rfl, fun _ => wl_s 43 rfl rfl, fun h => absurd h (by decide)⟩
set_option maxRecDepth 20000 in
theorem okm_121 : OKM 121 := ⟨wl_t 973 rfl rfl, fun h => absurd h (by decide), fun _ => wl_t 972 rfl rfl, fun _ => wl_s 42 rfl rfl, fun h => absurd h (by decide)⟩
set_option maxRecDepth 20000 in
theorem okm_122 : OKM 122 := ⟨wl_t 969 rfl rfl, fun h => absurd h (by decide), fun _ => wl_t 968 rfl rfl, fun _ => wl_s 41 rfl rfl, fun h => absurd h (by decide)⟩
set_option maxRecDepth 20000 in
theorem okm_123 : OKM 123 := ⟨wl_t 957 rfl rfl, fun h => absurd h (by decide), fun _ => wl_t 956 rfl rfl, fun _ => wl_s 38 rfl rfl, fun h => absurd h (by decide)⟩
set_option maxRecDepth 20000 in
theorem okm_124 : OKM 124 := ⟨wl_t 953 rfl rfl, fun h => absurd h (by decide), fun _ => wl_t 952 rfl rfl, fun _ => wl_s 37 rfl rfl, fun h => absurd h (by decide)⟩
set_option maxRecDepth 20000 in
theorem okm_125 : OKM 125 := ⟨wl_t 941 rfl rfl, fun h => absurd h (by decide), fun _ => wl_t 939 rfl rfl, fun _ => wl_t 940 rfl rfl, fun h => absurd h (by decide)⟩
set_option maxRecDepth 20000 in
theorem okm_126 : OKM 126 := ⟨wl_t 945 rfl rfl, fun h => absurd h (by decide), fun _ => wl_t 943 rfl rfl, fun _ => wl_t 944 rfl rfl, fun h => absurd h (by decide)⟩
set_option maxRecDepth 20000 in
theorem okm_127 : OKM 127 := ⟨wl_t 949 rfl rfl, fun h => absurd h (by decide), fun _ => wl_t 947 rfl rfl, fun _ => wl_t 948 rfl rfl, fun h => absurd h (by decide)⟩
set_option maxRecDepth 20000 in
theorem okm_128 : OKM 128 := ⟨wl_t 984 rfl rfl, fun h => absurd h (by decide), fun _ => wl_t 982 rfl rfl, fun _ => wl_t 983 rfl rfl, fun h => absurd h (by decide)⟩
set_option maxRecDepth 20000 in
theorem okm_129 : OKM 129 := ⟨wl_t 988 rfl rfl, fun h => absurd h (by decide), fun _ => wl_t 987 rfl rfl, fun _ => wl_s 44 rfl rfl, fun h => absurd h (by decide)⟩
set_option maxRecDepth 20000 in
theorem okm_130 : OKM 130 := ⟨wl_t 1012 rfl rfl, fun h => absurd h (by decide), fun _ => wl_t 1011 rfl rfl, fun _ => wl_s 48 rfl rfl, fun h => absurd h (by decide)⟩
set_option maxRecDepth 20000 in
theorem okm_131 : OKM 131 := ⟨wl_t 1004 rfl rfl, fun h => absurd h (by decide), fun _ => wl_t 1003 rfl rfl, fun _ => wl_s 46 rfl rfl, fun h => absurd h (by decide)⟩
set_option maxRecDepth 20000 in
theorem okm_132 : OKM 132 := ⟨wl_t 1016 rfl rfl, fun h => absurd h (by decide), fun _ => wl_t 1015 rfl rfl, fun _ => wl_s 49 rfl rfl, fun h => absurd h (by decide)⟩
set_option maxRecDepth 20000 in
theorem okm_133 : OKM 133 := ⟨wl_t 1092 rfl rfl, fun h => absurd h (by decide), fun _ => wl_t 1091 rfl rfl, fun _ => wl_s 59 rfl rfl, fun h => absurd h (by decide)⟩
set_option maxRecDepth 20000 in
theorem okm_134 : OKM 134 := ⟨wl_t 1000 rfl rfl, fun h => absurd h (by decide), fun _ => wl_t 999 rfl rfl, fun _ => wl_s 45 rfl rfl, fun h => absurd h (by decide)⟩
set_option maxRecDepth 20000 in
theorem okm_135 : OKM 135 := ⟨wl_t 1040 rfl rfl, fun h => absurd h (by decide), fun _ => wl_t 1039 rfl rfl, fun _ => wl_s 54 rfl rfl, fun h => absurd h (by decide)⟩
set_option maxRecDepth 20000 in
theorem okm_136 : OKM 136 := ⟨wl_t 1096 rfl rfl, fun h => absurd h (by decide), fun _ => wl_t 1095 rfl rfl, fun _ => wl_s 60 rfl rfl, fun h => absurd h (by decide)⟩
set_option maxRecDepth 20000 in
theorem okm_137 : OKM 137 := ⟨wl_t 1008 rfl rfl, fun h => absurd h (by decide), fun _ => wl_t 1007 rfl rfl, fun _ => wl_s 47 rfl rfl, fun h => absurd h (by decide)⟩
set_option maxRecDepth 20000 in
theorem okm_138 : OKM 138 := ⟨wl_t 1108 rfl rfl, fun h => absurd h (by decide), fun _ => wl_t 1107 rfl rfl, fun _ => wl_s 63 rfl rfl, fun h => absurd h (by decide)⟩
set_option maxRecDepth 20000 in
theorem okm_139 : OKM 139 := ⟨wl_t 1116 rfl rfl, fun h => absurd h (by decide), fun _ => wl_t 1115 rfl rfl, fun _ => wl_s 65 rfl rfl, fun h => absurd h (by decide)⟩
set_option maxRecDepth 20000 in
theorem okm_140 : OKM 140 := ⟨wl_t 1024 rfl rfl, fun h => absurd h (by decide), fun _ => wl_t 1023 rfl rfl, fun _ => wl_s 51 rfl rfl, fun h => absurd h (by decide)⟩
set_option maxRecDepth 20000 in
theorem okm_141 : OKM 141 := ⟨wl_t 1028 rfl rfl, fun h => absurd h (by decide), fun _ => wl_t 1027 rfl rfl, fun _ => wl_s 52 rfl rfl, fun h => absurd h (by decide)⟩
set_option maxRecDepth 20000 in
theorem okm_142 : OKM 142 := ⟨wl_t 1032 rfl rfl, fun h => absurd h (by decide), fun _ => wl_t 1031 rfl rfl, fun _ => wl_s 53 rfl rfl, fun h => absurd h (by decide)⟩
set_option maxRecDepth 20000 in
theorem okm_143 : OKM 143 := ⟨wl_t 1020 rfl rfl, fun h => absurd h (by decide), fun _ => wl_t 1019 rfl rfl, fun _ => wl_s 50 rfl rfl, fun h => absurd h (by decide)⟩
set_option maxRecDepth 20000 in
theorem okm_144 : OKM 144 := ⟨wl_t 992 rfl rfl, fun h => absurd h (by decide), fun _ => wl_t 990 rfl rfl, fun _ => wl_t 991 rfl rfl, fun h => absurd h (by decide)⟩
set_option maxRecDepth 20000 in
theorem okm_145 : OKM 145 := ⟨wl_t 996 rfl rfl, fun h => absurd h (by decide), fun _ => wl_t 994 rfl rfl, fun _ => wl_t 995 rfl rfl, fun h => absurd h (by decide)⟩
set_option maxRecDepth 20000 in
theorem okm_146 : OKM 146 := ⟨wl_t 1036 rfl rfl, fun h => absurd h (by decide), fun _ => wl_t 1034 rfl rfl, fun _ => wl_t 1035 rfl rfl, fun h => absurd h (by decide)⟩
set_option maxRecDepth 20000 in
theorem okm_147 : OKM 147 := ⟨wl_t 1052 rfl rfl, fun h => absurd h (by decide), fun _ => wl_t 1051 rfl rfl, fun _ => wl_s 55 rfl rfl, fun h => absurd h (by decide)⟩
set_option maxRecDepth 20000 in
theorem okm_148 : OKM 148 := ⟨wl_t 1044 rfl rfl, fun h => absurd h (by decide), fun _ => wl_t 1042 rfl rfl, fun _ => wl_t 1043 rfl rfl, fun h => absurd h (by decide)⟩
set_option maxRecDepth 20000 in
theorem okm_149 : OKM 149 := ⟨wl_t 1056 rfl rfl, fun h => absurd h (by decide), fun _ => wl_t 1055 rfl rfl, fun _ => wl_s 56 rfl rfl, fun h => absurd h (by decide)⟩
set_option maxRecDepth 20000 in
theorem okm_150 : OKM 150 := ⟨wl_t 1048 rfl rfl, fun h => absurd h (by decide), fun _ => wl_t 1046 rfl rfl, fun _ => wl_t 1047 rfl rfl, fun h => absurd h (by decide)⟩
set_option maxRecDepth 20000 in
theorem okm_151 : OKM 151 := ⟨wl_t 1064 rfl rfl, fun h => absurd h (by decide), fun _ => wl_t 1063 rfl rfl, fun _ => wl_s 57 rfl rfl, fun h => absurd h (by decide)⟩
set_option maxRecDepth 20000 in
theorem okm_152 : OKM 152 := ⟨wl_t 1060 rfl rfl, fun h => absurd h (by decide), fun _ => wl_t 1058 rfl rfl, fun _ => wl_t 1059 rfl rfl, fun h => absurd h (by decide)⟩
set_option maxRecDepth 20000 in
theorem okm_153 : OKM 153 := ⟨wl_t 1068 rfl rfl, fun h => absurd h (by decide), fun _ => wl_t 1066 rfl rfl, fun _ => wl_t 1067 rfl rfl, fun h => absurd h (by decide)⟩
set_option maxRecDepth 20000 in
theorem okm_154 : OKM 154 := ⟨wl_t 1076 rfl rfl, fun h => absurd h (by decide), fun _ => wl_t 1075 rfl rfl, fun _ => wl_s 58 rfl rfl, fun h => absurd h (by decide)⟩
set_option maxRecDepth 20000 in
theorem okm_155 : OKM 155 := ⟨wl_t 1072 rfl rfl, fun h => absurd h (by decide), fun _ => wl_t 1070 rfl rfl, fun _ => wl_t 1071 rfl rfl, fun h => absurd h (by decide)⟩
set_option maxRecDepth 20000 in
theorem okm_156 : OKM 156 := ⟨wl_t 1080 rfl rfl, fun h => absurd h (by decide), fun _ => wl_t 1078 rfl rfl, fun _ => wl_t 1079 rfl rfl, fun h => absurd h (by decide)⟩
set_option maxRecDepth 20000 in
theorem okm_157 : OKM 157 := ⟨wl_t 1084 rfl rfl, fun h => absurd h (by decide), fun _ => wl_t 1082 rfl rfl, fun _ => wl_t 1083 rfl rfl, fun h => absurd h (by decide)⟩
set_option maxRecDepth 20000 in
theorem okm_158 : OKM 158 := ⟨wl_t 1112 rfl rfl, fun h => absurd h (by decide), fun _ => wl_t 1111 rfl rfl, fun _ => wl_s 64 rfl rfl, fun h => absurd h (by decide)⟩
set_option maxRecDepth 20000 in
theorem okm_159 : OKM 159 := ⟨wl_t 1104 rfl rfl, fun h => absurd h (by decide), fun _ => wl_t 1103 rfl rfl, fun _ => wl_s 62 rfl rfl, fun h => absurd h (by decide)⟩
set_option maxRecDepth 20000 in
theorem okm_160 : OKM 160 := ⟨wl_t 1120 rfl rfl, fun h => absurd h (by decide), fun _ => wl_t 1119 rfl rfl, fun _ => wl_s 66 rfl rfl, fun h => absurd h (by decide)⟩
set_option maxRecDepth 20000 in
theorem okm_161 : OKM 161 := ⟨wl_t 1100 rfl rfl, fun h => absurd h (by decide), fun _ => wl_t 1099 rfl rfl, fun _ => wl_s 61 rfl rfl, fun h => absurd h (by decide)⟩
set_option maxRecDepth 20000 in
theorem okm_162 : OKM 162 := ⟨wl_t 1088 rfl rfl, fun h => absurd h (by decide), fun _ => wl_t 1086 rfl rfl, fun _ => wl_t 1087 rfl rfl, fun h => absurd h (by decide)⟩
set_option maxRecDepth 20000 in
theorem okm_163 : OKM 163 := ⟨wl_t 1132 rfl rfl, fun h => absurd h (by decide), fun _ => wl_t 1131 rfl rfl, fun _ => wl_s 68 rfl rfl, fun h => absurd h (by decide)⟩
set_option maxRecDepth 20000 in
theorem okm_164 : OKM 164 := ⟨wl_t 1128 rfl rfl, fun h => absurd h (by decide), fun _ => wl_t 1127 rfl rfl, fun _ => wl_s 67 rfl rfl, fun h => absurd h (by decide)⟩
set_option maxRecDepth 20000 in
theorem okm_165 : OKM 165 := ⟨wl_t 1124 rfl rfl, fun h => absurd h (by decide), fun _ => wl_t 1122 rfl rfl, fun _ => wl_t 1123 rfl rfl, fun h => absurd h (by decide)⟩
set_option maxRecDepth 20000 in
theorem okm_166 : OKM 166 := ⟨wl_t 1136 rfl rfl, fun h => absurd h (by decide), fun _ => wl_t 1134 rfl rfl, fun _ => wl_t 1135 rfl rfl, fun h => absurd h (by decide)⟩
set_option maxRecDepth 20000 in
theorem okm_167 : OKM 167 := ⟨wl_t 1144 rfl rfl, fun h => absurd h (by decide), fun _ => wl_t 1143 rfl rfl, fun _ => wl_s 69 rfl rfl, fun h => absurd h (by decide)⟩
set_option maxRecDepth 20000 in
theorem okm_168 : OKM 168 := ⟨wl_t 1140 rfl rfl, fun h => absurd h (by decide), fun _ => wl_t 1138 rfl rfl, fun _ => wl_t 1139 rfl rfl, fun h => absurd h (by decide)⟩
set_option maxRecDepth 20000 in
theorem okm_169 : OKM 169 := ⟨wl_t 1148 rfl rfl, fun h => absurd h (by decide), fun _ => wl_t 1146 rfl rfl, fun _ => wl_t 1147 rfl rfl, fun h => absurd h (by decide)⟩
set_option maxRecDepth 20000 in
theorem okm_170 : OKM 170 := ⟨wl_t 1152 rfl rfl, fun h => absurd h (by decide), fun _ => wl_t 1150 rfl rfl, fun _ => wl_t 1151 rfl rfl, fun h => absurd h (by decide)⟩
set_option maxRecDepth 20000 in
theorem okm_171 : OKM 171 := ⟨wl_t 1161 rfl rfl, fun h => absurd h (by decide), fun _ => wl_t 1160 rfl rfl, fun _ => wl_s 70 rfl rfl, fun h => absurd h (by decide)⟩
set_option maxRecDepth 20000 in
theorem okm_172 : OKM 172 := ⟨wl_t 1165 rfl rfl, fun h => absurd h (by decide), fun _ => wl_t 1164 rfl rfl, fun _ => wl_s 71 rfl rfl, fun h => absurd h (by decide)⟩
set_option maxRecDepth 20000 in
theorem okm_173 : OKM 173 := ⟨wl_t 1157 rfl rfl, fun h => absurd h (by decide), fun _ => wl_t 1155 rfl rfl, fun _ => wl_t 1156 rfl rfl, fun h => absurd h (by decide)⟩
set_option maxRecDepth 20000 in
theorem okm_174 : OKM 174 := ⟨wl_t 1177 rfl rfl, fun h => absurd h (by decide), fun _ => wl_t 1176 rfl rfl, fun _ => wl_s 72 rfl rfl, fun h => absurd h (by decide)⟩
set_option maxRecDepth 20000 in
theorem okm_175 : OKM 175 := ⟨wl_t 1169 rfl rfl, fun h => absurd h (by decide), fun _ => wl_t 1167 rfl rfl, fun _ => wl_t 1168 rfl rfl, fun h => absurd h (by decide)⟩
set_option maxRecDepth 20000 in
theorem okm_176 : OKM 176 := ⟨wl_t 1173 rfl rfl, fun h => absurd h (by decide), fun _ => wl_t 1171 rfl rfl, fun _ => wl_t 1172 rfl rfl, fun h => absurd h (by decide)⟩
set_option maxRecDepth 20000 in
theorem okm_177 : OKM 177 := ⟨wl_t 1181 rfl rfl, fun h => absurd h (by decide), fun _ => wl_t 1179 rfl rfl, fun _ => wl_t 1180 rfl rfl, fun h => absurd h (by decide)⟩
set_option maxRecDepth 20000 in
theorem okm_178 : OKM 178 := ⟨wl_t 1193 rfl rfl, fun h => absurd h (by decide), fun _ => wl_t 1192 rfl rfl, fun _ => wl_s 74 rfl rfl, fun h => absurd h (by decide)⟩
set_option maxRecDepth 20000 in
theorem okm_179 : OKM 179 := ⟨wl_t 1189 rfl rfl, fun h => absurd h (by decide), fun _ => wl_t 1188 rfl rfl, fun _ => wl_s 73 rfl rfl, fun h => absurd h (by decide)⟩
set_option maxRecDepth 20000 in
theorem okm_180 : OKM 180 := ⟨wl_t 1206 rfl rfl, fun h => absurd h (by decide), fun _ => wl_t 1205 rfl rfl, fun _ => wl_s 75 rfl rfl, fun h => absurd h (by decide)⟩
set_option maxRecDepth 20000 in
theorem okm_181 : OKM 181 := ⟨wl_t 1185 rfl rfl, fun h => absurd h (by decide), fun _ => wl_t 1183 rfl rfl, fun _ => wl_t 1184 rfl rfl, fun h => absurd h (by decide)⟩
set_option maxRecDepth 20000 in
theorem okm_182 : OKM 182 := ⟨wl_t 1198 rfl rfl, fun h => absurd h (by decide), fun _ => wl_t 1196 rfl rfl, fun _ => wl_t 1197 rfl rfl, fun h => absurd h (by decide)⟩
set_option maxRecDepth 20000 in
theorem okm_183 : OKM 183 := ⟨wl_t 1202 rfl rfl, fun h => absurd h (by decide), fun _ => wl_t 1200 rfl rfl, fun _ => wl_t 1201 rfl rfl, fun h => absurd h (by decide)⟩
set_option maxRecDepth 20000 in
theorem okm_184 : OKM 184 := ⟨wl_t 1210 rfl rfl, fun h => absurd h (by decide), fun _ => wl_t 1208 rfl rfl, fun _ => wl_t 1209 rfl rfl, fun h => absurd h (by decide)⟩
set_option maxRecDepth 20000 in
theorem okm_185 : OKM 185 := ⟨wl_t 1218 rfl rfl, fun h => absurd h (by decide), fun _ => wl_t 1217 rfl rfl, fun _ => wl_s 76 rfl rfl, fun h => absurd h (by decide)⟩
set_option maxRecDepth 20000 in
theorem okm_186 : OKM 186 := ⟨wl_t 1214 rfl rfl, fun h => absurd h (by decide), fun _ => wl_t 1212 rfl rfl, fun _ => wl_t 1213 rfl rfl, fun h => absurd h (by decide)⟩
set_option maxRecDepth 20000 in
theorem okm_187 : OKM 187 := ⟨wl_t 1222 rfl rfl, fun h => absurd h (by decide), fun _ => wl_t 1220 rfl rfl, fun _ => wl_t 1221 rfl rfl, fun h => absurd h (by decide)⟩
set_option maxRecDepth 20000 in
theorem okm_189 : OKM 189 := ⟨wl_t 356 rfl rfl, fun _ => wl_t 355 rfl rfl, fun h => absurd h (by decide), fun h => absurd h (by decide), fun h => absurd h (by decide)⟩
theorem okm_r0 : ∀ y, 0 ≤ y → y < 16 → y ≠ 188 → OKM y := by
  intro y h1 h2 h3
  have h4 : y = 0 ∨ y = 1 ∨ y = 2 ∨ y = 3 ∨ y = 4 ∨ y = 5 ∨ y = 6 ∨ y = 7 ∨ y = 8 ∨ y = 9 ∨ y = 10 ∨ y = 11 ∨ y = 12 ∨ y = 13 ∨ y = 14 ∨ y = 15 := by omega
  rcases h4 with rfl | rfl | rfl | rfl | rfl | rfl | rfl | rfl | rfl | rfl | rfl | rfl | rfl | rfl | rfl | rfl
  · exact okm_0
  · exact okm_1
  · exact okm_2
  · exact okm_3
  · exact okm_4
  · exact okm_5
  · exact okm_6
  · exact okm_7
  · exact okm_8
  · exact okm_9
  · exact okm_10
  · exact okm_11
  · exact okm_12
  · exact okm_13
  · exact okm_14
  · exact okm_15
theorem okm_r16 : ∀ y, 16 ≤ y → y < 32 → y ≠ 188 → OKM y := by
  intro y h1 h2 h3
  have h4 : y = 16 ∨ y = 17 ∨ y = 18 ∨ y = 19 ∨ y = 20 ∨ y = 21 ∨ y = 22 ∨ y = 23 ∨ y = 24 ∨ y = 25 ∨ y = 26 ∨ y = 27 ∨ y = 28 ∨ y = 29 ∨ y = 30 ∨ y = 31 := by omega
  rcases h4 with rfl | rfl | rfl | rfl | rfl | rfl | rfl | rfl | rfl | rfl | rfl | rfl | rfl | rfl | rfl | rfl
  · exact okm_16
  · exact okm_17
  · exact okm_18
  · exact okm_19
  · exact okm_20
  · exact okm_21
  · exact okm_22
  · exact okm_23
  · exact okm_24
  · exact okm_25
  · exact okm_26
  · exact okm_27
  · exact okm_28
  · exact okm_29
  · exact okm_30
  · exact okm_31
theorem okm_r32 : ∀ y, 32 ≤ y → y < 48 → y ≠ 188 → OKM y := by
  intro y h1 h2 h3
  have h4 : y = 32 ∨ y = 33 ∨ y = 34 ∨ y = 35 ∨ y = 36 ∨ y = 37 ∨ y = 38 ∨ y = 39 ∨ y = 40 ∨ y = 41 ∨ y = 42 ∨ y = 43 ∨ y = 44 ∨ y = 45 ∨ y = 46 ∨ y = 47 := by omega
  rcases h4 with rfl | rfl | rfl | rfl | rfl | rfl | rfl | rfl | rfl | rfl | rfl | rfl | rfl | rfl | rfl | rfl
  · exact okm_32
  · exact okm_33
  · exact okm_34
  · exact okm_35
  · exact okm_36
  · exact okm_37
  · exact okm_38
  · exact okm_39
  · exact okm_40
  · exact okm_41
  · exact okm_42
  · exact okm_43
  · exact okm_44
  · exact okm_45
  · exact okm_46
  · exact okm_47
theorem okm_r48 : ∀ y, 48 ≤ y → y < 64 → y ≠ 188 → OKM y := by
  intro y h1 h2 h3
  have h4 : y = 48 ∨ y = 49 ∨ y = 50 ∨ y = 51 ∨ y = 52 ∨ y = 53 ∨ y = 54 ∨ y = 55 ∨ y = 56 ∨ y = 57 ∨ y = 58 ∨ y = 59 ∨ y = 60 ∨ y = 61 ∨ y = 62 ∨ y = 63 := by omega
  rcases h4 with rfl | rfl | rfl | rfl | rfl | rfl | rfl | rfl | rfl | rfl | rfl | rfl | rfl | rfl | rfl | rfl
  · exact okm_48
  · exact okm_49
  · exact okm_50
  · exact okm_51
  · exact okm_52
  · exact okm_53
  · exact okm_54
  · exact okm_55
  · exact okm_56
  · exact okm_57
  · exact okm_58
  · exact okm_59
  · exact okm_60
  · exact okm_61
  · exact okm_62
  · exact okm_63
theorem okm_r64 : ∀ y, 64 ≤ y → y < 80 → y ≠ 188 → OKM y := by
  intro y h1 h2 h3
  have h4 : y = 64 ∨ y = 65 ∨ y = 66 ∨ y = 67 ∨ y = 68 ∨ y = 69 ∨ y = 70 ∨ y = 71 ∨ y = 72 ∨ y = 73 ∨ y = 74 ∨ y = 75 ∨ y = 76 ∨ y = 77 ∨ y = 78 ∨ y = 79 := by omega
  rcases h4 with rfl | rfl | rfl | rfl | rfl | rfl | rfl | rfl | rfl | rfl | rfl | rfl | rfl | rfl | rfl | rfl
  · exact okm_64
  · exact okm_65
  · exact okm_66
  · exact okm_67
  · exact okm_68
  · exact okm_69
  · exact okm_70
  · exact okm_71
  · exact okm_72
  · exact okm_73
  · exact okm_74
  · exact okm_75
  · exact okm_76
  · exact okm_77
  · exact okm_78
  · exact okm_79
theorem okm_r80 : ∀ y, 80 ≤ y → y < 96 → y ≠ 188 → OKM y := by
  intro y h1 h2 h3
  have h4 : y = 80 ∨ y = 81 ∨ y = 82 ∨ y = 83 ∨ y = 84 ∨ y = 85 ∨ y = 86 ∨ y = 87 ∨ y = 88 ∨ y = 89 ∨ y = 90 ∨ y = 91 ∨ y = 92 ∨ y = 93 ∨ y = 94 ∨ y = 95 := by omega
  rcases h4 with rfl | rfl | rfl | rfl | rfl | rfl | rfl | rfl | rfl | rfl | rfl | rfl | rfl | rfl | rfl | rfl
  · exact okm_80
  · exact okm_81
  · exact okm_82
  · exact okm_83
  · exact okm_84
  · exact okm_85
  · exact okm_86
  · exact okm_87
  · exact okm_88
  · exact okm_89
  · exact okm_90
  · exact okm_91
  · exact okm_92
  · exact okm_93
  · exact okm_94
  · exact okm_95
theorem okm_r96 : ∀ y, 96 ≤ y → y < 112 → y ≠ 188 → OKM y := by
  intro y h1 h2 h3
  have h4 : y = 96 ∨ y = 97 ∨ y = 98 ∨ y = 99 ∨ y = 100 ∨ y = 101 ∨ y = 102 ∨ y = 103 ∨ y = 104 ∨ y = 105 ∨ y = 106 ∨ y = 107 ∨ y = 108 ∨ y = 109 ∨ y = 110 ∨ y = 111 := by omega
  rcases h4 with rfl | rfl | rfl | rfl | rfl | rfl | rfl | rfl | rfl | rfl | rfl | rfl | rfl | rfl | rfl | rfl
  · exact okm_96
  · exact okm_97
  · exact okm_98
  · exact okm_99
  · exact okm_100
  · exact okm_101
  · exact okm_102
  · exact okm_103
  · exact okm_104
  · exact okm_105
  · exact okm_106
  · exact okm_107
  · exact okm_108
  · exact okm_109
  · exact okm_110
  · exact okm_111
theorem okm_r112 : ∀ y, 112 ≤ y → y < 128 → y ≠ 188 → OKM y := by
  intro y h1 h2 h3
  have h4 : y = 112 ∨ y = 113 ∨ y = 114 ∨ y = 115 ∨ y = 116 ∨ y = 117 ∨ y = 118 ∨ y = 119 ∨ y = 120 ∨ y = 121 ∨ y = 122 ∨ y = 123 ∨ y = 124 ∨ y = 125 ∨ y = 126 ∨ y = 127 := by omega
  rcases h4 with rfl | rfl | rfl | rfl | rfl | rfl | rfl | rfl | rfl | rfl | rfl | rfl | rfl | rfl | rfl | rfl
  · exact okm_112
  · exact okm_113
  · exact okm_114
  · exact okm_115
  · exact okm_116
  · exact okm_117
  · exact okm_118
  · exact okm_119
  · exact okm_120
  · exact okm_121
  · exact okm_122
  · exact okm_123
  · exact okm_124
  · exact okm_125
  · exact okm_126
  · exact okm_127
theorem okm_r128 : ∀ y, 128 ≤ y → y < 144 → y ≠ 188 → OKM y := by
  intro y h1 h2 h3
  have h4 : y = 128 ∨ y = 129 ∨ y = 130 ∨ y = 131 ∨ y = 132 ∨ y = 133 ∨ y = 134 ∨ y = 135 ∨ y = 136 ∨ y = 137 ∨ y = 138 ∨ y = 139 ∨ y = 140 ∨ y = 141 ∨ y = 142 ∨ y = 143 := by omega
  rcases h4 with rfl | rfl | rfl | rfl | rfl | rfl | rfl | rfl | rfl | rfl | rfl | rfl | rfl | rfl | rfl | rfl
  · exact okm_128
  · exact okm_129
  · exact okm_130
  · exact okm_131
  · exact okm_132
  · exact okm_133
  · exact okm_134
  · exact okm_135
  · exact okm_136
  · exact okm_137
  · exact okm_138
  · exact okm_139
  · exact okm_140
  · exact okm_141
  · exact okm_142
  · exact okm_143
theorem okm_r144 : ∀ y, 144 ≤ y → y < 160 → y ≠ 188 → OKM y := by
  intro y h1 h2 h3
  have h4 : y = 144 ∨ y = 145 ∨ y = 146 ∨ y = 147 ∨ y = 148 ∨ y = 149 ∨ y = 150 ∨ y = 151 ∨ y = 152 ∨ y = 153 ∨ y = 154 ∨ y = 155 ∨ y = 156 ∨ y = 157 ∨ y = 158 ∨ y = 159 := by omega
  rcases h4 with rfl | rfl | rfl | rfl | rfl | rfl | rfl | rfl | rfl | rfl | rfl | rfl | rfl | rfl | rfl | rfl
  · exact okm_144
  · exact okm_145
  · exact okm_146
  · exact okm_147
  · exact okm_148
  · exact okm_149
  · exact okm_150
  · exact okm_151
  · exact okm_152
  · exact okm_153
  · exact okm_154
  · exact okm_155
  · exact okm_156
  · exact okm_157
  · exact okm_158
  · exact okm_159
theorem okm_r160 : ∀ y, 160 ≤ y → y < 176 → y ≠ 188 → OKM y := by
  intro y h1 h2 h3
  have h4 : y = 160 ∨ y = 161 ∨ y = 162 ∨ y = 163 ∨ y = 164 ∨ y = 165 ∨ y = 166 ∨ y = 167 ∨ y = 168 ∨ y = 169 ∨ y = 170 ∨ y = 171 ∨ y = 172 ∨ y = 173 ∨ y = 174 ∨ y = 175 := by omega
  rcases h4 with rfl | rfl | rfl | rfl | rfl | rfl | rfl | rfl | rfl | rfl | rfl | rfl | rfl | rfl | rfl | rfl
  · exact okm_160
  · exact okm_161
  · exact okm_162
  · exact okm_163
  · exact okm_164
  · exact okm_165
  · exact okm_166
  · exact okm_167
  · exact okm_168
  · exact okm_169
  · exact okm_170
  · exact okm_171
  · exact okm_172
  · exact okm_173
  · exact okm_174
  · exact okm_175
theorem okm_r176 : ∀ y, 176 ≤ y → y < 190 → y ≠ 188 → OKM y := by
  intro y h1 h2 h3
  have h4 : y = 176 ∨ y = 177 ∨ y = 178 ∨ y = 179 ∨ y = 180 ∨ y = 181 ∨ y = 182 ∨ y = 183 ∨ y = 184 ∨ y = 185 ∨ y = 186 ∨ y = 187 ∨ y = 188 ∨ y = 189 := by omega
  rcases h4 with rfl | rfl | rfl | rfl | rfl | rfl | rfl | rfl | rfl | rfl | rfl | rfl | rfl | rfl
  · exact okm_176
  · exact okm_177
  · exact okm_178
  · exact okm_179
  · exact okm_180
  · exact okm_181
  · exact okm_182
  · exact okm_183
  · exact okm_184
  · exact okm_185
  · exact okm_186
  · exact okm_187
  · exact absurd rfl h3
  · exact okm_189
theorem okm : ∀ y, y < 190 → y ≠ 188 → OKM y := by
  intro y hy h
  by_cases h0 : y < 16
  · exact okm_r0 y (by omega) h0 h
  by_cases h16 : y < 32
  · exact okm_r16 y (by omega) h16 h
  by_cases h32 : y < 48
  · exact okm_r32 y (by omega) h32 h
  by_cases h48 : y < 64
  · exact okm_r48 y (by omega) h48 h
  by_cases h64 : y < 80
  · exact okm_r64 y (by omega) h64 h
  by_cases h80 : y < 96
  · exact okm_r80 y (by omega) h80 h
  by_cases h96 : y < 112
  · exact okm_r96 y (by omega) h96 h
  by_cases h112 : y < 128
  · exact okm_r112 y (by omega) h112 h
  by_cases h128 : y < 144
  · exact okm_r128 y (by omega) h128 h
  by_cases h144 : y < 160
  · exact okm_r144 y (by omega) h144 h
  by_cases h160 : y < 176
  · exact okm_r160 y (by omega) h160 h
  by_cases h176 : y < 190
  · exact okm_r176 y (by omega) h176 h
  omega
end
section
/-! ===== THE CODES, by program (wip/whole/print_codes.py) ===== -/
def C_0 : List (Nat × Op) := [(0, (1, 0, 0, 0, 0, [])), (1, (49, 3, 0, 0, 0, [])), (4, (1, 0, 0, 0, 0, [])), (5, (5, 0, 0, 0, 108, [])), (7, (43, 0, 0, 0, 0, [])), (9, (37, 9, 0, 2, 0, [])), (12, (1, 0, 0, 0, 0, [])), (13, (5, 0, 0, 0, 108, [])), (15, (43, 0, 0, 0, 0, [])), (17, (37, 15, 0, 3, 0, [])), (20, (1, 0, 0, 0, 0, [])), (21, (1, 1, 0, 0, 0, [])), (22, (37, 18, 0, 0, 0, [])), (25, (1, 0, 0, 0, 0, [])), (26, (1, 2, 0, 0, 0, [])), (27, (37, 22, 0, 1, 0, [])), (30, (53, 0, 0, 0, 0, []))]
def C_1 : List (Nat × Op) := [(0, (1, 0, 0, 0, 0, [])), (1, (33, 9, 0, 2, 0, [])), (4, (4, 0, 0, 0, 0, [])), (5, (47, 26, 189, 0, 0, [])), (8, (1, 0, 0, 0, 0, [])), (9, (33, 15, 0, 3, 0, [])), (12, (4, 0, 0, 0, 0, [])), (13, (47, 26, 189, 0, 0, [])), (16, (1, 0, 0, 0, 0, [])), (17, (4, 0, 0, 0, 0, [])), (18, (34, 32, 0, 4, 0, [])), (21, (4, 0, 0, 0, 0, [])), (22, (2, 2, 0, 0, 0, [])), (23, (0, 2, 0, 0, 0, [])), (24, (1, 0, 0, 0, 0, [])), (25, (33, 18, 0, 0, 0, [])), (28, (32, 36, 3, 2, 0, [])), (31, (29, 125, 0, 0, 0, [])), (34, (4, 0, 0, 0, 0, [])), (35, (2, 3, 0, 0, 0, [])), (36, (0, 3, 0, 0, 0, [])), (37, (1, 0, 0, 0, 0, [])), (38, (33, 18, 0, 0, 0, [])), (41, (32, 41, 3, 3, 0, [])), (44, (29, 119, 0, 0, 0, [])), (47, (1, 0, 0, 0, 0, [])), (48, (33, 22, 0, 1, 0, [])), (51, (1, 1, 0, 0, 0, [])), (52, (0, 2, 0, 0, 0, [])), (53, (0, 3, 0, 0, 0, [])), (54, (4, 0, 0, 0, 0, [])), (55, (46, 44, 6, 0, 0, [])), (58, (1, 0, 0, 0, 0, [])), (59, (33, 22, 0, 1, 0, [])), (62, (32, 50, 1, 4, 0, [])), (65, (20, 113, 0, 0, 0, [])), (68, (1, 0, 0, 0, 0, [])), (69, (16, 0, 0, 0, 0, [])), (70, (32, 32, 0, 4, 0, [])), (73, (1, 0, 0, 0, 0, [])), (74, (33, 18, 0, 0, 0, [])), (77, (33, 54, 3, 12, 0, [])), (80, (0, 3, 0, 0, 0, [])), (81, (38, 0, 0, 0, 0, [])), (82, (0, 2, 0, 0, 0, [])), (83, (27, 98, 0, 0, 0, [])), (86, (1, 0, 0, 0, 0, [])), (87, (33, 18, 0, 0, 0, [])), (90, (32, 57, 3, 1, 0, [])), (93, (4, 0, 0, 0, 1, [])), (94, (9, 0, 0, 0, 0, [])), (95, (19, 105, 0, 0, 0, [])), (98, (1, 0, 0, 0, 0, [])), (99, (33, 18, 0, 0, 0, [])), (102, (32, 57, 3, 1, 0, [])), (105, (8, 0, 0, 0, 0, [])), (106, (34, 32, 0, 4, 0, [])), (109, (1, 0, 0, 0, 0, [])), (110, (46, 60, 2, 0, 0, [])), (113, (13, 3, 0, 0, 1, [])), (116, (19, 36, 0, 0, 0, [])), (119, (13, 2, 0, 0, 1, [])), (122, (19, 23, 0, 0, 0, [])), (125, (53, 0, 0, 0, 0, []))]
def C_2 : List (Nat × Op) := [(0, (4, 0, 0, 0, 0, [])), (1, (2, 1, 0, 0, 0, [])), (2, (0, 1, 0, 0, 0, [])), (3, (1, 0, 0, 0, 0, [])), (4, (33, 22, 0, 1, 0, [])), (7, (32, 63, 1, 3, 0, [])), (10, (4, 0, 0, 0, 1, [])), (11, (9, 0, 0, 0, 0, [])), (12, (29, 65, 0, 0, 0, [])), (15, (1, 0, 0, 0, 0, [])), (16, (33, 22, 0, 1, 0, [])), (19, (0, 1, 0, 0, 0, [])), (20, (46, 66, 7, 0, 0, [])), (23, (20, 33, 0, 0, 0, [])), (26, (1, 0, 0, 0, 0, [])), (27, (33, 9, 0, 2, 0, [])), (30, (19, 37, 0, 0, 0, [])), (33, (1, 0, 0, 0, 0, [])), (34, (33, 15, 0, 3, 0, [])), (37, (3, 2, 0, 0, 0, [])), (38, (1, 2, 0, 0, 0, [])), (39, (1, 0, 0, 0, 0, [])), (40, (33, 22, 0, 1, 0, [])), (43, (33, 70, 1, 2, 0, [])), (46, (0, 1, 0, 0, 0, [])), (47, (38, 0, 0, 0, 0, [])), (48, (17, 0, 0, 0, 0, [])), (49, (38, 0, 0, 0, 0, [])), (50, (1, 0, 0, 0, 0, [])), (51, (33, 18, 0, 0, 0, [])), (54, (32, 57, 3, 1, 0, [])), (57, (8, 0, 0, 0, 0, [])), (58, (39, 0, 0, 0, 0, [])), (59, (13, 1, 0, 0, 1, [])), (62, (19, 2, 0, 0, 0, [])), (65, (53, 0, 0, 0, 0, []))]
def C_3 : List (Nat × Op) := [(0, (5, 0, 0, 0, -4, [])), (2, (2, 3, 0, 0, 0, [])), (3, (4, 0, 0, 0, 0, [])), (4, (2, 4, 0, 0, 0, [])), (6, (0, 4, 0, 0, 0, [])), (8, (1, 0, 0, 0, 0, [])), (9, (33, 18, 0, 0, 0, [])), (12, (32, 73, 3, 5, 0, [])), (15, (29, 42, 0, 0, 0, [])), (18, (1, 1, 0, 0, 0, [])), (19, (0, 4, 0, 0, 0, [])), (21, (46, 76, 49, 0, 0, [])), (24, (20, 36, 0, 0, 0, [])), (27, (0, 3, 0, 0, 0, [])), (28, (1, 2, 0, 0, 0, [])), (29, (0, 4, 0, 0, 0, [])), (31, (38, 0, 0, 0, 0, [])), (32, (61, 81, 0, 0, 0, [])), (35, (2, 3, 0, 0, 0, [])), (36, (13, 4, 0, 0, 1, [])), (39, (19, 6, 0, 0, 0, [])), (42, (0, 3, 0, 0, 0, [])), (43, (52, 1, 0, 0, 0, []))]
def C_4 : List (Nat × Op) := [(0, (5, 0, 0, 0, -4, [])), (2, (2, 3, 0, 0, 0, [])), (3, (4, 0, 0, 0, 0, [])), (4, (2, 4, 0, 0, 0, [])), (6, (0, 4, 0, 0, 0, [])), (8, (1, 0, 0, 0, 0, [])), (9, (33, 18, 0, 0, 0, [])), (12, (32, 73, 3, 5, 0, [])), (15, (29, 52, 0, 0, 0, [])), (18, (1, 1, 0, 0, 0, [])), (19, (0, 4, 0, 0, 0, [])), (21, (46, 76, 49, 0, 0, [])), (24, (20, 46, 0, 0, 0, [])), (27, (0, 3, 0, 0, 0, [])), (28, (5, 0, 0, 0, -4, [])), (30, (26, 41, 0, 0, 0, [])), (33, (1, 2, 0, 0, 0, [])), (34, (0, 4, 0, 0, 0, [])), (36, (38, 0, 0, 0, 0, [])), (37, (0, 3, 0, 0, 0, [])), (38, (29, 46, 0, 0, 0, [])), (41, (1, 2, 0, 0, 0, [])), (42, (0, 4, 0, 0, 0, [])), (44, (38, 0, 0, 0, 0, [])), (45, (2, 3, 0, 0, 0, [])), (46, (13, 4, 0, 0, 1, [])), (49, (19, 6, 0, 0, 0, [])), (52, (0, 3, 0, 0, 0, [])), (53, (52, 1, 0, 0, 0, []))]
def C_5 : List (Nat × Op) := [(0, (1, 0, 0, 0, 0, [])), (1, (49, 3, 0, 0, 0, [])), (4, (1, 0, 0, 0, 0, [])), (5, (4, 0, 0, 0, 5, [])), (6, (43, 0, 0, 0, 0, [])), (8, (37, 9, 1, 1, 0, [])), (11, (1, 0, 0, 0, 0, [])), (12, (4, 0, 0, 0, 5, [])), (13, (43, 0, 0, 0, 0, [])), (15, (37, 15, 1, 2, 0, [])), (18, (1, 0, 0, 0, 0, [])), (19, (1, 1, 0, 0, 0, [])), (20, (37, 18, 1, 0, 0, [])), (23, (53, 0, 0, 0, 0, []))]
def C_6 : List (Nat × Op) := [(0, (0, 2, 0, 0, 0, [])), (1, (2, 5, 0, 0, 0, [])), (3, (1, 0, 0, 0, 0, [])), (4, (4, 0, 0, 0, 0, [])), (5, (34, 22, 1, 3, 0, [])), (8, (1, 0, 0, 0, 0, [])), (9, (4, 0, 0, 0, 0, [])), (10, (35, 26, 1, 4, 0, [])), (13, (4, 0, 0, 0, 0, [])), (14, (2, 6, 0, 0, 0, [])), (16, (0, 6, 0, 0, 0, [])), (18, (4, 0, 0, 0, 5, [])), (19, (29, 103, 0, 0, 0, [])), (22, (1, 0, 0, 0, 0, [])), (23, (33, 9, 1, 1, 0, [])), (26, (0, 6, 0, 0, 0, [])), (28, (0, 5, 0, 0, 0, [])), (30, (39, 0, 0, 0, 0, [])), (31, (1, 0, 0, 0, 0, [])), (32, (16, 0, 0, 0, 0, [])), (33, (32, 22, 1, 3, 0, [])), (36, (4, 0, 0, 0, 1, [])), (37, (8, 0, 0, 0, 0, [])), (38, (34, 22, 1, 3, 0, [])), (41, (1, 0, 0, 0, 0, [])), (42, (1, 1, 0, 0, 0, [])), (43, (0, 5, 0, 0, 0, [])), (45, (0, 3, 0, 0, 0, [])), (46, (0, 4, 0, 0, 0, [])), (48, (46, 30, 8, 0, 0, [])), (51, (2, 7, 0, 0, 0, [])), (53, (0, 7, 0, 0, 0, [])), (55, (23, 75, 0, 0, 0, [])), (58, (1, 0, 0, 0, 0, [])), (59, (0, 7, 0, 0, 0, [])), (61, (5, 0, 0, 0, -4, [])), (63, (27, 70, 0, 0, 0, [])), (66, (4, 0, 0, 0, 1, [])), (67, (19, 71, 0, 0, 0, [])), (70, (4, 0, 0, 0, 0, [])), (71, (35, 26, 1, 4, 0, [])), (74, (53, 0, 0, 0, 0, [])), (75, (1, 0, 0, 0, 0, [])), (76, (33, 15, 1, 2, 0, [])), (79, (0, 6, 0, 0, 0, [])), (81, (0, 7, 0, 0, 0, [])), (83, (39, 0, 0, 0, 0, [])), (84, (1, 0, 0, 0, 0, [])), (85, (33, 18, 1, 0, 0, [])), (88, (0, 7, 0, 0, 0, [])), (90, (0, 5, 0, 0, 0, [])), (92, (46, 34, 34, 0, 0, [])), (95, (2, 5, 0, 0, 0, [])), (97, (13, 6, 0, 0, 1, [])), (100, (19, 16, 0, 0, 0, [])), (103, (53, 0, 0, 0, 0, []))]
def C_7 : List (Nat × Op) := [(0, (1, 0, 0, 0, 0, [])), (1, (33, 18, 1, 0, 0, [])), (4, (33, 40, 3, 10, 0, [])), (7, (1, 0, 0, 0, 0, [])), (8, (33, 15, 1, 2, 0, [])), (11, (0, 1, 0, 0, 0, [])), (12, (38, 0, 0, 0, 0, [])), (13, (38, 0, 0, 0, 0, [])), (14, (1, 0, 0, 0, 0, [])), (15, (33, 9, 1, 1, 0, [])), (18, (0, 1, 0, 0, 0, [])), (19, (38, 0, 0, 0, 0, [])), (20, (27, 27, 0, 0, 0, [])), (23, (4, 0, 0, 0, 1, [])), (24, (19, 28, 0, 0, 0, [])), (27, (4, 0, 0, 0, 0, [])), (28, (52, 2, 0, 0, 0, []))]
def C_8 : List (Nat × Op) := [(0, (1, 0, 0, 0, 0, [])), (1, (33, 18, 1, 0, 0, [])), (4, (33, 43, 3, 12, 0, [])), (7, (0, 3, 0, 0, 0, [])), (8, (38, 0, 0, 0, 0, [])), (9, (2, 5, 0, 0, 0, [])), (11, (0, 2, 0, 0, 0, [])), (12, (0, 5, 0, 0, 0, [])), (14, (27, 20, 0, 0, 0, [])), (17, (5, 0, 0, 0, -4, [])), (19, (52, 1, 0, 0, 0, [])), (20, (1, 0, 0, 0, 0, [])), (21, (33, 18, 1, 0, 0, [])), (24, (33, 46, 3, 6, 0, [])), (27, (0, 2, 0, 0, 0, [])), (28, (38, 0, 0, 0, 0, [])), (29, (21, 42, 0, 0, 0, [])), (32, (1, 0, 0, 0, 0, [])), (33, (1, 1, 0, 0, 0, [])), (34, (0, 2, 0, 0, 0, [])), (35, (0, 3, 0, 0, 0, [])), (36, (0, 4, 0, 0, 0, [])), (38, (46, 49, 9, 0, 0, [])), (41, (52, 1, 0, 0, 0, [])), (42, (1, 0, 0, 0, 0, [])), (43, (33, 18, 1, 0, 0, [])), (46, (33, 52, 3, 8, 0, [])), (49, (0, 2, 0, 0, 0, [])), (50, (38, 0, 0, 0, 0, [])), (51, (2, 6, 0, 0, 0, [])), (53, (1, 0, 0, 0, 0, [])), (54, (33, 18, 1, 0, 0, [])), (57, (1, 0, 0, 0, 0, [])), (58, (33, 18, 1, 0, 0, [])), (61, (33, 55, 3, 7, 0, [])), (64, (0, 5, 0, 0, 0, [])), (66, (38, 0, 0, 0, 0, [])), (67, (0, 6, 0, 0, 0, [])), (69, (46, 58, 29, 0, 0, [])), (72, (2, 7, 0, 0, 0, [])), (74, (0, 2, 0, 0, 0, [])), (75, (0, 7, 0, 0, 0, [])), (77, (26, 103, 0, 0, 0, [])), (80, (1, 0, 0, 0, 0, [])), (81, (33, 18, 1, 0, 0, [])), (84, (33, 46, 3, 6, 0, [])), (87, (0, 2, 0, 0, 0, [])), (88, (38, 0, 0, 0, 0, [])), (89, (4, 0, 0, 0, 1, [])), (90, (27, 103, 0, 0, 0, [])), (93, (1, 0, 0, 0, 0, [])), (94, (1, 1, 0, 0, 0, [])), (95, (0, 2, 0, 0, 0, [])), (96, (0, 3, 0, 0, 0, [])), (97, (0, 4, 0, 0, 0, [])), (99, (46, 61, 10, 0, 0, [])), (102, (52, 1, 0, 0, 0, [])), (103, (0, 2, 0, 0, 0, [])), (104, (0, 7, 0, 0, 0, [])), (106, (27, 123, 0, 0, 0, [])), (109, (1, 0, 0, 0, 0, [])), (110, (33, 18, 1, 0, 0, [])), (113, (0, 5, 0, 0, 0, [])), (115, (0, 6, 0, 0, 0, [])), (117, (46, 64, 31, 0, 0, [])), (120, (19, 141, 0, 0, 0, [])), (123, (1, 0, 0, 0, 0, [])), (124, (33, 18, 1, 0, 0, [])), (127, (0, 7, 0, 0, 0, [])), (129, (1, 0, 0, 0, 0, [])), (130, (33, 18, 1, 0, 0, [])), (133, (33, 67, 3, 9, 0, [])), (136, (0, 2, 0, 0, 0, [])), (137, (38, 0, 0, 0, 0, [])), (138, (46, 64, 31, 0, 0, [])), (141, (2, 8, 0, 0, 0, [])), (143, (1, 1, 0, 0, 0, [])), (144, (0, 2, 0, 0, 0, [])), (145, (0, 8, 0, 0, 0, [])), (147, (46, 70, 52, 0, 0, [])), (150, (20, 158, 0, 0, 0, [])), (153, (0, 8, 0, 0, 0, [])), (155, (19, 160, 0, 0, 0, [])), (158, (5, 0, 0, 0, -2, [])), (160, (52, 1, 0, 0, 0, []))]
def C_9 : List (Nat × Op) := [(0, (1, 0, 0, 0, 0, [])), (1, (33, 18, 1, 0, 0, [])), (4, (33, 43, 3, 12, 0, [])), (7, (0, 3, 0, 0, 0, [])), (8, (38, 0, 0, 0, 0, [])), (9, (2, 5, 0, 0, 0, [])), (11, (1, 0, 0, 0, 0, [])), (12, (33, 18, 1, 0, 0, [])), (15, (33, 55, 3, 7, 0, [])), (18, (0, 2, 0, 0, 0, [])), (19, (38, 0, 0, 0, 0, [])), (20, (2, 6, 0, 0, 0, [])), (22, (1, 0, 0, 0, 0, [])), (23, (33, 18, 1, 0, 0, [])), (26, (33, 55, 3, 7, 0, [])), (29, (0, 5, 0, 0, 0, [])), (31, (38, 0, 0, 0, 0, [])), (32, (2, 7, 0, 0, 0, [])), (34, (1, 0, 0, 0, 0, [])), (35, (33, 18, 1, 0, 0, [])), (38, (33, 76, 3, 13, 0, [])), (41, (0, 3, 0, 0, 0, [])), (42, (38, 0, 0, 0, 0, [])), (43, (1, 0, 0, 0, 0, [])), (44, (33, 18, 1, 0, 0, [])), (47, (33, 52, 3, 8, 0, [])), (50, (0, 2, 0, 0, 0, [])), (51, (38, 0, 0, 0, 0, [])), (52, (8, 0, 0, 0, 0, [])), (53, (1, 0, 0, 0, 0, [])), (54, (33, 18, 1, 0, 0, [])), (57, (0, 4, 0, 0, 0, [])), (59, (46, 79, 32, 0, 0, [])), (62, (8, 0, 0, 0, 0, [])), (63, (2, 8, 0, 0, 0, [])), (65, (4, 0, 0, 0, 0, [])), (66, (2, 9, 0, 0, 0, [])), (68, (0, 9, 0, 0, 0, [])), (70, (1, 0, 0, 0, 0, [])), (71, (33, 18, 1, 0, 0, [])), (74, (32, 83, 3, 1, 0, [])), (77, (29, 234, 0, 0, 0, [])), (80, (1, 0, 0, 0, 0, [])), (81, (33, 18, 1, 0, 0, [])), (84, (0, 8, 0, 0, 0, [])), (86, (0, 9, 0, 0, 0, [])), (88, (8, 0, 0, 0, 0, [])), (89, (46, 86, 33, 0, 0, [])), (92, (2, 10, 0, 0, 0, [])), (94, (1, 0, 0, 0, 0, [])), (95, (33, 18, 1, 0, 0, [])), (98, (0, 2, 0, 0, 0, [])), (99, (0, 10, 0, 0, 0, [])), (101, (46, 64, 31, 0, 0, [])), (104, (2, 11, 0, 0, 0, [])), (106, (1, 1, 0, 0, 0, [])), (107, (0, 2, 0, 0, 0, [])), (108, (0, 11, 0, 0, 0, [])), (110, (46, 70, 52, 0, 0, [])), (113, (20, 228, 0, 0, 0, [])), (116, (1, 1, 0, 0, 0, [])), (117, (0, 2, 0, 0, 0, [])), (118, (1, 0, 0, 0, 0, [])), (119, (33, 18, 1, 0, 0, [])), (122, (0, 5, 0, 0, 0, [])), (124, (0, 10, 0, 0, 0, [])), (126, (46, 64, 31, 0, 0, [])), (129, (46, 70, 52, 0, 0, [])), (132, (21, 138, 0, 0, 0, [])), (135, (19, 228, 0, 0, 0, [])), (138, (0, 6, 0, 0, 0, [])), (140, (0, 7, 0, 0, 0, [])), (142, (27, 148, 0, 0, 0, [])), (145, (0, 11, 0, 0, 0, [])), (147, (52, 1, 0, 0, 0, [])), (148, (4, 0, 0, 0, 0, [])), (149, (2, 12, 0, 0, 0, [])), (151, (0, 12, 0, 0, 0, [])), (153, (1, 0, 0, 0, 0, [])), (154, (33, 18, 1, 0, 0, [])), (157, (32, 83, 3, 1, 0, [])), (160, (29, 228, 0, 0, 0, [])), (163, (1, 1, 0, 0, 0, [])), (164, (0, 2, 0, 0, 0, [])), (165, (1, 0, 0, 0, 0, [])), (166, (33, 18, 1, 0, 0, [])), (169, (1, 0, 0, 0, 0, [])), (170, (33, 18, 1, 0, 0, [])), (173, (0, 6, 0, 0, 0, [])), (175, (0, 10, 0, 0, 0, [])), (177, (46, 58, 29, 0, 0, [])), (180, (0, 12, 0, 0, 0, [])), (182, (46, 64, 31, 0, 0, [])), (185, (46, 70, 52, 0, 0, [])), (188, (20, 222, 0, 0, 0, [])), (191, (1, 1, 0, 0, 0, [])), (192, (0, 2, 0, 0, 0, [])), (193, (1, 0, 0, 0, 0, [])), (194, (33, 18, 1, 0, 0, [])), (197, (1, 0, 0, 0, 0, [])), (198, (33, 18, 1, 0, 0, [])), (201, (0, 7, 0, 0, 0, [])), (203, (0, 10, 0, 0, 0, [])), (205, (46, 58, 29, 0, 0, [])), (208, (0, 12, 0, 0, 0, [])), (210, (46, 64, 31, 0, 0, [])), (213, (46, 70, 52, 0, 0, [])), (216, (20, 222, 0, 0, 0, [])), (219, (0, 11, 0, 0, 0, [])), (221, (52, 1, 0, 0, 0, [])), (222, (13, 12, 0, 0, 1, [])), (225, (19, 151, 0, 0, 0, [])), (228, (13, 9, 0, 0, 1, [])), (231, (19, 68, 0, 0, 0, [])), (234, (5, 0, 0, 0, -2, [])), (236, (52, 1, 0, 0, 0, []))]
def C_10 : List (Nat × Op) := [(0, (1, 0, 0, 0, 0, [])), (1, (33, 18, 1, 0, 0, [])), (4, (33, 43, 3, 12, 0, [])), (7, (0, 3, 0, 0, 0, [])), (8, (38, 0, 0, 0, 0, [])), (9, (2, 5, 0, 0, 0, [])), (11, (1, 0, 0, 0, 0, [])), (12, (33, 18, 1, 0, 0, [])), (15, (33, 52, 3, 8, 0, [])), (18, (0, 2, 0, 0, 0, [])), (19, (38, 0, 0, 0, 0, [])), (20, (2, 6, 0, 0, 0, [])), (22, (1, 0, 0, 0, 0, [])), (23, (33, 18, 1, 0, 0, [])), (26, (1, 0, 0, 0, 0, [])), (27, (33, 18, 1, 0, 0, [])), (30, (33, 55, 3, 7, 0, [])), (33, (0, 5, 0, 0, 0, [])), (35, (38, 0, 0, 0, 0, [])), (36, (0, 6, 0, 0, 0, [])), (38, (46, 58, 29, 0, 0, [])), (41, (2, 7, 0, 0, 0, [])), (43, (1, 0, 0, 0, 0, [])), (44, (33, 18, 1, 0, 0, [])), (47, (33, 76, 3, 13, 0, [])), (50, (0, 3, 0, 0, 0, [])), (51, (38, 0, 0, 0, 0, [])), (52, (0, 6, 0, 0, 0, [])), (54, (8, 0, 0, 0, 0, [])), (55, (1, 0, 0, 0, 0, [])), (56, (33, 18, 1, 0, 0, [])), (59, (0, 4, 0, 0, 0, [])), (61, (46, 86, 33, 0, 0, [])), (64, (8, 0, 0, 0, 0, [])), (65, (2, 8, 0, 0, 0, [])), (67, (1, 1, 0, 0, 0, [])), (68, (0, 2, 0, 0, 0, [])), (69, (1, 0, 0, 0, 0, [])), (70, (33, 18, 1, 0, 0, [])), (73, (0, 5, 0, 0, 0, [])), (75, (0, 6, 0, 0, 0, [])), (77, (46, 64, 31, 0, 0, [])), (80, (46, 70, 52, 0, 0, [])), (83, (21, 89, 0, 0, 0, [])), (86, (5, 0, 0, 0, -2, [])), (88, (52, 1, 0, 0, 0, [])), (89, (4, 0, 0, 0, 0, [])), (90, (2, 9, 0, 0, 0, [])), (92, (0, 9, 0, 0, 0, [])), (94, (1, 0, 0, 0, 0, [])), (95, (33, 18, 1, 0, 0, [])), (98, (32, 83, 3, 1, 0, [])), (101, (29, 168, 0, 0, 0, [])), (104, (1, 0, 0, 0, 0, [])), (105, (33, 18, 1, 0, 0, [])), (108, (0, 8, 0, 0, 0, [])), (110, (0, 9, 0, 0, 0, [])), (112, (8, 0, 0, 0, 0, [])), (113, (46, 86, 33, 0, 0, [])), (116, (2, 10, 0, 0, 0, [])), (118, (1, 0, 0, 0, 0, [])), (119, (33, 18, 1, 0, 0, [])), (122, (0, 2, 0, 0, 0, [])), (123, (0, 10, 0, 0, 0, [])), (125, (46, 64, 31, 0, 0, [])), (128, (2, 11, 0, 0, 0, [])), (130, (1, 1, 0, 0, 0, [])), (131, (0, 2, 0, 0, 0, [])), (132, (0, 11, 0, 0, 0, [])), (134, (46, 70, 52, 0, 0, [])), (137, (20, 162, 0, 0, 0, [])), (140, (1, 1, 0, 0, 0, [])), (141, (0, 2, 0, 0, 0, [])), (142, (1, 0, 0, 0, 0, [])), (143, (33, 18, 1, 0, 0, [])), (146, (0, 7, 0, 0, 0, [])), (148, (0, 10, 0, 0, 0, [])), (150, (46, 64, 31, 0, 0, [])), (153, (46, 70, 52, 0, 0, [])), (156, (20, 162, 0, 0, 0, [])), (159, (0, 11, 0, 0, 0, [])), (161, (52, 1, 0, 0, 0, [])), (162, (13, 9, 0, 0, 1, [])), (165, (19, 92, 0, 0, 0, [])), (168, (5, 0, 0, 0, -2, [])), (170, (52, 1, 0, 0, 0, []))]
def C_11 : List (Nat × Op) := [(0, (1, 0, 0, 0, 0, [])), (1, (49, 3, 0, 0, 0, [])), (4, (1, 0, 0, 0, 0, [])), (5, (6, 0, 0, 0, 200, [])), (8, (44, 0, 0, 0, 0, [])), (10, (37, 9, 2, 0, 0, [])), (13, (53, 0, 0, 0, 0, []))]
def C_12 : List (Nat × Op) := [(0, (1, 0, 0, 0, 0, [])), (1, (32, 15, 2, 1, 0, [])), (4, (6, 0, 0, 0, 200, [])), (7, (28, 12, 0, 0, 0, [])), (10, (4, 0, 0, 0, 0, [])), (11, (52, 2, 0, 0, 0, [])), (12, (1, 0, 0, 0, 0, [])), (13, (33, 9, 2, 0, 0, [])), (16, (1, 0, 0, 0, 0, [])), (17, (32, 15, 2, 1, 0, [])), (20, (0, 1, 0, 0, 0, [])), (21, (41, 0, 0, 0, 0, [])), (22, (1, 0, 0, 0, 0, [])), (23, (16, 0, 0, 0, 0, [])), (24, (32, 15, 2, 1, 0, [])), (27, (4, 0, 0, 0, 1, [])), (28, (8, 0, 0, 0, 0, [])), (29, (34, 15, 2, 1, 0, [])), (32, (4, 0, 0, 0, 1, [])), (33, (52, 2, 0, 0, 0, []))]
def C_13 : List (Nat × Op) := [(0, (1, 1, 0, 0, 0, [])), (1, (46, 19, 47, 0, 0, [])), (4, (1, 0, 0, 0, 0, [])), (5, (4, 0, 0, 0, 0, [])), (6, (34, 24, 2, 2, 0, [])), (9, (1, 0, 0, 0, 0, [])), (10, (4, 0, 0, 0, 0, [])), (11, (34, 27, 2, 3, 0, [])), (14, (4, 0, 0, 0, 0, [])), (15, (2, 2, 0, 0, 0, [])), (16, (0, 2, 0, 0, 0, [])), (17, (6, 0, 0, 0, 200, [])), (20, (29, 55, 0, 0, 0, [])), (23, (1, 0, 0, 0, 0, [])), (24, (32, 27, 2, 3, 0, [])), (27, (1, 0, 0, 0, 0, [])), (28, (32, 15, 2, 1, 0, [])), (31, (29, 55, 0, 0, 0, [])), (34, (1, 0, 0, 0, 0, [])), (35, (32, 27, 2, 3, 0, [])), (38, (2, 3, 0, 0, 0, [])), (39, (1, 0, 0, 0, 0, [])), (40, (1, 1, 0, 0, 0, [])), (41, (46, 30, 14, 0, 0, [])), (44, (21, 49, 0, 0, 0, [])), (47, (0, 3, 0, 0, 0, [])), (48, (52, 1, 0, 0, 0, [])), (49, (13, 2, 0, 0, 1, [])), (52, (19, 16, 0, 0, 0, [])), (55, (5, 0, 0, 0, -4, [])), (57, (52, 1, 0, 0, 0, []))]
def C_14 : List (Nat × Op) := [(0, (1, 0, 0, 0, 0, [])), (1, (5, 0, 0, 0, 107, [])), (3, (46, 34, 22, 0, 0, [])), (6, (20, 38, 0, 0, 0, [])), (9, (1, 0, 0, 0, 0, [])), (10, (32, 24, 2, 2, 0, [])), (13, (21, 36, 0, 0, 0, [])), (16, (1, 0, 0, 0, 0, [])), (17, (46, 38, 15, 0, 0, [])), (20, (20, 36, 0, 0, 0, [])), (23, (1, 0, 0, 0, 0, [])), (24, (5, 0, 0, 0, 59, [])), (26, (46, 34, 22, 0, 0, [])), (29, (20, 36, 0, 0, 0, [])), (32, (4, 0, 0, 0, 1, [])), (33, (19, 37, 0, 0, 0, [])), (36, (4, 0, 0, 0, 0, [])), (37, (52, 2, 0, 0, 0, [])), (38, (1, 0, 0, 0, 0, [])), (39, (32, 24, 2, 2, 0, [])), (42, (21, 47, 0, 0, 0, [])), (45, (4, 0, 0, 0, 0, [])), (46, (52, 2, 0, 0, 0, [])), (47, (1, 0, 0, 0, 0, [])), (48, (5, 0, 0, 0, 102, [])), (50, (46, 34, 22, 0, 0, [])), (53, (20, 79, 0, 0, 0, [])), (56, (1, 0, 0, 0, 0, [])), (57, (1, 1, 0, 0, 0, [])), (58, (46, 42, 16, 0, 0, [])), (61, (20, 77, 0, 0, 0, [])), (64, (1, 0, 0, 0, 0, [])), (65, (5, 0, 0, 0, 59, [])), (67, (46, 34, 22, 0, 0, [])), (70, (20, 77, 0, 0, 0, [])), (73, (4, 0, 0, 0, 1, [])), (74, (19, 78, 0, 0, 0, [])), (77, (4, 0, 0, 0, 0, [])), (78, (52, 2, 0, 0, 0, [])), (79, (1, 0, 0, 0, 0, [])), (80, (5, 0, 0, 0, 120, [])), (82, (46, 34, 22, 0, 0, [])), (85, (20, 109, 0, 0, 0, [])), (88, (1, 0, 0, 0, 0, [])), (89, (1, 1, 0, 0, 0, [])), (90, (46, 45, 18, 0, 0, [])), (93, (20, 109, 0, 0, 0, [])), (96, (1, 0, 0, 0, 0, [])), (97, (5, 0, 0, 0, 59, [])), (99, (46, 34, 22, 0, 0, [])), (102, (20, 109, 0, 0, 0, [])), (105, (4, 0, 0, 0, 1, [])), (106, (19, 110, 0, 0, 0, [])), (109, (4, 0, 0, 0, 0, [])), (110, (52, 2, 0, 0, 0, []))]
def C_15 : List (Nat × Op) := [(0, (1, 0, 0, 0, 0, [])), (1, (1, 0, 0, 0, 0, [])), (2, (46, 48, 21, 0, 0, [])), (5, (34, 24, 2, 2, 0, [])), (8, (1, 0, 0, 0, 0, [])), (9, (32, 24, 2, 2, 0, [])), (12, (4, 0, 0, 0, 2, [])), (13, (26, 33, 0, 0, 0, [])), (16, (1, 0, 0, 0, 0, [])), (17, (32, 24, 2, 2, 0, [])), (20, (4, 0, 0, 0, 4, [])), (21, (26, 33, 0, 0, 0, [])), (24, (1, 0, 0, 0, 0, [])), (25, (32, 24, 2, 2, 0, [])), (28, (5, 0, 0, 0, 6, [])), (30, (27, 37, 0, 0, 0, [])), (33, (4, 0, 0, 0, 1, [])), (34, (19, 38, 0, 0, 0, [])), (37, (4, 0, 0, 0, 0, [])), (38, (52, 2, 0, 0, 0, []))]
def C_16 : List (Nat × Op) := [(0, (1, 0, 0, 0, 0, [])), (1, (46, 52, 17, 0, 0, [])), (4, (2, 2, 0, 0, 0, [])), (5, (0, 2, 0, 0, 0, [])), (6, (4, 0, 0, 0, -1, [])), (7, (26, 19, 0, 0, 0, [])), (10, (1, 0, 0, 0, 0, [])), (11, (5, 0, 0, 0, 62, [])), (13, (46, 34, 22, 0, 0, [])), (16, (21, 21, 0, 0, 0, [])), (19, (4, 0, 0, 0, 0, [])), (20, (52, 2, 0, 0, 0, [])), (21, (1, 0, 0, 0, 0, [])), (22, (46, 52, 17, 0, 0, [])), (25, (2, 3, 0, 0, 0, [])), (26, (0, 3, 0, 0, 0, [])), (27, (4, 0, 0, 0, -1, [])), (28, (26, 45, 0, 0, 0, [])), (31, (0, 3, 0, 0, 0, [])), (32, (0, 2, 0, 0, 0, [])), (33, (26, 45, 0, 0, 0, [])), (36, (1, 0, 0, 0, 0, [])), (37, (5, 0, 0, 0, 44, [])), (39, (46, 34, 22, 0, 0, [])), (42, (21, 47, 0, 0, 0, [])), (45, (4, 0, 0, 0, 0, [])), (46, (52, 2, 0, 0, 0, [])), (47, (1, 0, 0, 0, 0, [])), (48, (4, 0, 0, 0, 2, [])), (49, (46, 55, 20, 0, 0, [])), (52, (2, 4, 0, 0, 0, [])), (54, (0, 4, 0, 0, 0, [])), (56, (25, 74, 0, 0, 0, [])), (59, (1, 1, 0, 0, 0, [])), (60, (0, 2, 0, 0, 0, [])), (61, (0, 3, 0, 0, 0, [])), (62, (0, 4, 0, 0, 0, [])), (64, (46, 59, 56, 0, 0, [])), (67, (20, 74, 0, 0, 0, [])), (70, (4, 0, 0, 0, 1, [])), (71, (19, 75, 0, 0, 0, [])), (74, (4, 0, 0, 0, 0, [])), (75, (52, 2, 0, 0, 0, []))]
def C_17 : List (Nat × Op) := [(0, (1, 0, 0, 0, 0, [])), (1, (46, 48, 21, 0, 0, [])), (4, (2, 1, 0, 0, 0, [])), (5, (1, 0, 0, 0, 0, [])), (6, (5, 0, 0, 0, 46, [])), (8, (46, 34, 22, 0, 0, [])), (11, (21, 16, 0, 0, 0, [])), (14, (4, 0, 0, 0, -1, [])), (15, (52, 1, 0, 0, 0, [])), (16, (1, 0, 0, 0, 0, [])), (17, (46, 48, 21, 0, 0, [])), (20, (2, 2, 0, 0, 0, [])), (21, (1, 0, 0, 0, 0, [])), (22, (5, 0, 0, 0, 46, [])), (24, (46, 34, 22, 0, 0, [])), (27, (21, 32, 0, 0, 0, [])), (30, (4, 0, 0, 0, -1, [])), (31, (52, 1, 0, 0, 0, [])), (32, (1, 0, 0, 0, 0, [])), (33, (32, 24, 2, 2, 0, [])), (36, (0, 1, 0, 0, 0, [])), (37, (0, 2, 0, 0, 0, [])), (38, (1, 0, 0, 0, 0, [])), (39, (46, 48, 21, 0, 0, [])), (42, (60, 63, 105, 0, 0, [])), (45, (52, 1, 0, 0, 0, []))]
def C_18 : List (Nat × Op) := [(0, (1, 0, 0, 0, 0, [])), (1, (4, 0, 0, 0, 3, [])), (2, (46, 55, 20, 0, 0, [])), (5, (2, 2, 0, 0, 0, [])), (6, (0, 2, 0, 0, 0, [])), (7, (22, 29, 0, 0, 0, [])), (10, (0, 2, 0, 0, 0, [])), (11, (1, 0, 0, 0, 0, [])), (12, (32, 24, 2, 2, 0, [])), (15, (47, 67, 19, 0, 0, [])), (18, (29, 29, 0, 0, 0, [])), (21, (1, 1, 0, 0, 0, [])), (22, (0, 2, 0, 0, 0, [])), (23, (46, 70, 49, 0, 0, [])), (26, (21, 31, 0, 0, 0, [])), (29, (4, 0, 0, 0, 0, [])), (30, (52, 2, 0, 0, 0, [])), (31, (1, 1, 0, 0, 0, [])), (32, (33, 74, 5, 0, 0, [])), (35, (0, 2, 0, 0, 0, [])), (36, (4, 0, 0, 0, 1, [])), (37, (39, 0, 0, 0, 0, [])), (38, (4, 0, 0, 0, 1, [])), (39, (52, 2, 0, 0, 0, []))]
def C_19 : List (Nat × Op) := [(0, (0, 0, 0, 0, 0, [])), (1, (0, 0, 0, 0, 0, [])), (2, (10, 0, 0, 0, 0, [])), (3, (0, 0, 0, 0, 0, [])), (4, (10, 0, 0, 0, 0, [])), (5, (4, 0, 0, 0, 2, [])), (6, (11, 0, 0, 0, 0, [])), (7, (52, 1, 0, 0, 0, []))]
def C_20 : List (Nat × Op) := [(0, (1, 0, 0, 0, 0, [])), (1, (46, 48, 21, 0, 0, [])), (4, (2, 2, 0, 0, 0, [])), (5, (4, 0, 0, 0, 1, [])), (6, (2, 3, 0, 0, 0, [])), (7, (0, 3, 0, 0, 0, [])), (8, (0, 1, 0, 0, 0, [])), (9, (29, 46, 0, 0, 0, [])), (12, (0, 2, 0, 0, 0, [])), (13, (4, 0, 0, 0, -1, [])), (14, (26, 46, 0, 0, 0, [])), (17, (1, 0, 0, 0, 0, [])), (18, (46, 48, 21, 0, 0, [])), (21, (2, 4, 0, 0, 0, [])), (23, (0, 4, 0, 0, 0, [])), (25, (4, 0, 0, 0, -1, [])), (26, (27, 32, 0, 0, 0, [])), (29, (19, 46, 0, 0, 0, [])), (32, (0, 2, 0, 0, 0, [])), (33, (5, 0, 0, 0, 10, [])), (35, (10, 0, 0, 0, 0, [])), (36, (0, 4, 0, 0, 0, [])), (38, (8, 0, 0, 0, 0, [])), (39, (2, 2, 0, 0, 0, [])), (40, (13, 3, 0, 0, 1, [])), (43, (19, 7, 0, 0, 0, [])), (46, (0, 2, 0, 0, 0, [])), (47, (52, 1, 0, 0, 0, []))]
def C_21 : List (Nat × Op) := [(0, (1, 0, 0, 0, 0, [])), (1, (32, 27, 2, 3, 0, [])), (4, (1, 0, 0, 0, 0, [])), (5, (32, 15, 2, 1, 0, [])), (8, (29, 39, 0, 0, 0, [])), (11, (1, 0, 0, 0, 0, [])), (12, (33, 9, 2, 0, 0, [])), (15, (1, 0, 0, 0, 0, [])), (16, (32, 27, 2, 3, 0, [])), (19, (40, 0, 0, 0, 0, [])), (20, (5, 0, 0, 0, 48, [])), (22, (28, 39, 0, 0, 0, [])), (25, (1, 0, 0, 0, 0, [])), (26, (33, 9, 2, 0, 0, [])), (29, (1, 0, 0, 0, 0, [])), (30, (32, 27, 2, 3, 0, [])), (33, (40, 0, 0, 0, 0, [])), (34, (5, 0, 0, 0, 57, [])), (36, (31, 41, 0, 0, 0, [])), (39, (4, 0, 0, 0, -1, [])), (40, (52, 1, 0, 0, 0, [])), (41, (1, 0, 0, 0, 0, [])), (42, (16, 0, 0, 0, 0, [])), (43, (32, 27, 2, 3, 0, [])), (46, (4, 0, 0, 0, 1, [])), (47, (8, 0, 0, 0, 0, [])), (48, (34, 27, 2, 3, 0, [])), (51, (1, 0, 0, 0, 0, [])), (52, (33, 9, 2, 0, 0, [])), (55, (1, 0, 0, 0, 0, [])), (56, (32, 27, 2, 3, 0, [])), (59, (4, 0, 0, 0, 1, [])), (60, (9, 0, 0, 0, 0, [])), (61, (40, 0, 0, 0, 0, [])), (62, (5, 0, 0, 0, 48, [])), (64, (9, 0, 0, 0, 0, [])), (65, (52, 1, 0, 0, 0, []))]
def C_22 : List (Nat × Op) := [(0, (1, 0, 0, 0, 0, [])), (1, (32, 27, 2, 3, 0, [])), (4, (1, 0, 0, 0, 0, [])), (5, (32, 15, 2, 1, 0, [])), (8, (29, 24, 0, 0, 0, [])), (11, (1, 0, 0, 0, 0, [])), (12, (33, 9, 2, 0, 0, [])), (15, (1, 0, 0, 0, 0, [])), (16, (32, 27, 2, 3, 0, [])), (19, (40, 0, 0, 0, 0, [])), (20, (0, 1, 0, 0, 0, [])), (21, (26, 26, 0, 0, 0, [])), (24, (4, 0, 0, 0, 0, [])), (25, (52, 2, 0, 0, 0, [])), (26, (1, 0, 0, 0, 0, [])), (27, (16, 0, 0, 0, 0, [])), (28, (32, 27, 2, 3, 0, [])), (31, (4, 0, 0, 0, 1, [])), (32, (8, 0, 0, 0, 0, [])), (33, (34, 27, 2, 3, 0, [])), (36, (4, 0, 0, 0, 1, [])), (37, (52, 2, 0, 0, 0, []))]
def C_23 : List (Nat × Op) := [(0, (1, 0, 0, 0, 0, [])), (1, (49, 3, 0, 0, 0, [])), (4, (1, 0, 0, 0, 0, [])), (5, (5, 0, 0, 0, 45, [])), (7, (43, 0, 0, 0, 0, [])), (9, (37, 9, 3, 6, 0, [])), (12, (1, 0, 0, 0, 0, [])), (13, (5, 0, 0, 0, 45, [])), (15, (43, 0, 0, 0, 0, [])), (17, (37, 15, 3, 7, 0, [])), (20, (1, 0, 0, 0, 0, [])), (21, (5, 0, 0, 0, 45, [])), (23, (43, 0, 0, 0, 0, [])), (25, (37, 18, 3, 8, 0, [])), (28, (1, 0, 0, 0, 0, [])), (29, (5, 0, 0, 0, 45, [])), (31, (43, 0, 0, 0, 0, [])), (33, (37, 21, 3, 9, 0, [])), (36, (1, 0, 0, 0, 0, [])), (37, (5, 0, 0, 0, 108, [])), (39, (43, 0, 0, 0, 0, [])), (41, (37, 24, 3, 10, 0, [])), (44, (1, 0, 0, 0, 0, [])), (45, (5, 0, 0, 0, 108, [])), (47, (43, 0, 0, 0, 0, [])), (49, (37, 27, 3, 11, 0, [])), (52, (1, 0, 0, 0, 0, [])), (53, (5, 0, 0, 0, 54, [])), (55, (43, 0, 0, 0, 0, [])), (57, (37, 30, 3, 12, 0, [])), (60, (1, 0, 0, 0, 0, [])), (61, (5, 0, 0, 0, 54, [])), (63, (43, 0, 0, 0, 0, [])), (65, (37, 33, 3, 13, 0, [])), (68, (53, 0, 0, 0, 0, []))]
def C_24 : List (Nat × Op) := [(0, (1, 0, 0, 0, 0, [])), (1, (0, 1, 0, 0, 0, [])), (2, (34, 36, 3, 0, 0, [])), (5, (1, 0, 0, 0, 0, [])), (6, (0, 1, 0, 0, 0, [])), (7, (4, 0, 0, 0, 2, [])), (8, (11, 0, 0, 0, 0, [])), (9, (34, 40, 3, 1, 0, [])), (12, (1, 0, 0, 0, 0, [])), (13, (1, 0, 0, 0, 0, [])), (14, (32, 36, 3, 0, 0, [])), (17, (1, 0, 0, 0, 0, [])), (18, (32, 40, 3, 1, 0, [])), (21, (10, 0, 0, 0, 0, [])), (22, (34, 43, 3, 2, 0, [])), (25, (1, 0, 0, 0, 0, [])), (26, (46, 46, 25, 0, 0, [])), (29, (1, 0, 0, 0, 0, [])), (30, (46, 49, 27, 0, 0, [])), (33, (1, 0, 0, 0, 0, [])), (34, (46, 52, 28, 0, 0, [])), (37, (53, 0, 0, 0, 0, []))]
def C_25 : List (Nat × Op) := [(0, (1, 0, 0, 0, 0, [])), (1, (4, 0, 0, 0, 0, [])), (2, (34, 55, 3, 4, 0, [])), (5, (4, 0, 0, 0, 0, [])), (6, (2, 1, 0, 0, 0, [])), (7, (0, 1, 0, 0, 0, [])), (8, (1, 0, 0, 0, 0, [])), (9, (32, 36, 3, 0, 0, [])), (12, (29, 46, 0, 0, 0, [])), (15, (4, 0, 0, 0, 0, [])), (16, (2, 2, 0, 0, 0, [])), (17, (0, 2, 0, 0, 0, [])), (18, (1, 0, 0, 0, 0, [])), (19, (32, 40, 3, 1, 0, [])), (22, (29, 40, 0, 0, 0, [])), (25, (1, 0, 0, 0, 0, [])), (26, (4, 0, 0, 0, 0, [])), (27, (0, 1, 0, 0, 0, [])), (28, (0, 2, 0, 0, 0, [])), (29, (5, 0, 0, 0, -4, [])), (31, (46, 58, 26, 0, 0, [])), (34, (13, 2, 0, 0, 1, [])), (37, (19, 17, 0, 0, 0, [])), (40, (13, 1, 0, 0, 1, [])), (43, (19, 7, 0, 0, 0, [])), (46, (4, 0, 0, 0, 0, [])), (47, (2, 1, 0, 0, 0, [])), (48, (0, 1, 0, 0, 0, [])), (49, (1, 0, 0, 0, 0, [])), (50, (32, 36, 3, 0, 0, [])), (53, (29, 87, 0, 0, 0, [])), (56, (4, 0, 0, 0, 0, [])), (57, (2, 2, 0, 0, 0, [])), (58, (0, 2, 0, 0, 0, [])), (59, (1, 0, 0, 0, 0, [])), (60, (32, 40, 3, 1, 0, [])), (63, (29, 81, 0, 0, 0, [])), (66, (1, 0, 0, 0, 0, [])), (67, (4, 0, 0, 0, 1, [])), (68, (0, 1, 0, 0, 0, [])), (69, (0, 2, 0, 0, 0, [])), (70, (5, 0, 0, 0, -4, [])), (72, (46, 58, 26, 0, 0, [])), (75, (13, 2, 0, 0, 1, [])), (78, (19, 58, 0, 0, 0, [])), (81, (13, 1, 0, 0, 1, [])), (84, (19, 48, 0, 0, 0, [])), (87, (4, 0, 0, 0, 0, [])), (88, (2, 1, 0, 0, 0, [])), (89, (0, 1, 0, 0, 0, [])), (90, (1, 0, 0, 0, 0, [])), (91, (32, 40, 3, 1, 0, [])), (94, (29, 128, 0, 0, 0, [])), (97, (4, 0, 0, 0, 0, [])), (98, (2, 2, 0, 0, 0, [])), (99, (0, 2, 0, 0, 0, [])), (100, (1, 0, 0, 0, 0, [])), (101, (32, 40, 3, 1, 0, [])), (104, (29, 122, 0, 0, 0, [])), (107, (1, 0, 0, 0, 0, [])), (108, (4, 0, 0, 0, 2, [])), (109, (5, 0, 0, 0, -4, [])), (111, (0, 1, 0, 0, 0, [])), (112, (0, 2, 0, 0, 0, [])), (113, (46, 58, 26, 0, 0, [])), (116, (13, 2, 0, 0, 1, [])), (119, (19, 99, 0, 0, 0, [])), (122, (13, 1, 0, 0, 1, [])), (125, (19, 89, 0, 0, 0, [])), (128, (53, 0, 0, 0, 0, []))]
def C_26 : List (Nat × Op) := [(0, (1, 0, 0, 0, 0, [])), (1, (32, 55, 3, 4, 0, [])), (4, (5, 0, 0, 0, 45, [])), (6, (28, 10, 0, 0, 0, [])), (9, (53, 0, 0, 0, 0, [])), (10, (1, 0, 0, 0, 0, [])), (11, (33, 9, 3, 6, 0, [])), (14, (1, 0, 0, 0, 0, [])), (15, (32, 55, 3, 4, 0, [])), (18, (0, 1, 0, 0, 0, [])), (19, (39, 0, 0, 0, 0, [])), (20, (1, 0, 0, 0, 0, [])), (21, (33, 15, 3, 7, 0, [])), (24, (1, 0, 0, 0, 0, [])), (25, (32, 55, 3, 4, 0, [])), (28, (0, 2, 0, 0, 0, [])), (29, (39, 0, 0, 0, 0, [])), (30, (1, 0, 0, 0, 0, [])), (31, (33, 18, 3, 8, 0, [])), (34, (1, 0, 0, 0, 0, [])), (35, (32, 55, 3, 4, 0, [])), (38, (0, 3, 0, 0, 0, [])), (39, (39, 0, 0, 0, 0, [])), (40, (1, 0, 0, 0, 0, [])), (41, (33, 21, 3, 9, 0, [])), (44, (1, 0, 0, 0, 0, [])), (45, (32, 55, 3, 4, 0, [])), (48, (0, 4, 0, 0, 0, [])), (50, (39, 0, 0, 0, 0, [])), (51, (1, 0, 0, 0, 0, [])), (52, (16, 0, 0, 0, 0, [])), (53, (32, 55, 3, 4, 0, [])), (56, (4, 0, 0, 0, 1, [])), (57, (8, 0, 0, 0, 0, [])), (58, (34, 55, 3, 4, 0, [])), (61, (53, 0, 0, 0, 0, []))]
def C_27 : List (Nat × Op) := [(0, (1, 0, 0, 0, 0, [])), (1, (4, 0, 0, 0, 0, [])), (2, (34, 62, 3, 3, 0, [])), (5, (4, 0, 0, 0, 0, [])), (6, (2, 1, 0, 0, 0, [])), (7, (0, 1, 0, 0, 0, [])), (8, (1, 0, 0, 0, 0, [])), (9, (32, 43, 3, 2, 0, [])), (12, (29, 76, 0, 0, 0, [])), (15, (4, 0, 0, 0, 0, [])), (16, (2, 2, 0, 0, 0, [])), (17, (0, 2, 0, 0, 0, [])), (18, (1, 0, 0, 0, 0, [])), (19, (32, 40, 3, 1, 0, [])), (22, (29, 70, 0, 0, 0, [])), (25, (1, 0, 0, 0, 0, [])), (26, (32, 62, 3, 3, 0, [])), (29, (5, 0, 0, 0, 54, [])), (31, (29, 70, 0, 0, 0, [])), (34, (1, 0, 0, 0, 0, [])), (35, (33, 30, 3, 12, 0, [])), (38, (1, 0, 0, 0, 0, [])), (39, (32, 62, 3, 3, 0, [])), (42, (0, 1, 0, 0, 0, [])), (43, (39, 0, 0, 0, 0, [])), (44, (1, 0, 0, 0, 0, [])), (45, (33, 33, 3, 13, 0, [])), (48, (1, 0, 0, 0, 0, [])), (49, (32, 62, 3, 3, 0, [])), (52, (0, 2, 0, 0, 0, [])), (53, (39, 0, 0, 0, 0, [])), (54, (1, 0, 0, 0, 0, [])), (55, (16, 0, 0, 0, 0, [])), (56, (32, 62, 3, 3, 0, [])), (59, (4, 0, 0, 0, 1, [])), (60, (8, 0, 0, 0, 0, [])), (61, (34, 62, 3, 3, 0, [])), (64, (13, 2, 0, 0, 1, [])), (67, (19, 17, 0, 0, 0, [])), (70, (13, 1, 0, 0, 1, [])), (73, (19, 7, 0, 0, 0, [])), (76, (53, 0, 0, 0, 0, []))]
def C_28 : List (Nat × Op) := [(0, (1, 0, 0, 0, 0, [])), (1, (4, 0, 0, 0, 0, [])), (2, (34, 65, 3, 5, 0, [])), (5, (4, 0, 0, 0, 0, [])), (6, (2, 1, 0, 0, 0, [])), (7, (0, 1, 0, 0, 0, [])), (8, (4, 0, 0, 0, 2, [])), (9, (1, 0, 0, 0, 0, [])), (10, (32, 43, 3, 2, 0, [])), (13, (10, 0, 0, 0, 0, [])), (14, (29, 111, 0, 0, 0, [])), (17, (4, 0, 0, 0, 0, [])), (18, (2, 2, 0, 0, 0, [])), (19, (0, 2, 0, 0, 0, [])), (20, (1, 0, 0, 0, 0, [])), (21, (32, 40, 3, 1, 0, [])), (24, (29, 105, 0, 0, 0, [])), (27, (1, 0, 0, 0, 0, [])), (28, (32, 65, 3, 5, 0, [])), (31, (5, 0, 0, 0, 108, [])), (33, (29, 105, 0, 0, 0, [])), (36, (1, 0, 0, 0, 0, [])), (37, (33, 24, 3, 10, 0, [])), (40, (1, 0, 0, 0, 0, [])), (41, (32, 65, 3, 5, 0, [])), (44, (0, 1, 0, 0, 0, [])), (45, (39, 0, 0, 0, 0, [])), (46, (1, 0, 0, 0, 0, [])), (47, (33, 27, 3, 11, 0, [])), (50, (1, 0, 0, 0, 0, [])), (51, (32, 65, 3, 5, 0, [])), (54, (1, 0, 0, 0, 0, [])), (55, (33, 9, 3, 6, 0, [])), (58, (0, 1, 0, 0, 0, [])), (59, (38, 0, 0, 0, 0, [])), (60, (21, 77, 0, 0, 0, [])), (63, (1, 0, 0, 0, 0, [])), (64, (1, 0, 0, 0, 0, [])), (65, (33, 15, 3, 7, 0, [])), (68, (0, 1, 0, 0, 0, [])), (69, (38, 0, 0, 0, 0, [])), (70, (0, 2, 0, 0, 0, [])), (71, (46, 68, 29, 0, 0, [])), (74, (19, 88, 0, 0, 0, [])), (77, (1, 0, 0, 0, 0, [])), (78, (1, 0, 0, 0, 0, [])), (79, (33, 18, 3, 8, 0, [])), (82, (0, 1, 0, 0, 0, [])), (83, (38, 0, 0, 0, 0, [])), (84, (0, 2, 0, 0, 0, [])), (85, (46, 72, 30, 0, 0, [])), (88, (39, 0, 0, 0, 0, [])), (89, (1, 0, 0, 0, 0, [])), (90, (16, 0, 0, 0, 0, [])), (91, (32, 65, 3, 5, 0, [])), (94, (4, 0, 0, 0, 1, [])), (95, (8, 0, 0, 0, 0, [])), (96, (34, 65, 3, 5, 0, [])), (99, (13, 2, 0, 0, 1, [])), (102, (19, 19, 0, 0, 0, [])), (105, (13, 1, 0, 0, 1, [])), (108, (19, 7, 0, 0, 0, [])), (111, (53, 0, 0, 0, 0, []))]
def C_29 : List (Nat × Op) := [(0, (1, 0, 0, 0, 0, [])), (1, (32, 43, 3, 2, 0, [])), (4, (0, 1, 0, 0, 0, [])), (5, (1, 0, 0, 0, 0, [])), (6, (32, 40, 3, 1, 0, [])), (9, (10, 0, 0, 0, 0, [])), (10, (8, 0, 0, 0, 0, [])), (11, (0, 2, 0, 0, 0, [])), (12, (8, 0, 0, 0, 0, [])), (13, (52, 1, 0, 0, 0, []))]
def C_30 : List (Nat × Op) := [(0, (4, 0, 0, 0, 2, [])), (1, (1, 0, 0, 0, 0, [])), (2, (32, 43, 3, 2, 0, [])), (5, (10, 0, 0, 0, 0, [])), (6, (0, 1, 0, 0, 0, [])), (7, (1, 0, 0, 0, 0, [])), (8, (32, 40, 3, 1, 0, [])), (11, (10, 0, 0, 0, 0, [])), (12, (8, 0, 0, 0, 0, [])), (13, (0, 2, 0, 0, 0, [])), (14, (8, 0, 0, 0, 0, [])), (15, (52, 1, 0, 0, 0, []))]
def C_31 : List (Nat × Op) := [(0, (0, 1, 0, 0, 0, [])), (1, (1, 0, 0, 0, 0, [])), (2, (32, 40, 3, 1, 0, [])), (5, (10, 0, 0, 0, 0, [])), (6, (0, 2, 0, 0, 0, [])), (7, (8, 0, 0, 0, 0, [])), (8, (52, 1, 0, 0, 0, []))]
def C_32 : List (Nat × Op) := [(0, (1, 0, 0, 0, 0, [])), (1, (32, 40, 3, 1, 0, [])), (4, (25, 16, 0, 0, 0, [])), (7, (0, 1, 0, 0, 0, [])), (8, (1, 0, 0, 0, 0, [])), (9, (32, 40, 3, 1, 0, [])), (12, (11, 0, 0, 0, 0, [])), (13, (19, 17, 0, 0, 0, [])), (16, (4, 0, 0, 0, 0, [])), (17, (52, 1, 0, 0, 0, []))]
def C_33 : List (Nat × Op) := [(0, (1, 0, 0, 0, 0, [])), (1, (32, 40, 3, 1, 0, [])), (4, (25, 16, 0, 0, 0, [])), (7, (0, 1, 0, 0, 0, [])), (8, (1, 0, 0, 0, 0, [])), (9, (32, 40, 3, 1, 0, [])), (12, (12, 0, 0, 0, 0, [])), (13, (19, 17, 0, 0, 0, [])), (16, (4, 0, 0, 0, 0, [])), (17, (52, 1, 0, 0, 0, []))]
def C_34 : List (Nat × Op) := [(0, (1, 0, 0, 0, 0, [])), (1, (33, 24, 3, 10, 0, [])), (4, (0, 1, 0, 0, 0, [])), (5, (38, 0, 0, 0, 0, [])), (6, (0, 2, 0, 0, 0, [])), (7, (27, 19, 0, 0, 0, [])), (10, (1, 0, 0, 0, 0, [])), (11, (33, 27, 3, 11, 0, [])), (14, (0, 1, 0, 0, 0, [])), (15, (38, 0, 0, 0, 0, [])), (16, (19, 25, 0, 0, 0, [])), (19, (1, 0, 0, 0, 0, [])), (20, (33, 24, 3, 10, 0, [])), (23, (0, 1, 0, 0, 0, [])), (24, (38, 0, 0, 0, 0, [])), (25, (52, 1, 0, 0, 0, []))]
def C_35 : List (Nat × Op) := [(0, (1, 0, 0, 0, 0, [])), (1, (49, 3, 0, 0, 0, [])), (4, (1, 0, 0, 0, 0, [])), (5, (5, 0, 0, 0, 96, [])), (7, (43, 0, 0, 0, 0, [])), (9, (37, 9, 4, 2, 0, [])), (12, (1, 0, 0, 0, 0, [])), (13, (5, 0, 0, 0, 16, [])), (15, (43, 0, 0, 0, 0, [])), (17, (37, 15, 4, 3, 0, [])), (20, (1, 0, 0, 0, 0, [])), (21, (6, 0, 0, 0, 324, [])), (24, (43, 0, 0, 0, 0, [])), (26, (37, 18, 4, 4, 0, [])), (29, (1, 0, 0, 0, 0, [])), (30, (1, 1, 0, 0, 0, [])), (31, (37, 21, 4, 0, 0, [])), (34, (1, 0, 0, 0, 0, [])), (35, (1, 2, 0, 0, 0, [])), (36, (37, 25, 4, 1, 0, [])), (39, (53, 0, 0, 0, 0, []))]
def C_36 : List (Nat × Op) := [(0, (1, 0, 0, 0, 0, [])), (1, (33, 18, 4, 4, 0, [])), (4, (4, 0, 0, 0, 0, [])), (5, (47, 29, 189, 0, 0, [])), (8, (1, 0, 0, 0, 0, [])), (9, (33, 15, 4, 3, 0, [])), (12, (4, 0, 0, 0, 0, [])), (13, (47, 29, 189, 0, 0, [])), (16, (4, 0, 0, 0, 0, [])), (17, (2, 2, 0, 0, 0, [])), (18, (0, 2, 0, 0, 0, [])), (19, (1, 1, 0, 0, 0, [])), (20, (32, 35, 5, 5, 0, [])), (23, (29, 44, 0, 0, 0, [])), (26, (1, 0, 0, 0, 0, [])), (27, (1, 1, 0, 0, 0, [])), (28, (0, 2, 0, 0, 0, [])), (29, (1, 1, 0, 0, 0, [])), (30, (33, 41, 5, 4, 0, [])), (33, (0, 2, 0, 0, 0, [])), (34, (38, 0, 0, 0, 0, [])), (35, (46, 44, 37, 0, 0, [])), (38, (13, 2, 0, 0, 1, [])), (41, (19, 18, 0, 0, 0, [])), (44, (53, 0, 0, 0, 0, []))]
def C_37 : List (Nat × Op) := [(0, (1, 0, 0, 0, 0, [])), (1, (0, 2, 0, 0, 0, [])), (2, (46, 48, 39, 0, 0, [])), (5, (1, 1, 0, 0, 0, [])), (6, (33, 52, 5, 1, 0, [])), (9, (0, 2, 0, 0, 0, [])), (10, (38, 0, 0, 0, 0, [])), (11, (2, 4, 0, 0, 0, [])), (13, (1, 1, 0, 0, 0, [])), (14, (33, 55, 5, 2, 0, [])), (17, (0, 2, 0, 0, 0, [])), (18, (38, 0, 0, 0, 0, [])), (19, (2, 5, 0, 0, 0, [])), (21, (1, 0, 0, 0, 0, [])), (22, (33, 25, 4, 1, 0, [])), (25, (1, 1, 0, 0, 0, [])), (26, (1, 0, 0, 0, 0, [])), (27, (33, 21, 4, 0, 0, [])), (30, (33, 58, 3, 12, 0, [])), (33, (0, 4, 0, 0, 0, [])), (35, (38, 0, 0, 0, 0, [])), (36, (0, 5, 0, 0, 0, [])), (38, (0, 3, 0, 0, 0, [])), (39, (46, 63, 6, 0, 0, [])), (42, (1, 0, 0, 0, 0, [])), (43, (33, 25, 4, 1, 0, [])), (46, (32, 69, 1, 4, 0, [])), (49, (21, 53, 0, 0, 0, [])), (52, (53, 0, 0, 0, 0, [])), (53, (1, 0, 0, 0, 0, [])), (54, (0, 2, 0, 0, 0, [])), (55, (6, 0, 0, 0, 216, [])), (58, (0, 4, 0, 0, 0, [])), (60, (8, 0, 0, 0, 0, [])), (61, (46, 73, 38, 0, 0, [])), (64, (4, 0, 0, 0, 0, [])), (65, (2, 6, 0, 0, 0, [])), (67, (0, 6, 0, 0, 0, [])), (69, (1, 0, 0, 0, 0, [])), (70, (33, 25, 4, 1, 0, [])), (73, (32, 77, 1, 3, 0, [])), (76, (4, 0, 0, 0, 1, [])), (77, (9, 0, 0, 0, 0, [])), (78, (29, 126, 0, 0, 0, [])), (81, (1, 0, 0, 0, 0, [])), (82, (33, 25, 4, 1, 0, [])), (85, (33, 80, 1, 2, 0, [])), (88, (0, 6, 0, 0, 0, [])), (90, (38, 0, 0, 0, 0, [])), (91, (2, 7, 0, 0, 0, [])), (93, (1, 0, 0, 0, 0, [])), (94, (0, 2, 0, 0, 0, [])), (95, (1, 0, 0, 0, 0, [])), (96, (33, 25, 4, 1, 0, [])), (99, (0, 6, 0, 0, 0, [])), (101, (46, 83, 7, 0, 0, [])), (104, (20, 112, 0, 0, 0, [])), (107, (0, 7, 0, 0, 0, [])), (109, (19, 117, 0, 0, 0, [])), (112, (5, 0, 0, 0, 108, [])), (114, (0, 7, 0, 0, 0, [])), (116, (8, 0, 0, 0, 0, [])), (117, (46, 73, 38, 0, 0, [])), (120, (13, 6, 0, 0, 1, [])), (123, (19, 67, 0, 0, 0, [])), (126, (1, 0, 0, 0, 0, [])), (127, (0, 2, 0, 0, 0, [])), (128, (6, 0, 0, 0, 270, [])), (131, (0, 5, 0, 0, 0, [])), (133, (8, 0, 0, 0, 0, [])), (134, (46, 73, 38, 0, 0, [])), (137, (53, 0, 0, 0, 0, []))]
def C_38 : List (Nat × Op) := [(0, (1, 0, 0, 0, 0, [])), (1, (33, 15, 4, 3, 0, [])), (4, (0, 1, 0, 0, 0, [])), (5, (38, 0, 0, 0, 0, [])), (6, (5, 0, 0, 0, 6, [])), (8, (28, 12, 0, 0, 0, [])), (11, (53, 0, 0, 0, 0, [])), (12, (1, 0, 0, 0, 0, [])), (13, (33, 9, 4, 2, 0, [])), (16, (0, 1, 0, 0, 0, [])), (17, (5, 0, 0, 0, 6, [])), (19, (10, 0, 0, 0, 0, [])), (20, (1, 0, 0, 0, 0, [])), (21, (33, 15, 4, 3, 0, [])), (24, (0, 1, 0, 0, 0, [])), (25, (38, 0, 0, 0, 0, [])), (26, (8, 0, 0, 0, 0, [])), (27, (0, 2, 0, 0, 0, [])), (28, (39, 0, 0, 0, 0, [])), (29, (1, 0, 0, 0, 0, [])), (30, (33, 15, 4, 3, 0, [])), (33, (0, 1, 0, 0, 0, [])), (34, (17, 0, 0, 0, 0, [])), (35, (38, 0, 0, 0, 0, [])), (36, (4, 0, 0, 0, 1, [])), (37, (8, 0, 0, 0, 0, [])), (38, (39, 0, 0, 0, 0, [])), (39, (1, 0, 0, 0, 0, [])), (40, (33, 18, 4, 4, 0, [])), (43, (0, 2, 0, 0, 0, [])), (44, (17, 0, 0, 0, 0, [])), (45, (38, 0, 0, 0, 0, [])), (46, (4, 0, 0, 0, 1, [])), (47, (8, 0, 0, 0, 0, [])), (48, (39, 0, 0, 0, 0, [])), (49, (53, 0, 0, 0, 0, []))]
def C_39 : List (Nat × Op) := [(0, (4, 0, 0, 0, 0, [])), (1, (2, 2, 0, 0, 0, [])), (2, (0, 2, 0, 0, 0, [])), (3, (1, 0, 0, 0, 0, [])), (4, (33, 15, 4, 3, 0, [])), (7, (0, 1, 0, 0, 0, [])), (8, (38, 0, 0, 0, 0, [])), (9, (29, 38, 0, 0, 0, [])), (12, (1, 0, 0, 0, 0, [])), (13, (33, 18, 4, 4, 0, [])), (16, (1, 0, 0, 0, 0, [])), (17, (33, 9, 4, 2, 0, [])), (20, (0, 1, 0, 0, 0, [])), (21, (5, 0, 0, 0, 6, [])), (23, (10, 0, 0, 0, 0, [])), (24, (0, 2, 0, 0, 0, [])), (25, (8, 0, 0, 0, 0, [])), (26, (38, 0, 0, 0, 0, [])), (27, (17, 0, 0, 0, 0, [])), (28, (38, 0, 0, 0, 0, [])), (29, (4, 0, 0, 0, 1, [])), (30, (9, 0, 0, 0, 0, [])), (31, (39, 0, 0, 0, 0, [])), (32, (13, 2, 0, 0, 1, [])), (35, (19, 2, 0, 0, 0, [])), (38, (1, 0, 0, 0, 0, [])), (39, (33, 15, 4, 3, 0, [])), (42, (0, 1, 0, 0, 0, [])), (43, (4, 0, 0, 0, 0, [])), (44, (39, 0, 0, 0, 0, [])), (45, (53, 0, 0, 0, 0, []))]
def C_40 : List (Nat × Op) := [(0, (1, 0, 0, 0, 0, [])), (1, (33, 15, 4, 3, 0, [])), (4, (0, 1, 0, 0, 0, [])), (5, (38, 0, 0, 0, 0, [])), (6, (25, 13, 0, 0, 0, [])), (9, (4, 0, 0, 0, 1, [])), (10, (19, 14, 0, 0, 0, [])), (13, (4, 0, 0, 0, 0, [])), (14, (52, 2, 0, 0, 0, []))]
def C_41 : List (Nat × Op) := [(0, (4, 0, 0, 0, 0, [])), (1, (2, 2, 0, 0, 0, [])), (2, (4, 0, 0, 0, 0, [])), (3, (2, 3, 0, 0, 0, [])), (4, (0, 3, 0, 0, 0, [])), (5, (1, 0, 0, 0, 0, [])), (6, (33, 15, 4, 3, 0, [])), (9, (0, 1, 0, 0, 0, [])), (10, (38, 0, 0, 0, 0, [])), (11, (29, 41, 0, 0, 0, [])), (14, (0, 2, 0, 0, 0, [])), (15, (1, 0, 0, 0, 0, [])), (16, (33, 18, 4, 4, 0, [])), (19, (1, 0, 0, 0, 0, [])), (20, (33, 9, 4, 2, 0, [])), (23, (0, 1, 0, 0, 0, [])), (24, (5, 0, 0, 0, 6, [])), (26, (10, 0, 0, 0, 0, [])), (27, (0, 3, 0, 0, 0, [])), (28, (8, 0, 0, 0, 0, [])), (29, (38, 0, 0, 0, 0, [])), (30, (38, 0, 0, 0, 0, [])), (31, (61, 87, 0, 0, 0, [])), (34, (2, 2, 0, 0, 0, [])), (35, (13, 3, 0, 0, 1, [])), (38, (19, 4, 0, 0, 0, [])), (41, (0, 2, 0, 0, 0, [])), (42, (25, 52, 0, 0, 0, [])), (45, (7, 93, 0, 0, 720720, [])), (47, (0, 2, 0, 0, 0, [])), (48, (11, 0, 0, 0, 0, [])), (49, (19, 53, 0, 0, 0, [])), (52, (4, 0, 0, 0, 0, [])), (53, (52, 1, 0, 0, 0, []))]
def C_42 : List (Nat × Op) := [(0, (7, 93, 0, 0, 720720, [])), (2, (2, 2, 0, 0, 0, [])), (3, (4, 0, 0, 0, 0, [])), (4, (2, 3, 0, 0, 0, [])), (5, (0, 3, 0, 0, 0, [])), (6, (0, 1, 0, 0, 0, [])), (7, (29, 26, 0, 0, 0, [])), (10, (0, 2, 0, 0, 0, [])), (11, (1, 0, 0, 0, 0, [])), (12, (0, 3, 0, 0, 0, [])), (13, (46, 94, 41, 0, 0, [])), (16, (62, 98, 0, 0, 0, [])), (19, (2, 2, 0, 0, 0, [])), (20, (13, 3, 0, 0, 1, [])), (23, (19, 5, 0, 0, 0, [])), (26, (0, 2, 0, 0, 0, [])), (27, (52, 1, 0, 0, 0, []))]
def C_43 : List (Nat × Op) := [(0, (4, 0, 0, 0, 0, [])), (1, (2, 3, 0, 0, 0, [])), (2, (4, 0, 0, 0, 0, [])), (3, (2, 4, 0, 0, 0, [])), (5, (0, 4, 0, 0, 0, [])), (7, (1, 1, 0, 0, 0, [])), (8, (32, 35, 5, 5, 0, [])), (11, (29, 68, 0, 0, 0, [])), (14, (4, 0, 0, 0, 0, [])), (15, (2, 5, 0, 0, 0, [])), (17, (0, 5, 0, 0, 0, [])), (19, (1, 0, 0, 0, 0, [])), (20, (33, 15, 4, 3, 0, [])), (23, (0, 4, 0, 0, 0, [])), (25, (38, 0, 0, 0, 0, [])), (26, (29, 62, 0, 0, 0, [])), (29, (1, 0, 0, 0, 0, [])), (30, (33, 9, 4, 2, 0, [])), (33, (0, 4, 0, 0, 0, [])), (35, (5, 0, 0, 0, 6, [])), (37, (10, 0, 0, 0, 0, [])), (38, (0, 5, 0, 0, 0, [])), (40, (8, 0, 0, 0, 0, [])), (41, (38, 0, 0, 0, 0, [])), (42, (0, 2, 0, 0, 0, [])), (43, (27, 56, 0, 0, 0, [])), (46, (0, 3, 0, 0, 0, [])), (47, (1, 1, 0, 0, 0, [])), (48, (33, 101, 5, 3, 0, [])), (51, (0, 4, 0, 0, 0, [])), (53, (38, 0, 0, 0, 0, [])), (54, (8, 0, 0, 0, 0, [])), (55, (2, 3, 0, 0, 0, [])), (56, (13, 5, 0, 0, 1, [])), (59, (19, 17, 0, 0, 0, [])), (62, (13, 4, 0, 0, 1, [])), (65, (19, 5, 0, 0, 0, [])), (68, (0, 3, 0, 0, 0, [])), (69, (52, 1, 0, 0, 0, []))]
def C_44 : List (Nat × Op) := [(0, (1, 1, 0, 0, 0, [])), (1, (33, 41, 5, 4, 0, [])), (4, (0, 2, 0, 0, 0, [])), (5, (38, 0, 0, 0, 0, [])), (6, (2, 3, 0, 0, 0, [])), (7, (0, 3, 0, 0, 0, [])), (8, (2, 4, 0, 0, 0, [])), (10, (1, 0, 0, 0, 0, [])), (11, (1, 1, 0, 0, 0, [])), (12, (32, 35, 5, 5, 0, [])), (15, (46, 104, 42, 0, 0, [])), (18, (2, 5, 0, 0, 0, [])), (20, (1, 0, 0, 0, 0, [])), (21, (0, 2, 0, 0, 0, [])), (22, (46, 94, 41, 0, 0, [])), (25, (2, 6, 0, 0, 0, [])), (27, (4, 0, 0, 0, 0, [])), (28, (2, 7, 0, 0, 0, [])), (30, (0, 7, 0, 0, 0, [])), (32, (1, 0, 0, 0, 0, [])), (33, (33, 21, 4, 0, 0, [])), (36, (32, 107, 3, 1, 0, [])), (39, (1, 0, 0, 0, 0, [])), (40, (33, 21, 4, 0, 0, [])), (43, (32, 107, 3, 1, 0, [])), (46, (10, 0, 0, 0, 0, [])), (47, (29, 114, 0, 0, 0, [])), (50, (1, 0, 0, 0, 0, [])), (51, (1, 1, 0, 0, 0, [])), (52, (0, 2, 0, 0, 0, [])), (53, (0, 7, 0, 0, 0, [])), (55, (46, 44, 37, 0, 0, [])), (58, (1, 0, 0, 0, 0, [])), (59, (1, 1, 0, 0, 0, [])), (60, (32, 35, 5, 5, 0, [])), (63, (46, 104, 42, 0, 0, [])), (66, (2, 8, 0, 0, 0, [])), (68, (1, 0, 0, 0, 0, [])), (69, (0, 2, 0, 0, 0, [])), (70, (46, 94, 41, 0, 0, [])), (73, (2, 9, 0, 0, 0, [])), (75, (0, 8, 0, 0, 0, [])), (77, (0, 5, 0, 0, 0, [])), (79, (30, 96, 0, 0, 0, [])), (82, (0, 8, 0, 0, 0, [])), (84, (0, 5, 0, 0, 0, [])), (86, (27, 108, 0, 0, 0, [])), (89, (0, 9, 0, 0, 0, [])), (91, (0, 6, 0, 0, 0, [])), (93, (31, 108, 0, 0, 0, [])), (96, (0, 7, 0, 0, 0, [])), (98, (2, 4, 0, 0, 0, [])), (100, (0, 8, 0, 0, 0, [])), (102, (2, 5, 0, 0, 0, [])), (104, (0, 9, 0, 0, 0, [])), (106, (2, 6, 0, 0, 0, [])), (108, (13, 7, 0, 0, 1, [])), (111, (19, 30, 0, 0, 0, [])), (114, (1, 0, 0, 0, 0, [])), (115, (1, 1, 0, 0, 0, [])), (116, (0, 2, 0, 0, 0, [])), (117, (0, 4, 0, 0, 0, [])), (119, (46, 44, 37, 0, 0, [])), (122, (1, 1, 0, 0, 0, [])), (123, (33, 41, 5, 4, 0, [])), (126, (0, 2, 0, 0, 0, [])), (127, (0, 4, 0, 0, 0, [])), (129, (39, 0, 0, 0, 0, [])), (130, (0, 4, 0, 0, 0, [])), (132, (0, 3, 0, 0, 0, [])), (133, (26, 140, 0, 0, 0, [])), (136, (4, 0, 0, 0, 1, [])), (137, (19, 141, 0, 0, 0, [])), (140, (4, 0, 0, 0, 0, [])), (141, (52, 2, 0, 0, 0, []))]
def C_45 : List (Nat × Op) := [(0, (1, 0, 0, 0, 0, [])), (1, (49, 3, 0, 0, 0, [])), (4, (1, 0, 0, 0, 0, [])), (5, (5, 0, 0, 0, 108, [])), (7, (43, 0, 0, 0, 0, [])), (9, (37, 9, 5, 0, 0, [])), (12, (1, 0, 0, 0, 0, [])), (13, (5, 0, 0, 0, 16, [])), (15, (43, 0, 0, 0, 0, [])), (17, (37, 15, 5, 1, 0, [])), (20, (1, 0, 0, 0, 0, [])), (21, (5, 0, 0, 0, 16, [])), (23, (43, 0, 0, 0, 0, [])), (25, (37, 18, 5, 2, 0, [])), (28, (1, 0, 0, 0, 0, [])), (29, (5, 0, 0, 0, 16, [])), (31, (43, 0, 0, 0, 0, [])), (33, (37, 21, 5, 3, 0, [])), (36, (1, 0, 0, 0, 0, [])), (37, (5, 0, 0, 0, 16, [])), (39, (43, 0, 0, 0, 0, [])), (41, (37, 24, 5, 4, 0, [])), (44, (1, 0, 0, 0, 0, [])), (45, (4, 0, 0, 0, 0, [])), (46, (43, 0, 0, 0, 0, [])), (48, (36, 27, 5, 6, 0, [])), (51, (53, 0, 0, 0, 0, []))]
def C_46 : List (Nat × Op) := [(0, (1, 0, 0, 0, 0, [])), (1, (0, 1, 0, 0, 0, [])), (2, (34, 30, 5, 7, 0, [])), (5, (1, 0, 0, 0, 0, [])), (6, (0, 2, 0, 0, 0, [])), (7, (34, 34, 5, 8, 0, [])), (10, (1, 0, 0, 0, 0, [])), (11, (33, 27, 5, 6, 0, [])), (14, (42, 0, 0, 0, 0, [])), (15, (0, 1, 0, 0, 0, [])), (16, (0, 2, 0, 0, 0, [])), (17, (10, 0, 0, 0, 0, [])), (18, (29, 30, 0, 0, 0, [])), (21, (1, 0, 0, 0, 0, [])), (22, (0, 1, 0, 0, 0, [])), (23, (0, 2, 0, 0, 0, [])), (24, (10, 0, 0, 0, 0, [])), (25, (43, 0, 0, 0, 0, [])), (27, (36, 27, 5, 6, 0, [])), (30, (53, 0, 0, 0, 0, []))]
def C_47 : List (Nat × Op) := [(0, (1, 0, 0, 0, 0, [])), (1, (33, 9, 5, 0, 0, [])), (4, (4, 0, 0, 0, 0, [])), (5, (47, 37, 189, 0, 0, [])), (8, (1, 0, 0, 0, 0, [])), (9, (4, 0, 0, 0, 0, [])), (10, (34, 43, 5, 5, 0, [])), (13, (53, 0, 0, 0, 0, []))]
def C_48 : List (Nat × Op) := [(0, (1, 1, 0, 0, 0, [])), (1, (33, 9, 5, 0, 0, [])), (4, (4, 0, 0, 0, 0, [])), (5, (1, 0, 0, 0, 0, [])), (6, (33, 9, 5, 0, 0, [])), (9, (4, 0, 0, 0, 0, [])), (10, (1, 0, 0, 0, 0, [])), (11, (32, 30, 5, 7, 0, [])), (14, (50, 46, 0, 0, 0, [])), (17, (1, 1, 0, 0, 0, [])), (18, (33, 27, 5, 6, 0, [])), (21, (4, 0, 0, 0, 0, [])), (22, (1, 0, 0, 0, 0, [])), (23, (33, 27, 5, 6, 0, [])), (26, (4, 0, 0, 0, 0, [])), (27, (1, 0, 0, 0, 0, [])), (28, (32, 30, 5, 7, 0, [])), (31, (1, 0, 0, 0, 0, [])), (32, (32, 34, 5, 8, 0, [])), (35, (10, 0, 0, 0, 0, [])), (36, (50, 46, 0, 0, 0, [])), (39, (1, 1, 0, 0, 0, [])), (40, (33, 15, 5, 1, 0, [])), (43, (4, 0, 0, 0, 0, [])), (44, (1, 0, 0, 0, 0, [])), (45, (33, 15, 5, 1, 0, [])), (48, (4, 0, 0, 0, 0, [])), (49, (5, 0, 0, 0, 16, [])), (51, (50, 46, 0, 0, 0, [])), (54, (1, 1, 0, 0, 0, [])), (55, (33, 18, 5, 2, 0, [])), (58, (4, 0, 0, 0, 0, [])), (59, (1, 0, 0, 0, 0, [])), (60, (33, 18, 5, 2, 0, [])), (63, (4, 0, 0, 0, 0, [])), (64, (5, 0, 0, 0, 16, [])), (66, (50, 46, 0, 0, 0, [])), (69, (1, 1, 0, 0, 0, [])), (70, (33, 21, 5, 3, 0, [])), (73, (4, 0, 0, 0, 0, [])), (74, (1, 0, 0, 0, 0, [])), (75, (33, 21, 5, 3, 0, [])), (78, (4, 0, 0, 0, 0, [])), (79, (5, 0, 0, 0, 16, [])), (81, (50, 46, 0, 0, 0, [])), (84, (1, 1, 0, 0, 0, [])), (85, (33, 24, 5, 4, 0, [])), (88, (4, 0, 0, 0, 0, [])), (89, (1, 0, 0, 0, 0, [])), (90, (33, 24, 5, 4, 0, [])), (93, (4, 0, 0, 0, 0, [])), (94, (5, 0, 0, 0, 16, [])), (96, (50, 46, 0, 0, 0, [])), (99, (1, 0, 0, 0, 0, [])), (100, (1, 1, 0, 0, 0, [])), (101, (32, 43, 5, 5, 0, [])), (104, (34, 43, 5, 5, 0, [])), (107, (53, 0, 0, 0, 0, []))]
def C_49 : List (Nat × Op) := [(0, (1, 0, 0, 0, 0, [])), (1, (33, 9, 5, 0, 0, [])), (4, (0, 1, 0, 0, 0, [])), (5, (38, 0, 0, 0, 0, [])), (6, (4, 0, 0, 0, 2, [])), (7, (12, 0, 0, 0, 0, [])), (8, (21, 15, 0, 0, 0, [])), (11, (4, 0, 0, 0, 1, [])), (12, (19, 16, 0, 0, 0, [])), (15, (4, 0, 0, 0, 0, [])), (16, (52, 2, 0, 0, 0, []))]
def C_50 : List (Nat × Op) := [(0, (0, 1, 0, 0, 0, [])), (1, (1, 0, 0, 0, 0, [])), (2, (32, 34, 5, 8, 0, [])), (5, (10, 0, 0, 0, 0, [])), (6, (52, 1, 0, 0, 0, []))]
def C_51 : List (Nat × Op) := [(0, (1, 0, 0, 0, 0, [])), (1, (33, 27, 5, 6, 0, [])), (4, (0, 2, 0, 0, 0, [])), (5, (1, 0, 0, 0, 0, [])), (6, (32, 34, 5, 8, 0, [])), (9, (10, 0, 0, 0, 0, [])), (10, (0, 1, 0, 0, 0, [])), (11, (8, 0, 0, 0, 0, [])), (12, (38, 0, 0, 0, 0, [])), (13, (52, 1, 0, 0, 0, []))]
def C_52 : List (Nat × Op) := [(0, (1, 0, 0, 0, 0, [])), (1, (33, 27, 5, 6, 0, [])), (4, (0, 2, 0, 0, 0, [])), (5, (1, 0, 0, 0, 0, [])), (6, (32, 34, 5, 8, 0, [])), (9, (10, 0, 0, 0, 0, [])), (10, (0, 1, 0, 0, 0, [])), (11, (8, 0, 0, 0, 0, [])), (12, (38, 0, 0, 0, 0, [])), (13, (4, 0, 0, 0, 2, [])), (14, (12, 0, 0, 0, 0, [])), (15, (21, 22, 0, 0, 0, [])), (18, (4, 0, 0, 0, 1, [])), (19, (19, 23, 0, 0, 0, [])), (22, (4, 0, 0, 0, 0, [])), (23, (52, 2, 0, 0, 0, []))]
def C_53 : List (Nat × Op) := [(0, (1, 0, 0, 0, 0, [])), (1, (33, 9, 5, 0, 0, [])), (4, (0, 1, 0, 0, 0, [])), (5, (17, 0, 0, 0, 0, [])), (6, (38, 0, 0, 0, 0, [])), (7, (4, 0, 0, 0, 1, [])), (8, (8, 0, 0, 0, 0, [])), (9, (39, 0, 0, 0, 0, [])), (10, (1, 0, 0, 0, 0, [])), (11, (33, 27, 5, 6, 0, [])), (14, (0, 1, 0, 0, 0, [])), (15, (1, 0, 0, 0, 0, [])), (16, (32, 34, 5, 8, 0, [])), (19, (10, 0, 0, 0, 0, [])), (20, (0, 2, 0, 0, 0, [])), (21, (8, 0, 0, 0, 0, [])), (22, (1, 0, 0, 0, 0, [])), (23, (33, 9, 5, 0, 0, [])), (26, (0, 1, 0, 0, 0, [])), (27, (38, 0, 0, 0, 0, [])), (28, (39, 0, 0, 0, 0, [])), (29, (1, 0, 0, 0, 0, [])), (30, (33, 27, 5, 6, 0, [])), (33, (0, 1, 0, 0, 0, [])), (34, (1, 0, 0, 0, 0, [])), (35, (32, 34, 5, 8, 0, [])), (38, (10, 0, 0, 0, 0, [])), (39, (0, 3, 0, 0, 0, [])), (40, (8, 0, 0, 0, 0, [])), (41, (1, 0, 0, 0, 0, [])), (42, (33, 9, 5, 0, 0, [])), (45, (0, 1, 0, 0, 0, [])), (46, (38, 0, 0, 0, 0, [])), (47, (39, 0, 0, 0, 0, [])), (48, (53, 0, 0, 0, 0, []))]
def C_54 : List (Nat × Op) := [(0, (4, 0, 0, 0, 0, [])), (1, (2, 1, 0, 0, 0, [])), (2, (0, 1, 0, 0, 0, [])), (3, (1, 0, 0, 0, 0, [])), (4, (32, 30, 5, 7, 0, [])), (7, (29, 51, 0, 0, 0, [])), (10, (4, 0, 0, 0, 0, [])), (11, (2, 2, 0, 0, 0, [])), (12, (0, 2, 0, 0, 0, [])), (13, (1, 0, 0, 0, 0, [])), (14, (32, 34, 5, 8, 0, [])), (17, (29, 45, 0, 0, 0, [])), (20, (1, 0, 0, 0, 0, [])), (21, (33, 27, 5, 6, 0, [])), (24, (0, 1, 0, 0, 0, [])), (25, (1, 0, 0, 0, 0, [])), (26, (32, 34, 5, 8, 0, [])), (29, (10, 0, 0, 0, 0, [])), (30, (0, 2, 0, 0, 0, [])), (31, (8, 0, 0, 0, 0, [])), (32, (1, 0, 0, 0, 0, [])), (33, (33, 9, 5, 0, 0, [])), (36, (0, 1, 0, 0, 0, [])), (37, (38, 0, 0, 0, 0, [])), (38, (39, 0, 0, 0, 0, [])), (39, (13, 2, 0, 0, 1, [])), (42, (19, 12, 0, 0, 0, [])), (45, (13, 1, 0, 0, 1, [])), (48, (19, 2, 0, 0, 0, [])), (51, (53, 0, 0, 0, 0, []))]
def C_55 : List (Nat × Op) := [(0, (4, 0, 0, 0, 0, [])), (1, (2, 2, 0, 0, 0, [])), (2, (4, 0, 0, 0, 0, [])), (3, (2, 3, 0, 0, 0, [])), (4, (0, 3, 0, 0, 0, [])), (5, (1, 0, 0, 0, 0, [])), (6, (32, 34, 5, 8, 0, [])), (9, (29, 43, 0, 0, 0, [])), (12, (1, 0, 0, 0, 0, [])), (13, (33, 27, 5, 6, 0, [])), (16, (0, 1, 0, 0, 0, [])), (17, (1, 0, 0, 0, 0, [])), (18, (32, 34, 5, 8, 0, [])), (21, (10, 0, 0, 0, 0, [])), (22, (0, 3, 0, 0, 0, [])), (23, (8, 0, 0, 0, 0, [])), (24, (38, 0, 0, 0, 0, [])), (25, (1, 0, 0, 0, 0, [])), (26, (33, 9, 5, 0, 0, [])), (29, (0, 1, 0, 0, 0, [])), (30, (38, 0, 0, 0, 0, [])), (31, (26, 37, 0, 0, 0, [])), (34, (13, 2, 0, 0, 1, [])), (37, (13, 3, 0, 0, 1, [])), (40, (19, 4, 0, 0, 0, [])), (43, (0, 2, 0, 0, 0, [])), (44, (52, 1, 0, 0, 0, []))]
def C_56 : List (Nat × Op) := [(0, (1, 0, 0, 0, 0, [])), (1, (32, 43, 5, 5, 0, [])), (4, (5, 0, 0, 0, 16, [])), (6, (28, 11, 0, 0, 0, [])), (9, (4, 0, 0, 0, 0, [])), (10, (52, 2, 0, 0, 0, [])), (11, (1, 0, 0, 0, 0, [])), (12, (33, 15, 5, 1, 0, [])), (15, (1, 0, 0, 0, 0, [])), (16, (32, 43, 5, 5, 0, [])), (19, (0, 1, 0, 0, 0, [])), (20, (39, 0, 0, 0, 0, [])), (21, (1, 0, 0, 0, 0, [])), (22, (33, 18, 5, 2, 0, [])), (25, (1, 0, 0, 0, 0, [])), (26, (32, 43, 5, 5, 0, [])), (29, (0, 2, 0, 0, 0, [])), (30, (39, 0, 0, 0, 0, [])), (31, (1, 0, 0, 0, 0, [])), (32, (33, 21, 5, 3, 0, [])), (35, (1, 0, 0, 0, 0, [])), (36, (32, 43, 5, 5, 0, [])), (39, (0, 3, 0, 0, 0, [])), (40, (39, 0, 0, 0, 0, [])), (41, (1, 0, 0, 0, 0, [])), (42, (33, 24, 5, 4, 0, [])), (45, (1, 0, 0, 0, 0, [])), (46, (32, 43, 5, 5, 0, [])), (49, (4, 0, 0, 0, 0, [])), (50, (39, 0, 0, 0, 0, [])), (51, (1, 0, 0, 0, 0, [])), (52, (16, 0, 0, 0, 0, [])), (53, (32, 43, 5, 5, 0, [])), (56, (4, 0, 0, 0, 1, [])), (57, (8, 0, 0, 0, 0, [])), (58, (34, 43, 5, 5, 0, [])), (61, (4, 0, 0, 0, 1, [])), (62, (52, 2, 0, 0, 0, []))]
def C_57 : List (Nat × Op) := [(0, (0, 1, 0, 0, 0, [])), (1, (4, 0, 0, 0, 1, [])), (2, (8, 0, 0, 0, 0, [])), (3, (2, 2, 0, 0, 0, [])), (4, (0, 2, 0, 0, 0, [])), (5, (1, 0, 0, 0, 0, [])), (6, (32, 43, 5, 5, 0, [])), (9, (29, 74, 0, 0, 0, [])), (12, (1, 0, 0, 0, 0, [])), (13, (33, 15, 5, 1, 0, [])), (16, (0, 2, 0, 0, 0, [])), (17, (4, 0, 0, 0, 1, [])), (18, (9, 0, 0, 0, 0, [])), (19, (1, 0, 0, 0, 0, [])), (20, (33, 15, 5, 1, 0, [])), (23, (0, 2, 0, 0, 0, [])), (24, (38, 0, 0, 0, 0, [])), (25, (39, 0, 0, 0, 0, [])), (26, (1, 0, 0, 0, 0, [])), (27, (33, 18, 5, 2, 0, [])), (30, (0, 2, 0, 0, 0, [])), (31, (4, 0, 0, 0, 1, [])), (32, (9, 0, 0, 0, 0, [])), (33, (1, 0, 0, 0, 0, [])), (34, (33, 18, 5, 2, 0, [])), (37, (0, 2, 0, 0, 0, [])), (38, (38, 0, 0, 0, 0, [])), (39, (39, 0, 0, 0, 0, [])), (40, (1, 0, 0, 0, 0, [])), (41, (33, 21, 5, 3, 0, [])), (44, (0, 2, 0, 0, 0, [])), (45, (4, 0, 0, 0, 1, [])), (46, (9, 0, 0, 0, 0, [])), (47, (1, 0, 0, 0, 0, [])), (48, (33, 21, 5, 3, 0, [])), (51, (0, 2, 0, 0, 0, [])), (52, (38, 0, 0, 0, 0, [])), (53, (39, 0, 0, 0, 0, [])), (54, (1, 0, 0, 0, 0, [])), (55, (33, 24, 5, 4, 0, [])), (58, (0, 2, 0, 0, 0, [])), (59, (4, 0, 0, 0, 1, [])), (60, (9, 0, 0, 0, 0, [])), (61, (1, 0, 0, 0, 0, [])), (62, (33, 24, 5, 4, 0, [])), (65, (0, 2, 0, 0, 0, [])), (66, (38, 0, 0, 0, 0, [])), (67, (39, 0, 0, 0, 0, [])), (68, (13, 2, 0, 0, 1, [])), (71, (19, 4, 0, 0, 0, [])), (74, (1, 0, 0, 0, 0, [])), (75, (16, 0, 0, 0, 0, [])), (76, (32, 43, 5, 5, 0, [])), (79, (4, 0, 0, 0, 1, [])), (80, (9, 0, 0, 0, 0, [])), (81, (34, 43, 5, 5, 0, [])), (84, (53, 0, 0, 0, 0, []))]
def C_58 : List (Nat × Op) := [(0, (1, 0, 0, 0, 0, [])), (1, (49, 3, 0, 0, 0, [])), (4, (1, 0, 0, 0, 0, [])), (5, (5, 0, 0, 0, 45, [])), (7, (43, 0, 0, 0, 0, [])), (9, (37, 9, 6, 1, 0, [])), (12, (1, 0, 0, 0, 0, [])), (13, (1, 1, 0, 0, 0, [])), (14, (37, 15, 6, 0, 0, [])), (17, (53, 0, 0, 0, 0, []))]
def C_59 : List (Nat × Op) := [(0, (4, 0, 0, 0, 0, [])), (1, (2, 3, 0, 0, 0, [])), (2, (4, 0, 0, 0, 0, [])), (3, (2, 4, 0, 0, 0, [])), (5, (0, 4, 0, 0, 0, [])), (7, (1, 0, 0, 0, 0, [])), (8, (33, 15, 6, 0, 0, [])), (11, (32, 19, 3, 5, 0, [])), (14, (29, 57, 0, 0, 0, [])), (17, (4, 0, 0, 0, 0, [])), (18, (2, 5, 0, 0, 0, [])), (20, (0, 5, 0, 0, 0, [])), (22, (0, 2, 0, 0, 0, [])), (23, (29, 51, 0, 0, 0, [])), (26, (1, 1, 0, 0, 0, [])), (27, (0, 4, 0, 0, 0, [])), (29, (46, 25, 55, 0, 0, [])), (32, (25, 51, 0, 0, 0, [])), (35, (0, 3, 0, 0, 0, [])), (36, (1, 0, 0, 0, 0, [])), (37, (1, 1, 0, 0, 0, [])), (38, (0, 4, 0, 0, 0, [])), (40, (46, 31, 60, 0, 0, [])), (43, (8, 0, 0, 0, 0, [])), (44, (2, 3, 0, 0, 0, [])), (45, (13, 5, 0, 0, 1, [])), (48, (19, 20, 0, 0, 0, [])), (51, (13, 4, 0, 0, 1, [])), (54, (19, 5, 0, 0, 0, [])), (57, (0, 3, 0, 0, 0, [])), (58, (52, 1, 0, 0, 0, []))]
def C_60 : List (Nat × Op) := [(0, (1, 1, 0, 0, 0, [])), (1, (0, 2, 0, 0, 0, [])), (2, (46, 35, 50, 0, 0, [])), (5, (2, 3, 0, 0, 0, [])), (6, (1, 1, 0, 0, 0, [])), (7, (33, 38, 5, 6, 0, [])), (10, (0, 3, 0, 0, 0, [])), (11, (1, 0, 0, 0, 0, [])), (12, (33, 9, 6, 1, 0, [])), (15, (4, 0, 0, 0, 0, [])), (16, (1, 0, 0, 0, 0, [])), (17, (33, 15, 6, 0, 0, [])), (20, (32, 41, 3, 4, 0, [])), (23, (50, 44, 0, 0, 0, [])), (26, (4, 0, 0, 0, 0, [])), (27, (2, 4, 0, 0, 0, [])), (29, (0, 4, 0, 0, 0, [])), (31, (1, 0, 0, 0, 0, [])), (32, (33, 15, 6, 0, 0, [])), (35, (32, 19, 3, 5, 0, [])), (38, (29, 136, 0, 0, 0, [])), (41, (1, 1, 0, 0, 0, [])), (42, (0, 4, 0, 0, 0, [])), (44, (46, 50, 49, 0, 0, [])), (47, (20, 130, 0, 0, 0, [])), (50, (1, 0, 0, 0, 0, [])), (51, (33, 15, 6, 0, 0, [])), (54, (33, 54, 3, 10, 0, [])), (57, (0, 4, 0, 0, 0, [])), (59, (38, 0, 0, 0, 0, [])), (60, (2, 5, 0, 0, 0, [])), (62, (1, 0, 0, 0, 0, [])), (63, (33, 15, 6, 0, 0, [])), (66, (33, 57, 3, 11, 0, [])), (69, (0, 4, 0, 0, 0, [])), (71, (38, 0, 0, 0, 0, [])), (72, (2, 6, 0, 0, 0, [])), (74, (1, 1, 0, 0, 0, [])), (75, (33, 38, 5, 6, 0, [])), (78, (0, 3, 0, 0, 0, [])), (79, (0, 5, 0, 0, 0, [])), (81, (8, 0, 0, 0, 0, [])), (82, (1, 1, 0, 0, 0, [])), (83, (33, 38, 5, 6, 0, [])), (86, (0, 3, 0, 0, 0, [])), (87, (0, 5, 0, 0, 0, [])), (89, (8, 0, 0, 0, 0, [])), (90, (38, 0, 0, 0, 0, [])), (91, (1, 0, 0, 0, 0, [])), (92, (33, 9, 6, 1, 0, [])), (95, (0, 6, 0, 0, 0, [])), (97, (38, 0, 0, 0, 0, [])), (98, (61, 60, 0, 0, 0, [])), (101, (39, 0, 0, 0, 0, [])), (102, (1, 1, 0, 0, 0, [])), (103, (33, 38, 5, 6, 0, [])), (106, (0, 3, 0, 0, 0, [])), (107, (0, 6, 0, 0, 0, [])), (109, (8, 0, 0, 0, 0, [])), (110, (1, 1, 0, 0, 0, [])), (111, (33, 38, 5, 6, 0, [])), (114, (0, 3, 0, 0, 0, [])), (115, (0, 6, 0, 0, 0, [])), (117, (8, 0, 0, 0, 0, [])), (118, (38, 0, 0, 0, 0, [])), (119, (1, 0, 0, 0, 0, [])), (120, (33, 9, 6, 1, 0, [])), (123, (0, 5, 0, 0, 0, [])), (125, (38, 0, 0, 0, 0, [])), (126, (61, 60, 0, 0, 0, [])), (129, (39, 0, 0, 0, 0, [])), (130, (13, 4, 0, 0, 1, [])), (133, (19, 29, 0, 0, 0, [])), (136, (4, 0, 0, 0, 0, [])), (137, (2, 4, 0, 0, 0, [])), (139, (4, 0, 0, 0, 0, [])), (140, (2, 5, 0, 0, 0, [])), (142, (0, 5, 0, 0, 0, [])), (144, (1, 0, 0, 0, 0, [])), (145, (33, 15, 6, 0, 0, [])), (148, (32, 41, 3, 4, 0, [])), (151, (29, 182, 0, 0, 0, [])), (154, (1, 1, 0, 0, 0, [])), (155, (33, 38, 5, 6, 0, [])), (158, (0, 3, 0, 0, 0, [])), (159, (0, 5, 0, 0, 0, [])), (161, (8, 0, 0, 0, 0, [])), (162, (38, 0, 0, 0, 0, [])), (163, (1, 0, 0, 0, 0, [])), (164, (33, 9, 6, 1, 0, [])), (167, (0, 5, 0, 0, 0, [])), (169, (38, 0, 0, 0, 0, [])), (170, (26, 176, 0, 0, 0, [])), (173, (13, 4, 0, 0, 1, [])), (176, (13, 5, 0, 0, 1, [])), (179, (19, 142, 0, 0, 0, [])), (182, (0, 4, 0, 0, 0, [])), (184, (52, 1, 0, 0, 0, []))]
def C_61 : List (Nat × Op) := [(0, (1, 0, 0, 0, 0, [])), (1, (49, 3, 0, 0, 0, [])), (4, (1, 0, 0, 0, 0, [])), (5, (1, 1, 0, 0, 0, [])), (6, (37, 9, 7, 0, 0, [])), (9, (53, 0, 0, 0, 0, []))]
def C_62 : List (Nat × Op) := [(0, (0, 2, 0, 0, 0, [])), (1, (0, 3, 0, 0, 0, [])), (2, (27, 7, 0, 0, 0, [])), (5, (4, 0, 0, 0, 1, [])), (6, (52, 1, 0, 0, 0, [])), (7, (4, 0, 0, 0, 0, [])), (8, (2, 5, 0, 0, 0, [])), (10, (4, 0, 0, 0, 0, [])), (11, (2, 6, 0, 0, 0, [])), (13, (0, 6, 0, 0, 0, [])), (15, (1, 0, 0, 0, 0, [])), (16, (33, 9, 7, 0, 0, [])), (19, (32, 15, 3, 1, 0, [])), (22, (29, 103, 0, 0, 0, [])), (25, (1, 0, 0, 0, 0, [])), (26, (1, 1, 0, 0, 0, [])), (27, (1, 0, 0, 0, 0, [])), (28, (33, 9, 7, 0, 0, [])), (31, (0, 2, 0, 0, 0, [])), (32, (0, 6, 0, 0, 0, [])), (34, (46, 21, 31, 0, 0, [])), (37, (0, 4, 0, 0, 0, [])), (39, (46, 25, 64, 0, 0, [])), (42, (20, 97, 0, 0, 0, [])), (45, (1, 0, 0, 0, 0, [])), (46, (1, 1, 0, 0, 0, [])), (47, (1, 0, 0, 0, 0, [])), (48, (33, 9, 7, 0, 0, [])), (51, (0, 3, 0, 0, 0, [])), (52, (0, 6, 0, 0, 0, [])), (54, (46, 21, 31, 0, 0, [])), (57, (0, 4, 0, 0, 0, [])), (59, (46, 25, 64, 0, 0, [])), (62, (20, 97, 0, 0, 0, [])), (65, (0, 5, 0, 0, 0, [])), (67, (1, 0, 0, 0, 0, [])), (68, (1, 1, 0, 0, 0, [])), (69, (1, 0, 0, 0, 0, [])), (70, (33, 9, 7, 0, 0, [])), (73, (33, 29, 3, 7, 0, [])), (76, (0, 2, 0, 0, 0, [])), (77, (38, 0, 0, 0, 0, [])), (78, (1, 0, 0, 0, 0, [])), (79, (33, 9, 7, 0, 0, [])), (82, (33, 29, 3, 7, 0, [])), (85, (0, 3, 0, 0, 0, [])), (86, (38, 0, 0, 0, 0, [])), (87, (0, 6, 0, 0, 0, [])), (89, (0, 4, 0, 0, 0, [])), (91, (46, 33, 63, 0, 0, [])), (94, (8, 0, 0, 0, 0, [])), (95, (2, 5, 0, 0, 0, [])), (97, (13, 6, 0, 0, 1, [])), (100, (19, 13, 0, 0, 0, [])), (103, (0, 5, 0, 0, 0, [])), (105, (52, 1, 0, 0, 0, []))]
def C_63 : List (Nat × Op) := [(0, (0, 2, 0, 0, 0, [])), (1, (0, 3, 0, 0, 0, [])), (2, (27, 7, 0, 0, 0, [])), (5, (4, 0, 0, 0, 1, [])), (6, (52, 1, 0, 0, 0, [])), (7, (4, 0, 0, 0, 0, [])), (8, (2, 6, 0, 0, 0, [])), (10, (4, 0, 0, 0, 0, [])), (11, (2, 7, 0, 0, 0, [])), (13, (0, 7, 0, 0, 0, [])), (15, (1, 0, 0, 0, 0, [])), (16, (33, 9, 7, 0, 0, [])), (19, (32, 15, 3, 1, 0, [])), (22, (29, 92, 0, 0, 0, [])), (25, (1, 0, 0, 0, 0, [])), (26, (1, 1, 0, 0, 0, [])), (27, (1, 0, 0, 0, 0, [])), (28, (33, 9, 7, 0, 0, [])), (31, (1, 0, 0, 0, 0, [])), (32, (33, 9, 7, 0, 0, [])), (35, (0, 2, 0, 0, 0, [])), (36, (0, 4, 0, 0, 0, [])), (38, (46, 37, 29, 0, 0, [])), (41, (0, 7, 0, 0, 0, [])), (43, (46, 21, 31, 0, 0, [])), (46, (0, 5, 0, 0, 0, [])), (48, (46, 25, 64, 0, 0, [])), (51, (20, 86, 0, 0, 0, [])), (54, (1, 0, 0, 0, 0, [])), (55, (1, 1, 0, 0, 0, [])), (56, (1, 0, 0, 0, 0, [])), (57, (33, 9, 7, 0, 0, [])), (60, (1, 0, 0, 0, 0, [])), (61, (33, 9, 7, 0, 0, [])), (64, (0, 3, 0, 0, 0, [])), (65, (0, 4, 0, 0, 0, [])), (67, (46, 37, 29, 0, 0, [])), (70, (0, 7, 0, 0, 0, [])), (72, (46, 21, 31, 0, 0, [])), (75, (0, 5, 0, 0, 0, [])), (77, (46, 25, 64, 0, 0, [])), (80, (20, 86, 0, 0, 0, [])), (83, (13, 6, 0, 0, 1, [])), (86, (13, 7, 0, 0, 1, [])), (89, (19, 13, 0, 0, 0, [])), (92, (0, 6, 0, 0, 0, [])), (94, (52, 1, 0, 0, 0, []))]
def C_64 : List (Nat × Op) := [(0, (0, 2, 0, 0, 0, [])), (1, (0, 3, 0, 0, 0, [])), (2, (26, 17, 0, 0, 0, [])), (5, (1, 1, 0, 0, 0, [])), (6, (0, 2, 0, 0, 0, [])), (7, (46, 40, 49, 0, 0, [])), (10, (20, 17, 0, 0, 0, [])), (13, (4, 0, 0, 0, 1, [])), (14, (19, 18, 0, 0, 0, [])), (17, (4, 0, 0, 0, 0, [])), (18, (52, 2, 0, 0, 0, []))]
def C_65 : List (Nat × Op) := [(0, (1, 0, 0, 0, 0, [])), (1, (33, 9, 7, 0, 0, [])), (4, (32, 15, 3, 1, 0, [])), (7, (0, 1, 0, 0, 0, [])), (8, (0, 2, 0, 0, 0, [])), (9, (27, 24, 0, 0, 0, [])), (12, (1, 0, 0, 0, 0, [])), (13, (33, 9, 7, 0, 0, [])), (16, (32, 15, 3, 1, 0, [])), (19, (4, 0, 0, 0, 1, [])), (20, (9, 0, 0, 0, 0, [])), (21, (19, 31, 0, 0, 0, [])), (24, (1, 0, 0, 0, 0, [])), (25, (33, 9, 7, 0, 0, [])), (28, (32, 15, 3, 1, 0, [])), (31, (10, 0, 0, 0, 0, [])), (32, (52, 1, 0, 0, 0, []))]
def C_66 : List (Nat × Op) := [(0, (4, 0, 0, 0, 0, [])), (1, (2, 3, 0, 0, 0, [])), (2, (4, 0, 0, 0, 0, [])), (3, (2, 4, 0, 0, 0, [])), (5, (0, 4, 0, 0, 0, [])), (7, (1, 0, 0, 0, 0, [])), (8, (33, 9, 7, 0, 0, [])), (11, (32, 46, 3, 2, 0, [])), (14, (29, 68, 0, 0, 0, [])), (17, (4, 0, 0, 0, 0, [])), (18, (2, 5, 0, 0, 0, [])), (20, (0, 5, 0, 0, 0, [])), (22, (1, 0, 0, 0, 0, [])), (23, (33, 9, 7, 0, 0, [])), (26, (32, 46, 3, 2, 0, [])), (29, (29, 62, 0, 0, 0, [])), (32, (1, 0, 0, 0, 0, [])), (33, (1, 1, 0, 0, 0, [])), (34, (0, 4, 0, 0, 0, [])), (36, (0, 5, 0, 0, 0, [])), (38, (0, 2, 0, 0, 0, [])), (39, (46, 49, 62, 0, 0, [])), (42, (25, 56, 0, 0, 0, [])), (45, (0, 3, 0, 0, 0, [])), (46, (1, 0, 0, 0, 0, [])), (47, (0, 4, 0, 0, 0, [])), (49, (0, 5, 0, 0, 0, [])), (51, (46, 53, 65, 0, 0, [])), (54, (8, 0, 0, 0, 0, [])), (55, (2, 3, 0, 0, 0, [])), (56, (13, 5, 0, 0, 1, [])), (59, (19, 20, 0, 0, 0, [])), (62, (13, 4, 0, 0, 1, [])), (65, (19, 5, 0, 0, 0, [])), (68, (0, 3, 0, 0, 0, [])), (69, (52, 1, 0, 0, 0, []))]
def C_67 : List (Nat × Op) := [(0, (1, 0, 0, 0, 0, [])), (1, (5, 0, 0, 0, -4, [])), (3, (34, 56, 7, 1, 0, [])), (6, (1, 0, 0, 0, 0, [])), (7, (5, 0, 0, 0, -4, [])), (9, (34, 59, 7, 2, 0, [])), (12, (4, 0, 0, 0, 0, [])), (13, (2, 2, 0, 0, 0, [])), (14, (0, 2, 0, 0, 0, [])), (15, (1, 0, 0, 0, 0, [])), (16, (33, 9, 7, 0, 0, [])), (19, (32, 46, 3, 2, 0, [])), (22, (29, 110, 0, 0, 0, [])), (25, (4, 0, 0, 0, 0, [])), (26, (2, 3, 0, 0, 0, [])), (27, (0, 3, 0, 0, 0, [])), (28, (1, 0, 0, 0, 0, [])), (29, (33, 9, 7, 0, 0, [])), (32, (32, 46, 3, 2, 0, [])), (35, (29, 104, 0, 0, 0, [])), (38, (1, 0, 0, 0, 0, [])), (39, (0, 2, 0, 0, 0, [])), (40, (0, 3, 0, 0, 0, [])), (41, (46, 53, 65, 0, 0, [])), (44, (25, 98, 0, 0, 0, [])), (47, (1, 0, 0, 0, 0, [])), (48, (1, 1, 0, 0, 0, [])), (49, (0, 2, 0, 0, 0, [])), (50, (0, 3, 0, 0, 0, [])), (51, (5, 0, 0, 0, -4, [])), (53, (46, 49, 62, 0, 0, [])), (56, (2, 4, 0, 0, 0, [])), (58, (1, 0, 0, 0, 0, [])), (59, (1, 0, 0, 0, 0, [])), (60, (32, 56, 7, 1, 0, [])), (63, (5, 0, 0, 0, -4, [])), (65, (27, 73, 0, 0, 0, [])), (68, (0, 4, 0, 0, 0, [])), (70, (19, 82, 0, 0, 0, [])), (73, (1, 0, 0, 0, 0, [])), (74, (32, 56, 7, 1, 0, [])), (77, (0, 4, 0, 0, 0, [])), (79, (62, 62, 0, 0, 0, [])), (82, (34, 56, 7, 1, 0, [])), (85, (1, 0, 0, 0, 0, [])), (86, (1, 0, 0, 0, 0, [])), (87, (32, 59, 7, 2, 0, [])), (90, (0, 4, 0, 0, 0, [])), (92, (61, 67, 0, 0, 0, [])), (95, (34, 59, 7, 2, 0, [])), (98, (13, 3, 0, 0, 1, [])), (101, (19, 27, 0, 0, 0, [])), (104, (13, 2, 0, 0, 1, [])), (107, (19, 14, 0, 0, 0, [])), (110, (53, 0, 0, 0, 0, []))]
def C_68 : List (Nat × Op) := [(0, (1, 0, 0, 0, 0, [])), (1, (49, 3, 0, 0, 0, [])), (4, (1, 0, 0, 0, 0, [])), (5, (45, 9, 2, 4, 0, [])), (8, (16, 0, 0, 0, 0, [])), (9, (59, 11, 11, 0, 0, [])), (12, (37, 12, 8, 0, 0, [])), (15, (1, 0, 0, 0, 0, [])), (16, (45, 16, 3, 14, 0, [])), (19, (16, 0, 0, 0, 0, [])), (20, (59, 18, 23, 0, 0, [])), (23, (37, 19, 8, 1, 0, [])), (26, (1, 0, 0, 0, 0, [])), (27, (45, 23, 1, 5, 0, [])), (30, (16, 0, 0, 0, 0, [])), (31, (1, 0, 0, 0, 0, [])), (32, (33, 19, 8, 1, 0, [])), (35, (48, 25, 5, 0, 0, [])), (38, (37, 28, 8, 2, 0, [])), (41, (1, 0, 0, 0, 0, [])), (42, (45, 32, 6, 2, 0, [])), (45, (16, 0, 0, 0, 0, [])), (46, (1, 0, 0, 0, 0, [])), (47, (33, 19, 8, 1, 0, [])), (50, (48, 34, 58, 0, 0, [])), (53, (37, 35, 8, 3, 0, [])), (56, (1, 0, 0, 0, 0, [])), (57, (45, 39, 7, 3, 0, [])), (60, (16, 0, 0, 0, 0, [])), (61, (1, 0, 0, 0, 0, [])), (62, (33, 19, 8, 1, 0, [])), (65, (48, 41, 61, 0, 0, [])), (68, (37, 42, 8, 4, 0, [])), (71, (1, 0, 0, 0, 0, [])), (72, (45, 46, 0, 5, 0, [])), (75, (16, 0, 0, 0, 0, [])), (76, (1, 0, 0, 0, 0, [])), (77, (33, 19, 8, 1, 0, [])), (80, (1, 0, 0, 0, 0, [])), (81, (33, 28, 8, 2, 0, [])), (84, (48, 48, 0, 0, 0, [])), (87, (37, 51, 8, 5, 0, [])), (90, (1, 0, 0, 0, 0, [])), (91, (45, 55, 4, 5, 0, [])), (94, (16, 0, 0, 0, 0, [])), (95, (1, 0, 0, 0, 0, [])), (96, (33, 19, 8, 1, 0, [])), (99, (1, 0, 0, 0, 0, [])), (100, (33, 28, 8, 2, 0, [])), (103, (48, 57, 35, 0, 0, [])), (106, (37, 58, 8, 6, 0, [])), (109, (1, 0, 0, 0, 0, [])), (110, (45, 62, 5, 9, 0, [])), (113, (16, 0, 0, 0, 0, [])), (114, (59, 64, 45, 0, 0, [])), (117, (36, 65, 8, 7, 0, [])), (120, (1, 0, 0, 0, 0, [])), (121, (45, 62, 5, 9, 0, [])), (124, (16, 0, 0, 0, 0, [])), (125, (59, 64, 45, 0, 0, [])), (128, (36, 69, 8, 8, 0, [])), (131, (1, 0, 0, 0, 0, [])), (132, (45, 62, 5, 9, 0, [])), (135, (16, 0, 0, 0, 0, [])), (136, (59, 64, 45, 0, 0, [])), (139, (36, 72, 8, 9, 0, [])), (142, (1, 0, 0, 0, 0, [])), (143, (45, 62, 5, 9, 0, [])), (146, (16, 0, 0, 0, 0, [])), (147, (59, 64, 45, 0, 0, [])), (150, (36, 75, 8, 10, 0, [])), (153, (4, 0, 0, 0, 0, [])), (154, (2, 1, 0, 0, 0, [])), (155, (0, 1, 0, 0, 0, [])), (156, (54, 78, 0, 0, 0, [])), (158, (55, 80, 0, 0, 0, [])), (161, (29, 184, 0, 0, 0, [])), (164, (1, 0, 0, 0, 0, [])), (165, (33, 12, 8, 0, 0, [])), (168, (54, 78, 0, 0, 0, [])), (170, (0, 1, 0, 0, 0, [])), (171, (56, 86, 0, 0, 0, [])), (174, (46, 90, 12, 0, 0, [])), (177, (18, 0, 0, 0, 0, [])), (178, (13, 1, 0, 0, 1, [])), (181, (19, 155, 0, 0, 0, [])), (184, (1, 0, 0, 0, 0, [])), (185, (46, 94, 106, 0, 0, [])), (188, (18, 0, 0, 0, 0, [])), (189, (1, 0, 0, 0, 0, [])), (190, (33, 12, 8, 0, 0, [])), (193, (4, 0, 0, 0, 0, [])), (194, (34, 98, 2, 1, 0, [])), (197, (53, 0, 0, 0, 0, []))]
def C_69 : List (Nat × Op) := [(0, (0, 1, 0, 0, 0, [])), (1, (5, 0, 0, 0, 32, [])), (3, (28, 12, 0, 0, 0, [])), (6, (0, 1, 0, 0, 0, [])), (7, (5, 0, 0, 0, 126, [])), (9, (31, 14, 0, 0, 0, [])), (12, (4, 0, 0, 0, -1, [])), (13, (52, 1, 0, 0, 0, [])), (14, (1, 0, 0, 0, 0, [])), (15, (33, 12, 8, 0, 0, [])), (18, (0, 1, 0, 0, 0, [])), (19, (15, 0, 0, 0, 0, [])), (20, (46, 90, 12, 0, 0, [])), (23, (20, 36, 0, 0, 0, [])), (26, (1, 0, 0, 0, 0, [])), (27, (33, 12, 8, 0, 0, [])), (30, (32, 98, 2, 1, 0, [])), (33, (19, 38, 0, 0, 0, [])), (36, (5, 0, 0, 0, -3, [])), (38, (52, 1, 0, 0, 0, []))]
def C_70 : List (Nat × Op) := [(0, (1, 0, 0, 0, 0, [])), (1, (33, 12, 8, 0, 0, [])), (4, (32, 98, 2, 1, 0, [])), (7, (2, 1, 0, 0, 0, [])), (8, (1, 0, 0, 0, 0, [])), (9, (33, 12, 8, 0, 0, [])), (12, (4, 0, 0, 0, 0, [])), (13, (34, 98, 2, 1, 0, [])), (16, (0, 1, 0, 0, 0, [])), (17, (52, 1, 0, 0, 0, []))]
def C_71 : List (Nat × Op) := [(0, (1, 0, 0, 0, 0, [])), (1, (33, 12, 8, 0, 0, [])), (4, (1, 0, 0, 0, 0, [])), (5, (33, 75, 8, 10, 0, [])), (8, (46, 101, 13, 0, 0, [])), (11, (52, 1, 0, 0, 0, []))]
def C_72 : List (Nat × Op) := [(0, (1, 0, 0, 0, 0, [])), (1, (46, 94, 106, 0, 0, [])), (4, (20, 17, 0, 0, 0, [])), (7, (1, 0, 0, 0, 0, [])), (8, (33, 19, 8, 1, 0, [])), (11, (32, 105, 3, 3, 0, [])), (14, (19, 19, 0, 0, 0, [])), (17, (5, 0, 0, 0, -2, [])), (19, (52, 1, 0, 0, 0, []))]
def C_73 : List (Nat × Op) := [(0, (1, 0, 0, 0, 0, [])), (1, (33, 19, 8, 1, 0, [])), (4, (32, 108, 3, 0, 0, [])), (7, (0, 1, 0, 0, 0, [])), (8, (0, 2, 0, 0, 0, [])), (9, (0, 3, 0, 0, 0, [])), (10, (47, 111, 105, 0, 0, [])), (13, (52, 1, 0, 0, 0, []))]
def C_74 : List (Nat × Op) := [(0, (1, 0, 0, 0, 0, [])), (1, (0, 1, 0, 0, 0, [])), (2, (46, 115, 99, 0, 0, [])), (5, (21, 10, 0, 0, 0, [])), (8, (4, 0, 0, 0, -1, [])), (9, (52, 1, 0, 0, 0, [])), (10, (0, 2, 0, 0, 0, [])), (11, (51, 91, 0, 0, 0, [44, 54, 64, 74, 84])), (44, (1, 0, 0, 0, 0, [])), (45, (33, 19, 8, 1, 0, [])), (48, (33, 119, 3, 6, 0, [])), (51, (0, 1, 0, 0, 0, [])), (52, (38, 0, 0, 0, 0, [])), (53, (52, 1, 0, 0, 0, [])), (54, (1, 0, 0, 0, 0, [])), (55, (33, 19, 8, 1, 0, [])), (58, (33, 123, 3, 7, 0, [])), (61, (0, 1, 0, 0, 0, [])), (62, (38, 0, 0, 0, 0, [])), (63, (52, 1, 0, 0, 0, [])), (64, (1, 0, 0, 0, 0, [])), (65, (33, 19, 8, 1, 0, [])), (68, (33, 126, 3, 8, 0, [])), (71, (0, 1, 0, 0, 0, [])), (72, (38, 0, 0, 0, 0, [])), (73, (52, 1, 0, 0, 0, [])), (74, (1, 0, 0, 0, 0, [])), (75, (33, 19, 8, 1, 0, [])), (78, (33, 129, 3, 9, 0, [])), (81, (0, 1, 0, 0, 0, [])), (82, (38, 0, 0, 0, 0, [])), (83, (52, 1, 0, 0, 0, [])), (84, (1, 0, 0, 0, 0, [])), (85, (0, 1, 0, 0, 0, [])), (86, (4, 0, 0, 0, 0, [])), (87, (46, 132, 111, 0, 0, [])), (90, (52, 1, 0, 0, 0, [])), (91, (4, 0, 0, 0, -1, [])), (92, (52, 1, 0, 0, 0, []))]
def C_75 : List (Nat × Op) := [(0, (1, 0, 0, 0, 0, [])), (1, (0, 1, 0, 0, 0, [])), (2, (46, 136, 100, 0, 0, [])), (5, (21, 10, 0, 0, 0, [])), (8, (4, 0, 0, 0, -1, [])), (9, (52, 1, 0, 0, 0, [])), (10, (0, 2, 0, 0, 0, [])), (11, (51, 87, 0, 0, 0, [40, 50, 60, 77])), (40, (1, 0, 0, 0, 0, [])), (41, (33, 19, 8, 1, 0, [])), (44, (33, 139, 3, 10, 0, [])), (47, (0, 1, 0, 0, 0, [])), (48, (38, 0, 0, 0, 0, [])), (49, (52, 1, 0, 0, 0, [])), (50, (1, 0, 0, 0, 0, [])), (51, (33, 19, 8, 1, 0, [])), (54, (33, 142, 3, 11, 0, [])), (57, (0, 1, 0, 0, 0, [])), (58, (38, 0, 0, 0, 0, [])), (59, (52, 1, 0, 0, 0, [])), (60, (1, 0, 0, 0, 0, [])), (61, (33, 65, 8, 7, 0, [])), (64, (0, 1, 0, 0, 0, [])), (65, (46, 145, 49, 0, 0, [])), (68, (20, 75, 0, 0, 0, [])), (71, (4, 0, 0, 0, 0, [])), (72, (19, 76, 0, 0, 0, [])), (75, (4, 0, 0, 0, 1, [])), (76, (52, 1, 0, 0, 0, [])), (77, (1, 0, 0, 0, 0, [])), (78, (33, 65, 8, 7, 0, [])), (81, (33, 148, 5, 0, 0, [])), (84, (0, 1, 0, 0, 0, [])), (85, (38, 0, 0, 0, 0, [])), (86, (52, 1, 0, 0, 0, [])), (87, (4, 0, 0, 0, -1, [])), (88, (52, 1, 0, 0, 0, []))]
def C_76 : List (Nat × Op) := [(0, (1, 0, 0, 0, 0, [])), (1, (0, 1, 0, 0, 0, [])), (2, (46, 136, 100, 0, 0, [])), (5, (20, 17, 0, 0, 0, [])), (8, (0, 2, 0, 0, 0, [])), (9, (22, 17, 0, 0, 0, [])), (12, (0, 2, 0, 0, 0, [])), (13, (4, 0, 0, 0, 1, [])), (14, (31, 19, 0, 0, 0, [])), (17, (4, 0, 0, 0, -1, [])), (18, (52, 1, 0, 0, 0, [])), (19, (1, 0, 0, 0, 0, [])), (20, (33, 65, 8, 7, 0, [])), (23, (0, 1, 0, 0, 0, [])), (24, (46, 145, 49, 0, 0, [])), (27, (0, 2, 0, 0, 0, [])), (28, (21, 35, 0, 0, 0, [])), (31, (4, 0, 0, 0, 1, [])), (32, (19, 36, 0, 0, 0, [])), (35, (4, 0, 0, 0, 0, [])), (36, (27, 42, 0, 0, 0, [])), (39, (5, 0, 0, 0, -2, [])), (41, (52, 1, 0, 0, 0, [])), (42, (1, 0, 0, 0, 0, [])), (43, (46, 151, 107, 0, 0, [])), (46, (1, 0, 0, 0, 0, [])), (47, (0, 1, 0, 0, 0, [])), (48, (46, 154, 109, 0, 0, [])), (51, (1, 0, 0, 0, 0, [])), (52, (46, 158, 108, 0, 0, [])), (55, (1, 0, 0, 0, 0, [])), (56, (33, 65, 8, 7, 0, [])), (59, (33, 148, 5, 0, 0, [])), (62, (0, 1, 0, 0, 0, [])), (63, (38, 0, 0, 0, 0, [])), (64, (52, 1, 0, 0, 0, []))]
def C_77 : List (Nat × Op) := [(0, (1, 0, 0, 0, 0, [])), (1, (0, 1, 0, 0, 0, [])), (2, (46, 115, 99, 0, 0, [])), (5, (20, 17, 0, 0, 0, [])), (8, (1, 0, 0, 0, 0, [])), (9, (0, 1, 0, 0, 0, [])), (10, (4, 0, 0, 0, 0, [])), (11, (46, 161, 112, 0, 0, [])), (14, (19, 18, 0, 0, 0, [])), (17, (4, 0, 0, 0, -1, [])), (18, (52, 1, 0, 0, 0, []))]
def C_78 : List (Nat × Op) := [(0, (1, 0, 0, 0, 0, [])), (1, (0, 1, 0, 0, 0, [])), (2, (46, 115, 99, 0, 0, [])), (5, (20, 17, 0, 0, 0, [])), (8, (1, 0, 0, 0, 0, [])), (9, (0, 1, 0, 0, 0, [])), (10, (4, 0, 0, 0, 1, [])), (11, (46, 161, 112, 0, 0, [])), (14, (19, 18, 0, 0, 0, [])), (17, (4, 0, 0, 0, -1, [])), (18, (52, 1, 0, 0, 0, []))]
def C_79 : List (Nat × Op) := [(0, (0, 1, 0, 0, 0, [])), (1, (4, 0, 0, 0, 1, [])), (2, (28, 11, 0, 0, 0, [])), (5, (0, 1, 0, 0, 0, [])), (6, (5, 0, 0, 0, 9, [])), (8, (31, 13, 0, 0, 0, [])), (11, (4, 0, 0, 0, -1, [])), (12, (52, 1, 0, 0, 0, [])), (13, (1, 0, 0, 0, 0, [])), (14, (46, 151, 107, 0, 0, [])), (17, (1, 0, 0, 0, 0, [])), (18, (33, 35, 8, 3, 0, [])), (21, (1, 0, 0, 0, 0, [])), (22, (33, 65, 8, 7, 0, [])), (25, (0, 1, 0, 0, 0, [])), (26, (46, 164, 59, 0, 0, [])), (29, (2, 2, 0, 0, 0, [])), (30, (0, 2, 0, 0, 0, [])), (31, (25, 38, 0, 0, 0, [])), (34, (1, 0, 0, 0, 0, [])), (35, (46, 158, 108, 0, 0, [])), (38, (0, 2, 0, 0, 0, [])), (39, (52, 1, 0, 0, 0, []))]
def C_80 : List (Nat × Op) := [(0, (1, 0, 0, 0, 0, [])), (1, (0, 1, 0, 0, 0, [])), (2, (46, 115, 99, 0, 0, [])), (5, (20, 28, 0, 0, 0, [])), (8, (1, 0, 0, 0, 0, [])), (9, (0, 2, 0, 0, 0, [])), (10, (46, 136, 100, 0, 0, [])), (13, (20, 28, 0, 0, 0, [])), (16, (1, 0, 0, 0, 0, [])), (17, (33, 65, 8, 7, 0, [])), (20, (0, 1, 0, 0, 0, [])), (21, (0, 2, 0, 0, 0, [])), (22, (46, 168, 51, 0, 0, [])), (25, (19, 29, 0, 0, 0, [])), (28, (4, 0, 0, 0, -1, [])), (29, (52, 1, 0, 0, 0, []))]
def C_81 : List (Nat × Op) := [(0, (4, 0, 0, 0, 0, [])), (1, (2, 1, 0, 0, 0, [])), (2, (4, 0, 0, 0, 0, [])), (3, (2, 2, 0, 0, 0, [])), (4, (0, 2, 0, 0, 0, [])), (5, (1, 0, 0, 0, 0, [])), (6, (33, 19, 8, 1, 0, [])), (9, (32, 172, 3, 5, 0, [])), (12, (29, 32, 0, 0, 0, [])), (15, (0, 1, 0, 0, 0, [])), (16, (1, 0, 0, 0, 0, [])), (17, (33, 65, 8, 7, 0, [])), (20, (0, 2, 0, 0, 0, [])), (21, (46, 175, 55, 0, 0, [])), (24, (8, 0, 0, 0, 0, [])), (25, (2, 1, 0, 0, 0, [])), (26, (13, 2, 0, 0, 1, [])), (29, (19, 4, 0, 0, 0, [])), (32, (0, 1, 0, 0, 0, [])), (33, (52, 1, 0, 0, 0, []))]
def C_82 : List (Nat × Op) := [(0, (1, 0, 0, 0, 0, [])), (1, (32, 179, 8, 11, 0, [])), (4, (4, 0, 0, 0, 1, [])), (5, (29, 11, 0, 0, 0, [])), (8, (5, 0, 0, 0, -2, [])), (10, (52, 1, 0, 0, 0, [])), (11, (1, 0, 0, 0, 0, [])), (12, (33, 65, 8, 7, 0, [])), (15, (3, 1, 0, 0, 0, [])), (16, (1, 0, 0, 0, 0, [])), (17, (1, 0, 0, 0, 0, [])), (18, (33, 69, 8, 8, 0, [])), (21, (36, 65, 8, 7, 0, [])), (24, (1, 0, 0, 0, 0, [])), (25, (1, 0, 0, 0, 0, [])), (26, (33, 72, 8, 9, 0, [])), (29, (36, 69, 8, 8, 0, [])), (32, (1, 0, 0, 0, 0, [])), (33, (1, 1, 0, 0, 0, [])), (34, (36, 72, 8, 9, 0, [])), (37, (1, 0, 0, 0, 0, [])), (38, (16, 0, 0, 0, 0, [])), (39, (32, 179, 8, 11, 0, [])), (42, (4, 0, 0, 0, 1, [])), (43, (9, 0, 0, 0, 0, [])), (44, (34, 179, 8, 11, 0, [])), (47, (1, 0, 0, 0, 0, [])), (48, (32, 179, 8, 11, 0, [])), (51, (52, 1, 0, 0, 0, []))]
def C_83 : List (Nat × Op) := [(0, (1, 0, 0, 0, 0, [])), (1, (0, 1, 0, 0, 0, [])), (2, (46, 115, 99, 0, 0, [])), (5, (20, 41, 0, 0, 0, [])), (8, (1, 0, 0, 0, 0, [])), (9, (0, 2, 0, 0, 0, [])), (10, (46, 182, 101, 0, 0, [])), (13, (20, 41, 0, 0, 0, [])), (16, (1, 0, 0, 0, 0, [])), (17, (0, 3, 0, 0, 0, [])), (18, (46, 185, 103, 0, 0, [])), (21, (20, 41, 0, 0, 0, [])), (24, (1, 0, 0, 0, 0, [])), (25, (33, 28, 8, 2, 0, [])), (28, (1, 0, 0, 0, 0, [])), (29, (33, 65, 8, 7, 0, [])), (32, (0, 1, 0, 0, 0, [])), (33, (0, 2, 0, 0, 0, [])), (34, (0, 3, 0, 0, 0, [])), (35, (46, 188, 8, 0, 0, [])), (38, (19, 42, 0, 0, 0, [])), (41, (4, 0, 0, 0, -1, [])), (42, (52, 1, 0, 0, 0, []))]
def C_84 : List (Nat × Op) := [(0, (1, 0, 0, 0, 0, [])), (1, (0, 1, 0, 0, 0, [])), (2, (0, 2, 0, 0, 0, [])), (3, (46, 192, 102, 0, 0, [])), (6, (20, 23, 0, 0, 0, [])), (9, (1, 0, 0, 0, 0, [])), (10, (0, 3, 0, 0, 0, [])), (11, (46, 185, 103, 0, 0, [])), (14, (20, 23, 0, 0, 0, [])), (17, (0, 4, 0, 0, 0, [])), (19, (4, 0, 0, 0, -1, [])), (20, (29, 25, 0, 0, 0, [])), (23, (4, 0, 0, 0, -1, [])), (24, (52, 1, 0, 0, 0, [])), (25, (1, 0, 0, 0, 0, [])), (26, (33, 28, 8, 2, 0, [])), (29, (1, 0, 0, 0, 0, [])), (30, (33, 65, 8, 7, 0, [])), (33, (1, 0, 0, 0, 0, [])), (34, (33, 19, 8, 1, 0, [])), (37, (33, 196, 3, 12, 0, [])), (40, (0, 1, 0, 0, 0, [])), (41, (38, 0, 0, 0, 0, [])), (42, (0, 2, 0, 0, 0, [])), (43, (0, 3, 0, 0, 0, [])), (44, (46, 199, 6, 0, 0, [])), (47, (0, 4, 0, 0, 0, [])), (49, (4, 0, 0, 0, -1, [])), (50, (27, 61, 0, 0, 0, [])), (53, (1, 0, 0, 0, 0, [])), (54, (33, 28, 8, 2, 0, [])), (57, (32, 203, 1, 3, 0, [])), (60, (52, 1, 0, 0, 0, [])), (61, (0, 4, 0, 0, 0, [])), (63, (1, 0, 0, 0, 0, [])), (64, (33, 28, 8, 2, 0, [])), (67, (32, 203, 1, 3, 0, [])), (70, (29, 86, 0, 0, 0, [])), (73, (1, 0, 0, 0, 0, [])), (74, (33, 28, 8, 2, 0, [])), (77, (33, 206, 1, 1, 0, [])), (80, (0, 4, 0, 0, 0, [])), (82, (38, 0, 0, 0, 0, [])), (83, (19, 88, 0, 0, 0, [])), (86, (5, 0, 0, 0, -4, [])), (88, (52, 1, 0, 0, 0, []))]
def C_85 : List (Nat × Op) := [(0, (1, 0, 0, 0, 0, [])), (1, (0, 1, 0, 0, 0, [])), (2, (0, 2, 0, 0, 0, [])), (3, (46, 192, 102, 0, 0, [])), (6, (20, 17, 0, 0, 0, [])), (9, (1, 0, 0, 0, 0, [])), (10, (0, 3, 0, 0, 0, [])), (11, (46, 185, 103, 0, 0, [])), (14, (21, 19, 0, 0, 0, [])), (17, (4, 0, 0, 0, -1, [])), (18, (52, 1, 0, 0, 0, [])), (19, (1, 0, 0, 0, 0, [])), (20, (33, 28, 8, 2, 0, [])), (23, (1, 0, 0, 0, 0, [])), (24, (33, 65, 8, 7, 0, [])), (27, (1, 0, 0, 0, 0, [])), (28, (33, 19, 8, 1, 0, [])), (31, (33, 196, 3, 12, 0, [])), (34, (0, 1, 0, 0, 0, [])), (35, (38, 0, 0, 0, 0, [])), (36, (0, 2, 0, 0, 0, [])), (37, (0, 3, 0, 0, 0, [])), (38, (46, 199, 6, 0, 0, [])), (41, (1, 0, 0, 0, 0, [])), (42, (33, 28, 8, 2, 0, [])), (45, (32, 209, 1, 4, 0, [])), (48, (20, 55, 0, 0, 0, [])), (51, (4, 0, 0, 0, 1, [])), (52, (19, 56, 0, 0, 0, [])), (55, (4, 0, 0, 0, 0, [])), (56, (52, 1, 0, 0, 0, []))]
def C_86 : List (Nat × Op) := [(0, (1, 0, 0, 0, 0, [])), (1, (0, 1, 0, 0, 0, [])), (2, (0, 2, 0, 0, 0, [])), (3, (46, 192, 102, 0, 0, [])), (6, (20, 43, 0, 0, 0, [])), (9, (1, 0, 0, 0, 0, [])), (10, (33, 42, 8, 4, 0, [])), (13, (1, 0, 0, 0, 0, [])), (14, (33, 65, 8, 7, 0, [])), (17, (1, 0, 0, 0, 0, [])), (18, (33, 19, 8, 1, 0, [])), (21, (33, 196, 3, 12, 0, [])), (24, (0, 1, 0, 0, 0, [])), (25, (38, 0, 0, 0, 0, [])), (26, (1, 0, 0, 0, 0, [])), (27, (33, 19, 8, 1, 0, [])), (30, (33, 196, 3, 12, 0, [])), (33, (0, 2, 0, 0, 0, [])), (34, (38, 0, 0, 0, 0, [])), (35, (5, 0, 0, 0, -4, [])), (37, (46, 213, 62, 0, 0, [])), (40, (19, 44, 0, 0, 0, [])), (43, (4, 0, 0, 0, -1, [])), (44, (52, 1, 0, 0, 0, []))]
def C_87 : List (Nat × Op) := [(0, (0, 1, 0, 0, 0, [])), (1, (51, 103, 0, 0, 0, [32, 46, 65, 84])), (32, (1, 0, 0, 0, 0, [])), (33, (33, 42, 8, 4, 0, [])), (36, (1, 0, 0, 0, 0, [])), (37, (33, 65, 8, 7, 0, [])), (40, (5, 0, 0, 0, -4, [])), (42, (46, 216, 66, 0, 0, [])), (45, (52, 1, 0, 0, 0, [])), (46, (1, 0, 0, 0, 0, [])), (47, (33, 51, 8, 5, 0, [])), (50, (1, 0, 0, 0, 0, [])), (51, (33, 65, 8, 7, 0, [])), (54, (46, 219, 1, 0, 0, [])), (57, (1, 0, 0, 0, 0, [])), (58, (33, 51, 8, 5, 0, [])), (61, (32, 223, 0, 4, 0, [])), (64, (52, 1, 0, 0, 0, [])), (65, (1, 0, 0, 0, 0, [])), (66, (33, 42, 8, 4, 0, [])), (69, (1, 0, 0, 0, 0, [])), (70, (33, 65, 8, 7, 0, [])), (73, (46, 226, 67, 0, 0, [])), (76, (1, 0, 0, 0, 0, [])), (77, (33, 42, 8, 4, 0, [])), (80, (32, 229, 7, 1, 0, [])), (83, (52, 1, 0, 0, 0, [])), (84, (1, 0, 0, 0, 0, [])), (85, (33, 42, 8, 4, 0, [])), (88, (1, 0, 0, 0, 0, [])), (89, (33, 65, 8, 7, 0, [])), (92, (46, 226, 67, 0, 0, [])), (95, (1, 0, 0, 0, 0, [])), (96, (33, 42, 8, 4, 0, [])), (99, (32, 232, 7, 2, 0, [])), (102, (52, 1, 0, 0, 0, [])), (103, (4, 0, 0, 0, -1, [])), (104, (52, 1, 0, 0, 0, []))]
def C_88 : List (Nat × Op) := [(0, (1, 0, 0, 0, 0, [])), (1, (0, 1, 0, 0, 0, [])), (2, (46, 136, 100, 0, 0, [])), (5, (20, 37, 0, 0, 0, [])), (8, (1, 0, 0, 0, 0, [])), (9, (33, 42, 8, 4, 0, [])), (12, (1, 0, 0, 0, 0, [])), (13, (33, 65, 8, 7, 0, [])), (16, (5, 0, 0, 0, -4, [])), (18, (46, 216, 66, 0, 0, [])), (21, (1, 0, 0, 0, 0, [])), (22, (33, 42, 8, 4, 0, [])), (25, (1, 0, 0, 0, 0, [])), (26, (33, 65, 8, 7, 0, [])), (29, (0, 1, 0, 0, 0, [])), (30, (46, 216, 66, 0, 0, [])), (33, (9, 0, 0, 0, 0, [])), (34, (19, 38, 0, 0, 0, [])), (37, (4, 0, 0, 0, -1, [])), (38, (52, 1, 0, 0, 0, []))]
def C_89 : List (Nat × Op) := [(0, (0, 1, 0, 0, 0, [])), (1, (22, 9, 0, 0, 0, [])), (4, (0, 1, 0, 0, 0, [])), (5, (4, 0, 0, 0, 3, [])), (6, (31, 11, 0, 0, 0, [])), (9, (4, 0, 0, 0, -1, [])), (10, (52, 1, 0, 0, 0, [])), (11, (1, 0, 0, 0, 0, [])), (12, (33, 51, 8, 5, 0, [])), (15, (1, 0, 0, 0, 0, [])), (16, (33, 65, 8, 7, 0, [])), (19, (46, 219, 1, 0, 0, [])), (22, (0, 1, 0, 0, 0, [])), (23, (4, 0, 0, 0, 2, [])), (24, (29, 37, 0, 0, 0, [])), (27, (1, 0, 0, 0, 0, [])), (28, (33, 51, 8, 5, 0, [])), (31, (33, 235, 0, 2, 0, [])), (34, (19, 44, 0, 0, 0, [])), (37, (1, 0, 0, 0, 0, [])), (38, (33, 51, 8, 5, 0, [])), (41, (33, 238, 0, 3, 0, [])), (44, (3, 2, 0, 0, 0, [])), (45, (0, 1, 0, 0, 0, [])), (46, (4, 0, 0, 0, 2, [])), (47, (12, 0, 0, 0, 0, [])), (48, (21, 66, 0, 0, 0, [])), (51, (1, 0, 0, 0, 0, [])), (52, (33, 51, 8, 5, 0, [])), (55, (1, 0, 0, 0, 0, [])), (56, (33, 65, 8, 7, 0, [])), (59, (1, 2, 0, 0, 0, [])), (60, (46, 241, 3, 0, 0, [])), (63, (19, 78, 0, 0, 0, [])), (66, (1, 0, 0, 0, 0, [])), (67, (33, 51, 8, 5, 0, [])), (70, (1, 0, 0, 0, 0, [])), (71, (33, 65, 8, 7, 0, [])), (74, (1, 2, 0, 0, 0, [])), (75, (46, 245, 4, 0, 0, [])), (78, (52, 1, 0, 0, 0, []))]
def C_90 : List (Nat × Op) := [(0, (1, 0, 0, 0, 0, [])), (1, (0, 1, 0, 0, 0, [])), (2, (0, 2, 0, 0, 0, [])), (3, (46, 192, 102, 0, 0, [])), (6, (20, 20, 0, 0, 0, [])), (9, (0, 3, 0, 0, 0, [])), (10, (4, 0, 0, 0, 1, [])), (11, (28, 20, 0, 0, 0, [])), (14, (0, 3, 0, 0, 0, [])), (15, (5, 0, 0, 0, 99, [])), (17, (31, 22, 0, 0, 0, [])), (20, (4, 0, 0, 0, -1, [])), (21, (52, 1, 0, 0, 0, [])), (22, (1, 0, 0, 0, 0, [])), (23, (33, 65, 8, 7, 0, [])), (26, (32, 248, 5, 5, 0, [])), (29, (5, 0, 0, 0, 16, [])), (31, (28, 37, 0, 0, 0, [])), (34, (5, 0, 0, 0, -3, [])), (36, (52, 1, 0, 0, 0, [])), (37, (1, 0, 0, 0, 0, [])), (38, (46, 151, 107, 0, 0, [])), (41, (1, 0, 0, 0, 0, [])), (42, (33, 65, 8, 7, 0, [])), (45, (0, 1, 0, 0, 0, [])), (46, (0, 2, 0, 0, 0, [])), (47, (0, 3, 0, 0, 0, [])), (48, (46, 251, 56, 0, 0, [])), (51, (18, 0, 0, 0, 0, [])), (52, (1, 0, 0, 0, 0, [])), (53, (46, 158, 108, 0, 0, [])), (56, (1, 0, 0, 0, 0, [])), (57, (33, 65, 8, 7, 0, [])), (60, (32, 248, 5, 5, 0, [])), (63, (4, 0, 0, 0, 1, [])), (64, (9, 0, 0, 0, 0, [])), (65, (52, 1, 0, 0, 0, []))]
def C_91 : List (Nat × Op) := [(0, (1, 0, 0, 0, 0, [])), (1, (0, 1, 0, 0, 0, [])), (2, (46, 255, 104, 0, 0, [])), (5, (21, 10, 0, 0, 0, [])), (8, (4, 0, 0, 0, -1, [])), (9, (52, 1, 0, 0, 0, [])), (10, (1, 0, 0, 0, 0, [])), (11, (46, 151, 107, 0, 0, [])), (14, (1, 0, 0, 0, 0, [])), (15, (33, 65, 8, 7, 0, [])), (18, (0, 1, 0, 0, 0, [])), (19, (46, 258, 57, 0, 0, [])), (22, (1, 0, 0, 0, 0, [])), (23, (46, 158, 108, 0, 0, [])), (26, (1, 0, 0, 0, 0, [])), (27, (33, 65, 8, 7, 0, [])), (30, (32, 248, 5, 5, 0, [])), (33, (52, 1, 0, 0, 0, []))]
def C_92 : List (Nat × Op) := [(0, (1, 0, 0, 0, 0, [])), (1, (0, 1, 0, 0, 0, [])), (2, (46, 255, 104, 0, 0, [])), (5, (20, 16, 0, 0, 0, [])), (8, (1, 0, 0, 0, 0, [])), (9, (0, 2, 0, 0, 0, [])), (10, (46, 185, 103, 0, 0, [])), (13, (21, 18, 0, 0, 0, [])), (16, (4, 0, 0, 0, -1, [])), (17, (52, 1, 0, 0, 0, [])), (18, (1, 0, 0, 0, 0, [])), (19, (33, 65, 8, 7, 0, [])), (22, (33, 261, 5, 4, 0, [])), (25, (0, 1, 0, 0, 0, [])), (26, (38, 0, 0, 0, 0, [])), (27, (2, 3, 0, 0, 0, [])), (28, (0, 3, 0, 0, 0, [])), (29, (0, 2, 0, 0, 0, [])), (30, (27, 36, 0, 0, 0, [])), (33, (5, 0, 0, 0, -2, [])), (35, (52, 1, 0, 0, 0, [])), (36, (1, 0, 0, 0, 0, [])), (37, (46, 151, 107, 0, 0, [])), (40, (1, 0, 0, 0, 0, [])), (41, (33, 65, 8, 7, 0, [])), (44, (33, 261, 5, 4, 0, [])), (47, (0, 1, 0, 0, 0, [])), (48, (0, 2, 0, 0, 0, [])), (49, (39, 0, 0, 0, 0, [])), (50, (1, 0, 0, 0, 0, [])), (51, (46, 158, 108, 0, 0, [])), (54, (0, 3, 0, 0, 0, [])), (55, (52, 1, 0, 0, 0, []))]
def C_93 : List (Nat × Op) := [(0, (1, 0, 0, 0, 0, [])), (1, (0, 1, 0, 0, 0, [])), (2, (46, 255, 104, 0, 0, [])), (5, (21, 10, 0, 0, 0, [])), (8, (4, 0, 0, 0, -1, [])), (9, (52, 1, 0, 0, 0, [])), (10, (0, 2, 0, 0, 0, [])), (11, (51, 136, 0, 0, 0, [48, 58, 68, 78, 88, 116])), (48, (1, 0, 0, 0, 0, [])), (49, (33, 65, 8, 7, 0, [])), (52, (33, 264, 5, 1, 0, [])), (55, (0, 1, 0, 0, 0, [])), (56, (38, 0, 0, 0, 0, [])), (57, (52, 1, 0, 0, 0, [])), (58, (1, 0, 0, 0, 0, [])), (59, (33, 65, 8, 7, 0, [])), (62, (33, 267, 5, 2, 0, [])), (65, (0, 1, 0, 0, 0, [])), (66, (38, 0, 0, 0, 0, [])), (67, (52, 1, 0, 0, 0, [])), (68, (1, 0, 0, 0, 0, [])), (69, (33, 65, 8, 7, 0, [])), (72, (33, 270, 5, 3, 0, [])), (75, (0, 1, 0, 0, 0, [])), (76, (38, 0, 0, 0, 0, [])), (77, (52, 1, 0, 0, 0, [])), (78, (1, 0, 0, 0, 0, [])), (79, (33, 65, 8, 7, 0, [])), (82, (33, 261, 5, 4, 0, [])), (85, (0, 1, 0, 0, 0, [])), (86, (38, 0, 0, 0, 0, [])), (87, (52, 1, 0, 0, 0, [])), (88, (1, 0, 0, 0, 0, [])), (89, (33, 58, 8, 6, 0, [])), (92, (1, 0, 0, 0, 0, [])), (93, (33, 65, 8, 7, 0, [])), (96, (46, 273, 36, 0, 0, [])), (99, (1, 0, 0, 0, 0, [])), (100, (33, 58, 8, 6, 0, [])), (103, (0, 1, 0, 0, 0, [])), (104, (46, 274, 40, 0, 0, [])), (107, (20, 114, 0, 0, 0, [])), (110, (4, 0, 0, 0, 1, [])), (111, (19, 115, 0, 0, 0, [])), (114, (4, 0, 0, 0, 0, [])), (115, (52, 1, 0, 0, 0, [])), (116, (1, 0, 0, 0, 0, [])), (117, (33, 58, 8, 6, 0, [])), (120, (1, 0, 0, 0, 0, [])), (121, (33, 65, 8, 7, 0, [])), (124, (46, 273, 36, 0, 0, [])), (127, (1, 0, 0, 0, 0, [])), (128, (33, 58, 8, 6, 0, [])), (131, (0, 1, 0, 0, 0, [])), (132, (46, 277, 41, 0, 0, [])), (135, (52, 1, 0, 0, 0, [])), (136, (4, 0, 0, 0, -1, [])), (137, (52, 1, 0, 0, 0, []))]
def C_94 : List (Nat × Op) := [(0, (1, 0, 0, 0, 0, [])), (1, (0, 1, 0, 0, 0, [])), (2, (46, 136, 100, 0, 0, [])), (5, (20, 26, 0, 0, 0, [])), (8, (0, 2, 0, 0, 0, [])), (9, (22, 26, 0, 0, 0, [])), (12, (0, 2, 0, 0, 0, [])), (13, (4, 0, 0, 0, 1, [])), (14, (30, 26, 0, 0, 0, [])), (17, (0, 3, 0, 0, 0, [])), (18, (22, 26, 0, 0, 0, [])), (21, (0, 3, 0, 0, 0, [])), (22, (4, 0, 0, 0, 1, [])), (23, (31, 28, 0, 0, 0, [])), (26, (4, 0, 0, 0, -1, [])), (27, (52, 1, 0, 0, 0, [])), (28, (0, 2, 0, 0, 0, [])), (29, (4, 0, 0, 0, 1, [])), (30, (27, 37, 0, 0, 0, [])), (33, (0, 1, 0, 0, 0, [])), (34, (19, 41, 0, 0, 0, [])), (37, (5, 0, 0, 0, 108, [])), (39, (0, 1, 0, 0, 0, [])), (40, (8, 0, 0, 0, 0, [])), (41, (2, 4, 0, 0, 0, [])), (43, (1, 0, 0, 0, 0, [])), (44, (33, 58, 8, 6, 0, [])), (47, (1, 0, 0, 0, 0, [])), (48, (33, 65, 8, 7, 0, [])), (51, (46, 273, 36, 0, 0, [])), (54, (0, 3, 0, 0, 0, [])), (55, (21, 71, 0, 0, 0, [])), (58, (1, 0, 0, 0, 0, [])), (59, (33, 58, 8, 6, 0, [])), (62, (33, 280, 4, 4, 0, [])), (65, (0, 4, 0, 0, 0, [])), (67, (38, 0, 0, 0, 0, [])), (68, (19, 84, 0, 0, 0, [])), (71, (1, 0, 0, 0, 0, [])), (72, (33, 58, 8, 6, 0, [])), (75, (1, 0, 0, 0, 0, [])), (76, (33, 65, 8, 7, 0, [])), (79, (0, 4, 0, 0, 0, [])), (81, (46, 283, 43, 0, 0, [])), (84, (52, 1, 0, 0, 0, []))]
def C_95 : List (Nat × Op) := [(0, (1, 0, 0, 0, 0, [])), (1, (33, 65, 8, 7, 0, [])), (4, (32, 248, 5, 5, 0, [])), (7, (21, 13, 0, 0, 0, [])), (10, (5, 0, 0, 0, -4, [])), (12, (52, 1, 0, 0, 0, [])), (13, (1, 0, 0, 0, 0, [])), (14, (33, 58, 8, 6, 0, [])), (17, (1, 0, 0, 0, 0, [])), (18, (33, 65, 8, 7, 0, [])), (21, (46, 273, 36, 0, 0, [])), (24, (1, 0, 0, 0, 0, [])), (25, (33, 58, 8, 6, 0, [])), (28, (1, 0, 0, 0, 0, [])), (29, (33, 65, 8, 7, 0, [])), (32, (32, 248, 5, 5, 0, [])), (35, (46, 286, 42, 0, 0, [])), (38, (52, 1, 0, 0, 0, []))]
def C_96 : List (Nat × Op) := [(0, (1, 0, 0, 0, 0, [])), (1, (0, 1, 0, 0, 0, [])), (2, (46, 255, 104, 0, 0, [])), (5, (20, 16, 0, 0, 0, [])), (8, (1, 0, 0, 0, 0, [])), (9, (0, 2, 0, 0, 0, [])), (10, (46, 185, 103, 0, 0, [])), (13, (21, 18, 0, 0, 0, [])), (16, (4, 0, 0, 0, -1, [])), (17, (52, 1, 0, 0, 0, [])), (18, (1, 0, 0, 0, 0, [])), (19, (33, 58, 8, 6, 0, [])), (22, (1, 0, 0, 0, 0, [])), (23, (33, 65, 8, 7, 0, [])), (26, (46, 273, 36, 0, 0, [])), (29, (1, 0, 0, 0, 0, [])), (30, (33, 58, 8, 6, 0, [])), (33, (1, 0, 0, 0, 0, [])), (34, (33, 65, 8, 7, 0, [])), (37, (0, 1, 0, 0, 0, [])), (38, (0, 2, 0, 0, 0, [])), (39, (46, 289, 37, 0, 0, [])), (42, (1, 0, 0, 0, 0, [])), (43, (33, 58, 8, 6, 0, [])), (46, (1, 0, 0, 0, 0, [])), (47, (33, 65, 8, 7, 0, [])), (50, (32, 248, 5, 5, 0, [])), (53, (46, 286, 42, 0, 0, [])), (56, (52, 1, 0, 0, 0, []))]
def C_97 : List (Nat × Op) := [(0, (1, 0, 0, 0, 0, [])), (1, (46, 151, 107, 0, 0, [])), (4, (1, 0, 0, 0, 0, [])), (5, (33, 58, 8, 6, 0, [])), (8, (1, 0, 0, 0, 0, [])), (9, (33, 65, 8, 7, 0, [])), (12, (46, 273, 36, 0, 0, [])), (15, (4, 0, 0, 0, 0, [])), (16, (2, 1, 0, 0, 0, [])), (17, (5, 0, 0, 0, 99, [])), (19, (2, 2, 0, 0, 0, [])), (20, (0, 2, 0, 0, 0, [])), (21, (25, 80, 0, 0, 0, [])), (24, (4, 0, 0, 0, 0, [])), (25, (2, 3, 0, 0, 0, [])), (26, (0, 3, 0, 0, 0, [])), (27, (1, 0, 0, 0, 0, [])), (28, (33, 65, 8, 7, 0, [])), (31, (32, 248, 5, 5, 0, [])), (34, (29, 74, 0, 0, 0, [])), (37, (1, 0, 0, 0, 0, [])), (38, (33, 65, 8, 7, 0, [])), (41, (33, 270, 5, 3, 0, [])), (44, (0, 3, 0, 0, 0, [])), (45, (38, 0, 0, 0, 0, [])), (46, (0, 2, 0, 0, 0, [])), (47, (27, 68, 0, 0, 0, [])), (50, (1, 0, 0, 0, 0, [])), (51, (33, 58, 8, 6, 0, [])), (54, (1, 0, 0, 0, 0, [])), (55, (33, 65, 8, 7, 0, [])), (58, (0, 3, 0, 0, 0, [])), (59, (46, 293, 44, 0, 0, [])), (62, (20, 68, 0, 0, 0, [])), (65, (13, 1, 0, 0, 1, [])), (68, (13, 3, 0, 0, 1, [])), (71, (19, 26, 0, 0, 0, [])), (74, (13, 2, 0, 0, -1, [])), (77, (19, 20, 0, 0, 0, [])), (80, (0, 1, 0, 0, 0, [])), (81, (25, 88, 0, 0, 0, [])), (84, (1, 0, 0, 0, 0, [])), (85, (46, 158, 108, 0, 0, [])), (88, (0, 1, 0, 0, 0, [])), (89, (52, 1, 0, 0, 0, []))]
def C_98 : List (Nat × Op) := [(0, (0, 1, 0, 0, 0, [])), (1, (51, 106, 0, 0, 0, [48, 56, 64, 72, 80, 85, 93, 98])), (48, (1, 0, 0, 0, 0, [])), (49, (33, 19, 8, 1, 0, [])), (52, (32, 108, 3, 0, 0, [])), (55, (52, 1, 0, 0, 0, [])), (56, (1, 0, 0, 0, 0, [])), (57, (33, 19, 8, 1, 0, [])), (60, (32, 105, 3, 3, 0, [])), (63, (52, 1, 0, 0, 0, [])), (64, (1, 0, 0, 0, 0, [])), (65, (33, 19, 8, 1, 0, [])), (68, (32, 297, 3, 4, 0, [])), (71, (52, 1, 0, 0, 0, [])), (72, (1, 0, 0, 0, 0, [])), (73, (33, 19, 8, 1, 0, [])), (76, (32, 172, 3, 5, 0, [])), (79, (52, 1, 0, 0, 0, [])), (80, (1, 0, 0, 0, 0, [])), (81, (46, 300, 113, 0, 0, [])), (84, (52, 1, 0, 0, 0, [])), (85, (1, 0, 0, 0, 0, [])), (86, (33, 65, 8, 7, 0, [])), (89, (32, 248, 5, 5, 0, [])), (92, (52, 1, 0, 0, 0, [])), (93, (1, 0, 0, 0, 0, [])), (94, (32, 179, 8, 11, 0, [])), (97, (52, 1, 0, 0, 0, [])), (98, (1, 0, 0, 0, 0, [])), (99, (33, 12, 8, 0, 0, [])), (102, (32, 98, 2, 1, 0, [])), (105, (52, 1, 0, 0, 0, [])), (106, (4, 0, 0, 0, -1, [])), (107, (52, 1, 0, 0, 0, []))]
def C_99 : List (Nat × Op) := [(0, (0, 1, 0, 0, 0, [])), (1, (22, 19, 0, 0, 0, [])), (4, (0, 1, 0, 0, 0, [])), (5, (1, 0, 0, 0, 0, [])), (6, (33, 19, 8, 1, 0, [])), (9, (32, 297, 3, 4, 0, [])), (12, (29, 19, 0, 0, 0, [])), (15, (4, 0, 0, 0, 1, [])), (16, (19, 20, 0, 0, 0, [])), (19, (4, 0, 0, 0, 0, [])), (20, (52, 2, 0, 0, 0, []))]
def C_100 : List (Nat × Op) := [(0, (0, 1, 0, 0, 0, [])), (1, (22, 19, 0, 0, 0, [])), (4, (0, 1, 0, 0, 0, [])), (5, (1, 0, 0, 0, 0, [])), (6, (33, 19, 8, 1, 0, [])), (9, (32, 172, 3, 5, 0, [])), (12, (29, 19, 0, 0, 0, [])), (15, (4, 0, 0, 0, 1, [])), (16, (19, 20, 0, 0, 0, [])), (19, (4, 0, 0, 0, 0, [])), (20, (52, 2, 0, 0, 0, []))]
def C_101 : List (Nat × Op) := [(0, (0, 1, 0, 0, 0, [])), (1, (22, 19, 0, 0, 0, [])), (4, (0, 1, 0, 0, 0, [])), (5, (1, 0, 0, 0, 0, [])), (6, (33, 19, 8, 1, 0, [])), (9, (32, 105, 3, 3, 0, [])), (12, (29, 19, 0, 0, 0, [])), (15, (4, 0, 0, 0, 1, [])), (16, (19, 20, 0, 0, 0, [])), (19, (4, 0, 0, 0, 0, [])), (20, (52, 2, 0, 0, 0, []))]
def C_102 : List (Nat × Op) := [(0, (1, 0, 0, 0, 0, [])), (1, (0, 1, 0, 0, 0, [])), (2, (46, 182, 101, 0, 0, [])), (5, (20, 25, 0, 0, 0, [])), (8, (1, 0, 0, 0, 0, [])), (9, (0, 2, 0, 0, 0, [])), (10, (46, 182, 101, 0, 0, [])), (13, (20, 25, 0, 0, 0, [])), (16, (0, 1, 0, 0, 0, [])), (17, (0, 2, 0, 0, 0, [])), (18, (26, 25, 0, 0, 0, [])), (21, (4, 0, 0, 0, 1, [])), (22, (19, 26, 0, 0, 0, [])), (25, (4, 0, 0, 0, 0, [])), (26, (52, 2, 0, 0, 0, []))]
def C_103 : List (Nat × Op) := [(0, (0, 1, 0, 0, 0, [])), (1, (22, 27, 0, 0, 0, [])), (4, (0, 1, 0, 0, 0, [])), (5, (1, 0, 0, 0, 0, [])), (6, (33, 19, 8, 1, 0, [])), (9, (32, 303, 3, 1, 0, [])), (12, (1, 0, 0, 0, 0, [])), (13, (33, 19, 8, 1, 0, [])), (16, (32, 303, 3, 1, 0, [])), (19, (10, 0, 0, 0, 0, [])), (20, (29, 27, 0, 0, 0, [])), (23, (4, 0, 0, 0, 1, [])), (24, (19, 28, 0, 0, 0, [])), (27, (4, 0, 0, 0, 0, [])), (28, (52, 2, 0, 0, 0, []))]
def C_104 : List (Nat × Op) := [(0, (0, 1, 0, 0, 0, [])), (1, (22, 19, 0, 0, 0, [])), (4, (0, 1, 0, 0, 0, [])), (5, (1, 0, 0, 0, 0, [])), (6, (33, 65, 8, 7, 0, [])), (9, (32, 248, 5, 5, 0, [])), (12, (29, 19, 0, 0, 0, [])), (15, (4, 0, 0, 0, 1, [])), (16, (19, 20, 0, 0, 0, [])), (19, (4, 0, 0, 0, 0, [])), (20, (52, 2, 0, 0, 0, []))]
def C_105 : List (Nat × Op) := [(0, (0, 0, 0, 0, 0, [])), (1, (4, 0, 0, 0, 2, [])), (2, (11, 0, 0, 0, 0, [])), (3, (2, 4, 0, 0, 0, [])), (5, (0, 1, 0, 0, 0, [])), (6, (22, 34, 0, 0, 0, [])), (9, (0, 1, 0, 0, 0, [])), (10, (0, 0, 0, 0, 0, [])), (11, (29, 34, 0, 0, 0, [])), (14, (0, 2, 0, 0, 0, [])), (15, (22, 34, 0, 0, 0, [])), (18, (0, 2, 0, 0, 0, [])), (19, (0, 4, 0, 0, 0, [])), (21, (29, 34, 0, 0, 0, [])), (24, (0, 3, 0, 0, 0, [])), (25, (22, 34, 0, 0, 0, [])), (28, (0, 3, 0, 0, 0, [])), (29, (0, 4, 0, 0, 0, [])), (31, (28, 36, 0, 0, 0, [])), (34, (4, 0, 0, 0, -1, [])), (35, (52, 1, 0, 0, 0, [])), (36, (0, 1, 0, 0, 0, [])), (37, (0, 4, 0, 0, 0, [])), (39, (10, 0, 0, 0, 0, [])), (40, (0, 2, 0, 0, 0, [])), (41, (8, 0, 0, 0, 0, [])), (42, (0, 4, 0, 0, 0, [])), (44, (10, 0, 0, 0, 0, [])), (45, (0, 3, 0, 0, 0, [])), (46, (8, 0, 0, 0, 0, [])), (47, (52, 1, 0, 0, 0, []))]
def C_106 : List (Nat × Op) := [(0, (1, 0, 0, 0, 0, [])), (1, (33, 12, 8, 0, 0, [])), (4, (1, 0, 0, 0, 0, [])), (5, (33, 75, 8, 10, 0, [])), (8, (46, 101, 13, 0, 0, [])), (11, (5, 0, 0, 0, -4, [])), (13, (27, 26, 0, 0, 0, [])), (16, (1, 0, 0, 0, 0, [])), (17, (33, 12, 8, 0, 0, [])), (20, (32, 306, 2, 2, 0, [])), (23, (21, 28, 0, 0, 0, [])), (26, (4, 0, 0, 0, 0, [])), (27, (52, 2, 0, 0, 0, [])), (28, (1, 0, 0, 0, 0, [])), (29, (33, 19, 8, 1, 0, [])), (32, (1, 0, 0, 0, 0, [])), (33, (33, 12, 8, 0, 0, [])), (36, (32, 306, 2, 2, 0, [])), (39, (46, 309, 24, 0, 0, [])), (42, (1, 0, 0, 0, 0, [])), (43, (33, 65, 8, 7, 0, [])), (46, (1, 0, 0, 0, 0, [])), (47, (33, 19, 8, 1, 0, [])), (50, (32, 172, 3, 5, 0, [])), (53, (1, 0, 0, 0, 0, [])), (54, (33, 19, 8, 1, 0, [])), (57, (32, 297, 3, 4, 0, [])), (60, (46, 312, 46, 0, 0, [])), (63, (1, 0, 0, 0, 0, [])), (64, (33, 69, 8, 8, 0, [])), (67, (1, 0, 0, 0, 0, [])), (68, (33, 19, 8, 1, 0, [])), (71, (32, 172, 3, 5, 0, [])), (74, (1, 0, 0, 0, 0, [])), (75, (33, 19, 8, 1, 0, [])), (78, (32, 297, 3, 4, 0, [])), (81, (46, 312, 46, 0, 0, [])), (84, (1, 0, 0, 0, 0, [])), (85, (33, 72, 8, 9, 0, [])), (88, (1, 0, 0, 0, 0, [])), (89, (33, 19, 8, 1, 0, [])), (92, (32, 172, 3, 5, 0, [])), (95, (1, 0, 0, 0, 0, [])), (96, (33, 19, 8, 1, 0, [])), (99, (32, 297, 3, 4, 0, [])), (102, (46, 312, 46, 0, 0, [])), (105, (1, 0, 0, 0, 0, [])), (106, (33, 75, 8, 10, 0, [])), (109, (1, 0, 0, 0, 0, [])), (110, (33, 19, 8, 1, 0, [])), (113, (32, 172, 3, 5, 0, [])), (116, (1, 0, 0, 0, 0, [])), (117, (33, 19, 8, 1, 0, [])), (120, (32, 297, 3, 4, 0, [])), (123, (46, 312, 46, 0, 0, [])), (126, (1, 0, 0, 0, 0, [])), (127, (33, 75, 8, 10, 0, [])), (130, (46, 316, 54, 0, 0, [])), (133, (1, 0, 0, 0, 0, [])), (134, (33, 65, 8, 7, 0, [])), (137, (3, 1, 0, 0, 0, [])), (138, (1, 0, 0, 0, 0, [])), (139, (1, 0, 0, 0, 0, [])), (140, (33, 75, 8, 10, 0, [])), (143, (36, 65, 8, 7, 0, [])), (146, (1, 0, 0, 0, 0, [])), (147, (1, 1, 0, 0, 0, [])), (148, (36, 75, 8, 10, 0, [])), (151, (1, 0, 0, 0, 0, [])), (152, (4, 0, 0, 0, 0, [])), (153, (34, 179, 8, 11, 0, [])), (156, (4, 0, 0, 0, 1, [])), (157, (52, 2, 0, 0, 0, []))]
def C_107 : List (Nat × Op) := [(0, (1, 0, 0, 0, 0, [])), (1, (33, 75, 8, 10, 0, [])), (4, (1, 0, 0, 0, 0, [])), (5, (33, 65, 8, 7, 0, [])), (8, (46, 319, 48, 0, 0, [])), (11, (53, 0, 0, 0, 0, []))]
def C_108 : List (Nat × Op) := [(0, (1, 0, 0, 0, 0, [])), (1, (33, 72, 8, 9, 0, [])), (4, (3, 1, 0, 0, 0, [])), (5, (1, 0, 0, 0, 0, [])), (6, (1, 0, 0, 0, 0, [])), (7, (33, 69, 8, 8, 0, [])), (10, (36, 72, 8, 9, 0, [])), (13, (1, 0, 0, 0, 0, [])), (14, (1, 0, 0, 0, 0, [])), (15, (33, 75, 8, 10, 0, [])), (18, (36, 69, 8, 8, 0, [])), (21, (1, 0, 0, 0, 0, [])), (22, (1, 1, 0, 0, 0, [])), (23, (36, 75, 8, 10, 0, [])), (26, (1, 0, 0, 0, 0, [])), (27, (4, 0, 0, 0, 2, [])), (28, (1, 0, 0, 0, 0, [])), (29, (32, 179, 8, 11, 0, [])), (32, (4, 0, 0, 0, 1, [])), (33, (8, 0, 0, 0, 0, [])), (34, (62, 322, 0, 0, 0, [])), (37, (34, 179, 8, 11, 0, [])), (40, (53, 0, 0, 0, 0, []))]
def C_109 : List (Nat × Op) := [(0, (1, 0, 0, 0, 0, [])), (1, (33, 65, 8, 7, 0, [])), (4, (0, 1, 0, 0, 0, [])), (5, (1, 0, 0, 0, 0, [])), (6, (33, 19, 8, 1, 0, [])), (9, (33, 139, 3, 10, 0, [])), (12, (0, 1, 0, 0, 0, [])), (13, (38, 0, 0, 0, 0, [])), (14, (1, 0, 0, 0, 0, [])), (15, (33, 19, 8, 1, 0, [])), (18, (33, 142, 3, 11, 0, [])), (21, (0, 1, 0, 0, 0, [])), (22, (38, 0, 0, 0, 0, [])), (23, (46, 327, 53, 0, 0, [])), (26, (53, 0, 0, 0, 0, []))]
def C_110 : List (Nat × Op) := [(0, (1, 0, 0, 0, 0, [])), (1, (33, 19, 8, 1, 0, [])), (4, (33, 139, 3, 10, 0, [])), (7, (0, 2, 0, 0, 0, [])), (8, (38, 0, 0, 0, 0, [])), (9, (0, 1, 0, 0, 0, [])), (10, (26, 26, 0, 0, 0, [])), (13, (1, 0, 0, 0, 0, [])), (14, (33, 19, 8, 1, 0, [])), (17, (33, 142, 3, 11, 0, [])), (20, (0, 2, 0, 0, 0, [])), (21, (38, 0, 0, 0, 0, [])), (22, (0, 1, 0, 0, 0, [])), (23, (27, 30, 0, 0, 0, [])), (26, (4, 0, 0, 0, 1, [])), (27, (19, 31, 0, 0, 0, [])), (30, (4, 0, 0, 0, 0, [])), (31, (52, 2, 0, 0, 0, []))]
def C_111 : List (Nat × Op) := [(0, (4, 0, 0, 0, 0, [])), (1, (2, 3, 0, 0, 0, [])), (2, (4, 0, 0, 0, 0, [])), (3, (2, 4, 0, 0, 0, [])), (5, (0, 4, 0, 0, 0, [])), (7, (1, 0, 0, 0, 0, [])), (8, (33, 19, 8, 1, 0, [])), (11, (32, 172, 3, 5, 0, [])), (14, (29, 49, 0, 0, 0, [])), (17, (1, 0, 0, 0, 0, [])), (18, (0, 1, 0, 0, 0, [])), (19, (0, 4, 0, 0, 0, [])), (21, (46, 330, 110, 0, 0, [])), (24, (20, 43, 0, 0, 0, [])), (27, (1, 0, 0, 0, 0, [])), (28, (33, 65, 8, 7, 0, [])), (31, (0, 4, 0, 0, 0, [])), (33, (46, 145, 49, 0, 0, [])), (36, (0, 2, 0, 0, 0, [])), (37, (26, 43, 0, 0, 0, [])), (40, (13, 3, 0, 0, 1, [])), (43, (13, 4, 0, 0, 1, [])), (46, (19, 5, 0, 0, 0, [])), (49, (0, 3, 0, 0, 0, [])), (50, (52, 1, 0, 0, 0, []))]
def C_112 : List (Nat × Op) := [(0, (1, 0, 0, 0, 0, [])), (1, (0, 1, 0, 0, 0, [])), (2, (0, 2, 0, 0, 0, [])), (3, (46, 132, 111, 0, 0, [])), (6, (2, 3, 0, 0, 0, [])), (7, (0, 3, 0, 0, 0, [])), (8, (21, 14, 0, 0, 0, [])), (11, (5, 0, 0, 0, -2, [])), (13, (52, 1, 0, 0, 0, [])), (14, (1, 0, 0, 0, 0, [])), (15, (46, 151, 107, 0, 0, [])), (18, (4, 0, 0, 0, 0, [])), (19, (2, 4, 0, 0, 0, [])), (21, (0, 4, 0, 0, 0, [])), (23, (1, 0, 0, 0, 0, [])), (24, (33, 19, 8, 1, 0, [])), (27, (32, 172, 3, 5, 0, [])), (30, (29, 68, 0, 0, 0, [])), (33, (1, 0, 0, 0, 0, [])), (34, (0, 1, 0, 0, 0, [])), (35, (0, 4, 0, 0, 0, [])), (37, (46, 330, 110, 0, 0, [])), (40, (20, 62, 0, 0, 0, [])), (43, (1, 0, 0, 0, 0, [])), (44, (33, 65, 8, 7, 0, [])), (47, (0, 4, 0, 0, 0, [])), (49, (46, 145, 49, 0, 0, [])), (52, (0, 2, 0, 0, 0, [])), (53, (26, 62, 0, 0, 0, [])), (56, (1, 0, 0, 0, 0, [])), (57, (0, 4, 0, 0, 0, [])), (59, (46, 154, 109, 0, 0, [])), (62, (13, 4, 0, 0, 1, [])), (65, (19, 21, 0, 0, 0, [])), (68, (1, 0, 0, 0, 0, [])), (69, (46, 158, 108, 0, 0, [])), (72, (0, 3, 0, 0, 0, [])), (73, (52, 1, 0, 0, 0, []))]
def C_113 : List (Nat × Op) := [(0, (4, 0, 0, 0, 0, [])), (1, (2, 1, 0, 0, 0, [])), (2, (4, 0, 0, 0, 0, [])), (3, (2, 2, 0, 0, 0, [])), (4, (0, 2, 0, 0, 0, [])), (5, (1, 0, 0, 0, 0, [])), (6, (33, 19, 8, 1, 0, [])), (9, (32, 172, 3, 5, 0, [])), (12, (29, 35, 0, 0, 0, [])), (15, (1, 0, 0, 0, 0, [])), (16, (33, 65, 8, 7, 0, [])), (19, (0, 2, 0, 0, 0, [])), (20, (46, 145, 49, 0, 0, [])), (23, (21, 29, 0, 0, 0, [])), (26, (13, 1, 0, 0, 1, [])), (29, (13, 2, 0, 0, 1, [])), (32, (19, 4, 0, 0, 0, [])), (35, (0, 1, 0, 0, 0, [])), (36, (52, 1, 0, 0, 0, []))]
def C_114 : List (Nat × Op) := [(0, (1, 0, 0, 0, 0, [])), (1, (49, 1, 0, 0, 0, [])), (4, (1, 0, 0, 0, 0, [])), (5, (6, 0, 0, 0, 200, [])), (8, (43, 0, 0, 0, 0, [])), (10, (37, 7, 9, 1, 0, [])), (13, (1, 0, 0, 0, 0, [])), (14, (5, 0, 0, 0, 108, [])), (16, (43, 0, 0, 0, 0, [])), (18, (37, 13, 9, 4, 0, [])), (21, (1, 0, 0, 0, 0, [])), (22, (6, 0, 0, 0, 4860, [])), (25, (43, 0, 0, 0, 0, [])), (27, (37, 16, 9, 5, 0, [])), (30, (1, 0, 0, 0, 0, [])), (31, (6, 0, 0, 0, 4860, [])), (34, (43, 0, 0, 0, 0, [])), (36, (37, 19, 9, 6, 0, [])), (39, (1, 0, 0, 0, 0, [])), (40, (5, 0, 0, 0, 64, [])), (42, (43, 0, 0, 0, 0, [])), (44, (37, 22, 9, 8, 0, [])), (47, (1, 0, 0, 0, 0, [])), (48, (6, 0, 0, 0, 216, [])), (51, (43, 0, 0, 0, 0, [])), (53, (37, 25, 9, 10, 0, [])), (56, (1, 0, 0, 0, 0, [])), (57, (6, 0, 0, 0, 9720, [])), (60, (43, 0, 0, 0, 0, [])), (62, (37, 28, 9, 11, 0, [])), (65, (1, 0, 0, 0, 0, [])), (66, (6, 0, 0, 0, 128, [])), (69, (43, 0, 0, 0, 0, [])), (71, (37, 31, 9, 12, 0, [])), (74, (1, 0, 0, 0, 0, [])), (75, (4, 0, 0, 0, 2, [])), (76, (43, 0, 0, 0, 0, [])), (78, (37, 34, 9, 13, 0, [])), (81, (1, 0, 0, 0, 0, [])), (82, (5, 0, 0, 0, 64, [])), (84, (43, 0, 0, 0, 0, [])), (86, (37, 37, 9, 16, 0, [])), (89, (1, 0, 0, 0, 0, [])), (90, (5, 0, 0, 0, 108, [])), (92, (43, 0, 0, 0, 0, [])), (94, (37, 40, 9, 17, 0, [])), (97, (1, 0, 0, 0, 0, [])), (98, (5, 0, 0, 0, 6, [])), (100, (43, 0, 0, 0, 0, [])), (102, (37, 43, 9, 19, 0, [])), (105, (1, 0, 0, 0, 0, [])), (106, (5, 0, 0, 0, 6, [])), (108, (43, 0, 0, 0, 0, [])), (110, (37, 46, 9, 20, 0, [])), (113, (1, 0, 0, 0, 0, [])), (114, (5, 0, 0, 0, 108, [])), (116, (43, 0, 0, 0, 0, [])), (118, (37, 49, 9, 22, 0, [])), (121, (1, 0, 0, 0, 0, [])), (122, (5, 0, 0, 0, 108, [])), (124, (43, 0, 0, 0, 0, [])), (126, (37, 52, 9, 23, 0, [])), (129, (1, 0, 0, 0, 0, [])), (130, (5, 0, 0, 0, 54, [])), (132, (43, 0, 0, 0, 0, [])), (134, (37, 55, 9, 24, 0, [])), (137, (1, 0, 0, 0, 0, [])), (138, (5, 0, 0, 0, 54, [])), (140, (43, 0, 0, 0, 0, [])), (142, (37, 58, 9, 25, 0, [])), (145, (1, 0, 0, 0, 0, [])), (146, (5, 0, 0, 0, 16, [])), (148, (43, 0, 0, 0, 0, [])), (150, (37, 61, 9, 26, 0, [])), (153, (1, 0, 0, 0, 0, [])), (154, (5, 0, 0, 0, 16, [])), (156, (43, 0, 0, 0, 0, [])), (158, (16, 0, 0, 0, 0, [])), (159, (4, 0, 0, 0, 0, [])), (160, (4, 0, 0, 0, 0, [])), (161, (39, 0, 0, 0, 0, [])), (162, (16, 0, 0, 0, 0, [])), (163, (4, 0, 0, 0, 1, [])), (164, (5, 0, 0, 0, 11, [])), (166, (39, 0, 0, 0, 0, [])), (167, (16, 0, 0, 0, 0, [])), (168, (4, 0, 0, 0, 2, [])), (169, (5, 0, 0, 0, 9, [])), (171, (39, 0, 0, 0, 0, [])), (172, (16, 0, 0, 0, 0, [])), (173, (4, 0, 0, 0, 3, [])), (174, (4, 0, 0, 0, 0, [])), (175, (39, 0, 0, 0, 0, [])), (176, (16, 0, 0, 0, 0, [])), (177, (4, 0, 0, 0, 4, [])), (178, (4, 0, 0, 0, 2, [])), (179, (39, 0, 0, 0, 0, [])), (180, (16, 0, 0, 0, 0, [])), (181, (4, 0, 0, 0, 5, [])), (182, (5, 0, 0, 0, 10, [])), (184, (39, 0, 0, 0, 0, [])), (185, (16, 0, 0, 0, 0, [])), (186, (5, 0, 0, 0, 6, [])), (188, (4, 0, 0, 0, 5, [])), (189, (39, 0, 0, 0, 0, [])), (190, (16, 0, 0, 0, 0, [])), (191, (5, 0, 0, 0, 7, [])), (193, (4, 0, 0, 0, 0, [])), (194, (39, 0, 0, 0, 0, [])), (195, (16, 0, 0, 0, 0, [])), (196, (5, 0, 0, 0, 8, [])), (198, (4, 0, 0, 0, 5, [])), (199, (39, 0, 0, 0, 0, [])), (200, (16, 0, 0, 0, 0, [])), (201, (5, 0, 0, 0, 9, [])), (203, (5, 0, 0, 0, 6, [])), (205, (39, 0, 0, 0, 0, [])), (206, (16, 0, 0, 0, 0, [])), (207, (5, 0, 0, 0, 10, [])), (209, (5, 0, 0, 0, 7, [])), (211, (39, 0, 0, 0, 0, [])), (212, (16, 0, 0, 0, 0, [])), (213, (5, 0, 0, 0, 11, [])), (215, (4, 0, 0, 0, 0, [])), (216, (39, 0, 0, 0, 0, [])), (217, (16, 0, 0, 0, 0, [])), (218, (5, 0, 0, 0, 12, [])), (220, (5, 0, 0, 0, 15, [])), (222, (39, 0, 0, 0, 0, [])), (223, (16, 0, 0, 0, 0, [])), (224, (5, 0, 0, 0, 13, [])), (226, (4, 0, 0, 0, 1, [])), (227, (39, 0, 0, 0, 0, [])), (228, (16, 0, 0, 0, 0, [])), (229, (5, 0, 0, 0, 14, [])), (231, (5, 0, 0, 0, 30, [])), (233, (39, 0, 0, 0, 0, [])), (234, (16, 0, 0, 0, 0, [])), (235, (5, 0, 0, 0, 15, [])), (237, (4, 0, 0, 0, 0, [])), (238, (39, 0, 0, 0, 0, [])), (239, (37, 64, 9, 27, 0, [])), (242, (1, 0, 0, 0, 0, [])), (243, (5, 0, 0, 0, 16, [])), (245, (43, 0, 0, 0, 0, [])), (247, (37, 67, 9, 29, 0, [])), (250, (1, 0, 0, 0, 0, [])), (251, (4, 0, 0, 0, 4, [])), (252, (46, 70, 115, 0, 0, [])), (255, (1, 0, 0, 0, 0, [])), (256, (4, 0, 0, 0, 4, [])), (257, (34, 74, 9, 7, 0, [])), (260, (4, 0, 0, 0, 0, [])), (261, (2, 1, 0, 0, 0, [])), (262, (0, 1, 0, 0, 0, [])), (263, (5, 0, 0, 0, 16, [])), (265, (29, 286, 0, 0, 0, [])), (268, (1, 0, 0, 0, 0, [])), (269, (33, 22, 9, 8, 0, [])), (272, (0, 1, 0, 0, 0, [])), (273, (1, 0, 0, 0, 0, [])), (274, (33, 64, 9, 27, 0, [])), (277, (0, 1, 0, 0, 0, [])), (278, (38, 0, 0, 0, 0, [])), (279, (39, 0, 0, 0, 0, [])), (280, (13, 1, 0, 0, 1, [])), (283, (19, 262, 0, 0, 0, [])), (286, (1, 0, 0, 0, 0, [])), (287, (4, 0, 0, 0, 5, [])), (288, (46, 78, 116, 0, 0, [])), (291, (53, 0, 0, 0, 0, []))]
def C_115 : List (Nat × Op) := [(0, (1, 0, 0, 0, 0, [])), (1, (0, 1, 0, 0, 0, [])), (2, (34, 81, 9, 2, 0, [])), (5, (1, 0, 0, 0, 0, [])), (6, (0, 1, 0, 0, 0, [])), (7, (4, 0, 0, 0, 2, [])), (8, (11, 0, 0, 0, 0, [])), (9, (34, 84, 9, 3, 0, [])), (12, (1, 0, 0, 0, 0, [])), (13, (4, 0, 0, 0, 0, [])), (14, (34, 74, 9, 7, 0, [])), (17, (1, 0, 0, 0, 0, [])), (18, (4, 0, 0, 0, 0, [])), (19, (34, 87, 9, 9, 0, [])), (22, (4, 0, 0, 0, 0, [])), (23, (2, 2, 0, 0, 0, [])), (24, (0, 2, 0, 0, 0, [])), (25, (5, 0, 0, 0, 108, [])), (27, (29, 43, 0, 0, 0, [])), (30, (1, 0, 0, 0, 0, [])), (31, (33, 13, 9, 4, 0, [])), (34, (0, 2, 0, 0, 0, [])), (35, (4, 0, 0, 0, 0, [])), (36, (39, 0, 0, 0, 0, [])), (37, (13, 2, 0, 0, 1, [])), (40, (19, 24, 0, 0, 0, [])), (43, (4, 0, 0, 0, 0, [])), (44, (2, 2, 0, 0, 0, [])), (45, (0, 2, 0, 0, 0, [])), (46, (6, 0, 0, 0, 4860, [])), (49, (29, 65, 0, 0, 0, [])), (52, (1, 0, 0, 0, 0, [])), (53, (33, 16, 9, 5, 0, [])), (56, (0, 2, 0, 0, 0, [])), (57, (4, 0, 0, 0, 0, [])), (58, (39, 0, 0, 0, 0, [])), (59, (13, 2, 0, 0, 1, [])), (62, (19, 45, 0, 0, 0, [])), (65, (53, 0, 0, 0, 0, []))]
def C_116 : List (Nat × Op) := [(0, (1, 0, 0, 0, 0, [])), (1, (33, 13, 9, 4, 0, [])), (4, (0, 1, 0, 0, 0, [])), (5, (4, 0, 0, 0, 1, [])), (6, (39, 0, 0, 0, 0, [])), (7, (4, 0, 0, 0, 0, [])), (8, (2, 2, 0, 0, 0, [])), (9, (0, 2, 0, 0, 0, [])), (10, (5, 0, 0, 0, 45, [])), (12, (29, 33, 0, 0, 0, [])), (15, (1, 0, 0, 0, 0, [])), (16, (33, 16, 9, 5, 0, [])), (19, (5, 0, 0, 0, 108, [])), (21, (0, 2, 0, 0, 0, [])), (22, (10, 0, 0, 0, 0, [])), (23, (0, 1, 0, 0, 0, [])), (24, (8, 0, 0, 0, 0, [])), (25, (4, 0, 0, 0, 1, [])), (26, (39, 0, 0, 0, 0, [])), (27, (13, 2, 0, 0, 1, [])), (30, (19, 9, 0, 0, 0, [])), (33, (53, 0, 0, 0, 0, []))]
def C_117 : List (Nat × Op) := [(0, (0, 0, 0, 0, 0, [])), (1, (0, 1, 0, 0, 0, [])), (2, (28, 14, 0, 0, 0, [])), (5, (0, 0, 0, 0, 0, [])), (6, (0, 2, 0, 0, 0, [])), (7, (30, 14, 0, 0, 0, [])), (10, (4, 0, 0, 0, 1, [])), (11, (19, 15, 0, 0, 0, [])), (14, (4, 0, 0, 0, 0, [])), (15, (52, 2, 0, 0, 0, []))]
def C_118 : List (Nat × Op) := [(0, (0, 1, 0, 0, 0, [])), (1, (1, 0, 0, 0, 0, [])), (2, (32, 90, 9, 0, 0, [])), (5, (29, 17, 0, 0, 0, [])), (8, (1, 0, 0, 0, 0, [])), (9, (33, 7, 9, 1, 0, [])), (12, (0, 1, 0, 0, 0, [])), (13, (38, 0, 0, 0, 0, [])), (14, (19, 18, 0, 0, 0, [])), (17, (4, 0, 0, 0, 0, [])), (18, (52, 1, 0, 0, 0, []))]
def C_119 : List (Nat × Op) := [(0, (1, 0, 0, 0, 0, [])), (1, (0, 1, 0, 0, 0, [])), (2, (46, 93, 118, 0, 0, [])), (5, (2, 2, 0, 0, 0, [])), (6, (0, 2, 0, 0, 0, [])), (7, (5, 0, 0, 0, 48, [])), (9, (28, 25, 0, 0, 0, [])), (12, (0, 2, 0, 0, 0, [])), (13, (5, 0, 0, 0, 57, [])), (15, (30, 25, 0, 0, 0, [])), (18, (0, 2, 0, 0, 0, [])), (19, (5, 0, 0, 0, 48, [])), (21, (9, 0, 0, 0, 0, [])), (22, (19, 26, 0, 0, 0, [])), (25, (4, 0, 0, 0, -1, [])), (26, (52, 1, 0, 0, 0, []))]
def C_120 : List (Nat × Op) := [(0, (4, 0, 0, 0, 0, [])), (1, (2, 3, 0, 0, 0, [])), (2, (0, 1, 0, 0, 0, [])), (3, (2, 4, 0, 0, 0, [])), (5, (1, 0, 0, 0, 0, [])), (6, (0, 4, 0, 0, 0, [])), (8, (46, 97, 119, 0, 0, [])), (11, (22, 40, 0, 0, 0, [])), (14, (0, 4, 0, 0, 0, [])), (16, (0, 1, 0, 0, 0, [])), (17, (0, 2, 0, 0, 0, [])), (18, (8, 0, 0, 0, 0, [])), (19, (29, 40, 0, 0, 0, [])), (22, (5, 0, 0, 0, 10, [])), (24, (0, 3, 0, 0, 0, [])), (25, (10, 0, 0, 0, 0, [])), (26, (1, 0, 0, 0, 0, [])), (27, (0, 4, 0, 0, 0, [])), (29, (46, 97, 119, 0, 0, [])), (32, (8, 0, 0, 0, 0, [])), (33, (2, 3, 0, 0, 0, [])), (34, (13, 4, 0, 0, 1, [])), (37, (19, 5, 0, 0, 0, [])), (40, (1, 0, 0, 0, 0, [])), (41, (0, 4, 0, 0, 0, [])), (43, (34, 100, 9, 28, 0, [])), (46, (0, 4, 0, 0, 0, [])), (48, (0, 1, 0, 0, 0, [])), (49, (27, 56, 0, 0, 0, [])), (52, (4, 0, 0, 0, -1, [])), (53, (19, 57, 0, 0, 0, [])), (56, (0, 3, 0, 0, 0, [])), (57, (52, 1, 0, 0, 0, []))]
def C_121 : List (Nat × Op) := [(0, (1, 0, 0, 0, 0, [])), (1, (32, 103, 9, 14, 0, [])), (4, (2, 2, 0, 0, 0, [])), (5, (0, 2, 0, 0, 0, [])), (6, (4, 0, 0, 0, 2, [])), (7, (11, 0, 0, 0, 0, [])), (8, (2, 3, 0, 0, 0, [])), (9, (1, 0, 0, 0, 0, [])), (10, (0, 1, 0, 0, 0, [])), (11, (46, 97, 119, 0, 0, [])), (14, (2, 4, 0, 0, 0, [])), (16, (1, 0, 0, 0, 0, [])), (17, (0, 1, 0, 0, 0, [])), (18, (4, 0, 0, 0, 2, [])), (19, (8, 0, 0, 0, 0, [])), (20, (46, 97, 119, 0, 0, [])), (23, (2, 5, 0, 0, 0, [])), (25, (1, 0, 0, 0, 0, [])), (26, (0, 1, 0, 0, 0, [])), (27, (4, 0, 0, 0, 4, [])), (28, (8, 0, 0, 0, 0, [])), (29, (46, 97, 119, 0, 0, [])), (32, (2, 6, 0, 0, 0, [])), (34, (0, 4, 0, 0, 0, [])), (36, (4, 0, 0, 0, 0, [])), (37, (0, 2, 0, 0, 0, [])), (38, (4, 0, 0, 0, 1, [])), (39, (9, 0, 0, 0, 0, [])), (40, (47, 106, 117, 0, 0, [])), (43, (20, 98, 0, 0, 0, [])), (46, (1, 0, 0, 0, 0, [])), (47, (0, 1, 0, 0, 0, [])), (48, (4, 0, 0, 0, 1, [])), (49, (8, 0, 0, 0, 0, [])), (50, (46, 93, 118, 0, 0, [])), (53, (5, 0, 0, 0, 46, [])), (55, (27, 98, 0, 0, 0, [])), (58, (0, 5, 0, 0, 0, [])), (60, (4, 0, 0, 0, 0, [])), (61, (0, 3, 0, 0, 0, [])), (62, (4, 0, 0, 0, 1, [])), (63, (9, 0, 0, 0, 0, [])), (64, (47, 106, 117, 0, 0, [])), (67, (20, 98, 0, 0, 0, [])), (70, (1, 0, 0, 0, 0, [])), (71, (0, 1, 0, 0, 0, [])), (72, (4, 0, 0, 0, 3, [])), (73, (8, 0, 0, 0, 0, [])), (74, (46, 93, 118, 0, 0, [])), (77, (5, 0, 0, 0, 46, [])), (79, (27, 98, 0, 0, 0, [])), (82, (0, 6, 0, 0, 0, [])), (84, (4, 0, 0, 0, 0, [])), (85, (0, 3, 0, 0, 0, [])), (86, (4, 0, 0, 0, 1, [])), (87, (9, 0, 0, 0, 0, [])), (88, (47, 106, 117, 0, 0, [])), (91, (20, 98, 0, 0, 0, [])), (94, (4, 0, 0, 0, 1, [])), (95, (19, 99, 0, 0, 0, [])), (98, (4, 0, 0, 0, 0, [])), (99, (2, 7, 0, 0, 0, [])), (101, (0, 7, 0, 0, 0, [])), (103, (20, 121, 0, 0, 0, [])), (106, (0, 4, 0, 0, 0, [])), (108, (0, 3, 0, 0, 0, [])), (109, (10, 0, 0, 0, 0, [])), (110, (0, 5, 0, 0, 0, [])), (112, (8, 0, 0, 0, 0, [])), (113, (0, 3, 0, 0, 0, [])), (114, (10, 0, 0, 0, 0, [])), (115, (0, 6, 0, 0, 0, [])), (117, (8, 0, 0, 0, 0, [])), (118, (19, 122, 0, 0, 0, [])), (121, (4, 0, 0, 0, -1, [])), (122, (52, 1, 0, 0, 0, []))]
def C_122 : List (Nat × Op) := [(0, (1, 0, 0, 0, 0, [])), (1, (0, 1, 0, 0, 0, [])), (2, (46, 110, 121, 0, 0, [])), (5, (2, 2, 0, 0, 0, [])), (6, (0, 2, 0, 0, 0, [])), (7, (22, 22, 0, 0, 0, [])), (10, (1, 0, 0, 0, 0, [])), (11, (0, 1, 0, 0, 0, [])), (12, (4, 0, 0, 0, 5, [])), (13, (8, 0, 0, 0, 0, [])), (14, (46, 93, 118, 0, 0, [])), (17, (5, 0, 0, 0, 62, [])), (19, (26, 26, 0, 0, 0, [])), (22, (4, 0, 0, 0, -1, [])), (23, (19, 34, 0, 0, 0, [])), (26, (1, 0, 0, 0, 0, [])), (27, (0, 1, 0, 0, 0, [])), (28, (5, 0, 0, 0, 6, [])), (30, (8, 0, 0, 0, 0, [])), (31, (46, 110, 121, 0, 0, [])), (34, (2, 3, 0, 0, 0, [])), (35, (0, 3, 0, 0, 0, [])), (36, (22, 66, 0, 0, 0, [])), (39, (0, 2, 0, 0, 0, [])), (40, (0, 3, 0, 0, 0, [])), (41, (26, 66, 0, 0, 0, [])), (44, (1, 0, 0, 0, 0, [])), (45, (0, 1, 0, 0, 0, [])), (46, (5, 0, 0, 0, 11, [])), (48, (8, 0, 0, 0, 0, [])), (49, (46, 93, 118, 0, 0, [])), (52, (5, 0, 0, 0, 44, [])), (54, (27, 66, 0, 0, 0, [])), (57, (1, 0, 0, 0, 0, [])), (58, (32, 113, 9, 15, 0, [])), (61, (5, 0, 0, 0, 16, [])), (63, (27, 68, 0, 0, 0, [])), (66, (4, 0, 0, 0, -1, [])), (67, (52, 1, 0, 0, 0, [])), (68, (1, 0, 0, 0, 0, [])), (69, (0, 1, 0, 0, 0, [])), (70, (5, 0, 0, 0, 12, [])), (72, (8, 0, 0, 0, 0, [])), (73, (4, 0, 0, 0, 2, [])), (74, (46, 116, 120, 0, 0, [])), (77, (2, 4, 0, 0, 0, [])), (79, (0, 4, 0, 0, 0, [])), (81, (4, 0, 0, 0, 1, [])), (82, (29, 87, 0, 0, 0, [])), (85, (4, 0, 0, 0, -1, [])), (86, (52, 1, 0, 0, 0, [])), (87, (1, 0, 0, 0, 0, [])), (88, (33, 37, 9, 16, 0, [])), (91, (4, 0, 0, 0, 4, [])), (92, (1, 0, 0, 0, 0, [])), (93, (32, 113, 9, 15, 0, [])), (96, (10, 0, 0, 0, 0, [])), (97, (0, 2, 0, 0, 0, [])), (98, (39, 0, 0, 0, 0, [])), (99, (1, 0, 0, 0, 0, [])), (100, (33, 37, 9, 16, 0, [])), (103, (4, 0, 0, 0, 4, [])), (104, (1, 0, 0, 0, 0, [])), (105, (32, 113, 9, 15, 0, [])), (108, (10, 0, 0, 0, 0, [])), (109, (4, 0, 0, 0, 1, [])), (110, (8, 0, 0, 0, 0, [])), (111, (0, 3, 0, 0, 0, [])), (112, (39, 0, 0, 0, 0, [])), (113, (1, 0, 0, 0, 0, [])), (114, (33, 37, 9, 16, 0, [])), (117, (4, 0, 0, 0, 4, [])), (118, (1, 0, 0, 0, 0, [])), (119, (32, 113, 9, 15, 0, [])), (122, (10, 0, 0, 0, 0, [])), (123, (4, 0, 0, 0, 2, [])), (124, (8, 0, 0, 0, 0, [])), (125, (0, 4, 0, 0, 0, [])), (127, (39, 0, 0, 0, 0, [])), (128, (1, 0, 0, 0, 0, [])), (129, (33, 37, 9, 16, 0, [])), (132, (4, 0, 0, 0, 4, [])), (133, (1, 0, 0, 0, 0, [])), (134, (32, 113, 9, 15, 0, [])), (137, (10, 0, 0, 0, 0, [])), (138, (4, 0, 0, 0, 3, [])), (139, (8, 0, 0, 0, 0, [])), (140, (4, 0, 0, 0, 0, [])), (141, (39, 0, 0, 0, 0, [])), (142, (1, 0, 0, 0, 0, [])), (143, (16, 0, 0, 0, 0, [])), (144, (32, 113, 9, 15, 0, [])), (147, (4, 0, 0, 0, 1, [])), (148, (8, 0, 0, 0, 0, [])), (149, (34, 113, 9, 15, 0, [])), (152, (1, 0, 0, 0, 0, [])), (153, (32, 100, 9, 28, 0, [])), (156, (52, 1, 0, 0, 0, []))]
def C_123 : List (Nat × Op) := [(0, (0, 1, 0, 0, 0, [])), (1, (5, 0, 0, 0, 107, [])), (3, (27, 46, 0, 0, 0, [])), (6, (1, 0, 0, 0, 0, [])), (7, (0, 2, 0, 0, 0, [])), (8, (46, 97, 119, 0, 0, [])), (11, (2, 3, 0, 0, 0, [])), (12, (1, 0, 0, 0, 0, [])), (13, (32, 103, 9, 14, 0, [])), (16, (24, 35, 0, 0, 0, [])), (19, (0, 3, 0, 0, 0, [])), (20, (4, 0, 0, 0, 2, [])), (21, (26, 37, 0, 0, 0, [])), (24, (0, 3, 0, 0, 0, [])), (25, (4, 0, 0, 0, 4, [])), (26, (26, 37, 0, 0, 0, [])), (29, (0, 3, 0, 0, 0, [])), (30, (5, 0, 0, 0, 6, [])), (32, (26, 37, 0, 0, 0, [])), (35, (4, 0, 0, 0, -1, [])), (36, (52, 1, 0, 0, 0, [])), (37, (1, 0, 0, 0, 0, [])), (38, (0, 3, 0, 0, 0, [])), (39, (34, 103, 9, 14, 0, [])), (42, (0, 2, 0, 0, 0, [])), (43, (4, 0, 0, 0, 1, [])), (44, (8, 0, 0, 0, 0, [])), (45, (52, 1, 0, 0, 0, [])), (46, (1, 0, 0, 0, 0, [])), (47, (32, 103, 9, 14, 0, [])), (50, (21, 55, 0, 0, 0, [])), (53, (4, 0, 0, 0, -1, [])), (54, (52, 1, 0, 0, 0, [])), (55, (0, 1, 0, 0, 0, [])), (56, (5, 0, 0, 0, 102, [])), (58, (27, 67, 0, 0, 0, [])), (61, (1, 0, 0, 0, 0, [])), (62, (0, 2, 0, 0, 0, [])), (63, (46, 120, 122, 0, 0, [])), (66, (52, 1, 0, 0, 0, [])), (67, (0, 1, 0, 0, 0, [])), (68, (5, 0, 0, 0, 120, [])), (70, (26, 75, 0, 0, 0, [])), (73, (4, 0, 0, 0, -1, [])), (74, (52, 1, 0, 0, 0, [])), (75, (1, 0, 0, 0, 0, [])), (76, (0, 2, 0, 0, 0, [])), (77, (4, 0, 0, 0, 3, [])), (78, (46, 116, 120, 0, 0, [])), (81, (2, 3, 0, 0, 0, [])), (82, (0, 3, 0, 0, 0, [])), (83, (22, 116, 0, 0, 0, [])), (86, (0, 3, 0, 0, 0, [])), (87, (1, 0, 0, 0, 0, [])), (88, (32, 103, 9, 14, 0, [])), (91, (1, 0, 0, 0, 0, [])), (92, (32, 103, 9, 14, 0, [])), (95, (10, 0, 0, 0, 0, [])), (96, (1, 0, 0, 0, 0, [])), (97, (32, 103, 9, 14, 0, [])), (100, (10, 0, 0, 0, 0, [])), (101, (4, 0, 0, 0, 2, [])), (102, (11, 0, 0, 0, 0, [])), (103, (29, 116, 0, 0, 0, [])), (106, (1, 0, 0, 0, 0, [])), (107, (33, 40, 9, 17, 0, [])), (110, (0, 3, 0, 0, 0, [])), (111, (38, 0, 0, 0, 0, [])), (112, (4, 0, 0, 0, 1, [])), (113, (27, 118, 0, 0, 0, [])), (116, (4, 0, 0, 0, -1, [])), (117, (52, 1, 0, 0, 0, [])), (118, (1, 0, 0, 0, 0, [])), (119, (33, 40, 9, 17, 0, [])), (122, (0, 3, 0, 0, 0, [])), (123, (4, 0, 0, 0, 1, [])), (124, (39, 0, 0, 0, 0, [])), (125, (1, 0, 0, 0, 0, [])), (126, (32, 100, 9, 28, 0, [])), (129, (52, 1, 0, 0, 0, []))]
def C_124 : List (Nat × Op) := [(0, (1, 0, 0, 0, 0, [])), (1, (4, 0, 0, 0, 0, [])), (2, (34, 103, 9, 14, 0, [])), (5, (1, 0, 0, 0, 0, [])), (6, (4, 0, 0, 0, 0, [])), (7, (34, 113, 9, 15, 0, [])), (10, (4, 0, 0, 0, 0, [])), (11, (2, 1, 0, 0, 0, [])), (12, (0, 1, 0, 0, 0, [])), (13, (5, 0, 0, 0, 108, [])), (15, (29, 31, 0, 0, 0, [])), (18, (1, 0, 0, 0, 0, [])), (19, (33, 40, 9, 17, 0, [])), (22, (0, 1, 0, 0, 0, [])), (23, (4, 0, 0, 0, 0, [])), (24, (39, 0, 0, 0, 0, [])), (25, (13, 1, 0, 0, 1, [])), (28, (19, 12, 0, 0, 0, [])), (31, (4, 0, 0, 0, 0, [])), (32, (2, 1, 0, 0, 0, [])), (33, (0, 1, 0, 0, 0, [])), (34, (1, 0, 0, 0, 0, [])), (35, (32, 90, 9, 0, 0, [])), (38, (29, 78, 0, 0, 0, [])), (41, (1, 0, 0, 0, 0, [])), (42, (1, 0, 0, 0, 0, [])), (43, (33, 7, 9, 1, 0, [])), (46, (0, 1, 0, 0, 0, [])), (47, (38, 0, 0, 0, 0, [])), (48, (0, 1, 0, 0, 0, [])), (49, (4, 0, 0, 0, 1, [])), (50, (8, 0, 0, 0, 0, [])), (51, (46, 123, 123, 0, 0, [])), (54, (2, 2, 0, 0, 0, [])), (55, (0, 2, 0, 0, 0, [])), (56, (22, 69, 0, 0, 0, [])), (59, (1, 0, 0, 0, 0, [])), (60, (0, 2, 0, 0, 0, [])), (61, (46, 93, 118, 0, 0, [])), (64, (5, 0, 0, 0, 59, [])), (66, (26, 71, 0, 0, 0, [])), (69, (0, 1, 0, 0, 0, [])), (70, (52, 1, 0, 0, 0, [])), (71, (0, 2, 0, 0, 0, [])), (72, (4, 0, 0, 0, 1, [])), (73, (8, 0, 0, 0, 0, [])), (74, (2, 1, 0, 0, 0, [])), (75, (19, 33, 0, 0, 0, [])), (78, (5, 0, 0, 0, -4, [])), (80, (52, 1, 0, 0, 0, []))]
def C_125 : List (Nat × Op) := [(0, (0, 1, 0, 0, 0, [])), (1, (5, 0, 0, 0, 32, [])), (3, (28, 12, 0, 0, 0, [])), (6, (0, 1, 0, 0, 0, [])), (7, (5, 0, 0, 0, 126, [])), (9, (31, 14, 0, 0, 0, [])), (12, (4, 0, 0, 0, -1, [])), (13, (52, 1, 0, 0, 0, [])), (14, (1, 0, 0, 0, 0, [])), (15, (32, 90, 9, 0, 0, [])), (18, (6, 0, 0, 0, 200, [])), (21, (27, 27, 0, 0, 0, [])), (24, (5, 0, 0, 0, -3, [])), (26, (52, 1, 0, 0, 0, [])), (27, (1, 0, 0, 0, 0, [])), (28, (33, 7, 9, 1, 0, [])), (31, (1, 0, 0, 0, 0, [])), (32, (32, 90, 9, 0, 0, [])), (35, (0, 1, 0, 0, 0, [])), (36, (39, 0, 0, 0, 0, [])), (37, (1, 0, 0, 0, 0, [])), (38, (16, 0, 0, 0, 0, [])), (39, (32, 90, 9, 0, 0, [])), (42, (4, 0, 0, 0, 1, [])), (43, (8, 0, 0, 0, 0, [])), (44, (34, 90, 9, 0, 0, [])), (47, (1, 0, 0, 0, 0, [])), (48, (32, 90, 9, 0, 0, [])), (51, (52, 1, 0, 0, 0, []))]
def C_126 : List (Nat × Op) := [(0, (1, 0, 0, 0, 0, [])), (1, (32, 90, 9, 0, 0, [])), (4, (2, 1, 0, 0, 0, [])), (5, (1, 0, 0, 0, 0, [])), (6, (4, 0, 0, 0, 0, [])), (7, (34, 90, 9, 0, 0, [])), (10, (0, 1, 0, 0, 0, [])), (11, (52, 1, 0, 0, 0, []))]
def C_127 : List (Nat × Op) := [(0, (1, 0, 0, 0, 0, [])), (1, (46, 126, 124, 0, 0, [])), (4, (52, 1, 0, 0, 0, []))]
def C_128 : List (Nat × Op) := [(0, (1, 0, 0, 0, 0, [])), (1, (46, 126, 124, 0, 0, [])), (4, (5, 0, 0, 0, -4, [])), (6, (27, 16, 0, 0, 0, [])), (9, (1, 0, 0, 0, 0, [])), (10, (32, 103, 9, 14, 0, [])), (13, (21, 19, 0, 0, 0, [])), (16, (5, 0, 0, 0, -2, [])), (18, (52, 1, 0, 0, 0, [])), (19, (1, 0, 0, 0, 0, [])), (20, (1, 0, 0, 0, 0, [])), (21, (32, 103, 9, 14, 0, [])), (24, (46, 70, 115, 0, 0, [])), (27, (1, 0, 0, 0, 0, [])), (28, (1, 0, 0, 0, 0, [])), (29, (32, 113, 9, 15, 0, [])), (32, (34, 74, 9, 7, 0, [])), (35, (4, 0, 0, 0, 0, [])), (36, (2, 1, 0, 0, 0, [])), (37, (0, 1, 0, 0, 0, [])), (38, (5, 0, 0, 0, 64, [])), (40, (29, 61, 0, 0, 0, [])), (43, (1, 0, 0, 0, 0, [])), (44, (33, 22, 9, 8, 0, [])), (47, (0, 1, 0, 0, 0, [])), (48, (1, 0, 0, 0, 0, [])), (49, (33, 37, 9, 16, 0, [])), (52, (0, 1, 0, 0, 0, [])), (53, (38, 0, 0, 0, 0, [])), (54, (39, 0, 0, 0, 0, [])), (55, (13, 1, 0, 0, 1, [])), (58, (19, 37, 0, 0, 0, [])), (61, (4, 0, 0, 0, 0, [])), (62, (2, 1, 0, 0, 0, [])), (63, (0, 1, 0, 0, 0, [])), (64, (5, 0, 0, 0, 108, [])), (66, (29, 90, 0, 0, 0, [])), (69, (1, 0, 0, 0, 0, [])), (70, (33, 40, 9, 17, 0, [])), (73, (0, 1, 0, 0, 0, [])), (74, (38, 0, 0, 0, 0, [])), (75, (4, 0, 0, 0, 1, [])), (76, (27, 84, 0, 0, 0, [])), (79, (1, 0, 0, 0, 0, [])), (80, (0, 1, 0, 0, 0, [])), (81, (46, 78, 116, 0, 0, [])), (84, (13, 1, 0, 0, 1, [])), (87, (19, 63, 0, 0, 0, [])), (90, (1, 0, 0, 0, 0, [])), (91, (46, 130, 129, 0, 0, [])), (94, (52, 1, 0, 0, 0, []))]
def C_129 : List (Nat × Op) := [(0, (1, 0, 0, 0, 0, [])), (1, (32, 81, 9, 2, 0, [])), (4, (1, 0, 0, 0, 0, [])), (5, (32, 84, 9, 3, 0, [])), (8, (10, 0, 0, 0, 0, [])), (9, (1, 0, 0, 0, 0, [])), (10, (32, 84, 9, 3, 0, [])), (13, (10, 0, 0, 0, 0, [])), (14, (52, 1, 0, 0, 0, []))]
def C_130 : List (Nat × Op) := [(0, (1, 0, 0, 0, 0, [])), (1, (32, 81, 9, 2, 0, [])), (4, (1, 0, 0, 0, 0, [])), (5, (32, 84, 9, 3, 0, [])), (8, (10, 0, 0, 0, 0, [])), (9, (52, 1, 0, 0, 0, []))]
def C_131 : List (Nat × Op) := [(0, (4, 0, 0, 0, 2, [])), (1, (1, 0, 0, 0, 0, [])), (2, (32, 81, 9, 2, 0, [])), (5, (10, 0, 0, 0, 0, [])), (6, (1, 0, 0, 0, 0, [])), (7, (32, 84, 9, 3, 0, [])), (10, (10, 0, 0, 0, 0, [])), (11, (1, 0, 0, 0, 0, [])), (12, (32, 84, 9, 3, 0, [])), (15, (1, 0, 0, 0, 0, [])), (16, (32, 84, 9, 3, 0, [])), (19, (10, 0, 0, 0, 0, [])), (20, (8, 0, 0, 0, 0, [])), (21, (52, 1, 0, 0, 0, []))]
def C_132 : List (Nat × Op) := [(0, (4, 0, 0, 0, 2, [])), (1, (1, 0, 0, 0, 0, [])), (2, (32, 81, 9, 2, 0, [])), (5, (10, 0, 0, 0, 0, [])), (6, (1, 0, 0, 0, 0, [])), (7, (32, 84, 9, 3, 0, [])), (10, (10, 0, 0, 0, 0, [])), (11, (1, 0, 0, 0, 0, [])), (12, (32, 84, 9, 3, 0, [])), (15, (10, 0, 0, 0, 0, [])), (16, (52, 1, 0, 0, 0, []))]
def C_133 : List (Nat × Op) := [(0, (0, 1, 0, 0, 0, [])), (1, (4, 0, 0, 0, 0, [])), (2, (1, 0, 0, 0, 0, [])), (3, (46, 130, 129, 0, 0, [])), (6, (4, 0, 0, 0, 1, [])), (7, (9, 0, 0, 0, 0, [])), (8, (47, 106, 117, 0, 0, [])), (11, (52, 2, 0, 0, 0, []))]
def C_134 : List (Nat × Op) := [(0, (0, 1, 0, 0, 0, [])), (1, (4, 0, 0, 0, 0, [])), (2, (1, 0, 0, 0, 0, [])), (3, (46, 133, 131, 0, 0, [])), (6, (4, 0, 0, 0, 1, [])), (7, (9, 0, 0, 0, 0, [])), (8, (47, 106, 117, 0, 0, [])), (11, (52, 2, 0, 0, 0, []))]
def C_135 : List (Nat × Op) := [(0, (0, 1, 0, 0, 0, [])), (1, (4, 0, 0, 0, 0, [])), (2, (1, 0, 0, 0, 0, [])), (3, (46, 136, 132, 0, 0, [])), (6, (4, 0, 0, 0, 1, [])), (7, (9, 0, 0, 0, 0, [])), (8, (47, 106, 117, 0, 0, [])), (11, (52, 2, 0, 0, 0, []))]
def C_136 : List (Nat × Op) := [(0, (0, 1, 0, 0, 0, [])), (1, (4, 0, 0, 0, 0, [])), (2, (1, 0, 0, 0, 0, [])), (3, (32, 84, 9, 3, 0, [])), (6, (1, 0, 0, 0, 0, [])), (7, (32, 84, 9, 3, 0, [])), (10, (10, 0, 0, 0, 0, [])), (11, (4, 0, 0, 0, 1, [])), (12, (9, 0, 0, 0, 0, [])), (13, (47, 106, 117, 0, 0, [])), (16, (52, 2, 0, 0, 0, []))]
def C_137 : List (Nat × Op) := [(0, (0, 1, 0, 0, 0, [])), (1, (1, 0, 0, 0, 0, [])), (2, (46, 139, 130, 0, 0, [])), (5, (29, 12, 0, 0, 0, [])), (8, (4, 0, 0, 0, 0, [])), (9, (19, 27, 0, 0, 0, [])), (12, (0, 1, 0, 0, 0, [])), (13, (4, 0, 0, 0, 2, [])), (14, (1, 0, 0, 0, 0, [])), (15, (46, 139, 130, 0, 0, [])), (18, (10, 0, 0, 0, 0, [])), (19, (29, 26, 0, 0, 0, [])), (22, (4, 0, 0, 0, 1, [])), (23, (19, 27, 0, 0, 0, [])), (26, (4, 0, 0, 0, 2, [])), (27, (52, 1, 0, 0, 0, []))]
def C_138 : List (Nat × Op) := [(0, (0, 1, 0, 0, 0, [])), (1, (1, 0, 0, 0, 0, [])), (2, (32, 84, 9, 3, 0, [])), (5, (10, 0, 0, 0, 0, [])), (6, (0, 2, 0, 0, 0, [])), (7, (8, 0, 0, 0, 0, [])), (8, (1, 0, 0, 0, 0, [])), (9, (32, 84, 9, 3, 0, [])), (12, (10, 0, 0, 0, 0, [])), (13, (0, 3, 0, 0, 0, [])), (14, (8, 0, 0, 0, 0, [])), (15, (52, 1, 0, 0, 0, []))]
def C_139 : List (Nat × Op) := [(0, (1, 0, 0, 0, 0, [])), (1, (46, 130, 129, 0, 0, [])), (4, (0, 1, 0, 0, 0, [])), (5, (1, 0, 0, 0, 0, [])), (6, (32, 84, 9, 3, 0, [])), (9, (10, 0, 0, 0, 0, [])), (10, (0, 2, 0, 0, 0, [])), (11, (8, 0, 0, 0, 0, [])), (12, (1, 0, 0, 0, 0, [])), (13, (32, 84, 9, 3, 0, [])), (16, (10, 0, 0, 0, 0, [])), (17, (8, 0, 0, 0, 0, [])), (18, (0, 3, 0, 0, 0, [])), (19, (8, 0, 0, 0, 0, [])), (20, (52, 1, 0, 0, 0, []))]
def C_140 : List (Nat × Op) := [(0, (0, 1, 0, 0, 0, [])), (1, (1, 0, 0, 0, 0, [])), (2, (46, 130, 129, 0, 0, [])), (5, (29, 17, 0, 0, 0, [])), (8, (0, 1, 0, 0, 0, [])), (9, (1, 0, 0, 0, 0, [])), (10, (32, 84, 9, 3, 0, [])), (13, (11, 0, 0, 0, 0, [])), (14, (19, 33, 0, 0, 0, [])), (17, (1, 0, 0, 0, 0, [])), (18, (46, 139, 130, 0, 0, [])), (21, (0, 1, 0, 0, 0, [])), (22, (1, 0, 0, 0, 0, [])), (23, (46, 130, 129, 0, 0, [])), (26, (9, 0, 0, 0, 0, [])), (27, (1, 0, 0, 0, 0, [])), (28, (32, 84, 9, 3, 0, [])), (31, (11, 0, 0, 0, 0, [])), (32, (8, 0, 0, 0, 0, [])), (33, (52, 1, 0, 0, 0, []))]
def C_141 : List (Nat × Op) := [(0, (0, 1, 0, 0, 0, [])), (1, (1, 0, 0, 0, 0, [])), (2, (46, 130, 129, 0, 0, [])), (5, (29, 37, 0, 0, 0, [])), (8, (1, 0, 0, 0, 0, [])), (9, (46, 139, 130, 0, 0, [])), (12, (0, 1, 0, 0, 0, [])), (13, (1, 0, 0, 0, 0, [])), (14, (32, 84, 9, 3, 0, [])), (17, (11, 0, 0, 0, 0, [])), (18, (1, 0, 0, 0, 0, [])), (19, (32, 84, 9, 3, 0, [])), (22, (11, 0, 0, 0, 0, [])), (23, (1, 0, 0, 0, 0, [])), (24, (32, 84, 9, 3, 0, [])), (27, (10, 0, 0, 0, 0, [])), (28, (8, 0, 0, 0, 0, [])), (29, (0, 1, 0, 0, 0, [])), (30, (1, 0, 0, 0, 0, [])), (31, (32, 84, 9, 3, 0, [])), (34, (12, 0, 0, 0, 0, [])), (35, (8, 0, 0, 0, 0, [])), (36, (52, 1, 0, 0, 0, [])), (37, (0, 1, 0, 0, 0, [])), (38, (1, 0, 0, 0, 0, [])), (39, (46, 130, 129, 0, 0, [])), (42, (9, 0, 0, 0, 0, [])), (43, (2, 2, 0, 0, 0, [])), (44, (4, 0, 0, 0, 2, [])), (45, (1, 0, 0, 0, 0, [])), (46, (46, 139, 130, 0, 0, [])), (49, (10, 0, 0, 0, 0, [])), (50, (0, 2, 0, 0, 0, [])), (51, (1, 0, 0, 0, 0, [])), (52, (32, 84, 9, 3, 0, [])), (55, (11, 0, 0, 0, 0, [])), (56, (1, 0, 0, 0, 0, [])), (57, (32, 84, 9, 3, 0, [])), (60, (12, 0, 0, 0, 0, [])), (61, (1, 0, 0, 0, 0, [])), (62, (32, 84, 9, 3, 0, [])), (65, (10, 0, 0, 0, 0, [])), (66, (8, 0, 0, 0, 0, [])), (67, (0, 2, 0, 0, 0, [])), (68, (1, 0, 0, 0, 0, [])), (69, (32, 84, 9, 3, 0, [])), (72, (12, 0, 0, 0, 0, [])), (73, (8, 0, 0, 0, 0, [])), (74, (52, 1, 0, 0, 0, []))]
def C_142 : List (Nat × Op) := [(0, (1, 0, 0, 0, 0, [])), (1, (33, 13, 9, 4, 0, [])), (4, (0, 1, 0, 0, 0, [])), (5, (38, 0, 0, 0, 0, [])), (6, (4, 0, 0, 0, 2, [])), (7, (12, 0, 0, 0, 0, [])), (8, (21, 15, 0, 0, 0, [])), (11, (4, 0, 0, 0, 1, [])), (12, (19, 16, 0, 0, 0, [])), (15, (4, 0, 0, 0, 0, [])), (16, (52, 2, 0, 0, 0, []))]
def C_143 : List (Nat × Op) := [(0, (1, 0, 0, 0, 0, [])), (1, (0, 2, 0, 0, 0, [])), (2, (46, 142, 140, 0, 0, [])), (5, (0, 1, 0, 0, 0, [])), (6, (26, 18, 0, 0, 0, [])), (9, (1, 0, 0, 0, 0, [])), (10, (0, 2, 0, 0, 0, [])), (11, (46, 145, 141, 0, 0, [])), (14, (0, 1, 0, 0, 0, [])), (15, (27, 22, 0, 0, 0, [])), (18, (4, 0, 0, 0, 1, [])), (19, (19, 23, 0, 0, 0, [])), (22, (4, 0, 0, 0, 0, [])), (23, (52, 2, 0, 0, 0, []))]
def C_144 : List (Nat × Op) := [(0, (0, 1, 0, 0, 0, [])), (1, (4, 0, 0, 0, 0, [])), (2, (1, 0, 0, 0, 0, [])), (3, (32, 81, 9, 2, 0, [])), (6, (4, 0, 0, 0, 1, [])), (7, (9, 0, 0, 0, 0, [])), (8, (47, 106, 117, 0, 0, [])), (11, (20, 60, 0, 0, 0, [])), (14, (0, 2, 0, 0, 0, [])), (15, (4, 0, 0, 0, 0, [])), (16, (1, 0, 0, 0, 0, [])), (17, (32, 84, 9, 3, 0, [])), (20, (4, 0, 0, 0, 1, [])), (21, (9, 0, 0, 0, 0, [])), (22, (47, 106, 117, 0, 0, [])), (25, (20, 60, 0, 0, 0, [])), (28, (0, 3, 0, 0, 0, [])), (29, (4, 0, 0, 0, 0, [])), (30, (1, 0, 0, 0, 0, [])), (31, (32, 84, 9, 3, 0, [])), (34, (4, 0, 0, 0, 1, [])), (35, (9, 0, 0, 0, 0, [])), (36, (47, 106, 117, 0, 0, [])), (39, (20, 60, 0, 0, 0, [])), (42, (0, 1, 0, 0, 0, [])), (43, (1, 0, 0, 0, 0, [])), (44, (32, 84, 9, 3, 0, [])), (47, (10, 0, 0, 0, 0, [])), (48, (0, 2, 0, 0, 0, [])), (49, (8, 0, 0, 0, 0, [])), (50, (1, 0, 0, 0, 0, [])), (51, (32, 84, 9, 3, 0, [])), (54, (10, 0, 0, 0, 0, [])), (55, (0, 3, 0, 0, 0, [])), (56, (8, 0, 0, 0, 0, [])), (57, (19, 61, 0, 0, 0, [])), (60, (4, 0, 0, 0, -1, [])), (61, (52, 1, 0, 0, 0, []))]
def C_145 : List (Nat × Op) := [(0, (1, 0, 0, 0, 0, [])), (1, (0, 1, 0, 0, 0, [])), (2, (46, 148, 134, 0, 0, [])), (5, (20, 17, 0, 0, 0, [])), (8, (0, 2, 0, 0, 0, [])), (9, (4, 0, 0, 0, 0, [])), (10, (4, 0, 0, 0, 4, [])), (11, (47, 106, 117, 0, 0, [])), (14, (21, 19, 0, 0, 0, [])), (17, (4, 0, 0, 0, -1, [])), (18, (52, 1, 0, 0, 0, [])), (19, (1, 0, 0, 0, 0, [])), (20, (0, 1, 0, 0, 0, [])), (21, (46, 152, 137, 0, 0, [])), (24, (2, 3, 0, 0, 0, [])), (25, (0, 1, 0, 0, 0, [])), (26, (0, 3, 0, 0, 0, [])), (27, (1, 0, 0, 0, 0, [])), (28, (46, 139, 130, 0, 0, [])), (31, (10, 0, 0, 0, 0, [])), (32, (9, 0, 0, 0, 0, [])), (33, (2, 4, 0, 0, 0, [])), (35, (0, 2, 0, 0, 0, [])), (36, (51, 129, 0, 0, 0, [68, 70, 88, 111])), (68, (0, 3, 0, 0, 0, [])), (69, (52, 1, 0, 0, 0, [])), (70, (0, 3, 0, 0, 0, [])), (71, (4, 0, 0, 0, 2, [])), (72, (27, 80, 0, 0, 0, [])), (75, (5, 0, 0, 0, -4, [])), (77, (19, 87, 0, 0, 0, [])), (80, (0, 4, 0, 0, 0, [])), (82, (1, 0, 0, 0, 0, [])), (83, (32, 84, 9, 3, 0, [])), (86, (11, 0, 0, 0, 0, [])), (87, (52, 1, 0, 0, 0, [])), (88, (0, 3, 0, 0, 0, [])), (89, (4, 0, 0, 0, 2, [])), (90, (27, 103, 0, 0, 0, [])), (93, (0, 4, 0, 0, 0, [])), (95, (1, 0, 0, 0, 0, [])), (96, (32, 84, 9, 3, 0, [])), (99, (11, 0, 0, 0, 0, [])), (100, (19, 110, 0, 0, 0, [])), (103, (0, 4, 0, 0, 0, [])), (105, (1, 0, 0, 0, 0, [])), (106, (32, 84, 9, 3, 0, [])), (109, (12, 0, 0, 0, 0, [])), (110, (52, 1, 0, 0, 0, [])), (111, (0, 3, 0, 0, 0, [])), (112, (4, 0, 0, 0, 2, [])), (113, (27, 126, 0, 0, 0, [])), (116, (0, 4, 0, 0, 0, [])), (118, (1, 0, 0, 0, 0, [])), (119, (32, 84, 9, 3, 0, [])), (122, (12, 0, 0, 0, 0, [])), (123, (19, 128, 0, 0, 0, [])), (126, (5, 0, 0, 0, -4, [])), (128, (52, 1, 0, 0, 0, [])), (129, (4, 0, 0, 0, 0, [])), (130, (2, 5, 0, 0, 0, [])), (132, (4, 0, 0, 0, 0, [])), (133, (2, 6, 0, 0, 0, [])), (135, (0, 6, 0, 0, 0, [])), (137, (1, 0, 0, 0, 0, [])), (138, (46, 136, 132, 0, 0, [])), (141, (29, 179, 0, 0, 0, [])), (144, (0, 5, 0, 0, 0, [])), (146, (1, 0, 0, 0, 0, [])), (147, (0, 1, 0, 0, 0, [])), (148, (0, 6, 0, 0, 0, [])), (150, (46, 155, 143, 0, 0, [])), (153, (20, 169, 0, 0, 0, [])), (156, (1, 0, 0, 0, 0, [])), (157, (0, 6, 0, 0, 0, [])), (159, (46, 159, 142, 0, 0, [])), (162, (20, 169, 0, 0, 0, [])), (165, (4, 0, 0, 0, 1, [])), (166, (19, 170, 0, 0, 0, [])), (169, (4, 0, 0, 0, 0, [])), (170, (8, 0, 0, 0, 0, [])), (171, (2, 5, 0, 0, 0, [])), (173, (13, 6, 0, 0, 1, [])), (176, (19, 135, 0, 0, 0, [])), (179, (0, 5, 0, 0, 0, [])), (181, (52, 1, 0, 0, 0, []))]
def C_146 : List (Nat × Op) := [(0, (1, 0, 0, 0, 0, [])), (1, (0, 1, 0, 0, 0, [])), (2, (46, 162, 135, 0, 0, [])), (5, (20, 17, 0, 0, 0, [])), (8, (0, 2, 0, 0, 0, [])), (9, (4, 0, 0, 0, 0, [])), (10, (4, 0, 0, 0, 3, [])), (11, (47, 106, 117, 0, 0, [])), (14, (21, 19, 0, 0, 0, [])), (17, (4, 0, 0, 0, -1, [])), (18, (52, 1, 0, 0, 0, [])), (19, (0, 2, 0, 0, 0, [])), (20, (21, 31, 0, 0, 0, [])), (23, (1, 0, 0, 0, 0, [])), (24, (0, 1, 0, 0, 0, [])), (25, (46, 142, 140, 0, 0, [])), (28, (19, 66, 0, 0, 0, [])), (31, (0, 2, 0, 0, 0, [])), (32, (4, 0, 0, 0, 1, [])), (33, (27, 44, 0, 0, 0, [])), (36, (1, 0, 0, 0, 0, [])), (37, (0, 1, 0, 0, 0, [])), (38, (46, 145, 141, 0, 0, [])), (41, (19, 66, 0, 0, 0, [])), (44, (0, 2, 0, 0, 0, [])), (45, (4, 0, 0, 0, 2, [])), (46, (27, 60, 0, 0, 0, [])), (49, (1, 0, 0, 0, 0, [])), (50, (33, 13, 9, 4, 0, [])), (53, (0, 1, 0, 0, 0, [])), (54, (38, 0, 0, 0, 0, [])), (55, (4, 0, 0, 0, 2, [])), (56, (12, 0, 0, 0, 0, [])), (57, (19, 66, 0, 0, 0, [])), (60, (1, 0, 0, 0, 0, [])), (61, (33, 13, 9, 4, 0, [])), (64, (0, 1, 0, 0, 0, [])), (65, (38, 0, 0, 0, 0, [])), (66, (52, 1, 0, 0, 0, []))]
def C_147 : List (Nat × Op) := [(0, (1, 0, 0, 0, 0, [])), (1, (32, 87, 9, 9, 0, [])), (4, (4, 0, 0, 0, 2, [])), (5, (27, 119, 0, 0, 0, [])), (8, (4, 0, 0, 0, 0, [])), (9, (2, 1, 0, 0, 0, [])), (10, (0, 1, 0, 0, 0, [])), (11, (5, 0, 0, 0, 108, [])), (13, (29, 37, 0, 0, 0, [])), (16, (1, 0, 0, 0, 0, [])), (17, (33, 25, 9, 10, 0, [])), (20, (0, 1, 0, 0, 0, [])), (21, (1, 0, 0, 0, 0, [])), (22, (33, 25, 9, 10, 0, [])), (25, (5, 0, 0, 0, 108, [])), (27, (0, 1, 0, 0, 0, [])), (28, (8, 0, 0, 0, 0, [])), (29, (38, 0, 0, 0, 0, [])), (30, (39, 0, 0, 0, 0, [])), (31, (13, 1, 0, 0, 1, [])), (34, (19, 10, 0, 0, 0, [])), (37, (4, 0, 0, 0, 0, [])), (38, (2, 1, 0, 0, 0, [])), (39, (0, 1, 0, 0, 0, [])), (40, (6, 0, 0, 0, 4860, [])), (43, (29, 68, 0, 0, 0, [])), (46, (1, 0, 0, 0, 0, [])), (47, (33, 28, 9, 11, 0, [])), (50, (0, 1, 0, 0, 0, [])), (51, (1, 0, 0, 0, 0, [])), (52, (33, 28, 9, 11, 0, [])), (55, (6, 0, 0, 0, 4860, [])), (58, (0, 1, 0, 0, 0, [])), (59, (8, 0, 0, 0, 0, [])), (60, (38, 0, 0, 0, 0, [])), (61, (39, 0, 0, 0, 0, [])), (62, (13, 1, 0, 0, 1, [])), (65, (19, 39, 0, 0, 0, [])), (68, (4, 0, 0, 0, 0, [])), (69, (2, 1, 0, 0, 0, [])), (70, (0, 1, 0, 0, 0, [])), (71, (5, 0, 0, 0, 64, [])), (73, (29, 97, 0, 0, 0, [])), (76, (1, 0, 0, 0, 0, [])), (77, (33, 31, 9, 12, 0, [])), (80, (0, 1, 0, 0, 0, [])), (81, (1, 0, 0, 0, 0, [])), (82, (33, 31, 9, 12, 0, [])), (85, (5, 0, 0, 0, 64, [])), (87, (0, 1, 0, 0, 0, [])), (88, (8, 0, 0, 0, 0, [])), (89, (38, 0, 0, 0, 0, [])), (90, (39, 0, 0, 0, 0, [])), (91, (13, 1, 0, 0, 1, [])), (94, (19, 70, 0, 0, 0, [])), (97, (1, 0, 0, 0, 0, [])), (98, (33, 34, 9, 13, 0, [])), (101, (4, 0, 0, 0, 0, [])), (102, (1, 0, 0, 0, 0, [])), (103, (33, 34, 9, 13, 0, [])), (106, (4, 0, 0, 0, 1, [])), (107, (38, 0, 0, 0, 0, [])), (108, (39, 0, 0, 0, 0, [])), (109, (1, 0, 0, 0, 0, [])), (110, (16, 0, 0, 0, 0, [])), (111, (32, 87, 9, 9, 0, [])), (114, (4, 0, 0, 0, 1, [])), (115, (9, 0, 0, 0, 0, [])), (116, (34, 87, 9, 9, 0, [])), (119, (4, 0, 0, 0, 0, [])), (120, (2, 1, 0, 0, 0, [])), (121, (0, 1, 0, 0, 0, [])), (122, (5, 0, 0, 0, 108, [])), (124, (29, 153, 0, 0, 0, [])), (127, (1, 0, 0, 0, 0, [])), (128, (33, 25, 9, 10, 0, [])), (131, (5, 0, 0, 0, 108, [])), (133, (1, 0, 0, 0, 0, [])), (134, (32, 87, 9, 9, 0, [])), (137, (10, 0, 0, 0, 0, [])), (138, (0, 1, 0, 0, 0, [])), (139, (8, 0, 0, 0, 0, [])), (140, (1, 0, 0, 0, 0, [])), (141, (33, 13, 9, 4, 0, [])), (144, (0, 1, 0, 0, 0, [])), (145, (38, 0, 0, 0, 0, [])), (146, (39, 0, 0, 0, 0, [])), (147, (13, 1, 0, 0, 1, [])), (150, (19, 121, 0, 0, 0, [])), (153, (4, 0, 0, 0, 0, [])), (154, (2, 1, 0, 0, 0, [])), (155, (0, 1, 0, 0, 0, [])), (156, (6, 0, 0, 0, 4860, [])), (159, (29, 189, 0, 0, 0, [])), (162, (1, 0, 0, 0, 0, [])), (163, (33, 28, 9, 11, 0, [])), (166, (6, 0, 0, 0, 4860, [])), (169, (1, 0, 0, 0, 0, [])), (170, (32, 87, 9, 9, 0, [])), (173, (10, 0, 0, 0, 0, [])), (174, (0, 1, 0, 0, 0, [])), (175, (8, 0, 0, 0, 0, [])), (176, (1, 0, 0, 0, 0, [])), (177, (33, 16, 9, 5, 0, [])), (180, (0, 1, 0, 0, 0, [])), (181, (38, 0, 0, 0, 0, [])), (182, (39, 0, 0, 0, 0, [])), (183, (13, 1, 0, 0, 1, [])), (186, (19, 155, 0, 0, 0, [])), (189, (4, 0, 0, 0, 0, [])), (190, (2, 1, 0, 0, 0, [])), (191, (0, 1, 0, 0, 0, [])), (192, (5, 0, 0, 0, 64, [])), (194, (29, 223, 0, 0, 0, [])), (197, (1, 0, 0, 0, 0, [])), (198, (33, 31, 9, 12, 0, [])), (201, (5, 0, 0, 0, 64, [])), (203, (1, 0, 0, 0, 0, [])), (204, (32, 87, 9, 9, 0, [])), (207, (10, 0, 0, 0, 0, [])), (208, (0, 1, 0, 0, 0, [])), (209, (8, 0, 0, 0, 0, [])), (210, (1, 0, 0, 0, 0, [])), (211, (33, 22, 9, 8, 0, [])), (214, (0, 1, 0, 0, 0, [])), (215, (38, 0, 0, 0, 0, [])), (216, (39, 0, 0, 0, 0, [])), (217, (13, 1, 0, 0, 1, [])), (220, (19, 191, 0, 0, 0, [])), (223, (1, 0, 0, 0, 0, [])), (224, (33, 34, 9, 13, 0, [])), (227, (1, 0, 0, 0, 0, [])), (228, (32, 87, 9, 9, 0, [])), (231, (1, 0, 0, 0, 0, [])), (232, (32, 74, 9, 7, 0, [])), (235, (39, 0, 0, 0, 0, [])), (236, (1, 0, 0, 0, 0, [])), (237, (16, 0, 0, 0, 0, [])), (238, (32, 87, 9, 9, 0, [])), (241, (4, 0, 0, 0, 1, [])), (242, (8, 0, 0, 0, 0, [])), (243, (34, 87, 9, 9, 0, [])), (246, (53, 0, 0, 0, 0, []))]
def C_148 : List (Nat × Op) := [(0, (1, 0, 0, 0, 0, [])), (1, (32, 87, 9, 9, 0, [])), (4, (21, 10, 0, 0, 0, [])), (7, (5, 0, 0, 0, -2, [])), (9, (52, 1, 0, 0, 0, [])), (10, (1, 0, 0, 0, 0, [])), (11, (16, 0, 0, 0, 0, [])), (12, (32, 87, 9, 9, 0, [])), (15, (4, 0, 0, 0, 1, [])), (16, (9, 0, 0, 0, 0, [])), (17, (34, 87, 9, 9, 0, [])), (20, (4, 0, 0, 0, 0, [])), (21, (2, 1, 0, 0, 0, [])), (22, (0, 1, 0, 0, 0, [])), (23, (5, 0, 0, 0, 108, [])), (25, (29, 54, 0, 0, 0, [])), (28, (1, 0, 0, 0, 0, [])), (29, (33, 13, 9, 4, 0, [])), (32, (0, 1, 0, 0, 0, [])), (33, (1, 0, 0, 0, 0, [])), (34, (33, 25, 9, 10, 0, [])), (37, (5, 0, 0, 0, 108, [])), (39, (1, 0, 0, 0, 0, [])), (40, (32, 87, 9, 9, 0, [])), (43, (10, 0, 0, 0, 0, [])), (44, (0, 1, 0, 0, 0, [])), (45, (8, 0, 0, 0, 0, [])), (46, (38, 0, 0, 0, 0, [])), (47, (39, 0, 0, 0, 0, [])), (48, (13, 1, 0, 0, 1, [])), (51, (19, 22, 0, 0, 0, [])), (54, (4, 0, 0, 0, 0, [])), (55, (2, 1, 0, 0, 0, [])), (56, (0, 1, 0, 0, 0, [])), (57, (6, 0, 0, 0, 4860, [])), (60, (29, 90, 0, 0, 0, [])), (63, (1, 0, 0, 0, 0, [])), (64, (33, 16, 9, 5, 0, [])), (67, (0, 1, 0, 0, 0, [])), (68, (1, 0, 0, 0, 0, [])), (69, (33, 28, 9, 11, 0, [])), (72, (6, 0, 0, 0, 4860, [])), (75, (1, 0, 0, 0, 0, [])), (76, (32, 87, 9, 9, 0, [])), (79, (10, 0, 0, 0, 0, [])), (80, (0, 1, 0, 0, 0, [])), (81, (8, 0, 0, 0, 0, [])), (82, (38, 0, 0, 0, 0, [])), (83, (39, 0, 0, 0, 0, [])), (84, (13, 1, 0, 0, 1, [])), (87, (19, 56, 0, 0, 0, [])), (90, (4, 0, 0, 0, 0, [])), (91, (2, 1, 0, 0, 0, [])), (92, (0, 1, 0, 0, 0, [])), (93, (5, 0, 0, 0, 64, [])), (95, (29, 124, 0, 0, 0, [])), (98, (1, 0, 0, 0, 0, [])), (99, (33, 22, 9, 8, 0, [])), (102, (0, 1, 0, 0, 0, [])), (103, (1, 0, 0, 0, 0, [])), (104, (33, 31, 9, 12, 0, [])), (107, (5, 0, 0, 0, 64, [])), (109, (1, 0, 0, 0, 0, [])), (110, (32, 87, 9, 9, 0, [])), (113, (10, 0, 0, 0, 0, [])), (114, (0, 1, 0, 0, 0, [])), (115, (8, 0, 0, 0, 0, [])), (116, (38, 0, 0, 0, 0, [])), (117, (39, 0, 0, 0, 0, [])), (118, (13, 1, 0, 0, 1, [])), (121, (19, 92, 0, 0, 0, [])), (124, (1, 0, 0, 0, 0, [])), (125, (1, 0, 0, 0, 0, [])), (126, (33, 34, 9, 13, 0, [])), (129, (1, 0, 0, 0, 0, [])), (130, (32, 87, 9, 9, 0, [])), (133, (38, 0, 0, 0, 0, [])), (134, (34, 74, 9, 7, 0, [])), (137, (1, 0, 0, 0, 0, [])), (138, (32, 87, 9, 9, 0, [])), (141, (52, 1, 0, 0, 0, []))]
def C_149 : List (Nat × Op) := [(0, (1, 0, 0, 0, 0, [])), (1, (33, 13, 9, 4, 0, [])), (4, (0, 1, 0, 0, 0, [])), (5, (17, 0, 0, 0, 0, [])), (6, (38, 0, 0, 0, 0, [])), (7, (4, 0, 0, 0, 1, [])), (8, (8, 0, 0, 0, 0, [])), (9, (39, 0, 0, 0, 0, [])), (10, (1, 0, 0, 0, 0, [])), (11, (33, 16, 9, 5, 0, [])), (14, (5, 0, 0, 0, 108, [])), (16, (1, 0, 0, 0, 0, [])), (17, (0, 1, 0, 0, 0, [])), (18, (46, 142, 140, 0, 0, [])), (21, (10, 0, 0, 0, 0, [])), (22, (0, 1, 0, 0, 0, [])), (23, (8, 0, 0, 0, 0, [])), (24, (1, 0, 0, 0, 0, [])), (25, (33, 13, 9, 4, 0, [])), (28, (0, 1, 0, 0, 0, [])), (29, (38, 0, 0, 0, 0, [])), (30, (39, 0, 0, 0, 0, [])), (31, (1, 0, 0, 0, 0, [])), (32, (33, 16, 9, 5, 0, [])), (35, (5, 0, 0, 0, 108, [])), (37, (1, 0, 0, 0, 0, [])), (38, (0, 1, 0, 0, 0, [])), (39, (46, 145, 141, 0, 0, [])), (42, (10, 0, 0, 0, 0, [])), (43, (0, 1, 0, 0, 0, [])), (44, (8, 0, 0, 0, 0, [])), (45, (1, 0, 0, 0, 0, [])), (46, (33, 13, 9, 4, 0, [])), (49, (0, 1, 0, 0, 0, [])), (50, (38, 0, 0, 0, 0, [])), (51, (39, 0, 0, 0, 0, [])), (52, (53, 0, 0, 0, 0, []))]
def C_150 : List (Nat × Op) := [(0, (1, 0, 0, 0, 0, [])), (1, (0, 1, 0, 0, 0, [])), (2, (46, 162, 135, 0, 0, [])), (5, (20, 17, 0, 0, 0, [])), (8, (0, 2, 0, 0, 0, [])), (9, (4, 0, 0, 0, 0, [])), (10, (4, 0, 0, 0, 1, [])), (11, (47, 106, 117, 0, 0, [])), (14, (21, 19, 0, 0, 0, [])), (17, (4, 0, 0, 0, -1, [])), (18, (52, 1, 0, 0, 0, [])), (19, (1, 0, 0, 0, 0, [])), (20, (33, 13, 9, 4, 0, [])), (23, (0, 1, 0, 0, 0, [])), (24, (38, 0, 0, 0, 0, [])), (25, (4, 0, 0, 0, 2, [])), (26, (12, 0, 0, 0, 0, [])), (27, (0, 2, 0, 0, 0, [])), (28, (27, 34, 0, 0, 0, [])), (31, (5, 0, 0, 0, -2, [])), (33, (52, 1, 0, 0, 0, [])), (34, (1, 0, 0, 0, 0, [])), (35, (46, 165, 147, 0, 0, [])), (38, (1, 0, 0, 0, 0, [])), (39, (0, 1, 0, 0, 0, [])), (40, (46, 168, 149, 0, 0, [])), (43, (1, 0, 0, 0, 0, [])), (44, (33, 13, 9, 4, 0, [])), (47, (0, 1, 0, 0, 0, [])), (48, (38, 0, 0, 0, 0, [])), (49, (52, 1, 0, 0, 0, []))]
def C_151 : List (Nat × Op) := [(0, (1, 0, 0, 0, 0, [])), (1, (0, 1, 0, 0, 0, [])), (2, (46, 148, 134, 0, 0, [])), (5, (21, 10, 0, 0, 0, [])), (8, (4, 0, 0, 0, -1, [])), (9, (52, 1, 0, 0, 0, [])), (10, (4, 0, 0, 0, 0, [])), (11, (2, 3, 0, 0, 0, [])), (12, (4, 0, 0, 0, 0, [])), (13, (2, 4, 0, 0, 0, [])), (15, (0, 4, 0, 0, 0, [])), (17, (1, 0, 0, 0, 0, [])), (18, (46, 136, 132, 0, 0, [])), (21, (29, 61, 0, 0, 0, [])), (24, (0, 3, 0, 0, 0, [])), (25, (1, 0, 0, 0, 0, [])), (26, (0, 1, 0, 0, 0, [])), (27, (0, 4, 0, 0, 0, [])), (29, (46, 155, 143, 0, 0, [])), (32, (20, 52, 0, 0, 0, [])), (35, (1, 0, 0, 0, 0, [])), (36, (33, 13, 9, 4, 0, [])), (39, (0, 4, 0, 0, 0, [])), (41, (38, 0, 0, 0, 0, [])), (42, (4, 0, 0, 0, 2, [])), (43, (12, 0, 0, 0, 0, [])), (44, (0, 2, 0, 0, 0, [])), (45, (27, 52, 0, 0, 0, [])), (48, (4, 0, 0, 0, 1, [])), (49, (19, 53, 0, 0, 0, [])), (52, (4, 0, 0, 0, 0, [])), (53, (8, 0, 0, 0, 0, [])), (54, (2, 3, 0, 0, 0, [])), (55, (13, 4, 0, 0, 1, [])), (58, (19, 15, 0, 0, 0, [])), (61, (0, 3, 0, 0, 0, [])), (62, (21, 68, 0, 0, 0, [])), (65, (5, 0, 0, 0, -2, [])), (67, (52, 1, 0, 0, 0, [])), (68, (1, 0, 0, 0, 0, [])), (69, (46, 165, 147, 0, 0, [])), (72, (4, 0, 0, 0, 0, [])), (73, (2, 4, 0, 0, 0, [])), (75, (0, 4, 0, 0, 0, [])), (77, (1, 0, 0, 0, 0, [])), (78, (46, 136, 132, 0, 0, [])), (81, (29, 119, 0, 0, 0, [])), (84, (1, 0, 0, 0, 0, [])), (85, (0, 1, 0, 0, 0, [])), (86, (0, 4, 0, 0, 0, [])), (88, (46, 155, 143, 0, 0, [])), (91, (20, 113, 0, 0, 0, [])), (94, (1, 0, 0, 0, 0, [])), (95, (33, 13, 9, 4, 0, [])), (98, (0, 4, 0, 0, 0, [])), (100, (38, 0, 0, 0, 0, [])), (101, (4, 0, 0, 0, 2, [])), (102, (12, 0, 0, 0, 0, [])), (103, (0, 2, 0, 0, 0, [])), (104, (27, 113, 0, 0, 0, [])), (107, (1, 0, 0, 0, 0, [])), (108, (0, 4, 0, 0, 0, [])), (110, (46, 168, 149, 0, 0, [])), (113, (13, 4, 0, 0, 1, [])), (116, (19, 75, 0, 0, 0, [])), (119, (0, 3, 0, 0, 0, [])), (120, (52, 1, 0, 0, 0, []))]
def C_152 : List (Nat × Op) := [(0, (1, 0, 0, 0, 0, [])), (1, (0, 1, 0, 0, 0, [])), (2, (4, 0, 0, 0, 0, [])), (3, (46, 171, 151, 0, 0, [])), (6, (52, 1, 0, 0, 0, []))]
def C_153 : List (Nat × Op) := [(0, (1, 0, 0, 0, 0, [])), (1, (0, 1, 0, 0, 0, [])), (2, (4, 0, 0, 0, 1, [])), (3, (46, 171, 151, 0, 0, [])), (6, (52, 1, 0, 0, 0, []))]
def C_154 : List (Nat × Op) := [(0, (4, 0, 0, 0, 0, [])), (1, (2, 1, 0, 0, 0, [])), (2, (0, 1, 0, 0, 0, [])), (3, (6, 0, 0, 0, 4860, [])), (6, (29, 27, 0, 0, 0, [])), (9, (1, 0, 0, 0, 0, [])), (10, (33, 19, 9, 6, 0, [])), (13, (0, 1, 0, 0, 0, [])), (14, (1, 0, 0, 0, 0, [])), (15, (33, 16, 9, 5, 0, [])), (18, (0, 1, 0, 0, 0, [])), (19, (38, 0, 0, 0, 0, [])), (20, (39, 0, 0, 0, 0, [])), (21, (13, 1, 0, 0, 1, [])), (24, (19, 2, 0, 0, 0, [])), (27, (4, 0, 0, 0, 0, [])), (28, (2, 1, 0, 0, 0, [])), (29, (0, 1, 0, 0, 0, [])), (30, (1, 0, 0, 0, 0, [])), (31, (46, 136, 132, 0, 0, [])), (34, (29, 189, 0, 0, 0, [])), (37, (1, 0, 0, 0, 0, [])), (38, (0, 1, 0, 0, 0, [])), (39, (46, 159, 142, 0, 0, [])), (42, (20, 183, 0, 0, 0, [])), (45, (5, 0, 0, 0, 108, [])), (47, (1, 0, 0, 0, 0, [])), (48, (0, 1, 0, 0, 0, [])), (49, (46, 142, 140, 0, 0, [])), (52, (10, 0, 0, 0, 0, [])), (53, (2, 2, 0, 0, 0, [])), (54, (5, 0, 0, 0, 108, [])), (56, (1, 0, 0, 0, 0, [])), (57, (0, 1, 0, 0, 0, [])), (58, (46, 145, 141, 0, 0, [])), (61, (10, 0, 0, 0, 0, [])), (62, (2, 3, 0, 0, 0, [])), (63, (4, 0, 0, 0, 0, [])), (64, (2, 4, 0, 0, 0, [])), (66, (0, 4, 0, 0, 0, [])), (68, (1, 0, 0, 0, 0, [])), (69, (46, 136, 132, 0, 0, [])), (72, (29, 183, 0, 0, 0, [])), (75, (1, 0, 0, 0, 0, [])), (76, (33, 19, 9, 6, 0, [])), (79, (0, 2, 0, 0, 0, [])), (80, (0, 4, 0, 0, 0, [])), (82, (8, 0, 0, 0, 0, [])), (83, (1, 0, 0, 0, 0, [])), (84, (33, 16, 9, 5, 0, [])), (87, (0, 3, 0, 0, 0, [])), (88, (0, 4, 0, 0, 0, [])), (90, (8, 0, 0, 0, 0, [])), (91, (38, 0, 0, 0, 0, [])), (92, (1, 0, 0, 0, 0, [])), (93, (33, 19, 9, 6, 0, [])), (96, (0, 2, 0, 0, 0, [])), (97, (0, 4, 0, 0, 0, [])), (99, (8, 0, 0, 0, 0, [])), (100, (38, 0, 0, 0, 0, [])), (101, (31, 116, 0, 0, 0, [])), (104, (1, 0, 0, 0, 0, [])), (105, (33, 16, 9, 5, 0, [])), (108, (0, 3, 0, 0, 0, [])), (109, (0, 4, 0, 0, 0, [])), (111, (8, 0, 0, 0, 0, [])), (112, (38, 0, 0, 0, 0, [])), (113, (19, 125, 0, 0, 0, [])), (116, (1, 0, 0, 0, 0, [])), (117, (33, 19, 9, 6, 0, [])), (120, (0, 2, 0, 0, 0, [])), (121, (0, 4, 0, 0, 0, [])), (123, (8, 0, 0, 0, 0, [])), (124, (38, 0, 0, 0, 0, [])), (125, (39, 0, 0, 0, 0, [])), (126, (1, 0, 0, 0, 0, [])), (127, (33, 19, 9, 6, 0, [])), (130, (0, 3, 0, 0, 0, [])), (131, (0, 4, 0, 0, 0, [])), (133, (8, 0, 0, 0, 0, [])), (134, (1, 0, 0, 0, 0, [])), (135, (33, 16, 9, 5, 0, [])), (138, (0, 2, 0, 0, 0, [])), (139, (0, 4, 0, 0, 0, [])), (141, (8, 0, 0, 0, 0, [])), (142, (38, 0, 0, 0, 0, [])), (143, (1, 0, 0, 0, 0, [])), (144, (33, 19, 9, 6, 0, [])), (147, (0, 3, 0, 0, 0, [])), (148, (0, 4, 0, 0, 0, [])), (150, (8, 0, 0, 0, 0, [])), (151, (38, 0, 0, 0, 0, [])), (152, (31, 167, 0, 0, 0, [])), (155, (1, 0, 0, 0, 0, [])), (156, (33, 16, 9, 5, 0, [])), (159, (0, 2, 0, 0, 0, [])), (160, (0, 4, 0, 0, 0, [])), (162, (8, 0, 0, 0, 0, [])), (163, (38, 0, 0, 0, 0, [])), (164, (19, 176, 0, 0, 0, [])), (167, (1, 0, 0, 0, 0, [])), (168, (33, 19, 9, 6, 0, [])), (171, (0, 3, 0, 0, 0, [])), (172, (0, 4, 0, 0, 0, [])), (174, (8, 0, 0, 0, 0, [])), (175, (38, 0, 0, 0, 0, [])), (176, (39, 0, 0, 0, 0, [])), (177, (13, 4, 0, 0, 1, [])), (180, (19, 66, 0, 0, 0, [])), (183, (13, 1, 0, 0, 1, [])), (186, (19, 29, 0, 0, 0, [])), (189, (4, 0, 0, 0, 0, [])), (190, (2, 1, 0, 0, 0, [])), (191, (4, 0, 0, 0, 0, [])), (192, (2, 2, 0, 0, 0, [])), (193, (0, 2, 0, 0, 0, [])), (194, (6, 0, 0, 0, 4860, [])), (197, (29, 229, 0, 0, 0, [])), (200, (0, 1, 0, 0, 0, [])), (201, (1, 0, 0, 0, 0, [])), (202, (33, 19, 9, 6, 0, [])), (205, (0, 2, 0, 0, 0, [])), (206, (38, 0, 0, 0, 0, [])), (207, (1, 0, 0, 0, 0, [])), (208, (33, 16, 9, 5, 0, [])), (211, (0, 2, 0, 0, 0, [])), (212, (38, 0, 0, 0, 0, [])), (213, (27, 220, 0, 0, 0, [])), (216, (4, 0, 0, 0, 0, [])), (217, (19, 221, 0, 0, 0, [])), (220, (4, 0, 0, 0, 1, [])), (221, (8, 0, 0, 0, 0, [])), (222, (2, 1, 0, 0, 0, [])), (223, (13, 2, 0, 0, 1, [])), (226, (19, 193, 0, 0, 0, [])), (229, (0, 1, 0, 0, 0, [])), (230, (52, 1, 0, 0, 0, []))]
def C_155 : List (Nat × Op) := [(0, (0, 1, 0, 0, 0, [])), (1, (4, 0, 0, 0, 1, [])), (2, (5, 0, 0, 0, 9, [])), (4, (47, 106, 117, 0, 0, [])), (7, (21, 12, 0, 0, 0, [])), (10, (4, 0, 0, 0, -1, [])), (11, (52, 1, 0, 0, 0, [])), (12, (1, 0, 0, 0, 0, [])), (13, (46, 174, 154, 0, 0, [])), (16, (2, 2, 0, 0, 0, [])), (17, (0, 2, 0, 0, 0, [])), (18, (21, 23, 0, 0, 0, [])), (21, (4, 0, 0, 0, 0, [])), (22, (52, 1, 0, 0, 0, [])), (23, (1, 0, 0, 0, 0, [])), (24, (46, 165, 147, 0, 0, [])), (27, (4, 0, 0, 0, 0, [])), (28, (2, 3, 0, 0, 0, [])), (29, (4, 0, 0, 0, 0, [])), (30, (2, 4, 0, 0, 0, [])), (32, (0, 4, 0, 0, 0, [])), (34, (0, 1, 0, 0, 0, [])), (35, (29, 82, 0, 0, 0, [])), (38, (0, 3, 0, 0, 0, [])), (39, (1, 0, 0, 0, 0, [])), (40, (46, 174, 154, 0, 0, [])), (43, (8, 0, 0, 0, 0, [])), (44, (2, 3, 0, 0, 0, [])), (45, (4, 0, 0, 0, 0, [])), (46, (2, 5, 0, 0, 0, [])), (48, (0, 5, 0, 0, 0, [])), (50, (6, 0, 0, 0, 4860, [])), (53, (29, 76, 0, 0, 0, [])), (56, (1, 0, 0, 0, 0, [])), (57, (33, 16, 9, 5, 0, [])), (60, (0, 5, 0, 0, 0, [])), (62, (1, 0, 0, 0, 0, [])), (63, (33, 19, 9, 6, 0, [])), (66, (0, 5, 0, 0, 0, [])), (68, (38, 0, 0, 0, 0, [])), (69, (39, 0, 0, 0, 0, [])), (70, (13, 5, 0, 0, 1, [])), (73, (19, 48, 0, 0, 0, [])), (76, (13, 4, 0, 0, 1, [])), (79, (19, 32, 0, 0, 0, [])), (82, (0, 3, 0, 0, 0, [])), (83, (52, 1, 0, 0, 0, []))]
def C_156 : List (Nat × Op) := [(0, (1, 0, 0, 0, 0, [])), (1, (0, 1, 0, 0, 0, [])), (2, (46, 148, 134, 0, 0, [])), (5, (20, 30, 0, 0, 0, [])), (8, (1, 0, 0, 0, 0, [])), (9, (0, 2, 0, 0, 0, [])), (10, (46, 162, 135, 0, 0, [])), (13, (20, 30, 0, 0, 0, [])), (16, (1, 0, 0, 0, 0, [])), (17, (33, 16, 9, 5, 0, [])), (20, (5, 0, 0, 0, 108, [])), (22, (0, 1, 0, 0, 0, [])), (23, (10, 0, 0, 0, 0, [])), (24, (0, 2, 0, 0, 0, [])), (25, (8, 0, 0, 0, 0, [])), (26, (38, 0, 0, 0, 0, [])), (27, (19, 31, 0, 0, 0, [])), (30, (4, 0, 0, 0, -1, [])), (31, (52, 1, 0, 0, 0, []))]
def C_157 : List (Nat × Op) := [(0, (4, 0, 0, 0, 0, [])), (1, (2, 1, 0, 0, 0, [])), (2, (4, 0, 0, 0, 0, [])), (3, (2, 2, 0, 0, 0, [])), (4, (0, 2, 0, 0, 0, [])), (5, (1, 0, 0, 0, 0, [])), (6, (46, 133, 131, 0, 0, [])), (9, (29, 62, 0, 0, 0, [])), (12, (4, 0, 0, 0, 0, [])), (13, (2, 3, 0, 0, 0, [])), (14, (0, 3, 0, 0, 0, [])), (15, (1, 0, 0, 0, 0, [])), (16, (46, 136, 132, 0, 0, [])), (19, (29, 56, 0, 0, 0, [])), (22, (0, 1, 0, 0, 0, [])), (23, (1, 0, 0, 0, 0, [])), (24, (33, 16, 9, 5, 0, [])), (27, (5, 0, 0, 0, 108, [])), (29, (0, 2, 0, 0, 0, [])), (30, (10, 0, 0, 0, 0, [])), (31, (0, 3, 0, 0, 0, [])), (32, (8, 0, 0, 0, 0, [])), (33, (38, 0, 0, 0, 0, [])), (34, (1, 0, 0, 0, 0, [])), (35, (33, 13, 9, 4, 0, [])), (38, (0, 3, 0, 0, 0, [])), (39, (38, 0, 0, 0, 0, [])), (40, (27, 47, 0, 0, 0, [])), (43, (4, 0, 0, 0, 0, [])), (44, (19, 48, 0, 0, 0, [])), (47, (4, 0, 0, 0, 1, [])), (48, (8, 0, 0, 0, 0, [])), (49, (2, 1, 0, 0, 0, [])), (50, (13, 3, 0, 0, 1, [])), (53, (19, 14, 0, 0, 0, [])), (56, (13, 2, 0, 0, 1, [])), (59, (19, 4, 0, 0, 0, [])), (62, (0, 1, 0, 0, 0, [])), (63, (52, 1, 0, 0, 0, []))]
def C_158 : List (Nat × Op) := [(0, (1, 0, 0, 0, 0, [])), (1, (33, 16, 9, 5, 0, [])), (4, (5, 0, 0, 0, 108, [])), (6, (0, 1, 0, 0, 0, [])), (7, (10, 0, 0, 0, 0, [])), (8, (0, 2, 0, 0, 0, [])), (9, (8, 0, 0, 0, 0, [])), (10, (38, 0, 0, 0, 0, [])), (11, (4, 0, 0, 0, 2, [])), (12, (12, 0, 0, 0, 0, [])), (13, (21, 20, 0, 0, 0, [])), (16, (4, 0, 0, 0, 1, [])), (17, (19, 21, 0, 0, 0, [])), (20, (4, 0, 0, 0, 0, [])), (21, (52, 2, 0, 0, 0, []))]
def C_159 : List (Nat × Op) := [(0, (0, 1, 0, 0, 0, [])), (1, (1, 0, 0, 0, 0, [])), (2, (32, 84, 9, 3, 0, [])), (5, (11, 0, 0, 0, 0, [])), (6, (2, 4, 0, 0, 0, [])), (8, (0, 1, 0, 0, 0, [])), (9, (1, 0, 0, 0, 0, [])), (10, (32, 84, 9, 3, 0, [])), (13, (12, 0, 0, 0, 0, [])), (14, (2, 5, 0, 0, 0, [])), (16, (0, 2, 0, 0, 0, [])), (17, (1, 0, 0, 0, 0, [])), (18, (32, 84, 9, 3, 0, [])), (21, (11, 0, 0, 0, 0, [])), (22, (1, 0, 0, 0, 0, [])), (23, (32, 84, 9, 3, 0, [])), (26, (11, 0, 0, 0, 0, [])), (27, (2, 6, 0, 0, 0, [])), (29, (0, 2, 0, 0, 0, [])), (30, (1, 0, 0, 0, 0, [])), (31, (32, 84, 9, 3, 0, [])), (34, (11, 0, 0, 0, 0, [])), (35, (1, 0, 0, 0, 0, [])), (36, (32, 84, 9, 3, 0, [])), (39, (12, 0, 0, 0, 0, [])), (40, (2, 7, 0, 0, 0, [])), (42, (4, 0, 0, 0, 0, [])), (43, (2, 8, 0, 0, 0, [])), (45, (0, 8, 0, 0, 0, [])), (47, (1, 0, 0, 0, 0, [])), (48, (32, 84, 9, 3, 0, [])), (51, (29, 226, 0, 0, 0, [])), (54, (0, 2, 0, 0, 0, [])), (55, (1, 0, 0, 0, 0, [])), (56, (32, 84, 9, 3, 0, [])), (59, (12, 0, 0, 0, 0, [])), (60, (0, 5, 0, 0, 0, [])), (62, (8, 0, 0, 0, 0, [])), (63, (0, 3, 0, 0, 0, [])), (64, (1, 0, 0, 0, 0, [])), (65, (32, 84, 9, 3, 0, [])), (68, (11, 0, 0, 0, 0, [])), (69, (8, 0, 0, 0, 0, [])), (70, (0, 8, 0, 0, 0, [])), (72, (8, 0, 0, 0, 0, [])), (73, (1, 0, 0, 0, 0, [])), (74, (32, 84, 9, 3, 0, [])), (77, (12, 0, 0, 0, 0, [])), (78, (2, 9, 0, 0, 0, [])), (80, (1, 0, 0, 0, 0, [])), (81, (0, 1, 0, 0, 0, [])), (82, (1, 0, 0, 0, 0, [])), (83, (0, 4, 0, 0, 0, [])), (85, (0, 5, 0, 0, 0, [])), (87, (0, 9, 0, 0, 0, [])), (89, (46, 177, 138, 0, 0, [])), (92, (46, 181, 158, 0, 0, [])), (95, (20, 120, 0, 0, 0, [])), (98, (1, 0, 0, 0, 0, [])), (99, (0, 1, 0, 0, 0, [])), (100, (1, 0, 0, 0, 0, [])), (101, (0, 6, 0, 0, 0, [])), (103, (0, 7, 0, 0, 0, [])), (105, (0, 9, 0, 0, 0, [])), (107, (46, 177, 138, 0, 0, [])), (110, (46, 181, 158, 0, 0, [])), (113, (20, 120, 0, 0, 0, [])), (116, (4, 0, 0, 0, 1, [])), (117, (19, 121, 0, 0, 0, [])), (120, (4, 0, 0, 0, 0, [])), (121, (2, 10, 0, 0, 0, [])), (123, (0, 10, 0, 0, 0, [])), (125, (20, 204, 0, 0, 0, [])), (128, (0, 4, 0, 0, 0, [])), (130, (0, 6, 0, 0, 0, [])), (132, (26, 204, 0, 0, 0, [])), (135, (4, 0, 0, 0, 0, [])), (136, (2, 10, 0, 0, 0, [])), (138, (4, 0, 0, 0, 0, [])), (139, (2, 11, 0, 0, 0, [])), (141, (0, 11, 0, 0, 0, [])), (143, (1, 0, 0, 0, 0, [])), (144, (32, 84, 9, 3, 0, [])), (147, (29, 204, 0, 0, 0, [])), (150, (0, 10, 0, 0, 0, [])), (152, (21, 191, 0, 0, 0, [])), (155, (1, 0, 0, 0, 0, [])), (156, (0, 1, 0, 0, 0, [])), (157, (1, 0, 0, 0, 0, [])), (158, (0, 4, 0, 0, 0, [])), (160, (0, 9, 0, 0, 0, [])), (162, (0, 11, 0, 0, 0, [])), (164, (46, 184, 139, 0, 0, [])), (167, (46, 181, 158, 0, 0, [])), (170, (20, 195, 0, 0, 0, [])), (173, (1, 0, 0, 0, 0, [])), (174, (0, 1, 0, 0, 0, [])), (175, (1, 0, 0, 0, 0, [])), (176, (0, 6, 0, 0, 0, [])), (178, (0, 9, 0, 0, 0, [])), (180, (0, 11, 0, 0, 0, [])), (182, (46, 184, 139, 0, 0, [])), (185, (46, 181, 158, 0, 0, [])), (188, (20, 195, 0, 0, 0, [])), (191, (4, 0, 0, 0, 1, [])), (192, (19, 196, 0, 0, 0, [])), (195, (4, 0, 0, 0, 0, [])), (196, (2, 10, 0, 0, 0, [])), (198, (13, 11, 0, 0, 1, [])), (201, (19, 141, 0, 0, 0, [])), (204, (0, 10, 0, 0, 0, [])), (206, (20, 220, 0, 0, 0, [])), (209, (1, 0, 0, 0, 0, [])), (210, (0, 4, 0, 0, 0, [])), (212, (0, 5, 0, 0, 0, [])), (214, (0, 9, 0, 0, 0, [])), (216, (46, 177, 138, 0, 0, [])), (219, (52, 1, 0, 0, 0, [])), (220, (13, 8, 0, 0, 1, [])), (223, (19, 45, 0, 0, 0, [])), (226, (5, 0, 0, 0, -2, [])), (228, (52, 1, 0, 0, 0, []))]
def C_160 : List (Nat × Op) := [(0, (0, 1, 0, 0, 0, [])), (1, (1, 0, 0, 0, 0, [])), (2, (46, 139, 130, 0, 0, [])), (5, (9, 0, 0, 0, 0, [])), (6, (1, 0, 0, 0, 0, [])), (7, (32, 84, 9, 3, 0, [])), (10, (11, 0, 0, 0, 0, [])), (11, (2, 4, 0, 0, 0, [])), (13, (0, 1, 0, 0, 0, [])), (14, (1, 0, 0, 0, 0, [])), (15, (46, 139, 130, 0, 0, [])), (18, (9, 0, 0, 0, 0, [])), (19, (1, 0, 0, 0, 0, [])), (20, (32, 84, 9, 3, 0, [])), (23, (12, 0, 0, 0, 0, [])), (24, (2, 5, 0, 0, 0, [])), (26, (0, 2, 0, 0, 0, [])), (27, (1, 0, 0, 0, 0, [])), (28, (32, 84, 9, 3, 0, [])), (31, (11, 0, 0, 0, 0, [])), (32, (1, 0, 0, 0, 0, [])), (33, (32, 84, 9, 3, 0, [])), (36, (11, 0, 0, 0, 0, [])), (37, (2, 6, 0, 0, 0, [])), (39, (1, 0, 0, 0, 0, [])), (40, (0, 6, 0, 0, 0, [])), (42, (0, 2, 0, 0, 0, [])), (43, (1, 0, 0, 0, 0, [])), (44, (32, 84, 9, 3, 0, [])), (47, (11, 0, 0, 0, 0, [])), (48, (1, 0, 0, 0, 0, [])), (49, (32, 84, 9, 3, 0, [])), (52, (12, 0, 0, 0, 0, [])), (53, (0, 5, 0, 0, 0, [])), (55, (46, 177, 138, 0, 0, [])), (58, (2, 7, 0, 0, 0, [])), (60, (0, 4, 0, 0, 0, [])), (62, (0, 6, 0, 0, 0, [])), (64, (27, 85, 0, 0, 0, [])), (67, (1, 0, 0, 0, 0, [])), (68, (0, 1, 0, 0, 0, [])), (69, (0, 7, 0, 0, 0, [])), (71, (46, 181, 158, 0, 0, [])), (74, (20, 82, 0, 0, 0, [])), (77, (0, 7, 0, 0, 0, [])), (79, (19, 84, 0, 0, 0, [])), (82, (5, 0, 0, 0, -2, [])), (84, (52, 1, 0, 0, 0, [])), (85, (4, 0, 0, 0, 0, [])), (86, (2, 8, 0, 0, 0, [])), (88, (0, 8, 0, 0, 0, [])), (90, (1, 0, 0, 0, 0, [])), (91, (32, 84, 9, 3, 0, [])), (94, (29, 186, 0, 0, 0, [])), (97, (0, 2, 0, 0, 0, [])), (98, (1, 0, 0, 0, 0, [])), (99, (32, 84, 9, 3, 0, [])), (102, (12, 0, 0, 0, 0, [])), (103, (0, 5, 0, 0, 0, [])), (105, (8, 0, 0, 0, 0, [])), (106, (0, 3, 0, 0, 0, [])), (107, (1, 0, 0, 0, 0, [])), (108, (32, 84, 9, 3, 0, [])), (111, (12, 0, 0, 0, 0, [])), (112, (8, 0, 0, 0, 0, [])), (113, (0, 8, 0, 0, 0, [])), (115, (8, 0, 0, 0, 0, [])), (116, (1, 0, 0, 0, 0, [])), (117, (32, 84, 9, 3, 0, [])), (120, (12, 0, 0, 0, 0, [])), (121, (2, 9, 0, 0, 0, [])), (123, (1, 0, 0, 0, 0, [])), (124, (0, 1, 0, 0, 0, [])), (125, (1, 0, 0, 0, 0, [])), (126, (0, 4, 0, 0, 0, [])), (128, (0, 5, 0, 0, 0, [])), (130, (0, 9, 0, 0, 0, [])), (132, (46, 184, 139, 0, 0, [])), (135, (46, 181, 158, 0, 0, [])), (138, (20, 180, 0, 0, 0, [])), (141, (1, 0, 0, 0, 0, [])), (142, (0, 1, 0, 0, 0, [])), (143, (1, 0, 0, 0, 0, [])), (144, (0, 6, 0, 0, 0, [])), (146, (0, 5, 0, 0, 0, [])), (148, (0, 9, 0, 0, 0, [])), (150, (46, 184, 139, 0, 0, [])), (153, (46, 181, 158, 0, 0, [])), (156, (20, 180, 0, 0, 0, [])), (159, (1, 0, 0, 0, 0, [])), (160, (0, 1, 0, 0, 0, [])), (161, (0, 7, 0, 0, 0, [])), (163, (46, 181, 158, 0, 0, [])), (166, (20, 180, 0, 0, 0, [])), (169, (1, 0, 0, 0, 0, [])), (170, (0, 4, 0, 0, 0, [])), (172, (0, 5, 0, 0, 0, [])), (174, (0, 9, 0, 0, 0, [])), (176, (46, 184, 139, 0, 0, [])), (179, (52, 1, 0, 0, 0, [])), (180, (13, 8, 0, 0, 1, [])), (183, (19, 88, 0, 0, 0, [])), (186, (5, 0, 0, 0, -2, [])), (188, (52, 1, 0, 0, 0, []))]
def C_161 : List (Nat × Op) := [(0, (1, 0, 0, 0, 0, [])), (1, (0, 1, 0, 0, 0, [])), (2, (46, 152, 137, 0, 0, [])), (5, (2, 4, 0, 0, 0, [])), (7, (0, 1, 0, 0, 0, [])), (8, (0, 2, 0, 0, 0, [])), (9, (1, 0, 0, 0, 0, [])), (10, (32, 84, 9, 3, 0, [])), (13, (11, 0, 0, 0, 0, [])), (14, (27, 20, 0, 0, 0, [])), (17, (5, 0, 0, 0, -4, [])), (19, (52, 1, 0, 0, 0, [])), (20, (0, 4, 0, 0, 0, [])), (22, (21, 33, 0, 0, 0, [])), (25, (1, 0, 0, 0, 0, [])), (26, (0, 1, 0, 0, 0, [])), (27, (0, 2, 0, 0, 0, [])), (28, (0, 3, 0, 0, 0, [])), (29, (46, 187, 159, 0, 0, [])), (32, (52, 1, 0, 0, 0, [])), (33, (0, 4, 0, 0, 0, [])), (35, (4, 0, 0, 0, 1, [])), (36, (27, 47, 0, 0, 0, [])), (39, (1, 0, 0, 0, 0, [])), (40, (0, 1, 0, 0, 0, [])), (41, (0, 2, 0, 0, 0, [])), (42, (0, 3, 0, 0, 0, [])), (43, (46, 190, 160, 0, 0, [])), (46, (52, 1, 0, 0, 0, [])), (47, (0, 1, 0, 0, 0, [])), (48, (4, 0, 0, 0, 2, [])), (49, (1, 0, 0, 0, 0, [])), (50, (46, 139, 130, 0, 0, [])), (53, (10, 0, 0, 0, 0, [])), (54, (9, 0, 0, 0, 0, [])), (55, (2, 5, 0, 0, 0, [])), (57, (1, 0, 0, 0, 0, [])), (58, (0, 2, 0, 0, 0, [])), (59, (1, 0, 0, 0, 0, [])), (60, (32, 84, 9, 3, 0, [])), (63, (11, 0, 0, 0, 0, [])), (64, (1, 0, 0, 0, 0, [])), (65, (32, 84, 9, 3, 0, [])), (68, (11, 0, 0, 0, 0, [])), (69, (0, 5, 0, 0, 0, [])), (71, (1, 0, 0, 0, 0, [])), (72, (32, 84, 9, 3, 0, [])), (75, (11, 0, 0, 0, 0, [])), (76, (0, 5, 0, 0, 0, [])), (78, (1, 0, 0, 0, 0, [])), (79, (32, 84, 9, 3, 0, [])), (82, (12, 0, 0, 0, 0, [])), (83, (46, 184, 139, 0, 0, [])), (86, (2, 6, 0, 0, 0, [])), (88, (1, 0, 0, 0, 0, [])), (89, (0, 1, 0, 0, 0, [])), (90, (0, 6, 0, 0, 0, [])), (92, (46, 181, 158, 0, 0, [])), (95, (20, 103, 0, 0, 0, [])), (98, (0, 6, 0, 0, 0, [])), (100, (19, 105, 0, 0, 0, [])), (103, (5, 0, 0, 0, -2, [])), (105, (52, 1, 0, 0, 0, []))]
def C_162 : List (Nat × Op) := [(0, (1, 0, 0, 0, 0, [])), (1, (0, 1, 0, 0, 0, [])), (2, (46, 148, 134, 0, 0, [])), (5, (20, 34, 0, 0, 0, [])), (8, (1, 0, 0, 0, 0, [])), (9, (0, 2, 0, 0, 0, [])), (10, (46, 193, 133, 0, 0, [])), (13, (20, 34, 0, 0, 0, [])), (16, (1, 0, 0, 0, 0, [])), (17, (0, 3, 0, 0, 0, [])), (18, (46, 196, 136, 0, 0, [])), (21, (20, 34, 0, 0, 0, [])), (24, (1, 0, 0, 0, 0, [])), (25, (0, 1, 0, 0, 0, [])), (26, (0, 2, 0, 0, 0, [])), (27, (0, 3, 0, 0, 0, [])), (28, (46, 199, 161, 0, 0, [])), (31, (19, 35, 0, 0, 0, [])), (34, (4, 0, 0, 0, -1, [])), (35, (52, 1, 0, 0, 0, []))]
def C_163 : List (Nat × Op) := [(0, (0, 1, 0, 0, 0, [])), (1, (1, 0, 0, 0, 0, [])), (2, (32, 84, 9, 3, 0, [])), (5, (11, 0, 0, 0, 0, [])), (6, (2, 4, 0, 0, 0, [])), (8, (1, 0, 0, 0, 0, [])), (9, (4, 0, 0, 0, 1, [])), (10, (34, 202, 9, 18, 0, [])), (13, (1, 0, 0, 0, 0, [])), (14, (33, 43, 9, 19, 0, [])), (17, (4, 0, 0, 0, 0, [])), (18, (0, 4, 0, 0, 0, [])), (20, (39, 0, 0, 0, 0, [])), (21, (1, 0, 0, 0, 0, [])), (22, (0, 4, 0, 0, 0, [])), (24, (0, 2, 0, 0, 0, [])), (25, (0, 3, 0, 0, 0, [])), (26, (46, 199, 161, 0, 0, [])), (29, (2, 5, 0, 0, 0, [])), (31, (0, 5, 0, 0, 0, [])), (33, (22, 135, 0, 0, 0, [])), (36, (1, 0, 0, 0, 0, [])), (37, (0, 5, 0, 0, 0, [])), (39, (46, 142, 140, 0, 0, [])), (42, (0, 4, 0, 0, 0, [])), (44, (27, 51, 0, 0, 0, [])), (47, (4, 0, 0, 0, 1, [])), (48, (19, 52, 0, 0, 0, [])), (51, (4, 0, 0, 0, 0, [])), (52, (2, 6, 0, 0, 0, [])), (54, (0, 6, 0, 0, 0, [])), (56, (20, 68, 0, 0, 0, [])), (59, (1, 0, 0, 0, 0, [])), (60, (0, 5, 0, 0, 0, [])), (62, (46, 145, 141, 0, 0, [])), (65, (19, 74, 0, 0, 0, [])), (68, (1, 0, 0, 0, 0, [])), (69, (0, 5, 0, 0, 0, [])), (71, (46, 142, 140, 0, 0, [])), (74, (2, 4, 0, 0, 0, [])), (76, (1, 0, 0, 0, 0, [])), (77, (33, 46, 9, 20, 0, [])), (80, (1, 0, 0, 0, 0, [])), (81, (32, 202, 9, 18, 0, [])), (84, (4, 0, 0, 0, 1, [])), (85, (9, 0, 0, 0, 0, [])), (86, (0, 6, 0, 0, 0, [])), (88, (20, 96, 0, 0, 0, [])), (91, (0, 5, 0, 0, 0, [])), (93, (19, 100, 0, 0, 0, [])), (96, (4, 0, 0, 0, -1, [])), (97, (0, 5, 0, 0, 0, [])), (99, (9, 0, 0, 0, 0, [])), (100, (39, 0, 0, 0, 0, [])), (101, (1, 0, 0, 0, 0, [])), (102, (33, 43, 9, 19, 0, [])), (105, (1, 0, 0, 0, 0, [])), (106, (32, 202, 9, 18, 0, [])), (109, (0, 4, 0, 0, 0, [])), (111, (39, 0, 0, 0, 0, [])), (112, (1, 0, 0, 0, 0, [])), (113, (16, 0, 0, 0, 0, [])), (114, (32, 202, 9, 18, 0, [])), (117, (4, 0, 0, 0, 1, [])), (118, (8, 0, 0, 0, 0, [])), (119, (34, 202, 9, 18, 0, [])), (122, (1, 0, 0, 0, 0, [])), (123, (0, 4, 0, 0, 0, [])), (125, (0, 2, 0, 0, 0, [])), (126, (0, 3, 0, 0, 0, [])), (127, (46, 199, 161, 0, 0, [])), (130, (2, 5, 0, 0, 0, [])), (132, (19, 31, 0, 0, 0, [])), (135, (1, 0, 0, 0, 0, [])), (136, (0, 5, 0, 0, 0, [])), (138, (5, 0, 0, 0, -4, [])), (140, (27, 147, 0, 0, 0, [])), (143, (4, 0, 0, 0, 1, [])), (144, (19, 148, 0, 0, 0, [])), (147, (4, 0, 0, 0, 0, [])), (148, (35, 205, 9, 21, 0, [])), (151, (53, 0, 0, 0, 0, []))]
def C_164 : List (Nat × Op) := [(0, (1, 0, 0, 0, 0, [])), (1, (0, 1, 0, 0, 0, [])), (2, (46, 193, 133, 0, 0, [])), (5, (20, 25, 0, 0, 0, [])), (8, (1, 0, 0, 0, 0, [])), (9, (0, 2, 0, 0, 0, [])), (10, (46, 193, 133, 0, 0, [])), (13, (20, 25, 0, 0, 0, [])), (16, (0, 1, 0, 0, 0, [])), (17, (0, 2, 0, 0, 0, [])), (18, (26, 25, 0, 0, 0, [])), (21, (4, 0, 0, 0, 1, [])), (22, (19, 26, 0, 0, 0, [])), (25, (4, 0, 0, 0, 0, [])), (26, (52, 2, 0, 0, 0, []))]
def C_165 : List (Nat × Op) := [(0, (1, 0, 0, 0, 0, [])), (1, (0, 1, 0, 0, 0, [])), (2, (0, 2, 0, 0, 0, [])), (3, (46, 209, 164, 0, 0, [])), (6, (20, 23, 0, 0, 0, [])), (9, (1, 0, 0, 0, 0, [])), (10, (0, 3, 0, 0, 0, [])), (11, (46, 196, 136, 0, 0, [])), (14, (20, 23, 0, 0, 0, [])), (17, (0, 4, 0, 0, 0, [])), (19, (4, 0, 0, 0, -1, [])), (20, (29, 25, 0, 0, 0, [])), (23, (4, 0, 0, 0, -1, [])), (24, (52, 1, 0, 0, 0, [])), (25, (1, 0, 0, 0, 0, [])), (26, (0, 1, 0, 0, 0, [])), (27, (0, 2, 0, 0, 0, [])), (28, (0, 3, 0, 0, 0, [])), (29, (46, 212, 163, 0, 0, [])), (32, (0, 4, 0, 0, 0, [])), (34, (23, 44, 0, 0, 0, [])), (37, (1, 0, 0, 0, 0, [])), (38, (32, 202, 9, 18, 0, [])), (41, (19, 65, 0, 0, 0, [])), (44, (0, 4, 0, 0, 0, [])), (46, (1, 0, 0, 0, 0, [])), (47, (32, 202, 9, 18, 0, [])), (50, (29, 63, 0, 0, 0, [])), (53, (1, 0, 0, 0, 0, [])), (54, (33, 43, 9, 19, 0, [])), (57, (0, 4, 0, 0, 0, [])), (59, (38, 0, 0, 0, 0, [])), (60, (19, 65, 0, 0, 0, [])), (63, (5, 0, 0, 0, -4, [])), (65, (52, 1, 0, 0, 0, []))]
def C_166 : List (Nat × Op) := [(0, (1, 0, 0, 0, 0, [])), (1, (0, 1, 0, 0, 0, [])), (2, (0, 2, 0, 0, 0, [])), (3, (46, 209, 164, 0, 0, [])), (6, (20, 17, 0, 0, 0, [])), (9, (1, 0, 0, 0, 0, [])), (10, (0, 3, 0, 0, 0, [])), (11, (46, 196, 136, 0, 0, [])), (14, (21, 19, 0, 0, 0, [])), (17, (4, 0, 0, 0, -1, [])), (18, (52, 1, 0, 0, 0, [])), (19, (1, 0, 0, 0, 0, [])), (20, (0, 1, 0, 0, 0, [])), (21, (0, 2, 0, 0, 0, [])), (22, (0, 3, 0, 0, 0, [])), (23, (46, 212, 163, 0, 0, [])), (26, (1, 0, 0, 0, 0, [])), (27, (32, 205, 9, 21, 0, [])), (30, (20, 37, 0, 0, 0, [])), (33, (4, 0, 0, 0, 1, [])), (34, (19, 38, 0, 0, 0, [])), (37, (4, 0, 0, 0, 0, [])), (38, (52, 1, 0, 0, 0, []))]
def C_167 : List (Nat × Op) := [(0, (0, 1, 0, 0, 0, [])), (1, (1, 0, 0, 0, 0, [])), (2, (32, 84, 9, 3, 0, [])), (5, (11, 0, 0, 0, 0, [])), (6, (1, 0, 0, 0, 0, [])), (7, (32, 84, 9, 3, 0, [])), (10, (11, 0, 0, 0, 0, [])), (11, (2, 3, 0, 0, 0, [])), (12, (0, 2, 0, 0, 0, [])), (13, (1, 0, 0, 0, 0, [])), (14, (32, 84, 9, 3, 0, [])), (17, (11, 0, 0, 0, 0, [])), (18, (1, 0, 0, 0, 0, [])), (19, (32, 84, 9, 3, 0, [])), (22, (11, 0, 0, 0, 0, [])), (23, (2, 4, 0, 0, 0, [])), (25, (0, 1, 0, 0, 0, [])), (26, (1, 0, 0, 0, 0, [])), (27, (32, 84, 9, 3, 0, [])), (30, (11, 0, 0, 0, 0, [])), (31, (0, 2, 0, 0, 0, [])), (32, (1, 0, 0, 0, 0, [])), (33, (32, 84, 9, 3, 0, [])), (36, (11, 0, 0, 0, 0, [])), (37, (27, 42, 0, 0, 0, [])), (40, (4, 0, 0, 0, 1, [])), (41, (52, 1, 0, 0, 0, [])), (42, (4, 0, 0, 0, 0, [])), (43, (2, 5, 0, 0, 0, [])), (45, (4, 0, 0, 0, 0, [])), (46, (2, 6, 0, 0, 0, [])), (48, (0, 6, 0, 0, 0, [])), (50, (1, 0, 0, 0, 0, [])), (51, (32, 84, 9, 3, 0, [])), (54, (29, 205, 0, 0, 0, [])), (57, (0, 3, 0, 0, 0, [])), (58, (0, 4, 0, 0, 0, [])), (60, (27, 67, 0, 0, 0, [])), (63, (4, 0, 0, 0, 1, [])), (64, (19, 68, 0, 0, 0, [])), (67, (4, 0, 0, 0, 0, [])), (68, (2, 7, 0, 0, 0, [])), (70, (4, 0, 0, 0, 0, [])), (71, (2, 8, 0, 0, 0, [])), (73, (0, 8, 0, 0, 0, [])), (75, (1, 0, 0, 0, 0, [])), (76, (32, 84, 9, 3, 0, [])), (79, (29, 137, 0, 0, 0, [])), (82, (0, 7, 0, 0, 0, [])), (84, (0, 3, 0, 0, 0, [])), (85, (0, 4, 0, 0, 0, [])), (87, (26, 127, 0, 0, 0, [])), (90, (1, 0, 0, 0, 0, [])), (91, (1, 0, 0, 0, 0, [])), (92, (0, 3, 0, 0, 0, [])), (93, (0, 6, 0, 0, 0, [])), (95, (0, 8, 0, 0, 0, [])), (97, (46, 184, 139, 0, 0, [])), (100, (46, 159, 142, 0, 0, [])), (103, (20, 127, 0, 0, 0, [])), (106, (1, 0, 0, 0, 0, [])), (107, (1, 0, 0, 0, 0, [])), (108, (0, 4, 0, 0, 0, [])), (110, (0, 6, 0, 0, 0, [])), (112, (0, 8, 0, 0, 0, [])), (114, (46, 184, 139, 0, 0, [])), (117, (46, 159, 142, 0, 0, [])), (120, (20, 127, 0, 0, 0, [])), (123, (4, 0, 0, 0, 1, [])), (124, (19, 128, 0, 0, 0, [])), (127, (4, 0, 0, 0, 0, [])), (128, (8, 0, 0, 0, 0, [])), (129, (2, 7, 0, 0, 0, [])), (131, (13, 8, 0, 0, 1, [])), (134, (19, 73, 0, 0, 0, [])), (137, (0, 5, 0, 0, 0, [])), (139, (1, 0, 0, 0, 0, [])), (140, (1, 0, 0, 0, 0, [])), (141, (0, 3, 0, 0, 0, [])), (142, (0, 1, 0, 0, 0, [])), (143, (1, 0, 0, 0, 0, [])), (144, (32, 84, 9, 3, 0, [])), (147, (11, 0, 0, 0, 0, [])), (148, (1, 0, 0, 0, 0, [])), (149, (32, 84, 9, 3, 0, [])), (152, (12, 0, 0, 0, 0, [])), (153, (0, 6, 0, 0, 0, [])), (155, (46, 177, 138, 0, 0, [])), (158, (46, 159, 142, 0, 0, [])), (161, (20, 195, 0, 0, 0, [])), (164, (1, 0, 0, 0, 0, [])), (165, (1, 0, 0, 0, 0, [])), (166, (0, 4, 0, 0, 0, [])), (168, (0, 2, 0, 0, 0, [])), (169, (1, 0, 0, 0, 0, [])), (170, (32, 84, 9, 3, 0, [])), (173, (11, 0, 0, 0, 0, [])), (174, (1, 0, 0, 0, 0, [])), (175, (32, 84, 9, 3, 0, [])), (178, (12, 0, 0, 0, 0, [])), (179, (0, 6, 0, 0, 0, [])), (181, (46, 177, 138, 0, 0, [])), (184, (46, 159, 142, 0, 0, [])), (187, (20, 195, 0, 0, 0, [])), (190, (0, 7, 0, 0, 0, [])), (192, (19, 196, 0, 0, 0, [])), (195, (4, 0, 0, 0, 0, [])), (196, (8, 0, 0, 0, 0, [])), (197, (2, 5, 0, 0, 0, [])), (199, (13, 6, 0, 0, 1, [])), (202, (19, 48, 0, 0, 0, [])), (205, (0, 5, 0, 0, 0, [])), (207, (52, 1, 0, 0, 0, []))]
def C_168 : List (Nat × Op) := [(0, (1, 0, 0, 0, 0, [])), (1, (0, 1, 0, 0, 0, [])), (2, (0, 2, 0, 0, 0, [])), (3, (46, 209, 164, 0, 0, [])), (6, (20, 18, 0, 0, 0, [])), (9, (1, 0, 0, 0, 0, [])), (10, (0, 1, 0, 0, 0, [])), (11, (0, 2, 0, 0, 0, [])), (12, (46, 216, 167, 0, 0, [])), (15, (19, 19, 0, 0, 0, [])), (18, (4, 0, 0, 0, -1, [])), (19, (52, 1, 0, 0, 0, []))]
def C_169 : List (Nat × Op) := [(0, (0, 1, 0, 0, 0, [])), (1, (4, 0, 0, 0, 0, [])), (2, (4, 0, 0, 0, 3, [])), (3, (47, 106, 117, 0, 0, [])), (6, (21, 11, 0, 0, 0, [])), (9, (4, 0, 0, 0, -1, [])), (10, (52, 1, 0, 0, 0, [])), (11, (4, 0, 0, 0, 0, [])), (12, (2, 2, 0, 0, 0, [])), (13, (4, 0, 0, 0, 0, [])), (14, (2, 3, 0, 0, 0, [])), (15, (4, 0, 0, 0, -1, [])), (16, (2, 4, 0, 0, 0, [])), (18, (4, 0, 0, 0, 0, [])), (19, (2, 5, 0, 0, 0, [])), (21, (4, 0, 0, 0, 0, [])), (22, (2, 6, 0, 0, 0, [])), (24, (0, 6, 0, 0, 0, [])), (26, (1, 0, 0, 0, 0, [])), (27, (46, 130, 129, 0, 0, [])), (30, (29, 153, 0, 0, 0, [])), (33, (4, 0, 0, 0, 0, [])), (34, (2, 7, 0, 0, 0, [])), (36, (0, 7, 0, 0, 0, [])), (38, (1, 0, 0, 0, 0, [])), (39, (46, 130, 129, 0, 0, [])), (42, (29, 147, 0, 0, 0, [])), (45, (0, 6, 0, 0, 0, [])), (47, (0, 7, 0, 0, 0, [])), (49, (26, 141, 0, 0, 0, [])), (52, (1, 0, 0, 0, 0, [])), (53, (0, 6, 0, 0, 0, [])), (55, (0, 7, 0, 0, 0, [])), (57, (46, 216, 167, 0, 0, [])), (60, (2, 8, 0, 0, 0, [])), (62, (0, 2, 0, 0, 0, [])), (63, (0, 8, 0, 0, 0, [])), (65, (25, 72, 0, 0, 0, [])), (68, (4, 0, 0, 0, 1, [])), (69, (19, 73, 0, 0, 0, [])), (72, (4, 0, 0, 0, 0, [])), (73, (8, 0, 0, 0, 0, [])), (74, (2, 2, 0, 0, 0, [])), (75, (0, 4, 0, 0, 0, [])), (77, (22, 87, 0, 0, 0, [])), (80, (0, 8, 0, 0, 0, [])), (82, (0, 4, 0, 0, 0, [])), (84, (29, 92, 0, 0, 0, [])), (87, (0, 8, 0, 0, 0, [])), (89, (19, 94, 0, 0, 0, [])), (92, (0, 4, 0, 0, 0, [])), (94, (2, 4, 0, 0, 0, [])), (96, (0, 8, 0, 0, 0, [])), (98, (0, 5, 0, 0, 0, [])), (100, (31, 108, 0, 0, 0, [])), (103, (0, 8, 0, 0, 0, [])), (105, (19, 110, 0, 0, 0, [])), (108, (0, 5, 0, 0, 0, [])), (110, (2, 5, 0, 0, 0, [])), (112, (0, 1, 0, 0, 0, [])), (113, (4, 0, 0, 0, 1, [])), (114, (27, 141, 0, 0, 0, [])), (117, (1, 0, 0, 0, 0, [])), (118, (0, 6, 0, 0, 0, [])), (120, (0, 7, 0, 0, 0, [])), (122, (4, 0, 0, 0, 0, [])), (123, (46, 212, 163, 0, 0, [])), (126, (0, 3, 0, 0, 0, [])), (127, (1, 0, 0, 0, 0, [])), (128, (32, 205, 9, 21, 0, [])), (131, (20, 138, 0, 0, 0, [])), (134, (4, 0, 0, 0, 1, [])), (135, (19, 139, 0, 0, 0, [])), (138, (4, 0, 0, 0, 0, [])), (139, (8, 0, 0, 0, 0, [])), (140, (2, 3, 0, 0, 0, [])), (141, (13, 7, 0, 0, 1, [])), (144, (19, 36, 0, 0, 0, [])), (147, (13, 6, 0, 0, 1, [])), (150, (19, 24, 0, 0, 0, [])), (153, (0, 1, 0, 0, 0, [])), (154, (21, 161, 0, 0, 0, [])), (157, (0, 2, 0, 0, 0, [])), (158, (19, 182, 0, 0, 0, [])), (161, (0, 1, 0, 0, 0, [])), (162, (4, 0, 0, 0, 1, [])), (163, (27, 170, 0, 0, 0, [])), (166, (0, 3, 0, 0, 0, [])), (167, (19, 182, 0, 0, 0, [])), (170, (0, 1, 0, 0, 0, [])), (171, (4, 0, 0, 0, 2, [])), (172, (27, 180, 0, 0, 0, [])), (175, (0, 4, 0, 0, 0, [])), (177, (19, 182, 0, 0, 0, [])), (180, (0, 5, 0, 0, 0, [])), (182, (52, 1, 0, 0, 0, []))]
def C_170 : List (Nat × Op) := [(0, (1, 0, 0, 0, 0, [])), (1, (0, 1, 0, 0, 0, [])), (2, (46, 162, 135, 0, 0, [])), (5, (21, 10, 0, 0, 0, [])), (8, (4, 0, 0, 0, -1, [])), (9, (52, 1, 0, 0, 0, [])), (10, (1, 0, 0, 0, 0, [])), (11, (0, 1, 0, 0, 0, [])), (12, (46, 159, 142, 0, 0, [])), (15, (21, 20, 0, 0, 0, [])), (18, (4, 0, 0, 0, 0, [])), (19, (52, 1, 0, 0, 0, [])), (20, (1, 0, 0, 0, 0, [])), (21, (4, 0, 0, 0, 0, [])), (22, (46, 219, 169, 0, 0, [])), (25, (2, 2, 0, 0, 0, [])), (26, (1, 0, 0, 0, 0, [])), (27, (33, 13, 9, 4, 0, [])), (30, (0, 1, 0, 0, 0, [])), (31, (17, 0, 0, 0, 0, [])), (32, (38, 0, 0, 0, 0, [])), (33, (4, 0, 0, 0, 1, [])), (34, (8, 0, 0, 0, 0, [])), (35, (39, 0, 0, 0, 0, [])), (36, (1, 0, 0, 0, 0, [])), (37, (4, 0, 0, 0, 0, [])), (38, (46, 219, 169, 0, 0, [])), (41, (2, 3, 0, 0, 0, [])), (42, (1, 0, 0, 0, 0, [])), (43, (33, 13, 9, 4, 0, [])), (46, (0, 1, 0, 0, 0, [])), (47, (17, 0, 0, 0, 0, [])), (48, (38, 0, 0, 0, 0, [])), (49, (4, 0, 0, 0, 1, [])), (50, (9, 0, 0, 0, 0, [])), (51, (39, 0, 0, 0, 0, [])), (52, (0, 2, 0, 0, 0, [])), (53, (0, 3, 0, 0, 0, [])), (54, (9, 0, 0, 0, 0, [])), (55, (52, 1, 0, 0, 0, []))]
def C_171 : List (Nat × Op) := [(0, (4, 0, 0, 0, 0, [])), (1, (2, 1, 0, 0, 0, [])), (2, (0, 1, 0, 0, 0, [])), (3, (5, 0, 0, 0, 108, [])), (5, (29, 28, 0, 0, 0, [])), (8, (1, 0, 0, 0, 0, [])), (9, (33, 49, 9, 22, 0, [])), (12, (0, 1, 0, 0, 0, [])), (13, (4, 0, 0, 0, 0, [])), (14, (39, 0, 0, 0, 0, [])), (15, (1, 0, 0, 0, 0, [])), (16, (33, 52, 9, 23, 0, [])), (19, (0, 1, 0, 0, 0, [])), (20, (4, 0, 0, 0, 0, [])), (21, (39, 0, 0, 0, 0, [])), (22, (13, 1, 0, 0, 1, [])), (25, (19, 2, 0, 0, 0, [])), (28, (53, 0, 0, 0, 0, []))]
def C_172 : List (Nat × Op) := [(0, (4, 0, 0, 0, 0, [])), (1, (2, 2, 0, 0, 0, [])), (2, (0, 2, 0, 0, 0, [])), (3, (1, 0, 0, 0, 0, [])), (4, (32, 202, 9, 18, 0, [])), (7, (4, 0, 0, 0, 1, [])), (8, (9, 0, 0, 0, 0, [])), (9, (29, 62, 0, 0, 0, [])), (12, (1, 0, 0, 0, 0, [])), (13, (33, 46, 9, 20, 0, [])), (16, (0, 2, 0, 0, 0, [])), (17, (38, 0, 0, 0, 0, [])), (18, (22, 39, 0, 0, 0, [])), (21, (1, 0, 0, 0, 0, [])), (22, (33, 49, 9, 22, 0, [])), (25, (1, 0, 0, 0, 0, [])), (26, (33, 46, 9, 20, 0, [])), (29, (0, 2, 0, 0, 0, [])), (30, (38, 0, 0, 0, 0, [])), (31, (17, 0, 0, 0, 0, [])), (32, (38, 0, 0, 0, 0, [])), (33, (0, 1, 0, 0, 0, [])), (34, (8, 0, 0, 0, 0, [])), (35, (39, 0, 0, 0, 0, [])), (36, (19, 56, 0, 0, 0, [])), (39, (1, 0, 0, 0, 0, [])), (40, (33, 52, 9, 23, 0, [])), (43, (4, 0, 0, 0, -1, [])), (44, (1, 0, 0, 0, 0, [])), (45, (33, 46, 9, 20, 0, [])), (48, (0, 2, 0, 0, 0, [])), (49, (38, 0, 0, 0, 0, [])), (50, (9, 0, 0, 0, 0, [])), (51, (17, 0, 0, 0, 0, [])), (52, (38, 0, 0, 0, 0, [])), (53, (0, 1, 0, 0, 0, [])), (54, (8, 0, 0, 0, 0, [])), (55, (39, 0, 0, 0, 0, [])), (56, (13, 2, 0, 0, 1, [])), (59, (19, 2, 0, 0, 0, [])), (62, (53, 0, 0, 0, 0, []))]
def C_173 : List (Nat × Op) := [(0, (0, 1, 0, 0, 0, [])), (1, (4, 0, 0, 0, 0, [])), (2, (4, 0, 0, 0, 3, [])), (3, (47, 106, 117, 0, 0, [])), (6, (21, 11, 0, 0, 0, [])), (9, (4, 0, 0, 0, -1, [])), (10, (52, 1, 0, 0, 0, [])), (11, (1, 0, 0, 0, 0, [])), (12, (46, 222, 171, 0, 0, [])), (15, (4, 0, 0, 0, 0, [])), (16, (2, 2, 0, 0, 0, [])), (17, (0, 2, 0, 0, 0, [])), (18, (1, 0, 0, 0, 0, [])), (19, (46, 130, 129, 0, 0, [])), (22, (29, 71, 0, 0, 0, [])), (25, (4, 0, 0, 0, 0, [])), (26, (2, 3, 0, 0, 0, [])), (27, (0, 3, 0, 0, 0, [])), (28, (1, 0, 0, 0, 0, [])), (29, (46, 130, 129, 0, 0, [])), (32, (29, 65, 0, 0, 0, [])), (35, (0, 2, 0, 0, 0, [])), (36, (0, 3, 0, 0, 0, [])), (37, (26, 59, 0, 0, 0, [])), (40, (1, 0, 0, 0, 0, [])), (41, (0, 2, 0, 0, 0, [])), (42, (0, 3, 0, 0, 0, [])), (43, (4, 0, 0, 0, 0, [])), (44, (46, 212, 163, 0, 0, [])), (47, (1, 0, 0, 0, 0, [])), (48, (32, 205, 9, 21, 0, [])), (51, (20, 59, 0, 0, 0, [])), (54, (1, 0, 0, 0, 0, [])), (55, (4, 0, 0, 0, 1, [])), (56, (46, 225, 172, 0, 0, [])), (59, (13, 3, 0, 0, 1, [])), (62, (19, 27, 0, 0, 0, [])), (65, (13, 2, 0, 0, 1, [])), (68, (19, 17, 0, 0, 0, [])), (71, (5, 0, 0, 0, -4, [])), (73, (2, 2, 0, 0, 0, [])), (74, (5, 0, 0, 0, -4, [])), (76, (2, 3, 0, 0, 0, [])), (77, (4, 0, 0, 0, 0, [])), (78, (2, 4, 0, 0, 0, [])), (80, (0, 4, 0, 0, 0, [])), (82, (1, 0, 0, 0, 0, [])), (83, (46, 136, 132, 0, 0, [])), (86, (29, 158, 0, 0, 0, [])), (89, (0, 1, 0, 0, 0, [])), (90, (4, 0, 0, 0, 2, [])), (91, (29, 104, 0, 0, 0, [])), (94, (1, 0, 0, 0, 0, [])), (95, (33, 49, 9, 22, 0, [])), (98, (0, 4, 0, 0, 0, [])), (100, (38, 0, 0, 0, 0, [])), (101, (19, 111, 0, 0, 0, [])), (104, (1, 0, 0, 0, 0, [])), (105, (33, 52, 9, 23, 0, [])), (108, (0, 4, 0, 0, 0, [])), (110, (38, 0, 0, 0, 0, [])), (111, (2, 5, 0, 0, 0, [])), (113, (1, 0, 0, 0, 0, [])), (114, (0, 4, 0, 0, 0, [])), (116, (46, 159, 142, 0, 0, [])), (119, (20, 152, 0, 0, 0, [])), (122, (0, 5, 0, 0, 0, [])), (124, (0, 2, 0, 0, 0, [])), (125, (31, 133, 0, 0, 0, [])), (128, (0, 5, 0, 0, 0, [])), (130, (19, 134, 0, 0, 0, [])), (133, (0, 2, 0, 0, 0, [])), (134, (2, 2, 0, 0, 0, [])), (135, (0, 3, 0, 0, 0, [])), (136, (22, 145, 0, 0, 0, [])), (139, (0, 5, 0, 0, 0, [])), (141, (0, 3, 0, 0, 0, [])), (142, (29, 150, 0, 0, 0, [])), (145, (0, 5, 0, 0, 0, [])), (147, (19, 151, 0, 0, 0, [])), (150, (0, 3, 0, 0, 0, [])), (151, (2, 3, 0, 0, 0, [])), (152, (13, 4, 0, 0, 1, [])), (155, (19, 80, 0, 0, 0, [])), (158, (0, 1, 0, 0, 0, [])), (159, (4, 0, 0, 0, 2, [])), (160, (12, 0, 0, 0, 0, [])), (161, (21, 168, 0, 0, 0, [])), (164, (0, 2, 0, 0, 0, [])), (165, (19, 169, 0, 0, 0, [])), (168, (0, 3, 0, 0, 0, [])), (169, (52, 1, 0, 0, 0, []))]
def C_174 : List (Nat × Op) := [(0, (0, 1, 0, 0, 0, [])), (1, (4, 0, 0, 0, 0, [])), (2, (1, 0, 0, 0, 0, [])), (3, (32, 74, 9, 7, 0, [])), (6, (4, 0, 0, 0, 1, [])), (7, (9, 0, 0, 0, 0, [])), (8, (47, 106, 117, 0, 0, [])), (11, (52, 2, 0, 0, 0, []))]
def C_175 : List (Nat × Op) := [(0, (1, 0, 0, 0, 0, [])), (1, (0, 1, 0, 0, 0, [])), (2, (0, 2, 0, 0, 0, [])), (3, (46, 209, 164, 0, 0, [])), (6, (20, 19, 0, 0, 0, [])), (9, (0, 3, 0, 0, 0, [])), (10, (4, 0, 0, 0, 1, [])), (11, (5, 0, 0, 0, 99, [])), (13, (47, 106, 117, 0, 0, [])), (16, (21, 21, 0, 0, 0, [])), (19, (4, 0, 0, 0, -1, [])), (20, (52, 1, 0, 0, 0, [])), (21, (1, 0, 0, 0, 0, [])), (22, (32, 74, 9, 7, 0, [])), (25, (5, 0, 0, 0, 16, [])), (27, (27, 33, 0, 0, 0, [])), (30, (5, 0, 0, 0, -3, [])), (32, (52, 1, 0, 0, 0, [])), (33, (1, 0, 0, 0, 0, [])), (34, (46, 165, 147, 0, 0, [])), (37, (1, 0, 0, 0, 0, [])), (38, (33, 22, 9, 8, 0, [])), (41, (4, 0, 0, 0, 4, [])), (42, (1, 0, 0, 0, 0, [])), (43, (32, 74, 9, 7, 0, [])), (46, (10, 0, 0, 0, 0, [])), (47, (0, 1, 0, 0, 0, [])), (48, (39, 0, 0, 0, 0, [])), (49, (1, 0, 0, 0, 0, [])), (50, (33, 22, 9, 8, 0, [])), (53, (4, 0, 0, 0, 4, [])), (54, (1, 0, 0, 0, 0, [])), (55, (32, 74, 9, 7, 0, [])), (58, (10, 0, 0, 0, 0, [])), (59, (4, 0, 0, 0, 1, [])), (60, (8, 0, 0, 0, 0, [])), (61, (0, 2, 0, 0, 0, [])), (62, (39, 0, 0, 0, 0, [])), (63, (1, 0, 0, 0, 0, [])), (64, (33, 22, 9, 8, 0, [])), (67, (4, 0, 0, 0, 4, [])), (68, (1, 0, 0, 0, 0, [])), (69, (32, 74, 9, 7, 0, [])), (72, (10, 0, 0, 0, 0, [])), (73, (4, 0, 0, 0, 2, [])), (74, (8, 0, 0, 0, 0, [])), (75, (0, 3, 0, 0, 0, [])), (76, (39, 0, 0, 0, 0, [])), (77, (1, 0, 0, 0, 0, [])), (78, (33, 22, 9, 8, 0, [])), (81, (4, 0, 0, 0, 4, [])), (82, (1, 0, 0, 0, 0, [])), (83, (32, 74, 9, 7, 0, [])), (86, (10, 0, 0, 0, 0, [])), (87, (4, 0, 0, 0, 3, [])), (88, (8, 0, 0, 0, 0, [])), (89, (4, 0, 0, 0, 0, [])), (90, (39, 0, 0, 0, 0, [])), (91, (1, 0, 0, 0, 0, [])), (92, (16, 0, 0, 0, 0, [])), (93, (32, 74, 9, 7, 0, [])), (96, (4, 0, 0, 0, 1, [])), (97, (8, 0, 0, 0, 0, [])), (98, (34, 74, 9, 7, 0, [])), (101, (1, 0, 0, 0, 0, [])), (102, (32, 74, 9, 7, 0, [])), (105, (4, 0, 0, 0, 1, [])), (106, (9, 0, 0, 0, 0, [])), (107, (52, 1, 0, 0, 0, []))]
def C_176 : List (Nat × Op) := [(0, (1, 0, 0, 0, 0, [])), (1, (0, 1, 0, 0, 0, [])), (2, (46, 228, 174, 0, 0, [])), (5, (21, 10, 0, 0, 0, [])), (8, (4, 0, 0, 0, -1, [])), (9, (52, 1, 0, 0, 0, [])), (10, (1, 0, 0, 0, 0, [])), (11, (46, 165, 147, 0, 0, [])), (14, (1, 0, 0, 0, 0, [])), (15, (16, 0, 0, 0, 0, [])), (16, (32, 74, 9, 7, 0, [])), (19, (4, 0, 0, 0, 1, [])), (20, (9, 0, 0, 0, 0, [])), (21, (34, 74, 9, 7, 0, [])), (24, (4, 0, 0, 0, 4, [])), (25, (0, 1, 0, 0, 0, [])), (26, (10, 0, 0, 0, 0, [])), (27, (2, 2, 0, 0, 0, [])), (28, (0, 2, 0, 0, 0, [])), (29, (4, 0, 0, 0, 4, [])), (30, (1, 0, 0, 0, 0, [])), (31, (32, 74, 9, 7, 0, [])), (34, (10, 0, 0, 0, 0, [])), (35, (29, 58, 0, 0, 0, [])), (38, (1, 0, 0, 0, 0, [])), (39, (33, 22, 9, 8, 0, [])), (42, (0, 2, 0, 0, 0, [])), (43, (1, 0, 0, 0, 0, [])), (44, (33, 22, 9, 8, 0, [])), (47, (0, 2, 0, 0, 0, [])), (48, (4, 0, 0, 0, 4, [])), (49, (8, 0, 0, 0, 0, [])), (50, (38, 0, 0, 0, 0, [])), (51, (39, 0, 0, 0, 0, [])), (52, (13, 2, 0, 0, 1, [])), (55, (19, 28, 0, 0, 0, [])), (58, (1, 0, 0, 0, 0, [])), (59, (32, 74, 9, 7, 0, [])), (62, (52, 1, 0, 0, 0, []))]
def C_177 : List (Nat × Op) := [(0, (1, 0, 0, 0, 0, [])), (1, (0, 1, 0, 0, 0, [])), (2, (46, 228, 174, 0, 0, [])), (5, (20, 16, 0, 0, 0, [])), (8, (1, 0, 0, 0, 0, [])), (9, (0, 2, 0, 0, 0, [])), (10, (46, 196, 136, 0, 0, [])), (13, (21, 18, 0, 0, 0, [])), (16, (4, 0, 0, 0, -1, [])), (17, (52, 1, 0, 0, 0, [])), (18, (1, 0, 0, 0, 0, [])), (19, (33, 22, 9, 8, 0, [])), (22, (4, 0, 0, 0, 4, [])), (23, (0, 1, 0, 0, 0, [])), (24, (10, 0, 0, 0, 0, [])), (25, (4, 0, 0, 0, 3, [])), (26, (8, 0, 0, 0, 0, [])), (27, (38, 0, 0, 0, 0, [])), (28, (2, 3, 0, 0, 0, [])), (29, (0, 3, 0, 0, 0, [])), (30, (0, 2, 0, 0, 0, [])), (31, (27, 37, 0, 0, 0, [])), (34, (5, 0, 0, 0, -2, [])), (36, (52, 1, 0, 0, 0, [])), (37, (1, 0, 0, 0, 0, [])), (38, (46, 165, 147, 0, 0, [])), (41, (1, 0, 0, 0, 0, [])), (42, (33, 22, 9, 8, 0, [])), (45, (4, 0, 0, 0, 4, [])), (46, (0, 1, 0, 0, 0, [])), (47, (10, 0, 0, 0, 0, [])), (48, (4, 0, 0, 0, 3, [])), (49, (8, 0, 0, 0, 0, [])), (50, (0, 2, 0, 0, 0, [])), (51, (39, 0, 0, 0, 0, [])), (52, (0, 3, 0, 0, 0, [])), (53, (52, 1, 0, 0, 0, []))]
def C_178 : List (Nat × Op) := [(0, (1, 0, 0, 0, 0, [])), (1, (1, 0, 0, 0, 0, [])), (2, (33, 22, 9, 8, 0, [])), (5, (4, 0, 0, 0, 4, [])), (6, (0, 1, 0, 0, 0, [])), (7, (10, 0, 0, 0, 0, [])), (8, (38, 0, 0, 0, 0, [])), (9, (1, 0, 0, 0, 0, [])), (10, (33, 22, 9, 8, 0, [])), (13, (4, 0, 0, 0, 4, [])), (14, (0, 1, 0, 0, 0, [])), (15, (10, 0, 0, 0, 0, [])), (16, (4, 0, 0, 0, 1, [])), (17, (8, 0, 0, 0, 0, [])), (18, (38, 0, 0, 0, 0, [])), (19, (1, 0, 0, 0, 0, [])), (20, (33, 22, 9, 8, 0, [])), (23, (4, 0, 0, 0, 4, [])), (24, (0, 1, 0, 0, 0, [])), (25, (10, 0, 0, 0, 0, [])), (26, (4, 0, 0, 0, 3, [])), (27, (8, 0, 0, 0, 0, [])), (28, (38, 0, 0, 0, 0, [])), (29, (46, 212, 163, 0, 0, [])), (32, (53, 0, 0, 0, 0, []))]
def C_179 : List (Nat × Op) := [(0, (1, 0, 0, 0, 0, [])), (1, (46, 222, 171, 0, 0, [])), (4, (4, 0, 0, 0, 0, [])), (5, (2, 1, 0, 0, 0, [])), (6, (0, 1, 0, 0, 0, [])), (7, (5, 0, 0, 0, 54, [])), (9, (29, 32, 0, 0, 0, [])), (12, (1, 0, 0, 0, 0, [])), (13, (33, 55, 9, 24, 0, [])), (16, (0, 1, 0, 0, 0, [])), (17, (4, 0, 0, 0, 0, [])), (18, (39, 0, 0, 0, 0, [])), (19, (1, 0, 0, 0, 0, [])), (20, (33, 58, 9, 25, 0, [])), (23, (0, 1, 0, 0, 0, [])), (24, (4, 0, 0, 0, 0, [])), (25, (39, 0, 0, 0, 0, [])), (26, (13, 1, 0, 0, 1, [])), (29, (19, 6, 0, 0, 0, [])), (32, (4, 0, 0, 0, 0, [])), (33, (2, 1, 0, 0, 0, [])), (34, (0, 1, 0, 0, 0, [])), (35, (1, 0, 0, 0, 0, [])), (36, (32, 74, 9, 7, 0, [])), (39, (29, 101, 0, 0, 0, [])), (42, (1, 0, 0, 0, 0, [])), (43, (0, 1, 0, 0, 0, [])), (44, (46, 231, 178, 0, 0, [])), (47, (1, 0, 0, 0, 0, [])), (48, (32, 205, 9, 21, 0, [])), (51, (20, 95, 0, 0, 0, [])), (54, (1, 0, 0, 0, 0, [])), (55, (4, 0, 0, 0, 1, [])), (56, (46, 225, 172, 0, 0, [])), (59, (1, 0, 0, 0, 0, [])), (60, (33, 55, 9, 24, 0, [])), (63, (1, 0, 0, 0, 0, [])), (64, (33, 22, 9, 8, 0, [])), (67, (4, 0, 0, 0, 4, [])), (68, (0, 1, 0, 0, 0, [])), (69, (10, 0, 0, 0, 0, [])), (70, (38, 0, 0, 0, 0, [])), (71, (17, 0, 0, 0, 0, [])), (72, (38, 0, 0, 0, 0, [])), (73, (4, 0, 0, 0, 1, [])), (74, (8, 0, 0, 0, 0, [])), (75, (39, 0, 0, 0, 0, [])), (76, (1, 0, 0, 0, 0, [])), (77, (33, 58, 9, 25, 0, [])), (80, (1, 0, 0, 0, 0, [])), (81, (33, 22, 9, 8, 0, [])), (84, (4, 0, 0, 0, 4, [])), (85, (0, 1, 0, 0, 0, [])), (86, (10, 0, 0, 0, 0, [])), (87, (4, 0, 0, 0, 1, [])), (88, (8, 0, 0, 0, 0, [])), (89, (38, 0, 0, 0, 0, [])), (90, (17, 0, 0, 0, 0, [])), (91, (38, 0, 0, 0, 0, [])), (92, (4, 0, 0, 0, 1, [])), (93, (8, 0, 0, 0, 0, [])), (94, (39, 0, 0, 0, 0, [])), (95, (13, 1, 0, 0, 1, [])), (98, (19, 34, 0, 0, 0, [])), (101, (4, 0, 0, 0, 0, [])), (102, (2, 1, 0, 0, 0, [])), (103, (0, 1, 0, 0, 0, [])), (104, (1, 0, 0, 0, 0, [])), (105, (32, 74, 9, 7, 0, [])), (108, (29, 275, 0, 0, 0, [])), (111, (1, 0, 0, 0, 0, [])), (112, (0, 1, 0, 0, 0, [])), (113, (46, 231, 178, 0, 0, [])), (116, (1, 0, 0, 0, 0, [])), (117, (33, 55, 9, 24, 0, [])), (120, (1, 0, 0, 0, 0, [])), (121, (33, 22, 9, 8, 0, [])), (124, (4, 0, 0, 0, 4, [])), (125, (0, 1, 0, 0, 0, [])), (126, (10, 0, 0, 0, 0, [])), (127, (38, 0, 0, 0, 0, [])), (128, (38, 0, 0, 0, 0, [])), (129, (1, 0, 0, 0, 0, [])), (130, (33, 58, 9, 25, 0, [])), (133, (1, 0, 0, 0, 0, [])), (134, (33, 22, 9, 8, 0, [])), (137, (4, 0, 0, 0, 4, [])), (138, (0, 1, 0, 0, 0, [])), (139, (10, 0, 0, 0, 0, [])), (140, (4, 0, 0, 0, 1, [])), (141, (8, 0, 0, 0, 0, [])), (142, (38, 0, 0, 0, 0, [])), (143, (38, 0, 0, 0, 0, [])), (144, (31, 163, 0, 0, 0, [])), (147, (1, 0, 0, 0, 0, [])), (148, (33, 55, 9, 24, 0, [])), (151, (1, 0, 0, 0, 0, [])), (152, (33, 22, 9, 8, 0, [])), (155, (4, 0, 0, 0, 4, [])), (156, (0, 1, 0, 0, 0, [])), (157, (10, 0, 0, 0, 0, [])), (158, (38, 0, 0, 0, 0, [])), (159, (38, 0, 0, 0, 0, [])), (160, (19, 178, 0, 0, 0, [])), (163, (1, 0, 0, 0, 0, [])), (164, (33, 58, 9, 25, 0, [])), (167, (1, 0, 0, 0, 0, [])), (168, (33, 22, 9, 8, 0, [])), (171, (4, 0, 0, 0, 4, [])), (172, (0, 1, 0, 0, 0, [])), (173, (10, 0, 0, 0, 0, [])), (174, (4, 0, 0, 0, 1, [])), (175, (8, 0, 0, 0, 0, [])), (176, (38, 0, 0, 0, 0, [])), (177, (38, 0, 0, 0, 0, [])), (178, (2, 2, 0, 0, 0, [])), (179, (4, 0, 0, 0, 0, [])), (180, (2, 3, 0, 0, 0, [])), (181, (0, 3, 0, 0, 0, [])), (182, (1, 0, 0, 0, 0, [])), (183, (32, 202, 9, 18, 0, [])), (186, (4, 0, 0, 0, 1, [])), (187, (9, 0, 0, 0, 0, [])), (188, (29, 248, 0, 0, 0, [])), (191, (1, 0, 0, 0, 0, [])), (192, (33, 46, 9, 20, 0, [])), (195, (0, 3, 0, 0, 0, [])), (196, (38, 0, 0, 0, 0, [])), (197, (22, 214, 0, 0, 0, [])), (200, (1, 0, 0, 0, 0, [])), (201, (33, 49, 9, 22, 0, [])), (204, (1, 0, 0, 0, 0, [])), (205, (33, 46, 9, 20, 0, [])), (208, (0, 3, 0, 0, 0, [])), (209, (38, 0, 0, 0, 0, [])), (210, (38, 0, 0, 0, 0, [])), (211, (19, 227, 0, 0, 0, [])), (214, (1, 0, 0, 0, 0, [])), (215, (33, 52, 9, 23, 0, [])), (218, (4, 0, 0, 0, -1, [])), (219, (1, 0, 0, 0, 0, [])), (220, (33, 46, 9, 20, 0, [])), (223, (0, 3, 0, 0, 0, [])), (224, (38, 0, 0, 0, 0, [])), (225, (9, 0, 0, 0, 0, [])), (226, (38, 0, 0, 0, 0, [])), (227, (2, 4, 0, 0, 0, [])), (229, (0, 4, 0, 0, 0, [])), (231, (0, 2, 0, 0, 0, [])), (232, (31, 240, 0, 0, 0, [])), (235, (0, 4, 0, 0, 0, [])), (237, (19, 241, 0, 0, 0, [])), (240, (0, 2, 0, 0, 0, [])), (241, (2, 2, 0, 0, 0, [])), (242, (13, 3, 0, 0, 1, [])), (245, (19, 181, 0, 0, 0, [])), (248, (1, 0, 0, 0, 0, [])), (249, (33, 61, 9, 26, 0, [])), (252, (0, 1, 0, 0, 0, [])), (253, (1, 0, 0, 0, 0, [])), (254, (32, 205, 9, 21, 0, [])), (257, (20, 267, 0, 0, 0, [])), (260, (7, 234, 0, 0, 720720, [])), (262, (0, 2, 0, 0, 0, [])), (263, (11, 0, 0, 0, 0, [])), (264, (19, 268, 0, 0, 0, [])), (267, (4, 0, 0, 0, 0, [])), (268, (39, 0, 0, 0, 0, [])), (269, (13, 1, 0, 0, 1, [])), (272, (19, 103, 0, 0, 0, [])), (275, (53, 0, 0, 0, 0, []))]
def C_180 : List (Nat × Op) := [(0, (5, 0, 0, 0, -4, [])), (2, (2, 1, 0, 0, 0, [])), (3, (4, 0, 0, 0, 0, [])), (4, (2, 2, 0, 0, 0, [])), (5, (0, 2, 0, 0, 0, [])), (6, (1, 0, 0, 0, 0, [])), (7, (32, 74, 9, 7, 0, [])), (10, (29, 44, 0, 0, 0, [])), (13, (0, 1, 0, 0, 0, [])), (14, (22, 27, 0, 0, 0, [])), (17, (1, 0, 0, 0, 0, [])), (18, (33, 61, 9, 26, 0, [])), (21, (0, 2, 0, 0, 0, [])), (22, (38, 0, 0, 0, 0, [])), (23, (0, 1, 0, 0, 0, [])), (24, (29, 36, 0, 0, 0, [])), (27, (1, 0, 0, 0, 0, [])), (28, (33, 61, 9, 26, 0, [])), (31, (0, 2, 0, 0, 0, [])), (32, (38, 0, 0, 0, 0, [])), (33, (19, 37, 0, 0, 0, [])), (36, (0, 1, 0, 0, 0, [])), (37, (2, 1, 0, 0, 0, [])), (38, (13, 2, 0, 0, 1, [])), (41, (19, 5, 0, 0, 0, [])), (44, (0, 1, 0, 0, 0, [])), (45, (52, 1, 0, 0, 0, []))]
def C_181 : List (Nat × Op) := [(0, (1, 0, 0, 0, 0, [])), (1, (0, 1, 0, 0, 0, [])), (2, (46, 228, 174, 0, 0, [])), (5, (20, 17, 0, 0, 0, [])), (8, (0, 2, 0, 0, 0, [])), (9, (4, 0, 0, 0, 0, [])), (10, (4, 0, 0, 0, 5, [])), (11, (47, 106, 117, 0, 0, [])), (14, (21, 19, 0, 0, 0, [])), (17, (4, 0, 0, 0, -1, [])), (18, (52, 1, 0, 0, 0, [])), (19, (0, 2, 0, 0, 0, [])), (20, (4, 0, 0, 0, 4, [])), (21, (29, 35, 0, 0, 0, [])), (24, (1, 0, 0, 0, 0, [])), (25, (33, 22, 9, 8, 0, [])), (28, (4, 0, 0, 0, 4, [])), (29, (0, 1, 0, 0, 0, [])), (30, (10, 0, 0, 0, 0, [])), (31, (0, 2, 0, 0, 0, [])), (32, (8, 0, 0, 0, 0, [])), (33, (38, 0, 0, 0, 0, [])), (34, (52, 1, 0, 0, 0, [])), (35, (1, 0, 0, 0, 0, [])), (36, (46, 235, 179, 0, 0, [])), (39, (0, 2, 0, 0, 0, [])), (40, (4, 0, 0, 0, 5, [])), (41, (27, 53, 0, 0, 0, [])), (44, (1, 0, 0, 0, 0, [])), (45, (33, 61, 9, 26, 0, [])), (48, (0, 1, 0, 0, 0, [])), (49, (38, 0, 0, 0, 0, [])), (50, (19, 67, 0, 0, 0, [])), (53, (1, 0, 0, 0, 0, [])), (54, (33, 61, 9, 26, 0, [])), (57, (0, 1, 0, 0, 0, [])), (58, (38, 0, 0, 0, 0, [])), (59, (25, 66, 0, 0, 0, [])), (62, (4, 0, 0, 0, 1, [])), (63, (19, 67, 0, 0, 0, [])), (66, (4, 0, 0, 0, 0, [])), (67, (52, 1, 0, 0, 0, []))]
def C_182 : List (Nat × Op) := [(0, (1, 0, 0, 0, 0, [])), (1, (0, 1, 0, 0, 0, [])), (2, (46, 162, 135, 0, 0, [])), (5, (20, 26, 0, 0, 0, [])), (8, (0, 2, 0, 0, 0, [])), (9, (4, 0, 0, 0, 0, [])), (10, (4, 0, 0, 0, 1, [])), (11, (47, 106, 117, 0, 0, [])), (14, (20, 26, 0, 0, 0, [])), (17, (0, 3, 0, 0, 0, [])), (18, (4, 0, 0, 0, 0, [])), (19, (4, 0, 0, 0, 1, [])), (20, (47, 106, 117, 0, 0, [])), (23, (21, 28, 0, 0, 0, [])), (26, (4, 0, 0, 0, -1, [])), (27, (52, 1, 0, 0, 0, [])), (28, (1, 0, 0, 0, 0, [])), (29, (46, 222, 171, 0, 0, [])), (32, (4, 0, 0, 0, 0, [])), (33, (2, 4, 0, 0, 0, [])), (35, (0, 4, 0, 0, 0, [])), (37, (1, 0, 0, 0, 0, [])), (38, (32, 74, 9, 7, 0, [])), (41, (29, 86, 0, 0, 0, [])), (44, (1, 0, 0, 0, 0, [])), (45, (0, 4, 0, 0, 0, [])), (47, (46, 231, 178, 0, 0, [])), (50, (1, 0, 0, 0, 0, [])), (51, (32, 205, 9, 21, 0, [])), (54, (20, 80, 0, 0, 0, [])), (57, (1, 0, 0, 0, 0, [])), (58, (0, 3, 0, 0, 0, [])), (59, (21, 66, 0, 0, 0, [])), (62, (4, 0, 0, 0, 1, [])), (63, (19, 77, 0, 0, 0, [])), (66, (1, 0, 0, 0, 0, [])), (67, (33, 22, 9, 8, 0, [])), (70, (4, 0, 0, 0, 4, [])), (71, (0, 4, 0, 0, 0, [])), (73, (10, 0, 0, 0, 0, [])), (74, (4, 0, 0, 0, 2, [])), (75, (8, 0, 0, 0, 0, [])), (76, (38, 0, 0, 0, 0, [])), (77, (46, 225, 172, 0, 0, [])), (80, (13, 4, 0, 0, 1, [])), (83, (19, 35, 0, 0, 0, [])), (86, (0, 2, 0, 0, 0, [])), (87, (4, 0, 0, 0, 1, [])), (88, (27, 100, 0, 0, 0, [])), (91, (1, 0, 0, 0, 0, [])), (92, (33, 49, 9, 22, 0, [])), (95, (0, 1, 0, 0, 0, [])), (96, (38, 0, 0, 0, 0, [])), (97, (19, 106, 0, 0, 0, [])), (100, (1, 0, 0, 0, 0, [])), (101, (33, 52, 9, 23, 0, [])), (104, (0, 1, 0, 0, 0, [])), (105, (38, 0, 0, 0, 0, [])), (106, (52, 1, 0, 0, 0, []))]
def C_183 : List (Nat × Op) := [(0, (1, 0, 0, 0, 0, [])), (1, (46, 235, 179, 0, 0, [])), (4, (1, 0, 0, 0, 0, [])), (5, (46, 238, 180, 0, 0, [])), (8, (52, 1, 0, 0, 0, []))]
def C_184 : List (Nat × Op) := [(0, (1, 0, 0, 0, 0, [])), (1, (0, 1, 0, 0, 0, [])), (2, (46, 228, 174, 0, 0, [])), (5, (20, 16, 0, 0, 0, [])), (8, (1, 0, 0, 0, 0, [])), (9, (0, 2, 0, 0, 0, [])), (10, (46, 196, 136, 0, 0, [])), (13, (21, 18, 0, 0, 0, [])), (16, (4, 0, 0, 0, -1, [])), (17, (52, 1, 0, 0, 0, [])), (18, (1, 0, 0, 0, 0, [])), (19, (33, 22, 9, 8, 0, [])), (22, (4, 0, 0, 0, 4, [])), (23, (0, 1, 0, 0, 0, [])), (24, (10, 0, 0, 0, 0, [])), (25, (4, 0, 0, 0, 3, [])), (26, (8, 0, 0, 0, 0, [])), (27, (38, 0, 0, 0, 0, [])), (28, (2, 3, 0, 0, 0, [])), (29, (1, 0, 0, 0, 0, [])), (30, (33, 22, 9, 8, 0, [])), (33, (4, 0, 0, 0, 4, [])), (34, (0, 1, 0, 0, 0, [])), (35, (10, 0, 0, 0, 0, [])), (36, (4, 0, 0, 0, 3, [])), (37, (8, 0, 0, 0, 0, [])), (38, (0, 2, 0, 0, 0, [])), (39, (39, 0, 0, 0, 0, [])), (40, (1, 0, 0, 0, 0, [])), (41, (46, 235, 179, 0, 0, [])), (44, (1, 0, 0, 0, 0, [])), (45, (33, 22, 9, 8, 0, [])), (48, (4, 0, 0, 0, 4, [])), (49, (0, 1, 0, 0, 0, [])), (50, (10, 0, 0, 0, 0, [])), (51, (4, 0, 0, 0, 3, [])), (52, (8, 0, 0, 0, 0, [])), (53, (0, 3, 0, 0, 0, [])), (54, (39, 0, 0, 0, 0, [])), (55, (1, 0, 0, 0, 0, [])), (56, (46, 238, 180, 0, 0, [])), (59, (52, 1, 0, 0, 0, []))]
def C_185 : List (Nat × Op) := [(0, (1, 0, 0, 0, 0, [])), (1, (33, 22, 9, 8, 0, [])), (4, (4, 0, 0, 0, 4, [])), (5, (0, 1, 0, 0, 0, [])), (6, (10, 0, 0, 0, 0, [])), (7, (4, 0, 0, 0, 3, [])), (8, (8, 0, 0, 0, 0, [])), (9, (38, 0, 0, 0, 0, [])), (10, (2, 2, 0, 0, 0, [])), (11, (1, 0, 0, 0, 0, [])), (12, (46, 235, 179, 0, 0, [])), (15, (1, 0, 0, 0, 0, [])), (16, (46, 238, 180, 0, 0, [])), (19, (2, 3, 0, 0, 0, [])), (20, (1, 0, 0, 0, 0, [])), (21, (33, 61, 9, 26, 0, [])), (24, (0, 1, 0, 0, 0, [])), (25, (38, 0, 0, 0, 0, [])), (26, (2, 4, 0, 0, 0, [])), (28, (0, 2, 0, 0, 0, [])), (29, (2, 5, 0, 0, 0, [])), (31, (4, 0, 0, 0, 0, [])), (32, (2, 6, 0, 0, 0, [])), (34, (0, 6, 0, 0, 0, [])), (36, (1, 0, 0, 0, 0, [])), (37, (32, 84, 9, 3, 0, [])), (40, (1, 0, 0, 0, 0, [])), (41, (32, 84, 9, 3, 0, [])), (44, (10, 0, 0, 0, 0, [])), (45, (29, 114, 0, 0, 0, [])), (48, (1, 0, 0, 0, 0, [])), (49, (33, 22, 9, 8, 0, [])), (52, (4, 0, 0, 0, 4, [])), (53, (0, 1, 0, 0, 0, [])), (54, (10, 0, 0, 0, 0, [])), (55, (4, 0, 0, 0, 3, [])), (56, (8, 0, 0, 0, 0, [])), (57, (0, 6, 0, 0, 0, [])), (59, (39, 0, 0, 0, 0, [])), (60, (1, 0, 0, 0, 0, [])), (61, (46, 235, 179, 0, 0, [])), (64, (1, 0, 0, 0, 0, [])), (65, (46, 238, 180, 0, 0, [])), (68, (2, 7, 0, 0, 0, [])), (70, (0, 7, 0, 0, 0, [])), (72, (0, 3, 0, 0, 0, [])), (73, (30, 93, 0, 0, 0, [])), (76, (0, 7, 0, 0, 0, [])), (78, (0, 3, 0, 0, 0, [])), (79, (27, 108, 0, 0, 0, [])), (82, (1, 0, 0, 0, 0, [])), (83, (33, 61, 9, 26, 0, [])), (86, (0, 1, 0, 0, 0, [])), (87, (38, 0, 0, 0, 0, [])), (88, (0, 4, 0, 0, 0, [])), (90, (31, 108, 0, 0, 0, [])), (93, (0, 7, 0, 0, 0, [])), (95, (2, 3, 0, 0, 0, [])), (96, (1, 0, 0, 0, 0, [])), (97, (33, 61, 9, 26, 0, [])), (100, (0, 1, 0, 0, 0, [])), (101, (38, 0, 0, 0, 0, [])), (102, (2, 4, 0, 0, 0, [])), (104, (0, 6, 0, 0, 0, [])), (106, (2, 5, 0, 0, 0, [])), (108, (13, 6, 0, 0, 1, [])), (111, (19, 34, 0, 0, 0, [])), (114, (1, 0, 0, 0, 0, [])), (115, (33, 22, 9, 8, 0, [])), (118, (4, 0, 0, 0, 4, [])), (119, (0, 1, 0, 0, 0, [])), (120, (10, 0, 0, 0, 0, [])), (121, (4, 0, 0, 0, 3, [])), (122, (8, 0, 0, 0, 0, [])), (123, (0, 5, 0, 0, 0, [])), (125, (39, 0, 0, 0, 0, [])), (126, (53, 0, 0, 0, 0, []))]
def C_186 : List (Nat × Op) := [(0, (4, 0, 0, 0, 0, [])), (1, (2, 1, 0, 0, 0, [])), (2, (4, 0, 0, 0, 0, [])), (3, (2, 2, 0, 0, 0, [])), (4, (0, 2, 0, 0, 0, [])), (5, (1, 0, 0, 0, 0, [])), (6, (32, 74, 9, 7, 0, [])), (9, (29, 34, 0, 0, 0, [])), (12, (1, 0, 0, 0, 0, [])), (13, (33, 67, 9, 29, 0, [])), (16, (0, 2, 0, 0, 0, [])), (17, (1, 0, 0, 0, 0, [])), (18, (33, 22, 9, 8, 0, [])), (21, (4, 0, 0, 0, 4, [])), (22, (0, 2, 0, 0, 0, [])), (23, (10, 0, 0, 0, 0, [])), (24, (4, 0, 0, 0, 3, [])), (25, (8, 0, 0, 0, 0, [])), (26, (38, 0, 0, 0, 0, [])), (27, (39, 0, 0, 0, 0, [])), (28, (13, 2, 0, 0, 1, [])), (31, (19, 4, 0, 0, 0, [])), (34, (5, 0, 0, 0, 99, [])), (36, (2, 2, 0, 0, 0, [])), (37, (0, 2, 0, 0, 0, [])), (38, (25, 82, 0, 0, 0, [])), (41, (4, 0, 0, 0, 0, [])), (42, (2, 3, 0, 0, 0, [])), (43, (0, 3, 0, 0, 0, [])), (44, (1, 0, 0, 0, 0, [])), (45, (32, 74, 9, 7, 0, [])), (48, (29, 76, 0, 0, 0, [])), (51, (1, 0, 0, 0, 0, [])), (52, (33, 22, 9, 8, 0, [])), (55, (4, 0, 0, 0, 4, [])), (56, (0, 3, 0, 0, 0, [])), (57, (10, 0, 0, 0, 0, [])), (58, (4, 0, 0, 0, 2, [])), (59, (8, 0, 0, 0, 0, [])), (60, (38, 0, 0, 0, 0, [])), (61, (0, 2, 0, 0, 0, [])), (62, (27, 70, 0, 0, 0, [])), (65, (1, 0, 0, 0, 0, [])), (66, (0, 3, 0, 0, 0, [])), (67, (46, 241, 185, 0, 0, [])), (70, (13, 3, 0, 0, 1, [])), (73, (19, 43, 0, 0, 0, [])), (76, (13, 2, 0, 0, -1, [])), (79, (19, 37, 0, 0, 0, [])), (82, (4, 0, 0, 0, 0, [])), (83, (2, 2, 0, 0, 0, [])), (84, (0, 2, 0, 0, 0, [])), (85, (1, 0, 0, 0, 0, [])), (86, (32, 74, 9, 7, 0, [])), (89, (29, 154, 0, 0, 0, [])), (92, (1, 0, 0, 0, 0, [])), (93, (33, 22, 9, 8, 0, [])), (96, (4, 0, 0, 0, 4, [])), (97, (0, 2, 0, 0, 0, [])), (98, (10, 0, 0, 0, 0, [])), (99, (4, 0, 0, 0, 3, [])), (100, (8, 0, 0, 0, 0, [])), (101, (38, 0, 0, 0, 0, [])), (102, (2, 3, 0, 0, 0, [])), (103, (1, 0, 0, 0, 0, [])), (104, (33, 22, 9, 8, 0, [])), (107, (4, 0, 0, 0, 4, [])), (108, (0, 2, 0, 0, 0, [])), (109, (10, 0, 0, 0, 0, [])), (110, (4, 0, 0, 0, 3, [])), (111, (8, 0, 0, 0, 0, [])), (112, (1, 0, 0, 0, 0, [])), (113, (33, 67, 9, 29, 0, [])), (116, (0, 2, 0, 0, 0, [])), (117, (38, 0, 0, 0, 0, [])), (118, (39, 0, 0, 0, 0, [])), (119, (1, 0, 0, 0, 0, [])), (120, (33, 67, 9, 29, 0, [])), (123, (0, 2, 0, 0, 0, [])), (124, (0, 3, 0, 0, 0, [])), (125, (39, 0, 0, 0, 0, [])), (126, (0, 1, 0, 0, 0, [])), (127, (0, 3, 0, 0, 0, [])), (128, (1, 0, 0, 0, 0, [])), (129, (33, 22, 9, 8, 0, [])), (132, (4, 0, 0, 0, 4, [])), (133, (0, 2, 0, 0, 0, [])), (134, (10, 0, 0, 0, 0, [])), (135, (4, 0, 0, 0, 3, [])), (136, (8, 0, 0, 0, 0, [])), (137, (38, 0, 0, 0, 0, [])), (138, (27, 145, 0, 0, 0, [])), (141, (4, 0, 0, 0, 0, [])), (142, (19, 146, 0, 0, 0, [])), (145, (4, 0, 0, 0, 1, [])), (146, (8, 0, 0, 0, 0, [])), (147, (2, 1, 0, 0, 0, [])), (148, (13, 2, 0, 0, 1, [])), (151, (19, 84, 0, 0, 0, [])), (154, (0, 1, 0, 0, 0, [])), (155, (25, 194, 0, 0, 0, [])), (158, (1, 0, 0, 0, 0, [])), (159, (46, 165, 147, 0, 0, [])), (162, (4, 0, 0, 0, 0, [])), (163, (2, 2, 0, 0, 0, [])), (164, (0, 2, 0, 0, 0, [])), (165, (1, 0, 0, 0, 0, [])), (166, (32, 74, 9, 7, 0, [])), (169, (29, 194, 0, 0, 0, [])), (172, (1, 0, 0, 0, 0, [])), (173, (33, 22, 9, 8, 0, [])), (176, (4, 0, 0, 0, 4, [])), (177, (0, 2, 0, 0, 0, [])), (178, (10, 0, 0, 0, 0, [])), (179, (4, 0, 0, 0, 3, [])), (180, (8, 0, 0, 0, 0, [])), (181, (1, 0, 0, 0, 0, [])), (182, (33, 67, 9, 29, 0, [])), (185, (0, 2, 0, 0, 0, [])), (186, (38, 0, 0, 0, 0, [])), (187, (39, 0, 0, 0, 0, [])), (188, (13, 2, 0, 0, 1, [])), (191, (19, 164, 0, 0, 0, [])), (194, (0, 1, 0, 0, 0, [])), (195, (52, 1, 0, 0, 0, []))]
def C_187 : List (Nat × Op) := [(0, (0, 1, 0, 0, 0, [])), (1, (51, 114, 0, 0, 0, [48, 53, 58, 63, 68, 99, 104, 109])), (48, (1, 0, 0, 0, 0, [])), (49, (32, 81, 9, 2, 0, [])), (52, (52, 1, 0, 0, 0, [])), (53, (1, 0, 0, 0, 0, [])), (54, (46, 130, 129, 0, 0, [])), (57, (52, 1, 0, 0, 0, [])), (58, (1, 0, 0, 0, 0, [])), (59, (46, 133, 131, 0, 0, [])), (62, (52, 1, 0, 0, 0, [])), (63, (1, 0, 0, 0, 0, [])), (64, (46, 136, 132, 0, 0, [])), (67, (52, 1, 0, 0, 0, [])), (68, (4, 0, 0, 0, 0, [])), (69, (2, 2, 0, 0, 0, [])), (70, (4, 0, 0, 0, 0, [])), (71, (2, 3, 0, 0, 0, [])), (72, (0, 3, 0, 0, 0, [])), (73, (1, 0, 0, 0, 0, [])), (74, (46, 136, 132, 0, 0, [])), (77, (29, 97, 0, 0, 0, [])), (80, (0, 2, 0, 0, 0, [])), (81, (1, 0, 0, 0, 0, [])), (82, (33, 13, 9, 4, 0, [])), (85, (0, 3, 0, 0, 0, [])), (86, (38, 0, 0, 0, 0, [])), (87, (4, 0, 0, 0, 2, [])), (88, (12, 0, 0, 0, 0, [])), (89, (8, 0, 0, 0, 0, [])), (90, (2, 2, 0, 0, 0, [])), (91, (13, 3, 0, 0, 1, [])), (94, (19, 72, 0, 0, 0, [])), (97, (0, 2, 0, 0, 0, [])), (98, (52, 1, 0, 0, 0, [])), (99, (1, 0, 0, 0, 0, [])), (100, (32, 74, 9, 7, 0, [])), (103, (52, 1, 0, 0, 0, [])), (104, (1, 0, 0, 0, 0, [])), (105, (32, 87, 9, 9, 0, [])), (108, (52, 1, 0, 0, 0, [])), (109, (1, 0, 0, 0, 0, [])), (110, (32, 90, 9, 0, 0, [])), (113, (52, 1, 0, 0, 0, [])), (114, (4, 0, 0, 0, -1, [])), (115, (52, 1, 0, 0, 0, []))]
def C_188 : List (Nat × Op) := [(0, (45, 7, 8, 12, 0, [])), (3, (16, 0, 0, 0, 0, [])), (4, (48, 9, 68, 0, 0, [])), (7, (3, 1, 0, 0, 0, [])), (8, (45, 10, 9, 30, 0, [])), (11, (16, 0, 0, 0, 0, [])), (12, (48, 12, 114, 0, 0, [])), (15, (3, 2, 0, 0, 0, [])), (16, (4, 0, 0, 0, 0, [])), (17, (2, 3, 0, 0, 0, [])), (18, (0, 3, 0, 0, 0, [])), (19, (1, 0, 0, 0, 0, [])), (20, (58, 0, 0, 0, 0, [])), (21, (4, 0, 0, 0, 5, [])), (22, (9, 0, 0, 0, 0, [])), (23, (30, 1004, 0, 0, 0, [])), (26, (1, 0, 0, 0, 0, [])), (27, (0, 3, 0, 0, 0, [])), (28, (57, 0, 0, 0, 0, [])), (29, (5, 0, 0, 0, 31, [])), (31, (14, 0, 0, 0, 0, [])), (32, (51, 998, 0, 0, 0, [168, 191, 204, 217, 230, 273, 306, 339, 372, 395, 418, 441, 474, 487, 500, 543, 596, 639, 672, 695, 718, 741, 784, 807, 840, 873, 916, 929, 962, 975])), (168, (1, 1, 0, 0, 0, [])), (169, (1, 0, 0, 0, 0, [])), (170, (0, 3, 0, 0, 0, [])), (171, (4, 0, 0, 0, 1, [])), (172, (8, 0, 0, 0, 0, [])), (173, (57, 0, 0, 0, 0, [])), (174, (46, 13, 69, 0, 0, [])), (177, (1, 2, 0, 0, 0, [])), (178, (1, 0, 0, 0, 0, [])), (179, (0, 3, 0, 0, 0, [])), (180, (4, 0, 0, 0, 1, [])), (181, (8, 0, 0, 0, 0, [])), (182, (57, 0, 0, 0, 0, [])), (183, (46, 17, 125, 0, 0, [])), (186, (26, 998, 0, 0, 0, [])), (189, (4, 0, 0, 0, 0, [])), (190, (52, 2, 0, 0, 0, [])), (191, (1, 1, 0, 0, 0, [])), (192, (46, 18, 70, 0, 0, [])), (195, (1, 2, 0, 0, 0, [])), (196, (46, 22, 126, 0, 0, [])), (199, (26, 998, 0, 0, 0, [])), (202, (4, 0, 0, 0, 0, [])), (203, (52, 2, 0, 0, 0, [])), (204, (1, 1, 0, 0, 0, [])), (205, (46, 23, 71, 0, 0, [])), (208, (1, 2, 0, 0, 0, [])), (209, (46, 26, 127, 0, 0, [])), (212, (26, 998, 0, 0, 0, [])), (215, (4, 0, 0, 0, 0, [])), (216, (52, 2, 0, 0, 0, [])), (217, (1, 1, 0, 0, 0, [])), (218, (46, 27, 72, 0, 0, [])), (221, (1, 2, 0, 0, 0, [])), (222, (46, 30, 128, 0, 0, [])), (225, (26, 998, 0, 0, 0, [])), (228, (4, 0, 0, 0, 0, [])), (229, (52, 2, 0, 0, 0, [])), (230, (1, 1, 0, 0, 0, [])), (231, (1, 0, 0, 0, 0, [])), (232, (0, 3, 0, 0, 0, [])), (233, (4, 0, 0, 0, 1, [])), (234, (8, 0, 0, 0, 0, [])), (235, (57, 0, 0, 0, 0, [])), (236, (1, 0, 0, 0, 0, [])), (237, (0, 3, 0, 0, 0, [])), (238, (4, 0, 0, 0, 2, [])), (239, (8, 0, 0, 0, 0, [])), (240, (57, 0, 0, 0, 0, [])), (241, (1, 0, 0, 0, 0, [])), (242, (0, 3, 0, 0, 0, [])), (243, (4, 0, 0, 0, 3, [])), (244, (8, 0, 0, 0, 0, [])), (245, (57, 0, 0, 0, 0, [])), (246, (46, 31, 73, 0, 0, [])), (249, (1, 2, 0, 0, 0, [])), (250, (1, 0, 0, 0, 0, [])), (251, (0, 3, 0, 0, 0, [])), (252, (4, 0, 0, 0, 1, [])), (253, (8, 0, 0, 0, 0, [])), (254, (57, 0, 0, 0, 0, [])), (255, (1, 0, 0, 0, 0, [])), (256, (0, 3, 0, 0, 0, [])), (257, (4, 0, 0, 0, 2, [])), (258, (8, 0, 0, 0, 0, [])), (259, (57, 0, 0, 0, 0, [])), (260, (1, 0, 0, 0, 0, [])), (261, (0, 3, 0, 0, 0, [])), (262, (4, 0, 0, 0, 3, [])), (263, (8, 0, 0, 0, 0, [])), (264, (57, 0, 0, 0, 0, [])), (265, (46, 35, 144, 0, 0, [])), (268, (26, 998, 0, 0, 0, [])), (271, (4, 0, 0, 0, 0, [])), (272, (52, 2, 0, 0, 0, [])), (273, (1, 1, 0, 0, 0, [])), (274, (1, 0, 0, 0, 0, [])), (275, (0, 3, 0, 0, 0, [])), (276, (4, 0, 0, 0, 1, [])), (277, (8, 0, 0, 0, 0, [])), (278, (57, 0, 0, 0, 0, [])), (279, (1, 0, 0, 0, 0, [])), (280, (0, 3, 0, 0, 0, [])), (281, (4, 0, 0, 0, 2, [])), (282, (8, 0, 0, 0, 0, [])), (283, (57, 0, 0, 0, 0, [])), (284, (46, 36, 74, 0, 0, [])), (287, (1, 2, 0, 0, 0, [])), (288, (1, 0, 0, 0, 0, [])), (289, (0, 3, 0, 0, 0, [])), (290, (4, 0, 0, 0, 1, [])), (291, (8, 0, 0, 0, 0, [])), (292, (57, 0, 0, 0, 0, [])), (293, (1, 0, 0, 0, 0, [])), (294, (0, 3, 0, 0, 0, [])), (295, (4, 0, 0, 0, 2, [])), (296, (8, 0, 0, 0, 0, [])), (297, (57, 0, 0, 0, 0, [])), (298, (46, 40, 145, 0, 0, [])), (301, (26, 998, 0, 0, 0, [])), (304, (4, 0, 0, 0, 0, [])), (305, (52, 2, 0, 0, 0, [])), (306, (1, 1, 0, 0, 0, [])), (307, (1, 0, 0, 0, 0, [])), (308, (0, 3, 0, 0, 0, [])), (309, (4, 0, 0, 0, 1, [])), (310, (8, 0, 0, 0, 0, [])), (311, (57, 0, 0, 0, 0, [])), (312, (1, 0, 0, 0, 0, [])), (313, (0, 3, 0, 0, 0, [])), (314, (4, 0, 0, 0, 2, [])), (315, (8, 0, 0, 0, 0, [])), (316, (57, 0, 0, 0, 0, [])), (317, (46, 41, 75, 0, 0, [])), (320, (1, 2, 0, 0, 0, [])), (321, (1, 0, 0, 0, 0, [])), (322, (0, 3, 0, 0, 0, [])), (323, (4, 0, 0, 0, 1, [])), (324, (8, 0, 0, 0, 0, [])), (325, (57, 0, 0, 0, 0, [])), (326, (1, 0, 0, 0, 0, [])), (327, (0, 3, 0, 0, 0, [])), (328, (4, 0, 0, 0, 2, [])), (329, (8, 0, 0, 0, 0, [])), (330, (57, 0, 0, 0, 0, [])), (331, (46, 44, 146, 0, 0, [])), (334, (26, 998, 0, 0, 0, [])), (337, (4, 0, 0, 0, 0, [])), (338, (52, 2, 0, 0, 0, [])), (339, (1, 1, 0, 0, 0, [])), (340, (1, 0, 0, 0, 0, [])), (341, (0, 3, 0, 0, 0, [])), (342, (4, 0, 0, 0, 1, [])), (343, (8, 0, 0, 0, 0, [])), (344, (57, 0, 0, 0, 0, [])), (345, (1, 0, 0, 0, 0, [])), (346, (0, 3, 0, 0, 0, [])), (347, (4, 0, 0, 0, 2, [])), (348, (8, 0, 0, 0, 0, [])), (349, (57, 0, 0, 0, 0, [])), (350, (46, 45, 76, 0, 0, [])), (353, (1, 2, 0, 0, 0, [])), (354, (1, 0, 0, 0, 0, [])), (355, (0, 3, 0, 0, 0, [])), (356, (4, 0, 0, 0, 1, [])), (357, (8, 0, 0, 0, 0, [])), (358, (57, 0, 0, 0, 0, [])), (359, (1, 0, 0, 0, 0, [])), (360, (0, 3, 0, 0, 0, [])), (361, (4, 0, 0, 0, 2, [])), (362, (8, 0, 0, 0, 0, [])), (363, (57, 0, 0, 0, 0, [])), (364, (46, 48, 150, 0, 0, [])), (367, (26, 998, 0, 0, 0, [])), (370, (4, 0, 0, 0, 0, [])), (371, (52, 2, 0, 0, 0, [])), (372, (1, 1, 0, 0, 0, [])), (373, (1, 0, 0, 0, 0, [])), (374, (0, 3, 0, 0, 0, [])), (375, (4, 0, 0, 0, 1, [])), (376, (8, 0, 0, 0, 0, [])), (377, (57, 0, 0, 0, 0, [])), (378, (46, 49, 77, 0, 0, [])), (381, (1, 2, 0, 0, 0, [])), (382, (1, 0, 0, 0, 0, [])), (383, (0, 3, 0, 0, 0, [])), (384, (4, 0, 0, 0, 1, [])), (385, (8, 0, 0, 0, 0, [])), (386, (57, 0, 0, 0, 0, [])), (387, (46, 52, 152, 0, 0, [])), (390, (26, 998, 0, 0, 0, [])), (393, (4, 0, 0, 0, 0, [])), (394, (52, 2, 0, 0, 0, [])), (395, (1, 1, 0, 0, 0, [])), (396, (1, 0, 0, 0, 0, [])), (397, (0, 3, 0, 0, 0, [])), (398, (4, 0, 0, 0, 1, [])), (399, (8, 0, 0, 0, 0, [])), (400, (57, 0, 0, 0, 0, [])), (401, (46, 53, 78, 0, 0, [])), (404, (1, 2, 0, 0, 0, [])), (405, (1, 0, 0, 0, 0, [])), (406, (0, 3, 0, 0, 0, [])), (407, (4, 0, 0, 0, 1, [])), (408, (8, 0, 0, 0, 0, [])), (409, (57, 0, 0, 0, 0, [])), (410, (46, 56, 153, 0, 0, [])), (413, (26, 998, 0, 0, 0, [])), (416, (4, 0, 0, 0, 0, [])), (417, (52, 2, 0, 0, 0, [])), (418, (1, 1, 0, 0, 0, [])), (419, (1, 0, 0, 0, 0, [])), (420, (0, 3, 0, 0, 0, [])), (421, (4, 0, 0, 0, 1, [])), (422, (8, 0, 0, 0, 0, [])), (423, (57, 0, 0, 0, 0, [])), (424, (46, 57, 79, 0, 0, [])), (427, (1, 2, 0, 0, 0, [])), (428, (1, 0, 0, 0, 0, [])), (429, (0, 3, 0, 0, 0, [])), (430, (4, 0, 0, 0, 1, [])), (431, (8, 0, 0, 0, 0, [])), (432, (57, 0, 0, 0, 0, [])), (433, (46, 60, 155, 0, 0, [])), (436, (26, 998, 0, 0, 0, [])), (439, (4, 0, 0, 0, 0, [])), (440, (52, 2, 0, 0, 0, [])), (441, (1, 1, 0, 0, 0, [])), (442, (1, 0, 0, 0, 0, [])), (443, (0, 3, 0, 0, 0, [])), (444, (4, 0, 0, 0, 1, [])), (445, (8, 0, 0, 0, 0, [])), (446, (57, 0, 0, 0, 0, [])), (447, (1, 0, 0, 0, 0, [])), (448, (0, 3, 0, 0, 0, [])), (449, (4, 0, 0, 0, 2, [])), (450, (8, 0, 0, 0, 0, [])), (451, (57, 0, 0, 0, 0, [])), (452, (46, 61, 80, 0, 0, [])), (455, (1, 2, 0, 0, 0, [])), (456, (1, 0, 0, 0, 0, [])), (457, (0, 3, 0, 0, 0, [])), (458, (4, 0, 0, 0, 1, [])), (459, (8, 0, 0, 0, 0, [])), (460, (57, 0, 0, 0, 0, [])), (461, (1, 0, 0, 0, 0, [])), (462, (0, 3, 0, 0, 0, [])), (463, (4, 0, 0, 0, 2, [])), (464, (8, 0, 0, 0, 0, [])), (465, (57, 0, 0, 0, 0, [])), (466, (46, 64, 156, 0, 0, [])), (469, (26, 998, 0, 0, 0, [])), (472, (4, 0, 0, 0, 0, [])), (473, (52, 2, 0, 0, 0, [])), (474, (1, 1, 0, 0, 0, [])), (475, (46, 65, 81, 0, 0, [])), (478, (1, 2, 0, 0, 0, [])), (479, (46, 68, 157, 0, 0, [])), (482, (26, 998, 0, 0, 0, [])), (485, (4, 0, 0, 0, 0, [])), (486, (52, 2, 0, 0, 0, [])), (487, (1, 1, 0, 0, 0, [])), (488, (46, 69, 82, 0, 0, [])), (491, (1, 2, 0, 0, 0, [])), (492, (46, 72, 148, 0, 0, [])), (495, (26, 998, 0, 0, 0, [])), (498, (4, 0, 0, 0, 0, [])), (499, (52, 2, 0, 0, 0, [])), (500, (1, 1, 0, 0, 0, [])), (501, (1, 0, 0, 0, 0, [])), (502, (0, 3, 0, 0, 0, [])), (503, (4, 0, 0, 0, 1, [])), (504, (8, 0, 0, 0, 0, [])), (505, (57, 0, 0, 0, 0, [])), (506, (1, 0, 0, 0, 0, [])), (507, (0, 3, 0, 0, 0, [])), (508, (4, 0, 0, 0, 2, [])), (509, (8, 0, 0, 0, 0, [])), (510, (57, 0, 0, 0, 0, [])), (511, (1, 0, 0, 0, 0, [])), (512, (0, 3, 0, 0, 0, [])), (513, (4, 0, 0, 0, 3, [])), (514, (8, 0, 0, 0, 0, [])), (515, (57, 0, 0, 0, 0, [])), (516, (46, 73, 83, 0, 0, [])), (519, (1, 2, 0, 0, 0, [])), (520, (1, 0, 0, 0, 0, [])), (521, (0, 3, 0, 0, 0, [])), (522, (4, 0, 0, 0, 1, [])), (523, (8, 0, 0, 0, 0, [])), (524, (57, 0, 0, 0, 0, [])), (525, (1, 0, 0, 0, 0, [])), (526, (0, 3, 0, 0, 0, [])), (527, (4, 0, 0, 0, 2, [])), (528, (8, 0, 0, 0, 0, [])), (529, (57, 0, 0, 0, 0, [])), (530, (1, 0, 0, 0, 0, [])), (531, (0, 3, 0, 0, 0, [])), (532, (4, 0, 0, 0, 3, [])), (533, (8, 0, 0, 0, 0, [])), (534, (57, 0, 0, 0, 0, [])), (535, (46, 76, 162, 0, 0, [])), (538, (26, 998, 0, 0, 0, [])), (541, (4, 0, 0, 0, 0, [])), (542, (52, 2, 0, 0, 0, [])), (543, (1, 1, 0, 0, 0, [])), (544, (1, 0, 0, 0, 0, [])), (545, (0, 3, 0, 0, 0, [])), (546, (4, 0, 0, 0, 1, [])), (547, (8, 0, 0, 0, 0, [])), (548, (57, 0, 0, 0, 0, [])), (549, (1, 0, 0, 0, 0, [])), (550, (0, 3, 0, 0, 0, [])), (551, (4, 0, 0, 0, 2, [])), (552, (8, 0, 0, 0, 0, [])), (553, (57, 0, 0, 0, 0, [])), (554, (1, 0, 0, 0, 0, [])), (555, (0, 3, 0, 0, 0, [])), (556, (4, 0, 0, 0, 3, [])), (557, (8, 0, 0, 0, 0, [])), (558, (57, 0, 0, 0, 0, [])), (559, (1, 0, 0, 0, 0, [])), (560, (0, 3, 0, 0, 0, [])), (561, (4, 0, 0, 0, 4, [])), (562, (8, 0, 0, 0, 0, [])), (563, (57, 0, 0, 0, 0, [])), (564, (46, 77, 84, 0, 0, [])), (567, (1, 2, 0, 0, 0, [])), (568, (1, 0, 0, 0, 0, [])), (569, (0, 3, 0, 0, 0, [])), (570, (4, 0, 0, 0, 1, [])), (571, (8, 0, 0, 0, 0, [])), (572, (57, 0, 0, 0, 0, [])), (573, (1, 0, 0, 0, 0, [])), (574, (0, 3, 0, 0, 0, [])), (575, (4, 0, 0, 0, 2, [])), (576, (8, 0, 0, 0, 0, [])), (577, (57, 0, 0, 0, 0, [])), (578, (1, 0, 0, 0, 0, [])), (579, (0, 3, 0, 0, 0, [])), (580, (4, 0, 0, 0, 3, [])), (581, (8, 0, 0, 0, 0, [])), (582, (57, 0, 0, 0, 0, [])), (583, (1, 0, 0, 0, 0, [])), (584, (0, 3, 0, 0, 0, [])), (585, (4, 0, 0, 0, 4, [])), (586, (8, 0, 0, 0, 0, [])), (587, (57, 0, 0, 0, 0, [])), (588, (46, 81, 165, 0, 0, [])), (591, (26, 998, 0, 0, 0, [])), (594, (4, 0, 0, 0, 0, [])), (595, (52, 2, 0, 0, 0, [])), (596, (1, 1, 0, 0, 0, [])), (597, (1, 0, 0, 0, 0, [])), (598, (0, 3, 0, 0, 0, [])), (599, (4, 0, 0, 0, 1, [])), (600, (8, 0, 0, 0, 0, [])), (601, (57, 0, 0, 0, 0, [])), (602, (1, 0, 0, 0, 0, [])), (603, (0, 3, 0, 0, 0, [])), (604, (4, 0, 0, 0, 2, [])), (605, (8, 0, 0, 0, 0, [])), (606, (57, 0, 0, 0, 0, [])), (607, (1, 0, 0, 0, 0, [])), (608, (0, 3, 0, 0, 0, [])), (609, (4, 0, 0, 0, 3, [])), (610, (8, 0, 0, 0, 0, [])), (611, (57, 0, 0, 0, 0, [])), (612, (46, 82, 85, 0, 0, [])), (615, (1, 2, 0, 0, 0, [])), (616, (1, 0, 0, 0, 0, [])), (617, (0, 3, 0, 0, 0, [])), (618, (4, 0, 0, 0, 1, [])), (619, (8, 0, 0, 0, 0, [])), (620, (57, 0, 0, 0, 0, [])), (621, (1, 0, 0, 0, 0, [])), (622, (0, 3, 0, 0, 0, [])), (623, (4, 0, 0, 0, 2, [])), (624, (8, 0, 0, 0, 0, [])), (625, (57, 0, 0, 0, 0, [])), (626, (1, 0, 0, 0, 0, [])), (627, (0, 3, 0, 0, 0, [])), (628, (4, 0, 0, 0, 3, [])), (629, (8, 0, 0, 0, 0, [])), (630, (57, 0, 0, 0, 0, [])), (631, (46, 85, 166, 0, 0, [])), (634, (26, 998, 0, 0, 0, [])), (637, (4, 0, 0, 0, 0, [])), (638, (52, 2, 0, 0, 0, [])), (639, (1, 1, 0, 0, 0, [])), (640, (1, 0, 0, 0, 0, [])), (641, (0, 3, 0, 0, 0, [])), (642, (4, 0, 0, 0, 1, [])), (643, (8, 0, 0, 0, 0, [])), (644, (57, 0, 0, 0, 0, [])), (645, (1, 0, 0, 0, 0, [])), (646, (0, 3, 0, 0, 0, [])), (647, (4, 0, 0, 0, 2, [])), (648, (8, 0, 0, 0, 0, [])), (649, (57, 0, 0, 0, 0, [])), (650, (46, 86, 86, 0, 0, [])), (653, (1, 2, 0, 0, 0, [])), (654, (1, 0, 0, 0, 0, [])), (655, (0, 3, 0, 0, 0, [])), (656, (4, 0, 0, 0, 1, [])), (657, (8, 0, 0, 0, 0, [])), (658, (57, 0, 0, 0, 0, [])), (659, (1, 0, 0, 0, 0, [])), (660, (0, 3, 0, 0, 0, [])), (661, (4, 0, 0, 0, 2, [])), (662, (8, 0, 0, 0, 0, [])), (663, (57, 0, 0, 0, 0, [])), (664, (46, 89, 168, 0, 0, [])), (667, (26, 998, 0, 0, 0, [])), (670, (4, 0, 0, 0, 0, [])), (671, (52, 2, 0, 0, 0, [])), (672, (1, 1, 0, 0, 0, [])), (673, (1, 0, 0, 0, 0, [])), (674, (0, 3, 0, 0, 0, [])), (675, (4, 0, 0, 0, 1, [])), (676, (8, 0, 0, 0, 0, [])), (677, (57, 0, 0, 0, 0, [])), (678, (46, 90, 87, 0, 0, [])), (681, (1, 2, 0, 0, 0, [])), (682, (1, 0, 0, 0, 0, [])), (683, (0, 3, 0, 0, 0, [])), (684, (4, 0, 0, 0, 1, [])), (685, (8, 0, 0, 0, 0, [])), (686, (57, 0, 0, 0, 0, [])), (687, (46, 93, 169, 0, 0, [])), (690, (26, 998, 0, 0, 0, [])), (693, (4, 0, 0, 0, 0, [])), (694, (52, 2, 0, 0, 0, [])), (695, (1, 1, 0, 0, 0, [])), (696, (1, 0, 0, 0, 0, [])), (697, (0, 3, 0, 0, 0, [])), (698, (4, 0, 0, 0, 1, [])), (699, (8, 0, 0, 0, 0, [])), (700, (57, 0, 0, 0, 0, [])), (701, (46, 94, 88, 0, 0, [])), (704, (1, 2, 0, 0, 0, [])), (705, (1, 0, 0, 0, 0, [])), (706, (0, 3, 0, 0, 0, [])), (707, (4, 0, 0, 0, 1, [])), (708, (8, 0, 0, 0, 0, [])), (709, (57, 0, 0, 0, 0, [])), (710, (46, 97, 170, 0, 0, [])), (713, (26, 998, 0, 0, 0, [])), (716, (4, 0, 0, 0, 0, [])), (717, (52, 2, 0, 0, 0, [])), (718, (1, 1, 0, 0, 0, [])), (719, (1, 0, 0, 0, 0, [])), (720, (0, 3, 0, 0, 0, [])), (721, (4, 0, 0, 0, 1, [])), (722, (8, 0, 0, 0, 0, [])), (723, (57, 0, 0, 0, 0, [])), (724, (46, 98, 89, 0, 0, [])), (727, (1, 2, 0, 0, 0, [])), (728, (1, 0, 0, 0, 0, [])), (729, (0, 3, 0, 0, 0, [])), (730, (4, 0, 0, 0, 1, [])), (731, (8, 0, 0, 0, 0, [])), (732, (57, 0, 0, 0, 0, [])), (733, (46, 101, 173, 0, 0, [])), (736, (26, 998, 0, 0, 0, [])), (739, (4, 0, 0, 0, 0, [])), (740, (52, 2, 0, 0, 0, [])), (741, (1, 1, 0, 0, 0, [])), (742, (1, 0, 0, 0, 0, [])), (743, (0, 3, 0, 0, 0, [])), (744, (4, 0, 0, 0, 1, [])), (745, (8, 0, 0, 0, 0, [])), (746, (57, 0, 0, 0, 0, [])), (747, (1, 0, 0, 0, 0, [])), (748, (0, 3, 0, 0, 0, [])), (749, (4, 0, 0, 0, 2, [])), (750, (8, 0, 0, 0, 0, [])), (751, (57, 0, 0, 0, 0, [])), (752, (1, 0, 0, 0, 0, [])), (753, (0, 3, 0, 0, 0, [])), (754, (4, 0, 0, 0, 3, [])), (755, (8, 0, 0, 0, 0, [])), (756, (57, 0, 0, 0, 0, [])), (757, (46, 102, 90, 0, 0, [])), (760, (1, 2, 0, 0, 0, [])), (761, (1, 0, 0, 0, 0, [])), (762, (0, 3, 0, 0, 0, [])), (763, (4, 0, 0, 0, 1, [])), (764, (8, 0, 0, 0, 0, [])), (765, (57, 0, 0, 0, 0, [])), (766, (1, 0, 0, 0, 0, [])), (767, (0, 3, 0, 0, 0, [])), (768, (4, 0, 0, 0, 2, [])), (769, (8, 0, 0, 0, 0, [])), (770, (57, 0, 0, 0, 0, [])), (771, (1, 0, 0, 0, 0, [])), (772, (0, 3, 0, 0, 0, [])), (773, (4, 0, 0, 0, 3, [])), (774, (8, 0, 0, 0, 0, [])), (775, (57, 0, 0, 0, 0, [])), (776, (46, 105, 175, 0, 0, [])), (779, (26, 998, 0, 0, 0, [])), (782, (4, 0, 0, 0, 0, [])), (783, (52, 2, 0, 0, 0, [])), (784, (1, 1, 0, 0, 0, [])), (785, (1, 0, 0, 0, 0, [])), (786, (0, 3, 0, 0, 0, [])), (787, (4, 0, 0, 0, 1, [])), (788, (8, 0, 0, 0, 0, [])), (789, (57, 0, 0, 0, 0, [])), (790, (46, 106, 91, 0, 0, [])), (793, (1, 2, 0, 0, 0, [])), (794, (1, 0, 0, 0, 0, [])), (795, (0, 3, 0, 0, 0, [])), (796, (4, 0, 0, 0, 1, [])), (797, (8, 0, 0, 0, 0, [])), (798, (57, 0, 0, 0, 0, [])), (799, (46, 109, 176, 0, 0, [])), (802, (26, 998, 0, 0, 0, [])), (805, (4, 0, 0, 0, 0, [])), (806, (52, 2, 0, 0, 0, [])), (807, (1, 1, 0, 0, 0, [])), (808, (1, 0, 0, 0, 0, [])), (809, (0, 3, 0, 0, 0, [])), (810, (4, 0, 0, 0, 1, [])), (811, (8, 0, 0, 0, 0, [])), (812, (57, 0, 0, 0, 0, [])), (813, (1, 0, 0, 0, 0, [])), (814, (0, 3, 0, 0, 0, [])), (815, (4, 0, 0, 0, 2, [])), (816, (8, 0, 0, 0, 0, [])), (817, (57, 0, 0, 0, 0, [])), (818, (46, 110, 92, 0, 0, [])), (821, (1, 2, 0, 0, 0, [])), (822, (1, 0, 0, 0, 0, [])), (823, (0, 3, 0, 0, 0, [])), (824, (4, 0, 0, 0, 1, [])), (825, (8, 0, 0, 0, 0, [])), (826, (57, 0, 0, 0, 0, [])), (827, (1, 0, 0, 0, 0, [])), (828, (0, 3, 0, 0, 0, [])), (829, (4, 0, 0, 0, 2, [])), (830, (8, 0, 0, 0, 0, [])), (831, (57, 0, 0, 0, 0, [])), (832, (46, 113, 177, 0, 0, [])), (835, (26, 998, 0, 0, 0, [])), (838, (4, 0, 0, 0, 0, [])), (839, (52, 2, 0, 0, 0, [])), (840, (1, 1, 0, 0, 0, [])), (841, (1, 0, 0, 0, 0, [])), (842, (0, 3, 0, 0, 0, [])), (843, (4, 0, 0, 0, 1, [])), (844, (8, 0, 0, 0, 0, [])), (845, (57, 0, 0, 0, 0, [])), (846, (1, 0, 0, 0, 0, [])), (847, (0, 3, 0, 0, 0, [])), (848, (4, 0, 0, 0, 2, [])), (849, (8, 0, 0, 0, 0, [])), (850, (57, 0, 0, 0, 0, [])), (851, (46, 114, 93, 0, 0, [])), (854, (1, 2, 0, 0, 0, [])), (855, (1, 0, 0, 0, 0, [])), (856, (0, 3, 0, 0, 0, [])), (857, (4, 0, 0, 0, 1, [])), (858, (8, 0, 0, 0, 0, [])), (859, (57, 0, 0, 0, 0, [])), (860, (1, 0, 0, 0, 0, [])), (861, (0, 3, 0, 0, 0, [])), (862, (4, 0, 0, 0, 2, [])), (863, (8, 0, 0, 0, 0, [])), (864, (57, 0, 0, 0, 0, [])), (865, (46, 117, 181, 0, 0, [])), (868, (26, 998, 0, 0, 0, [])), (871, (4, 0, 0, 0, 0, [])), (872, (52, 2, 0, 0, 0, [])), (873, (1, 1, 0, 0, 0, [])), (874, (1, 0, 0, 0, 0, [])), (875, (0, 3, 0, 0, 0, [])), (876, (4, 0, 0, 0, 1, [])), (877, (8, 0, 0, 0, 0, [])), (878, (57, 0, 0, 0, 0, [])), (879, (1, 0, 0, 0, 0, [])), (880, (0, 3, 0, 0, 0, [])), (881, (4, 0, 0, 0, 2, [])), (882, (8, 0, 0, 0, 0, [])), (883, (57, 0, 0, 0, 0, [])), (884, (1, 0, 0, 0, 0, [])), (885, (0, 3, 0, 0, 0, [])), (886, (4, 0, 0, 0, 3, [])), (887, (8, 0, 0, 0, 0, [])), (888, (57, 0, 0, 0, 0, [])), (889, (46, 118, 94, 0, 0, [])), (892, (1, 2, 0, 0, 0, [])), (893, (1, 0, 0, 0, 0, [])), (894, (0, 3, 0, 0, 0, [])), (895, (4, 0, 0, 0, 1, [])), (896, (8, 0, 0, 0, 0, [])), (897, (57, 0, 0, 0, 0, [])), (898, (1, 0, 0, 0, 0, [])), (899, (0, 3, 0, 0, 0, [])), (900, (4, 0, 0, 0, 2, [])), (901, (8, 0, 0, 0, 0, [])), (902, (57, 0, 0, 0, 0, [])), (903, (1, 0, 0, 0, 0, [])), (904, (0, 3, 0, 0, 0, [])), (905, (4, 0, 0, 0, 3, [])), (906, (8, 0, 0, 0, 0, [])), (907, (57, 0, 0, 0, 0, [])), (908, (46, 121, 182, 0, 0, [])), (911, (26, 998, 0, 0, 0, [])), (914, (4, 0, 0, 0, 0, [])), (915, (52, 2, 0, 0, 0, [])), (916, (1, 1, 0, 0, 0, [])), (917, (46, 122, 95, 0, 0, [])), (920, (1, 2, 0, 0, 0, [])), (921, (46, 125, 183, 0, 0, [])), (924, (26, 998, 0, 0, 0, [])), (927, (4, 0, 0, 0, 0, [])), (928, (52, 2, 0, 0, 0, [])), (929, (1, 1, 0, 0, 0, [])), (930, (1, 0, 0, 0, 0, [])), (931, (0, 3, 0, 0, 0, [])), (932, (4, 0, 0, 0, 1, [])), (933, (8, 0, 0, 0, 0, [])), (934, (57, 0, 0, 0, 0, [])), (935, (1, 0, 0, 0, 0, [])), (936, (0, 3, 0, 0, 0, [])), (937, (4, 0, 0, 0, 2, [])), (938, (8, 0, 0, 0, 0, [])), (939, (57, 0, 0, 0, 0, [])), (940, (46, 126, 96, 0, 0, [])), (943, (1, 2, 0, 0, 0, [])), (944, (1, 0, 0, 0, 0, [])), (945, (0, 3, 0, 0, 0, [])), (946, (4, 0, 0, 0, 1, [])), (947, (8, 0, 0, 0, 0, [])), (948, (57, 0, 0, 0, 0, [])), (949, (1, 0, 0, 0, 0, [])), (950, (0, 3, 0, 0, 0, [])), (951, (4, 0, 0, 0, 2, [])), (952, (8, 0, 0, 0, 0, [])), (953, (57, 0, 0, 0, 0, [])), (954, (46, 129, 184, 0, 0, [])), (957, (26, 998, 0, 0, 0, [])), (960, (4, 0, 0, 0, 0, [])), (961, (52, 2, 0, 0, 0, [])), (962, (1, 1, 0, 0, 0, [])), (963, (46, 130, 97, 0, 0, [])), (966, (1, 2, 0, 0, 0, [])), (967, (46, 133, 186, 0, 0, [])), (970, (26, 998, 0, 0, 0, [])), (973, (4, 0, 0, 0, 0, [])), (974, (52, 2, 0, 0, 0, [])), (975, (1, 1, 0, 0, 0, [])), (976, (1, 0, 0, 0, 0, [])), (977, (0, 3, 0, 0, 0, [])), (978, (4, 0, 0, 0, 1, [])), (979, (8, 0, 0, 0, 0, [])), (980, (57, 0, 0, 0, 0, [])), (981, (46, 134, 98, 0, 0, [])), (984, (1, 2, 0, 0, 0, [])), (985, (1, 0, 0, 0, 0, [])), (986, (0, 3, 0, 0, 0, [])), (987, (4, 0, 0, 0, 1, [])), (988, (8, 0, 0, 0, 0, [])), (989, (57, 0, 0, 0, 0, [])), (990, (46, 137, 187, 0, 0, [])), (993, (26, 998, 0, 0, 0, [])), (996, (4, 0, 0, 0, 0, [])), (997, (52, 2, 0, 0, 0, [])), (998, (13, 3, 0, 0, 5, [])), (1001, (19, 18, 0, 0, 0, [])), (1004, (4, 0, 0, 0, 1, [])), (1005, (52, 2, 0, 0, 0, []))]
def C_189 : List (Nat × Op) := [(0, (4, 0, 0, 0, 0, [])), (1, (2, 2, 0, 0, 0, [])), (2, (1, 0, 0, 0, 0, [])), (3, (42, 0, 0, 0, 0, [])), (4, (2, 3, 0, 0, 0, [])), (5, (0, 2, 0, 0, 0, [])), (6, (0, 3, 0, 0, 0, [])), (7, (29, 20, 0, 0, 0, [])), (10, (1, 0, 0, 0, 0, [])), (11, (0, 2, 0, 0, 0, [])), (12, (0, 1, 0, 0, 0, [])), (13, (39, 0, 0, 0, 0, [])), (14, (13, 2, 0, 0, 1, [])), (17, (19, 5, 0, 0, 0, [])), (20, (53, 0, 0, 0, 0, []))]
def mCs : List (List (Nat × Op)) := [C_0, C_1, C_2, C_3, C_4, C_5, C_6, C_7, C_8, C_9, C_10, C_11, C_12, C_13, C_14, C_15, C_16, C_17, C_18, C_19, C_20, C_21, C_22, C_23, C_24, C_25, C_26, C_27, C_28, C_29, C_30, C_31, C_32, C_33, C_34, C_35, C_36, C_37, C_38, C_39, C_40, C_41, C_42, C_43, C_44, C_45, C_46, C_47, C_48, C_49, C_50, C_51, C_52, C_53, C_54, C_55, C_56, C_57, C_58, C_59, C_60, C_61, C_62, C_63, C_64, C_65, C_66, C_67, C_68, C_69, C_70, C_71, C_72, C_73, C_74, C_75, C_76, C_77, C_78, C_79, C_80, C_81, C_82, C_83, C_84, C_85, C_86, C_87, C_88, C_89, C_90, C_91, C_92, C_93, C_94, C_95, C_96, C_97, C_98, C_99, C_100, C_101, C_102, C_103, C_104, C_105, C_106, C_107, C_108, C_109, C_110, C_111, C_112, C_113, C_114, C_115, C_116, C_117, C_118, C_119, C_120, C_121, C_122, C_123, C_124, C_125, C_126, C_127, C_128, C_129, C_130, C_131, C_132, C_133, C_134, C_135, C_136, C_137, C_138, C_139, C_140, C_141, C_142, C_143, C_144, C_145, C_146, C_147, C_148, C_149, C_150, C_151, C_152, C_153, C_154, C_155, C_156, C_157, C_158, C_159, C_160, C_161, C_162, C_163, C_164, C_165, C_166, C_167, C_168, C_169, C_170, C_171, C_172, C_173, C_174, C_175, C_176, C_177, C_178, C_179, C_180, C_181, C_182, C_183, C_184, C_185, C_186, C_187, C_188, C_189]
/-- the op of method y at pc -/
def cd (y pc : Nat) : Option Op := (mCs.getD y []).lookup pc
/-- field links: class and pool number, then class and field -/
def FL : List ((Nat × Nat) × (Nat × Nat)) := [((0, 9), (0, 2)), ((0, 15), (0, 3)), ((0, 18), (0, 0)), ((0, 22), (0, 1)), ((0, 32), (0, 4)), ((0, 36), (3, 2)), ((0, 41), (3, 3)), ((0, 50), (1, 4)), ((0, 54), (3, 12)), ((0, 57), (3, 1)), ((0, 63), (1, 3)), ((0, 70), (1, 2)), ((0, 73), (3, 5)), ((1, 9), (1, 1)), ((1, 15), (1, 2)), ((1, 18), (1, 0)), ((1, 22), (1, 3)), ((1, 26), (1, 4)), ((1, 40), (3, 10)), ((1, 43), (3, 12)), ((1, 46), (3, 6)), ((1, 52), (3, 8)), ((1, 55), (3, 7)), ((1, 67), (3, 9)), ((1, 76), (3, 13)), ((1, 83), (3, 1)), ((2, 9), (2, 0)), ((2, 15), (2, 1)), ((2, 24), (2, 2)), ((2, 27), (2, 3)), ((2, 74), (5, 0)), ((3, 9), (3, 6)), ((3, 15), (3, 7)), ((3, 18), (3, 8)), ((3, 21), (3, 9)), ((3, 24), (3, 10)), ((3, 27), (3, 11)), ((3, 30), (3, 12)), ((3, 33), (3, 13)), ((3, 36), (3, 0)), ((3, 40), (3, 1)), ((3, 43), (3, 2)), ((3, 55), (3, 4)), ((3, 62), (3, 3)), ((3, 65), (3, 5)), ((4, 9), (4, 2)), ((4, 15), (4, 3)), ((4, 18), (4, 4)), ((4, 21), (4, 0)), ((4, 25), (4, 1)), ((4, 35), (5, 5)), ((4, 41), (5, 4)), ((4, 52), (5, 1)), ((4, 55), (5, 2)), ((4, 58), (3, 12)), ((4, 69), (1, 4)), ((4, 77), (1, 3)), ((4, 80), (1, 2)), ((4, 101), (5, 3)), ((4, 107), (3, 1)), ((5, 9), (5, 0)), ((5, 15), (5, 1)), ((5, 18), (5, 2)), ((5, 21), (5, 3)), ((5, 24), (5, 4)), ((5, 27), (5, 6)), ((5, 30), (5, 7)), ((5, 34), (5, 8)), ((5, 43), (5, 5)), ((6, 9), (6, 1)), ((6, 15), (6, 0)), ((6, 19), (3, 5)), ((6, 38), (5, 6)), ((6, 41), (3, 4)), ((6, 54), (3, 10)), ((6, 57), (3, 11)), ((7, 9), (7, 0)), ((7, 15), (3, 1)), ((7, 29), (3, 7)), ((7, 46), (3, 2)), ((7, 56), (7, 1)), ((7, 59), (7, 2)), ((8, 12), (8, 0)), ((8, 19), (8, 1)), ((8, 28), (8, 2)), ((8, 35), (8, 3)), ((8, 42), (8, 4)), ((8, 51), (8, 5)), ((8, 58), (8, 6)), ((8, 65), (8, 7)), ((8, 69), (8, 8)), ((8, 72), (8, 9)), ((8, 75), (8, 10)), ((8, 98), (2, 1)), ((8, 105), (3, 3)), ((8, 108), (3, 0)), ((8, 119), (3, 6)), ((8, 123), (3, 7)), ((8, 126), (3, 8)), ((8, 129), (3, 9)), ((8, 139), (3, 10)), ((8, 142), (3, 11)), ((8, 148), (5, 0)), ((8, 172), (3, 5)), ((8, 179), (8, 11)), ((8, 196), (3, 12)), ((8, 203), (1, 3)), ((8, 206), (1, 1)), ((8, 209), (1, 4)), ((8, 223), (0, 4)), ((8, 229), (7, 1)), ((8, 232), (7, 2)), ((8, 235), (0, 2)), ((8, 238), (0, 3)), ((8, 248), (5, 5)), ((8, 261), (5, 4)), ((8, 264), (5, 1)), ((8, 267), (5, 2)), ((8, 270), (5, 3)), ((8, 280), (4, 4)), ((8, 297), (3, 4)), ((8, 303), (3, 1)), ((8, 306), (2, 2)), ((9, 7), (9, 1)), ((9, 13), (9, 4)), ((9, 16), (9, 5)), ((9, 19), (9, 6)), ((9, 22), (9, 8)), ((9, 25), (9, 10)), ((9, 28), (9, 11)), ((9, 31), (9, 12)), ((9, 34), (9, 13)), ((9, 37), (9, 16)), ((9, 40), (9, 17)), ((9, 43), (9, 19)), ((9, 46), (9, 20)), ((9, 49), (9, 22)), ((9, 52), (9, 23)), ((9, 55), (9, 24)), ((9, 58), (9, 25)), ((9, 61), (9, 26)), ((9, 64), (9, 27)), ((9, 67), (9, 29)), ((9, 74), (9, 7)), ((9, 81), (9, 2)), ((9, 84), (9, 3)), ((9, 87), (9, 9)), ((9, 90), (9, 0)), ((9, 100), (9, 28)), ((9, 103), (9, 14)), ((9, 113), (9, 15)), ((9, 202), (9, 18)), ((9, 205), (9, 21))]
def ML : List ((Nat × Nat) × Nat) := [((0, 26), 189), ((0, 44), 6), ((0, 60), 2), ((0, 66), 7), ((0, 76), 49), ((1, 30), 8), ((1, 34), 34), ((1, 49), 9), ((1, 58), 29), ((1, 61), 10), ((1, 64), 31), ((1, 70), 52), ((1, 79), 32), ((1, 86), 33), ((2, 19), 47), ((2, 30), 14), ((2, 34), 22), ((2, 38), 15), ((2, 42), 16), ((2, 45), 18), ((2, 48), 21), ((2, 52), 17), ((2, 55), 20), ((2, 59), 56), ((2, 67), 19), ((2, 70), 49), ((3, 46), 25), ((3, 49), 27), ((3, 52), 28), ((3, 58), 26), ((3, 68), 29), ((3, 72), 30), ((4, 29), 189), ((4, 44), 37), ((4, 48), 39), ((4, 63), 6), ((4, 73), 38), ((4, 83), 7), ((4, 94), 41), ((4, 104), 42), ((5, 37), 189), ((6, 25), 55), ((6, 31), 60), ((6, 35), 50), ((6, 50), 49), ((7, 21), 31), ((7, 25), 64), ((7, 33), 63), ((7, 37), 29), ((7, 40), 49), ((7, 49), 62), ((7, 53), 65), ((8, 25), 5), ((8, 34), 58), ((8, 41), 61), ((8, 48), 0), ((8, 57), 35), ((8, 90), 12), ((8, 94), 106), ((8, 101), 13), ((8, 111), 105), ((8, 115), 99), ((8, 132), 111), ((8, 136), 100), ((8, 145), 49), ((8, 151), 107), ((8, 154), 109), ((8, 158), 108), ((8, 161), 112), ((8, 164), 59), ((8, 168), 51), ((8, 175), 55), ((8, 182), 101), ((8, 185), 103), ((8, 188), 8), ((8, 192), 102), ((8, 199), 6), ((8, 213), 62), ((8, 216), 66), ((8, 219), 1), ((8, 226), 67), ((8, 241), 3), ((8, 245), 4), ((8, 251), 56), ((8, 255), 104), ((8, 258), 57), ((8, 273), 36), ((8, 274), 40), ((8, 277), 41), ((8, 283), 43), ((8, 286), 42), ((8, 289), 37), ((8, 293), 44), ((8, 300), 113), ((8, 309), 24), ((8, 312), 46), ((8, 316), 54), ((8, 319), 48), ((8, 327), 53), ((8, 330), 110), ((9, 70), 115), ((9, 78), 116), ((9, 93), 118), ((9, 97), 119), ((9, 106), 117), ((9, 110), 121), ((9, 116), 120), ((9, 120), 122), ((9, 123), 123), ((9, 126), 124), ((9, 130), 129), ((9, 133), 131), ((9, 136), 132), ((9, 139), 130), ((9, 142), 140), ((9, 145), 141), ((9, 148), 134), ((9, 152), 137), ((9, 155), 143), ((9, 159), 142), ((9, 162), 135), ((9, 165), 147), ((9, 168), 149), ((9, 171), 151), ((9, 174), 154), ((9, 177), 138), ((9, 181), 158), ((9, 184), 139), ((9, 187), 159), ((9, 190), 160), ((9, 193), 133), ((9, 196), 136), ((9, 199), 161), ((9, 209), 164), ((9, 212), 163), ((9, 216), 167), ((9, 219), 169), ((9, 222), 171), ((9, 225), 172), ((9, 228), 174), ((9, 231), 178), ((9, 235), 179), ((9, 238), 180), ((9, 241), 185), ((10, 9), 68), ((10, 12), 114), ((10, 13), 69), ((10, 17), 125), ((10, 18), 70), ((10, 22), 126), ((10, 23), 71), ((10, 26), 127), ((10, 27), 72), ((10, 30), 128), ((10, 31), 73), ((10, 35), 144), ((10, 36), 74), ((10, 40), 145), ((10, 41), 75), ((10, 44), 146), ((10, 45), 76), ((10, 48), 150), ((10, 49), 77), ((10, 52), 152), ((10, 53), 78), ((10, 56), 153), ((10, 57), 79), ((10, 60), 155), ((10, 61), 80), ((10, 64), 156), ((10, 65), 81), ((10, 68), 157), ((10, 69), 82), ((10, 72), 148), ((10, 73), 83), ((10, 76), 162), ((10, 77), 84), ((10, 81), 165), ((10, 82), 85), ((10, 85), 166), ((10, 86), 86), ((10, 89), 168), ((10, 90), 87), ((10, 93), 169), ((10, 94), 88), ((10, 97), 170), ((10, 98), 89), ((10, 101), 173), ((10, 102), 90), ((10, 105), 175), ((10, 106), 91), ((10, 109), 176), ((10, 110), 92), ((10, 113), 177), ((10, 114), 93), ((10, 117), 181), ((10, 118), 94), ((10, 121), 182), ((10, 122), 95), ((10, 125), 183), ((10, 126), 96), ((10, 129), 184), ((10, 130), 97), ((10, 133), 186), ((10, 134), 98), ((10, 137), 187)]
def NL : List ((Nat × Nat) × Nat) := [((2, 63), 105), ((8, 11), 11), ((8, 18), 23), ((8, 64), 45)]
def OL : List (Nat × Nat) := [(0, 3), (1, 3), (2, 3), (3, 3), (4, 3), (5, 3), (6, 3), (7, 3), (8, 3), (9, 1)]
def AL : List (Nat × Nat) := [(5, 46), (6, 44)]
def XL : List ((Nat × Nat) × Nat) := [((0, 81), 61), ((4, 87), 61), ((4, 98), 62), ((6, 60), 61), ((7, 62), 62), ((7, 67), 61), ((8, 322), 62)]
def CK : List ((Nat × Nat) × Nat) := [((8, 9), 2), ((8, 16), 3), ((8, 23), 1), ((8, 32), 6), ((8, 39), 7), ((8, 46), 0), ((8, 55), 4), ((8, 62), 5), ((10, 7), 8), ((10, 10), 9)]
def KL : List ((Nat × Nat) × Int) := [((4, 93), 720720), ((9, 234), 720720)]
set_option maxRecDepth 20000 in
theorem FL_ok : ∀ e ∈ FL, Cond.fieldLink (cN e.1.1) e.1.2 (cT e.2.1 e.2.2).1 (cT e.2.1 e.2.2).2.1 (cT e.2.1 e.2.2).2.2.1 ∈ wl := by
  unfold FL
  refine List.forall_mem_cons.mpr ⟨wl_t 202 rfl rfl, ?_⟩
  refine List.forall_mem_cons.mpr ⟨wl_t 204 rfl rfl, ?_⟩
  refine List.forall_mem_cons.mpr ⟨wl_t 200 rfl rfl, ?_⟩
  refine List.forall_mem_cons.mpr ⟨wl_t 201 rfl rfl, ?_⟩
  refine List.forall_mem_cons.mpr ⟨wl_t 206 rfl rfl, ?_⟩
  refine List.forall_mem_cons.mpr ⟨wl_t 63 rfl rfl, ?_⟩
  refine List.forall_mem_cons.mpr ⟨wl_t 65 rfl rfl, ?_⟩
  refine List.forall_mem_cons.mpr ⟨wl_t 149 rfl rfl, ?_⟩
  refine List.forall_mem_cons.mpr ⟨wl_t 96 rfl rfl, ?_⟩
  refine List.forall_mem_cons.mpr ⟨wl_t 58 rfl rfl, ?_⟩
  refine List.forall_mem_cons.mpr ⟨wl_t 145 rfl rfl, ?_⟩
  refine List.forall_mem_cons.mpr ⟨wl_t 142 rfl rfl, ?_⟩
  refine List.forall_mem_cons.mpr ⟨wl_t 72 rfl rfl, ?_⟩
  refine List.forall_mem_cons.mpr ⟨wl_t 139 rfl rfl, ?_⟩
  refine List.forall_mem_cons.mpr ⟨wl_t 141 rfl rfl, ?_⟩
  refine List.forall_mem_cons.mpr ⟨wl_t 138 rfl rfl, ?_⟩
  refine List.forall_mem_cons.mpr ⟨wl_t 144 rfl rfl, ?_⟩
  refine List.forall_mem_cons.mpr ⟨wl_t 148 rfl rfl, ?_⟩
  refine List.forall_mem_cons.mpr ⟨wl_t 89 rfl rfl, ?_⟩
  refine List.forall_mem_cons.mpr ⟨wl_t 98 rfl rfl, ?_⟩
  refine List.forall_mem_cons.mpr ⟨wl_t 76 rfl rfl, ?_⟩
  refine List.forall_mem_cons.mpr ⟨wl_t 83 rfl rfl, ?_⟩
  refine List.forall_mem_cons.mpr ⟨wl_t 80 rfl rfl, ?_⟩
  refine List.forall_mem_cons.mpr ⟨wl_t 86 rfl rfl, ?_⟩
  refine List.forall_mem_cons.mpr ⟨wl_t 101 rfl rfl, ?_⟩
  refine List.forall_mem_cons.mpr ⟨wl_t 59 rfl rfl, ?_⟩
  refine List.forall_mem_cons.mpr ⟨wl_t 32 rfl rfl, ?_⟩
  refine List.forall_mem_cons.mpr ⟨wl_t 34 rfl rfl, ?_⟩
  refine List.forall_mem_cons.mpr ⟨wl_t 35 rfl rfl, ?_⟩
  refine List.forall_mem_cons.mpr ⟨wl_t 37 rfl rfl, ?_⟩
  refine List.forall_mem_cons.mpr ⟨wl_t 249 rfl rfl, ?_⟩
  refine List.forall_mem_cons.mpr ⟨wl_t 75 rfl rfl, ?_⟩
  refine List.forall_mem_cons.mpr ⟨wl_t 78 rfl rfl, ?_⟩
  refine List.forall_mem_cons.mpr ⟨wl_t 82 rfl rfl, ?_⟩
  refine List.forall_mem_cons.mpr ⟨wl_t 85 rfl rfl, ?_⟩
  refine List.forall_mem_cons.mpr ⟨wl_t 88 rfl rfl, ?_⟩
  refine List.forall_mem_cons.mpr ⟨wl_t 92 rfl rfl, ?_⟩
  refine List.forall_mem_cons.mpr ⟨wl_t 95 rfl rfl, ?_⟩
  refine List.forall_mem_cons.mpr ⟨wl_t 100 rfl rfl, ?_⟩
  refine List.forall_mem_cons.mpr ⟨wl_t 54 rfl rfl, ?_⟩
  refine List.forall_mem_cons.mpr ⟨wl_t 56 rfl rfl, ?_⟩
  refine List.forall_mem_cons.mpr ⟨wl_t 62 rfl rfl, ?_⟩
  refine List.forall_mem_cons.mpr ⟨wl_t 68 rfl rfl, ?_⟩
  refine List.forall_mem_cons.mpr ⟨wl_t 66 rfl rfl, ?_⟩
  refine List.forall_mem_cons.mpr ⟨wl_t 73 rfl rfl, ?_⟩
  refine List.forall_mem_cons.mpr ⟨wl_t 227 rfl rfl, ?_⟩
  refine List.forall_mem_cons.mpr ⟨wl_t 228 rfl rfl, ?_⟩
  refine List.forall_mem_cons.mpr ⟨wl_t 229 rfl rfl, ?_⟩
  refine List.forall_mem_cons.mpr ⟨wl_t 225 rfl rfl, ?_⟩
  refine List.forall_mem_cons.mpr ⟨wl_t 226 rfl rfl, ?_⟩
  refine List.forall_mem_cons.mpr ⟨wl_t 263 rfl rfl, ?_⟩
  refine List.forall_mem_cons.mpr ⟨wl_t 261 rfl rfl, ?_⟩
  refine List.forall_mem_cons.mpr ⟨wl_t 252 rfl rfl, ?_⟩
  refine List.forall_mem_cons.mpr ⟨wl_t 255 rfl rfl, ?_⟩
  refine List.forall_mem_cons.mpr ⟨wl_t 97 rfl rfl, ?_⟩
  refine List.forall_mem_cons.mpr ⟨wl_t 150 rfl rfl, ?_⟩
  refine List.forall_mem_cons.mpr ⟨wl_t 146 rfl rfl, ?_⟩
  refine List.forall_mem_cons.mpr ⟨wl_t 143 rfl rfl, ?_⟩
  refine List.forall_mem_cons.mpr ⟨wl_t 258 rfl rfl, ?_⟩
  refine List.forall_mem_cons.mpr ⟨wl_t 60 rfl rfl, ?_⟩
  refine List.forall_mem_cons.mpr ⟨wl_t 248 rfl rfl, ?_⟩
  refine List.forall_mem_cons.mpr ⟨wl_t 251 rfl rfl, ?_⟩
  refine List.forall_mem_cons.mpr ⟨wl_t 254 rfl rfl, ?_⟩
  refine List.forall_mem_cons.mpr ⟨wl_t 257 rfl rfl, ?_⟩
  refine List.forall_mem_cons.mpr ⟨wl_t 260 rfl rfl, ?_⟩
  refine List.forall_mem_cons.mpr ⟨wl_t 266 rfl rfl, ?_⟩
  refine List.forall_mem_cons.mpr ⟨wl_t 268 rfl rfl, ?_⟩
  refine List.forall_mem_cons.mpr ⟨wl_t 269 rfl rfl, ?_⟩
  refine List.forall_mem_cons.mpr ⟨wl_t 264 rfl rfl, ?_⟩
  refine List.forall_mem_cons.mpr ⟨wl_t 170 rfl rfl, ?_⟩
  refine List.forall_mem_cons.mpr ⟨wl_t 169 rfl rfl, ?_⟩
  refine List.forall_mem_cons.mpr ⟨wl_t 71 rfl rfl, ?_⟩
  refine List.forall_mem_cons.mpr ⟨wl_t 267 rfl rfl, ?_⟩
  refine List.forall_mem_cons.mpr ⟨wl_t 69 rfl rfl, ?_⟩
  refine List.forall_mem_cons.mpr ⟨wl_t 90 rfl rfl, ?_⟩
  refine List.forall_mem_cons.mpr ⟨wl_t 93 rfl rfl, ?_⟩
  refine List.forall_mem_cons.mpr ⟨wl_t 182 rfl rfl, ?_⟩
  refine List.forall_mem_cons.mpr ⟨wl_t 57 rfl rfl, ?_⟩
  refine List.forall_mem_cons.mpr ⟨wl_t 79 rfl rfl, ?_⟩
  refine List.forall_mem_cons.mpr ⟨wl_t 64 rfl rfl, ?_⟩
  refine List.forall_mem_cons.mpr ⟨wl_t 183 rfl rfl, ?_⟩
  refine List.forall_mem_cons.mpr ⟨wl_t 185 rfl rfl, ?_⟩
  refine List.forall_mem_cons.mpr ⟨wl_t 439 rfl rfl, ?_⟩
  refine List.forall_mem_cons.mpr ⟨wl_t 440 rfl rfl, ?_⟩
  refine List.forall_mem_cons.mpr ⟨wl_t 441 rfl rfl, ?_⟩
  refine List.forall_mem_cons.mpr ⟨wl_t 442 rfl rfl, ?_⟩
  refine List.forall_mem_cons.mpr ⟨wl_t 443 rfl rfl, ?_⟩
  refine List.forall_mem_cons.mpr ⟨wl_t 444 rfl rfl, ?_⟩
  refine List.forall_mem_cons.mpr ⟨wl_t 445 rfl rfl, ?_⟩
  refine List.forall_mem_cons.mpr ⟨wl_t 446 rfl rfl, ?_⟩
  refine List.forall_mem_cons.mpr ⟨wl_t 447 rfl rfl, ?_⟩
  refine List.forall_mem_cons.mpr ⟨wl_t 448 rfl rfl, ?_⟩
  refine List.forall_mem_cons.mpr ⟨wl_t 449 rfl rfl, ?_⟩
  refine List.forall_mem_cons.mpr ⟨wl_t 33 rfl rfl, ?_⟩
  refine List.forall_mem_cons.mpr ⟨wl_t 67 rfl rfl, ?_⟩
  refine List.forall_mem_cons.mpr ⟨wl_t 55 rfl rfl, ?_⟩
  refine List.forall_mem_cons.mpr ⟨wl_t 77 rfl rfl, ?_⟩
  refine List.forall_mem_cons.mpr ⟨wl_t 81 rfl rfl, ?_⟩
  refine List.forall_mem_cons.mpr ⟨wl_t 84 rfl rfl, ?_⟩
  refine List.forall_mem_cons.mpr ⟨wl_t 87 rfl rfl, ?_⟩
  refine List.forall_mem_cons.mpr ⟨wl_t 91 rfl rfl, ?_⟩
  refine List.forall_mem_cons.mpr ⟨wl_t 94 rfl rfl, ?_⟩
  refine List.forall_mem_cons.mpr ⟨wl_t 250 rfl rfl, ?_⟩
  refine List.forall_mem_cons.mpr ⟨wl_t 74 rfl rfl, ?_⟩
  refine List.forall_mem_cons.mpr ⟨wl_t 450 rfl rfl, ?_⟩
  refine List.forall_mem_cons.mpr ⟨wl_t 99 rfl rfl, ?_⟩
  refine List.forall_mem_cons.mpr ⟨wl_t 147 rfl rfl, ?_⟩
  refine List.forall_mem_cons.mpr ⟨wl_t 140 rfl rfl, ?_⟩
  refine List.forall_mem_cons.mpr ⟨wl_t 151 rfl rfl, ?_⟩
  refine List.forall_mem_cons.mpr ⟨wl_t 207 rfl rfl, ?_⟩
  refine List.forall_mem_cons.mpr ⟨wl_t 184 rfl rfl, ?_⟩
  refine List.forall_mem_cons.mpr ⟨wl_t 186 rfl rfl, ?_⟩
  refine List.forall_mem_cons.mpr ⟨wl_t 203 rfl rfl, ?_⟩
  refine List.forall_mem_cons.mpr ⟨wl_t 205 rfl rfl, ?_⟩
  refine List.forall_mem_cons.mpr ⟨wl_t 265 rfl rfl, ?_⟩
  refine List.forall_mem_cons.mpr ⟨wl_t 262 rfl rfl, ?_⟩
  refine List.forall_mem_cons.mpr ⟨wl_t 253 rfl rfl, ?_⟩
  refine List.forall_mem_cons.mpr ⟨wl_t 256 rfl rfl, ?_⟩
  refine List.forall_mem_cons.mpr ⟨wl_t 259 rfl rfl, ?_⟩
  refine List.forall_mem_cons.mpr ⟨wl_t 230 rfl rfl, ?_⟩
  refine List.forall_mem_cons.mpr ⟨wl_t 70 rfl rfl, ?_⟩
  refine List.forall_mem_cons.mpr ⟨wl_t 61 rfl rfl, ?_⟩
  refine List.forall_mem_cons.mpr ⟨wl_t 36 rfl rfl, ?_⟩
  refine List.forall_mem_cons.mpr ⟨wl_t 848 rfl rfl, ?_⟩
  refine List.forall_mem_cons.mpr ⟨wl_t 851 rfl rfl, ?_⟩
  refine List.forall_mem_cons.mpr ⟨wl_t 852 rfl rfl, ?_⟩
  refine List.forall_mem_cons.mpr ⟨wl_t 853 rfl rfl, ?_⟩
  refine List.forall_mem_cons.mpr ⟨wl_t 855 rfl rfl, ?_⟩
  refine List.forall_mem_cons.mpr ⟨wl_t 857 rfl rfl, ?_⟩
  refine List.forall_mem_cons.mpr ⟨wl_t 858 rfl rfl, ?_⟩
  refine List.forall_mem_cons.mpr ⟨wl_t 859 rfl rfl, ?_⟩
  refine List.forall_mem_cons.mpr ⟨wl_t 860 rfl rfl, ?_⟩
  refine List.forall_mem_cons.mpr ⟨wl_t 863 rfl rfl, ?_⟩
  refine List.forall_mem_cons.mpr ⟨wl_t 864 rfl rfl, ?_⟩
  refine List.forall_mem_cons.mpr ⟨wl_t 866 rfl rfl, ?_⟩
  refine List.forall_mem_cons.mpr ⟨wl_t 867 rfl rfl, ?_⟩
  refine List.forall_mem_cons.mpr ⟨wl_t 869 rfl rfl, ?_⟩
  refine List.forall_mem_cons.mpr ⟨wl_t 870 rfl rfl, ?_⟩
  refine List.forall_mem_cons.mpr ⟨wl_t 871 rfl rfl, ?_⟩
  refine List.forall_mem_cons.mpr ⟨wl_t 872 rfl rfl, ?_⟩
  refine List.forall_mem_cons.mpr ⟨wl_t 873 rfl rfl, ?_⟩
  refine List.forall_mem_cons.mpr ⟨wl_t 874 rfl rfl, ?_⟩
  refine List.forall_mem_cons.mpr ⟨wl_t 876 rfl rfl, ?_⟩
  refine List.forall_mem_cons.mpr ⟨wl_t 854 rfl rfl, ?_⟩
  refine List.forall_mem_cons.mpr ⟨wl_t 849 rfl rfl, ?_⟩
  refine List.forall_mem_cons.mpr ⟨wl_t 850 rfl rfl, ?_⟩
  refine List.forall_mem_cons.mpr ⟨wl_t 856 rfl rfl, ?_⟩
  refine List.forall_mem_cons.mpr ⟨wl_t 847 rfl rfl, ?_⟩
  refine List.forall_mem_cons.mpr ⟨wl_t 875 rfl rfl, ?_⟩
  refine List.forall_mem_cons.mpr ⟨wl_t 861 rfl rfl, ?_⟩
  refine List.forall_mem_cons.mpr ⟨wl_t 862 rfl rfl, ?_⟩
  refine List.forall_mem_cons.mpr ⟨wl_t 865 rfl rfl, ?_⟩
  refine List.forall_mem_cons.mpr ⟨wl_t 868 rfl rfl, ?_⟩
  exact fun _ h => absurd h List.not_mem_nil
set_option maxRecDepth 20000 in
theorem ML_ok : ∀ e ∈ ML, Cond.methodLink (cN e.1.1) e.1.2 (mN e.2) ∈ wl := by
  unfold ML
  refine List.forall_mem_cons.mpr ⟨wl_t 705 rfl rfl, ?_⟩
  refine List.forall_mem_cons.mpr ⟨wl_t 706 rfl rfl, ?_⟩
  refine List.forall_mem_cons.mpr ⟨wl_t 707 rfl rfl, ?_⟩
  refine List.forall_mem_cons.mpr ⟨wl_t 711 rfl rfl, ?_⟩
  refine List.forall_mem_cons.mpr ⟨wl_t 733 rfl rfl, ?_⟩
  refine List.forall_mem_cons.mpr ⟨wl_t 660 rfl rfl, ?_⟩
  refine List.forall_mem_cons.mpr ⟨wl_t 661 rfl rfl, ?_⟩
  refine List.forall_mem_cons.mpr ⟨wl_t 623 rfl rfl, ?_⟩
  refine List.forall_mem_cons.mpr ⟨wl_t 643 rfl rfl, ?_⟩
  refine List.forall_mem_cons.mpr ⟨wl_t 644 rfl rfl, ?_⟩
  refine List.forall_mem_cons.mpr ⟨wl_t 635 rfl rfl, ?_⟩
  refine List.forall_mem_cons.mpr ⟨wl_t 639 rfl rfl, ?_⟩
  refine List.forall_mem_cons.mpr ⟨wl_t 627 rfl rfl, ?_⟩
  refine List.forall_mem_cons.mpr ⟨wl_t 631 rfl rfl, ?_⟩
  refine List.forall_mem_cons.mpr ⟨wl_t 350 rfl rfl, ?_⟩
  refine List.forall_mem_cons.mpr ⟨wl_t 357 rfl rfl, ?_⟩
  refine List.forall_mem_cons.mpr ⟨wl_t 361 rfl rfl, ?_⟩
  refine List.forall_mem_cons.mpr ⟨wl_t 365 rfl rfl, ?_⟩
  refine List.forall_mem_cons.mpr ⟨wl_t 373 rfl rfl, ?_⟩
  refine List.forall_mem_cons.mpr ⟨wl_t 392 rfl rfl, ?_⟩
  refine List.forall_mem_cons.mpr ⟨wl_t 369 rfl rfl, ?_⟩
  refine List.forall_mem_cons.mpr ⟨wl_t 377 rfl rfl, ?_⟩
  refine List.forall_mem_cons.mpr ⟨wl_t 384 rfl rfl, ?_⟩
  refine List.forall_mem_cons.mpr ⟨wl_t 388 rfl rfl, ?_⟩
  refine List.forall_mem_cons.mpr ⟨wl_t 396 rfl rfl, ?_⟩
  refine List.forall_mem_cons.mpr ⟨wl_t 399 rfl rfl, ?_⟩
  refine List.forall_mem_cons.mpr ⟨wl_t 407 rfl rfl, ?_⟩
  refine List.forall_mem_cons.mpr ⟨wl_t 415 rfl rfl, ?_⟩
  refine List.forall_mem_cons.mpr ⟨wl_t 419 rfl rfl, ?_⟩
  refine List.forall_mem_cons.mpr ⟨wl_t 411 rfl rfl, ?_⟩
  refine List.forall_mem_cons.mpr ⟨wl_t 423 rfl rfl, ?_⟩
  refine List.forall_mem_cons.mpr ⟨wl_t 427 rfl rfl, ?_⟩
  refine List.forall_mem_cons.mpr ⟨wl_t 768 rfl rfl, ?_⟩
  refine List.forall_mem_cons.mpr ⟨wl_t 769 rfl rfl, ?_⟩
  refine List.forall_mem_cons.mpr ⟨wl_t 773 rfl rfl, ?_⟩
  refine List.forall_mem_cons.mpr ⟨wl_t 777 rfl rfl, ?_⟩
  refine List.forall_mem_cons.mpr ⟨wl_t 778 rfl rfl, ?_⟩
  refine List.forall_mem_cons.mpr ⟨wl_t 782 rfl rfl, ?_⟩
  refine List.forall_mem_cons.mpr ⟨wl_t 809 rfl rfl, ?_⟩
  refine List.forall_mem_cons.mpr ⟨wl_t 824 rfl rfl, ?_⟩
  refine List.forall_mem_cons.mpr ⟨wl_t 354 rfl rfl, ?_⟩
  refine List.forall_mem_cons.mpr ⟨wl_t 573 rfl rfl, ?_⟩
  refine List.forall_mem_cons.mpr ⟨wl_t 577 rfl rfl, ?_⟩
  refine List.forall_mem_cons.mpr ⟨wl_t 581 rfl rfl, ?_⟩
  refine List.forall_mem_cons.mpr ⟨wl_t 586 rfl rfl, ?_⟩
  refine List.forall_mem_cons.mpr ⟨wl_t 677 rfl rfl, ?_⟩
  refine List.forall_mem_cons.mpr ⟨wl_t 678 rfl rfl, ?_⟩
  refine List.forall_mem_cons.mpr ⟨wl_t 683 rfl rfl, ?_⟩
  refine List.forall_mem_cons.mpr ⟨wl_t 687 rfl rfl, ?_⟩
  refine List.forall_mem_cons.mpr ⟨wl_t 682 rfl rfl, ?_⟩
  refine List.forall_mem_cons.mpr ⟨wl_t 696 rfl rfl, ?_⟩
  refine List.forall_mem_cons.mpr ⟨wl_t 697 rfl rfl, ?_⟩
  refine List.forall_mem_cons.mpr ⟨wl_t 134 rfl rfl, ?_⟩
  refine List.forall_mem_cons.mpr ⟨wl_t 165 rfl rfl, ?_⟩
  refine List.forall_mem_cons.mpr ⟨wl_t 178 rfl rfl, ?_⟩
  refine List.forall_mem_cons.mpr ⟨wl_t 196 rfl rfl, ?_⟩
  refine List.forall_mem_cons.mpr ⟨wl_t 221 rfl rfl, ?_⟩
  refine List.forall_mem_cons.mpr ⟨wl_t 338 rfl rfl, ?_⟩
  refine List.forall_mem_cons.mpr ⟨wl_t 342 rfl rfl, ?_⟩
  refine List.forall_mem_cons.mpr ⟨wl_t 346 rfl rfl, ?_⟩
  refine List.forall_mem_cons.mpr ⟨wl_t 497 rfl rfl, ?_⟩
  refine List.forall_mem_cons.mpr ⟨wl_t 502 rfl rfl, ?_⟩
  refine List.forall_mem_cons.mpr ⟨wl_t 506 rfl rfl, ?_⟩
  refine List.forall_mem_cons.mpr ⟨wl_t 519 rfl rfl, ?_⟩
  refine List.forall_mem_cons.mpr ⟨wl_t 514 rfl rfl, ?_⟩
  refine List.forall_mem_cons.mpr ⟨wl_t 527 rfl rfl, ?_⟩
  refine List.forall_mem_cons.mpr ⟨wl_t 538 rfl rfl, ?_⟩
  refine List.forall_mem_cons.mpr ⟨wl_t 546 rfl rfl, ?_⟩
  refine List.forall_mem_cons.mpr ⟨wl_t 557 rfl rfl, ?_⟩
  refine List.forall_mem_cons.mpr ⟨wl_t 569 rfl rfl, ?_⟩
  refine List.forall_mem_cons.mpr ⟨wl_t 594 rfl rfl, ?_⟩
  refine List.forall_mem_cons.mpr ⟨wl_t 602 rfl rfl, ?_⟩
  refine List.forall_mem_cons.mpr ⟨wl_t 611 rfl rfl, ?_⟩
  refine List.forall_mem_cons.mpr ⟨wl_t 615 rfl rfl, ?_⟩
  refine List.forall_mem_cons.mpr ⟨wl_t 619 rfl rfl, ?_⟩
  refine List.forall_mem_cons.mpr ⟨wl_t 652 rfl rfl, ?_⟩
  refine List.forall_mem_cons.mpr ⟨wl_t 656 rfl rfl, ?_⟩
  refine List.forall_mem_cons.mpr ⟨wl_t 673 rfl rfl, ?_⟩
  refine List.forall_mem_cons.mpr ⟨wl_t 692 rfl rfl, ?_⟩
  refine List.forall_mem_cons.mpr ⟨wl_t 701 rfl rfl, ?_⟩
  refine List.forall_mem_cons.mpr ⟨wl_t 715 rfl rfl, ?_⟩
  refine List.forall_mem_cons.mpr ⟨wl_t 729 rfl rfl, ?_⟩
  refine List.forall_mem_cons.mpr ⟨wl_t 735 rfl rfl, ?_⟩
  refine List.forall_mem_cons.mpr ⟨wl_t 743 rfl rfl, ?_⟩
  refine List.forall_mem_cons.mpr ⟨wl_t 748 rfl rfl, ?_⟩
  refine List.forall_mem_cons.mpr ⟨wl_t 752 rfl rfl, ?_⟩
  refine List.forall_mem_cons.mpr ⟨wl_t 764 rfl rfl, ?_⟩
  refine List.forall_mem_cons.mpr ⟨wl_t 783 rfl rfl, ?_⟩
  refine List.forall_mem_cons.mpr ⟨wl_t 787 rfl rfl, ?_⟩
  refine List.forall_mem_cons.mpr ⟨wl_t 797 rfl rfl, ?_⟩
  refine List.forall_mem_cons.mpr ⟨wl_t 805 rfl rfl, ?_⟩
  refine List.forall_mem_cons.mpr ⟨wl_t 815 rfl rfl, ?_⟩
  refine List.forall_mem_cons.mpr ⟨wl_t 820 rfl rfl, ?_⟩
  refine List.forall_mem_cons.mpr ⟨wl_t 829 rfl rfl, ?_⟩
  refine List.forall_mem_cons.mpr ⟨wl_t 403 rfl rfl, ?_⟩
  refine List.forall_mem_cons.mpr ⟨wl_t 431 rfl rfl, ?_⟩
  refine List.forall_mem_cons.mpr ⟨wl_t 435 rfl rfl, ?_⟩
  refine List.forall_mem_cons.mpr ⟨wl_t 531 rfl rfl, ?_⟩
  refine List.forall_mem_cons.mpr ⟨wl_t 542 rfl rfl, ?_⟩
  refine List.forall_mem_cons.mpr ⟨wl_t 510 rfl rfl, ?_⟩
  refine List.forall_mem_cons.mpr ⟨wl_t 839 rfl rfl, ?_⟩
  refine List.forall_mem_cons.mpr ⟨wl_t 843 rfl rfl, ?_⟩
  refine List.forall_mem_cons.mpr ⟨wl_t 962 rfl rfl, ?_⟩
  refine List.forall_mem_cons.mpr ⟨wl_t 958 rfl rfl, ?_⟩
  refine List.forall_mem_cons.mpr ⟨wl_t 974 rfl rfl, ?_⟩
  refine List.forall_mem_cons.mpr ⟨wl_t 970 rfl rfl, ?_⟩
  refine List.forall_mem_cons.mpr ⟨wl_t 977 rfl rfl, ?_⟩
  refine List.forall_mem_cons.mpr ⟨wl_t 966 rfl rfl, ?_⟩
  refine List.forall_mem_cons.mpr ⟨wl_t 954 rfl rfl, ?_⟩
  refine List.forall_mem_cons.mpr ⟨wl_t 950 rfl rfl, ?_⟩
  refine List.forall_mem_cons.mpr ⟨wl_t 985 rfl rfl, ?_⟩
  refine List.forall_mem_cons.mpr ⟨wl_t 1001 rfl rfl, ?_⟩
  refine List.forall_mem_cons.mpr ⟨wl_t 1013 rfl rfl, ?_⟩
  refine List.forall_mem_cons.mpr ⟨wl_t 1009 rfl rfl, ?_⟩
  refine List.forall_mem_cons.mpr ⟨wl_t 1021 rfl rfl, ?_⟩
  refine List.forall_mem_cons.mpr ⟨wl_t 1025 rfl rfl, ?_⟩
  refine List.forall_mem_cons.mpr ⟨wl_t 997 rfl rfl, ?_⟩
  refine List.forall_mem_cons.mpr ⟨wl_t 1005 rfl rfl, ?_⟩
  refine List.forall_mem_cons.mpr ⟨wl_t 1017 rfl rfl, ?_⟩
  refine List.forall_mem_cons.mpr ⟨wl_t 1029 rfl rfl, ?_⟩
  refine List.forall_mem_cons.mpr ⟨wl_t 1037 rfl rfl, ?_⟩
  refine List.forall_mem_cons.mpr ⟨wl_t 1049 rfl rfl, ?_⟩
  refine List.forall_mem_cons.mpr ⟨wl_t 1053 rfl rfl, ?_⟩
  refine List.forall_mem_cons.mpr ⟨wl_t 1061 rfl rfl, ?_⟩
  refine List.forall_mem_cons.mpr ⟨wl_t 1073 rfl rfl, ?_⟩
  refine List.forall_mem_cons.mpr ⟨wl_t 1105 rfl rfl, ?_⟩
  refine List.forall_mem_cons.mpr ⟨wl_t 1109 rfl rfl, ?_⟩
  refine List.forall_mem_cons.mpr ⟨wl_t 1113 rfl rfl, ?_⟩
  refine List.forall_mem_cons.mpr ⟨wl_t 1101 rfl rfl, ?_⟩
  refine List.forall_mem_cons.mpr ⟨wl_t 1117 rfl rfl, ?_⟩
  refine List.forall_mem_cons.mpr ⟨wl_t 1089 rfl rfl, ?_⟩
  refine List.forall_mem_cons.mpr ⟨wl_t 1093 rfl rfl, ?_⟩
  refine List.forall_mem_cons.mpr ⟨wl_t 1097 rfl rfl, ?_⟩
  refine List.forall_mem_cons.mpr ⟨wl_t 1125 rfl rfl, ?_⟩
  refine List.forall_mem_cons.mpr ⟨wl_t 1129 rfl rfl, ?_⟩
  refine List.forall_mem_cons.mpr ⟨wl_t 1141 rfl rfl, ?_⟩
  refine List.forall_mem_cons.mpr ⟨wl_t 1153 rfl rfl, ?_⟩
  refine List.forall_mem_cons.mpr ⟨wl_t 1158 rfl rfl, ?_⟩
  refine List.forall_mem_cons.mpr ⟨wl_t 1162 rfl rfl, ?_⟩
  refine List.forall_mem_cons.mpr ⟨wl_t 1174 rfl rfl, ?_⟩
  refine List.forall_mem_cons.mpr ⟨wl_t 1190 rfl rfl, ?_⟩
  refine List.forall_mem_cons.mpr ⟨wl_t 1186 rfl rfl, ?_⟩
  refine List.forall_mem_cons.mpr ⟨wl_t 1203 rfl rfl, ?_⟩
  refine List.forall_mem_cons.mpr ⟨wl_t 1215 rfl rfl, ?_⟩
  refine List.forall_mem_cons.mpr ⟨wl_t 20 rfl rfl, ?_⟩
  refine List.forall_mem_cons.mpr ⟨wl_t 835 rfl rfl, ?_⟩
  refine List.forall_mem_cons.mpr ⟨wl_t 477 rfl rfl, ?_⟩
  refine List.forall_mem_cons.mpr ⟨wl_t 938 rfl rfl, ?_⟩
  refine List.forall_mem_cons.mpr ⟨wl_t 481 rfl rfl, ?_⟩
  refine List.forall_mem_cons.mpr ⟨wl_t 942 rfl rfl, ?_⟩
  refine List.forall_mem_cons.mpr ⟨wl_t 485 rfl rfl, ?_⟩
  refine List.forall_mem_cons.mpr ⟨wl_t 946 rfl rfl, ?_⟩
  refine List.forall_mem_cons.mpr ⟨wl_t 489 rfl rfl, ?_⟩
  refine List.forall_mem_cons.mpr ⟨wl_t 981 rfl rfl, ?_⟩
  refine List.forall_mem_cons.mpr ⟨wl_t 493 rfl rfl, ?_⟩
  refine List.forall_mem_cons.mpr ⟨wl_t 989 rfl rfl, ?_⟩
  refine List.forall_mem_cons.mpr ⟨wl_t 498 rfl rfl, ?_⟩
  refine List.forall_mem_cons.mpr ⟨wl_t 993 rfl rfl, ?_⟩
  refine List.forall_mem_cons.mpr ⟨wl_t 515 rfl rfl, ?_⟩
  refine List.forall_mem_cons.mpr ⟨wl_t 1033 rfl rfl, ?_⟩
  refine List.forall_mem_cons.mpr ⟨wl_t 523 rfl rfl, ?_⟩
  refine List.forall_mem_cons.mpr ⟨wl_t 1045 rfl rfl, ?_⟩
  refine List.forall_mem_cons.mpr ⟨wl_t 553 rfl rfl, ?_⟩
  refine List.forall_mem_cons.mpr ⟨wl_t 1057 rfl rfl, ?_⟩
  refine List.forall_mem_cons.mpr ⟨wl_t 561 rfl rfl, ?_⟩
  refine List.forall_mem_cons.mpr ⟨wl_t 1065 rfl rfl, ?_⟩
  refine List.forall_mem_cons.mpr ⟨wl_t 565 rfl rfl, ?_⟩
  refine List.forall_mem_cons.mpr ⟨wl_t 1069 rfl rfl, ?_⟩
  refine List.forall_mem_cons.mpr ⟨wl_t 590 rfl rfl, ?_⟩
  refine List.forall_mem_cons.mpr ⟨wl_t 1077 rfl rfl, ?_⟩
  refine List.forall_mem_cons.mpr ⟨wl_t 598 rfl rfl, ?_⟩
  refine List.forall_mem_cons.mpr ⟨wl_t 1081 rfl rfl, ?_⟩
  refine List.forall_mem_cons.mpr ⟨wl_t 603 rfl rfl, ?_⟩
  refine List.forall_mem_cons.mpr ⟨wl_t 1041 rfl rfl, ?_⟩
  refine List.forall_mem_cons.mpr ⟨wl_t 607 rfl rfl, ?_⟩
  refine List.forall_mem_cons.mpr ⟨wl_t 1085 rfl rfl, ?_⟩
  refine List.forall_mem_cons.mpr ⟨wl_t 648 rfl rfl, ?_⟩
  refine List.forall_mem_cons.mpr ⟨wl_t 1121 rfl rfl, ?_⟩
  refine List.forall_mem_cons.mpr ⟨wl_t 665 rfl rfl, ?_⟩
  refine List.forall_mem_cons.mpr ⟨wl_t 1133 rfl rfl, ?_⟩
  refine List.forall_mem_cons.mpr ⟨wl_t 669 rfl rfl, ?_⟩
  refine List.forall_mem_cons.mpr ⟨wl_t 1137 rfl rfl, ?_⟩
  refine List.forall_mem_cons.mpr ⟨wl_t 688 rfl rfl, ?_⟩
  refine List.forall_mem_cons.mpr ⟨wl_t 1145 rfl rfl, ?_⟩
  refine List.forall_mem_cons.mpr ⟨wl_t 721 rfl rfl, ?_⟩
  refine List.forall_mem_cons.mpr ⟨wl_t 1149 rfl rfl, ?_⟩
  refine List.forall_mem_cons.mpr ⟨wl_t 725 rfl rfl, ?_⟩
  refine List.forall_mem_cons.mpr ⟨wl_t 1154 rfl rfl, ?_⟩
  refine List.forall_mem_cons.mpr ⟨wl_t 739 rfl rfl, ?_⟩
  refine List.forall_mem_cons.mpr ⟨wl_t 1166 rfl rfl, ?_⟩
  refine List.forall_mem_cons.mpr ⟨wl_t 744 rfl rfl, ?_⟩
  refine List.forall_mem_cons.mpr ⟨wl_t 1170 rfl rfl, ?_⟩
  refine List.forall_mem_cons.mpr ⟨wl_t 756 rfl rfl, ?_⟩
  refine List.forall_mem_cons.mpr ⟨wl_t 1178 rfl rfl, ?_⟩
  refine List.forall_mem_cons.mpr ⟨wl_t 760 rfl rfl, ?_⟩
  refine List.forall_mem_cons.mpr ⟨wl_t 1182 rfl rfl, ?_⟩
  refine List.forall_mem_cons.mpr ⟨wl_t 793 rfl rfl, ?_⟩
  refine List.forall_mem_cons.mpr ⟨wl_t 1195 rfl rfl, ?_⟩
  refine List.forall_mem_cons.mpr ⟨wl_t 801 rfl rfl, ?_⟩
  refine List.forall_mem_cons.mpr ⟨wl_t 1199 rfl rfl, ?_⟩
  refine List.forall_mem_cons.mpr ⟨wl_t 811 rfl rfl, ?_⟩
  refine List.forall_mem_cons.mpr ⟨wl_t 1207 rfl rfl, ?_⟩
  refine List.forall_mem_cons.mpr ⟨wl_t 816 rfl rfl, ?_⟩
  refine List.forall_mem_cons.mpr ⟨wl_t 1211 rfl rfl, ?_⟩
  refine List.forall_mem_cons.mpr ⟨wl_t 825 rfl rfl, ?_⟩
  refine List.forall_mem_cons.mpr ⟨wl_t 1219 rfl rfl, ?_⟩
  exact fun _ h => absurd h List.not_mem_nil
set_option maxRecDepth 20000 in
theorem NL_ok : ∀ e ∈ NL, Cond.methodLinkNest (cN e.1.1) e.1.2 (mN e.2) "TierPods" ∈ lw_tbl := by
  unfold NL
  refine List.forall_mem_cons.mpr ⟨List.mem_append_right _ (List.mem_of_getElem? (i := 381) rfl), ?_⟩
  refine List.forall_mem_cons.mpr ⟨List.mem_append_right _ (List.mem_of_getElem? (i := 28) rfl), ?_⟩
  refine List.forall_mem_cons.mpr ⟨List.mem_append_right _ (List.mem_of_getElem? (i := 50) rfl), ?_⟩
  refine List.forall_mem_cons.mpr ⟨List.mem_append_right _ (List.mem_of_getElem? (i := 244) rfl), ?_⟩
  exact fun _ h => absurd h List.not_mem_nil
set_option maxRecDepth 20000 in
theorem OL_ok : ∀ e ∈ OL, Cond.methodLink (cN e.1) e.2 Lib.objectInit ∈ wl := by
  unfold OL
  refine List.forall_mem_cons.mpr ⟨wl_t 199 rfl rfl, ?_⟩
  refine List.forall_mem_cons.mpr ⟨wl_t 137 rfl rfl, ?_⟩
  refine List.forall_mem_cons.mpr ⟨wl_t 31 rfl rfl, ?_⟩
  refine List.forall_mem_cons.mpr ⟨wl_t 53 rfl rfl, ?_⟩
  refine List.forall_mem_cons.mpr ⟨wl_t 224 rfl rfl, ?_⟩
  refine List.forall_mem_cons.mpr ⟨wl_t 247 rfl rfl, ?_⟩
  refine List.forall_mem_cons.mpr ⟨wl_t 168 rfl rfl, ?_⟩
  refine List.forall_mem_cons.mpr ⟨wl_t 181 rfl rfl, ?_⟩
  refine List.forall_mem_cons.mpr ⟨wl_t 23 rfl rfl, ?_⟩
  refine List.forall_mem_cons.mpr ⟨wl_t 838 rfl rfl, ?_⟩
  exact fun _ h => absurd h List.not_mem_nil
set_option maxRecDepth 20000 in
theorem AL_ok : ∀ e ∈ AL, Cond.methodLink (cN e.1) e.2 arraycopyName ∈ wl := by
  unfold AL
  refine List.forall_mem_cons.mpr ⟨wl_t 535 rfl rfl, ?_⟩
  refine List.forall_mem_cons.mpr ⟨wl_t 585 rfl rfl, ?_⟩
  exact fun _ h => absurd h List.not_mem_nil
set_option maxRecDepth 20000 in
theorem XL_ok : ∀ e ∈ XL, Cond.methodLink (cN e.1.1) e.1.2 (if e.2 = 61 then Lib.Math.max.name else Lib.Math.min.name) ∈ wl := by
  unfold XL
  refine List.forall_mem_cons.mpr ⟨wl_t 734 rfl rfl, ?_⟩
  refine List.forall_mem_cons.mpr ⟨wl_t 791 rfl rfl, ?_⟩
  refine List.forall_mem_cons.mpr ⟨wl_t 810 rfl rfl, ?_⟩
  refine List.forall_mem_cons.mpr ⟨wl_t 587 rfl rfl, ?_⟩
  refine List.forall_mem_cons.mpr ⟨wl_t 719 rfl rfl, ?_⟩
  refine List.forall_mem_cons.mpr ⟨wl_t 720 rfl rfl, ?_⟩
  refine List.forall_mem_cons.mpr ⟨wl_t 550 rfl rfl, ?_⟩
  exact fun _ h => absurd h List.not_mem_nil
set_option maxRecDepth 20000 in
theorem CK_ok : ∀ e ∈ CK, Cond.classLink (cN e.1.1) e.1.2 (cN e.2) ∈ wl := by
  unfold CK
  refine List.forall_mem_cons.mpr ⟨wl_t 26 rfl rfl, ?_⟩
  refine List.forall_mem_cons.mpr ⟨wl_t 48 rfl rfl, ?_⟩
  refine List.forall_mem_cons.mpr ⟨wl_t 132 rfl rfl, ?_⟩
  refine List.forall_mem_cons.mpr ⟨wl_t 163 rfl rfl, ?_⟩
  refine List.forall_mem_cons.mpr ⟨wl_t 176 rfl rfl, ?_⟩
  refine List.forall_mem_cons.mpr ⟨wl_t 194 rfl rfl, ?_⟩
  refine List.forall_mem_cons.mpr ⟨wl_t 219 rfl rfl, ?_⟩
  refine List.forall_mem_cons.mpr ⟨wl_t 242 rfl rfl, ?_⟩
  refine List.forall_mem_cons.mpr ⟨wl_t 18 rfl rfl, ?_⟩
  refine List.forall_mem_cons.mpr ⟨wl_t 833 rfl rfl, ?_⟩
  exact fun _ h => absurd h List.not_mem_nil
set_option maxRecDepth 20000 in
theorem KL_ok : ∀ e ∈ KL, Cond.constant (cN e.1.1) e.1.2 (Int32.ofInt e.2) ∈ wl := by
  unfold KL
  refine List.forall_mem_cons.mpr ⟨wl_t 792 rfl rfl, ?_⟩
  refine List.forall_mem_cons.mpr ⟨wl_t 1194 rfl rfl, ?_⟩
  exact fun _ h => absurd h List.not_mem_nil
set_option maxRecDepth 20000 in
theorem w_objI : Cond.instanceMethod Lib.objectInit ∈ wl ∧ Cond.code Lib.objectInit ⟨#[0xb1]⟩ 1 none ∈ wl := ⟨wl_t 24 rfl rfl, wl_t 25 rfl rfl⟩
set_option maxRecDepth 20000 in
theorem w_copy : Cond.native arraycopyName ∈ wl ∧ Cond.static arraycopyName ∈ wl ∧ Cond.initialized "java/lang/System" ∈ wl := ⟨wl_t 537 rfl rfl, wl_t 536 rfl rfl, wl_t 16 rfl rfl⟩
set_option maxRecDepth 20000 in
theorem w_max : Cond.static Lib.Math.max.name ∈ wl ∧ Cond.initialized "java/lang/Math" ∈ wl ∧ Cond.code Lib.Math.max.name Lib.Math.max.code 2 (some .int) ∈ wl := ⟨wl_t 588 rfl rfl, wl_t 17 rfl rfl, wl_t 589 rfl rfl⟩
set_option maxRecDepth 20000 in
theorem w_min : Cond.static Lib.Math.min.name ∈ wl ∧ Cond.initialized "java/lang/Math" ∈ wl ∧ Cond.code Lib.Math.min.name Lib.Math.min.code 2 (some .int) ∈ wl := ⟨wl_t 551 rfl rfl, wl_t 17 rfl rfl, wl_t 552 rfl rfl⟩
set_option maxRecDepth 20000 in
theorem w_arr : Cond.arrayClass .int ∈ wl ∧ Cond.arrayClass .char ∈ wl := ⟨wl_t 131 rfl rfl, wl_t 47 rfl rfl⟩
/-- an op at its place: what it links, its kind and its callee agree with the tables -/
def lkop (y : Nat) (o : Op) : Bool :=
  if o.1 = 7 then decide (((mO y, o.2.1), o.2.2.2.2.1) ∈ KL) else
  if o.1 = 32 then decide (((mO y, o.2.1), (o.2.2.1, o.2.2.2.1)) ∈ FL) && decide (o.2.2.1 < 10) && decide (o.2.2.2.1 < nF o.2.2.1) && decide (fK o.2.2.1 o.2.2.2.1 ≤ 1) else
  if o.1 = 33 then decide (((mO y, o.2.1), (o.2.2.1, o.2.2.2.1)) ∈ FL) && decide (o.2.2.1 < 10) && decide (o.2.2.2.1 < nF o.2.2.1) && decide (2 ≤ fK o.2.2.1 o.2.2.2.1) else
  if o.1 = 34 then decide (((mO y, o.2.1), (o.2.2.1, o.2.2.2.1)) ∈ FL) && decide (o.2.2.1 < 10) && decide (o.2.2.2.1 < nF o.2.2.1) && decide (fK o.2.2.1 o.2.2.2.1 = 0) else
  if o.1 = 35 then decide (((mO y, o.2.1), (o.2.2.1, o.2.2.2.1)) ∈ FL) && decide (o.2.2.1 < 10) && decide (o.2.2.2.1 < nF o.2.2.1) && decide (fK o.2.2.1 o.2.2.2.1 = 1) else
  if o.1 = 36 then decide (((mO y, o.2.1), (o.2.2.1, o.2.2.2.1)) ∈ FL) && decide (o.2.2.1 < 10) && decide (o.2.2.2.1 < nF o.2.2.1) && decide (fK o.2.2.1 o.2.2.2.1 = 2) else
  if o.1 = 37 then decide (((mO y, o.2.1), (o.2.2.1, o.2.2.2.1)) ∈ FL) && decide (o.2.2.1 < 10) && decide (o.2.2.2.1 < nF o.2.2.1) && decide (fK o.2.2.1 o.2.2.2.1 = 3) && decide (mO y = o.2.2.1) && decide (mK y = 2) && decide (y < 188) else
  if o.1 = 45 then decide (((mO y, o.2.1), o.2.2.1) ∈ CK) && decide (o.2.2.1 < 10) && decide (o.2.2.2.1 = nF o.2.2.1) else
  if o.1 = 46 then decide (((mO y, o.2.1), o.2.2.1) ∈ ML) && decide (o.2.2.1 < 190) && decide (o.2.2.1 ≠ 188) && decide (mK o.2.2.1 = 0) && decide (o.2.2.1 ≠ 68) else
  if o.1 = 47 then decide (((mO y, o.2.1), o.2.2.1) ∈ ML) && decide (o.2.2.1 < 190) && decide (o.2.2.1 ≠ 188) && decide (mK o.2.2.1 = 1) && decide (o.2.2.1 ≠ 68) else
  if o.1 = 48 then decide (((mO y, o.2.1), o.2.2.1) ∈ ML) && decide (o.2.2.1 < 190) && decide (o.2.2.1 ≠ 188) && decide (mK o.2.2.1 = 2) && (decide (o.2.2.1 ≠ 68) || decide (y = 188)) else
  if o.1 = 49 then decide ((mO y, o.2.1) ∈ OL) else
  if o.1 = 50 then decide ((mO y, o.2.1) ∈ AL) else
  if o.1 = 52 then decide (mR y = o.2.1) && decide (1 ≤ o.2.1) else
  if o.1 = 53 then decide (mR y = 0) else
  if o.1 = 54 then decide (y = 68) && decide (o.2.1 = 78) else
  if o.1 = 55 then decide (y = 68) && decide (o.2.1 = 80) else
  if o.1 = 56 then decide (y = 68) && decide (o.2.1 = 86) else
  if o.1 = 57 then decide (y = 188) else
  if o.1 = 58 then decide (y = 188) else
  if o.1 = 59 then decide (((mO y, o.2.1), o.2.2.1) ∈ NL) && decide (o.2.2.1 < 190) && decide (o.2.2.1 ≠ 188) && decide (mK o.2.2.1 = 2) && decide (o.2.2.1 ≠ 68) else
  if o.1 = 60 then decide (((mO y, o.2.1), o.2.2.1) ∈ NL) && decide (o.2.2.1 < 190) && decide (o.2.2.1 ≠ 188) && decide (mK o.2.2.1 = 1) && decide (o.2.2.1 ≠ 68) else
  if o.1 = 61 then decide (((mO y, o.2.1), 61) ∈ XL) else
  if o.1 = 62 then decide (((mO y, o.2.1), 62) ∈ XL) else
  if o.1 = 4 then decide (-1 ≤ o.2.2.2.2.1 ∧ o.2.2.2.2.1 ≤ 5) else
  if o.1 = 5 then decide (-128 ≤ o.2.2.2.2.1 ∧ o.2.2.2.2.1 < 128) else
  if o.1 = 6 then decide (-32768 ≤ o.2.2.2.2.1 ∧ o.2.2.2.2.1 < 32768) else true
end
section
/-! ===== the codes are the bytes ===== -/
theorem all_cut {α : Type} {p : α → Bool} (l : List α) (k : Nat) (h1 : (l.take k).all p = true) (h2 : (l.drop k).all p = true) : l.all p = true := by
  rw [← List.take_append_drop k l, List.all_append, h1, h2]
  rfl
def ckop (y : Nat) (e : Nat × Op) : Bool := decide (decode (mB y) e.1 = .ok (ins e.1 e.2)) && lkop y e.2
theorem ck_0 : (C_0).all (ckop 0) = true := by decide +kernel
theorem ck_1 : (C_1).all (ckop 1) = true := by decide +kernel
theorem ck_2 : (C_2).all (ckop 2) = true := by decide +kernel
theorem ck_3 : (C_3).all (ckop 3) = true := by decide +kernel
theorem ck_4 : (C_4).all (ckop 4) = true := by decide +kernel
theorem ck_5 : (C_5).all (ckop 5) = true := by decide +kernel
theorem ck_6 : (C_6).all (ckop 6) = true := by decide +kernel
theorem ck_7 : (C_7).all (ckop 7) = true := by decide +kernel
theorem ck_8 : (C_8).all (ckop 8) = true := by decide +kernel
theorem ck_9 : (C_9).all (ckop 9) = true := by decide +kernel
theorem ck_10 : (C_10).all (ckop 10) = true := by decide +kernel
theorem ck_11 : (C_11).all (ckop 11) = true := by decide +kernel
theorem ck_12 : (C_12).all (ckop 12) = true := by decide +kernel
theorem ck_13 : (C_13).all (ckop 13) = true := by decide +kernel
theorem ck_14 : (C_14).all (ckop 14) = true := by decide +kernel
theorem ck_15 : (C_15).all (ckop 15) = true := by decide +kernel
theorem ck_16 : (C_16).all (ckop 16) = true := by decide +kernel
theorem ck_17 : (C_17).all (ckop 17) = true := by decide +kernel
theorem ck_18 : (C_18).all (ckop 18) = true := by decide +kernel
theorem ck_19 : (C_19).all (ckop 19) = true := by decide +kernel
theorem ck_20 : (C_20).all (ckop 20) = true := by decide +kernel
theorem ck_21 : (C_21).all (ckop 21) = true := by decide +kernel
theorem ck_22 : (C_22).all (ckop 22) = true := by decide +kernel
theorem ck_23 : (C_23).all (ckop 23) = true := by decide +kernel
theorem ck_24 : (C_24).all (ckop 24) = true := by decide +kernel
theorem ck_25 : (C_25).all (ckop 25) = true := by decide +kernel
theorem ck_26 : (C_26).all (ckop 26) = true := by decide +kernel
theorem ck_27 : (C_27).all (ckop 27) = true := by decide +kernel
theorem ck_28 : (C_28).all (ckop 28) = true := by decide +kernel
theorem ck_29 : (C_29).all (ckop 29) = true := by decide +kernel
theorem ck_30 : (C_30).all (ckop 30) = true := by decide +kernel
theorem ck_31 : (C_31).all (ckop 31) = true := by decide +kernel
theorem ck_32 : (C_32).all (ckop 32) = true := by decide +kernel
theorem ck_33 : (C_33).all (ckop 33) = true := by decide +kernel
theorem ck_34 : (C_34).all (ckop 34) = true := by decide +kernel
theorem ck_35 : (C_35).all (ckop 35) = true := by decide +kernel
theorem ck_36 : (C_36).all (ckop 36) = true := by decide +kernel
theorem ck_37 : (C_37).all (ckop 37) = true := by decide +kernel
theorem ck_38 : (C_38).all (ckop 38) = true := by decide +kernel
theorem ck_39 : (C_39).all (ckop 39) = true := by decide +kernel
theorem ck_40 : (C_40).all (ckop 40) = true := by decide +kernel
theorem ck_41 : (C_41).all (ckop 41) = true := by decide +kernel
theorem ck_42 : (C_42).all (ckop 42) = true := by decide +kernel
theorem ck_43 : (C_43).all (ckop 43) = true := by decide +kernel
theorem ck_44 : (C_44).all (ckop 44) = true := by decide +kernel
theorem ck_45 : (C_45).all (ckop 45) = true := by decide +kernel
theorem ck_46 : (C_46).all (ckop 46) = true := by decide +kernel
theorem ck_47 : (C_47).all (ckop 47) = true := by decide +kernel
theorem ck_48 : (C_48).all (ckop 48) = true := by decide +kernel
theorem ck_49 : (C_49).all (ckop 49) = true := by decide +kernel
theorem ck_50 : (C_50).all (ckop 50) = true := by decide +kernel
theorem ck_51 : (C_51).all (ckop 51) = true := by decide +kernel
theorem ck_52 : (C_52).all (ckop 52) = true := by decide +kernel
theorem ck_53 : (C_53).all (ckop 53) = true := by decide +kernel
theorem ck_54 : (C_54).all (ckop 54) = true := by decide +kernel
theorem ck_55 : (C_55).all (ckop 55) = true := by decide +kernel
theorem ck_56 : (C_56).all (ckop 56) = true := by decide +kernel
theorem ck_57 : (C_57).all (ckop 57) = true := by decide +kernel
theorem ck_58 : (C_58).all (ckop 58) = true := by decide +kernel
theorem ck_59 : (C_59).all (ckop 59) = true := by decide +kernel
theorem ck_60 : (C_60).all (ckop 60) = true := by decide +kernel
theorem ck_61 : (C_61).all (ckop 61) = true := by decide +kernel
theorem ck_62 : (C_62).all (ckop 62) = true := by decide +kernel
theorem ck_63 : (C_63).all (ckop 63) = true := by decide +kernel
theorem ck_64 : (C_64).all (ckop 64) = true := by decide +kernel
theorem ck_65 : (C_65).all (ckop 65) = true := by decide +kernel
theorem ck_66 : (C_66).all (ckop 66) = true := by decide +kernel
theorem ck_67 : (C_67).all (ckop 67) = true := by decide +kernel
theorem ck_68 : (C_68).all (ckop 68) = true := by decide +kernel
theorem ck_69 : (C_69).all (ckop 69) = true := by decide +kernel
theorem ck_70 : (C_70).all (ckop 70) = true := by decide +kernel
theorem ck_71 : (C_71).all (ckop 71) = true := by decide +kernel
theorem ck_72 : (C_72).all (ckop 72) = true := by decide +kernel
theorem ck_73 : (C_73).all (ckop 73) = true := by decide +kernel
theorem ck_74 : (C_74).all (ckop 74) = true := by decide +kernel
theorem ck_75 : (C_75).all (ckop 75) = true := by decide +kernel
theorem ck_76 : (C_76).all (ckop 76) = true := by decide +kernel
theorem ck_77 : (C_77).all (ckop 77) = true := by decide +kernel
theorem ck_78 : (C_78).all (ckop 78) = true := by decide +kernel
theorem ck_79 : (C_79).all (ckop 79) = true := by decide +kernel
theorem ck_80 : (C_80).all (ckop 80) = true := by decide +kernel
theorem ck_81 : (C_81).all (ckop 81) = true := by decide +kernel
theorem ck_82 : (C_82).all (ckop 82) = true := by decide +kernel
theorem ck_83 : (C_83).all (ckop 83) = true := by decide +kernel
theorem ck_84 : (C_84).all (ckop 84) = true := by decide +kernel
theorem ck_85 : (C_85).all (ckop 85) = true := by decide +kernel
theorem ck_86 : (C_86).all (ckop 86) = true := by decide +kernel
theorem ck_87 : (C_87).all (ckop 87) = true := by decide +kernel
theorem ck_88 : (C_88).all (ckop 88) = true := by decide +kernel
theorem ck_89 : (C_89).all (ckop 89) = true := by decide +kernel
theorem ck_90 : (C_90).all (ckop 90) = true := by decide +kernel
theorem ck_91 : (C_91).all (ckop 91) = true := by decide +kernel
theorem ck_92 : (C_92).all (ckop 92) = true := by decide +kernel
theorem ck_93 : (C_93).all (ckop 93) = true := by decide +kernel
theorem ck_94 : (C_94).all (ckop 94) = true := by decide +kernel
theorem ck_95 : (C_95).all (ckop 95) = true := by decide +kernel
theorem ck_96 : (C_96).all (ckop 96) = true := by decide +kernel
theorem ck_97 : (C_97).all (ckop 97) = true := by decide +kernel
theorem ck_98 : (C_98).all (ckop 98) = true := by decide +kernel
theorem ck_99 : (C_99).all (ckop 99) = true := by decide +kernel
theorem ck_100 : (C_100).all (ckop 100) = true := by decide +kernel
theorem ck_101 : (C_101).all (ckop 101) = true := by decide +kernel
theorem ck_102 : (C_102).all (ckop 102) = true := by decide +kernel
theorem ck_103 : (C_103).all (ckop 103) = true := by decide +kernel
theorem ck_104 : (C_104).all (ckop 104) = true := by decide +kernel
theorem ck_105 : (C_105).all (ckop 105) = true := by decide +kernel
theorem ck_106 : (C_106).all (ckop 106) = true := by decide +kernel
theorem ck_107 : (C_107).all (ckop 107) = true := by decide +kernel
theorem ck_108 : (C_108).all (ckop 108) = true := by decide +kernel
theorem ck_109 : (C_109).all (ckop 109) = true := by decide +kernel
theorem ck_110 : (C_110).all (ckop 110) = true := by decide +kernel
theorem ck_111 : (C_111).all (ckop 111) = true := by decide +kernel
theorem ck_112 : (C_112).all (ckop 112) = true := by decide +kernel
theorem ck_113 : (C_113).all (ckop 113) = true := by decide +kernel
theorem ck_114_0 : ((C_114).take 100).all (ckop 114) = true := by decide +kernel
theorem ck_114_1 : ((C_114).drop 100).all (ckop 114) = true := by decide +kernel
theorem ck_114 : (C_114).all (ckop 114) = true := all_cut _ 100 ck_114_0 (ck_114_1)
theorem ck_115 : (C_115).all (ckop 115) = true := by decide +kernel
theorem ck_116 : (C_116).all (ckop 116) = true := by decide +kernel
theorem ck_117 : (C_117).all (ckop 117) = true := by decide +kernel
theorem ck_118 : (C_118).all (ckop 118) = true := by decide +kernel
theorem ck_119 : (C_119).all (ckop 119) = true := by decide +kernel
theorem ck_120 : (C_120).all (ckop 120) = true := by decide +kernel
theorem ck_121 : (C_121).all (ckop 121) = true := by decide +kernel
theorem ck_122 : (C_122).all (ckop 122) = true := by decide +kernel
theorem ck_123 : (C_123).all (ckop 123) = true := by decide +kernel
theorem ck_124 : (C_124).all (ckop 124) = true := by decide +kernel
theorem ck_125 : (C_125).all (ckop 125) = true := by decide +kernel
theorem ck_126 : (C_126).all (ckop 126) = true := by decide +kernel
theorem ck_127 : (C_127).all (ckop 127) = true := by decide +kernel
theorem ck_128 : (C_128).all (ckop 128) = true := by decide +kernel
theorem ck_129 : (C_129).all (ckop 129) = true := by decide +kernel
theorem ck_130 : (C_130).all (ckop 130) = true := by decide +kernel
theorem ck_131 : (C_131).all (ckop 131) = true := by decide +kernel
theorem ck_132 : (C_132).all (ckop 132) = true := by decide +kernel
theorem ck_133 : (C_133).all (ckop 133) = true := by decide +kernel
theorem ck_134 : (C_134).all (ckop 134) = true := by decide +kernel
theorem ck_135 : (C_135).all (ckop 135) = true := by decide +kernel
theorem ck_136 : (C_136).all (ckop 136) = true := by decide +kernel
theorem ck_137 : (C_137).all (ckop 137) = true := by decide +kernel
theorem ck_138 : (C_138).all (ckop 138) = true := by decide +kernel
theorem ck_139 : (C_139).all (ckop 139) = true := by decide +kernel
theorem ck_140 : (C_140).all (ckop 140) = true := by decide +kernel
theorem ck_141 : (C_141).all (ckop 141) = true := by decide +kernel
theorem ck_142 : (C_142).all (ckop 142) = true := by decide +kernel
theorem ck_143 : (C_143).all (ckop 143) = true := by decide +kernel
theorem ck_144 : (C_144).all (ckop 144) = true := by decide +kernel
theorem ck_145 : (C_145).all (ckop 145) = true := by decide +kernel
theorem ck_146 : (C_146).all (ckop 146) = true := by decide +kernel
theorem ck_147_0 : ((C_147).take 100).all (ckop 147) = true := by decide +kernel
theorem ck_147_1 : ((C_147).drop 100).all (ckop 147) = true := by decide +kernel
theorem ck_147 : (C_147).all (ckop 147) = true := all_cut _ 100 ck_147_0 (ck_147_1)
theorem ck_148 : (C_148).all (ckop 148) = true := by decide +kernel
theorem ck_149 : (C_149).all (ckop 149) = true := by decide +kernel
theorem ck_150 : (C_150).all (ckop 150) = true := by decide +kernel
theorem ck_151 : (C_151).all (ckop 151) = true := by decide +kernel
theorem ck_152 : (C_152).all (ckop 152) = true := by decide +kernel
theorem ck_153 : (C_153).all (ckop 153) = true := by decide +kernel
theorem ck_154_0 : ((C_154).take 100).all (ckop 154) = true := by decide +kernel
theorem ck_154_1 : ((C_154).drop 100).all (ckop 154) = true := by decide +kernel
theorem ck_154 : (C_154).all (ckop 154) = true := all_cut _ 100 ck_154_0 (ck_154_1)
theorem ck_155 : (C_155).all (ckop 155) = true := by decide +kernel
theorem ck_156 : (C_156).all (ckop 156) = true := by decide +kernel
theorem ck_157 : (C_157).all (ckop 157) = true := by decide +kernel
theorem ck_158 : (C_158).all (ckop 158) = true := by decide +kernel
theorem ck_159_0 : ((C_159).take 100).all (ckop 159) = true := by decide +kernel
theorem ck_159_1 : ((C_159).drop 100).all (ckop 159) = true := by decide +kernel
theorem ck_159 : (C_159).all (ckop 159) = true := all_cut _ 100 ck_159_0 (ck_159_1)
theorem ck_160 : (C_160).all (ckop 160) = true := by decide +kernel
theorem ck_161 : (C_161).all (ckop 161) = true := by decide +kernel
theorem ck_162 : (C_162).all (ckop 162) = true := by decide +kernel
theorem ck_163 : (C_163).all (ckop 163) = true := by decide +kernel
theorem ck_164 : (C_164).all (ckop 164) = true := by decide +kernel
theorem ck_165 : (C_165).all (ckop 165) = true := by decide +kernel
theorem ck_166 : (C_166).all (ckop 166) = true := by decide +kernel
theorem ck_167 : (C_167).all (ckop 167) = true := by decide +kernel
theorem ck_168 : (C_168).all (ckop 168) = true := by decide +kernel
theorem ck_169 : (C_169).all (ckop 169) = true := by decide +kernel
theorem ck_170 : (C_170).all (ckop 170) = true := by decide +kernel
theorem ck_171 : (C_171).all (ckop 171) = true := by decide +kernel
theorem ck_172 : (C_172).all (ckop 172) = true := by decide +kernel
theorem ck_173 : (C_173).all (ckop 173) = true := by decide +kernel
theorem ck_174 : (C_174).all (ckop 174) = true := by decide +kernel
theorem ck_175 : (C_175).all (ckop 175) = true := by decide +kernel
theorem ck_176 : (C_176).all (ckop 176) = true := by decide +kernel
theorem ck_177 : (C_177).all (ckop 177) = true := by decide +kernel
theorem ck_178 : (C_178).all (ckop 178) = true := by decide +kernel
theorem ck_179_0 : ((C_179).take 100).all (ckop 179) = true := by decide +kernel
theorem ck_179_1 : ((C_179).drop 100).all (ckop 179) = true := by decide +kernel
theorem ck_179 : (C_179).all (ckop 179) = true := all_cut _ 100 ck_179_0 (ck_179_1)
theorem ck_180 : (C_180).all (ckop 180) = true := by decide +kernel
theorem ck_181 : (C_181).all (ckop 181) = true := by decide +kernel
theorem ck_182 : (C_182).all (ckop 182) = true := by decide +kernel
theorem ck_183 : (C_183).all (ckop 183) = true := by decide +kernel
theorem ck_184 : (C_184).all (ckop 184) = true := by decide +kernel
theorem ck_185 : (C_185).all (ckop 185) = true := by decide +kernel
theorem ck_186_0 : ((C_186).take 100).all (ckop 186) = true := by decide +kernel
theorem ck_186_1 : ((C_186).drop 100).all (ckop 186) = true := by decide +kernel
theorem ck_186 : (C_186).all (ckop 186) = true := all_cut _ 100 ck_186_0 (ck_186_1)
theorem ck_187 : (C_187).all (ckop 187) = true := by decide +kernel
theorem ck_188_0 : ((C_188).take 100).all (ckop 188) = true := by decide +kernel
theorem ck_188_1 : (((C_188).drop 100).take 100).all (ckop 188) = true := by decide +kernel
theorem ck_188_2 : ((((C_188).drop 100).drop 100).take 100).all (ckop 188) = true := by decide +kernel
theorem ck_188_3 : (((((C_188).drop 100).drop 100).drop 100).take 100).all (ckop 188) = true := by decide +kernel
theorem ck_188_4 : ((((((C_188).drop 100).drop 100).drop 100).drop 100).take 100).all (ckop 188) = true := by decide +kernel
theorem ck_188_5 : (((((((C_188).drop 100).drop 100).drop 100).drop 100).drop 100).take 100).all (ckop 188) = true := by decide +kernel
theorem ck_188_6 : (((((((C_188).drop 100).drop 100).drop 100).drop 100).drop 100).drop 100).all (ckop 188) = true := by decide +kernel
theorem ck_188 : (C_188).all (ckop 188) = true := all_cut _ 100 ck_188_0 (all_cut _ 100 ck_188_1 (all_cut _ 100 ck_188_2 (all_cut _ 100 ck_188_3 (all_cut _ 100 ck_188_4 (all_cut _ 100 ck_188_5 (ck_188_6))))))
theorem ck_189 : (C_189).all (ckop 189) = true := by decide +kernel
theorem ck_r0 : ∀ y, 0 ≤ y → y < 16 → (mCs.getD y []).all (ckop y) = true := by
  intro y h1 h2
  have h4 : y = 0 ∨ y = 1 ∨ y = 2 ∨ y = 3 ∨ y = 4 ∨ y = 5 ∨ y = 6 ∨ y = 7 ∨ y = 8 ∨ y = 9 ∨ y = 10 ∨ y = 11 ∨ y = 12 ∨ y = 13 ∨ y = 14 ∨ y = 15 := by omega
  rcases h4 with rfl | rfl | rfl | rfl | rfl | rfl | rfl | rfl | rfl | rfl | rfl | rfl | rfl | rfl | rfl | rfl
  · exact ck_0
  · exact ck_1
  · exact ck_2
  · exact ck_3
  · exact ck_4
  · exact ck_5
  · exact ck_6
  · exact ck_7
  · exact ck_8
  · exact ck_9
  · exact ck_10
  · exact ck_11
  · exact ck_12
  · exact ck_13
  · exact ck_14
  · exact ck_15
theorem ck_r16 : ∀ y, 16 ≤ y → y < 32 → (mCs.getD y []).all (ckop y) = true := by
  intro y h1 h2
  have h4 : y = 16 ∨ y = 17 ∨ y = 18 ∨ y = 19 ∨ y = 20 ∨ y = 21 ∨ y = 22 ∨ y = 23 ∨ y = 24 ∨ y = 25 ∨ y = 26 ∨ y = 27 ∨ y = 28 ∨ y = 29 ∨ y = 30 ∨ y = 31 := by omega
  rcases h4 with rfl | rfl | rfl | rfl | rfl | rfl | rfl | rfl | rfl | rfl | rfl | rfl | rfl | rfl | rfl | rfl
  · exact ck_16
  · exact ck_17
  · exact ck_18
  · exact ck_19
  · exact ck_20
  · exact ck_21
  · exact ck_22
  · exact ck_23
  · exact ck_24
  · exact ck_25
  · exact ck_26
  · exact ck_27
  · exact ck_28
  · exact ck_29
  · exact ck_30
  · exact ck_31
theorem ck_r32 : ∀ y, 32 ≤ y → y < 48 → (mCs.getD y []).all (ckop y) = true := by
  intro y h1 h2
  have h4 : y = 32 ∨ y = 33 ∨ y = 34 ∨ y = 35 ∨ y = 36 ∨ y = 37 ∨ y = 38 ∨ y = 39 ∨ y = 40 ∨ y = 41 ∨ y = 42 ∨ y = 43 ∨ y = 44 ∨ y = 45 ∨ y = 46 ∨ y = 47 := by omega
  rcases h4 with rfl | rfl | rfl | rfl | rfl | rfl | rfl | rfl | rfl | rfl | rfl | rfl | rfl | rfl | rfl | rfl
  · exact ck_32
  · exact ck_33
  · exact ck_34
  · exact ck_35
  · exact ck_36
  · exact ck_37
  · exact ck_38
  · exact ck_39
  · exact ck_40
  · exact ck_41
  · exact ck_42
  · exact ck_43
  · exact ck_44
  · exact ck_45
  · exact ck_46
  · exact ck_47
theorem ck_r48 : ∀ y, 48 ≤ y → y < 64 → (mCs.getD y []).all (ckop y) = true := by
  intro y h1 h2
  have h4 : y = 48 ∨ y = 49 ∨ y = 50 ∨ y = 51 ∨ y = 52 ∨ y = 53 ∨ y = 54 ∨ y = 55 ∨ y = 56 ∨ y = 57 ∨ y = 58 ∨ y = 59 ∨ y = 60 ∨ y = 61 ∨ y = 62 ∨ y = 63 := by omega
  rcases h4 with rfl | rfl | rfl | rfl | rfl | rfl | rfl | rfl | rfl | rfl | rfl | rfl | rfl | rfl | rfl | rfl
  · exact ck_48
  · exact ck_49
  · exact ck_50
  · exact ck_51
  · exact ck_52
  · exact ck_53
  · exact ck_54
  · exact ck_55
  · exact ck_56
  · exact ck_57
  · exact ck_58
  · exact ck_59
  · exact ck_60
  · exact ck_61
  · exact ck_62
  · exact ck_63
theorem ck_r64 : ∀ y, 64 ≤ y → y < 80 → (mCs.getD y []).all (ckop y) = true := by
  intro y h1 h2
  have h4 : y = 64 ∨ y = 65 ∨ y = 66 ∨ y = 67 ∨ y = 68 ∨ y = 69 ∨ y = 70 ∨ y = 71 ∨ y = 72 ∨ y = 73 ∨ y = 74 ∨ y = 75 ∨ y = 76 ∨ y = 77 ∨ y = 78 ∨ y = 79 := by omega
  rcases h4 with rfl | rfl | rfl | rfl | rfl | rfl | rfl | rfl | rfl | rfl | rfl | rfl | rfl | rfl | rfl | rfl
  · exact ck_64
  · exact ck_65
  · exact ck_66
  · exact ck_67
  · exact ck_68
  · exact ck_69
  · exact ck_70
  · exact ck_71
  · exact ck_72
  · exact ck_73
  · exact ck_74
  · exact ck_75
  · exact ck_76
  · exact ck_77
  · exact ck_78
  · exact ck_79
theorem ck_r80 : ∀ y, 80 ≤ y → y < 96 → (mCs.getD y []).all (ckop y) = true := by
  intro y h1 h2
  have h4 : y = 80 ∨ y = 81 ∨ y = 82 ∨ y = 83 ∨ y = 84 ∨ y = 85 ∨ y = 86 ∨ y = 87 ∨ y = 88 ∨ y = 89 ∨ y = 90 ∨ y = 91 ∨ y = 92 ∨ y = 93 ∨ y = 94 ∨ y = 95 := by omega
  rcases h4 with rfl | rfl | rfl | rfl | rfl | rfl | rfl | rfl | rfl | rfl | rfl | rfl | rfl | rfl | rfl | rfl
  · exact ck_80
  · exact ck_81
  · exact ck_82
  · exact ck_83
  · exact ck_84
  · exact ck_85
  · exact ck_86
  · exact ck_87
  · exact ck_88
  · exact ck_89
  · exact ck_90
  · exact ck_91
  · exact ck_92
  · exact ck_93
  · exact ck_94
  · exact ck_95
theorem ck_r96 : ∀ y, 96 ≤ y → y < 112 → (mCs.getD y []).all (ckop y) = true := by
  intro y h1 h2
  have h4 : y = 96 ∨ y = 97 ∨ y = 98 ∨ y = 99 ∨ y = 100 ∨ y = 101 ∨ y = 102 ∨ y = 103 ∨ y = 104 ∨ y = 105 ∨ y = 106 ∨ y = 107 ∨ y = 108 ∨ y = 109 ∨ y = 110 ∨ y = 111 := by omega
  rcases h4 with rfl | rfl | rfl | rfl | rfl | rfl | rfl | rfl | rfl | rfl | rfl | rfl | rfl | rfl | rfl | rfl
  · exact ck_96
  · exact ck_97
  · exact ck_98
  · exact ck_99
  · exact ck_100
  · exact ck_101
  · exact ck_102
  · exact ck_103
  · exact ck_104
  · exact ck_105
  · exact ck_106
  · exact ck_107
  · exact ck_108
  · exact ck_109
  · exact ck_110
  · exact ck_111
theorem ck_r112 : ∀ y, 112 ≤ y → y < 128 → (mCs.getD y []).all (ckop y) = true := by
  intro y h1 h2
  have h4 : y = 112 ∨ y = 113 ∨ y = 114 ∨ y = 115 ∨ y = 116 ∨ y = 117 ∨ y = 118 ∨ y = 119 ∨ y = 120 ∨ y = 121 ∨ y = 122 ∨ y = 123 ∨ y = 124 ∨ y = 125 ∨ y = 126 ∨ y = 127 := by omega
  rcases h4 with rfl | rfl | rfl | rfl | rfl | rfl | rfl | rfl | rfl | rfl | rfl | rfl | rfl | rfl | rfl | rfl
  · exact ck_112
  · exact ck_113
  · exact ck_114
  · exact ck_115
  · exact ck_116
  · exact ck_117
  · exact ck_118
  · exact ck_119
  · exact ck_120
  · exact ck_121
  · exact ck_122
  · exact ck_123
  · exact ck_124
  · exact ck_125
  · exact ck_126
  · exact ck_127
theorem ck_r128 : ∀ y, 128 ≤ y → y < 144 → (mCs.getD y []).all (ckop y) = true := by
  intro y h1 h2
  have h4 : y = 128 ∨ y = 129 ∨ y = 130 ∨ y = 131 ∨ y = 132 ∨ y = 133 ∨ y = 134 ∨ y = 135 ∨ y = 136 ∨ y = 137 ∨ y = 138 ∨ y = 139 ∨ y = 140 ∨ y = 141 ∨ y = 142 ∨ y = 143 := by omega
  rcases h4 with rfl | rfl | rfl | rfl | rfl | rfl | rfl | rfl | rfl | rfl | rfl | rfl | rfl | rfl | rfl | rfl
  · exact ck_128
  · exact ck_129
  · exact ck_130
  · exact ck_131
  · exact ck_132
  · exact ck_133
  · exact ck_134
  · exact ck_135
  · exact ck_136
  · exact ck_137
  · exact ck_138
  · exact ck_139
  · exact ck_140
  · exact ck_141
  · exact ck_142
  · exact ck_143
theorem ck_r144 : ∀ y, 144 ≤ y → y < 160 → (mCs.getD y []).all (ckop y) = true := by
  intro y h1 h2
  have h4 : y = 144 ∨ y = 145 ∨ y = 146 ∨ y = 147 ∨ y = 148 ∨ y = 149 ∨ y = 150 ∨ y = 151 ∨ y = 152 ∨ y = 153 ∨ y = 154 ∨ y = 155 ∨ y = 156 ∨ y = 157 ∨ y = 158 ∨ y = 159 := by omega
  rcases h4 with rfl | rfl | rfl | rfl | rfl | rfl | rfl | rfl | rfl | rfl | rfl | rfl | rfl | rfl | rfl | rfl
  · exact ck_144
  · exact ck_145
  · exact ck_146
  · exact ck_147
  · exact ck_148
  · exact ck_149
  · exact ck_150
  · exact ck_151
  · exact ck_152
  · exact ck_153
  · exact ck_154
  · exact ck_155
  · exact ck_156
  · exact ck_157
  · exact ck_158
  · exact ck_159
theorem ck_r160 : ∀ y, 160 ≤ y → y < 176 → (mCs.getD y []).all (ckop y) = true := by
  intro y h1 h2
  have h4 : y = 160 ∨ y = 161 ∨ y = 162 ∨ y = 163 ∨ y = 164 ∨ y = 165 ∨ y = 166 ∨ y = 167 ∨ y = 168 ∨ y = 169 ∨ y = 170 ∨ y = 171 ∨ y = 172 ∨ y = 173 ∨ y = 174 ∨ y = 175 := by omega
  rcases h4 with rfl | rfl | rfl | rfl | rfl | rfl | rfl | rfl | rfl | rfl | rfl | rfl | rfl | rfl | rfl | rfl
  · exact ck_160
  · exact ck_161
  · exact ck_162
  · exact ck_163
  · exact ck_164
  · exact ck_165
  · exact ck_166
  · exact ck_167
  · exact ck_168
  · exact ck_169
  · exact ck_170
  · exact ck_171
  · exact ck_172
  · exact ck_173
  · exact ck_174
  · exact ck_175
theorem ck_r176 : ∀ y, 176 ≤ y → y < 190 → (mCs.getD y []).all (ckop y) = true := by
  intro y h1 h2
  have h4 : y = 176 ∨ y = 177 ∨ y = 178 ∨ y = 179 ∨ y = 180 ∨ y = 181 ∨ y = 182 ∨ y = 183 ∨ y = 184 ∨ y = 185 ∨ y = 186 ∨ y = 187 ∨ y = 188 ∨ y = 189 := by omega
  rcases h4 with rfl | rfl | rfl | rfl | rfl | rfl | rfl | rfl | rfl | rfl | rfl | rfl | rfl | rfl
  · exact ck_176
  · exact ck_177
  · exact ck_178
  · exact ck_179
  · exact ck_180
  · exact ck_181
  · exact ck_182
  · exact ck_183
  · exact ck_184
  · exact ck_185
  · exact ck_186
  · exact ck_187
  · exact ck_188
  · exact ck_189
theorem ck_all : ∀ y, y < 190 → (mCs.getD y []).all (ckop y) = true := by
  intro y hy
  by_cases h0 : y < 16
  · exact ck_r0 y (by omega) h0
  by_cases h16 : y < 32
  · exact ck_r16 y (by omega) h16
  by_cases h32 : y < 48
  · exact ck_r32 y (by omega) h32
  by_cases h48 : y < 64
  · exact ck_r48 y (by omega) h48
  by_cases h64 : y < 80
  · exact ck_r64 y (by omega) h64
  by_cases h80 : y < 96
  · exact ck_r80 y (by omega) h80
  by_cases h96 : y < 112
  · exact ck_r96 y (by omega) h96
  by_cases h112 : y < 128
  · exact ck_r112 y (by omega) h112
  by_cases h128 : y < 144
  · exact ck_r128 y (by omega) h128
  by_cases h144 : y < 160
  · exact ck_r144 y (by omega) h144
  by_cases h160 : y < 176
  · exact ck_r160 y (by omega) h160
  by_cases h176 : y < 190
  · exact ck_r176 y (by omega) h176
  omega
theorem cd_lt {y pc : Nat} {o : Op} (h : cd y pc = some o) : y < 190 := by
  rcases Nat.lt_or_ge y 190 with q | q
  · exact q
  · have e : mCs.getD y [] = [] := by
      rw [List.getD_eq_getElem?_getD, List.getElem?_eq_none (by show 190 ≤ y; exact q)]
      rfl
    rw [cd, e] at h
    cases h
theorem cd_mem : ∀ (l : List (Nat × Op)) {pc : Nat} {o : Op}, l.lookup pc = some o → (pc, o) ∈ l
  | [], _, _, h => by cases h
  | (k, v) :: l, pc, o, h => by
    rw [List.lookup_cons] at h
    by_cases e : pc = k
    · subst e
      simp at h
      subst h
      exact List.mem_cons_self
    · have e2 : (pc == k) = false := by simpa using e
      rw [e2] at h
      exact List.mem_cons_of_mem _ (cd_mem l h)
theorem cd_ok {y pc : Nat} {o : Op} (h : cd y pc = some o) : decode (mB y) pc = .ok (ins pc o) ∧ lkop y o = true := by
  have h1 := List.all_eq_true.mp (ck_all y (cd_lt h)) _ (cd_mem _ h)
  simp only [ckop, Bool.and_eq_true, decide_eq_true_eq] at h1
  exact h1
end
section
/-! ===== THE PURE MACHINE'S WORLD IN THE REAL HEAP ===== -/
def im (ad : Nat → Nat) (v : VV) : Value := match v with
  | .inl z => .int (Int32.ofInt z)
  | .inr none => .null
  | .inr (some k) => .ref (ad k)
def fv (ad : Nat → Nat) (h : Hp) (a ci k : Nat) : Value := if 2 ≤ fK ci k then im ad (.inr (h.2.1 a k)) else .int (Int32.ofInt (h.2.2 a k))
def ce (cI cC : ClassId) (ad : Nat → Nat) (h : Hp) (a : Nat) (q : Nat × Nat) : va_E :=
  if q.1 = 0 then .inl (cI, q.2, .inl (fun j => Int32.ofInt (h.2.2 a j)))
  else if q.1 = 1 then .inl (cC, q.2, .inl (fun j => Int32.ofInt (h.2.2 a j)))
  else .inr (q.1 - 2, (List.range q.2).map (fv ad h a (q.1 - 2)))
def wo (cI cC : ClassId) (ad : Nat → Nat) (h : Hp) : va_W := h.1.mapIdx (fun a q => (ad a, ce cI cC ad h a q))
def okV (h : Hp) (v : VV) : Prop := match v with
  | .inl z => inR z
  | .inr none => True
  | .inr (some k) => k < h.1.length ∨ STR ≤ k
def okH (h : Hp) : Prop := (∀ (a : Nat) (i : Int), inR (h.2.2 a i)) ∧ (∀ (a f k : Nat), h.2.1 a f = some k → k < h.1.length) ∧ (∀ (a : Nat) (q : Nat × Nat), h.1[a]? = some q → 2 ≤ q.1 → q.1 - 2 < 10 ∧ q.2 = nF (q.1 - 2)) ∧ h.1.length ≤ 1000 ∧ ∀ (a : Nat) (q : Nat × Nat), h.1[a]? = some q → q.2 ≤ 100000
theorem oI_t {z : Int} (h : inR z) : (Int32.ofInt z).toInt = z := Int32.toInt_ofInt_of_le (by have := h.1; simpa using this) (by have := h.2; simpa using this)
theorem oI_lt {x y : Int} (hx : inR x) (hy : inR y) : Int32.ofInt x < Int32.ofInt y ↔ x < y := by rw [Int32.lt_iff_toInt_lt, oI_t hx, oI_t hy]
theorem oI_le {x y : Int} (hx : inR x) (hy : inR y) : Int32.ofInt x ≤ Int32.ofInt y ↔ x ≤ y := by rw [Int32.le_iff_toInt_le, oI_t hx, oI_t hy]
theorem oI_eq {x y : Int} (hx : inR x) (hy : inR y) : Int32.ofInt x = Int32.ofInt y ↔ x = y := by rw [← Int32.toInt_inj, oI_t hx, oI_t hy]
theorem oI_0 : Int32.ofInt 0 = 0 := rfl
theorem inR_0 : inR 0 := ⟨by decide, by decide⟩
theorem oI_n {z : Int} (h : inR z) : (Int32.ofInt z).toNatClampNeg = z.toNat := Int32.toNatClampNeg_ofInt_of_le (by have := h.1; simpa using this) (by have := h.2; simpa using this)
theorem oI_div {x y : Int} (hx : inR x) (hy : inR y) (h0 : 0 ≤ x) (h1 : 0 < y) : Int32.ofInt x / Int32.ofInt y = Int32.ofInt (x / y) := by
  have hq : inR (x / y) := ⟨by have := Int.ediv_nonneg h0 (Int.le_of_lt h1); omega, by have := Int.ediv_le_self y h0; omega⟩
  rw [← Int32.toInt_inj, Int32.toInt_div_of_ne_right, oI_t hx, oI_t hy, oI_t hq, Int.tdiv_eq_ediv_of_nonneg h0]
  intro e
  have e2 : (Int32.ofInt y).toInt = (-1 : Int32).toInt := by rw [e]
  rw [oI_t hy] at e2
  have e3 : (-1 : Int32).toInt = -1 := by decide
  omega
theorem oI_rem {x y : Int} (hx : inR x) (hy : inR y) (h0 : 0 ≤ x) (h1 : 0 < y) : Int32.ofInt x - Int32.ofInt x / Int32.ofInt y * Int32.ofInt y = Int32.ofInt (x % y) := by
  rw [oI_div hx hy h0 h1, ← Int32.ofInt_mul, ← Int32.ofInt_sub, Int.emod_def, Int.mul_comm]
theorem oI_and {x : Int} : Int32.ofInt x &&& Int32.ofInt 31 = Int32.ofInt (x % 32) := by
  rw [pk_and (Int32.ofInt x) (m := Int32.ofInt 31) 5 (by decide)]
  show Int32.ofNat _ = _
  rw [← Int32.ofInt_eq_ofNat]
  congr 1
  rw [Int32.toBitVec_ofInt, BitVec.toNat_ofInt]
  omega
theorem oI_b {z : Int} (h1 : -128 ≤ z) (h2 : z < 128) : (Int8.ofInt z).toInt32 = Int32.ofInt z := by
  rw [← Int32.toInt_inj, Int8.toInt_toInt32, oI_t ⟨by omega, by omega⟩, Int8.toInt_ofInt_of_le (by simpa using h1) (by simpa using h2)]
theorem oI_s {z : Int} (h1 : -32768 ≤ z) (h2 : z < 32768) : (Int16.ofInt z).toInt32 = Int32.ofInt z := by
  rw [← Int32.toInt_inj, Int16.toInt_toInt32, oI_t ⟨by omega, by omega⟩, Int16.toInt_ofInt_of_le (by simpa using h1) (by simpa using h2)]
theorem oI_c {z : Int} (h1 : 0 ≤ z) (h2 : z < 65536) : ((Int32.ofInt z).toUInt32 % 65536).toInt32 = Int32.ofInt z := by
  rw [pk_char]
  show Int32.ofNat _ = _
  rw [← Int32.ofInt_eq_ofNat]
  congr 1
  rw [Int32.toBitVec_ofInt, BitVec.toNat_ofInt]
  omega
theorem ce_0 {cI cC : ClassId} {ad : Nat → Nat} {h : Hp} {a n : Nat} : ce cI cC ad h a (0, n) = .inl (cI, n, .inl (fun j => Int32.ofInt (h.2.2 a j))) := rfl
theorem ce_1 {cI cC : ClassId} {ad : Nat → Nat} {h : Hp} {a n : Nat} : ce cI cC ad h a (1, n) = .inl (cC, n, .inl (fun j => Int32.ofInt (h.2.2 a j))) := rfl
theorem ce_o {cI cC : ClassId} {ad : Nat → Nat} {h : Hp} {a n ci : Nat} : ce cI cC ad h a (ci + 2, n) = .inr (ci, (List.range n).map (fv ad h a ci)) := by
  unfold ce
  rw [if_neg (by show ¬ ci + 2 = 0; omega), if_neg (by show ¬ ci + 2 = 1; omega)]
  rfl
theorem wo_get {cI cC : ClassId} {ad : Nat → Nat} {h : Hp} {o : Nat} {q : Nat × Nat} (hq : h.1[o]? = some q) : (wo cI cC ad h)[o]? = some (ad o, ce cI cC ad h o q) := by
  simp [wo, List.getElem?_mapIdx, hq]
theorem wo_set {cI cC : ClassId} {ad : Nat → Nat} {h h2 : Hp} {o : Nat} {q : Nat × Nat} (hs : h2.1 = h.1) (hq : h.1[o]? = some q) (hc : ∀ a q, a ≠ o → ce cI cC ad h2 a q = ce cI cC ad h a q) : (wo cI cC ad h).set o (ad o, ce cI cC ad h2 o q) = wo cI cC ad h2 := by
  apply List.ext_getElem?
  intro i
  by_cases hi : i = o
  · subst hi
    rw [List.getElem?_set_self (by simp [wo]; exact (List.getElem?_eq_some_iff.mp hq).1)]
    rw [wo_get (h := h2) (by rw [hs]; exact hq)]
  · rw [List.getElem?_set_ne (Ne.symm hi)]
    simp only [wo, List.getElem?_mapIdx, hs]
    cases h.1[i]? with
    | none => rfl
    | some x => simp [hc i x hi]
theorem wo_push {cI cC : ClassId} {ad ad2 : Nat → Nat} {h h2 : Hp} {q : Nat} {x : Nat × Nat} (hs : h2.1 = h.1 ++ [x]) (hc : ∀ a y, h.1[a]? = some y → ce cI cC ad2 h2 a y = ce cI cC ad h a y) (ha : ∀ a, a < h.1.length → ad2 a = ad a) (hn : ad2 h.1.length = q) : wo cI cC ad h ++ [(q, ce cI cC ad2 h2 h.1.length x)] = wo cI cC ad2 h2 := by
  have hl : (wo cI cC ad h).length = h.1.length := by simp [wo]
  apply List.ext_getElem?
  intro i
  rcases Nat.lt_trichotomy i h.1.length with hi | hi | hi
  · rw [List.getElem?_append_left (by rw [hl]; exact hi)]
    simp only [wo, List.getElem?_mapIdx, hs, List.getElem?_append_left hi]
    have hz := List.getElem?_eq_getElem hi
    rw [hz]
    simp [hc i _ hz, ha i hi]
  · subst hi
    rw [List.getElem?_append_right (by rw [hl]; exact Nat.le_refl _), hl, Nat.sub_self]
    simp [wo, List.getElem?_mapIdx, hs, hn]
  · rw [List.getElem?_eq_none (by simp [hl]; omega), List.getElem?_eq_none (by simp [wo, hs]; omega)]
theorem im_cat (ad : Nat → Nat) (v : VV) : (im ad v).category = 1 := by
  match v with
  | .inl z => rfl
  | .inr none => rfl
  | .inr (some k) => rfl
theorem im_sum (ad : Nat → Nat) : ∀ (l : List VV), ((l.map (im ad)).map fun v => v.category).sum = l.length
  | [] => rfl
  | v :: l => by
    simp only [List.map_cons, List.sum_cons, List.length_cons, im_cat, im_sum ad l]
    omega
theorem al_cons {P : VV → Prop} {x : VV} {l : List VV} (h1 : P x) (h2 : ∀ v ∈ l, P v) : ∀ v ∈ x :: l, P v := List.forall_mem_cons.mpr ⟨h1, h2⟩
theorem al_set {P : VV → Prop} {x : VV} {l : List VV} {i : Nat} (h1 : P x) (h2 : ∀ v ∈ l, P v) : ∀ v ∈ l.set i x, P v := by
  intro v hv
  rcases List.mem_or_eq_of_mem_set hv with h | h
  · exact h2 v h
  · rw [h]; exact h1
/-- the locals -/
def Lc (ad : Nat → Nat) (ls : List VV) (rs : Array Slot) (nL : Nat) : Prop := rs.size = nL ∧ ls.length = nL ∧ lv_wf rs ∧ ∀ (i : Nat) (v : VV), ls[i]? = some v → v ≠ .inr none → rs[i]? = some (.val (im ad v))
def prs (ad : Nat → Nat) (ls : List VV) : List (Nat × Value) := (ls.mapIdx (fun i v => (i, v))).filterMap (fun q => if q.2 = .inr none then none else some (q.1, im ad q.2))
theorem prs_mem {ad : Nat → Nat} {ls : List VV} {q : Nat × Value} : q ∈ prs ad ls ↔ ∃ v, ls[q.1]? = some v ∧ v ≠ .inr none ∧ q.2 = im ad v := by
  unfold prs
  rw [List.mem_filterMap]
  constructor
  · rintro ⟨⟨i, v⟩, h1, h2⟩
    obtain ⟨k, hk⟩ := List.getElem?_of_mem h1
    rw [List.getElem?_mapIdx] at hk
    cases hl : ls[k]? with
    | none => rw [hl] at hk; cases hk
    | some w =>
      rw [hl] at hk
      have hk := Option.some.inj hk
      cases hk
      by_cases hn : v = .inr none
      · simp [hn] at h2
      · simp [hn] at h2
        subst h2
        exact ⟨v, hl, hn, rfl⟩
  · rintro ⟨v, h1, h2, h3⟩
    refine ⟨(q.1, v), ?_, ?_⟩
    · exact List.mem_of_getElem? (i := q.1) (by rw [List.getElem?_mapIdx, h1]; rfl)
    · simp [h2]
      rw [← h3]
theorem Lc.has {ad : Nat → Nat} {ls : List VV} {rs : Array Slot} {nL : Nat} (h : Lc ad ls rs nL) : lv_has rs nL (prs ad ls) := by
  refine ⟨h.1, h.2.2.1, fun q hq => ?_⟩
  obtain ⟨v, h1, h2, h3⟩ := prs_mem.mp hq
  rw [h3]
  exact h.2.2.2 _ _ h1 h2
theorem Lc.put {ad : Nat → Nat} {ls : List VV} {rs : Array Slot} {nL i : Nat} {x : VV} {X : Value} (hn : ls.length = nL) (hX : im ad x = X) (h : lv_has rs nL ((i, X) :: (prs ad ls).filter (fun q => !(q.1 == i) && !(q.1 + 1 == i && q.2.category == 2)))) : Lc ad (ls.set i x) rs nL := by
  refine ⟨h.1, by rw [List.length_set]; exact hn, h.2.1, fun j v hj hv => ?_⟩
  by_cases e : j = i
  · subst e
    have hl : j < ls.length := by
      have := (List.getElem?_eq_some_iff.mp hj).1
      rw [List.length_set] at this
      exact this
    rw [List.getElem?_set_self hl] at hj
    cases hj
    rw [hX]
    exact h.2.2 (j, X) List.mem_cons_self
  · rw [List.getElem?_set_ne (Ne.symm e)] at hj
    refine h.2.2 (j, im ad v) (List.mem_cons_of_mem _ (List.mem_filter.mpr ⟨prs_mem.mpr ⟨v, hj, hv, rfl⟩, ?_⟩))
    simp [e, im_cat]
end
section
/-! ===== ONE STEP OF THE PURE MACHINE IS STEPS OF THE REAL ONE ===== -/
def NK (U : State) : Prop := ∀ e ∈ NL, va_Nw (.methodLinkNest (cN e.1.1) e.1.2 (mN e.2) "TierPods") U
def Cx (p : Program) (R : Room) (s : State) (m : MethodId) (args : Array Value) (meth : Method) (c : Code) (y d : Nat) (D : va_G) (cI cC : ClassId) (A : Nat → Prop) (mc ms : Nat) : Prop :=
  p.tables.exec = Jvm.exec ∧ c.code = mB y ∧ c.maxLocals = mL y ∧ s.vm.findClass (cN (mO y)) = some m.cls ∧ (∀ w ∈ wl, w.before args s = true) ∧ va_K D classes [(cI, .int), (cC, .char)] s ∧ (R.frames = d ∧ 40 * d ≤ R.locals ∧ R.cells = mc ∧ R.slots = ms) ∧ (y < 188 → meth.name = (mN y).name) ∧ (∀ q, s.heap.size ≤ q → A q) ∧ NK s
def Rl (s : State) (y : Nat) (D : va_G) (cI cC : ClassId) (A : Nat → Prop) (mc ms : Nat) (ad0 : Nat → Nat) (n0 : Nat) (t : St) (ad : Nat → Nat) (H : Heap) (locs : List Loc) (cells slots : Nat) (rs : Array Slot) : Prop :=
  Lc ad t.2.1 rs (mL y) ∧ (∀ v ∈ t.2.1, okV t.2.2.2.1 v) ∧ (∀ v ∈ t.2.2.1, okV t.2.2.2.1 v) ∧ okH t.2.2.2.1 ∧ va_P D classes (wo cI cC ad t.2.2.2.1) H ∧ va_D A (wo cI cC ad t.2.2.2.1) ∧ va_S A s.heap H locs ∧ cells + t.2.2.2.2.1 = mc ∧ slots + t.2.2.2.2.2 = ms ∧ n0 ≤ t.2.2.2.1.1.length ∧ (∀ k, k < n0 ∨ STR ≤ k → ad k = ad0 k)
def WA (p : Program) (l : Launch) (e : Env) (R : Room) (s : State) (m : MethodId) (args : Array Value) (below : List Frame) (meth : Method) (c : Code) (y : Nat) (D : va_G) (cI cC : ClassId) (A : Nat → Prop) (mc ms : Nat) (ad0 : Nat → Nat) (n0 : Nat) (Qf : State → Prop) (t : St) : Prop :=
  ∀ (ad : Nat → Nat) (H : Heap) (locs : List Loc) (cells slots : Nat) (rs : Array Slot), Rl s y D cI cC A mc ms ad0 n0 t ad H locs cells slots rs → W p l e R s m args below meth c H locs cells slots Qf (F0 m t.1 rs (t.2.2.1.map (im ad)))
section SND
variable {p : Program} {l : Launch} {e : Env} {R : Room} {s : State} {m : MethodId} {args : Array Value} {below : List Frame} {meth : Method} {c : Code} {y d : Nat} {D : va_G} {cI cC : ClassId} {A : Nat → Prop} {mc ms : Nat} {ad0 : Nat → Nat} {n0 : Nat} {Qf : State → Prop}
variable {pc : Nat} {ls st : List VV} {h : Hp} {bc bs : Nat} {t : St}
theorem s_iload (C0 : Cx p R s m args meth c y d D cI cC A mc ms) {a : Nat} (hd : decode (mB y) pc = .ok (if a < 4 then (.iload_n (Fin.ofNat 4 a), 1) else (.iload a, 2))) (hn : n_iload a pc ls st h bc bs t) (hk : WA p l e R s m args below meth c y D cI cC A mc ms ad0 n0 Qf (t)) : WA p l e R s m args below meth c y D cI cC A mc ms ad0 n0 Qf (pc, ls, st, h, bc, bs) := by
  obtain ⟨v, hv, rfl⟩ := hn
  obtain ⟨hx, hb, hml, hown, hts, hK, hRm, hin, hA, hNK⟩ := C0
  intro ad H locs cells slots rs hR
  obtain ⟨hL, o1, o2, o3, hP, hD, hS, e1, e2, e3, e4⟩ := hR
  dsimp only at hL o1 o2 o3 hP hD hS e1 e2 e3 e4
  have hg := hL.2.2.2 a _ hv (by simp)
  have hgo := hk ad H locs cells slots rs ⟨hL, o1, al_cons (o1 _ (List.mem_of_getElem? hv)) o2, o3, hP, hD, hS, e1, e2, e3, e4⟩
  by_cases ha : a < 4
  · simp only [if_pos ha] at hd hgo
    exact lv_iload_n hx hb hd (i := a) (by show a % 4 = a; omega) hg hgo
  · simp only [if_neg ha] at hd hgo
    exact lv_iload hx hb hd hg hgo
theorem s_aload (C0 : Cx p R s m args meth c y d D cI cC A mc ms) {a : Nat} (hd : decode (mB y) pc = .ok (if a < 4 then (.aload_n (Fin.ofNat 4 a), 1) else (.aload a, 2))) (hn : n_aload a pc ls st h bc bs t) (hk : WA p l e R s m args below meth c y D cI cC A mc ms ad0 n0 Qf (t)) : WA p l e R s m args below meth c y D cI cC A mc ms ad0 n0 Qf (pc, ls, st, h, bc, bs) := by
  obtain ⟨v, hv, rfl⟩ := hn
  obtain ⟨hx, hb, hml, hown, hts, hK, hRm, hin, hA, hNK⟩ := C0
  intro ad H locs cells slots rs hR
  obtain ⟨hL, o1, o2, o3, hP, hD, hS, e1, e2, e3, e4⟩ := hR
  dsimp only at hL o1 o2 o3 hP hD hS e1 e2 e3 e4
  have hg := hL.2.2.2 a _ hv (by simp)
  have hgo := hk ad H locs cells slots rs ⟨hL, o1, al_cons (o1 _ (List.mem_of_getElem? hv)) o2, o3, hP, hD, hS, e1, e2, e3, e4⟩
  by_cases ha : a < 4
  · simp only [if_pos ha] at hd hgo
    exact lv_aload_n hx hb hd (i := a) (by show a % 4 = a; omega) hg hgo
  · simp only [if_neg ha] at hd hgo
    exact lv_aload hx hb hd hg hgo
theorem s_istore (C0 : Cx p R s m args meth c y d D cI cC A mc ms) {a : Nat} (hd : decode (mB y) pc = .ok (if a < 4 then (.istore_n (Fin.ofNat 4 a), 1) else (.istore a, 2))) (hn : n_istore a pc ls st h bc bs t) (hk : WA p l e R s m args below meth c y D cI cC A mc ms ad0 n0 Qf (t)) : WA p l e R s m args below meth c y D cI cC A mc ms ad0 n0 Qf (pc, ls, st, h, bc, bs) := by
  obtain ⟨v, st', rfl, hl, rfl⟩ := hn
  obtain ⟨hx, hb, hml, hown, hts, hK, hRm, hin, hA, hNK⟩ := C0
  intro ad H locs cells slots rs hR
  obtain ⟨hL, o1, o2, o3, hP, hD, hS, e1, e2, e3, e4⟩ := hR
  dsimp only at hL o1 o2 o3 hP hD hS e1 e2 e3 e4
  have ov := o2 _ List.mem_cons_self
  have o2' : ∀ w ∈ st', okV h w := fun w hw => o2 w (List.mem_cons_of_mem _ hw)
  have hn : a < mL y := by rw [← hL.2.1]; exact hl
  have hgo : ∀ rs', lv_has rs' (mL y) ((a, im ad (.inl v)) :: (prs ad ls).filter (fun q => !(q.1 == a) && !(q.1 + 1 == a && q.2.category == 2))) → W p l e R s m args below meth c H locs cells slots Qf (F0 m (pc + if a < 4 then 1 else 2) rs' (st'.map (im ad))) := fun rs' h' =>
    hk ad H locs cells slots rs' ⟨Lc.put hL.2.1 rfl h', al_set ov o1, o2', o3, hP, hD, hS, e1, e2, e3, e4⟩
  by_cases ha : a < 4
  · simp only [if_pos ha] at hd hgo
    exact lv_istore_n hx hb hd (i := a) (by show a % 4 = a; omega) hL.has hn rfl hgo
  · simp only [if_neg ha] at hd hgo
    exact lv_istore hx hb hd hL.has hn rfl hgo
theorem s_astore (C0 : Cx p R s m args meth c y d D cI cC A mc ms) {a : Nat} (hd : decode (mB y) pc = .ok (if a < 4 then (.astore_n (Fin.ofNat 4 a), 1) else (.astore a, 2))) (hn : n_astore a pc ls st h bc bs t) (hk : WA p l e R s m args below meth c y D cI cC A mc ms ad0 n0 Qf (t)) : WA p l e R s m args below meth c y D cI cC A mc ms ad0 n0 Qf (pc, ls, st, h, bc, bs) := by
  obtain ⟨v, st', rfl, hl, rfl⟩ := hn
  obtain ⟨hx, hb, hml, hown, hts, hK, hRm, hin, hA, hNK⟩ := C0
  intro ad H locs cells slots rs hR
  obtain ⟨hL, o1, o2, o3, hP, hD, hS, e1, e2, e3, e4⟩ := hR
  dsimp only at hL o1 o2 o3 hP hD hS e1 e2 e3 e4
  have ov := o2 _ List.mem_cons_self
  have o2' : ∀ w ∈ st', okV h w := fun w hw => o2 w (List.mem_cons_of_mem _ hw)
  have hn : a < mL y := by rw [← hL.2.1]; exact hl
  have hgo : ∀ rs', lv_has rs' (mL y) ((a, im ad (.inr (some v))) :: (prs ad ls).filter (fun q => !(q.1 == a) && !(q.1 + 1 == a && q.2.category == 2))) → W p l e R s m args below meth c H locs cells slots Qf (F0 m (pc + if a < 4 then 1 else 2) rs' (st'.map (im ad))) := fun rs' h' =>
    hk ad H locs cells slots rs' ⟨Lc.put hL.2.1 rfl h', al_set ov o1, o2', o3, hP, hD, hS, e1, e2, e3, e4⟩
  by_cases ha : a < 4
  · simp only [if_pos ha] at hd hgo
    exact lv_astore_n hx hb hd (i := a) (by show a % 4 = a; omega) hL.has hn rfl hgo
  · simp only [if_neg ha] at hd hgo
    exact lv_astore hx hb hd hL.has hn rfl hgo
theorem s_iconst (C0 : Cx p R s m args meth c y d D cI cC A mc ms) {z : Int} (hz : -1 ≤ z ∧ z ≤ 5) (hd : decode (mB y) pc = .ok ((.iconst z, 1))) (hn : n_const 1 z pc ls st h bc bs t) (hk : WA p l e R s m args below meth c y D cI cC A mc ms ad0 n0 Qf (t)) : WA p l e R s m args below meth c y D cI cC A mc ms ad0 n0 Qf (pc, ls, st, h, bc, bs) := by
  have hn : t = _ := hn
  subst hn
  obtain ⟨hx, hb, hml, hown, hts, hK, hRm, hin, hA, hNK⟩ := C0
  intro ad H locs cells slots rs hR
  obtain ⟨hL, o1, o2, o3, hP, hD, hS, e1, e2, e3, e4⟩ := hR
  dsimp only at hL o1 o2 o3 hP hD hS e1 e2 e3 e4
  have hgo := hk ad H locs cells slots rs ⟨hL, o1, al_cons (show inR z from ⟨by omega, by omega⟩) o2, o3, hP, hD, hS, e1, e2, e3, e4⟩
  exact lv_iconst hx hb hd rfl hgo
theorem s_bipush (C0 : Cx p R s m args meth c y d D cI cC A mc ms) {z : Int} (hz : -128 ≤ z ∧ z < 128) (hd : decode (mB y) pc = .ok ((.bipush z, 2))) (hn : n_const 2 z pc ls st h bc bs t) (hk : WA p l e R s m args below meth c y D cI cC A mc ms ad0 n0 Qf (t)) : WA p l e R s m args below meth c y D cI cC A mc ms ad0 n0 Qf (pc, ls, st, h, bc, bs) := by
  have hn : t = _ := hn
  subst hn
  obtain ⟨hx, hb, hml, hown, hts, hK, hRm, hin, hA, hNK⟩ := C0
  intro ad H locs cells slots rs hR
  obtain ⟨hL, o1, o2, o3, hP, hD, hS, e1, e2, e3, e4⟩ := hR
  dsimp only at hL o1 o2 o3 hP hD hS e1 e2 e3 e4
  have hgo := hk ad H locs cells slots rs ⟨hL, o1, al_cons (show inR z from ⟨by omega, by omega⟩) o2, o3, hP, hD, hS, e1, e2, e3, e4⟩
  exact lv_bipush hx hb hd (oI_b hz.1 hz.2) hgo
theorem s_sipush (C0 : Cx p R s m args meth c y d D cI cC A mc ms) {z : Int} (hz : -32768 ≤ z ∧ z < 32768) (hd : decode (mB y) pc = .ok ((.sipush z, 3))) (hn : n_const 3 z pc ls st h bc bs t) (hk : WA p l e R s m args below meth c y D cI cC A mc ms ad0 n0 Qf (t)) : WA p l e R s m args below meth c y D cI cC A mc ms ad0 n0 Qf (pc, ls, st, h, bc, bs) := by
  have hn : t = _ := hn
  subst hn
  obtain ⟨hx, hb, hml, hown, hts, hK, hRm, hin, hA, hNK⟩ := C0
  intro ad H locs cells slots rs hR
  obtain ⟨hL, o1, o2, o3, hP, hD, hS, e1, e2, e3, e4⟩ := hR
  dsimp only at hL o1 o2 o3 hP hD hS e1 e2 e3 e4
  have hgo := hk ad H locs cells slots rs ⟨hL, o1, al_cons (show inR z from ⟨by omega, by omega⟩) o2, o3, hP, hD, hS, e1, e2, e3, e4⟩
  exact lv_sipush hx hb hd (oI_s hz.1 hz.2) hgo
theorem KL_r : ∀ e ∈ KL, inR e.2 := by decide +kernel
theorem s_ldc (C0 : Cx p R s m args meth c y d D cI cC A mc ms) {a : Nat} {z : Int} (hz : ((mO y, a), z) ∈ KL) (hd : decode (mB y) pc = .ok ((.ldc a, 2))) (hn : n_const 2 z pc ls st h bc bs t) (hk : WA p l e R s m args below meth c y D cI cC A mc ms ad0 n0 Qf (t)) : WA p l e R s m args below meth c y D cI cC A mc ms ad0 n0 Qf (pc, ls, st, h, bc, bs) := by
  have hn : t = _ := hn
  subst hn
  obtain ⟨hx, hb, hml, hown, hts, hK, hRm, hin, hA, hNK⟩ := C0
  intro ad H locs cells slots rs hR
  obtain ⟨hL, o1, o2, o3, hP, hD, hS, e1, e2, e3, e4⟩ := hR
  dsimp only at hL o1 o2 o3 hP hD hS e1 e2 e3 e4
  have hgo := hk ad H locs cells slots rs ⟨hL, o1, al_cons (show inR z from KL_r _ hz) o2, o3, hP, hD, hS, e1, e2, e3, e4⟩
  exact W.ldc hx hb hown (hts _ (KL_ok _ hz)) rfl hd hgo
theorem s_iadd (C0 : Cx p R s m args meth c y d D cI cC A mc ms) (hd : decode (mB y) pc = .ok ((.iadd, 1))) (hn : n_bin (fun x y => x + y) (fun x y => inR (x + y)) pc ls st h bc bs t) (hk : WA p l e R s m args below meth c y D cI cC A mc ms ad0 n0 Qf (t)) : WA p l e R s m args below meth c y D cI cC A mc ms ad0 n0 Qf (pc, ls, st, h, bc, bs) := by
  obtain ⟨x, z, st', rfl, hq, rfl⟩ := hn
  obtain ⟨hx, hb, hml, hown, hts, hK, hRm, hin, hA, hNK⟩ := C0
  intro ad H locs cells slots rs hR
  obtain ⟨hL, o1, o2, o3, hP, hD, hS, e1, e2, e3, e4⟩ := hR
  dsimp only at hL o1 o2 o3 hP hD hS e1 e2 e3 e4
  have oz : inR z := o2 _ List.mem_cons_self
  have ox : inR x := o2 _ (List.mem_cons_of_mem _ List.mem_cons_self)
  have o2' : ∀ w ∈ st', okV h w := fun w hw => o2 w (List.mem_cons_of_mem _ (List.mem_cons_of_mem _ hw))

  have hgo := hk ad H locs cells slots rs ⟨hL, o1, al_cons (show inR (_) from hq) o2', o3, hP, hD, hS, e1, e2, e3, e4⟩
  refine lv_iadd hx hb hd ?_
  rw [← Int32.ofInt_add]
  exact hgo
theorem s_isub (C0 : Cx p R s m args meth c y d D cI cC A mc ms) (hd : decode (mB y) pc = .ok ((.isub, 1))) (hn : n_bin (fun x y => x - y) (fun x y => inR (x - y)) pc ls st h bc bs t) (hk : WA p l e R s m args below meth c y D cI cC A mc ms ad0 n0 Qf (t)) : WA p l e R s m args below meth c y D cI cC A mc ms ad0 n0 Qf (pc, ls, st, h, bc, bs) := by
  obtain ⟨x, z, st', rfl, hq, rfl⟩ := hn
  obtain ⟨hx, hb, hml, hown, hts, hK, hRm, hin, hA, hNK⟩ := C0
  intro ad H locs cells slots rs hR
  obtain ⟨hL, o1, o2, o3, hP, hD, hS, e1, e2, e3, e4⟩ := hR
  dsimp only at hL o1 o2 o3 hP hD hS e1 e2 e3 e4
  have oz : inR z := o2 _ List.mem_cons_self
  have ox : inR x := o2 _ (List.mem_cons_of_mem _ List.mem_cons_self)
  have o2' : ∀ w ∈ st', okV h w := fun w hw => o2 w (List.mem_cons_of_mem _ (List.mem_cons_of_mem _ hw))

  have hgo := hk ad H locs cells slots rs ⟨hL, o1, al_cons (show inR (_) from hq) o2', o3, hP, hD, hS, e1, e2, e3, e4⟩
  refine lv_isub hx hb hd ?_
  rw [← Int32.ofInt_sub]
  exact hgo
theorem s_imul (C0 : Cx p R s m args meth c y d D cI cC A mc ms) (hd : decode (mB y) pc = .ok ((.imul, 1))) (hn : n_bin (fun x y => x * y) (fun x y => inR (x * y)) pc ls st h bc bs t) (hk : WA p l e R s m args below meth c y D cI cC A mc ms ad0 n0 Qf (t)) : WA p l e R s m args below meth c y D cI cC A mc ms ad0 n0 Qf (pc, ls, st, h, bc, bs) := by
  obtain ⟨x, z, st', rfl, hq, rfl⟩ := hn
  obtain ⟨hx, hb, hml, hown, hts, hK, hRm, hin, hA, hNK⟩ := C0
  intro ad H locs cells slots rs hR
  obtain ⟨hL, o1, o2, o3, hP, hD, hS, e1, e2, e3, e4⟩ := hR
  dsimp only at hL o1 o2 o3 hP hD hS e1 e2 e3 e4
  have oz : inR z := o2 _ List.mem_cons_self
  have ox : inR x := o2 _ (List.mem_cons_of_mem _ List.mem_cons_self)
  have o2' : ∀ w ∈ st', okV h w := fun w hw => o2 w (List.mem_cons_of_mem _ (List.mem_cons_of_mem _ hw))

  have hgo := hk ad H locs cells slots rs ⟨hL, o1, al_cons (show inR (_) from hq) o2', o3, hP, hD, hS, e1, e2, e3, e4⟩
  refine lv_imul hx hb hd ?_
  rw [← Int32.ofInt_mul]
  exact hgo
theorem s_idiv (C0 : Cx p R s m args meth c y d D cI cC A mc ms) (hd : decode (mB y) pc = .ok ((.idiv, 1))) (hn : n_bin (fun x y => x / y) (fun x y => 0 ≤ x ∧ 0 < y) pc ls st h bc bs t) (hk : WA p l e R s m args below meth c y D cI cC A mc ms ad0 n0 Qf (t)) : WA p l e R s m args below meth c y D cI cC A mc ms ad0 n0 Qf (pc, ls, st, h, bc, bs) := by
  obtain ⟨x, z, st', rfl, hq, rfl⟩ := hn
  obtain ⟨hx, hb, hml, hown, hts, hK, hRm, hin, hA, hNK⟩ := C0
  intro ad H locs cells slots rs hR
  obtain ⟨hL, o1, o2, o3, hP, hD, hS, e1, e2, e3, e4⟩ := hR
  dsimp only at hL o1 o2 o3 hP hD hS e1 e2 e3 e4
  have oz : inR z := o2 _ List.mem_cons_self
  have ox : inR x := o2 _ (List.mem_cons_of_mem _ List.mem_cons_self)
  have o2' : ∀ w ∈ st', okV h w := fun w hw => o2 w (List.mem_cons_of_mem _ (List.mem_cons_of_mem _ hw))

  have hz : ¬ Int32.ofInt z = 0 := fun e => by
    have := (oI_eq (y := 0) oz inR_0).mp e
    omega
  have hgo := hk ad H locs cells slots rs ⟨hL, o1, al_cons (show inR (x / z) from ⟨by have := Int.ediv_nonneg hq.1 (Int.le_of_lt hq.2); omega, by have := Int.ediv_le_self z hq.1; have := ox.2; omega⟩) o2', o3, hP, hD, hS, e1, e2, e3, e4⟩
  refine lv_idiv hx hb hd hz ?_
  rw [oI_div ox oz hq.1 hq.2]
  exact hgo
theorem s_irem (C0 : Cx p R s m args meth c y d D cI cC A mc ms) (hd : decode (mB y) pc = .ok ((.irem, 1))) (hn : n_bin (fun x y => x % y) (fun x y => 0 ≤ x ∧ 0 < y) pc ls st h bc bs t) (hk : WA p l e R s m args below meth c y D cI cC A mc ms ad0 n0 Qf (t)) : WA p l e R s m args below meth c y D cI cC A mc ms ad0 n0 Qf (pc, ls, st, h, bc, bs) := by
  obtain ⟨x, z, st', rfl, hq, rfl⟩ := hn
  obtain ⟨hx, hb, hml, hown, hts, hK, hRm, hin, hA, hNK⟩ := C0
  intro ad H locs cells slots rs hR
  obtain ⟨hL, o1, o2, o3, hP, hD, hS, e1, e2, e3, e4⟩ := hR
  dsimp only at hL o1 o2 o3 hP hD hS e1 e2 e3 e4
  have oz : inR z := o2 _ List.mem_cons_self
  have ox : inR x := o2 _ (List.mem_cons_of_mem _ List.mem_cons_self)
  have o2' : ∀ w ∈ st', okV h w := fun w hw => o2 w (List.mem_cons_of_mem _ (List.mem_cons_of_mem _ hw))

  have hz : ¬ Int32.ofInt z = 0 := fun e => by
    have := (oI_eq (y := 0) oz inR_0).mp e
    omega
  have hgo := hk ad H locs cells slots rs ⟨hL, o1, al_cons (show inR (x % z) from ⟨by have := Int.emod_nonneg x (show z ≠ 0 by omega); omega, by have := Int.emod_lt_of_pos x hq.2; have := oz.2; omega⟩) o2', o3, hP, hD, hS, e1, e2, e3, e4⟩
  refine lv_irem hx hb hd hz ?_
  rw [oI_rem ox oz hq.1 hq.2]
  exact hgo
theorem s_iand (C0 : Cx p R s m args meth c y d D cI cC A mc ms) (hd : decode (mB y) pc = .ok ((.iand, 1))) (hn : n_bin (fun x _ => x % 32) (fun _ y => y = 31) pc ls st h bc bs t) (hk : WA p l e R s m args below meth c y D cI cC A mc ms ad0 n0 Qf (t)) : WA p l e R s m args below meth c y D cI cC A mc ms ad0 n0 Qf (pc, ls, st, h, bc, bs) := by
  obtain ⟨x, z, st', rfl, hq, rfl⟩ := hn
  obtain ⟨hx, hb, hml, hown, hts, hK, hRm, hin, hA, hNK⟩ := C0
  intro ad H locs cells slots rs hR
  obtain ⟨hL, o1, o2, o3, hP, hD, hS, e1, e2, e3, e4⟩ := hR
  dsimp only at hL o1 o2 o3 hP hD hS e1 e2 e3 e4
  have oz : inR z := o2 _ List.mem_cons_self
  have ox : inR x := o2 _ (List.mem_cons_of_mem _ List.mem_cons_self)
  have o2' : ∀ w ∈ st', okV h w := fun w hw => o2 w (List.mem_cons_of_mem _ (List.mem_cons_of_mem _ hw))

  have hgo := hk ad H locs cells slots rs ⟨hL, o1, al_cons (show inR (x % 32) from ⟨by omega, by omega⟩) o2', o3, hP, hD, hS, e1, e2, e3, e4⟩
  subst hq
  refine lv_iand hx hb hd ?_
  rw [oI_and]
  exact hgo
theorem s_iinc (C0 : Cx p R s m args meth c y d D cI cC A mc ms) {a : Nat} {z : Int} (hd : decode (mB y) pc = .ok ((.iinc a z, 3))) (hn : n_iinc a z pc ls st h bc bs t) (hk : WA p l e R s m args below meth c y D cI cC A mc ms ad0 n0 Qf (t)) : WA p l e R s m args below meth c y D cI cC A mc ms ad0 n0 Qf (pc, ls, st, h, bc, bs) := by
  obtain ⟨v, hv, hq, rfl⟩ := hn
  obtain ⟨hx, hb, hml, hown, hts, hK, hRm, hin, hA, hNK⟩ := C0
  intro ad H locs cells slots rs hR
  obtain ⟨hL, o1, o2, o3, hP, hD, hS, e1, e2, e3, e4⟩ := hR
  dsimp only at hL o1 o2 o3 hP hD hS e1 e2 e3 e4
  have hl := (List.getElem?_eq_some_iff.mp hv).1
  have hn : a < mL y := by rw [← hL.2.1]; exact hl
  obtain ⟨k, hk0⟩ := List.getElem?_of_mem (prs_mem (ad := ad) (ls := ls) (q := (a, im ad (.inl v))) |>.mpr ⟨.inl v, hv, by simp, rfl⟩)
  refine lv_iinc hx hb hd hL.has hk0 (v := Int32.ofInt (v + z)) (by rw [Int32.ofInt_add]) hn rfl (fun rs' h' => ?_)
  exact hk ad H locs cells slots rs' ⟨Lc.put hL.2.1 rfl h', al_set (show inR _ from hq) o1, o2, o3, hP, hD, hS, e1, e2, e3, e4⟩
theorem s_i2c (C0 : Cx p R s m args meth c y d D cI cC A mc ms) (hd : decode (mB y) pc = .ok ((.i2c, 1))) (hn : n_i2c pc ls st h bc bs t) (hk : WA p l e R s m args below meth c y D cI cC A mc ms ad0 n0 Qf (t)) : WA p l e R s m args below meth c y D cI cC A mc ms ad0 n0 Qf (pc, ls, st, h, bc, bs) := by
  obtain ⟨x, st', rfl, hq, rfl⟩ := hn
  obtain ⟨hx, hb, hml, hown, hts, hK, hRm, hin, hA, hNK⟩ := C0
  intro ad H locs cells slots rs hR
  obtain ⟨hL, o1, o2, o3, hP, hD, hS, e1, e2, e3, e4⟩ := hR
  dsimp only at hL o1 o2 o3 hP hD hS e1 e2 e3 e4
  have hgo := hk ad H locs cells slots rs ⟨hL, o1, o2, o3, hP, hD, hS, e1, e2, e3, e4⟩
  exact lv_i2c hx hb hd (oI_c hq.1 hq.2) hgo
theorem s_dup (C0 : Cx p R s m args meth c y d D cI cC A mc ms) (hd : decode (mB y) pc = .ok ((.dup, 1))) (hn : n_dup pc ls st h bc bs t) (hk : WA p l e R s m args below meth c y D cI cC A mc ms ad0 n0 Qf (t)) : WA p l e R s m args below meth c y D cI cC A mc ms ad0 n0 Qf (pc, ls, st, h, bc, bs) := by
  obtain ⟨v, st', rfl, rfl⟩ := hn
  obtain ⟨hx, hb, hml, hown, hts, hK, hRm, hin, hA, hNK⟩ := C0
  intro ad H locs cells slots rs hR
  obtain ⟨hL, o1, o2, o3, hP, hD, hS, e1, e2, e3, e4⟩ := hR
  dsimp only at hL o1 o2 o3 hP hD hS e1 e2 e3 e4
  have hgo := hk ad H locs cells slots rs ⟨hL, o1, al_cons (o2 _ List.mem_cons_self) o2, o3, hP, hD, hS, e1, e2, e3, e4⟩
  exact lv_dup hx hb hd (im_cat ad v) hgo
theorem s_dup2 (C0 : Cx p R s m args meth c y d D cI cC A mc ms) (hd : decode (mB y) pc = .ok ((.dup2, 1))) (hn : n_dup2 pc ls st h bc bs t) (hk : WA p l e R s m args below meth c y D cI cC A mc ms ad0 n0 Qf (t)) : WA p l e R s m args below meth c y D cI cC A mc ms ad0 n0 Qf (pc, ls, st, h, bc, bs) := by
  obtain ⟨v, w, st', rfl, rfl⟩ := hn
  obtain ⟨hx, hb, hml, hown, hts, hK, hRm, hin, hA, hNK⟩ := C0
  intro ad H locs cells slots rs hR
  obtain ⟨hL, o1, o2, o3, hP, hD, hS, e1, e2, e3, e4⟩ := hR
  dsimp only at hL o1 o2 o3 hP hD hS e1 e2 e3 e4
  have hgo := hk ad H locs cells slots rs ⟨hL, o1, al_cons (o2 _ List.mem_cons_self) (al_cons (o2 _ (List.mem_cons_of_mem _ List.mem_cons_self)) o2), o3, hP, hD, hS, e1, e2, e3, e4⟩
  exact lv_dup2_11 hx hb hd (im_cat ad v) (im_cat ad w) hgo
theorem s_pop (C0 : Cx p R s m args meth c y d D cI cC A mc ms) (hd : decode (mB y) pc = .ok ((.pop, 1))) (hn : n_pop pc ls st h bc bs t) (hk : WA p l e R s m args below meth c y D cI cC A mc ms ad0 n0 Qf (t)) : WA p l e R s m args below meth c y D cI cC A mc ms ad0 n0 Qf (pc, ls, st, h, bc, bs) := by
  obtain ⟨v, st', rfl, rfl⟩ := hn
  obtain ⟨hx, hb, hml, hown, hts, hK, hRm, hin, hA, hNK⟩ := C0
  intro ad H locs cells slots rs hR
  obtain ⟨hL, o1, o2, o3, hP, hD, hS, e1, e2, e3, e4⟩ := hR
  dsimp only at hL o1 o2 o3 hP hD hS e1 e2 e3 e4
  have hgo := hk ad H locs cells slots rs ⟨hL, o1, fun w hw => o2 w (List.mem_cons_of_mem _ hw), o3, hP, hD, hS, e1, e2, e3, e4⟩
  exact lv_pop hx hb hd (im_cat ad v) hgo
theorem s_goto (C0 : Cx p R s m args meth c y d D cI cC A mc ms) {a : Nat} (hd : decode (mB y) pc = .ok ((.goto ((a : Int) - pc), 3))) (hn : n_goto a ls st h bc bs t) (hk : WA p l e R s m args below meth c y D cI cC A mc ms ad0 n0 Qf (t)) : WA p l e R s m args below meth c y D cI cC A mc ms ad0 n0 Qf (pc, ls, st, h, bc, bs) := by
  have hn : t = _ := hn
  subst hn
  obtain ⟨hx, hb, hml, hown, hts, hK, hRm, hin, hA, hNK⟩ := C0
  intro ad H locs cells slots rs hR
  obtain ⟨hL, o1, o2, o3, hP, hD, hS, e1, e2, e3, e4⟩ := hR
  dsimp only at hL o1 o2 o3 hP hD hS e1 e2 e3 e4
  have hgo := hk ad H locs cells slots rs ⟨hL, o1, o2, o3, hP, hD, hS, e1, e2, e3, e4⟩
  exact lv_goto hx hb hd (by omega) hgo
theorem s_if_eq (C0 : Cx p R s m args meth c y d D cI cC A mc ms) {a : Nat} (hd : decode (mB y) pc = .ok ((.ifCond .eq ((a : Int) - pc), 3))) (hn : n_if (fun x => x = 0) a pc ls st h bc bs t) (hk : WA p l e R s m args below meth c y D cI cC A mc ms ad0 n0 Qf (t)) : WA p l e R s m args below meth c y D cI cC A mc ms ad0 n0 Qf (pc, ls, st, h, bc, bs) := by
  obtain ⟨x, st', rfl, hq⟩ := hn
  obtain ⟨hx, hb, hml, hown, hts, hK, hRm, hin, hA, hNK⟩ := C0
  intro ad H locs cells slots rs hR
  obtain ⟨hL, o1, o2, o3, hP, hD, hS, e1, e2, e3, e4⟩ := hR
  dsimp only at hL o1 o2 o3 hP hD hS e1 e2 e3 e4
  have ox : inR x := o2 _ List.mem_cons_self
  have o2' : ∀ w ∈ st', okV h w := fun w hw => o2 w (List.mem_cons_of_mem _ hw)
  have hi := (oI_eq ox inR_0)
  rcases hq with ⟨hq, rfl⟩ | ⟨hq, rfl⟩
  · have hgo := hk ad H locs cells slots rs ⟨hL, o1, o2', o3, hP, hD, hS, e1, e2, e3, e4⟩
    exact lv_if_eq hx hb hd (tgt := a) (by omega) (fun _ => hgo) (fun z => absurd (hi.mpr hq) z)
  · have hgo := hk ad H locs cells slots rs ⟨hL, o1, o2', o3, hP, hD, hS, e1, e2, e3, e4⟩
    exact lv_if_eq hx hb hd (tgt := a) (by omega) (fun z => absurd (hi.mp z) hq) (fun _ => hgo)
theorem s_if_ne (C0 : Cx p R s m args meth c y d D cI cC A mc ms) {a : Nat} (hd : decode (mB y) pc = .ok ((.ifCond .ne ((a : Int) - pc), 3))) (hn : n_if (fun x => x ≠ 0) a pc ls st h bc bs t) (hk : WA p l e R s m args below meth c y D cI cC A mc ms ad0 n0 Qf (t)) : WA p l e R s m args below meth c y D cI cC A mc ms ad0 n0 Qf (pc, ls, st, h, bc, bs) := by
  obtain ⟨x, st', rfl, hq⟩ := hn
  obtain ⟨hx, hb, hml, hown, hts, hK, hRm, hin, hA, hNK⟩ := C0
  intro ad H locs cells slots rs hR
  obtain ⟨hL, o1, o2, o3, hP, hD, hS, e1, e2, e3, e4⟩ := hR
  dsimp only at hL o1 o2 o3 hP hD hS e1 e2 e3 e4
  have ox : inR x := o2 _ List.mem_cons_self
  have o2' : ∀ w ∈ st', okV h w := fun w hw => o2 w (List.mem_cons_of_mem _ hw)
  have hi := (not_congr (oI_eq ox inR_0))
  rcases hq with ⟨hq, rfl⟩ | ⟨hq, rfl⟩
  · have hgo := hk ad H locs cells slots rs ⟨hL, o1, o2', o3, hP, hD, hS, e1, e2, e3, e4⟩
    exact lv_if_ne hx hb hd (tgt := a) (by omega) (fun _ => hgo) (fun z => absurd z (hi.mpr hq))
  · have hgo := hk ad H locs cells slots rs ⟨hL, o1, o2', o3, hP, hD, hS, e1, e2, e3, e4⟩
    exact lv_if_ne hx hb hd (tgt := a) (by omega) (fun z => absurd (hi.mp z) hq) (fun _ => hgo)
theorem s_if_lt (C0 : Cx p R s m args meth c y d D cI cC A mc ms) {a : Nat} (hd : decode (mB y) pc = .ok ((.ifCond .lt ((a : Int) - pc), 3))) (hn : n_if (fun x => x < 0) a pc ls st h bc bs t) (hk : WA p l e R s m args below meth c y D cI cC A mc ms ad0 n0 Qf (t)) : WA p l e R s m args below meth c y D cI cC A mc ms ad0 n0 Qf (pc, ls, st, h, bc, bs) := by
  obtain ⟨x, st', rfl, hq⟩ := hn
  obtain ⟨hx, hb, hml, hown, hts, hK, hRm, hin, hA, hNK⟩ := C0
  intro ad H locs cells slots rs hR
  obtain ⟨hL, o1, o2, o3, hP, hD, hS, e1, e2, e3, e4⟩ := hR
  dsimp only at hL o1 o2 o3 hP hD hS e1 e2 e3 e4
  have ox : inR x := o2 _ List.mem_cons_self
  have o2' : ∀ w ∈ st', okV h w := fun w hw => o2 w (List.mem_cons_of_mem _ hw)
  have hi := (oI_lt ox inR_0)
  rcases hq with ⟨hq, rfl⟩ | ⟨hq, rfl⟩
  · have hgo := hk ad H locs cells slots rs ⟨hL, o1, o2', o3, hP, hD, hS, e1, e2, e3, e4⟩
    exact lv_if_lt hx hb hd (tgt := a) (by omega) (fun _ => hgo) (fun z => absurd (hi.mpr hq) z)
  · have hgo := hk ad H locs cells slots rs ⟨hL, o1, o2', o3, hP, hD, hS, e1, e2, e3, e4⟩
    exact lv_if_lt hx hb hd (tgt := a) (by omega) (fun z => absurd (hi.mp z) hq) (fun _ => hgo)
theorem s_if_ge (C0 : Cx p R s m args meth c y d D cI cC A mc ms) {a : Nat} (hd : decode (mB y) pc = .ok ((.ifCond .ge ((a : Int) - pc), 3))) (hn : n_if (fun x => 0 ≤ x) a pc ls st h bc bs t) (hk : WA p l e R s m args below meth c y D cI cC A mc ms ad0 n0 Qf (t)) : WA p l e R s m args below meth c y D cI cC A mc ms ad0 n0 Qf (pc, ls, st, h, bc, bs) := by
  obtain ⟨x, st', rfl, hq⟩ := hn
  obtain ⟨hx, hb, hml, hown, hts, hK, hRm, hin, hA, hNK⟩ := C0
  intro ad H locs cells slots rs hR
  obtain ⟨hL, o1, o2, o3, hP, hD, hS, e1, e2, e3, e4⟩ := hR
  dsimp only at hL o1 o2 o3 hP hD hS e1 e2 e3 e4
  have ox : inR x := o2 _ List.mem_cons_self
  have o2' : ∀ w ∈ st', okV h w := fun w hw => o2 w (List.mem_cons_of_mem _ hw)
  have hi := (oI_le inR_0 ox)
  rcases hq with ⟨hq, rfl⟩ | ⟨hq, rfl⟩
  · have hgo := hk ad H locs cells slots rs ⟨hL, o1, o2', o3, hP, hD, hS, e1, e2, e3, e4⟩
    exact lv_if_ge hx hb hd (tgt := a) (by omega) (fun _ => hgo) (fun z => absurd (hi.mpr hq) z)
  · have hgo := hk ad H locs cells slots rs ⟨hL, o1, o2', o3, hP, hD, hS, e1, e2, e3, e4⟩
    exact lv_if_ge hx hb hd (tgt := a) (by omega) (fun z => absurd (hi.mp z) hq) (fun _ => hgo)
theorem s_if_gt (C0 : Cx p R s m args meth c y d D cI cC A mc ms) {a : Nat} (hd : decode (mB y) pc = .ok ((.ifCond .gt ((a : Int) - pc), 3))) (hn : n_if (fun x => 0 < x) a pc ls st h bc bs t) (hk : WA p l e R s m args below meth c y D cI cC A mc ms ad0 n0 Qf (t)) : WA p l e R s m args below meth c y D cI cC A mc ms ad0 n0 Qf (pc, ls, st, h, bc, bs) := by
  obtain ⟨x, st', rfl, hq⟩ := hn
  obtain ⟨hx, hb, hml, hown, hts, hK, hRm, hin, hA, hNK⟩ := C0
  intro ad H locs cells slots rs hR
  obtain ⟨hL, o1, o2, o3, hP, hD, hS, e1, e2, e3, e4⟩ := hR
  dsimp only at hL o1 o2 o3 hP hD hS e1 e2 e3 e4
  have ox : inR x := o2 _ List.mem_cons_self
  have o2' : ∀ w ∈ st', okV h w := fun w hw => o2 w (List.mem_cons_of_mem _ hw)
  have hi := (oI_lt inR_0 ox)
  rcases hq with ⟨hq, rfl⟩ | ⟨hq, rfl⟩
  · have hgo := hk ad H locs cells slots rs ⟨hL, o1, o2', o3, hP, hD, hS, e1, e2, e3, e4⟩
    exact lv_if_gt hx hb hd (tgt := a) (by omega) (fun _ => hgo) (fun z => absurd (hi.mpr hq) z)
  · have hgo := hk ad H locs cells slots rs ⟨hL, o1, o2', o3, hP, hD, hS, e1, e2, e3, e4⟩
    exact lv_if_gt hx hb hd (tgt := a) (by omega) (fun z => absurd (hi.mp z) hq) (fun _ => hgo)
theorem s_if_le (C0 : Cx p R s m args meth c y d D cI cC A mc ms) {a : Nat} (hd : decode (mB y) pc = .ok ((.ifCond .le ((a : Int) - pc), 3))) (hn : n_if (fun x => x ≤ 0) a pc ls st h bc bs t) (hk : WA p l e R s m args below meth c y D cI cC A mc ms ad0 n0 Qf (t)) : WA p l e R s m args below meth c y D cI cC A mc ms ad0 n0 Qf (pc, ls, st, h, bc, bs) := by
  obtain ⟨x, st', rfl, hq⟩ := hn
  obtain ⟨hx, hb, hml, hown, hts, hK, hRm, hin, hA, hNK⟩ := C0
  intro ad H locs cells slots rs hR
  obtain ⟨hL, o1, o2, o3, hP, hD, hS, e1, e2, e3, e4⟩ := hR
  dsimp only at hL o1 o2 o3 hP hD hS e1 e2 e3 e4
  have ox : inR x := o2 _ List.mem_cons_self
  have o2' : ∀ w ∈ st', okV h w := fun w hw => o2 w (List.mem_cons_of_mem _ hw)
  have hi := (oI_le ox inR_0)
  rcases hq with ⟨hq, rfl⟩ | ⟨hq, rfl⟩
  · have hgo := hk ad H locs cells slots rs ⟨hL, o1, o2', o3, hP, hD, hS, e1, e2, e3, e4⟩
    exact lv_if_le hx hb hd (tgt := a) (by omega) (fun _ => hgo) (fun z => absurd (hi.mpr hq) z)
  · have hgo := hk ad H locs cells slots rs ⟨hL, o1, o2', o3, hP, hD, hS, e1, e2, e3, e4⟩
    exact lv_if_le hx hb hd (tgt := a) (by omega) (fun z => absurd (hi.mp z) hq) (fun _ => hgo)
theorem s_icmp_eq (C0 : Cx p R s m args meth c y d D cI cC A mc ms) {a : Nat} (hd : decode (mB y) pc = .ok ((.if_icmp .eq ((a : Int) - pc), 3))) (hn : n_icmp (fun x y => x = y) a pc ls st h bc bs t) (hk : WA p l e R s m args below meth c y D cI cC A mc ms ad0 n0 Qf (t)) : WA p l e R s m args below meth c y D cI cC A mc ms ad0 n0 Qf (pc, ls, st, h, bc, bs) := by
  obtain ⟨x, z, st', rfl, hq⟩ := hn
  obtain ⟨hx, hb, hml, hown, hts, hK, hRm, hin, hA, hNK⟩ := C0
  intro ad H locs cells slots rs hR
  obtain ⟨hL, o1, o2, o3, hP, hD, hS, e1, e2, e3, e4⟩ := hR
  dsimp only at hL o1 o2 o3 hP hD hS e1 e2 e3 e4
  have oz : inR z := o2 _ List.mem_cons_self
  have ox : inR x := o2 _ (List.mem_cons_of_mem _ List.mem_cons_self)
  have o2' : ∀ w ∈ st', okV h w := fun w hw => o2 w (List.mem_cons_of_mem _ (List.mem_cons_of_mem _ hw))
  have hi := (oI_eq ox oz)
  rcases hq with ⟨hq, rfl⟩ | ⟨hq, rfl⟩
  · have hgo := hk ad H locs cells slots rs ⟨hL, o1, o2', o3, hP, hD, hS, e1, e2, e3, e4⟩
    exact lv_icmp_eq hx hb hd (tgt := a) (by omega) (fun _ => hgo) (fun z => absurd (hi.mpr hq) z)
  · have hgo := hk ad H locs cells slots rs ⟨hL, o1, o2', o3, hP, hD, hS, e1, e2, e3, e4⟩
    exact lv_icmp_eq hx hb hd (tgt := a) (by omega) (fun z => absurd (hi.mp z) hq) (fun _ => hgo)
theorem s_icmp_ne (C0 : Cx p R s m args meth c y d D cI cC A mc ms) {a : Nat} (hd : decode (mB y) pc = .ok ((.if_icmp .ne ((a : Int) - pc), 3))) (hn : n_icmp (fun x y => x ≠ y) a pc ls st h bc bs t) (hk : WA p l e R s m args below meth c y D cI cC A mc ms ad0 n0 Qf (t)) : WA p l e R s m args below meth c y D cI cC A mc ms ad0 n0 Qf (pc, ls, st, h, bc, bs) := by
  obtain ⟨x, z, st', rfl, hq⟩ := hn
  obtain ⟨hx, hb, hml, hown, hts, hK, hRm, hin, hA, hNK⟩ := C0
  intro ad H locs cells slots rs hR
  obtain ⟨hL, o1, o2, o3, hP, hD, hS, e1, e2, e3, e4⟩ := hR
  dsimp only at hL o1 o2 o3 hP hD hS e1 e2 e3 e4
  have oz : inR z := o2 _ List.mem_cons_self
  have ox : inR x := o2 _ (List.mem_cons_of_mem _ List.mem_cons_self)
  have o2' : ∀ w ∈ st', okV h w := fun w hw => o2 w (List.mem_cons_of_mem _ (List.mem_cons_of_mem _ hw))
  have hi := (not_congr (oI_eq ox oz))
  rcases hq with ⟨hq, rfl⟩ | ⟨hq, rfl⟩
  · have hgo := hk ad H locs cells slots rs ⟨hL, o1, o2', o3, hP, hD, hS, e1, e2, e3, e4⟩
    exact lv_icmp_ne hx hb hd (tgt := a) (by omega) (fun _ => hgo) (fun z => absurd z (hi.mpr hq))
  · have hgo := hk ad H locs cells slots rs ⟨hL, o1, o2', o3, hP, hD, hS, e1, e2, e3, e4⟩
    exact lv_icmp_ne hx hb hd (tgt := a) (by omega) (fun z => absurd (hi.mp z) hq) (fun _ => hgo)
theorem s_icmp_lt (C0 : Cx p R s m args meth c y d D cI cC A mc ms) {a : Nat} (hd : decode (mB y) pc = .ok ((.if_icmp .lt ((a : Int) - pc), 3))) (hn : n_icmp (fun x y => x < y) a pc ls st h bc bs t) (hk : WA p l e R s m args below meth c y D cI cC A mc ms ad0 n0 Qf (t)) : WA p l e R s m args below meth c y D cI cC A mc ms ad0 n0 Qf (pc, ls, st, h, bc, bs) := by
  obtain ⟨x, z, st', rfl, hq⟩ := hn
  obtain ⟨hx, hb, hml, hown, hts, hK, hRm, hin, hA, hNK⟩ := C0
  intro ad H locs cells slots rs hR
  obtain ⟨hL, o1, o2, o3, hP, hD, hS, e1, e2, e3, e4⟩ := hR
  dsimp only at hL o1 o2 o3 hP hD hS e1 e2 e3 e4
  have oz : inR z := o2 _ List.mem_cons_self
  have ox : inR x := o2 _ (List.mem_cons_of_mem _ List.mem_cons_self)
  have o2' : ∀ w ∈ st', okV h w := fun w hw => o2 w (List.mem_cons_of_mem _ (List.mem_cons_of_mem _ hw))
  have hi := (oI_lt ox oz)
  rcases hq with ⟨hq, rfl⟩ | ⟨hq, rfl⟩
  · have hgo := hk ad H locs cells slots rs ⟨hL, o1, o2', o3, hP, hD, hS, e1, e2, e3, e4⟩
    exact lv_icmp_lt hx hb hd (tgt := a) (by omega) (fun _ => hgo) (fun z => absurd (hi.mpr hq) z)
  · have hgo := hk ad H locs cells slots rs ⟨hL, o1, o2', o3, hP, hD, hS, e1, e2, e3, e4⟩
    exact lv_icmp_lt hx hb hd (tgt := a) (by omega) (fun z => absurd (hi.mp z) hq) (fun _ => hgo)
theorem s_icmp_ge (C0 : Cx p R s m args meth c y d D cI cC A mc ms) {a : Nat} (hd : decode (mB y) pc = .ok ((.if_icmp .ge ((a : Int) - pc), 3))) (hn : n_icmp (fun x y => y ≤ x) a pc ls st h bc bs t) (hk : WA p l e R s m args below meth c y D cI cC A mc ms ad0 n0 Qf (t)) : WA p l e R s m args below meth c y D cI cC A mc ms ad0 n0 Qf (pc, ls, st, h, bc, bs) := by
  obtain ⟨x, z, st', rfl, hq⟩ := hn
  obtain ⟨hx, hb, hml, hown, hts, hK, hRm, hin, hA, hNK⟩ := C0
  intro ad H locs cells slots rs hR
  obtain ⟨hL, o1, o2, o3, hP, hD, hS, e1, e2, e3, e4⟩ := hR
  dsimp only at hL o1 o2 o3 hP hD hS e1 e2 e3 e4
  have oz : inR z := o2 _ List.mem_cons_self
  have ox : inR x := o2 _ (List.mem_cons_of_mem _ List.mem_cons_self)
  have o2' : ∀ w ∈ st', okV h w := fun w hw => o2 w (List.mem_cons_of_mem _ (List.mem_cons_of_mem _ hw))
  have hi := (oI_le oz ox)
  rcases hq with ⟨hq, rfl⟩ | ⟨hq, rfl⟩
  · have hgo := hk ad H locs cells slots rs ⟨hL, o1, o2', o3, hP, hD, hS, e1, e2, e3, e4⟩
    exact lv_icmp_ge hx hb hd (tgt := a) (by omega) (fun _ => hgo) (fun z => absurd (hi.mpr hq) z)
  · have hgo := hk ad H locs cells slots rs ⟨hL, o1, o2', o3, hP, hD, hS, e1, e2, e3, e4⟩
    exact lv_icmp_ge hx hb hd (tgt := a) (by omega) (fun z => absurd (hi.mp z) hq) (fun _ => hgo)
theorem s_icmp_gt (C0 : Cx p R s m args meth c y d D cI cC A mc ms) {a : Nat} (hd : decode (mB y) pc = .ok ((.if_icmp .gt ((a : Int) - pc), 3))) (hn : n_icmp (fun x y => y < x) a pc ls st h bc bs t) (hk : WA p l e R s m args below meth c y D cI cC A mc ms ad0 n0 Qf (t)) : WA p l e R s m args below meth c y D cI cC A mc ms ad0 n0 Qf (pc, ls, st, h, bc, bs) := by
  obtain ⟨x, z, st', rfl, hq⟩ := hn
  obtain ⟨hx, hb, hml, hown, hts, hK, hRm, hin, hA, hNK⟩ := C0
  intro ad H locs cells slots rs hR
  obtain ⟨hL, o1, o2, o3, hP, hD, hS, e1, e2, e3, e4⟩ := hR
  dsimp only at hL o1 o2 o3 hP hD hS e1 e2 e3 e4
  have oz : inR z := o2 _ List.mem_cons_self
  have ox : inR x := o2 _ (List.mem_cons_of_mem _ List.mem_cons_self)
  have o2' : ∀ w ∈ st', okV h w := fun w hw => o2 w (List.mem_cons_of_mem _ (List.mem_cons_of_mem _ hw))
  have hi := (oI_lt oz ox)
  rcases hq with ⟨hq, rfl⟩ | ⟨hq, rfl⟩
  · have hgo := hk ad H locs cells slots rs ⟨hL, o1, o2', o3, hP, hD, hS, e1, e2, e3, e4⟩
    exact lv_icmp_gt hx hb hd (tgt := a) (by omega) (fun _ => hgo) (fun z => absurd (hi.mpr hq) z)
  · have hgo := hk ad H locs cells slots rs ⟨hL, o1, o2', o3, hP, hD, hS, e1, e2, e3, e4⟩
    exact lv_icmp_gt hx hb hd (tgt := a) (by omega) (fun z => absurd (hi.mp z) hq) (fun _ => hgo)
theorem s_icmp_le (C0 : Cx p R s m args meth c y d D cI cC A mc ms) {a : Nat} (hd : decode (mB y) pc = .ok ((.if_icmp .le ((a : Int) - pc), 3))) (hn : n_icmp (fun x y => x ≤ y) a pc ls st h bc bs t) (hk : WA p l e R s m args below meth c y D cI cC A mc ms ad0 n0 Qf (t)) : WA p l e R s m args below meth c y D cI cC A mc ms ad0 n0 Qf (pc, ls, st, h, bc, bs) := by
  obtain ⟨x, z, st', rfl, hq⟩ := hn
  obtain ⟨hx, hb, hml, hown, hts, hK, hRm, hin, hA, hNK⟩ := C0
  intro ad H locs cells slots rs hR
  obtain ⟨hL, o1, o2, o3, hP, hD, hS, e1, e2, e3, e4⟩ := hR
  dsimp only at hL o1 o2 o3 hP hD hS e1 e2 e3 e4
  have oz : inR z := o2 _ List.mem_cons_self
  have ox : inR x := o2 _ (List.mem_cons_of_mem _ List.mem_cons_self)
  have o2' : ∀ w ∈ st', okV h w := fun w hw => o2 w (List.mem_cons_of_mem _ (List.mem_cons_of_mem _ hw))
  have hi := (oI_le ox oz)
  rcases hq with ⟨hq, rfl⟩ | ⟨hq, rfl⟩
  · have hgo := hk ad H locs cells slots rs ⟨hL, o1, o2', o3, hP, hD, hS, e1, e2, e3, e4⟩
    exact lv_icmp_le hx hb hd (tgt := a) (by omega) (fun _ => hgo) (fun z => absurd (hi.mpr hq) z)
  · have hgo := hk ad H locs cells slots rs ⟨hL, o1, o2', o3, hP, hD, hS, e1, e2, e3, e4⟩
    exact lv_icmp_le hx hb hd (tgt := a) (by omega) (fun z => absurd (hi.mp z) hq) (fun _ => hgo)
theorem fs_get {n k ci a : Nat} {ad : Nat → Nat} (hk : k < n) : ((List.range n).map (fv ad h a ci))[k]? = some (fv ad h a ci k) := by
  rw [List.getElem?_map, List.getElem?_range hk]
  rfl
theorem s_getI (C0 : Cx p R s m args meth c y d D cI cC A mc ms) {a ci k : Nat} (hf : ((mO y, a), (ci, k)) ∈ FL) (hci : ci < 10) (hk0 : k < nF ci) (hfk : fK ci k ≤ 1) (hd : decode (mB y) pc = .ok ((.getfield a, 3))) (hn : n_getI ci k pc ls st h bc bs t) (hk : WA p l e R s m args below meth c y D cI cC A mc ms ad0 n0 Qf (t)) : WA p l e R s m args below meth c y D cI cC A mc ms ad0 n0 Qf (pc, ls, st, h, bc, bs) := by
  obtain ⟨o, n, st', rfl, hsh, rfl⟩ := hn
  obtain ⟨hx, hb, hml, hown, hts, hK, hRm, hin, hA, hNK⟩ := C0
  intro ad H locs cells slots rs hR
  obtain ⟨hL, o1, o2, o3, hP, hD, hS, e1, e2, e3, e4⟩ := hR
  dsimp only at hL o1 o2 o3 hP hD hS e1 e2 e3 e4
  obtain ⟨g1, g2, g3, g4, g5, g6⟩ := okc ci hci
  have hnf : n = nF ci := (o3.2.2.1 o _ hsh (by show 2 ≤ ci + 2; omega)).2
  subst hnf
  have hw := wo_get (cI := cI) (cC := cC) (ad := ad) hsh
  rw [ce_o] at hw
  have hgo := hk ad H locs cells slots rs ⟨hL, o1, al_cons (show inR _ from o3.1 o k) (fun w hw => o2 w (List.mem_cons_of_mem _ hw)), o3, hP, hD, hS, e1, e2, e3, e4⟩
  refine va_get (D := D) (ci := ci) (C := cN ci) (T := cT ci) (N := nF ci) hx hb hts g2 hown hK hP o hw g1 k hk0 (hts _ (FL_ok _ hf)) (fun _ h9 => h9) (v := .int (Int32.ofInt (h.2.2 o k))) ?_ hd hgo
  rw [fs_get hk0]
  unfold fv
  rw [if_neg (by omega)]
theorem s_getR (C0 : Cx p R s m args meth c y d D cI cC A mc ms) {a ci k : Nat} (hf : ((mO y, a), (ci, k)) ∈ FL) (hci : ci < 10) (hk0 : k < nF ci) (hfk : 2 ≤ fK ci k) (hd : decode (mB y) pc = .ok ((.getfield a, 3))) (hn : n_getR ci k pc ls st h bc bs t) (hk : WA p l e R s m args below meth c y D cI cC A mc ms ad0 n0 Qf (t)) : WA p l e R s m args below meth c y D cI cC A mc ms ad0 n0 Qf (pc, ls, st, h, bc, bs) := by
  obtain ⟨o, n, st', rfl, hsh, rfl⟩ := hn
  obtain ⟨hx, hb, hml, hown, hts, hK, hRm, hin, hA, hNK⟩ := C0
  intro ad H locs cells slots rs hR
  obtain ⟨hL, o1, o2, o3, hP, hD, hS, e1, e2, e3, e4⟩ := hR
  dsimp only at hL o1 o2 o3 hP hD hS e1 e2 e3 e4
  obtain ⟨g1, g2, g3, g4, g5, g6⟩ := okc ci hci
  have hnf : n = nF ci := (o3.2.2.1 o _ hsh (by show 2 ≤ ci + 2; omega)).2
  subst hnf
  have hw := wo_get (cI := cI) (cC := cC) (ad := ad) hsh
  rw [ce_o] at hw
  have hov : okV h (.inr (h.2.1 o k)) := by
    cases hr : h.2.1 o k with
    | none => exact trivial
    | some z => exact Or.inl (o3.2.1 o k z hr)
  have hgo := hk ad H locs cells slots rs ⟨hL, o1, al_cons hov (fun w hw => o2 w (List.mem_cons_of_mem _ hw)), o3, hP, hD, hS, e1, e2, e3, e4⟩
  refine va_get (D := D) (ci := ci) (C := cN ci) (T := cT ci) (N := nF ci) hx hb hts g2 hown hK hP o hw g1 k hk0 (hts _ (FL_ok _ hf)) (fun _ h9 => h9) (v := im ad (.inr (h.2.1 o k))) ?_ hd hgo
  rw [fs_get hk0]
  unfold fv
  rw [if_pos hfk]
theorem fs_setI {n k ci a : Nat} {ad : Nat → Nat} {v : Int} (hfk : fK ci k ≤ 1) : ((List.range n).map (fv ad h a ci)).set k (.int (Int32.ofInt v)) = (List.range n).map (fv ad (h.1, h.2.1, upA h.2.2 a (upF (h.2.2 a) k v)) a ci) := by
  apply List.ext_getElem?
  intro i
  by_cases hi : i = k
  · subst hi
    by_cases hn : i < n
    · rw [List.getElem?_set_self (by simp; exact hn), List.getElem?_map, List.getElem?_range hn]
      simp [fv, show ¬ 2 ≤ fK ci i by omega, upA, upF]
    · rw [List.getElem?_eq_none (by simp; omega), List.getElem?_eq_none (by simp; omega)]
  · rw [List.getElem?_set_ne (Ne.symm hi), List.getElem?_map, List.getElem?_map]
    by_cases hn : i < n
    · rw [List.getElem?_range hn]
      have : ¬ (i : Int) = (k : Int) := by omega
      simp [fv, upA, upF, this]
    · rw [List.getElem?_eq_none (by simp; omega)]
      rfl
theorem ce_upA {a q b} {ad : Nat → Nat} {f : Int → Int} {cI cC : ClassId} (hb : b ≠ a) : ce cI cC ad (h.1, h.2.1, upA h.2.2 a f) b q = ce cI cC ad h b q := by
  have e : upA h.2.2 a f b = h.2.2 b := by simp [upA, hb]
  unfold ce fv
  simp only [e]
theorem okH_upA {a : Nat} {f : Int → Int} (o : okH h) (hf : ∀ i, inR (f i)) : okH (h.1, h.2.1, upA h.2.2 a f) := by
  refine ⟨fun b i => ?_, o.2.1, o.2.2.1, o.2.2.2⟩
  show inR (upA h.2.2 a f b i)
  unfold upA
  by_cases e : b = a
  · rw [if_pos e]; exact hf i
  · rw [if_neg e]; exact o.1 b i
theorem inR_upF {f : Int → Int} {k v : Int} (hf : ∀ i, inR (f i)) (hv : inR v) : ∀ i, inR (upF f k v i) := by
  intro i
  unfold upF
  by_cases e : i = k
  · rw [if_pos e]; exact hv
  · rw [if_neg e]; exact hf i
theorem s_putI (C0 : Cx p R s m args meth c y d D cI cC A mc ms) {a ci k : Nat} (hf : ((mO y, a), (ci, k)) ∈ FL) (hci : ci < 10) (hk0 : k < nF ci) (hfk : fK ci k = 0) (hd : decode (mB y) pc = .ok ((.putfield a, 3))) (hn : n_putI (fun _ => True) ci k pc ls st h bc bs t) (hk : WA p l e R s m args below meth c y D cI cC A mc ms ad0 n0 Qf (t)) : WA p l e R s m args below meth c y D cI cC A mc ms ad0 n0 Qf (pc, ls, st, h, bc, bs) := by
  obtain ⟨o, n, v, st', rfl, hsh, hv, rfl⟩ := hn
  obtain ⟨hx, hb, hml, hown, hts, hK, hRm, hin, hA, hNK⟩ := C0
  intro ad H locs cells slots rs hR
  obtain ⟨hL, o1, o2, o3, hP, hD, hS, e1, e2, e3, e4⟩ := hR
  dsimp only at hL o1 o2 o3 hP hD hS e1 e2 e3 e4
  obtain ⟨g1, g2, g3, g4, g5, g6⟩ := okc ci hci
  have hnf : n = nF ci := (o3.2.2.1 o _ hsh (by show 2 ≤ ci + 2; omega)).2
  subst hnf
  have hw := wo_get (cI := cI) (cC := cC) (ad := ad) hsh
  rw [ce_o] at hw
  have ov : inR v := o2 _ List.mem_cons_self
  have o2' : ∀ w ∈ st', okV h w := fun w hw => o2 w (List.mem_cons_of_mem _ (List.mem_cons_of_mem _ hw))
  obtain ⟨gt, gf⟩ := (g6 k hk0).1 hfk
  refine va_put (D := D) (ci := ci) (v := .int (Int32.ofInt v)) (ty := cY ci k) (C := cN ci) (T := cT ci) (N := nF ci) hx hb hts g2 (cY ci) g4 g3 hown hK hP hD hS o hw g1 k hk0 (hts _ (FL_ok _ hf)) (fun _ h9 => h9) gf (g4 k hk0) ?_ ?_ (by simp; exact hk0) hd (fun H1 locs1 hP1 hD1 hS1 => ?_)
  · rw [gt]; rfl
  · rw [gt]; rfl
  · have he : (wo cI cC ad h).set o (ad o, .inr (ci, ((List.range (nF ci)).map (fv ad h o ci)).set k (.int (Int32.ofInt v)))) = wo cI cC ad (h.1, h.2.1, upA h.2.2 o (upF (h.2.2 o) k v)) := by
      rw [fs_setI (by omega), ← ce_o (cI := cI) (cC := cC)]
      exact wo_set rfl hsh (fun b q hbq => ce_upA hbq)
    rw [he] at hP1 hD1
    exact hk ad H1 locs1 cells slots rs ⟨hL, o1, o2', okH_upA o3 (inR_upF (o3.1 o) ov), hP1, hD1, hS1, e1, e2, e3, e4⟩
theorem s_putZ (C0 : Cx p R s m args meth c y d D cI cC A mc ms) {a ci k : Nat} (hf : ((mO y, a), (ci, k)) ∈ FL) (hci : ci < 10) (hk0 : k < nF ci) (hfk : fK ci k = 1) (hd : decode (mB y) pc = .ok ((.putfield a, 3))) (hn : n_putI (fun v => v = 0 ∨ v = 1) ci k pc ls st h bc bs t) (hk : WA p l e R s m args below meth c y D cI cC A mc ms ad0 n0 Qf (t)) : WA p l e R s m args below meth c y D cI cC A mc ms ad0 n0 Qf (pc, ls, st, h, bc, bs) := by
  obtain ⟨o, n, v, st', rfl, hsh, hv, rfl⟩ := hn
  obtain ⟨hx, hb, hml, hown, hts, hK, hRm, hin, hA, hNK⟩ := C0
  intro ad H locs cells slots rs hR
  obtain ⟨hL, o1, o2, o3, hP, hD, hS, e1, e2, e3, e4⟩ := hR
  dsimp only at hL o1 o2 o3 hP hD hS e1 e2 e3 e4
  obtain ⟨g1, g2, g3, g4, g5, g6⟩ := okc ci hci
  have hnf : n = nF ci := (o3.2.2.1 o _ hsh (by show 2 ≤ ci + 2; omega)).2
  subst hnf
  have hw := wo_get (cI := cI) (cC := cC) (ad := ad) hsh
  rw [ce_o] at hw
  have ov : inR v := o2 _ List.mem_cons_self
  have o2' : ∀ w ∈ st', okV h w := fun w hw => o2 w (List.mem_cons_of_mem _ (List.mem_cons_of_mem _ hw))
  obtain ⟨gt, gf⟩ := (g6 k hk0).2.1 hfk
  refine va_put (D := D) (ci := ci) (v := .int (Int32.ofInt v)) (ty := cY ci k) (C := cN ci) (T := cT ci) (N := nF ci) hx hb hts g2 (cY ci) g4 g3 hown hK hP hD hS o hw g1 k hk0 (hts _ (FL_ok _ hf)) (fun _ h9 => h9) gf (g4 k hk0) ?_ ?_ (by simp; exact hk0) hd (fun H1 locs1 hP1 hD1 hS1 => ?_)
  · rw [gt]; rcases hv with rfl | rfl <;> rfl
  · rw [gt]; rcases hv with rfl | rfl <;> rfl
  · have he : (wo cI cC ad h).set o (ad o, .inr (ci, ((List.range (nF ci)).map (fv ad h o ci)).set k (.int (Int32.ofInt v)))) = wo cI cC ad (h.1, h.2.1, upA h.2.2 o (upF (h.2.2 o) k v)) := by
      rw [fs_setI (by omega), ← ce_o (cI := cI) (cC := cC)]
      exact wo_set rfl hsh (fun b q hbq => ce_upA hbq)
    rw [he] at hP1 hD1
    exact hk ad H1 locs1 cells slots rs ⟨hL, o1, o2', okH_upA o3 (inR_upF (o3.1 o) ov), hP1, hD1, hS1, e1, e2, e3, e4⟩
theorem fs_setR {n k ci a w : Nat} {ad : Nat → Nat} (hfk : 2 ≤ fK ci k) : ((List.range n).map (fv ad h a ci)).set k (.ref (ad w)) = (List.range n).map (fv ad (h.1, upR h.2.1 a (upK (h.2.1 a) k (some w)), h.2.2) a ci) := by
  apply List.ext_getElem?
  intro i
  by_cases hi : i = k
  · subst hi
    by_cases hn : i < n
    · rw [List.getElem?_set_self (by simp; exact hn), List.getElem?_map, List.getElem?_range hn]
      simp [fv, hfk, upR, upK, im]
    · rw [List.getElem?_eq_none (by simp; omega), List.getElem?_eq_none (by simp; omega)]
  · rw [List.getElem?_set_ne (Ne.symm hi), List.getElem?_map, List.getElem?_map]
    by_cases hn : i < n
    · rw [List.getElem?_range hn]
      simp [fv, upR, upK, hi]
    · rw [List.getElem?_eq_none (by simp; omega)]
      rfl
theorem ce_upR {a q b} {ad : Nat → Nat} {f : Nat → Option Nat} {cI cC : ClassId} (hb : b ≠ a) : ce cI cC ad (h.1, upR h.2.1 a f, h.2.2) b q = ce cI cC ad h b q := by
  have e : upR h.2.1 a f b = h.2.1 b := by simp [upR, hb]
  unfold ce fv
  simp only [e]
theorem okH_upR {a k w : Nat} (o : okH h) (hw : w < h.1.length) : okH (h.1, upR h.2.1 a (upK (h.2.1 a) k (some w)), h.2.2) := by
  refine ⟨o.1, fun b f z hz => ?_, o.2.2.1, o.2.2.2⟩
  show z < h.1.length
  have hz : upR h.2.1 a (upK (h.2.1 a) k (some w)) b f = some z := hz
  unfold upR upK at hz
  by_cases e : b = a
  · rw [if_pos e] at hz
    by_cases e2 : f = k
    · rw [if_pos e2] at hz
      cases hz
      exact hw
    · rw [if_neg e2] at hz
      exact o.2.1 a f z hz
  · rw [if_neg e] at hz
    exact o.2.1 b f z hz
theorem ref_nf {t : FieldType} (ht : t.isReference = true) (a : Nat) : narrow t (.ref a) = .ref a ∧ fits t (.ref a) = true := by
  cases t <;> first | exact ⟨rfl, rfl⟩ | exact absurd ht (by decide)
theorem s_putR (C0 : Cx p R s m args meth c y d D cI cC A mc ms) {a ci k : Nat} (hf : ((mO y, a), (ci, k)) ∈ FL) (hci : ci < 10) (hk0 : k < nF ci) (hfk : fK ci k = 2) (hd : decode (mB y) pc = .ok ((.putfield a, 3))) (hn : n_putR ci k pc ls st h bc bs t) (hk : WA p l e R s m args below meth c y D cI cC A mc ms ad0 n0 Qf (t)) : WA p l e R s m args below meth c y D cI cC A mc ms ad0 n0 Qf (pc, ls, st, h, bc, bs) := by
  obtain ⟨o, n, v, st', rfl, hsh, hv, rfl⟩ := hn
  obtain ⟨hx, hb, hml, hown, hts, hK, hRm, hin, hA, hNK⟩ := C0
  intro ad H locs cells slots rs hR
  obtain ⟨hL, o1, o2, o3, hP, hD, hS, e1, e2, e3, e4⟩ := hR
  dsimp only at hL o1 o2 o3 hP hD hS e1 e2 e3 e4
  obtain ⟨g1, g2, g3, g4, g5, g6⟩ := okc ci hci
  have hnf : n = nF ci := (o3.2.2.1 o _ hsh (by show 2 ≤ ci + 2; omega)).2
  subst hnf
  have hw := wo_get (cI := cI) (cC := cC) (ad := ad) hsh
  rw [ce_o] at hw
  have o2' : ∀ w ∈ st', okV h w := fun w hw => o2 w (List.mem_cons_of_mem _ (List.mem_cons_of_mem _ hw))
  have gf := (g6 k hk0).2.2.1 hfk
  have gr := (g6 k hk0).2.2.2.2.1 (by omega)
  refine va_put (D := D) (ci := ci) (v := .ref (ad v)) (ty := cY ci k) (C := cN ci) (T := cT ci) (N := nF ci) hx hb hts g2 (cY ci) g4 g3 hown hK hP hD hS o hw g1 k hk0 (hts _ (FL_ok _ hf)) (fun _ h9 => h9) gf (g4 k hk0) (ref_nf gr _).1 (ref_nf gr _).2 (by simp; exact hk0) hd (fun H1 locs1 hP1 hD1 hS1 => ?_)
  have he : (wo cI cC ad h).set o (ad o, .inr (ci, ((List.range (nF ci)).map (fv ad h o ci)).set k (.ref (ad v)))) = wo cI cC ad (h.1, upR h.2.1 o (upK (h.2.1 o) k (some v)), h.2.2) := by
    rw [fs_setR (by omega), ← ce_o (cI := cI) (cC := cC)]
    exact wo_set rfl hsh (fun b q hbq => ce_upR hbq)
  rw [he] at hP1 hD1
  exact hk ad H1 locs1 cells slots rs ⟨hL, o1, o2', okH_upR o3 hv, hP1, hD1, hS1, e1, e2, e3, e4⟩
theorem s_putRF (C0 : Cx p R s m args meth c y d D cI cC A mc ms) {a ci k : Nat} (hf : ((mO y, a), (ci, k)) ∈ FL) (hci : ci < 10) (hk0 : k < nF ci) (hfk : fK ci k = 3) (hmo : mO y = ci) (hmk : mK y = 2) (hy : y < 188) (hd : decode (mB y) pc = .ok ((.putfield a, 3))) (hn : n_putR ci k pc ls st h bc bs t) (hk : WA p l e R s m args below meth c y D cI cC A mc ms ad0 n0 Qf (t)) : WA p l e R s m args below meth c y D cI cC A mc ms ad0 n0 Qf (pc, ls, st, h, bc, bs) := by
  obtain ⟨o, n, v, st', rfl, hsh, hv, rfl⟩ := hn
  obtain ⟨hx, hb, hml, hown, hts, hK, hRm, hin, hA, hNK⟩ := C0
  intro ad H locs cells slots rs hR
  obtain ⟨hL, o1, o2, o3, hP, hD, hS, e1, e2, e3, e4⟩ := hR
  dsimp only at hL o1 o2 o3 hP hD hS e1 e2 e3 e4
  obtain ⟨g1, g2, g3, g4, g5, g6⟩ := okc ci hci
  have hnf : n = nF ci := (o3.2.2.1 o _ hsh (by show 2 ≤ ci + 2; omega)).2
  subst hnf
  have hw := wo_get (cI := cI) (cC := cC) (ad := ad) hsh
  rw [ce_o] at hw
  have o2' : ∀ w ∈ st', okV h w := fun w hw => o2 w (List.mem_cons_of_mem _ (List.mem_cons_of_mem _ hw))
  obtain ⟨gf, gd⟩ := (g6 k hk0).2.2.2.1 hfk
  have gr := (g6 k hk0).2.2.2.2.1 (by omega)
  refine va_putF (D := D) (ci := ci) (v := .ref (ad v)) (ty := cY ci k) (C := cN ci) (T := cT ci) (N := nF ci) hx hb hts g2 (cY ci) g4 g3 hown hK hP hD hS o hw g1 k hk0 (hts _ (FL_ok _ hf)) (fun _ h9 => h9) gf (by rw [hin hy]; exact (okm y (by omega) (by omega)).2.2.2.2 hmk) (by rw [hmo]; exact gd) (g4 k hk0) (ref_nf gr _).1 (ref_nf gr _).2 (by simp; exact hk0) hd (fun H1 locs1 hP1 hD1 hS1 => ?_)
  have he : (wo cI cC ad h).set o (ad o, .inr (ci, ((List.range (nF ci)).map (fv ad h o ci)).set k (.ref (ad v)))) = wo cI cC ad (h.1, upR h.2.1 o (upK (h.2.1 o) k (some v)), h.2.2) := by
    rw [fs_setR (by omega), ← ce_o (cI := cI) (cC := cC)]
    exact wo_set rfl hsh (fun b q hbq => ce_upR hbq)
  rw [he] at hP1 hD1
  exact hk ad H1 locs1 cells slots rs ⟨hL, o1, o2', okH_upR o3 hv, hP1, hD1, hS1, e1, e2, e3, e4⟩
theorem in_vp {i : Int} {n : Nat} (hi : inR i) (h0 : 0 ≤ i) (h1 : i < n) : vp_in (Int32.ofInt i) n := by
  rw [vp_in_iff, oI_t hi]
  exact ⟨h0, h1⟩
theorem cl_toN {i : Int} (hi : inR i) (h0 : 0 ≤ i) : ((Int32.ofInt i).toNatClampNeg : Int) = i := by
  rw [oI_n hi]
  omega
theorem upd_ofInt {f : Int → Int} {i v : Int} (hi : inR i) (h0 : 0 ≤ i) : upd (fun j : Nat => Int32.ofInt (f j)) (Int32.ofInt i).toNatClampNeg (Int32.ofInt v) = fun j : Nat => Int32.ofInt (upF f i v j) := by
  funext j
  unfold upd upF
  have e := cl_toN hi h0
  by_cases q : j = (Int32.ofInt i).toNatClampNeg
  · rw [if_pos q, if_pos (by omega)]
  · rw [if_neg q, if_neg (by omega)]
theorem s_iald (C0 : Cx p R s m args meth c y d D cI cC A mc ms) (hd : decode (mB y) pc = .ok ((.iaload, 1))) (hn : n_ald 0 pc ls st h bc bs t) (hk : WA p l e R s m args below meth c y D cI cC A mc ms ad0 n0 Qf (t)) : WA p l e R s m args below meth c y D cI cC A mc ms ad0 n0 Qf (pc, ls, st, h, bc, bs) := by
  obtain ⟨i, o, n, st', rfl, hsh, hi, rfl⟩ := hn
  obtain ⟨hx, hb, hml, hown, hts, hK, hRm, hin, hA, hNK⟩ := C0
  intro ad H locs cells slots rs hR
  obtain ⟨hL, o1, o2, o3, hP, hD, hS, e1, e2, e3, e4⟩ := hR
  dsimp only at hL o1 o2 o3 hP hD hS e1 e2 e3 e4
  have oi : inR i := o2 _ List.mem_cons_self
  have o2' : ∀ w ∈ st', okV h w := fun w hw => o2 w (List.mem_cons_of_mem _ (List.mem_cons_of_mem _ hw))
  have hw := wo_get (cI := cI) (cC := cC) (ad := ad) hsh
  rw [ce_0] at hw
  have hgo := hk ad H locs cells slots rs ⟨hL, o1, al_cons (show inR _ from o3.1 o i) o2', o3, hP, hD, hS, e1, e2, e3, e4⟩
  refine va_iald hx hb hK hP o 0 hw rfl (in_vp oi hi.1 hi.2) hd ?_
  rw [cl_toN oi hi.1]
  exact hgo
theorem s_cald (C0 : Cx p R s m args meth c y d D cI cC A mc ms) (hd : decode (mB y) pc = .ok ((.caload, 1))) (hn : n_ald 1 pc ls st h bc bs t) (hk : WA p l e R s m args below meth c y D cI cC A mc ms ad0 n0 Qf (t)) : WA p l e R s m args below meth c y D cI cC A mc ms ad0 n0 Qf (pc, ls, st, h, bc, bs) := by
  obtain ⟨i, o, n, st', rfl, hsh, hi, rfl⟩ := hn
  obtain ⟨hx, hb, hml, hown, hts, hK, hRm, hin, hA, hNK⟩ := C0
  intro ad H locs cells slots rs hR
  obtain ⟨hL, o1, o2, o3, hP, hD, hS, e1, e2, e3, e4⟩ := hR
  dsimp only at hL o1 o2 o3 hP hD hS e1 e2 e3 e4
  have oi : inR i := o2 _ List.mem_cons_self
  have o2' : ∀ w ∈ st', okV h w := fun w hw => o2 w (List.mem_cons_of_mem _ (List.mem_cons_of_mem _ hw))
  have hw := wo_get (cI := cI) (cC := cC) (ad := ad) hsh
  rw [ce_1] at hw
  have hgo := hk ad H locs cells slots rs ⟨hL, o1, al_cons (show inR _ from o3.1 o i) o2', o3, hP, hD, hS, e1, e2, e3, e4⟩
  refine va_cald hx hb hK hP o 1 hw rfl (in_vp oi hi.1 hi.2) hd ?_
  rw [cl_toN oi hi.1]
  exact hgo
theorem s_iast (C0 : Cx p R s m args meth c y d D cI cC A mc ms) (hd : decode (mB y) pc = .ok ((.iastore, 1))) (hn : n_ast 0 (fun _ => True) pc ls st h bc bs t) (hk : WA p l e R s m args below meth c y D cI cC A mc ms ad0 n0 Qf (t)) : WA p l e R s m args below meth c y D cI cC A mc ms ad0 n0 Qf (pc, ls, st, h, bc, bs) := by
  obtain ⟨i, v, o, n, st', rfl, hsh, hi, hv, rfl⟩ := hn
  obtain ⟨hx, hb, hml, hown, hts, hK, hRm, hin, hA, hNK⟩ := C0
  intro ad H locs cells slots rs hR
  obtain ⟨hL, o1, o2, o3, hP, hD, hS, e1, e2, e3, e4⟩ := hR
  dsimp only at hL o1 o2 o3 hP hD hS e1 e2 e3 e4
  have ov : inR v := o2 _ List.mem_cons_self
  have oi : inR i := o2 _ (List.mem_cons_of_mem _ List.mem_cons_self)
  have o2' : ∀ w ∈ st', okV h w := fun w hw => o2 w (List.mem_cons_of_mem _ (List.mem_cons_of_mem _ (List.mem_cons_of_mem _ hw)))
  have hw := wo_get (cI := cI) (cC := cC) (ad := ad) hsh
  rw [ce_0] at hw
  refine va_iast hx hb hK hP hD hS o 0 hw rfl (in_vp oi hi.1 hi.2) hd (fun H1 locs1 hP1 hD1 hS1 => ?_)
  rw [upd_ofInt oi hi.1] at hP1 hD1
  have he : (wo cI cC ad h).set o (ad o, .inl (cI, n, .inl (fun j : Nat => Int32.ofInt (upF (h.2.2 o) i v j)))) = wo cI cC ad (h.1, h.2.1, upA h.2.2 o (upF (h.2.2 o) i v)) := by
    rw [show (Sum.inl (cI, n, Sum.inl (fun j : Nat => Int32.ofInt (upF (h.2.2 o) i v j))) : va_E) = ce cI cC ad (h.1, h.2.1, upA h.2.2 o (upF (h.2.2 o) i v)) o (0, n) by rw [ce_0]; simp [upA]]
    exact wo_set rfl hsh (fun b q hbq => ce_upA hbq)
  rw [he] at hP1 hD1
  exact hk ad H1 locs1 cells slots rs ⟨hL, o1, o2', okH_upA o3 (inR_upF (o3.1 o) ov), hP1, hD1, hS1, e1, e2, e3, e4⟩
theorem s_cast (C0 : Cx p R s m args meth c y d D cI cC A mc ms) (hd : decode (mB y) pc = .ok ((.castore, 1))) (hn : n_ast 1 (fun v => 0 ≤ v ∧ v < 65536) pc ls st h bc bs t) (hk : WA p l e R s m args below meth c y D cI cC A mc ms ad0 n0 Qf (t)) : WA p l e R s m args below meth c y D cI cC A mc ms ad0 n0 Qf (pc, ls, st, h, bc, bs) := by
  obtain ⟨i, v, o, n, st', rfl, hsh, hi, hv, rfl⟩ := hn
  obtain ⟨hx, hb, hml, hown, hts, hK, hRm, hin, hA, hNK⟩ := C0
  intro ad H locs cells slots rs hR
  obtain ⟨hL, o1, o2, o3, hP, hD, hS, e1, e2, e3, e4⟩ := hR
  dsimp only at hL o1 o2 o3 hP hD hS e1 e2 e3 e4
  have ov : inR v := o2 _ List.mem_cons_self
  have oi : inR i := o2 _ (List.mem_cons_of_mem _ List.mem_cons_self)
  have o2' : ∀ w ∈ st', okV h w := fun w hw => o2 w (List.mem_cons_of_mem _ (List.mem_cons_of_mem _ (List.mem_cons_of_mem _ hw)))
  have hw := wo_get (cI := cI) (cC := cC) (ad := ad) hsh
  rw [ce_1] at hw
  refine va_cast hx hb hK hP hD hS o 1 hw rfl (in_vp oi hi.1 hi.2) hd (fun H1 locs1 hP1 hD1 hS1 => ?_)
  have hnar : vp_nar .char (Int32.ofInt v) = Int32.ofInt v := by
    have e := pk_vc (Int32.ofInt v)
    rw [oI_c hv.1 hv.2] at e
    exact e
  rw [hnar] at hP1 hD1
  rw [upd_ofInt oi hi.1] at hP1 hD1
  have he : (wo cI cC ad h).set o (ad o, .inl (cC, n, .inl (fun j : Nat => Int32.ofInt (upF (h.2.2 o) i v j)))) = wo cI cC ad (h.1, h.2.1, upA h.2.2 o (upF (h.2.2 o) i v)) := by
    rw [show (Sum.inl (cC, n, Sum.inl (fun j : Nat => Int32.ofInt (upF (h.2.2 o) i v j))) : va_E) = ce cI cC ad (h.1, h.2.1, upA h.2.2 o (upF (h.2.2 o) i v)) o (1, n) by rw [ce_1]; simp [upA]]
    exact wo_set rfl hsh (fun b q hbq => ce_upA hbq)
  rw [he] at hP1 hD1
  exact hk ad H1 locs1 cells slots rs ⟨hL, o1, o2', okH_upA o3 (inR_upF (o3.1 o) ov), hP1, hD1, hS1, e1, e2, e3, e4⟩
theorem s_alen (C0 : Cx p R s m args meth c y d D cI cC A mc ms) (hd : decode (mB y) pc = .ok ((.arraylength, 1))) (hn : n_alen pc ls st h bc bs t) (hk : WA p l e R s m args below meth c y D cI cC A mc ms ad0 n0 Qf (t)) : WA p l e R s m args below meth c y D cI cC A mc ms ad0 n0 Qf (pc, ls, st, h, bc, bs) := by
  obtain ⟨o, n, st', rfl, hsh, rfl⟩ := hn
  obtain ⟨hx, hb, hml, hown, hts, hK, hRm, hin, hA, hNK⟩ := C0
  intro ad H locs cells slots rs hR
  obtain ⟨hL, o1, o2, o3, hP, hD, hS, e1, e2, e3, e4⟩ := hR
  dsimp only at hL o1 o2 o3 hP hD hS e1 e2 e3 e4
  have hw := wo_get (cI := cI) (cC := cC) (ad := ad) hsh
  rw [ce_0] at hw
  have hgo := hk ad H locs cells slots rs ⟨hL, o1, al_cons (show inR _ from ⟨by omega, by have := o3.2.2.2.2 o _ hsh; dsimp only at this; omega⟩) (fun w hw => o2 w (List.mem_cons_of_mem _ hw)), o3, hP, hD, hS, e1, e2, e3, e4⟩
  refine va_alen hx hb hK hP o 0 hw rfl (v := Int32.ofInt n) ?_ hd hgo
  exact Int32.ofInt_eq_ofNat.symm
end SND
end
section
/-! ===== SOUNDNESS, second part: makings, copies, switches, the script ===== -/
theorem im_ext {ad ad2 : Nat → Nat} {h : Hp} {v : VV} (hl : h.1.length < 1000) (ha : ∀ k, k ≠ h.1.length → ad2 k = ad k) (ho : okV h v) : im ad2 v = im ad v := by
  match v, ho with
  | .inl z, _ => rfl
  | .inr none, _ => rfl
  | .inr (some k), ho =>
    have ho : k < h.1.length ∨ 1000000 ≤ k := ho
    show Value.ref (ad2 k) = Value.ref (ad k)
    rw [ha k (by omega)]
theorem map_ext {ad ad2 : Nat → Nat} {st : List VV} (h : ∀ v ∈ st, im ad2 v = im ad v) : st.map (im ad2) = st.map (im ad) := List.map_congr_left h
theorem Lc.ext {ad ad2 : Nat → Nat} {ls : List VV} {rs : Array Slot} {nL : Nat} (h : Lc ad ls rs nL) (he : ∀ v ∈ ls, im ad2 v = im ad v) : Lc ad2 ls rs nL :=
  ⟨h.1, h.2.1, h.2.2.1, fun i v hi hv => by rw [he v (List.mem_of_getElem? hi)]; exact h.2.2.2 i v hi hv⟩
theorem okV.grow {h h2 : Hp} {v : VV} (hl : h.1.length ≤ h2.1.length) (ho : okV h v) : okV h2 v := by
  match v, ho with
  | .inl z, ho => exact ho
  | .inr none, _ => exact trivial
  | .inr (some k), ho =>
    rcases ho with q | q
    · exact Or.inl (Nat.lt_of_lt_of_le q hl)
    · exact Or.inr q
theorem ce_ext {cI cC : ClassId} {ad ad2 : Nat → Nat} {h : Hp} {x : Nat × Nat} {a : Nat} {q : Nat × Nat} (o : okH h) (hl : h.1.length < 1000) (ha : ∀ k, k ≠ h.1.length → ad2 k = ad k) (hq : h.1[a]? = some q) : ce cI cC ad2 (h.1 ++ [x], upR h.2.1 h.1.length (fun _ => none), upA h.2.2 h.1.length (fun _ => 0)) a q = ce cI cC ad h a q := by
  have hn : a ≠ h.1.length := by
    have := (List.getElem?_eq_some_iff.mp hq).1
    omega
  have e1 : upR h.2.1 h.1.length (fun _ => none) a = h.2.1 a := by simp [upR, hn]
  have e2 : upA h.2.2 h.1.length (fun _ => 0) a = h.2.2 a := by simp [upA, hn]
  have e3 : ∀ k, im ad2 (.inr (h.2.1 a k)) = im ad (.inr (h.2.1 a k)) := by
    intro k
    cases hr : h.2.1 a k with
    | none => rfl
    | some z =>
      have := o.2.1 a k z hr
      show Value.ref (ad2 z) = Value.ref (ad z)
      rw [ha z (by omega)]
  unfold ce
  have e4 : fv ad2 (h.1 ++ [x], upR h.2.1 h.1.length (fun _ => none), upA h.2.2 h.1.length (fun _ => 0)) a = fv ad h a := by
    funext ci k
    unfold fv
    simp only [e1, e2, e3]
  simp only [e2, e4]
theorem okH_new {h : Hp} {x : Nat × Nat} (o : okH h) (hl : h.1.length < 1000) (h1 : x.2 ≤ 100000) (h2 : 2 ≤ x.1 → x.1 - 2 < 10 ∧ x.2 = nF (x.1 - 2)) : okH (h.1 ++ [x], upR h.2.1 h.1.length (fun _ => none), upA h.2.2 h.1.length (fun _ => 0)) := by
  have key : ∀ (a : Nat) (q : Nat × Nat), (h.1 ++ [x])[a]? = some q → h.1[a]? = some q ∨ q = x := by
    intro a q hq
    rcases Nat.lt_or_ge a h.1.length with hi | hi
    · rw [List.getElem?_append_left hi] at hq
      exact Or.inl hq
    · rw [List.getElem?_append_right hi] at hq
      have := List.mem_of_getElem? hq
      exact Or.inr (List.mem_singleton.mp this)
  refine ⟨fun a i => ?_, fun a f k hk => ?_, fun a q hq h3 => ?_, ?_, fun a q hq => ?_⟩
  · show inR (upA h.2.2 h.1.length (fun _ => 0) a i)
    unfold upA
    by_cases e : a = h.1.length
    · rw [if_pos e]; exact inR_0
    · rw [if_neg e]; exact o.1 a i
  · have hk : upR h.2.1 h.1.length (fun _ => none) a f = some k := hk
    show k < (h.1 ++ [x]).length
    rw [List.length_append]
    unfold upR at hk
    by_cases e : a = h.1.length
    · rw [if_pos e] at hk; cases hk
    · rw [if_neg e] at hk
      have := o.2.1 a f k hk
      omega
  · rcases key a q hq with h4 | h4
    · exact o.2.2.1 a q h4 h3
    · subst h4; exact h2 h3
  · show (h.1 ++ [x]).length ≤ 1000
    rw [List.length_append]
    simp
    omega
  · rcases key a q hq with h4 | h4
    · exact o.2.2.2.2 a q h4
    · subst h4; exact h1
section SND
variable {p : Program} {l : Launch} {e : Env} {R : Room} {s : State} {m : MethodId} {args : Array Value} {below : List Frame} {meth : Method} {c : Code} {y d : Nat} {D : va_G} {cI cC : ClassId} {A : Nat → Prop} {mc ms : Nat} {ad0 : Nat → Nat} {n0 : Nat} {Qf : State → Prop}
variable {pc : Nat} {ls st : List VV} {h : Hp} {bc bs : Nat} {t : St}
/-- behind a making -/
theorem made {x : Nat × Nat} {pc2 : Nat} {H H1 : Heap} {locs locs1 : List Loc} {cells slots : Nat} {rs : Array Slot} {ad : Nat → Nat} {q : Nat} {E : va_E} (hk : WA p l e R s m args below meth c y D cI cC A mc ms ad0 n0 Qf (pc2, ls, .inr (some h.1.length) :: st, (h.1 ++ [x], upR h.2.1 h.1.length (fun _ => none), upA h.2.2 h.1.length (fun _ => 0)), bc - 1, bs - x.2))
    (hR : Rl s y D cI cC A mc ms ad0 n0 (pc, ls, st, h, bc, bs) ad H locs cells slots rs) (hl : h.1.length < 1000) (h1 : x.2 ≤ 100000) (h2 : 2 ≤ x.1 → x.1 - 2 < 10 ∧ x.2 = nF (x.1 - 2)) (hb1 : 1 ≤ bc) (hb2 : x.2 ≤ bs)
    (hE : ∀ ad2, ce cI cC ad2 (h.1 ++ [x], upR h.2.1 h.1.length (fun _ => none), upA h.2.2 h.1.length (fun _ => 0)) h.1.length x = E) (hP1 : va_P D classes (wo cI cC ad h ++ [(q, E)]) H1) (hD1 : va_D A (wo cI cC ad h ++ [(q, E)])) (hS1 : va_S A s.heap H1 locs1) :
    W p l e R s m args below meth c H1 locs1 (cells + 1) (slots + x.2) Qf (F0 m pc2 rs (.ref q :: st.map (im ad))) := by
  obtain ⟨hL, o1, o2, o3, hP, hD, hS, e1, e2, e3, e4⟩ := hR
  dsimp only at hL o1 o2 o3 hP hD hS e1 e2 e3 e4
  have hne : ∀ k, k ≠ h.1.length → (fun k => if k = h.1.length then q else ad k) k = ad k := fun k hk => if_neg hk
  have hpush := wo_push (cI := cI) (cC := cC) (ad := ad) (ad2 := fun k => if k = h.1.length then q else ad k) (h := h) (h2 := (h.1 ++ [x], upR h.2.1 h.1.length (fun _ => none), upA h.2.2 h.1.length (fun _ => 0))) (q := q) (x := x) rfl (fun a y hy => ce_ext o3 hl hne hy) (fun a ha => hne a (by omega)) (if_pos rfl)
  rw [hE] at hpush
  rw [hpush] at hP1 hD1
  have hgo := hk (fun k => if k = h.1.length then q else ad k) H1 locs1 (cells + 1) (slots + x.2) rs ⟨hL.ext (fun v hv => im_ext hl hne (o1 v hv)), fun v hv => okV.grow (by simp) (o1 v hv), al_cons (Or.inl (by simp)) (fun v hv => okV.grow (by simp) (o2 v hv)), okH_new o3 hl h1 h2, hP1, hD1, hS1, by dsimp only; omega, by dsimp only; omega, by simp; omega, fun k hk => by
    have hk : k < n0 ∨ 1000000 ≤ k := hk
    rw [hne k (by omega)]
    exact e4 k hk⟩
  have est : ((.inr (some h.1.length) : VV) :: st).map (im (fun k => if k = h.1.length then q else ad k)) = .ref q :: st.map (im ad) := by
    rw [List.map_cons, map_ext (fun v hv => im_ext hl hne (o2 v hv))]
    congr 1
    show Value.ref (if h.1.length = h.1.length then q else ad _) = _
    rw [if_pos rfl]
  rw [← est]
  exact hgo
theorem s_newi (C0 : Cx p R s m args meth c y d D cI cC A mc ms) (hd : decode (mB y) pc = .ok ((.newarray .int, 2))) (hn : n_newa 0 pc ls st h bc bs t) (hk : WA p l e R s m args below meth c y D cI cC A mc ms ad0 n0 Qf (t)) : WA p l e R s m args below meth c y D cI cC A mc ms ad0 n0 Qf (pc, ls, st, h, bc, bs) := by
  obtain ⟨n, st', rfl, hn1, hn2, hn3, hn4, rfl⟩ := hn
  obtain ⟨hx, hb, hml, hown, hts, hK, hRm, hin, hA, hNK⟩ := C0
  intro ad H locs cells slots rs hR
  have hR0 := hR
  obtain ⟨hL, o1, o2, o3, hP, hD, hS, e1, e2, e3, e4⟩ := hR
  dsimp only at hL o1 o2 o3 hP hD hS e1 e2 e3 e4
  have on : inR (n : Int) := o2 _ List.mem_cons_self
  have hR1 : Rl s y D cI cC A mc ms ad0 n0 (pc, ls, st', h, bc, bs) ad H locs cells slots rs := ⟨hL, o1, fun w hw => o2 w (List.mem_cons_of_mem _ hw), o3, hP, hD, hS, e1, e2, e3, e4⟩
  refine va_newa (atype := .int) hx hb (hts _ w_arr.1) (ty := .int) rfl hK hP hD hS hA (n := Int32.ofInt n) (N' := n) (a0 := (n, .inl (fun _ => 0))) (fun cA => vp_cell_i cA n (fun _ => 0)) (fun z => ?_) ?_ ?_ (by rw [hRm.2.2.1]; omega) (by rw [hRm.2.2.2]; omega) hd (fun q cA H1 hK1 hP1 hD1 hS1 => ?_)
  · have := (oI_lt on inR_0).mp z
    omega
  · rw [oI_n on]
    omega
  · have : componentBytes .int ≤ 4 := by decide
    have := Nat.mul_le_mul hn1 this
    omega
  · have hc : cA = cI := by
      have h1 : va_RA s cA .int := (hK1.2 2 (cA, .int) rfl).2
      have h2 : va_RA s cI .int := (hK.2 0 (cI, .int) rfl).2
      exact Option.some.inj (Eq.trans (Eq.symm h1) h2)
    subst hc
    exact made (x := (0, n)) hk hR1 hn4 hn1 (fun z => by dsimp only at z; omega) hn2 hn3 (fun ad2 => by rw [ce_0]; simp [upA]) hP1 hD1 hS1
theorem s_newc (C0 : Cx p R s m args meth c y d D cI cC A mc ms) (hd : decode (mB y) pc = .ok ((.newarray .char, 2))) (hn : n_newa 1 pc ls st h bc bs t) (hk : WA p l e R s m args below meth c y D cI cC A mc ms ad0 n0 Qf (t)) : WA p l e R s m args below meth c y D cI cC A mc ms ad0 n0 Qf (pc, ls, st, h, bc, bs) := by
  obtain ⟨n, st', rfl, hn1, hn2, hn3, hn4, rfl⟩ := hn
  obtain ⟨hx, hb, hml, hown, hts, hK, hRm, hin, hA, hNK⟩ := C0
  intro ad H locs cells slots rs hR
  have hR0 := hR
  obtain ⟨hL, o1, o2, o3, hP, hD, hS, e1, e2, e3, e4⟩ := hR
  dsimp only at hL o1 o2 o3 hP hD hS e1 e2 e3 e4
  have on : inR (n : Int) := o2 _ List.mem_cons_self
  have hR1 : Rl s y D cI cC A mc ms ad0 n0 (pc, ls, st', h, bc, bs) ad H locs cells slots rs := ⟨hL, o1, fun w hw => o2 w (List.mem_cons_of_mem _ hw), o3, hP, hD, hS, e1, e2, e3, e4⟩
  refine va_newa (atype := .char) hx hb (hts _ w_arr.2) (ty := .char) rfl hK hP hD hS hA (n := Int32.ofInt n) (N' := n) (a0 := (n, .inl (fun _ => 0))) (fun cA => vp_cell_i cA n (fun _ => 0)) (fun z => ?_) ?_ ?_ (by rw [hRm.2.2.1]; omega) (by rw [hRm.2.2.2]; omega) hd (fun q cA H1 hK1 hP1 hD1 hS1 => ?_)
  · have := (oI_lt on inR_0).mp z
    omega
  · rw [oI_n on]
    omega
  · have : componentBytes .char ≤ 4 := by decide
    have := Nat.mul_le_mul hn1 this
    omega
  · have hc : cA = cC := by
      have h1 : va_RA s cA .char := (hK1.2 2 (cA, .char) rfl).2
      have h2 : va_RA s cC .char := (hK.2 1 (cC, .char) rfl).2
      exact Option.some.inj (Eq.trans (Eq.symm h1) h2)
    subst hc
    exact made (x := (1, n)) hk hR1 hn4 hn1 (fun z => by dsimp only at z; omega) hn2 hn3 (fun ad2 => by rw [ce_1]; simp [upA]) hP1 hD1 hS1
theorem s_new (C0 : Cx p R s m args meth c y d D cI cC A mc ms) {a ci N : Nat} (hf : ((mO y, a), ci) ∈ CK) (hci : ci < 10) (hN : N = nF ci) (hd : decode (mB y) pc = .ok ((.new a, 3))) (hn : n_new ci N pc ls st h bc bs t) (hk : WA p l e R s m args below meth c y D cI cC A mc ms ad0 n0 Qf (t)) : WA p l e R s m args below meth c y D cI cC A mc ms ad0 n0 Qf (pc, ls, st, h, bc, bs) := by
  obtain ⟨hn2, hn3, hn4, rfl⟩ := hn
  obtain ⟨hx, hb, hml, hown, hts, hK, hRm, hin, hA, hNK⟩ := C0
  intro ad H locs cells slots rs hR
  have hR0 := hR
  obtain ⟨hL, o1, o2, o3, hP, hD, hS, e1, e2, e3, e4⟩ := hR
  dsimp only at hL o1 o2 o3 hP hD hS e1 e2 e3 e4
  subst hN
  obtain ⟨g1, g2, g3, g4, g5, g6⟩ := okc ci hci
  have hnf : ∀ o, o < 10 → nF o ≤ 100000 := by decide
  refine va_new (ci := ci) (fs := (List.range (nF ci)).map (fv ad (h.1 ++ [(ci + 2, nF ci)], upR h.2.1 h.1.length (fun _ => none), upA h.2.2 h.1.length (fun _ => 0)) h.1.length ci)) (C := cN ci) (T := cT ci) (N := nF ci) hx hb hts g2 (cY ci) g4 hown (hts _ (CK_ok _ hf)) (hts _ g5.1) (hts _ g5.2) hK hP hD hS hA g1 (fun j hj => ?_) (by rw [hRm.2.2.1]; omega) (by rw [hRm.2.2.2]; omega) hd (fun q H1 hP1 hD1 hS1 => ?_)
  · unfold vp_V
    rw [List.getD_eq_getElem?_getD, fs_get hj]
    obtain ⟨k0, k1, k2, k3, k4, k5⟩ := g6 j hj
    show _ = fv _ _ _ _ _
    unfold fv
    by_cases hr : 2 ≤ fK ci j
    · rw [if_pos hr]
      have := k4 (by omega)
      have e5 : im ad (.inr (upR h.2.1 h.1.length (fun _ => none) h.1.length j)) = .null := by simp [upR, im]
      rw [e5]
      revert this
      cases cY ci j <;> intro z <;> first | rfl | exact absurd z (by decide)
    · rw [if_neg hr]
      have e5 : upA h.2.2 h.1.length (fun _ => 0) h.1.length (j : Int) = 0 := by simp [upA]
      dsimp only
      rw [e5]
      rcases (show fK ci j = 0 ∨ fK ci j = 1 by omega) with z | z
      · rw [(k0 z).1]; rfl
      · rw [(k1 z).1]; rfl
  · refine made (x := (ci + 2, nF ci)) hk hR0 hn4 (hnf ci hci) (fun _ => ⟨hci, rfl⟩) hn2 hn3 (fun ad2 => ?_) hP1 hD1 hS1
    rw [ce_o]
    congr 2
    apply List.map_congr_left
    intro j _
    unfold fv
    simp [upR, im]
theorem s_objI (C0 : Cx p R s m args meth c y d D cI cC A mc ms) {a : Nat} (hf : (mO y, a) ∈ OL) (hd1 : 1 ≤ d) (hd : decode (mB y) pc = .ok ((.invokespecial a, 3))) (hn : n_objI pc ls st h bc bs t) (hk : WA p l e R s m args below meth c y D cI cC A mc ms ad0 n0 Qf (t)) : WA p l e R s m args below meth c y D cI cC A mc ms ad0 n0 Qf (pc, ls, st, h, bc, bs) := by
  obtain ⟨o, st', rfl, hs8, rfl⟩ := hn
  obtain ⟨hx, hb, hml, hown, hts, hK, hRm, hin, hA, hNK⟩ := C0
  intro ad H locs cells slots rs hR
  have hR0 := hR
  obtain ⟨hL, o1, o2, o3, hP, hD, hS, e1, e2, e3, e4⟩ := hR
  dsimp only at hL o1 o2 o3 hP hD hS e1 e2 e3 e4
  have hgo := hk ad H locs cells slots rs ⟨hL, o1, fun w hw => o2 w (List.mem_cons_of_mem _ hw), o3, hP, hD, hS, e1, e2, e3, e4⟩
  refine W.objInit hx hb hown (hts _ (OL_ok _ hf)) (hts _ w_objI.1) (hts _ w_objI.2) rfl (by rw [hml]; exact hL.1) rfl hd (by rw [hRm.1]; exact hd1) ?_ hgo
  show 2 * 0 + ((st'.map (im ad)).map fun v => v.category).sum + 12 ≤ R.locals
  rw [im_sum]
  have := hRm.2.1
  omega
theorem s_max (C0 : Cx p R s m args meth c y d D cI cC A mc ms) {a : Nat} (hf : ((mO y, a), 61) ∈ XL) (hd1 : 1 ≤ d) (hd : decode (mB y) pc = .ok ((.invokestatic a, 3))) (hn : n_mm max pc ls st h bc bs t) (hk : WA p l e R s m args below meth c y D cI cC A mc ms ad0 n0 Qf (t)) : WA p l e R s m args below meth c y D cI cC A mc ms ad0 n0 Qf (pc, ls, st, h, bc, bs) := by
  obtain ⟨x, z, st', rfl, hs8, rfl⟩ := hn
  obtain ⟨hx, hb, hml, hown, hts, hK, hRm, hin, hA, hNK⟩ := C0
  intro ad H locs cells slots rs hR
  have hR0 := hR
  obtain ⟨hL, o1, o2, o3, hP, hD, hS, e1, e2, e3, e4⟩ := hR
  dsimp only at hL o1 o2 o3 hP hD hS e1 e2 e3 e4
  have oz : inR z := o2 _ List.mem_cons_self
  have ox : inR x := o2 _ (List.mem_cons_of_mem _ List.mem_cons_self)
  have o2' : ∀ w ∈ st', okV h w := fun w hw => o2 w (List.mem_cons_of_mem _ (List.mem_cons_of_mem _ hw))
  have hgo := hk ad H locs cells slots rs ⟨hL, o1, al_cons (show inR (max x z) from ⟨by omega, by omega⟩) o2', o3, hP, hD, hS, e1, e2, e3, e4⟩
  refine va_mmax hx hb (by rw [hml]; exact hL.1.symm) hown (hts _ (XL_ok _ hf)) (hts _ w_max.1) (hts _ w_max.2.1) (hts _ w_max.2.2) (by rw [hRm.1]; exact hd1) ?_ (by rw [hRm.2.2.1]; omega) (by rw [hRm.2.2.2]; omega) hd ?_
  · rw [im_sum]
    have := hRm.2.1
    omega
  · have hi := oI_lt ox oz
    have hv : (if Int32.ofInt x < Int32.ofInt z then Int32.ofInt z else Int32.ofInt x) = Int32.ofInt (max x z) := by
      by_cases q : x < z
      · rw [if_pos (hi.mpr q)]
        congr 1
        omega
      · rw [if_neg (fun r => q (hi.mp r))]
        congr 1
        omega
    rw [hv]
    exact hgo
theorem s_min (C0 : Cx p R s m args meth c y d D cI cC A mc ms) {a : Nat} (hf : ((mO y, a), 62) ∈ XL) (hd1 : 1 ≤ d) (hd : decode (mB y) pc = .ok ((.invokestatic a, 3))) (hn : n_mm min pc ls st h bc bs t) (hk : WA p l e R s m args below meth c y D cI cC A mc ms ad0 n0 Qf (t)) : WA p l e R s m args below meth c y D cI cC A mc ms ad0 n0 Qf (pc, ls, st, h, bc, bs) := by
  obtain ⟨x, z, st', rfl, hs8, rfl⟩ := hn
  obtain ⟨hx, hb, hml, hown, hts, hK, hRm, hin, hA, hNK⟩ := C0
  intro ad H locs cells slots rs hR
  have hR0 := hR
  obtain ⟨hL, o1, o2, o3, hP, hD, hS, e1, e2, e3, e4⟩ := hR
  dsimp only at hL o1 o2 o3 hP hD hS e1 e2 e3 e4
  have oz : inR z := o2 _ List.mem_cons_self
  have ox : inR x := o2 _ (List.mem_cons_of_mem _ List.mem_cons_self)
  have o2' : ∀ w ∈ st', okV h w := fun w hw => o2 w (List.mem_cons_of_mem _ (List.mem_cons_of_mem _ hw))
  have hgo := hk ad H locs cells slots rs ⟨hL, o1, al_cons (show inR (min x z) from ⟨by omega, by omega⟩) o2', o3, hP, hD, hS, e1, e2, e3, e4⟩
  refine va_mmin hx hb (by rw [hml]; exact hL.1.symm) hown (hts _ (XL_ok _ hf)) (hts _ w_min.1) (hts _ w_min.2.1) (hts _ w_min.2.2) (by rw [hRm.1]; exact hd1) ?_ (by rw [hRm.2.2.1]; omega) (by rw [hRm.2.2.2]; omega) hd ?_
  · rw [im_sum]
    have := hRm.2.1
    omega
  · have hi := oI_lt oz ox
    have hv : (if Int32.ofInt z < Int32.ofInt x then Int32.ofInt z else Int32.ofInt x) = Int32.ofInt (min x z) := by
      by_cases q : z < x
      · rw [if_pos (hi.mpr q)]
        congr 1
        omega
      · rw [if_neg (fun r => q (hi.mp r))]
        congr 1
        omega
    rw [hv]
    exact hgo
theorem s_copy (C0 : Cx p R s m args meth c y d D cI cC A mc ms) {a : Nat} (hf : (mO y, a) ∈ AL) (hd1 : 1 ≤ d) (hd : decode (mB y) pc = .ok ((.invokestatic a, 3))) (hn : n_copy pc ls st h bc bs t) (hk : WA p l e R s m args below meth c y D cI cC A mc ms ad0 n0 Qf (t)) : WA p l e R s m args below meth c y D cI cC A mc ms ad0 n0 Qf (pc, ls, st, h, bc, bs) := by
  obtain ⟨n, dp, sp, a0, b0, na, nb, st', rfl, hs1, hs2, c1, c2, c3, c4, c5, hs8, rfl⟩ := hn
  obtain ⟨hx, hb, hml, hown, hts, hK, hRm, hin, hA, hNK⟩ := C0
  intro ad H locs cells slots rs hR
  have hR0 := hR
  obtain ⟨hL, o1, o2, o3, hP, hD, hS, e1, e2, e3, e4⟩ := hR
  dsimp only at hL o1 o2 o3 hP hD hS e1 e2 e3 e4
  have on : inR n := o2 _ List.mem_cons_self
  have odp : inR dp := o2 _ (List.mem_cons_of_mem _ List.mem_cons_self)
  have osp : inR sp := o2 _ (List.mem_cons_of_mem _ (List.mem_cons_of_mem _ (List.mem_cons_of_mem _ List.mem_cons_self)))
  have o2' : ∀ w ∈ st', okV h w := fun w hw => o2 w (List.mem_cons_of_mem _ (List.mem_cons_of_mem _ (List.mem_cons_of_mem _ (List.mem_cons_of_mem _ (List.mem_cons_of_mem _ hw)))))
  have hw1 := wo_get (cI := cI) (cC := cC) (ad := ad) hs1
  have hw2 := wo_get (cI := cI) (cC := cC) (ad := ad) hs2
  rw [ce_0] at hw1 hw2
  have nn : ∀ {z : Int}, inR z → 0 ≤ z → ¬ Int32.ofInt z < 0 := fun oz hz q => by
    have := (oI_lt oz inR_0).mp q
    omega
  refine va_copyi hx hb (by rw [hml]; exact hL.1.symm) hown (hts _ (AL_ok _ hf)) (hts _ w_copy.1) (hts _ w_copy.2.1) (hts _ w_copy.2.2) hK hP hD hS a0 b0 0 0 hw1 hw2 rfl rfl rfl (nn osp c2) (nn odp c3) (nn on c1) (by rw [oI_n osp, oI_n on]; omega) (by rw [oI_n odp, oI_n on]; omega) (fun _ _ => rfl) (by rw [hRm.1]; exact hd1) ?_ hd (fun H1 locs1 hP1 hD1 hS1 => ?_)
  · rw [im_sum]
    have e9 : nativeFrameWords "java/lang/System" "arraycopy" 5 = 7 := by decide +kernel
    rw [e9]
    have := hRm.2.1
    omega
  · have hf9 : va_cpy (fun j : Nat => Int32.ofInt (h.2.2 a0 j)) (fun j : Nat => Int32.ofInt (h.2.2 b0 j)) (Int32.ofInt sp).toNatClampNeg (Int32.ofInt dp).toNatClampNeg (Int32.ofInt n).toNatClampNeg = fun j : Nat => Int32.ofInt (cpF (h.2.2 a0) (h.2.2 b0) sp dp n j) := by
      funext j
      unfold va_cpy cpF
      rw [oI_n osp, oI_n odp, oI_n on]
      by_cases q : dp.toNat ≤ j ∧ j < dp.toNat + n.toNat
      · rw [if_pos q, if_pos (by omega)]
        have e9 : ((sp.toNat + (j - dp.toNat) : Nat) : Int) = sp + ((j : Int) - dp) := by omega
        show Int32.ofInt (h.2.2 a0 ((sp.toNat + (j - dp.toNat) : Nat) : Int)) = _
        rw [e9]
      · rw [if_neg q, if_neg (by omega)]
    rw [hf9] at hP1 hD1
    have he : (wo cI cC ad h).set b0 (ad b0, .inl (cI, nb, .inl (fun j : Nat => Int32.ofInt (cpF (h.2.2 a0) (h.2.2 b0) sp dp n j)))) = wo cI cC ad (h.1, h.2.1, upA h.2.2 b0 (cpF (h.2.2 a0) (h.2.2 b0) sp dp n)) := by
      rw [show (Sum.inl (cI, nb, Sum.inl (fun j : Nat => Int32.ofInt (cpF (h.2.2 a0) (h.2.2 b0) sp dp n j))) : va_E) = ce cI cC ad (h.1, h.2.1, upA h.2.2 b0 (cpF (h.2.2 a0) (h.2.2 b0) sp dp n)) b0 (0, nb) by rw [ce_0]; simp [upA]]
      exact wo_set rfl hs2 (fun b q hbq => ce_upA hbq)
    rw [he] at hP1 hD1
    refine hk ad H1 locs1 cells slots rs ⟨hL, o1, o2', okH_upA o3 (fun i => ?_), hP1, hD1, hS1, e1, e2, e3, e4⟩
    unfold cpF
    by_cases q : dp ≤ i ∧ i < dp + n
    · rw [if_pos q]; exact o3.1 _ _
    · rw [if_neg q]; exact o3.1 _ _
theorem s_swt (C0 : Cx p R s m args meth c y d D cI cC A mc ms) {a : Nat} {tg : List Nat} (hd : decode (mB y) pc = .ok ((.tableswitch ((a : Int) - pc) 0 ((tg.length : Int) - 1) (tg.map (fun t : Nat => (t : Int) - pc)).toArray, 1 + (3 - pc % 4) + 12 + 4 * tg.length))) (hn : n_swt a tg ls st h bc bs t) (hk : WA p l e R s m args below meth c y D cI cC A mc ms ad0 n0 Qf (t)) : WA p l e R s m args below meth c y D cI cC A mc ms ad0 n0 Qf (pc, ls, st, h, bc, bs) := by
  obtain ⟨x, st', rfl, hq⟩ := hn
  obtain ⟨hx, hb, hml, hown, hts, hK, hRm, hin, hA, hNK⟩ := C0
  intro ad H locs cells slots rs hR
  have hR0 := hR
  obtain ⟨hL, o1, o2, o3, hP, hD, hS, e1, e2, e3, e4⟩ := hR
  dsimp only at hL o1 o2 o3 hP hD hS e1 e2 e3 e4
  have ox : inR x := o2 _ List.mem_cons_self
  have o2' : ∀ w ∈ st', okV h w := fun w hw => o2 w (List.mem_cons_of_mem _ hw)
  rcases hq with ⟨hq, rfl⟩ | ⟨k, b, rfl, hb9, rfl⟩
  · have hgo := hk ad H locs cells slots rs ⟨hL, o1, o2', o3, hP, hD, hS, e1, e2, e3, e4⟩
    exact lv_tableOut hx hb hd (by rw [oI_t ox]; omega) (tgt := a) (by omega) hgo
  · have hgo := hk ad H locs cells slots rs ⟨hL, o1, o2', o3, hP, hD, hS, e1, e2, e3, e4⟩
    have hl := (List.getElem?_eq_some_iff.mp hb9).1
    refine lv_tableIn hx hb hd (by rw [oI_t ox]; omega) (by rw [oI_t ox]; omega) (off := (b : Int) - pc) ?_ (tgt := b) (by omega) hgo
    rw [oI_t ox, show ((k : Int) - 0).toNat = k by omega]
    simp [hb9]
/-- the script -/
def Xx (X : Nat × (Int → Int)) (s : State) (A : Nat → Prop) (b : Nat) : Prop := b < s.heap.size ∧ ¬ A b ∧ va_X b X.1 (fun j => Int32.ofInt (X.2 j)) s s.heap ∧ X.1 ≤ 100000 ∧ ∀ i, inR (X.2 i)
theorem s_sld (C0 : Cx p R s m args meth c y d D cI cC A mc ms) {X : Nat × (Int → Int)} (hX : Xx X s A (ad0 SCR)) (hd : decode (mB y) pc = .ok ((.iaload, 1))) (hn : n_sld X pc ls st h bc bs t) (hk : WA p l e R s m args below meth c y D cI cC A mc ms ad0 n0 Qf (t)) : WA p l e R s m args below meth c y D cI cC A mc ms ad0 n0 Qf (pc, ls, st, h, bc, bs) := by
  obtain ⟨i, st', rfl, hi, rfl⟩ := hn
  obtain ⟨hx, hb, hml, hown, hts, hK, hRm, hin, hA, hNK⟩ := C0
  intro ad H locs cells slots rs hR
  have hR0 := hR
  obtain ⟨hL, o1, o2, o3, hP, hD, hS, e1, e2, e3, e4⟩ := hR
  dsimp only at hL o1 o2 o3 hP hD hS e1 e2 e3 e4
  have oi : inR i := o2 _ List.mem_cons_self
  have o2' : ∀ w ∈ st', okV h w := fun w hw => o2 w (List.mem_cons_of_mem _ (List.mem_cons_of_mem _ hw))
  have hgo := hk ad H locs cells slots rs ⟨hL, o1, al_cons (show inR _ from hX.2.2.2.2 i) o2', o3, hP, hD, hS, e1, e2, e3, e4⟩
  have hs : ad SCR = ad0 SCR := e4 SCR (Or.inr (by decide))
  show W p l e R s m args below meth c H locs cells slots Qf (F0 m pc rs (.int (Int32.ofInt i) :: .ref (ad SCR) :: st'.map (im ad)))
  rw [hs]
  refine va_sld hx hb hX.2.2.1 hX.1 hX.2.1 hS (in_vp oi hi.1 hi.2) hd ?_
  rw [cl_toN oi hi.1]
  exact hgo
theorem s_slen (C0 : Cx p R s m args meth c y d D cI cC A mc ms) {X : Nat × (Int → Int)} (hX : Xx X s A (ad0 SCR)) (hd : decode (mB y) pc = .ok ((.arraylength, 1))) (hn : n_slen X pc ls st h bc bs t) (hk : WA p l e R s m args below meth c y D cI cC A mc ms ad0 n0 Qf (t)) : WA p l e R s m args below meth c y D cI cC A mc ms ad0 n0 Qf (pc, ls, st, h, bc, bs) := by
  obtain ⟨st', rfl, rfl⟩ := hn
  obtain ⟨hx, hb, hml, hown, hts, hK, hRm, hin, hA, hNK⟩ := C0
  intro ad H locs cells slots rs hR
  have hR0 := hR
  obtain ⟨hL, o1, o2, o3, hP, hD, hS, e1, e2, e3, e4⟩ := hR
  dsimp only at hL o1 o2 o3 hP hD hS e1 e2 e3 e4
  have o2' : ∀ w ∈ st', okV h w := fun w hw => o2 w (List.mem_cons_of_mem _ hw)
  have hgo := hk ad H locs cells slots rs ⟨hL, o1, al_cons (show inR _ from ⟨by omega, by have := hX.2.2.2.1; omega⟩) o2', o3, hP, hD, hS, e1, e2, e3, e4⟩
  have hs : ad SCR = ad0 SCR := e4 SCR (Or.inr (by decide))
  show W p l e R s m args below meth c H locs cells slots Qf (F0 m pc rs (.ref (ad SCR) :: st'.map (im ad)))
  rw [hs]
  refine va_slen hx hb hX.2.2.1 hX.1 hX.2.1 hS hd ?_
  rw [← Int32.ofInt_eq_ofNat]
  exact hgo
end SND
end
section
/-! ===== RUNS: steps, calls, returns; a run is what the real machine does ===== -/
/-- a callee's locals -/
def ent (b : Nat) (as : List VV) : List VV := as ++ List.replicate (mL b - as.length) (.inr none)
def psh (b : Nat) (r : VV) (st : List VV) : List VV := if mR b = 0 then st else r :: st
def callOk (o : Op) (st as st' : List VV) (h : Hp) : Prop := (o.1 = 46 ∨ o.1 = 47 ∨ o.1 = 48 ∨ o.1 = 59 ∨ o.1 = 60) ∧ st = as.reverse ++ st' ∧ as.length = mA o.2.2.1 ∧ st'.length ≤ 8 ∧ (mK o.2.2.1 ≠ 1 → ∃ (b : Nat) (as' : List VV), as = .inr (some b) :: as' ∧ (o.1 = 46 → ∃ n, h.1[b]? = some (mO o.2.2.1 + 2, n)))
/-- with fuel n and d frames, method y from pc comes to its end with r and the heap h' -/
def run (X : Nat × (Int → Int)) : Nat → Nat → Nat → Nat → List VV → List VV → Hp → Nat → Nat → VV → Hp → Prop
  | 0, _, _, _, _, _, _, _, _, _, _ => False
  | n + 1, d, y, pc, ls, st, h, bc, bs, r, h' => ∃ o : Op, cd y pc = some o ∧
    ((o.1 = 52 ∧ ∃ z, st = [.inl z] ∧ r = .inl z ∧ h' = h ∧ (o.2.1 = 2 → z = 0 ∨ z = 1)) ∨
     (o.1 = 53 ∧ st = [] ∧ r = .inr none ∧ h' = h) ∨
     (∃ t : St, 1 ≤ d ∧ nx X o pc ls st h bc bs t ∧ run X n d y t.1 t.2.1 t.2.2.1 t.2.2.2.1 t.2.2.2.2.1 t.2.2.2.2.2 r h') ∨
     (∃ (d' : Nat) (as st' : List VV) (mc ms : Nat) (r1 : VV) (h1 : Hp), d = d' + 1 ∧ callOk o st as st' h ∧ mc ≤ bc ∧ ms ≤ bs ∧ run X n d' o.2.2.1 0 (ent o.2.2.1 as) [] h mc ms r1 h1 ∧ run X n d y (pc + 3) ls (psh o.2.2.1 r1 st') h1 (bc - mc) (bs - ms) r h'))
theorem run_mono (X : Nat × (Int → Int)) : ∀ (n : Nat) {d y pc : Nat} {ls st : List VV} {h : Hp} {bc bs : Nat} {r : VV} {h' : Hp}, run X n d y pc ls st h bc bs r h' → run X (n + 1) d y pc ls st h bc bs r h' := by
  intro n
  induction n with
  | zero => intro d y pc ls st h bc bs r h' q; exact q.elim
  | succ n ih =>
    intro d y pc ls st h bc bs r h' q
    obtain ⟨o, ho, q⟩ := q
    refine ⟨o, ho, ?_⟩
    rcases q with q | q | ⟨t, q1, q2, q3⟩ | ⟨d', as, st', mc, ms, r1, h1, q1, q2, q3, q4, q5, q6⟩
    · exact Or.inl q
    · exact Or.inr (Or.inl q)
    · exact Or.inr (Or.inr (Or.inl ⟨t, q1, q2, ih q3⟩))
    · exact Or.inr (Or.inr (Or.inr ⟨d', as, st', mc, ms, r1, h1, q1, q2, q3, q4, ih q5, ih q6⟩))
theorem run_le (X : Nat × (Int → Int)) {n k : Nat} (hk : n ≤ k) {d y pc : Nat} {ls st : List VV} {h : Hp} {bc bs : Nat} {r : VV} {h' : Hp} (q : run X n d y pc ls st h bc bs r h') : run X k d y pc ls st h bc bs r h' := by
  induction hk with
  | refl => exact q
  | step _ ih => exact run_mono X _ ih
/-- the text constant's bytes, as the heap has them -/
def txtI : List Int32 := txt0.map (fun n : Nat => Int32.ofInt n)
def txtS : String := "k4;f0.0.0>2.1.1,9;f0.1.0>2.1.0,5;f1.0.1>1.1.0,7;f3.1.1>0.0.1,30;x5;"
/-- what is known of the text constant at the address a -/
def Sx (s : State) (A : Nat → Prop) (a : Nat) : Prop := vk_R "TierPods" 78 txtS a s ∧ (∃ v : Nat, vk_S 1 [67] [txtI] (fun _ => a) (fun _ => v) A s s.heap) ∧ va_Z "java/lang/String" "COMPACT_STRINGS" "Z" (.int 1) A s s.heap ∧ va_Zq "jdk/internal/util/Preconditions" "SIOOBE_FORMATTER" "Ljava/util/function/BiFunction;" A s s.heap
def PM (y : Nat) (D : va_G) (cI cC : ClassId) (ad : Nat → Nat) (h : Hp) (as : List VV) (sz : Nat) : Array Value → State → Prop := va_Pc (as.map (im ad)) (fun U => U.heap.size = sz ∧ va_P D classes (wo cI cC ad h) U.heap ∧ va_K D classes [(cI, .int), (cC, .char)] U ∧ va_D (fun _ => True) (wo cI cC ad h) ∧ NK U ∧ (y = 68 → Sx U (va_A (wo cI cC ad h) sz) (ad STR)))
abbrev QB (D : va_G) (cI cC : ClassId) (ad : Nat → Nat) (h : Hp) (sz : Nat) (h' : Hp) (ad2 : Nat → Nat) (t : State) : Prop := va_P D classes (wo cI cC ad2 h') t.heap ∧ va_D (va_A (wo cI cC ad h) sz) (wo cI cC ad2 h')
abbrev QP (ad : Nat → Nat) (h h' : Hp) (ad2 : Nat → Nat) : Prop := okH h' ∧ h.1.length ≤ h'.1.length ∧ ∀ k, k < h.1.length ∨ STR ≤ k → ad2 k = ad k
def QI (D : va_G) (cI cC : ClassId) (ad : Nat → Nat) (h : Hp) (sz : Nat) (z : Int) (h' : Hp) : Array Value → State → Outcome → State → Prop := va_Qi (fun (r : Int32) (ad2 : Nat → Nat) => r = Int32.ofInt z ∧ inR z ∧ QP ad h h' ad2) (QB D cI cC ad h sz h') (va_A (wo cI cC ad h) sz)
def QV (D : va_G) (cI cC : ClassId) (ad : Nat → Nat) (h : Hp) (sz : Nat) (h' : Hp) : Array Value → State → Outcome → State → Prop := va_Qv (fun (ad2 : Nat → Nat) => QP ad h h' ad2) (QB D cI cC ad h sz h') (va_A (wo cI cC ad h) sz)
abbrev rmD (d mc ms : Nat) : Room := { frames := d, cells := mc, slots := ms, locals := 40 * d }
/-- the contract that a run gives -/
def MP (l : Launch) (y d : Nat) (D : va_G) (cI cC : ClassId) (ad : Nat → Nat) (h : Hp) (as : List VV) (mc ms sz : Nat) (r : VV) (h' : Hp) : Prop :=
  (mR y = 0 → r = .inr none ∧ Met l (mN y) (mW y) (rmD d mc ms) (PM y D cI cC ad h as sz) (QV D cI cC ad h sz h') mc ms (va_A (wo cI cC ad h) sz)) ∧
  (mR y ≠ 0 → ∃ z, r = .inl z ∧ Met l (mN y) (mW y) (rmD d mc ms) (PM y D cI cC ad h as sz) (QI D cI cC ad h sz z h') mc ms (va_A (wo cI cC ad h) sz))
theorem Sx.calling {U : State} {A : Nat → Prop} {a : Nat} {g : JFrame} {mk : MethodId} {av : Array Value} (q : Sx U A a) : Sx (U.calling g mk av) A a := by
  obtain ⟨q1, ⟨v, q2⟩, q3, q4⟩ := q
  refine ⟨vk_R.same rfl q1, ⟨v, vk_S.moved (u := U) (Vm.Alike.refl U.vm) q2⟩, va_Z.moved (u := U) (Vm.Alike.refl U.vm) q3, ?_⟩
  rcases q4 with q4 | ⟨t, q4⟩
  · exact Or.inl (va_Z.moved (u := U) (Vm.Alike.refl U.vm) q4)
  · exact Or.inr ⟨t, va_Z.moved (u := U) (Vm.Alike.refl U.vm) q4⟩
theorem Sx.at {s U : State} {A B : Nat → Prop} {a : Nat} {H : Heap} {locs : List Loc} (q : Sx s A a) (hS : va_S A s.heap H locs) (hW : s.WarmedH U.vm) (hU : U.heap = H) (hB : ∀ z, B z → A z) : Sx U B a := by
  obtain ⟨q1, ⟨v, q2⟩, q3, q4⟩ := q
  rw [← hU] at hS
  have hq : ∀ a : Nat, a < s.heap.size → ¬ A a → U.heap[a]? = s.heap[a]? := hS.2.1
  refine ⟨vk_R.warm hW q1, ⟨v, ((q2.moved hW.alike).kept hq).narrow hB⟩, ((q3.moved hW.alike).kept hq).narrow hB, ?_⟩
  rcases q4 with q4 | ⟨t, q4⟩
  · exact Or.inl (((q4.moved hW.alike).kept hq).narrow hB)
  · exact Or.inr ⟨t, ((q4.moved hW.alike).kept hq).narrow hB⟩
theorem PM.blind {y : Nat} {D : va_G} {cI cC : ClassId} {ad : Nat → Nat} {h : Hp} {as : List VV} {sz : Nat} : FrameBlind (PM y D cI cC ad h as sz) := by
  intro a U g mk q
  obtain ⟨q0, q1, qP, qK, qD, qN, qS⟩ := q
  exact ⟨q0, q1, qP, va_K.moved (u := U) (U := U.calling g mk a) (Vm.Alike.refl U.vm) qK, qD, fun x hx => va_Nw.same rfl (u := U) rfl (qN x hx), fun hy => (qS hy).calling⟩
theorem good_mW {b : Nat} (hb : b < 190) (h8 : b ≠ 188) : GoodIn wl (mW b) := by
  intro w hw
  have hm : w ∈ wl := by
    rcases List.mem_cons.mp hw with q | q
    · rw [q]; exact (okm b hb h8).1
    · exact q
  exact ⟨hm, good_of_word (List.mem_filter.mp hm).2⟩
section SND
variable {p : Program} {l : Launch} {e : Env} {R : Room} {s : State} {m : MethodId} {args : Array Value} {below : List Frame} {meth : Method} {c : Code} {y d : Nat} {D : va_G} {cI cC : ClassId} {A : Nat → Prop} {mc ms : Nat} {ad0 : Nat → Nat} {n0 : Nat} {Qf : State → Prop}
variable {pc : Nat} {ls st : List VV} {h : Hp} {bc bs : Nat} {t : St}
set_option maxHeartbeats 8000000 in
/-- a call, of whatever kind, of a method that has a contract -/
theorem cal_run (C0 : Cx p R s m args meth c y d D cI cC A mc ms) {o : Op} (hcd : cd y pc = some o) {as st' : List VV} {d1 mc1 ms1 : Nat} {ad : Nat → Nat} {H : Heap} {locs : List Loc} {cells slots : Nat} {rs : Array Slot} (hco : callOk o st as st' h) (hdd : d = d1 + 1) (hR : Rl s y D cI cC A mc ms ad0 n0 (pc, ls, st, h, bc, bs) ad H locs cells slots rs) (hmc : mc1 ≤ bc) (hms : ms1 ≤ bs) (hSx : y = 68 ∨ y = 188 → Sx s A (ad0 STR))
    {Qc : Array Value → State → Outcome → State → Prop} (hM : Met l (mN o.2.2.1) (mW o.2.2.1) (rmD d1 mc1 ms1) (PM o.2.2.1 D cI cC ad h as H.size) Qc mc1 ms1 (va_A (wo cI cC ad h) H.size)) :
    va_Run p l e R s m args below meth c H locs cells slots mc1 ms1 (F0 m pc rs (st.map (im ad))) (st'.map (im ad)) (Qc (as.map (im ad)).toArray) (va_A (wo cI cC ad h) H.size) := by
  obtain ⟨hx, hb, hml, hown, hts, hK, hRm, hin, hA, hNK⟩ := C0
  obtain ⟨hL, o1, o2, o3, hP, hD, hS, e1, e2, e3, e4⟩ := hR
  dsimp only at hL o1 o2 o3 hP hD hS e1 e2 e3 e4
  obtain ⟨hdec, hlk⟩ := cd_ok hcd
  obtain ⟨tag, idx, b, cc, zz, tg⟩ := o
  obtain ⟨htag, hst, hal, h8, hrec⟩ := hco
  dsimp only at htag hst hal h8 hrec hM
  have hfree : ∀ q, va_A (wo cI cC ad h) H.size q → A q := by
    rintro q (⟨k, e9, hq⟩ | hq)
    · exact hD.2 k _ hq
    · exact hA q (Nat.le_trans hS.1 hq)
  -- what every kind needs
  have hb190 : b < 190 ∧ b ≠ 188 ∧ (b = 68 → y = 188) := by
    rcases htag with q | q | q | q | q <;> subst q
    · have hlk : (decide (((mO y, idx), b) ∈ ML) && decide (b < 190) && decide (b ≠ 188) && decide (mK b = 0) && decide (b ≠ 68)) = true := hlk
      simp only [Bool.and_eq_true, decide_eq_true_eq] at hlk
      exact ⟨hlk.1.1.1.2, hlk.1.1.2, fun z => absurd z hlk.2⟩
    · have hlk : (decide (((mO y, idx), b) ∈ ML) && decide (b < 190) && decide (b ≠ 188) && decide (mK b = 1) && decide (b ≠ 68)) = true := hlk
      simp only [Bool.and_eq_true, decide_eq_true_eq] at hlk
      exact ⟨hlk.1.1.1.2, hlk.1.1.2, fun z => absurd z hlk.2⟩
    · have hlk : (decide (((mO y, idx), b) ∈ ML) && decide (b < 190) && decide (b ≠ 188) && decide (mK b = 2) && (decide (b ≠ 68) || decide (y = 188))) = true := hlk
      simp only [Bool.and_eq_true, Bool.or_eq_true, decide_eq_true_eq] at hlk
      exact ⟨hlk.1.1.1.2, hlk.1.1.2, fun z => hlk.2.elim (fun r => absurd z r) id⟩
    · have hlk : (decide (((mO y, idx), b) ∈ NL) && decide (b < 190) && decide (b ≠ 188) && decide (mK b = 2) && decide (b ≠ 68)) = true := hlk
      simp only [Bool.and_eq_true, decide_eq_true_eq] at hlk
      exact ⟨hlk.1.1.1.2, hlk.1.1.2, fun z => absurd z hlk.2⟩
    · have hlk : (decide (((mO y, idx), b) ∈ NL) && decide (b < 190) && decide (b ≠ 188) && decide (mK b = 1) && decide (b ≠ 68)) = true := hlk
      simp only [Bool.and_eq_true, decide_eq_true_eq] at hlk
      exact ⟨hlk.1.1.1.2, hlk.1.1.2, fun z => absurd z hlk.2⟩
  obtain ⟨hb1, hb2, hb3⟩ := hb190
  obtain ⟨n1, n2, n3, n4, n5, n6, n7⟩ := nums b hb1
  obtain ⟨k1, k2, k3, k4, k5⟩ := okm b hb1 hb2
  have hpar := pars b hb1
  have hpl := plains (mO b) n1
  have hG := good_mW hb1 hb2
  have hroom : (rmD d1 mc1 ms1).frames + 1 ≤ R.frames ∧ 8 + (mL b + 11) + (rmD d1 mc1 ms1).locals ≤ R.locals := by
    refine ⟨by show d1 + 1 ≤ _; rw [hRm.1]; omega, ?_⟩
    show 8 + (mL b + 11) + 40 * d1 ≤ R.locals
    have := hRm.2.1
    omega
  have hini : (Cond.initialized (mN b).cls).before args s = true := hts _ (inis (mO b) n1 (by
    intro q
    have hq : ∀ z, z < 190 → mO z = 10 → z = 188 := by decide +kernel
    exact hb2 (hq b hb1 q)))
  have hpre : ∀ U : State, U.heap = H → s.WarmedH U.vm → PM b D cI cC ad h as H.size (as.map (im ad)).toArray U := fun U hU hW => by
    refine ⟨rfl, by rw [hU], by rw [hU]; exact hP, va_K.moved hW.alike hK, hD.weaken (fun _ _ _ _ => trivial), fun x hx => va_Nw.warmM hW (hNK x hx), fun hy => ?_⟩
    have he : ad STR = ad0 STR := e4 STR (Or.inr (Nat.le_refl _))
    rw [he]
    exact (hSx (Or.inr (hb3 hy))).at hS hW hU hfree
  have hf9 : cells + mc1 ≤ R.cells ∧ slots + ms1 ≤ R.slots := ⟨by rw [hRm.2.2.1]; omega, by rw [hRm.2.2.2]; omega⟩
  have hW8 : 2 * (F0 m pc rs (st.map (im ad))).monitorRoom + ((st'.map (im ad)).map fun v => v.category).sum ≤ 8 := lv_room (by rw [im_sum]; exact h8)
  have hfix : CallFix p m c (mB y) (mL y) s args wl (cN (mO y)) := ⟨hx, hb, hml, hown, hts⟩
  have hW0 : mW b = Cond.code (mN b) (mB b) (mL b) (mT b) :: wl := rfl
  rcases htag with q | q | q | q | q <;> subst q
  · have hlk : (decide (((mO y, idx), b) ∈ ML) && decide (b < 190) && decide (b ≠ 188) && decide (mK b = 0) && decide (b ≠ 68)) = true := hlk
    simp only [Bool.and_eq_true, decide_eq_true_eq] at hlk
    have hk0 := hlk.1.2
    obtain ⟨ob, as', rfl, hob⟩ := hrec (by omega)
    obtain ⟨nn, hsh⟩ := hob rfl
    rw [if_neg (by omega)] at hpar
    have hw := wo_get (cI := cI) (cC := cC) (ad := ad) hsh
    rw [ce_o] at hw
    exact va_runV (n := mA b - 1) (bytes := mB b) (maxL := mL b) (ret := mT b) (C := cN (mO b)) (b := ad ob) (As := as'.map (im ad)) hfix hM ⟨callB_of (mA b - 1) hts hG hW0 rfl rfl hini (hts _ (ML_ok _ hlk.1.1.1.1)) ⟨hpl.2.1, hpl.2.2, hpar⟩ hroom, hts _ (k3 (by omega)), hts _ (k4 hk0)⟩ ⟨PM.blind, va_recv hK hP (okc (mO b) (n6 (by omega)).2).1 hw, hpre⟩ rfl (by rw [List.length_map]; simp at hal; omega) hL.1 (by rw [hst]; simp [im]) hW8 hdec hf9
  · have hlk : (decide (((mO y, idx), b) ∈ ML) && decide (b < 190) && decide (b ≠ 188) && decide (mK b = 1) && decide (b ≠ 68)) = true := hlk
    simp only [Bool.and_eq_true, decide_eq_true_eq] at hlk
    have hk0 := hlk.1.2
    rw [if_pos hk0] at hpar
    exact va_runS (n := mA b) (bytes := mB b) (maxL := mL b) (ret := mT b) (As := as.map (im ad)) hfix hM ⟨callB_of (mA b) hts hG hW0 rfl rfl hini (hts _ (ML_ok _ hlk.1.1.1.1)) ⟨hpl.2.1, hpl.2.2, hpar⟩ hroom, hts _ (k2 hk0)⟩ ⟨PM.blind, hpre⟩ rfl (by rw [List.length_map]; exact hal) hL.1 (by rw [hst]; simp) hW8 hdec hf9
  · have hlk : (decide (((mO y, idx), b) ∈ ML) && decide (b < 190) && decide (b ≠ 188) && decide (mK b = 2) && (decide (b ≠ 68) || decide (y = 188))) = true := hlk
    simp only [Bool.and_eq_true, Bool.or_eq_true, decide_eq_true_eq] at hlk
    have hk0 := hlk.1.2
    obtain ⟨ob, as', rfl, -⟩ := hrec (by omega)
    rw [if_neg (by omega)] at hpar
    have hT : mT b = none := by unfold mT; rw [if_pos (n7 hk0)]
    rw [hT] at hW0
    exact va_runI (n := mA b - 1) (bytes := mB b) (maxL := mL b) (b := ad ob) (As := as'.map (im ad)) hfix hM ⟨callB_of (mA b - 1) hts hG hW0 rfl rfl hini (hts _ (ML_ok _ hlk.1.1.1.1)) ⟨hpl.2.1, hpl.2.2, hpar⟩ hroom, k5 hk0, hts _ (k3 (by omega))⟩ ⟨PM.blind, hpre⟩ rfl (by rw [List.length_map]; simp at hal; omega) hL.1 (by rw [hst]; simp [im]) hW8 hdec hf9
  · have hlk : (decide (((mO y, idx), b) ∈ NL) && decide (b < 190) && decide (b ≠ 188) && decide (mK b = 2) && decide (b ≠ 68)) = true := hlk
    simp only [Bool.and_eq_true, decide_eq_true_eq] at hlk
    have hk0 := hlk.1.2
    obtain ⟨ob, as', rfl, -⟩ := hrec (by omega)
    rw [if_neg (by omega)] at hpar
    have hT : mT b = none := by unfold mT; rw [if_pos (n7 hk0)]
    rw [hT] at hW0
    have hnk : va_Nw (.methodLinkNest (cN (mO y)) idx (mN b) "TierPods") s := hNK ((mO y, idx), b) hlk.1.1.1.1
    exact va_runIN (host := "TierPods") (index := idx) (own := cN (mO y)) (n := mA b - 1) (bytes := mB b) (maxL := mL b) (b := ad ob) (As := as'.map (im ad)) hfix hM ⟨va_cnB (mA b - 1) hts hG hW0 rfl rfl hnk hini ⟨hpl.2.1, hpl.2.2, hpar⟩ hroom, k5 hk0, hts _ (k3 (by omega))⟩ ⟨PM.blind, hpre⟩ rfl (by rw [List.length_map]; simp at hal; omega) hL.1 (by rw [hst]; simp [im]) hW8 hdec hf9
  · have hlk : (decide (((mO y, idx), b) ∈ NL) && decide (b < 190) && decide (b ≠ 188) && decide (mK b = 1) && decide (b ≠ 68)) = true := hlk
    simp only [Bool.and_eq_true, decide_eq_true_eq] at hlk
    have hk0 := hlk.1.2
    rw [if_pos hk0] at hpar
    have hnk : va_Nw (.methodLinkNest (cN (mO y)) idx (mN b) "TierPods") s := hNK ((mO y, idx), b) hlk.1.1.1.1
    exact va_runSN (host := "TierPods") (index := idx) (own := cN (mO y)) (n := mA b) (bytes := mB b) (maxL := mL b) (ret := mT b) (As := as.map (im ad)) hfix hM ⟨va_cnB (mA b) hts hG hW0 rfl rfl hnk hini ⟨hpl.2.1, hpl.2.2, hpar⟩ hroom, hts _ (k2 hk0), trivial⟩ ⟨PM.blind, hpre⟩ rfl (by rw [List.length_map]; exact hal) hL.1 (by rw [hst]; simp) hW8 hdec hf9
theorem im_old {ad ad2 : Nat → Nat} {h : Hp} {v : VV} (ha : ∀ k, k < h.1.length ∨ STR ≤ k → ad2 k = ad k) (ho : okV h v) : im ad2 v = im ad v := by
  match v, ho with
  | .inl z, _ => rfl
  | .inr none, _ => rfl
  | .inr (some k), ho =>
    show Value.ref (ad2 k) = Value.ref (ad k)
    rw [ha k ho]
theorem s_call (C0 : Cx p R s m args meth c y d D cI cC A mc ms) {o : Op} (hcd : cd y pc = some o) {as st' : List VV} {d1 mc1 ms1 : Nat} {r1 : VV} {h1 : Hp} (hco : callOk o st as st' h) (hdd : d = d1 + 1) (hmc : mc1 ≤ bc) (hms : ms1 ≤ bs) (hSx : y = 68 ∨ y = 188 → Sx s A (ad0 STR))
    (hM : ∀ (ad : Nat → Nat) (sz : Nat), okH h → (∀ v ∈ as, okV h v) → MP l o.2.2.1 d1 D cI cC ad h as mc1 ms1 sz r1 h1) (hk : WA p l e R s m args below meth c y D cI cC A mc ms ad0 n0 Qf (pc + 3, ls, psh o.2.2.1 r1 st', h1, bc - mc1, bs - ms1)) : WA p l e R s m args below meth c y D cI cC A mc ms ad0 n0 Qf (pc, ls, st, h, bc, bs) := by
  intro ad H locs cells slots rs hR
  have hR0 := hR
  obtain ⟨hL, o1, o2, o3, hP, hD, hS, e1, e2, e3, e4⟩ := hR
  dsimp only at hL o1 o2 o3 hP hD hS e1 e2 e3 e4
  have hst := hco.2.1
  have oas : ∀ v ∈ as, okV h v := fun v hv => o2 v (by rw [hst]; exact List.mem_append_left _ (List.mem_reverse.mpr hv))
  have ost : ∀ v ∈ st', okV h v := fun v hv => o2 v (by rw [hst]; exact List.mem_append_right _ hv)
  have hA := C0.2.2.2.2.2.2.2.2.1
  have hfree : ∀ q, va_A (wo cI cC ad h) H.size q → A q := by
    rintro q (⟨k, e9, hq⟩ | hq)
    · exact hD.2 k _ hq
    · exact hA q (Nat.le_trans hS.1 hq)
  have hM := hM ad H.size o3 oas
  by_cases hz : mR o.2.2.1 = 0
  · obtain ⟨rfl, hM2⟩ := hM.1 hz
    unfold QV at hM2
    refine va_callv (cal_run C0 hcd hco hdd hR0 hmc hms hSx hM2) hS (fun q _ hq => hfree q hq) hfree (fun ad2 t H1 locs1 ht hvm hpost hB hsz hk1 hS1 => ?_)
    obtain ⟨p1, p2, p3⟩ := hpost
    obtain ⟨hP1, hD1⟩ := hB
    rw [ht] at hP1
    have hgo := hk ad2 H1 locs1 (cells + mc1) (slots + ms1) rs ⟨hL.ext (fun v hv => im_old p3 (o1 v hv)), fun v hv => okV.grow p2 (o1 v hv), fun v hv => by
      have hv : v ∈ psh o.2.2.1 (.inr none) st' := hv
      rw [psh, if_pos hz] at hv
      exact okV.grow p2 (ost v hv), p1, hP1, hD1.weaken (fun _ _ _ q => hfree _ q), hS1, by dsimp only; omega, by dsimp only; omega, Nat.le_trans e3 p2, fun k hk9 => by
        rw [p3 k (by omega)]
        exact e4 k hk9⟩
    dsimp only at hgo
    rw [psh, if_pos hz, map_ext (fun v hv => im_old p3 (ost v hv))] at hgo
    exact hgo
  · obtain ⟨z, rfl, hM2⟩ := hM.2 hz
    unfold QI at hM2
    refine va_calli (cal_run C0 hcd hco hdd hR0 hmc hms hSx hM2) hS (fun q _ hq => hfree q hq) hfree (fun rr ad2 t H1 locs1 ht hvm hpost hB hsz hk1 hS1 => ?_)
    obtain ⟨rfl, pz, p1, p2, p3⟩ := hpost
    obtain ⟨hP1, hD1⟩ := hB
    rw [ht] at hP1
    have hgo := hk ad2 H1 locs1 (cells + mc1) (slots + ms1) rs ⟨hL.ext (fun v hv => im_old p3 (o1 v hv)), fun v hv => okV.grow p2 (o1 v hv), fun v hv => by
      have hv : v ∈ psh o.2.2.1 (.inl z) st' := hv
      rw [psh, if_neg hz] at hv
      rcases List.mem_cons.mp hv with q | q
      · subst q; exact pz
      · exact okV.grow p2 (ost v q), p1, hP1, hD1.weaken (fun _ _ _ q => hfree _ q), hS1, by dsimp only; omega, by dsimp only; omega, Nat.le_trans e3 p2, fun k hk9 => by
        rw [p3 k (by omega)]
        exact e4 k hk9⟩
    dsimp only at hgo
    rw [psh, if_neg hz, List.map_cons, map_ext (fun v hv => im_old p3 (ost v hv))] at hgo
    exact hgo
end SND
end
section
/-! ===== the text constant ===== -/
section SND
variable {p : Program} {l : Launch} {e : Env} {R : Room} {s : State} {m : MethodId} {args : Array Value} {below : List Frame} {meth : Method} {c : Code} {y d : Nat} {D : va_G} {cI cC : ClassId} {A : Nat → Prop} {mc ms : Nat} {ad0 : Nat → Nat} {n0 : Nat} {Qf : State → Prop}
variable {pc : Nat} {ls st : List VV} {h : Hp} {bc bs : Nat} {t : St}
theorem s_ldcS (C0 : Cx p R s m args meth c y d D cI cC A mc ms) (hy : y = 68) (hd1 : 1 ≤ d) (hSx : Sx s A (ad0 STR)) (hd : decode (mB y) pc = .ok ((.ldc 78, 2))) (hn : n_ldcS pc ls st h bc bs t) (hk : WA p l e R s m args below meth c y D cI cC A mc ms ad0 n0 Qf (t)) : WA p l e R s m args below meth c y D cI cC A mc ms ad0 n0 Qf (pc, ls, st, h, bc, bs) := by
  sorry
theorem s_sLen (C0 : Cx p R s m args meth c y d D cI cC A mc ms) (hy : y = 68) (hd1 : 1 ≤ d) (hSx : Sx s A (ad0 STR)) (hd : decode (mB y) pc = .ok ((.invokevirtual 80, 3))) (hn : n_sLen pc ls st h bc bs t) (hk : WA p l e R s m args below meth c y D cI cC A mc ms ad0 n0 Qf (t)) : WA p l e R s m args below meth c y D cI cC A mc ms ad0 n0 Qf (pc, ls, st, h, bc, bs) := by
  sorry
theorem s_sCh (C0 : Cx p R s m args meth c y d D cI cC A mc ms) (hy : y = 68) (hd1 : 1 ≤ d) (hSx : Sx s A (ad0 STR)) (hd : decode (mB y) pc = .ok ((.invokevirtual 86, 3))) (hn : n_sCh pc ls st h bc bs t) (hk : WA p l e R s m args below meth c y D cI cC A mc ms ad0 n0 Qf (t)) : WA p l e R s m args below meth c y D cI cC A mc ms ad0 n0 Qf (pc, ls, st, h, bc, bs) := by
  sorry
end SND
end
section
/-! ===== a step of any kind; a run ===== -/
section SND
variable {p : Program} {l : Launch} {e : Env} {R : Room} {s : State} {m : MethodId} {args : Array Value} {below : List Frame} {meth : Method} {c : Code} {y d : Nat} {D : va_G} {cI cC : ClassId} {A : Nat → Prop} {mc ms : Nat} {ad0 : Nat → Nat} {n0 : Nat} {Qf : State → Prop}
variable {pc : Nat} {ls st : List VV} {h : Hp} {bc bs : Nat} {t : St}
theorem s_nx (C0 : Cx p R s m args meth c y d D cI cC A mc ms) {X : Nat × (Int → Int)} {o : Op} (hcd : cd y pc = some o) (hd1 : 1 ≤ d) (hX : y = 188 → Xx X s A (ad0 SCR)) (hSx : y = 68 ∨ y = 188 → Sx s A (ad0 STR)) (hn : nx X o pc ls st h bc bs t) (hk : WA p l e R s m args below meth c y D cI cC A mc ms ad0 n0 Qf (t)) : WA p l e R s m args below meth c y D cI cC A mc ms ad0 n0 Qf (pc, ls, st, h, bc, bs) := by
  obtain ⟨hdec, hlk⟩ := cd_ok hcd
  obtain ⟨tag, a, b, cc, z, tg⟩ := o
  by_cases q0 : tag = 0
  · subst q0
    exact s_iload C0 hdec hn hk
  by_cases q1 : tag = 1
  · subst q1
    exact s_aload C0 hdec hn hk
  by_cases q2 : tag = 2
  · subst q2
    exact s_istore C0 hdec hn hk
  by_cases q3 : tag = 3
  · subst q3
    exact s_astore C0 hdec hn hk
  by_cases q8 : tag = 8
  · subst q8
    exact s_iadd C0 hdec hn hk
  by_cases q9 : tag = 9
  · subst q9
    exact s_isub C0 hdec hn hk
  by_cases q10 : tag = 10
  · subst q10
    exact s_imul C0 hdec hn hk
  by_cases q11 : tag = 11
  · subst q11
    exact s_idiv C0 hdec hn hk
  by_cases q12 : tag = 12
  · subst q12
    exact s_irem C0 hdec hn hk
  by_cases q13 : tag = 13
  · subst q13
    exact s_iinc C0 hdec hn hk
  by_cases q14 : tag = 14
  · subst q14
    exact s_iand C0 hdec hn hk
  by_cases q15 : tag = 15
  · subst q15
    exact s_i2c C0 hdec hn hk
  by_cases q16 : tag = 16
  · subst q16
    exact s_dup C0 hdec hn hk
  by_cases q17 : tag = 17
  · subst q17
    exact s_dup2 C0 hdec hn hk
  by_cases q18 : tag = 18
  · subst q18
    exact s_pop C0 hdec hn hk
  by_cases q19 : tag = 19
  · subst q19
    exact s_goto C0 hdec hn hk
  by_cases q20 : tag = 20
  · subst q20
    exact s_if_eq C0 hdec hn hk
  by_cases q21 : tag = 21
  · subst q21
    exact s_if_ne C0 hdec hn hk
  by_cases q22 : tag = 22
  · subst q22
    exact s_if_lt C0 hdec hn hk
  by_cases q23 : tag = 23
  · subst q23
    exact s_if_ge C0 hdec hn hk
  by_cases q24 : tag = 24
  · subst q24
    exact s_if_gt C0 hdec hn hk
  by_cases q25 : tag = 25
  · subst q25
    exact s_if_le C0 hdec hn hk
  by_cases q26 : tag = 26
  · subst q26
    exact s_icmp_eq C0 hdec hn hk
  by_cases q27 : tag = 27
  · subst q27
    exact s_icmp_ne C0 hdec hn hk
  by_cases q28 : tag = 28
  · subst q28
    exact s_icmp_lt C0 hdec hn hk
  by_cases q29 : tag = 29
  · subst q29
    exact s_icmp_ge C0 hdec hn hk
  by_cases q30 : tag = 30
  · subst q30
    exact s_icmp_gt C0 hdec hn hk
  by_cases q31 : tag = 31
  · subst q31
    exact s_icmp_le C0 hdec hn hk
  by_cases q38 : tag = 38
  · subst q38
    exact s_iald C0 hdec hn hk
  by_cases q39 : tag = 39
  · subst q39
    exact s_iast C0 hdec hn hk
  by_cases q40 : tag = 40
  · subst q40
    exact s_cald C0 hdec hn hk
  by_cases q41 : tag = 41
  · subst q41
    exact s_cast C0 hdec hn hk
  by_cases q42 : tag = 42
  · subst q42
    exact s_alen C0 hdec hn hk
  by_cases q43 : tag = 43
  · subst q43
    exact s_newi C0 hdec hn hk
  by_cases q44 : tag = 44
  · subst q44
    exact s_newc C0 hdec hn hk
  by_cases q51 : tag = 51
  · subst q51
    exact s_swt C0 hdec hn hk
  by_cases q4 : tag = 4
  · subst q4
    exact s_iconst C0 (of_decide_eq_true hlk) hdec hn hk
  by_cases q5 : tag = 5
  · subst q5
    exact s_bipush C0 (of_decide_eq_true hlk) hdec hn hk
  by_cases q6 : tag = 6
  · subst q6
    exact s_sipush C0 (of_decide_eq_true hlk) hdec hn hk
  by_cases q7 : tag = 7
  · subst q7
    exact s_ldc C0 (of_decide_eq_true hlk) hdec hn hk
  by_cases q32 : tag = 32
  · subst q32
    have hlk : (decide (((mO y, a), (b, cc)) ∈ FL) && decide (b < 10) && decide (cc < nF b) && decide (fK b cc ≤ 1)) = true := hlk
    simp only [Bool.and_eq_true, decide_eq_true_eq] at hlk
    exact s_getI C0 hlk.1.1.1 hlk.1.1.2 hlk.1.2 hlk.2 hdec hn hk
  by_cases q33 : tag = 33
  · subst q33
    have hlk : (decide (((mO y, a), (b, cc)) ∈ FL) && decide (b < 10) && decide (cc < nF b) && decide (2 ≤ fK b cc)) = true := hlk
    simp only [Bool.and_eq_true, decide_eq_true_eq] at hlk
    exact s_getR C0 hlk.1.1.1 hlk.1.1.2 hlk.1.2 hlk.2 hdec hn hk
  by_cases q34 : tag = 34
  · subst q34
    have hlk : (decide (((mO y, a), (b, cc)) ∈ FL) && decide (b < 10) && decide (cc < nF b) && decide (fK b cc = 0)) = true := hlk
    simp only [Bool.and_eq_true, decide_eq_true_eq] at hlk
    exact s_putI C0 hlk.1.1.1 hlk.1.1.2 hlk.1.2 hlk.2 hdec hn hk
  by_cases q35 : tag = 35
  · subst q35
    have hlk : (decide (((mO y, a), (b, cc)) ∈ FL) && decide (b < 10) && decide (cc < nF b) && decide (fK b cc = 1)) = true := hlk
    simp only [Bool.and_eq_true, decide_eq_true_eq] at hlk
    exact s_putZ C0 hlk.1.1.1 hlk.1.1.2 hlk.1.2 hlk.2 hdec hn hk
  by_cases q36 : tag = 36
  · subst q36
    have hlk : (decide (((mO y, a), (b, cc)) ∈ FL) && decide (b < 10) && decide (cc < nF b) && decide (fK b cc = 2)) = true := hlk
    simp only [Bool.and_eq_true, decide_eq_true_eq] at hlk
    exact s_putR C0 hlk.1.1.1 hlk.1.1.2 hlk.1.2 hlk.2 hdec hn hk
  by_cases q37 : tag = 37
  · subst q37
    have hlk : (decide (((mO y, a), (b, cc)) ∈ FL) && decide (b < 10) && decide (cc < nF b) && decide (fK b cc = 3) && decide (mO y = b) && decide (mK y = 2) && decide (y < 188)) = true := hlk
    simp only [Bool.and_eq_true, decide_eq_true_eq] at hlk
    exact s_putRF C0 hlk.1.1.1.1.1.1 hlk.1.1.1.1.1.2 hlk.1.1.1.1.2 hlk.1.1.1.2 hlk.1.1.2 hlk.1.2 hlk.2 hdec hn hk
  by_cases q45 : tag = 45
  · subst q45
    have hlk : (decide (((mO y, a), b) ∈ CK) && decide (b < 10) && decide (cc = nF b)) = true := hlk
    simp only [Bool.and_eq_true, decide_eq_true_eq] at hlk
    exact s_new C0 hlk.1.1 hlk.1.2 hlk.2 hdec hn hk
  by_cases q49 : tag = 49
  · subst q49
    exact s_objI C0 (of_decide_eq_true hlk) hd1 hdec hn hk
  by_cases q50 : tag = 50
  · subst q50
    exact s_copy C0 (of_decide_eq_true hlk) hd1 hdec hn hk
  by_cases q61 : tag = 61
  · subst q61
    exact s_max C0 (of_decide_eq_true hlk) hd1 hdec hn hk
  by_cases q62 : tag = 62
  · subst q62
    exact s_min C0 (of_decide_eq_true hlk) hd1 hdec hn hk
  by_cases q57 : tag = 57
  · subst q57
    exact s_sld C0 (hX (of_decide_eq_true hlk)) hdec hn hk
  by_cases q58 : tag = 58
  · subst q58
    exact s_slen C0 (hX (of_decide_eq_true hlk)) hdec hn hk
  by_cases q54 : tag = 54
  · subst q54
    have hlk : (decide (y = 68) && decide (a = 78)) = true := hlk
    simp only [Bool.and_eq_true, decide_eq_true_eq] at hlk
    obtain ⟨hy, rfl⟩ := hlk
    exact s_ldcS C0 hy hd1 (hSx (Or.inl hy)) hdec hn hk
  by_cases q55 : tag = 55
  · subst q55
    have hlk : (decide (y = 68) && decide (a = 80)) = true := hlk
    simp only [Bool.and_eq_true, decide_eq_true_eq] at hlk
    obtain ⟨hy, rfl⟩ := hlk
    exact s_sLen C0 hy hd1 (hSx (Or.inl hy)) hdec hn hk
  by_cases q56 : tag = 56
  · subst q56
    have hlk : (decide (y = 68) && decide (a = 86)) = true := hlk
    simp only [Bool.and_eq_true, decide_eq_true_eq] at hlk
    obtain ⟨hy, rfl⟩ := hlk
    exact s_sCh C0 hy hd1 (hSx (Or.inl hy)) hdec hn hk
  exfalso
  have hn : nx X (tag, a, b, cc, z, tg) pc ls st h bc bs t := hn
  unfold nx at hn
  dsimp only at hn
  simp only [if_neg q0, if_neg q1, if_neg q2, if_neg q3, if_neg q4, if_neg q5, if_neg q6, if_neg q7, if_neg q8, if_neg q9, if_neg q10, if_neg q11, if_neg q12, if_neg q13, if_neg q14, if_neg q15, if_neg q16, if_neg q17, if_neg q18, if_neg q19, if_neg q20, if_neg q21, if_neg q22, if_neg q23, if_neg q24, if_neg q25, if_neg q26, if_neg q27, if_neg q28, if_neg q29, if_neg q30, if_neg q31, if_neg q32, if_neg q33, if_neg q34, if_neg q35, if_neg q36, if_neg q37, if_neg q38, if_neg q39, if_neg q40, if_neg q41, if_neg q42, if_neg q43, if_neg q44, if_neg q45, if_neg q49, if_neg q50, if_neg q51, if_neg q54, if_neg q55, if_neg q56, if_neg q57, if_neg q58, if_neg q61, if_neg q62, if_false] at hn
/-- what is to be shown at a method's end -/
def RH (p : Program) (l : Launch) (e : Env) (R : Room) (s : State) (m : MethodId) (args : Array Value) (below : List Frame) (meth : Method) (c : Code) (y : Nat) (D : va_G) (cI cC : ClassId) (A : Nat → Prop) (mc ms : Nat) (ad0 : Nat → Nat) (n0 : Nat) (Qf : State → Prop) (r : VV) (h' : Hp) : Prop :=
  ∀ (pc : Nat) (ls st : List VV) (bc bs : Nat) (ad : Nat → Nat) (H : Heap) (locs : List Loc) (cells slots : Nat) (rs : Array Slot), Rl s y D cI cC A mc ms ad0 n0 (pc, ls, st, h', bc, bs) ad H locs cells slots rs →
    ((∃ z, r = .inl z ∧ st = [.inl z] ∧ mR y ≠ 0 ∧ (mR y = 2 → z = 0 ∨ z = 1) ∧ decode (mB y) pc = .ok (.ireturn, 1)) ∨ (r = .inr none ∧ st = [] ∧ mR y = 0 ∧ decode (mB y) pc = .ok (.return_, 1))) →
    W p l e R s m args below meth c H locs cells slots Qf (F0 m pc rs (st.map (im ad)))
end SND
theorem lv_args_mem (ad : Nat → Nat) : ∀ (as : List VV) (k i : Nat) (v : VV), as[i]? = some v → (k + i, im ad v) ∈ lv_args k (as.map (im ad))
  | [], _, _, _, h => by simp at h
  | a :: as, k, i, v, h => by
    rw [List.map_cons, lv_args]
    rw [if_neg (by rw [im_cat]; decide)]
    cases i with
    | zero =>
      rw [List.getElem?_cons_zero] at h
      cases h
      exact List.mem_cons_self
    | succ i =>
      rw [List.getElem?_cons_succ] at h
      have := lv_args_mem ad as (k + 1) i v h
      rw [show k + (i + 1) = k + 1 + i by omega]
      exact List.mem_cons_of_mem _ this
theorem lg_len (ad : Nat → Nat) : ∀ (as : List VV), (lg_sl (as.map (im ad))).length = as.length
  | [] => rfl
  | a :: as => by
    have := lg_len ad as
    unfold lg_sl at this ⊢
    rw [List.map_cons, List.flatMap_cons, List.length_append, this, if_neg (by rw [im_cat]; decide)]
    simp
    omega
theorem ent_Lc {ad : Nat → Nat} {b : Nat} {as : List VV} {rs : Array Slot} (hle : as.length ≤ mL b) (hl : lv_has rs (mL b) (lv_args 0 (as.map (im ad)))) : Lc ad (ent b as) rs (mL b) := by
  refine ⟨hl.1, by unfold ent; simp; omega, hl.2.1, fun i v hi hv => ?_⟩
  unfold ent at hi
  rcases Nat.lt_or_ge i as.length with q | q
  · rw [List.getElem?_append_left q] at hi
    have := hl.2.2 (0 + i, im ad v) (lv_args_mem ad as 0 i v hi)
    rw [Nat.zero_add] at this
    exact this
  · rw [List.getElem?_append_right q] at hi
    have := List.mem_of_getElem? hi
    exact absurd (List.mem_replicate.mp this).2 hv
theorem ent_ok {h : Hp} {b : Nat} {as : List VV} (ha : ∀ v ∈ as, okV h v) : ∀ v ∈ ent b as, okV h v := by
  intro v hv
  unfold ent at hv
  rcases List.mem_append.mp hv with q | q
  · exact ha v q
  · rw [(List.mem_replicate.mp q).2]
    exact trivial
theorem mr1 {y : Nat} (hy : y < 190) (h0 : mR y ≠ 0) (h2 : mR y ≠ 2) : mR y = 1 := by
  have := (nums y hy).2.2.2.1
  omega
/-- a method whose body is walked has its contract -/
theorem met_of {l : Launch} {y d : Nat} {D : va_G} {cI cC : ClassId} {ad : Nat → Nat} {h : Hp} {as : List VV} {mc ms sz : Nat} {r : VV} {h' : Hp} (hy : y < 190) (h8 : y ≠ 188) (o3 : okH h) (oas : ∀ v ∈ as, okV h v) (hal : as.length = mA y)
    (hr : (mR y = 0 → r = .inr none) ∧ (mR y ≠ 0 → ∃ z, r = .inl z ∧ (mR y = 2 → z = 0 ∨ z = 1)))
    (hW : ∀ {p : Program} {e : Env} {R : Room} {s : State} {m : MethodId} {args : Array Value} {below : List Frame} {meth : Method} {c : Code} {A : Nat → Prop} {Qf : State → Prop}, Cx p R s m args meth c y d D cI cC A mc ms → (y = 68 → Sx s A (ad STR)) → RH p l e R s m args below meth c y D cI cC A mc ms ad h.1.length Qf r h' → WA p l e R s m args below meth c y D cI cC A mc ms ad h.1.length Qf (0, ent y as, [], h, mc, ms)) :
    MP l y d D cI cC ad h as mc ms sz r h' := by
  have hpl := (plains (mO y) (nums y hy).1).1
  have key : ∀ (Qc : Array Value → State → Outcome → State → Prop), (∀ {p : Program} {e : Env} {s : State} {m : MethodId} {below : List Frame} {meth : Method} {c : Code}, s.heap.size = sz → meth.locks = false → meth.sig.returnType = mT y → p.tables.exec = Jvm.exec → c.code = mB y → RH p l e (rmD d mc ms) s m (as.map (im ad)).toArray below meth c y D cI cC (va_A (wo cI cC ad h) s.heap.size) mc ms ad h.1.length (MQ below Qc (as.map (im ad)).toArray s mc ms (va_A (wo cI cC ad h) s.heap.size)) r h') → Met l (mN y) (mW y) (rmD d mc ms) (PM y D cI cC ad h as sz) Qc mc ms (va_A (wo cI cC ad h) sz) := by
    intro Qc hQ
    refine Met.ofW (cc := mB y) (maxL := mL y) (ret := mT y) hpl rfl ?_
    intro p e s m args below meth c s₁ B hml hv
    obtain ⟨rfl, hsz, hP, hK, hD0, hN, hSx⟩ := hv
    subst hsz
    have hts := atoms_spec (ws := mW y) B.pre
    have hwl : ∀ w ∈ wl, w.before (as.map (im ad)).toArray s = true := fun w hw => hts w (List.mem_cons_of_mem _ hw)
    have hown : s.vm.findClass (mN y).cls = some m.cls := findClass_of_methodNamed B.named
    have hC : Cx p (rmD d mc ms) s m (as.map (im ad)).toArray meth c y d D cI cC (va_A (wo cI cC ad h) s.heap.size) mc ms := ⟨B.exec, B.bytes, hml, hown, hwl, hK, ⟨rfl, Nat.le_refl _, rfl, rfl⟩, fun _ => (name_of_methodNamed B.named B.method).1, fun q hq => Or.inr hq, hN⟩
    have hle : as.length ≤ mL y := by rw [hal]; exact (nums y hy).2.2.1
    have hl := lv_entry (as.map (im ad)) (n := mL y) (by rw [lg_len]; exact hle)
    rw [lg_entry_eq]
    generalize (lg_sl (as.map (im ad)) ++ List.replicate (mL y - (lg_sl (as.map (im ad))).length) Slot.unset).toArray = rs at hl ⊢
    exact hW (e := e) (below := below) hC hSx (hQ rfl B.notSynchronized B.returns B.exec B.bytes) ad s.heap [] 0 0 rs ⟨ent_Lc hle hl, ent_ok oas, fun v hv => by simp at hv, o3, hP, hD0.self, va_S.rf, by simp, by simp, Nat.le_refl _, fun _ _ => rfl⟩
  refine ⟨fun hz => ⟨hr.1 hz, key _ ?_⟩, fun hz => ?_⟩
  · intro p e s m below meth c hsz hlocks hrt hx hb pc ls st bc bs ad2 H locs cells slots rs hR hend
    rw [hr.1 hz] at hend
    rcases hend with ⟨z, q, -⟩ | ⟨-, rfl, -, hdec⟩
    · cases q
    · obtain ⟨hL, o1, o2, o3', hP, hD, hS, e1, e2, e3, e4⟩ := hR
      dsimp only at hL o1 o2 o3' hP hD hS e1 e2 e3 e4
      refine W.widen (k := mc) (n := ms) (by omega) (by omega) ?_
      refine W.vret hx hb (by rw [hrt]; unfold mT; rw [if_pos hz]) (fun t ht hW => ?_) hS.2.2 hdec hlocks
      unfold QV
      refine ⟨⟨ad2, rfl, ⟨o3', e3, e4⟩, by rw [ht]; exact hP, ?_⟩, ?_⟩
      · rw [← hsz]; exact hD
      · rw [← hsz]; exact hS.F ht
  · obtain ⟨z, rfl, hz2⟩ := hr.2 hz
    refine ⟨z, rfl, key _ ?_⟩
    intro p e s m below meth c hsz hlocks hrt hx hb pc ls st bc bs ad2 H locs cells slots rs hR hend
    rcases hend with ⟨z', q, rfl, -, hz3, hdec⟩ | ⟨q, -⟩
    · have q : z = z' := by injection q
      subst q
      obtain ⟨hL, o1, o2, o3', hP, hD, hS, e1, e2, e3, e4⟩ := hR
      dsimp only at hL o1 o2 o3' hP hD hS e1 e2 e3 e4
      refine W.widen (k := mc) (n := ms) (by omega) (by omega) ?_
      have hq : ∀ t : State, t.heap = H → s.WarmedH t.vm → QI D cI cC ad h sz z h' (as.map (im ad)).toArray s (.returned (some (.int (Int32.ofInt z)))) t := fun t ht hW => by
        unfold QI
        refine ⟨⟨Int32.ofInt z, ad2, rfl, ⟨rfl, o2 _ List.mem_cons_self, o3', e3, e4⟩, by rw [ht]; exact hP, ?_⟩, ?_⟩
        · rw [← hsz]; exact hD
        · rw [← hsz]; exact hS.F ht
      by_cases h2 : mR y = 2
      · refine W.zret (ty := .boolean) hx hb (by rw [hrt]; unfold mT; rw [if_neg hz, if_neg (by omega)]) ?_ hq hS.2.2 hdec hlocks
        rcases hz3 h2 with rfl | rfl <;> rfl
      · have h1 : mR y = 1 := mr1 hy hz h2
        exact W.iret hx hb (by rw [hrt]; unfold mT; rw [if_neg hz, if_pos h1]) hq hS.2.2 hdec hlocks
    · cases q
theorem callee_ok {y pc : Nat} {o : Op} {st as st' : List VV} {h : Hp} (hcd : cd y pc = some o) (hco : callOk o st as st' h) : o.2.2.1 < 190 ∧ o.2.2.1 ≠ 188 := by
  obtain ⟨-, hlk⟩ := cd_ok hcd
  obtain ⟨tag, idx, b, cc, zz, tg⟩ := o
  obtain ⟨htag, -⟩ := hco
  dsimp only at htag ⊢
  rcases htag with q | q | q | q | q <;> subst q
  · have hlk : (decide (((mO y, idx), b) ∈ ML) && decide (b < 190) && decide (b ≠ 188) && decide (mK b = 0) && decide (b ≠ 68)) = true := hlk
    simp only [Bool.and_eq_true, decide_eq_true_eq] at hlk
    exact ⟨hlk.1.1.1.2, hlk.1.1.2⟩
  · have hlk : (decide (((mO y, idx), b) ∈ ML) && decide (b < 190) && decide (b ≠ 188) && decide (mK b = 1) && decide (b ≠ 68)) = true := hlk
    simp only [Bool.and_eq_true, decide_eq_true_eq] at hlk
    exact ⟨hlk.1.1.1.2, hlk.1.1.2⟩
  · have hlk : (decide (((mO y, idx), b) ∈ ML) && decide (b < 190) && decide (b ≠ 188) && decide (mK b = 2) && (decide (b ≠ 68) || decide (y = 188))) = true := hlk
    simp only [Bool.and_eq_true, Bool.or_eq_true, decide_eq_true_eq] at hlk
    exact ⟨hlk.1.1.1.2, hlk.1.1.2⟩
  · have hlk : (decide (((mO y, idx), b) ∈ NL) && decide (b < 190) && decide (b ≠ 188) && decide (mK b = 2) && decide (b ≠ 68)) = true := hlk
    simp only [Bool.and_eq_true, decide_eq_true_eq] at hlk
    exact ⟨hlk.1.1.1.2, hlk.1.1.2⟩
  · have hlk : (decide (((mO y, idx), b) ∈ NL) && decide (b < 190) && decide (b ≠ 188) && decide (mK b = 1) && decide (b ≠ 68)) = true := hlk
    simp only [Bool.and_eq_true, decide_eq_true_eq] at hlk
    exact ⟨hlk.1.1.1.2, hlk.1.1.2⟩
/-- what a run answers, by its method's kind -/
theorem run_kind {X : Nat × (Int → Int)} : ∀ (n : Nat) {d y pc : Nat} {ls st : List VV} {h : Hp} {bc bs : Nat} {r : VV} {h' : Hp}, run X n d y pc ls st h bc bs r h' → (mR y = 0 → r = .inr none) ∧ (mR y ≠ 0 → ∃ z, r = .inl z ∧ (mR y = 2 → z = 0 ∨ z = 1)) := by
  intro n
  induction n with
  | zero => intro d y pc ls st h bc bs r h' q; exact q.elim
  | succ n ih =>
    intro d y pc ls st h bc bs r h' q
    obtain ⟨o, ho, q⟩ := q
    rcases q with ⟨q0, z, -, rfl, -, q5⟩ | ⟨q0, -, rfl, -⟩ | ⟨t, q1, q2, q3⟩ | ⟨d', as, st', mc, ms, r1, h1, q1, q2, q3, q4, q5, q6⟩
    · obtain ⟨-, hlk⟩ := cd_ok ho
      obtain ⟨tag, a, b, cc, zz, tg⟩ := o
      dsimp only at q0 q5
      subst q0
      have hlk : (decide (mR y = a) && decide (1 ≤ a)) = true := hlk
      simp only [Bool.and_eq_true, decide_eq_true_eq] at hlk
      exact ⟨fun e => by omega, fun _ => ⟨z, rfl, fun e => q5 (by omega)⟩⟩
    · obtain ⟨-, hlk⟩ := cd_ok ho
      obtain ⟨tag, a, b, cc, zz, tg⟩ := o
      dsimp only at q0
      subst q0
      have hlk : decide (mR y = 0) = true := hlk
      have hlk := of_decide_eq_true hlk
      exact ⟨fun _ => rfl, fun e => absurd hlk e⟩
    · exact ih q3
    · exact ih q6
/-- SOUNDNESS: a run of the pure machine is walked by the real one -/
theorem snd (X : Nat × (Int → Int)) (l : Launch) : ∀ (n : Nat) {d y pc : Nat} {ls st : List VV} {h : Hp} {bc bs : Nat} {r : VV} {h' : Hp}, run X n d y pc ls st h bc bs r h' → ∀ {p : Program} {e : Env} {R : Room} {s : State} {m : MethodId} {args : Array Value} {below : List Frame} {meth : Method} {c : Code} {D : va_G} {cI cC : ClassId} {A : Nat → Prop} {mc ms : Nat} {ad0 : Nat → Nat} {n0 : Nat} {Qf : State → Prop}, Cx p R s m args meth c y d D cI cC A mc ms → (y = 188 → Xx X s A (ad0 SCR)) → (y = 68 ∨ y = 188 → Sx s A (ad0 STR)) → RH p l e R s m args below meth c y D cI cC A mc ms ad0 n0 Qf r h' → WA p l e R s m args below meth c y D cI cC A mc ms ad0 n0 Qf (pc, ls, st, h, bc, bs) := by
  intro n
  induction n with
  | zero => intro d y pc ls st h bc bs r h' q; exact q.elim
  | succ n ih =>
    intro d y pc ls st h bc bs r h' q p e R s m args below meth c D cI cC A mc ms ad0 n0 Qf C0 hX hSx hH
    obtain ⟨o, ho, q⟩ := q
    rcases q with ⟨q0, z, rfl, rfl, rfl, q5⟩ | ⟨q0, rfl, rfl, rfl⟩ | ⟨t, q1, q2, q3⟩ | ⟨d', as, st', mc1, ms1, r1, h1, q1, q2, q3, q4, q5, q6⟩
    · obtain ⟨hdec, hlk⟩ := cd_ok ho
      obtain ⟨tag, a, b, cc, zz, tg⟩ := o
      dsimp only at q0 q5
      subst q0
      have hlk : (decide (mR y = a) && decide (1 ≤ a)) = true := hlk
      simp only [Bool.and_eq_true, decide_eq_true_eq] at hlk
      intro ad H locs cells slots rs hR
      exact hH pc ls [.inl z] bc bs ad H locs cells slots rs hR (Or.inl ⟨z, rfl, rfl, by omega, fun e => q5 (by omega), hdec⟩)
    · obtain ⟨hdec, hlk⟩ := cd_ok ho
      obtain ⟨tag, a, b, cc, zz, tg⟩ := o
      dsimp only at q0
      subst q0
      have hlk : decide (mR y = 0) = true := hlk
      have hlk := of_decide_eq_true hlk
      intro ad H locs cells slots rs hR
      exact hH pc ls [] bc bs ad H locs cells slots rs hR (Or.inr ⟨rfl, rfl, hlk, hdec⟩)
    · exact s_nx C0 ho q1 hX hSx q2 (ih q3 C0 hX hSx hH)
    · obtain ⟨b1, b2⟩ := callee_ok ho q2
      refine s_call C0 ho q2 q1 q3 q4 hSx (fun ad sz o3 oas => ?_) (ih q6 C0 hX hSx hH)
      exact met_of b1 b2 o3 oas q2.2.2.1 (run_kind n q5) (fun C1 hS1 hH1 => ih q5 C1 (fun e => absurd e b2) (fun e => hS1 (e.resolve_right b2)) hH1)
end
