section
-- ===== PART A: goes FIRST, ahead of the names: the tables' words, and 'selects' of the private methods out of them =====
/-- a private method of a class that the tables say can be made, by its rows of tables_1 -/
def lw_okq (q : MethodName × Nat) : Prop := (q.1.cls ≠ "java/lang/invoke/MethodHandle" ∧ q.1.cls ≠ "java/lang/invoke/VarHandle") ∧ Cond.instantiable q.1.cls q.2 ∈ tables_1 ∧ Cond.privateMethod q.1 ∈ tables_1 ∧ Cond.instanceMethod q.1 ∈ tables_1
theorem lw_p0 : lw_okq (⟨"WireMill", "metalAt", "(I)LWireMill$Metal;"⟩, 19) := ⟨⟨by decide +kernel, by decide +kernel⟩, List.mem_of_getElem? (i := 16) (by decide +kernel), List.mem_of_getElem? (i := 300) (by decide +kernel), List.mem_of_getElem? (i := 301) (by decide +kernel)⟩
theorem lw_p1 : lw_okq (⟨"WireMill", "pullerAt", "(I)LWireMill$Puller;"⟩, 19) := ⟨⟨by decide +kernel, by decide +kernel⟩, List.mem_of_getElem? (i := 16) (by decide +kernel), List.mem_of_getElem? (i := 332) (by decide +kernel), List.mem_of_getElem? (i := 333) (by decide +kernel)⟩
theorem lw_p2 : lw_okq (⟨"WireMill", "plateAt", "(I)LWireMill$Plate;"⟩, 19) := ⟨⟨by decide +kernel, by decide +kernel⟩, List.mem_of_getElem? (i := 16) (by decide +kernel), List.mem_of_getElem? (i := 341) (by decide +kernel), List.mem_of_getElem? (i := 342) (by decide +kernel)⟩
theorem lw_p3 : lw_okq (⟨"WireMill", "holeAt", "(II)LWireMill$Hole;"⟩, 19) := ⟨⟨by decide +kernel, by decide +kernel⟩, List.mem_of_getElem? (i := 16) (by decide +kernel), List.mem_of_getElem? (i := 373) (by decide +kernel), List.mem_of_getElem? (i := 374) (by decide +kernel)⟩
theorem lw_p4 : lw_okq (⟨"WireMill", "addCoil", "(LWireMill$Coil;)I"⟩, 19) := ⟨⟨by decide +kernel, by decide +kernel⟩, List.mem_of_getElem? (i := 16) (by decide +kernel), List.mem_of_getElem? (i := 439) (by decide +kernel), List.mem_of_getElem? (i := 440) (by decide +kernel)⟩
theorem lw_p5 : lw_okq (⟨"WireMill", "coilAt", "(I)LWireMill$Coil;"⟩, 19) := ⟨⟨by decide +kernel, by decide +kernel⟩, List.mem_of_getElem? (i := 16) (by decide +kernel), List.mem_of_getElem? (i := 447) (by decide +kernel), List.mem_of_getElem? (i := 448) (by decide +kernel)⟩
theorem lw_p6 : lw_okq (⟨"WireMill", "pullOf", "(LWireMill$Puller;)I"⟩, 19) := ⟨⟨by decide +kernel, by decide +kernel⟩, List.mem_of_getElem? (i := 16) (by decide +kernel), List.mem_of_getElem? (i := 493) (by decide +kernel), List.mem_of_getElem? (i := 494) (by decide +kernel)⟩
theorem lw_p7 : lw_okq (⟨"WireMill", "pullThrough", "(LWireMill$Coil;LWireMill$Hole;LWireMill$Puller;)I"⟩, 19) := ⟨⟨by decide +kernel, by decide +kernel⟩, List.mem_of_getElem? (i := 16) (by decide +kernel), List.mem_of_getElem? (i := 505) (by decide +kernel), List.mem_of_getElem? (i := 506) (by decide +kernel)⟩
theorem lw_p8 : lw_okq (⟨"WireMill", "throwAway", "(LWireMill$Coil;)V"⟩, 19) := ⟨⟨by decide +kernel, by decide +kernel⟩, List.mem_of_getElem? (i := 16) (by decide +kernel), List.mem_of_getElem? (i := 523) (by decide +kernel), List.mem_of_getElem? (i := 524) (by decide +kernel)⟩
theorem lw_p9 : lw_okq (⟨"WireMill", "seekWay", "(IIIII)I"⟩, 19) := ⟨⟨by decide +kernel, by decide +kernel⟩, List.mem_of_getElem? (i := 16) (by decide +kernel), List.mem_of_getElem? (i := 548) (by decide +kernel), List.mem_of_getElem? (i := 549) (by decide +kernel)⟩
theorem lw_p10 : lw_okq (⟨"WireMill$Route", "priceFrom", "(III)I"⟩, 9) := ⟨⟨by decide +kernel, by decide +kernel⟩, List.mem_of_getElem? (i := 110) (by decide +kernel), List.mem_of_getElem? (i := 559) (by decide +kernel), List.mem_of_getElem? (i := 560) (by decide +kernel)⟩
theorem lw_p11 : lw_okq (⟨"WireMill$Route", "sizeAt", "(I)I"⟩, 9) := ⟨⟨by decide +kernel, by decide +kernel⟩, List.mem_of_getElem? (i := 110) (by decide +kernel), List.mem_of_getElem? (i := 564) (by decide +kernel), List.mem_of_getElem? (i := 565) (by decide +kernel)⟩
theorem lw_p12 : lw_okq (⟨"WireMill$Route", "hardnessBehind", "(III)I"⟩, 9) := ⟨⟨by decide +kernel, by decide +kernel⟩, List.mem_of_getElem? (i := 110) (by decide +kernel), List.mem_of_getElem? (i := 572) (by decide +kernel), List.mem_of_getElem? (i := 573) (by decide +kernel)⟩
theorem lw_p13 : lw_okq (⟨"WireMill$Route", "laySteps", "(II)V"⟩, 9) := ⟨⟨by decide +kernel, by decide +kernel⟩, List.mem_of_getElem? (i := 110) (by decide +kernel), List.mem_of_getElem? (i := 580) (by decide +kernel), List.mem_of_getElem? (i := 581) (by decide +kernel)⟩
theorem lw_p14 : lw_okq (⟨"WireMill$Cutting", "measureSets", "([LWireMill$Order;)V"⟩, 6) := ⟨⟨by decide +kernel, by decide +kernel⟩, List.mem_of_getElem? (i := 145) (by decide +kernel), List.mem_of_getElem? (i := 634) (by decide +kernel), List.mem_of_getElem? (i := 635) (by decide +kernel)⟩
theorem lw_p15 : lw_okq (⟨"WireMill$Cutting", "offer", "(LWireMill$Coil;I[LWireMill$Order;)V"⟩, 6) := ⟨⟨by decide +kernel, by decide +kernel⟩, List.mem_of_getElem? (i := 145) (by decide +kernel), List.mem_of_getElem? (i := 642) (by decide +kernel), List.mem_of_getElem? (i := 643) (by decide +kernel)⟩
def lw_privs_1 : List (MethodName × Nat) := [(⟨"WireMill", "metalAt", "(I)LWireMill$Metal;"⟩, 19), (⟨"WireMill", "pullerAt", "(I)LWireMill$Puller;"⟩, 19), (⟨"WireMill", "plateAt", "(I)LWireMill$Plate;"⟩, 19), (⟨"WireMill", "holeAt", "(II)LWireMill$Hole;"⟩, 19), (⟨"WireMill", "addCoil", "(LWireMill$Coil;)I"⟩, 19), (⟨"WireMill", "coilAt", "(I)LWireMill$Coil;"⟩, 19), (⟨"WireMill", "pullOf", "(LWireMill$Puller;)I"⟩, 19), (⟨"WireMill", "pullThrough", "(LWireMill$Coil;LWireMill$Hole;LWireMill$Puller;)I"⟩, 19), (⟨"WireMill", "throwAway", "(LWireMill$Coil;)V"⟩, 19), (⟨"WireMill", "seekWay", "(IIIII)I"⟩, 19), (⟨"WireMill$Route", "priceFrom", "(III)I"⟩, 9), (⟨"WireMill$Route", "sizeAt", "(I)I"⟩, 9), (⟨"WireMill$Route", "hardnessBehind", "(III)I"⟩, 9), (⟨"WireMill$Route", "laySteps", "(II)V"⟩, 9), (⟨"WireMill$Cutting", "measureSets", "([LWireMill$Order;)V"⟩, 6), (⟨"WireMill$Cutting", "offer", "(LWireMill$Coil;I[LWireMill$Order;)V"⟩, 6)]
theorem lw_r1 : ∀ q ∈ lw_privs_1, lw_okq q := List.forall_mem_cons.mpr ⟨lw_p0, List.forall_mem_cons.mpr ⟨lw_p1, List.forall_mem_cons.mpr ⟨lw_p2, List.forall_mem_cons.mpr ⟨lw_p3, List.forall_mem_cons.mpr ⟨lw_p4, List.forall_mem_cons.mpr ⟨lw_p5, List.forall_mem_cons.mpr ⟨lw_p6, List.forall_mem_cons.mpr ⟨lw_p7, List.forall_mem_cons.mpr ⟨lw_p8, List.forall_mem_cons.mpr ⟨lw_p9, List.forall_mem_cons.mpr ⟨lw_p10, List.forall_mem_cons.mpr ⟨lw_p11, List.forall_mem_cons.mpr ⟨lw_p12, List.forall_mem_cons.mpr ⟨lw_p13, List.forall_mem_cons.mpr ⟨lw_p14, List.forall_mem_cons.mpr ⟨lw_p15, fun _ h => absurd h List.not_mem_nil⟩⟩⟩⟩⟩⟩⟩⟩⟩⟩⟩⟩⟩⟩⟩⟩
theorem lw_p16 : lw_okq (⟨"WireMill$Cutting", "giveTo", "(II)V"⟩, 6) := ⟨⟨by decide +kernel, by decide +kernel⟩, List.mem_of_getElem? (i := 145) (by decide +kernel), List.mem_of_getElem? (i := 657) (by decide +kernel), List.mem_of_getElem? (i := 658) (by decide +kernel)⟩
theorem lw_p17 : lw_okq (⟨"WireMill", "orderAt", "(I)LWireMill$Order;"⟩, 19) := ⟨⟨by decide +kernel, by decide +kernel⟩, List.mem_of_getElem? (i := 16) (by decide +kernel), List.mem_of_getElem? (i := 666) (by decide +kernel), List.mem_of_getElem? (i := 667) (by decide +kernel)⟩
theorem lw_p18 : lw_okq (⟨"WireMill", "deliver", "(LWireMill$Coil;LWireMill$Order;)V"⟩, 19) := ⟨⟨by decide +kernel, by decide +kernel⟩, List.mem_of_getElem? (i := 16) (by decide +kernel), List.mem_of_getElem? (i := 679) (by decide +kernel), List.mem_of_getElem? (i := 680) (by decide +kernel)⟩
theorem lw_p19 : lw_okq (⟨"WireMill", "stuffInCoils", "()J"⟩, 19) := ⟨⟨by decide +kernel, by decide +kernel⟩, List.mem_of_getElem? (i := 16) (by decide +kernel), List.mem_of_getElem? (i := 759) (by decide +kernel), List.mem_of_getElem? (i := 760) (by decide +kernel)⟩
theorem lw_p20 : lw_okq (⟨"WireMill", "coilsLeft", "()I"⟩, 19) := ⟨⟨by decide +kernel, by decide +kernel⟩, List.mem_of_getElem? (i := 16) (by decide +kernel), List.mem_of_getElem? (i := 768) (by decide +kernel), List.mem_of_getElem? (i := 769) (by decide +kernel)⟩
theorem lw_p21 : lw_okq (⟨"WireMill", "ordersFilled", "()I"⟩, 19) := ⟨⟨by decide +kernel, by decide +kernel⟩, List.mem_of_getElem? (i := 16) (by decide +kernel), List.mem_of_getElem? (i := 772) (by decide +kernel), List.mem_of_getElem? (i := 773) (by decide +kernel)⟩
theorem lw_p22 : lw_okq (⟨"WireMillModel", "isHole", "(II)Z"⟩, 49) := ⟨⟨by decide +kernel, by decide +kernel⟩, List.mem_of_getElem? (i := 776) (by decide +kernel), List.mem_of_getElem? (i := 971) (by decide +kernel), List.mem_of_getElem? (i := 972) (by decide +kernel)⟩
theorem lw_p23 : lw_okq (⟨"WireMillModel", "wide", "(I)I"⟩, 49) := ⟨⟨by decide +kernel, by decide +kernel⟩, List.mem_of_getElem? (i := 776) (by decide +kernel), List.mem_of_getElem? (i := 975) (by decide +kernel), List.mem_of_getElem? (i := 976) (by decide +kernel)⟩
theorem lw_p24 : lw_okq (⟨"WireMillModel", "isSpent", "(I)Z"⟩, 49) := ⟨⟨by decide +kernel, by decide +kernel⟩, List.mem_of_getElem? (i := 776) (by decide +kernel), List.mem_of_getElem? (i := 979) (by decide +kernel), List.mem_of_getElem? (i := 980) (by decide +kernel)⟩
theorem lw_p25 : lw_okq (⟨"WireMillModel", "newCoil", "(IIJ)I"⟩, 49) := ⟨⟨by decide +kernel, by decide +kernel⟩, List.mem_of_getElem? (i := 776) (by decide +kernel), List.mem_of_getElem? (i := 995) (by decide +kernel), List.mem_of_getElem? (i := 996) (by decide +kernel)⟩
theorem lw_p26 : lw_okq (⟨"WireMillModel", "isCoil", "(I)Z"⟩, 49) := ⟨⟨by decide +kernel, by decide +kernel⟩, List.mem_of_getElem? (i := 776) (by decide +kernel), List.mem_of_getElem? (i := 1003) (by decide +kernel), List.mem_of_getElem? (i := 1004) (by decide +kernel)⟩
theorem lw_p27 : lw_okq (⟨"WireMillModel", "feetOf", "(I)I"⟩, 49) := ⟨⟨by decide +kernel, by decide +kernel⟩, List.mem_of_getElem? (i := 776) (by decide +kernel), List.mem_of_getElem? (i := 1007) (by decide +kernel), List.mem_of_getElem? (i := 1008) (by decide +kernel)⟩
theorem lw_p28 : lw_okq (⟨"WireMillModel", "asksOf", "(IIII)J"⟩, 49) := ⟨⟨by decide +kernel, by decide +kernel⟩, List.mem_of_getElem? (i := 776) (by decide +kernel), List.mem_of_getElem? (i := 1020) (by decide +kernel), List.mem_of_getElem? (i := 1021) (by decide +kernel)⟩
theorem lw_p29 : lw_okq (⟨"WireMillModel", "bearsOf", "(IIIII)J"⟩, 49) := ⟨⟨by decide +kernel, by decide +kernel⟩, List.mem_of_getElem? (i := 776) (by decide +kernel), List.mem_of_getElem? (i := 1025) (by decide +kernel), List.mem_of_getElem? (i := 1026) (by decide +kernel)⟩
theorem lw_p30 : lw_okq (⟨"WireMillModel", "harder", "(IIII)I"⟩, 49) := ⟨⟨by decide +kernel, by decide +kernel⟩, List.mem_of_getElem? (i := 776) (by decide +kernel), List.mem_of_getElem? (i := 1029) (by decide +kernel), List.mem_of_getElem? (i := 1030) (by decide +kernel)⟩
theorem lw_p31 : lw_okq (⟨"WireMillModel", "against", "(IIIII)I"⟩, 49) := ⟨⟨by decide +kernel, by decide +kernel⟩, List.mem_of_getElem? (i := 776) (by decide +kernel), List.mem_of_getElem? (i := 1043) (by decide +kernel), List.mem_of_getElem? (i := 1044) (by decide +kernel)⟩
def lw_privs_2 : List (MethodName × Nat) := [(⟨"WireMill$Cutting", "giveTo", "(II)V"⟩, 6), (⟨"WireMill", "orderAt", "(I)LWireMill$Order;"⟩, 19), (⟨"WireMill", "deliver", "(LWireMill$Coil;LWireMill$Order;)V"⟩, 19), (⟨"WireMill", "stuffInCoils", "()J"⟩, 19), (⟨"WireMill", "coilsLeft", "()I"⟩, 19), (⟨"WireMill", "ordersFilled", "()I"⟩, 19), (⟨"WireMillModel", "isHole", "(II)Z"⟩, 49), (⟨"WireMillModel", "wide", "(I)I"⟩, 49), (⟨"WireMillModel", "isSpent", "(I)Z"⟩, 49), (⟨"WireMillModel", "newCoil", "(IIJ)I"⟩, 49), (⟨"WireMillModel", "isCoil", "(I)Z"⟩, 49), (⟨"WireMillModel", "feetOf", "(I)I"⟩, 49), (⟨"WireMillModel", "asksOf", "(IIII)J"⟩, 49), (⟨"WireMillModel", "bearsOf", "(IIIII)J"⟩, 49), (⟨"WireMillModel", "harder", "(IIII)I"⟩, 49), (⟨"WireMillModel", "against", "(IIIII)I"⟩, 49)]
theorem lw_r2 : ∀ q ∈ lw_privs_2, lw_okq q := List.forall_mem_cons.mpr ⟨lw_p16, List.forall_mem_cons.mpr ⟨lw_p17, List.forall_mem_cons.mpr ⟨lw_p18, List.forall_mem_cons.mpr ⟨lw_p19, List.forall_mem_cons.mpr ⟨lw_p20, List.forall_mem_cons.mpr ⟨lw_p21, List.forall_mem_cons.mpr ⟨lw_p22, List.forall_mem_cons.mpr ⟨lw_p23, List.forall_mem_cons.mpr ⟨lw_p24, List.forall_mem_cons.mpr ⟨lw_p25, List.forall_mem_cons.mpr ⟨lw_p26, List.forall_mem_cons.mpr ⟨lw_p27, List.forall_mem_cons.mpr ⟨lw_p28, List.forall_mem_cons.mpr ⟨lw_p29, List.forall_mem_cons.mpr ⟨lw_p30, List.forall_mem_cons.mpr ⟨lw_p31, fun _ h => absurd h List.not_mem_nil⟩⟩⟩⟩⟩⟩⟩⟩⟩⟩⟩⟩⟩⟩⟩⟩
theorem lw_p32 : lw_okq (⟨"WireMillModel", "pullOf", "(I)J"⟩, 49) := ⟨⟨by decide +kernel, by decide +kernel⟩, List.mem_of_getElem? (i := 776) (by decide +kernel), List.mem_of_getElem? (i := 1047) (by decide +kernel), List.mem_of_getElem? (i := 1048) (by decide +kernel)⟩
theorem lw_p33 : lw_okq (⟨"WireMillModel", "tidy", "(I)V"⟩, 49) := ⟨⟨by decide +kernel, by decide +kernel⟩, List.mem_of_getElem? (i := 776) (by decide +kernel), List.mem_of_getElem? (i := 1056) (by decide +kernel), List.mem_of_getElem? (i := 1057) (by decide +kernel)⟩
theorem lw_p34 : lw_okq (⟨"WireMillModel", "wrong", "(IIIII)I"⟩, 49) := ⟨⟨by decide +kernel, by decide +kernel⟩, List.mem_of_getElem? (i := 776) (by decide +kernel), List.mem_of_getElem? (i := 1080) (by decide +kernel), List.mem_of_getElem? (i := 1081) (by decide +kernel)⟩
theorem lw_p35 : lw_okq (⟨"WireMillModel", "findWay", "(IIIII)Z"⟩, 49) := ⟨⟨by decide +kernel, by decide +kernel⟩, List.mem_of_getElem? (i := 776) (by decide +kernel), List.mem_of_getElem? (i := 1084) (by decide +kernel), List.mem_of_getElem? (i := 1085) (by decide +kernel)⟩
theorem lw_p36 : lw_okq (⟨"WireMillModel", "findCost", "(IIIIII)V"⟩, 49) := ⟨⟨by decide +kernel, by decide +kernel⟩, List.mem_of_getElem? (i := 776) (by decide +kernel), List.mem_of_getElem? (i := 1088) (by decide +kernel), List.mem_of_getElem? (i := 1089) (by decide +kernel)⟩
theorem lw_p37 : lw_okq (⟨"WireMillModel", "findCutting", "()V"⟩, 49) := ⟨⟨by decide +kernel, by decide +kernel⟩, List.mem_of_getElem? (i := 776) (by decide +kernel), List.mem_of_getElem? (i := 1111) (by decide +kernel), List.mem_of_getElem? (i := 1112) (by decide +kernel)⟩
theorem lw_p38 : lw_okq (⟨"WireMillModel", "mayCut", "(II)Z"⟩, 49) := ⟨⟨by decide +kernel, by decide +kernel⟩, List.mem_of_getElem? (i := 776) (by decide +kernel), List.mem_of_getElem? (i := 1115) (by decide +kernel), List.mem_of_getElem? (i := 1116) (by decide +kernel)⟩
theorem lw_p39 : lw_okq (⟨"WireMillModel", "tallyOf", "(II)I"⟩, 49) := ⟨⟨by decide +kernel, by decide +kernel⟩, List.mem_of_getElem? (i := 776) (by decide +kernel), List.mem_of_getElem? (i := 1139) (by decide +kernel), List.mem_of_getElem? (i := 1140) (by decide +kernel)⟩
theorem lw_p40 : lw_okq (⟨"WireMillModel", "belowOf", "(I)I"⟩, 49) := ⟨⟨by decide +kernel, by decide +kernel⟩, List.mem_of_getElem? (i := 776) (by decide +kernel), List.mem_of_getElem? (i := 1147) (by decide +kernel), List.mem_of_getElem? (i := 1148) (by decide +kernel)⟩
theorem lw_p41 : lw_okq (⟨"WireMillModel", "aboveOf", "(I)I"⟩, 49) := ⟨⟨by decide +kernel, by decide +kernel⟩, List.mem_of_getElem? (i := 776) (by decide +kernel), List.mem_of_getElem? (i := 1152) (by decide +kernel), List.mem_of_getElem? (i := 1153) (by decide +kernel)⟩
theorem lw_p42 : lw_okq (⟨"WireMillModel", "isMore", "(I)Z"⟩, 49) := ⟨⟨by decide +kernel, by decide +kernel⟩, List.mem_of_getElem? (i := 776) (by decide +kernel), List.mem_of_getElem? (i := 1163) (by decide +kernel), List.mem_of_getElem? (i := 1164) (by decide +kernel)⟩
theorem lw_p43 : lw_okq (⟨"WireMillModel", "choose", "(II)J"⟩, 49) := ⟨⟨by decide +kernel, by decide +kernel⟩, List.mem_of_getElem? (i := 776) (by decide +kernel), List.mem_of_getElem? (i := 1167) (by decide +kernel), List.mem_of_getElem? (i := 1168) (by decide +kernel)⟩
def lw_privs_3 : List (MethodName × Nat) := [(⟨"WireMillModel", "pullOf", "(I)J"⟩, 49), (⟨"WireMillModel", "tidy", "(I)V"⟩, 49), (⟨"WireMillModel", "wrong", "(IIIII)I"⟩, 49), (⟨"WireMillModel", "findWay", "(IIIII)Z"⟩, 49), (⟨"WireMillModel", "findCost", "(IIIIII)V"⟩, 49), (⟨"WireMillModel", "findCutting", "()V"⟩, 49), (⟨"WireMillModel", "mayCut", "(II)Z"⟩, 49), (⟨"WireMillModel", "tallyOf", "(II)I"⟩, 49), (⟨"WireMillModel", "belowOf", "(I)I"⟩, 49), (⟨"WireMillModel", "aboveOf", "(I)I"⟩, 49), (⟨"WireMillModel", "isMore", "(I)Z"⟩, 49), (⟨"WireMillModel", "choose", "(II)J"⟩, 49)]
theorem lw_r3 : ∀ q ∈ lw_privs_3, lw_okq q := List.forall_mem_cons.mpr ⟨lw_p32, List.forall_mem_cons.mpr ⟨lw_p33, List.forall_mem_cons.mpr ⟨lw_p34, List.forall_mem_cons.mpr ⟨lw_p35, List.forall_mem_cons.mpr ⟨lw_p36, List.forall_mem_cons.mpr ⟨lw_p37, List.forall_mem_cons.mpr ⟨lw_p38, List.forall_mem_cons.mpr ⟨lw_p39, List.forall_mem_cons.mpr ⟨lw_p40, List.forall_mem_cons.mpr ⟨lw_p41, List.forall_mem_cons.mpr ⟨lw_p42, List.forall_mem_cons.mpr ⟨lw_p43, fun _ h => absurd h List.not_mem_nil⟩⟩⟩⟩⟩⟩⟩⟩⟩⟩⟩⟩
def lw_privs : List (MethodName × Nat) := lw_privs_1 ++ (lw_privs_2 ++ (lw_privs_3))
def lw_tbl : List Cond := k2_sels lw_privs ++ tables_1
theorem lw_privs_ok : ∀ q ∈ lw_privs, lw_okq q := by
  show ∀ q ∈ lw_privs_1 ++ (lw_privs_2 ++ (lw_privs_3)), lw_okq q
  exact List.forall_mem_append.mpr ⟨lw_r1, List.forall_mem_append.mpr ⟨lw_r2, lw_r3⟩⟩
end
section
def RX0 : String := "WireMill$Coil"
def TX0 : u_T := fun k => match k with
  | 0 => ("WireMill$Coil", "metal", "LWireMill$Metal;", true)
  | 1 => ("WireMill$Coil", "size", "I", false)
  | 2 => ("WireMill$Coil", "hardness", "I", false)
  | 3 => ("WireMill$Coil", "stuff", "J", false)
  | 4 => ("WireMill$Coil", "joints", "I", false)
  | 5 => ("WireMill$Coil", "ready", "I", false)
  | _ => ("WireMill$Coil", "isBad", "Z", false)
def tyX0 : Nat → FieldType := fun k => match k with
  | 0 => .object "WireMill$Metal"
  | 1 => .int
  | 2 => .int
  | 3 => .long
  | 4 => .int
  | 5 => .int
  | _ => .boolean
abbrev wsX00 : List Cond := u_ws RX0 TX0 7
theorem nmX0 : ∀ a, a < 7 → ∀ b, b < 7 → a ≠ b → (TX0 a).2.1 ≠ (TX0 b).2.1 := by decide +kernel
theorem tyX0_ok : ∀ k, k < 7 → parseFieldDescriptor (TX0 k).2.2.1 = some (tyX0 k) := by decide +kernel
abbrev cX0_init : ByteArray := prog_2_method_1_code
def yX0_init : MethodName := ⟨RX0, "<init>", "(LWireMill$Metal;IJZ)V"⟩
abbrev cX0_stuffOf : ByteArray := prog_2_method_2_code
def yX0_stuffOf : MethodName := ⟨RX0, "stuffOf", "(I)J"⟩
abbrev cX0_feet : ByteArray := prog_2_method_3_code
def yX0_feet : MethodName := ⟨RX0, "feet", "()I"⟩
abbrev cX0_isGone : ByteArray := prog_2_method_4_code
def yX0_isGone : MethodName := ⟨RX0, "isGone", "()Z"⟩
def RX1 : String := "WireMill$Cutting"
def TX1 : u_T := fun k => match k with
  | 0 => ("WireMill$Cutting", "feetOf", "[I", true)
  | 1 => ("WireMill$Cutting", "digitsOf", "[I", true)
  | 2 => ("WireMill$Cutting", "ranks", "[I", true)
  | 3 => ("WireMill$Cutting", "nextRanks", "[I", true)
  | 4 => ("WireMill$Cutting", "feet", "I", false)
  | _ => ("WireMill$Cutting", "rank", "I", false)
def tyX1 : Nat → FieldType := fun k => match k with
  | 0 => .array .int
  | 1 => .array .int
  | 2 => .array .int
  | 3 => .array .int
  | 4 => .int
  | _ => .int
abbrev wsX10 : List Cond := u_ws RX1 TX1 6
theorem nmX1 : ∀ a, a < 6 → ∀ b, b < 6 → a ≠ b → (TX1 a).2.1 ≠ (TX1 b).2.1 := by decide +kernel
theorem tyX1_ok : ∀ k, k < 6 → parseFieldDescriptor (TX1 k).2.2.1 = some (tyX1 k) := by decide +kernel
abbrev cX1_init : ByteArray := prog_3_method_1_code
def yX1_init : MethodName := ⟨RX1, "<init>", "()V"⟩
abbrev cX1_seek : ByteArray := prog_3_method_2_code
def yX1_seek : MethodName := ⟨RX1, "seek", "([LWireMill$Coil;[LWireMill$Order;)V"⟩
abbrev cX1_coilOf : ByteArray := prog_3_method_3_code
def yX1_coilOf : MethodName := ⟨RX1, "coilOf", "(I)I"⟩
abbrev cX1_uses : ByteArray := prog_3_method_4_code
def yX1_uses : MethodName := ⟨RX1, "uses", "(I)Z"⟩
abbrev cX1_measureSets : ByteArray := prog_3_method_5_code
def yX1_measureSets : MethodName := ⟨RX1, "measureSets", "([LWireMill$Order;)V"⟩
abbrev cX1_offer : ByteArray := prog_3_method_6_code
def yX1_offer : MethodName := ⟨RX1, "offer", "(LWireMill$Coil;I[LWireMill$Order;)V"⟩
abbrev cX1_giveTo : ByteArray := prog_3_method_7_code
def yX1_giveTo : MethodName := ⟨RX1, "giveTo", "(II)V"⟩
abbrev cX1_openTo : ByteArray := prog_3_method_8_code
def yX1_openTo : MethodName := ⟨RX1, "openTo", "(LWireMill$Coil;[LWireMill$Order;)I"⟩
def RX2 : String := "WireMill$Draft"
def TX2 : u_T := fun k => match k with
  | 0 => ("WireMill$Draft", "settings", "LWireMill$Settings;", true)
  | 1 => ("WireMill$Draft", "thinner", "I", false)
  | 2 => ("WireMill$Draft", "harder", "I", false)
  | 3 => ("WireMill$Draft", "asked", "I", false)
  | _ => ("WireMill$Draft", "borne", "I", false)
def tyX2 : Nat → FieldType := fun k => match k with
  | 0 => .object "WireMill$Settings"
  | 1 => .int
  | 2 => .int
  | 3 => .int
  | _ => .int
abbrev wsX20 : List Cond := u_ws RX2 TX2 5
theorem nmX2 : ∀ a, a < 5 → ∀ b, b < 5 → a ≠ b → (TX2 a).2.1 ≠ (TX2 b).2.1 := by decide +kernel
theorem tyX2_ok : ∀ k, k < 5 → parseFieldDescriptor (TX2 k).2.2.1 = some (tyX2 k) := by decide +kernel
abbrev cX2_init : ByteArray := prog_4_method_1_code
def yX2_init : MethodName := ⟨RX2, "<init>", "(LWireMill$Settings;)V"⟩
abbrev cX2_reckon : ByteArray := prog_4_method_2_code
def yX2_reckon : MethodName := ⟨RX2, "reckon", "(LWireMill$Coil;III)V"⟩
abbrev cX2_refusal : ByteArray := prog_4_method_3_code
def yX2_refusal : MethodName := ⟨RX2, "refusal", "(LWireMill$Coil;IILWireMill$Hole;I)I"⟩
def RX3 : String := "WireMill$Hole"
def TX3 : u_T := fun k => match k with
  | 0 => ("WireMill$Hole", "nominal", "I", false)
  | 1 => ("WireMill$Hole", "wear", "I", false)
  | _ => ("WireMill$Hole", "reams", "I", false)
def tyX3 : Nat → FieldType := fun k => match k with
  | 0 => .int
  | 1 => .int
  | _ => .int
abbrev wsX30 : List Cond := u_ws RX3 TX3 3
theorem nmX3 : ∀ a, a < 3 → ∀ b, b < 3 → a ≠ b → (TX3 a).2.1 ≠ (TX3 b).2.1 := by decide +kernel
theorem tyX3_ok : ∀ k, k < 3 → parseFieldDescriptor (TX3 k).2.2.1 = some (tyX3 k) := by decide +kernel
abbrev cX3_init : ByteArray := prog_5_method_1_code
def yX3_init : MethodName := ⟨RX3, "<init>", "(I)V"⟩
abbrev cX3_wide : ByteArray := prog_5_method_2_code
def yX3_wide : MethodName := ⟨RX3, "wide", "()I"⟩
abbrev cX3_isSpent : ByteArray := prog_5_method_3_code
def yX3_isSpent : MethodName := ⟨RX3, "isSpent", "()Z"⟩
def RX4 : String := "WireMill$Metal"
def TX4 : u_T := fun k => match k with
  | 0 => ("WireMill$Metal", "number", "I", true)
  | 1 => ("WireMill$Metal", "base", "I", false)
  | 2 => ("WireMill$Metal", "gain", "I", false)
  | 3 => ("WireMill$Metal", "limit", "I", false)
  | 4 => ("WireMill$Metal", "abrade", "I", false)
  | _ => ("WireMill$Metal", "scale", "I", false)
def tyX4 : Nat → FieldType := fun k => match k with
  | 0 => .int
  | 1 => .int
  | 2 => .int
  | 3 => .int
  | 4 => .int
  | _ => .int
abbrev wsX40 : List Cond := u_ws RX4 TX4 6
theorem nmX4 : ∀ a, a < 6 → ∀ b, b < 6 → a ≠ b → (TX4 a).2.1 ≠ (TX4 b).2.1 := by decide +kernel
theorem tyX4_ok : ∀ k, k < 6 → parseFieldDescriptor (TX4 k).2.2.1 = some (tyX4 k) := by decide +kernel
abbrev cX4_init : ByteArray := prog_6_method_1_code
def yX4_init : MethodName := ⟨RX4, "<init>", "(I)V"⟩
abbrev cX4_strength : ByteArray := prog_6_method_2_code
def yX4_strength : MethodName := ⟨RX4, "strength", "(I)J"⟩
def RX5 : String := "WireMill$Notes"
def TX5 : u_T := fun k => match k with
  | 0 => ("WireMill$Notes", "broken", "[I", true)
  | 1 => ("WireMill$Notes", "whole", "[I", true)
  | _ => ("WireMill$Notes", "size", "I", false)
def tyX5 : Nat → FieldType := fun k => match k with
  | 0 => .array .int
  | 1 => .array .int
  | _ => .int
abbrev wsX50 : List Cond := u_ws RX5 TX5 3
theorem nmX5 : ∀ a, a < 3 → ∀ b, b < 3 → a ≠ b → (TX5 a).2.1 ≠ (TX5 b).2.1 := by decide +kernel
theorem tyX5_ok : ∀ k, k < 3 → parseFieldDescriptor (TX5 k).2.2.1 = some (tyX5 k) := by decide +kernel
abbrev cX5_init : ByteArray := prog_7_method_1_code
def yX5_init : MethodName := ⟨RX5, "<init>", "()V"⟩
abbrev cX5_add : ByteArray := prog_7_method_2_code
def yX5_add : MethodName := ⟨RX5, "add", "(IZ)I"⟩
abbrev cX5_share : ByteArray := prog_7_method_3_code
def yX5_share : MethodName := ⟨RX5, "share", "(II)I"⟩
abbrev cX5_above : ByteArray := prog_7_method_4_code
def yX5_above : MethodName := ⟨RX5, "above", "(I)I"⟩
abbrev cX5_below : ByteArray := prog_7_method_5_code
def yX5_below : MethodName := ⟨RX5, "below", "(I)I"⟩
abbrev cX5_isGreater : ByteArray := prog_7_method_6_code
def yX5_isGreater : MethodName := ⟨RX5, "isGreater", "(II)Z"⟩
abbrev cX5_isMoreThanChance : ByteArray := prog_7_method_7_code
def yX5_isMoreThanChance : MethodName := ⟨RX5, "isMoreThanChance", "(I)Z"⟩
def RX6 : String := "WireMill$Order"
def TX6 : u_T := fun k => match k with
  | 0 => ("WireMill$Order", "metal", "LWireMill$Metal;", true)
  | 1 => ("WireMill$Order", "low", "I", true)
  | 2 => ("WireMill$Order", "high", "I", true)
  | 3 => ("WireMill$Order", "feet", "I", true)
  | _ => ("WireMill$Order", "isFilled", "Z", false)
def tyX6 : Nat → FieldType := fun k => match k with
  | 0 => .object "WireMill$Metal"
  | 1 => .int
  | 2 => .int
  | 3 => .int
  | _ => .boolean
abbrev wsX60 : List Cond := u_ws RX6 TX6 5
theorem nmX6 : ∀ a, a < 5 → ∀ b, b < 5 → a ≠ b → (TX6 a).2.1 ≠ (TX6 b).2.1 := by decide +kernel
theorem tyX6_ok : ∀ k, k < 5 → parseFieldDescriptor (TX6 k).2.2.1 = some (tyX6 k) := by decide +kernel
abbrev cX6_init : ByteArray := prog_8_method_1_code
def yX6_init : MethodName := ⟨RX6, "<init>", "(LWireMill$Metal;III)V"⟩
abbrev cX6_canBeCutFrom : ByteArray := prog_8_method_2_code
def yX6_canBeCutFrom : MethodName := ⟨RX6, "canBeCutFrom", "(LWireMill$Coil;)Z"⟩
def RX7 : String := "WireMill$Plate"
def TX7 : u_T := fun k => match k with
  | 0 => ("WireMill$Plate", "holes", "[LWireMill$Hole;", true)
  | _ => ("WireMill$Plate", "size", "I", false)
def tyX7 : Nat → FieldType := fun k => match k with
  | 0 => .array (.object "WireMill$Hole")
  | _ => .int
abbrev wsX70 : List Cond := u_ws RX7 TX7 2
theorem nmX7 : ∀ a, a < 2 → ∀ b, b < 2 → a ≠ b → (TX7 a).2.1 ≠ (TX7 b).2.1 := by decide +kernel
theorem tyX7_ok : ∀ k, k < 2 → parseFieldDescriptor (TX7 k).2.2.1 = some (tyX7 k) := by decide +kernel
abbrev cX7_init : ByteArray := prog_9_method_1_code
def yX7_init : MethodName := ⟨RX7, "<init>", "()V"⟩
abbrev cX7_bore : ByteArray := prog_9_method_2_code
def yX7_bore : MethodName := ⟨RX7, "bore", "(I)I"⟩
abbrev cX7_holeAt : ByteArray := prog_9_method_3_code
def yX7_holeAt : MethodName := ⟨RX7, "holeAt", "(I)LWireMill$Hole;"⟩
def RX8 : String := "WireMill$Puller"
def TX8 : u_T := fun k => match k with
  | 0 => ("WireMill$Puller", "isWheel", "Z", true)
  | 1 => ("WireMill$Puller", "pull", "I", false)
  | 2 => ("WireMill$Puller", "speed", "I", false)
  | _ => ("WireMill$Puller", "ready", "I", false)
def tyX8 : Nat → FieldType := fun k => match k with
  | 0 => .boolean
  | 1 => .int
  | 2 => .int
  | _ => .int
abbrev wsX80 : List Cond := u_ws RX8 TX8 4
theorem nmX8 : ∀ a, a < 4 → ∀ b, b < 4 → a ≠ b → (TX8 a).2.1 ≠ (TX8 b).2.1 := by decide +kernel
theorem tyX8_ok : ∀ k, k < 4 → parseFieldDescriptor (TX8 k).2.2.1 = some (tyX8 k) := by decide +kernel
abbrev cX8_init : ByteArray := prog_10_method_1_code
def yX8_init : MethodName := ⟨RX8, "<init>", "(Z)V"⟩
abbrev cX8_minutesFor : ByteArray := prog_10_method_2_code
def yX8_minutesFor : MethodName := ⟨RX8, "minutesFor", "(I)I"⟩
def RX9 : String := "WireMill$Route"
def TX9 : u_T := fun k => match k with
  | 0 => ("WireMill$Route", "draft", "LWireMill$Draft;", true)
  | 1 => ("WireMill$Route", "marks", "[I", true)
  | 2 => ("WireMill$Route", "steps", "[I", true)
  | 3 => ("WireMill$Route", "length", "I", false)
  | 4 => ("WireMill$Route", "wire", "LWireMill$Coil;", false)
  | 5 => ("WireMill$Route", "plate", "LWireMill$Plate;", false)
  | 6 => ("WireMill$Route", "pull", "I", false)
  | 7 => ("WireMill$Route", "low", "I", false)
  | _ => ("WireMill$Route", "high", "I", false)
def tyX9 : Nat → FieldType := fun k => match k with
  | 0 => .object "WireMill$Draft"
  | 1 => .array .int
  | 2 => .array .int
  | 3 => .int
  | 4 => .object "WireMill$Coil"
  | 5 => .object "WireMill$Plate"
  | 6 => .int
  | 7 => .int
  | _ => .int
abbrev wsX90 : List Cond := u_ws RX9 TX9 9
theorem nmX9 : ∀ a, a < 9 → ∀ b, b < 9 → a ≠ b → (TX9 a).2.1 ≠ (TX9 b).2.1 := by decide +kernel
theorem tyX9_ok : ∀ k, k < 9 → parseFieldDescriptor (TX9 k).2.2.1 = some (tyX9 k) := by decide +kernel
abbrev cX9_init : ByteArray := prog_11_method_1_code
def yX9_init : MethodName := ⟨RX9, "<init>", "(LWireMill$Draft;)V"⟩
abbrev cX9_stepAt : ByteArray := prog_11_method_2_code
def yX9_stepAt : MethodName := ⟨RX9, "stepAt", "(I)I"⟩
abbrev cX9_seek : ByteArray := prog_11_method_3_code
def yX9_seek : MethodName := ⟨RX9, "seek", "(LWireMill$Coil;LWireMill$Plate;III)I"⟩
abbrev cX9_laySteps : ByteArray := prog_11_method_4_code
def yX9_laySteps : MethodName := ⟨RX9, "laySteps", "(II)V"⟩
abbrev cX9_priceFrom : ByteArray := prog_11_method_5_code
def yX9_priceFrom : MethodName := ⟨RX9, "priceFrom", "(III)I"⟩
abbrev cX9_sizeAt : ByteArray := prog_11_method_6_code
def yX9_sizeAt : MethodName := ⟨RX9, "sizeAt", "(I)I"⟩
abbrev cX9_hardnessBehind : ByteArray := prog_11_method_7_code
def yX9_hardnessBehind : MethodName := ⟨RX9, "hardnessBehind", "(III)I"⟩
def RX10 : String := "WireMill$Settings"
def TX10 : u_T := fun k => match k with
  | 0 => ("WireMill$Settings", "friction", "I", false)
  | 1 => ("WireMill$Settings", "safe", "I", false)
  | 2 => ("WireMill$Settings", "water", "I", false)
  | 3 => ("WireMill$Settings", "heat", "I", false)
  | 4 => ("WireMill$Settings", "loss", "I", false)
  | _ => ("WireMill$Settings", "shortFeet", "I", false)
def tyX10 : Nat → FieldType := fun k => match k with
  | 0 => .int
  | 1 => .int
  | 2 => .int
  | 3 => .int
  | 4 => .int
  | _ => .int
abbrev wsX100 : List Cond := u_ws RX10 TX10 6
theorem nmX10 : ∀ a, a < 6 → ∀ b, b < 6 → a ≠ b → (TX10 a).2.1 ≠ (TX10 b).2.1 := by decide +kernel
theorem tyX10_ok : ∀ k, k < 6 → parseFieldDescriptor (TX10 k).2.2.1 = some (tyX10 k) := by decide +kernel
abbrev cX10_init : ByteArray := prog_12_method_1_code
def yX10_init : MethodName := ⟨RX10, "<init>", "()V"⟩
abbrev cX10_admits : ByteArray := prog_12_method_2_code
def yX10_admits : MethodName := ⟨RX10, "admits", "(II)Z"⟩
abbrev cX10_value : ByteArray := prog_12_method_3_code
def yX10_value : MethodName := ⟨RX10, "value", "(I)I"⟩
abbrev cX10_change : ByteArray := prog_12_method_4_code
def yX10_change : MethodName := ⟨RX10, "change", "(II)V"⟩
def RX11 : String := "WireMill"
def TX11 : u_T := fun k => match k with
  | 0 => ("WireMill", "settings", "LWireMill$Settings;", true)
  | 1 => ("WireMill", "metals", "[LWireMill$Metal;", true)
  | 2 => ("WireMill", "pullers", "[LWireMill$Puller;", true)
  | 3 => ("WireMill", "plates", "[LWireMill$Plate;", true)
  | 4 => ("WireMill", "coils", "[LWireMill$Coil;", true)
  | 5 => ("WireMill", "orders", "[LWireMill$Order;", true)
  | 6 => ("WireMill", "notes", "LWireMill$Notes;", true)
  | 7 => ("WireMill", "draft", "LWireMill$Draft;", true)
  | 8 => ("WireMill", "route", "LWireMill$Route;", true)
  | 9 => ("WireMill", "best", "LWireMill$Cutting;", true)
  | 10 => ("WireMill", "coilCount", "I", false)
  | 11 => ("WireMill", "orderCount", "I", false)
  | 12 => ("WireMill", "fireReady", "I", false)
  | 13 => ("WireMill", "cameIn", "J", false)
  | 14 => ("WireMill", "delivered", "J", false)
  | 15 => ("WireMill", "scrapped", "J", false)
  | 16 => ("WireMill", "scaled", "J", false)
  | 17 => ("WireMill", "drawsMade", "I", false)
  | _ => ("WireMill", "firesMade", "I", false)
def tyX11 : Nat → FieldType := fun k => match k with
  | 0 => .object "WireMill$Settings"
  | 1 => .array (.object "WireMill$Metal")
  | 2 => .array (.object "WireMill$Puller")
  | 3 => .array (.object "WireMill$Plate")
  | 4 => .array (.object "WireMill$Coil")
  | 5 => .array (.object "WireMill$Order")
  | 6 => .object "WireMill$Notes"
  | 7 => .object "WireMill$Draft"
  | 8 => .object "WireMill$Route"
  | 9 => .object "WireMill$Cutting"
  | 10 => .int
  | 11 => .int
  | 12 => .int
  | 13 => .long
  | 14 => .long
  | 15 => .long
  | 16 => .long
  | 17 => .int
  | _ => .int
abbrev wsX110 : List Cond := u_ws RX11 TX11 19
theorem nmX11 : ∀ a, a < 19 → ∀ b, b < 19 → a ≠ b → (TX11 a).2.1 ≠ (TX11 b).2.1 := by decide +kernel
theorem tyX11_ok : ∀ k, k < 19 → parseFieldDescriptor (TX11 k).2.2.1 = some (tyX11 k) := by decide +kernel
abbrev cX11_init : ByteArray := prog_1_method_1_code
def yX11_init : MethodName := ⟨RX11, "<init>", "()V"⟩
abbrev cX11_metal : ByteArray := prog_1_method_2_code
def yX11_metal : MethodName := ⟨RX11, "metal", "(IIIIII)I"⟩
abbrev cX11_set : ByteArray := prog_1_method_3_code
def yX11_set : MethodName := ⟨RX11, "set", "(II)I"⟩
abbrev cX11_puller : ByteArray := prog_1_method_4_code
def yX11_puller : MethodName := ⟨RX11, "puller", "(III)I"⟩
abbrev cX11_hole : ByteArray := prog_1_method_5_code
def yX11_hole : MethodName := ⟨RX11, "hole", "(II)I"⟩
abbrev cX11_told : ByteArray := prog_1_method_6_code
def yX11_told : MethodName := ⟨RX11, "told", "(III)I"⟩
abbrev cX11_gauge : ByteArray := prog_1_method_7_code
def yX11_gauge : MethodName := ⟨RX11, "gauge", "(II)I"⟩
abbrev cX11_ream : ByteArray := prog_1_method_8_code
def yX11_ream : MethodName := ⟨RX11, "ream", "(III)I"⟩
abbrev cX11_coil : ByteArray := prog_1_method_9_code
def yX11_coil : MethodName := ⟨RX11, "coil", "(IIIZ)I"⟩
abbrev cX11_at : ByteArray := prog_1_method_10_code
def yX11_at : MethodName := ⟨RX11, "at", "(II)I"⟩
abbrev cX11_stuff : ByteArray := prog_1_method_11_code
def yX11_stuff : MethodName := ⟨RX11, "stuff", "(I)J"⟩
abbrev cX11_asks : ByteArray := prog_1_method_12_code
def yX11_asks : MethodName := ⟨RX11, "asks", "(IIII)I"⟩
abbrev cX11_draw : ByteArray := prog_1_method_13_code
def yX11_draw : MethodName := ⟨RX11, "draw", "(IIII)I"⟩
abbrev cX11_fire : ByteArray := prog_1_method_14_code
def yX11_fire : MethodName := ⟨RX11, "fire", "(I)I"⟩
abbrev cX11_part : ByteArray := prog_1_method_15_code
def yX11_part : MethodName := ⟨RX11, "part", "(II)I"⟩
abbrev cX11_join : ByteArray := prog_1_method_16_code
def yX11_join : MethodName := ⟨RX11, "join", "(II)I"⟩
abbrev cX11_scrap : ByteArray := prog_1_method_17_code
def yX11_scrap : MethodName := ⟨RX11, "scrap", "(I)I"⟩
abbrev cX11_ready : ByteArray := prog_1_method_18_code
def yX11_ready : MethodName := ⟨RX11, "ready", "(I)I"⟩
abbrev cX11_way : ByteArray := prog_1_method_19_code
def yX11_way : MethodName := ⟨RX11, "way", "(IIIII)I"⟩
abbrev cX11_step : ByteArray := prog_1_method_20_code
def yX11_step : MethodName := ⟨RX11, "step", "(IIIIII)I"⟩
abbrev cX11_go : ByteArray := prog_1_method_21_code
def yX11_go : MethodName := ⟨RX11, "go", "(IIIII)I"⟩
abbrev cX11_order : ByteArray := prog_1_method_22_code
def yX11_order : MethodName := ⟨RX11, "order", "(IIII)I"⟩
abbrev cX11_cutting : ByteArray := prog_1_method_23_code
def yX11_cutting : MethodName := ⟨RX11, "cutting", "()I"⟩
abbrev cX11_from : ByteArray := prog_1_method_24_code
def yX11_from : MethodName := ⟨RX11, "from", "(I)I"⟩
abbrev cX11_cut : ByteArray := prog_1_method_25_code
def yX11_cut : MethodName := ⟨RX11, "cut", "()I"⟩
abbrev cX11_filled : ByteArray := prog_1_method_26_code
def yX11_filled : MethodName := ⟨RX11, "filled", "(I)I"⟩
abbrev cX11_note : ByteArray := prog_1_method_27_code
def yX11_note : MethodName := ⟨RX11, "note", "(IZ)I"⟩
abbrev cX11_tally : ByteArray := prog_1_method_28_code
def yX11_tally : MethodName := ⟨RX11, "tally", "(II)I"⟩
abbrev cX11_by : ByteArray := prog_1_method_29_code
def yX11_by : MethodName := ⟨RX11, "by", "(II)I"⟩
abbrev cX11_chance : ByteArray := prog_1_method_30_code
def yX11_chance : MethodName := ⟨RX11, "chance", "(I)I"⟩
abbrev cX11_cause : ByteArray := prog_1_method_31_code
def yX11_cause : MethodName := ⟨RX11, "cause", "()I"⟩
abbrev cX11_account : ByteArray := prog_1_method_32_code
def yX11_account : MethodName := ⟨RX11, "account", "(I)J"⟩
abbrev cX11_count : ByteArray := prog_1_method_33_code
def yX11_count : MethodName := ⟨RX11, "count", "(I)I"⟩
abbrev cX11_metalAt : ByteArray := prog_1_method_34_code
def yX11_metalAt : MethodName := ⟨RX11, "metalAt", "(I)LWireMill$Metal;"⟩
abbrev cX11_pullerAt : ByteArray := prog_1_method_35_code
def yX11_pullerAt : MethodName := ⟨RX11, "pullerAt", "(I)LWireMill$Puller;"⟩
abbrev cX11_plateAt : ByteArray := prog_1_method_36_code
def yX11_plateAt : MethodName := ⟨RX11, "plateAt", "(I)LWireMill$Plate;"⟩
abbrev cX11_holeAt : ByteArray := prog_1_method_37_code
def yX11_holeAt : MethodName := ⟨RX11, "holeAt", "(II)LWireMill$Hole;"⟩
abbrev cX11_coilAt : ByteArray := prog_1_method_38_code
def yX11_coilAt : MethodName := ⟨RX11, "coilAt", "(I)LWireMill$Coil;"⟩
abbrev cX11_orderAt : ByteArray := prog_1_method_39_code
def yX11_orderAt : MethodName := ⟨RX11, "orderAt", "(I)LWireMill$Order;"⟩
abbrev cX11_addCoil : ByteArray := prog_1_method_40_code
def yX11_addCoil : MethodName := ⟨RX11, "addCoil", "(LWireMill$Coil;)I"⟩
abbrev cX11_pullThrough : ByteArray := prog_1_method_41_code
def yX11_pullThrough : MethodName := ⟨RX11, "pullThrough", "(LWireMill$Coil;LWireMill$Hole;LWireMill$Puller;)I"⟩
abbrev cX11_throwAway : ByteArray := prog_1_method_42_code
def yX11_throwAway : MethodName := ⟨RX11, "throwAway", "(LWireMill$Coil;)V"⟩
abbrev cX11_deliver : ByteArray := prog_1_method_43_code
def yX11_deliver : MethodName := ⟨RX11, "deliver", "(LWireMill$Coil;LWireMill$Order;)V"⟩
abbrev cX11_pullOf : ByteArray := prog_1_method_44_code
def yX11_pullOf : MethodName := ⟨RX11, "pullOf", "(LWireMill$Puller;)I"⟩
abbrev cX11_seekWay : ByteArray := prog_1_method_45_code
def yX11_seekWay : MethodName := ⟨RX11, "seekWay", "(IIIII)I"⟩
abbrev cX11_stuffInCoils : ByteArray := prog_1_method_46_code
def yX11_stuffInCoils : MethodName := ⟨RX11, "stuffInCoils", "()J"⟩
abbrev cX11_coilsLeft : ByteArray := prog_1_method_47_code
def yX11_coilsLeft : MethodName := ⟨RX11, "coilsLeft", "()I"⟩
abbrev cX11_ordersFilled : ByteArray := prog_1_method_48_code
def yX11_ordersFilled : MethodName := ⟨RX11, "ordersFilled", "()I"⟩
abbrev cX11_isWithin : ByteArray := prog_1_method_49_code
def yX11_isWithin : MethodName := ⟨RX11, "isWithin", "(III)Z"⟩
abbrev cX11_isSize : ByteArray := prog_1_method_50_code
def yX11_isSize : MethodName := ⟨RX11, "isSize", "(I)Z"⟩
abbrev cX11_isRange : ByteArray := prog_1_method_51_code
def yX11_isRange : MethodName := ⟨RX11, "isRange", "(II)Z"⟩
abbrev cX11_isCause : ByteArray := prog_1_method_52_code
def yX11_isCause : MethodName := ⟨RX11, "isCause", "(I)Z"⟩
abbrev cX11_quotient : ByteArray := prog_1_method_53_code
def yX11_quotient : MethodName := ⟨RX11, "quotient", "(JJ)J"⟩
abbrev cX11_commonDivisor : ByteArray := prog_1_method_54_code
def yX11_commonDivisor : MethodName := ⟨RX11, "commonDivisor", "(II)I"⟩
abbrev cX11_choices : ByteArray := prog_1_method_55_code
def yX11_choices : MethodName := ⟨RX11, "choices", "(II)J"⟩
def RX12 : String := "WireMillModel"
def TX12 : u_T := fun k => match k with
  | 0 => ("WireMillModel", "base", "[I", true)
  | 1 => ("WireMillModel", "gain", "[I", true)
  | 2 => ("WireMillModel", "limit", "[I", true)
  | 3 => ("WireMillModel", "abrade", "[I", true)
  | 4 => ("WireMillModel", "scale", "[I", true)
  | 5 => ("WireMillModel", "settings", "[I", true)
  | 6 => ("WireMillModel", "pull", "[I", true)
  | 7 => ("WireMillModel", "speed", "[I", true)
  | 8 => ("WireMillModel", "ready", "[I", true)
  | 9 => ("WireMillModel", "holes", "[I", true)
  | 10 => ("WireMillModel", "nominal", "[I", true)
  | 11 => ("WireMillModel", "wear", "[I", true)
  | 12 => ("WireMillModel", "reams", "[I", true)
  | 13 => ("WireMillModel", "coils", "I", false)
  | 14 => ("WireMillModel", "metal", "[I", true)
  | 15 => ("WireMillModel", "size", "[I", true)
  | 16 => ("WireMillModel", "hard", "[I", true)
  | 17 => ("WireMillModel", "stuff", "[J", true)
  | 18 => ("WireMillModel", "joints", "[I", true)
  | 19 => ("WireMillModel", "coilReady", "[I", true)
  | 20 => ("WireMillModel", "isBad", "[Z", true)
  | 21 => ("WireMillModel", "orders", "I", false)
  | 22 => ("WireMillModel", "orderMetal", "[I", true)
  | 23 => ("WireMillModel", "orderLow", "[I", true)
  | 24 => ("WireMillModel", "orderHigh", "[I", true)
  | 25 => ("WireMillModel", "orderFeet", "[I", true)
  | 26 => ("WireMillModel", "isFilled", "[Z", true)
  | 27 => ("WireMillModel", "notes", "I", false)
  | 28 => ("WireMillModel", "noteBits", "[I", true)
  | 29 => ("WireMillModel", "hasBroken", "[Z", true)
  | 30 => ("WireMillModel", "in", "J", false)
  | 31 => ("WireMillModel", "delivered", "J", false)
  | 32 => ("WireMillModel", "scrap", "J", false)
  | 33 => ("WireMillModel", "scaled", "J", false)
  | 34 => ("WireMillModel", "draws", "I", false)
  | 35 => ("WireMillModel", "fires", "I", false)
  | 36 => ("WireMillModel", "cost", "[I", true)
  | 37 => ("WireMillModel", "next", "[I", true)
  | 38 => ("WireMillModel", "wides", "[I", true)
  | 39 => ("WireMillModel", "isDone", "[Z", true)
  | 40 => ("WireMillModel", "steps", "I", false)
  | 41 => ("WireMillModel", "way", "[I", true)
  | 42 => ("WireMillModel", "choice", "[I", true)
  | 43 => ("WireMillModel", "best", "[I", true)
  | 44 => ("WireMillModel", "left", "[I", true)
  | 45 => ("WireMillModel", "used", "[I", true)
  | 46 => ("WireMillModel", "bestFeet", "I", false)
  | 47 => ("WireMillModel", "bestCoils", "I", false)
  | _ => ("WireMillModel", "ways", "[J", true)
def tyX12 : Nat → FieldType := fun k => match k with
  | 0 => .array .int
  | 1 => .array .int
  | 2 => .array .int
  | 3 => .array .int
  | 4 => .array .int
  | 5 => .array .int
  | 6 => .array .int
  | 7 => .array .int
  | 8 => .array .int
  | 9 => .array .int
  | 10 => .array .int
  | 11 => .array .int
  | 12 => .array .int
  | 13 => .int
  | 14 => .array .int
  | 15 => .array .int
  | 16 => .array .int
  | 17 => .array .long
  | 18 => .array .int
  | 19 => .array .int
  | 20 => .array .boolean
  | 21 => .int
  | 22 => .array .int
  | 23 => .array .int
  | 24 => .array .int
  | 25 => .array .int
  | 26 => .array .boolean
  | 27 => .int
  | 28 => .array .int
  | 29 => .array .boolean
  | 30 => .long
  | 31 => .long
  | 32 => .long
  | 33 => .long
  | 34 => .int
  | 35 => .int
  | 36 => .array .int
  | 37 => .array .int
  | 38 => .array .int
  | 39 => .array .boolean
  | 40 => .int
  | 41 => .array .int
  | 42 => .array .int
  | 43 => .array .int
  | 44 => .array .int
  | 45 => .array .int
  | 46 => .int
  | 47 => .int
  | _ => .array .long
abbrev wsX120 : List Cond := u_ws RX12 TX12 49
theorem nmX12 : ∀ a, a < 49 → ∀ b, b < 49 → a ≠ b → (TX12 a).2.1 ≠ (TX12 b).2.1 := by decide +kernel
theorem tyX12_ok : ∀ k, k < 49 → parseFieldDescriptor (TX12 k).2.2.1 = some (tyX12 k) := by decide +kernel
abbrev cX12_init : ByteArray := prog_14_method_1_code
def yX12_init : MethodName := ⟨RX12, "<init>", "()V"⟩
abbrev cX12_within : ByteArray := prog_14_method_2_code
def yX12_within : MethodName := ⟨RX12, "within", "(III)Z"⟩
abbrev cX12_isMetal : ByteArray := prog_14_method_3_code
def yX12_isMetal : MethodName := ⟨RX12, "isMetal", "(I)Z"⟩
abbrev cX12_isCoil : ByteArray := prog_14_method_4_code
def yX12_isCoil : MethodName := ⟨RX12, "isCoil", "(I)Z"⟩
abbrev cX12_isHole : ByteArray := prog_14_method_5_code
def yX12_isHole : MethodName := ⟨RX12, "isHole", "(II)Z"⟩
abbrev cX12_isPuller : ByteArray := prog_14_method_6_code
def yX12_isPuller : MethodName := ⟨RX12, "isPuller", "(I)Z"⟩
abbrev cX12_isSize : ByteArray := prog_14_method_7_code
def yX12_isSize : MethodName := ⟨RX12, "isSize", "(I)Z"⟩
abbrev cX12_metal : ByteArray := prog_14_method_8_code
def yX12_metal : MethodName := ⟨RX12, "metal", "(IIIIII)I"⟩
abbrev cX12_leastOf : ByteArray := prog_14_method_9_code
def yX12_leastOf : MethodName := ⟨RX12, "leastOf", "(I)I"⟩
abbrev cX12_mostOf : ByteArray := prog_14_method_10_code
def yX12_mostOf : MethodName := ⟨RX12, "mostOf", "(I)I"⟩
abbrev cX12_set : ByteArray := prog_14_method_11_code
def yX12_set : MethodName := ⟨RX12, "set", "(II)I"⟩
abbrev cX12_puller : ByteArray := prog_14_method_12_code
def yX12_puller : MethodName := ⟨RX12, "puller", "(III)I"⟩
abbrev cX12_hole : ByteArray := prog_14_method_13_code
def yX12_hole : MethodName := ⟨RX12, "hole", "(II)I"⟩
abbrev cX12_wide : ByteArray := prog_14_method_14_code
def yX12_wide : MethodName := ⟨RX12, "wide", "(I)I"⟩
abbrev cX12_isSpent : ByteArray := prog_14_method_15_code
def yX12_isSpent : MethodName := ⟨RX12, "isSpent", "(I)Z"⟩
abbrev cX12_told : ByteArray := prog_14_method_16_code
def yX12_told : MethodName := ⟨RX12, "told", "(III)I"⟩
abbrev cX12_gauge : ByteArray := prog_14_method_17_code
def yX12_gauge : MethodName := ⟨RX12, "gauge", "(II)I"⟩
abbrev cX12_ream : ByteArray := prog_14_method_18_code
def yX12_ream : MethodName := ⟨RX12, "ream", "(III)I"⟩
abbrev cX12_newCoil : ByteArray := prog_14_method_19_code
def yX12_newCoil : MethodName := ⟨RX12, "newCoil", "(IIJ)I"⟩
abbrev cX12_coil : ByteArray := prog_14_method_20_code
def yX12_coil : MethodName := ⟨RX12, "coil", "(IIIZ)I"⟩
abbrev cX12_feetOf : ByteArray := prog_14_method_21_code
def yX12_feetOf : MethodName := ⟨RX12, "feetOf", "(I)I"⟩
abbrev cX12_tidy : ByteArray := prog_14_method_22_code
def yX12_tidy : MethodName := ⟨RX12, "tidy", "(I)V"⟩
abbrev cX12_at : ByteArray := prog_14_method_23_code
def yX12_at : MethodName := ⟨RX12, "at", "(II)I"⟩
abbrev cX12_stuff : ByteArray := prog_14_method_24_code
def yX12_stuff : MethodName := ⟨RX12, "stuff", "(I)J"⟩
abbrev cX12_thinner : ByteArray := prog_14_method_25_code
def yX12_thinner : MethodName := ⟨RX12, "thinner", "(II)I"⟩
abbrev cX12_harder : ByteArray := prog_14_method_26_code
def yX12_harder : MethodName := ⟨RX12, "harder", "(IIII)I"⟩
abbrev cX12_asksOf : ByteArray := prog_14_method_27_code
def yX12_asksOf : MethodName := ⟨RX12, "asksOf", "(IIII)J"⟩
abbrev cX12_bearsOf : ByteArray := prog_14_method_28_code
def yX12_bearsOf : MethodName := ⟨RX12, "bearsOf", "(IIIII)J"⟩
abbrev cX12_asks : ByteArray := prog_14_method_29_code
def yX12_asks : MethodName := ⟨RX12, "asks", "(IIII)I"⟩
abbrev cX12_pullOf : ByteArray := prog_14_method_30_code
def yX12_pullOf : MethodName := ⟨RX12, "pullOf", "(I)J"⟩
abbrev cX12_against : ByteArray := prog_14_method_31_code
def yX12_against : MethodName := ⟨RX12, "against", "(IIIII)I"⟩
abbrev cX12_draw : ByteArray := prog_14_method_32_code
def yX12_draw : MethodName := ⟨RX12, "draw", "(IIII)I"⟩
abbrev cX12_fire : ByteArray := prog_14_method_33_code
def yX12_fire : MethodName := ⟨RX12, "fire", "(I)I"⟩
abbrev cX12_part : ByteArray := prog_14_method_34_code
def yX12_part : MethodName := ⟨RX12, "part", "(II)I"⟩
abbrev cX12_join : ByteArray := prog_14_method_35_code
def yX12_join : MethodName := ⟨RX12, "join", "(II)I"⟩
abbrev cX12_scrap : ByteArray := prog_14_method_36_code
def yX12_scrap : MethodName := ⟨RX12, "scrap", "(I)I"⟩
abbrev cX12_ready : ByteArray := prog_14_method_37_code
def yX12_ready : MethodName := ⟨RX12, "ready", "(I)I"⟩
abbrev cX12_findCost : ByteArray := prog_14_method_38_code
def yX12_findCost : MethodName := ⟨RX12, "findCost", "(IIIIII)V"⟩
abbrev cX12_findWay : ByteArray := prog_14_method_39_code
def yX12_findWay : MethodName := ⟨RX12, "findWay", "(IIIII)Z"⟩
abbrev cX12_wrong : ByteArray := prog_14_method_40_code
def yX12_wrong : MethodName := ⟨RX12, "wrong", "(IIIII)I"⟩
abbrev cX12_way : ByteArray := prog_14_method_41_code
def yX12_way : MethodName := ⟨RX12, "way", "(IIIII)I"⟩
abbrev cX12_step : ByteArray := prog_14_method_42_code
def yX12_step : MethodName := ⟨RX12, "step", "(IIIIII)I"⟩
abbrev cX12_go : ByteArray := prog_14_method_43_code
def yX12_go : MethodName := ⟨RX12, "go", "(IIIII)I"⟩
abbrev cX12_order : ByteArray := prog_14_method_44_code
def yX12_order : MethodName := ⟨RX12, "order", "(IIII)I"⟩
abbrev cX12_mayCut : ByteArray := prog_14_method_45_code
def yX12_mayCut : MethodName := ⟨RX12, "mayCut", "(II)Z"⟩
abbrev cX12_findCutting : ByteArray := prog_14_method_46_code
def yX12_findCutting : MethodName := ⟨RX12, "findCutting", "()V"⟩
abbrev cX12_cutting : ByteArray := prog_14_method_47_code
def yX12_cutting : MethodName := ⟨RX12, "cutting", "()I"⟩
abbrev cX12_from : ByteArray := prog_14_method_48_code
def yX12_from : MethodName := ⟨RX12, "from", "(I)I"⟩
abbrev cX12_cut : ByteArray := prog_14_method_49_code
def yX12_cut : MethodName := ⟨RX12, "cut", "()I"⟩
abbrev cX12_filled : ByteArray := prog_14_method_50_code
def yX12_filled : MethodName := ⟨RX12, "filled", "(I)I"⟩
abbrev cX12_note : ByteArray := prog_14_method_51_code
def yX12_note : MethodName := ⟨RX12, "note", "(IZ)I"⟩
abbrev cX12_tallyOf : ByteArray := prog_14_method_52_code
def yX12_tallyOf : MethodName := ⟨RX12, "tallyOf", "(II)I"⟩
abbrev cX12_tally : ByteArray := prog_14_method_53_code
def yX12_tally : MethodName := ⟨RX12, "tally", "(II)I"⟩
abbrev cX12_common : ByteArray := prog_14_method_54_code
def yX12_common : MethodName := ⟨RX12, "common", "(II)I"⟩
abbrev cX12_aboveOf : ByteArray := prog_14_method_55_code
def yX12_aboveOf : MethodName := ⟨RX12, "aboveOf", "(I)I"⟩
abbrev cX12_belowOf : ByteArray := prog_14_method_56_code
def yX12_belowOf : MethodName := ⟨RX12, "belowOf", "(I)I"⟩
abbrev cX12_by : ByteArray := prog_14_method_57_code
def yX12_by : MethodName := ⟨RX12, "by", "(II)I"⟩
abbrev cX12_choose : ByteArray := prog_14_method_58_code
def yX12_choose : MethodName := ⟨RX12, "choose", "(II)J"⟩
abbrev cX12_isMore : ByteArray := prog_14_method_59_code
def yX12_isMore : MethodName := ⟨RX12, "isMore", "(I)Z"⟩
abbrev cX12_chance : ByteArray := prog_14_method_60_code
def yX12_chance : MethodName := ⟨RX12, "chance", "(I)I"⟩
abbrev cX12_cause : ByteArray := prog_14_method_61_code
def yX12_cause : MethodName := ⟨RX12, "cause", "()I"⟩
abbrev cX12_account : ByteArray := prog_14_method_62_code
def yX12_account : MethodName := ⟨RX12, "account", "(I)J"⟩
abbrev cX12_count : ByteArray := prog_14_method_63_code
def yX12_count : MethodName := ⟨RX12, "count", "(I)I"⟩
def RJ9 : String := "java/lang/Math"
def TJ9 : u_T := fun k => match k with
  | _ => ("", "", "", false)
def tyJ9 : Nat → FieldType := fun k => match k with
  | _ => .int
abbrev wsJ90 : List Cond := u_ws RJ9 TJ9 0
theorem nmJ9 : ∀ a, a < 0 → ∀ b, b < 0 → a ≠ b → (TJ9 a).2.1 ≠ (TJ9 b).2.1 := by decide +kernel
theorem tyJ9_ok : ∀ k, k < 0 → parseFieldDescriptor (TJ9 k).2.2.1 = some (tyJ9 k) := by decide +kernel
abbrev cJ9_abs_0f7a4 : ByteArray := prog_15_method_59_code
def yJ9_abs_0f7a4 : MethodName := ⟨RJ9, "abs", "(I)I"⟩
abbrev cJ9_max_7cf53 : ByteArray := prog_15_method_65_code
def yJ9_max_7cf53 : MethodName := ⟨RJ9, "max", "(II)I"⟩
abbrev cJ9_min_7cf53 : ByteArray := prog_15_method_69_code
def yJ9_min_7cf53 : MethodName := ⟨RJ9, "min", "(II)I"⟩
def RL : String := "WireMillLaw"
abbrev cL_law : ByteArray := code
def yL_law : MethodName := ⟨RL, "law", "([I)Z"⟩
abbrev vwCl : List vw_C := [(RX0, TX0, 7), (RX1, TX1, 6), (RX2, TX2, 5), (RX3, TX3, 3), (RX4, TX4, 6), (RX5, TX5, 3), (RX6, TX6, 5), (RX7, TX7, 2), (RX8, TX8, 4), (RX9, TX9, 9), (RX10, TX10, 6), (RX11, TX11, 19), (RX12, TX12, 49)]
end
section
theorem dX0_init_0 : decode cX0_init 0 = .ok (.aload_n 0, 1) := by decide +kernel
theorem dX0_init_1 : decode cX0_init 1 = .ok (.invokespecial 1, 3) := by decide +kernel
theorem dX0_init_4 : decode cX0_init 4 = .ok (.aload_n 0, 1) := by decide +kernel
theorem dX0_init_5 : decode cX0_init 5 = .ok (.aload_n 1, 1) := by decide +kernel
theorem dX0_init_6 : decode cX0_init 6 = .ok (.putfield 7, 3) := by decide +kernel
theorem dX0_init_9 : decode cX0_init 9 = .ok (.aload_n 0, 1) := by decide +kernel
theorem dX0_init_10 : decode cX0_init 10 = .ok (.iload_n 2, 1) := by decide +kernel
theorem dX0_init_11 : decode cX0_init 11 = .ok (.putfield 13, 3) := by decide +kernel
theorem dX0_init_14 : decode cX0_init 14 = .ok (.aload_n 0, 1) := by decide +kernel
theorem dX0_init_15 : decode cX0_init 15 = .ok (.lload_n 3, 1) := by decide +kernel
theorem dX0_init_16 : decode cX0_init 16 = .ok (.putfield 17, 3) := by decide +kernel
theorem dX0_init_19 : decode cX0_init 19 = .ok (.aload_n 0, 1) := by decide +kernel
theorem dX0_init_20 : decode cX0_init 20 = .ok (.iload 5, 2) := by decide +kernel
theorem dX0_init_22 : decode cX0_init 22 = .ok (.putfield 21, 3) := by decide +kernel
theorem dX0_init_25 : decode cX0_init 25 = .ok (.return_, 1) := by decide +kernel
theorem dX0_stuffOf_0 : decode cX0_stuffOf 0 = .ok (.aload_n 0, 1) := by decide +kernel
theorem dX0_stuffOf_1 : decode cX0_stuffOf 1 = .ok (.getfield 13, 3) := by decide +kernel
theorem dX0_stuffOf_4 : decode cX0_stuffOf 4 = .ok (.i2l, 1) := by decide +kernel
theorem dX0_stuffOf_5 : decode cX0_stuffOf 5 = .ok (.aload_n 0, 1) := by decide +kernel
theorem dX0_stuffOf_6 : decode cX0_stuffOf 6 = .ok (.getfield 13, 3) := by decide +kernel
theorem dX0_stuffOf_9 : decode cX0_stuffOf 9 = .ok (.i2l, 1) := by decide +kernel
theorem dX0_stuffOf_10 : decode cX0_stuffOf 10 = .ok (.lmul, 1) := by decide +kernel
theorem dX0_stuffOf_11 : decode cX0_stuffOf 11 = .ok (.iload_n 1, 1) := by decide +kernel
theorem dX0_stuffOf_12 : decode cX0_stuffOf 12 = .ok (.i2l, 1) := by decide +kernel
theorem dX0_stuffOf_13 : decode cX0_stuffOf 13 = .ok (.lmul, 1) := by decide +kernel
theorem dX0_stuffOf_14 : decode cX0_stuffOf 14 = .ok (.lreturn, 1) := by decide +kernel
theorem dX0_feet_0 : decode cX0_feet 0 = .ok (.aload_n 0, 1) := by decide +kernel
theorem dX0_feet_1 : decode cX0_feet 1 = .ok (.getfield 17, 3) := by decide +kernel
theorem dX0_feet_4 : decode cX0_feet 4 = .ok (.aload_n 0, 1) := by decide +kernel
theorem dX0_feet_5 : decode cX0_feet 5 = .ok (.iconst 1, 1) := by decide +kernel
theorem dX0_feet_6 : decode cX0_feet 6 = .ok (.invokevirtual 25, 3) := by decide +kernel
theorem dX0_feet_9 : decode cX0_feet 9 = .ok (.invokestatic 29, 3) := by decide +kernel
theorem dX0_feet_12 : decode cX0_feet 12 = .ok (.l2i, 1) := by decide +kernel
theorem dX0_feet_13 : decode cX0_feet 13 = .ok (.ireturn, 1) := by decide +kernel
theorem dX0_isGone_0 : decode cX0_isGone 0 = .ok (.aload_n 0, 1) := by decide +kernel
theorem dX0_isGone_1 : decode cX0_isGone 1 = .ok (.invokevirtual 35, 3) := by decide +kernel
theorem dX0_isGone_4 : decode cX0_isGone 4 = .ok (.ifCond .ne 7, 3) := by decide +kernel
theorem dX0_isGone_7 : decode cX0_isGone 7 = .ok (.iconst 1, 1) := by decide +kernel
theorem dX0_isGone_8 : decode cX0_isGone 8 = .ok (.goto 4, 3) := by decide +kernel
theorem dX0_isGone_11 : decode cX0_isGone 11 = .ok (.iconst 0, 1) := by decide +kernel
theorem dX0_isGone_12 : decode cX0_isGone 12 = .ok (.ireturn, 1) := by decide +kernel
theorem dX1_init_0 : decode cX1_init 0 = .ok (.aload_n 0, 1) := by decide +kernel
theorem dX1_init_1 : decode cX1_init 1 = .ok (.invokespecial 3, 3) := by decide +kernel
theorem dX1_init_4 : decode cX1_init 4 = .ok (.aload_n 0, 1) := by decide +kernel
theorem dX1_init_5 : decode cX1_init 5 = .ok (.bipush 64, 2) := by decide +kernel
theorem dX1_init_7 : decode cX1_init 7 = .ok (.newarray .int, 2) := by decide +kernel
theorem dX1_init_9 : decode cX1_init 9 = .ok (.putfield 11, 3) := by decide +kernel
theorem dX1_init_12 : decode cX1_init 12 = .ok (.aload_n 0, 1) := by decide +kernel
theorem dX1_init_13 : decode cX1_init 13 = .ok (.bipush 64, 2) := by decide +kernel
theorem dX1_init_15 : decode cX1_init 15 = .ok (.newarray .int, 2) := by decide +kernel
theorem dX1_init_17 : decode cX1_init 17 = .ok (.putfield 15, 3) := by decide +kernel
theorem dX1_init_20 : decode cX1_init 20 = .ok (.aload_n 0, 1) := by decide +kernel
theorem dX1_init_21 : decode cX1_init 21 = .ok (.bipush 64, 2) := by decide +kernel
theorem dX1_init_23 : decode cX1_init 23 = .ok (.newarray .int, 2) := by decide +kernel
theorem dX1_init_25 : decode cX1_init 25 = .ok (.putfield 18, 3) := by decide +kernel
theorem dX1_init_28 : decode cX1_init 28 = .ok (.aload_n 0, 1) := by decide +kernel
theorem dX1_init_29 : decode cX1_init 29 = .ok (.bipush 64, 2) := by decide +kernel
theorem dX1_init_31 : decode cX1_init 31 = .ok (.newarray .int, 2) := by decide +kernel
theorem dX1_init_33 : decode cX1_init 33 = .ok (.putfield 21, 3) := by decide +kernel
theorem dX1_init_36 : decode cX1_init 36 = .ok (.aload_n 0, 1) := by decide +kernel
theorem dX1_init_37 : decode cX1_init 37 = .ok (.ldc 24, 2) := by decide +kernel
theorem dX1_init_39 : decode cX1_init 39 = .ok (.putfield 25, 3) := by decide +kernel
theorem dX1_init_42 : decode cX1_init 42 = .ok (.return_, 1) := by decide +kernel
theorem dX1_seek_0 : decode cX1_seek 0 = .ok (.aload_n 0, 1) := by decide +kernel
theorem dX1_seek_1 : decode cX1_seek 1 = .ok (.aload_n 2, 1) := by decide +kernel
theorem dX1_seek_2 : decode cX1_seek 2 = .ok (.invokevirtual 29, 3) := by decide +kernel
theorem dX1_seek_5 : decode cX1_seek 5 = .ok (.iconst 0, 1) := by decide +kernel
theorem dX1_seek_6 : decode cX1_seek 6 = .ok (.istore_n 3, 1) := by decide +kernel
theorem dX1_seek_7 : decode cX1_seek 7 = .ok (.iload_n 3, 1) := by decide +kernel
theorem dX1_seek_8 : decode cX1_seek 8 = .ok (.bipush 64, 2) := by decide +kernel
theorem dX1_seek_10 : decode cX1_seek 10 = .ok (.if_icmp .ge 26, 3) := by decide +kernel
theorem dX1_seek_13 : decode cX1_seek 13 = .ok (.aload_n 0, 1) := by decide +kernel
theorem dX1_seek_14 : decode cX1_seek 14 = .ok (.getfield 18, 3) := by decide +kernel
theorem dX1_seek_17 : decode cX1_seek 17 = .ok (.iload_n 3, 1) := by decide +kernel
theorem dX1_seek_18 : decode cX1_seek 18 = .ok (.iload_n 3, 1) := by decide +kernel
theorem dX1_seek_19 : decode cX1_seek 19 = .ok (.ifCond .ne 8, 3) := by decide +kernel
theorem dX1_seek_22 : decode cX1_seek 22 = .ok (.ldc 24, 2) := by decide +kernel
theorem dX1_seek_24 : decode cX1_seek 24 = .ok (.goto 5, 3) := by decide +kernel
theorem dX1_seek_27 : decode cX1_seek 27 = .ok (.ldc 33, 2) := by decide +kernel
theorem dX1_seek_29 : decode cX1_seek 29 = .ok (.iastore, 1) := by decide +kernel
theorem dX1_seek_30 : decode cX1_seek 30 = .ok (.iinc 3 1, 3) := by decide +kernel
theorem dX1_seek_33 : decode cX1_seek 33 = .ok (.goto (-26), 3) := by decide +kernel
theorem dX1_seek_36 : decode cX1_seek 36 = .ok (.iconst 0, 1) := by decide +kernel
theorem dX1_seek_37 : decode cX1_seek 37 = .ok (.istore_n 3, 1) := by decide +kernel
theorem dX1_seek_38 : decode cX1_seek 38 = .ok (.iload_n 3, 1) := by decide +kernel
theorem dX1_seek_39 : decode cX1_seek 39 = .ok (.aload_n 1, 1) := by decide +kernel
theorem dX1_seek_40 : decode cX1_seek 40 = .ok (.arraylength, 1) := by decide +kernel
theorem dX1_seek_41 : decode cX1_seek 41 = .ok (.if_icmp .ge 33, 3) := by decide +kernel
theorem dX1_seek_44 : decode cX1_seek 44 = .ok (.aload_n 1, 1) := by decide +kernel
theorem dX1_seek_45 : decode cX1_seek 45 = .ok (.iload_n 3, 1) := by decide +kernel
theorem dX1_seek_46 : decode cX1_seek 46 = .ok (.aaload, 1) := by decide +kernel
theorem dX1_seek_47 : decode cX1_seek 47 = .ok (.ifnull 21, 3) := by decide +kernel
theorem dX1_seek_50 : decode cX1_seek 50 = .ok (.aload_n 1, 1) := by decide +kernel
theorem dX1_seek_51 : decode cX1_seek 51 = .ok (.iload_n 3, 1) := by decide +kernel
theorem dX1_seek_52 : decode cX1_seek 52 = .ok (.aaload, 1) := by decide +kernel
theorem dX1_seek_53 : decode cX1_seek 53 = .ok (.invokevirtual 34, 3) := by decide +kernel
theorem dX1_seek_56 : decode cX1_seek 56 = .ok (.ifCond .ne 12, 3) := by decide +kernel
theorem dX1_seek_59 : decode cX1_seek 59 = .ok (.aload_n 0, 1) := by decide +kernel
theorem dX1_seek_60 : decode cX1_seek 60 = .ok (.aload_n 1, 1) := by decide +kernel
theorem dX1_seek_61 : decode cX1_seek 61 = .ok (.iload_n 3, 1) := by decide +kernel
theorem dX1_seek_62 : decode cX1_seek 62 = .ok (.aaload, 1) := by decide +kernel
theorem dX1_seek_63 : decode cX1_seek 63 = .ok (.iload_n 3, 1) := by decide +kernel
theorem dX1_seek_64 : decode cX1_seek 64 = .ok (.aload_n 2, 1) := by decide +kernel
theorem dX1_seek_65 : decode cX1_seek 65 = .ok (.invokevirtual 40, 3) := by decide +kernel
theorem dX1_seek_68 : decode cX1_seek 68 = .ok (.iinc 3 1, 3) := by decide +kernel
theorem dX1_seek_71 : decode cX1_seek 71 = .ok (.goto (-33), 3) := by decide +kernel
theorem dX1_seek_74 : decode cX1_seek 74 = .ok (.aload_n 0, 1) := by decide +kernel
theorem dX1_seek_75 : decode cX1_seek 75 = .ok (.iconst 0, 1) := by decide +kernel
theorem dX1_seek_76 : decode cX1_seek 76 = .ok (.putfield 44, 3) := by decide +kernel
theorem dX1_seek_79 : decode cX1_seek 79 = .ok (.aload_n 0, 1) := by decide +kernel
theorem dX1_seek_80 : decode cX1_seek 80 = .ok (.ldc 24, 2) := by decide +kernel
theorem dX1_seek_82 : decode cX1_seek 82 = .ok (.putfield 25, 3) := by decide +kernel
theorem dX1_seek_85 : decode cX1_seek 85 = .ok (.iconst 1, 1) := by decide +kernel
theorem dX1_seek_86 : decode cX1_seek 86 = .ok (.istore_n 3, 1) := by decide +kernel
theorem dX1_seek_87 : decode cX1_seek 87 = .ok (.iload_n 3, 1) := by decide +kernel
theorem dX1_seek_88 : decode cX1_seek 88 = .ok (.bipush 64, 2) := by decide +kernel
theorem dX1_seek_90 : decode cX1_seek 90 = .ok (.if_icmp .ge 82, 3) := by decide +kernel
theorem dX1_seek_93 : decode cX1_seek 93 = .ok (.aload_n 0, 1) := by decide +kernel
theorem dX1_seek_94 : decode cX1_seek 94 = .ok (.getfield 18, 3) := by decide +kernel
theorem dX1_seek_97 : decode cX1_seek 97 = .ok (.iload_n 3, 1) := by decide +kernel
theorem dX1_seek_98 : decode cX1_seek 98 = .ok (.iaload, 1) := by decide +kernel
theorem dX1_seek_99 : decode cX1_seek 99 = .ok (.ldc 33, 2) := by decide +kernel
theorem dX1_seek_101 : decode cX1_seek 101 = .ok (.if_icmp .eq 65, 3) := by decide +kernel
theorem dX1_seek_104 : decode cX1_seek 104 = .ok (.aload_n 0, 1) := by decide +kernel
theorem dX1_seek_105 : decode cX1_seek 105 = .ok (.getfield 11, 3) := by decide +kernel
theorem dX1_seek_108 : decode cX1_seek 108 = .ok (.iload_n 3, 1) := by decide +kernel
theorem dX1_seek_109 : decode cX1_seek 109 = .ok (.iaload, 1) := by decide +kernel
theorem dX1_seek_110 : decode cX1_seek 110 = .ok (.aload_n 0, 1) := by decide +kernel
theorem dX1_seek_111 : decode cX1_seek 111 = .ok (.getfield 44, 3) := by decide +kernel
theorem dX1_seek_114 : decode cX1_seek 114 = .ok (.if_icmp .ge 6, 3) := by decide +kernel
theorem dX1_seek_117 : decode cX1_seek 117 = .ok (.goto 49, 3) := by decide +kernel
theorem dX1_seek_120 : decode cX1_seek 120 = .ok (.aload_n 0, 1) := by decide +kernel
theorem dX1_seek_121 : decode cX1_seek 121 = .ok (.getfield 11, 3) := by decide +kernel
theorem dX1_seek_124 : decode cX1_seek 124 = .ok (.iload_n 3, 1) := by decide +kernel
theorem dX1_seek_125 : decode cX1_seek 125 = .ok (.iaload, 1) := by decide +kernel
theorem dX1_seek_126 : decode cX1_seek 126 = .ok (.aload_n 0, 1) := by decide +kernel
theorem dX1_seek_127 : decode cX1_seek 127 = .ok (.getfield 44, 3) := by decide +kernel
theorem dX1_seek_130 : decode cX1_seek 130 = .ok (.if_icmp .gt 16, 3) := by decide +kernel
theorem dX1_seek_133 : decode cX1_seek 133 = .ok (.aload_n 0, 1) := by decide +kernel
theorem dX1_seek_134 : decode cX1_seek 134 = .ok (.getfield 18, 3) := by decide +kernel
theorem dX1_seek_137 : decode cX1_seek 137 = .ok (.iload_n 3, 1) := by decide +kernel
theorem dX1_seek_138 : decode cX1_seek 138 = .ok (.iaload, 1) := by decide +kernel
theorem dX1_seek_139 : decode cX1_seek 139 = .ok (.aload_n 0, 1) := by decide +kernel
theorem dX1_seek_140 : decode cX1_seek 140 = .ok (.getfield 25, 3) := by decide +kernel
theorem dX1_seek_143 : decode cX1_seek 143 = .ok (.if_icmp .ge 23, 3) := by decide +kernel
theorem dX1_seek_146 : decode cX1_seek 146 = .ok (.aload_n 0, 1) := by decide +kernel
theorem dX1_seek_147 : decode cX1_seek 147 = .ok (.aload_n 0, 1) := by decide +kernel
theorem dX1_seek_148 : decode cX1_seek 148 = .ok (.getfield 11, 3) := by decide +kernel
theorem dX1_seek_151 : decode cX1_seek 151 = .ok (.iload_n 3, 1) := by decide +kernel
theorem dX1_seek_152 : decode cX1_seek 152 = .ok (.iaload, 1) := by decide +kernel
theorem dX1_seek_153 : decode cX1_seek 153 = .ok (.putfield 44, 3) := by decide +kernel
theorem dX1_seek_156 : decode cX1_seek 156 = .ok (.aload_n 0, 1) := by decide +kernel
theorem dX1_seek_157 : decode cX1_seek 157 = .ok (.aload_n 0, 1) := by decide +kernel
theorem dX1_seek_158 : decode cX1_seek 158 = .ok (.getfield 18, 3) := by decide +kernel
theorem dX1_seek_161 : decode cX1_seek 161 = .ok (.iload_n 3, 1) := by decide +kernel
theorem dX1_seek_162 : decode cX1_seek 162 = .ok (.iaload, 1) := by decide +kernel
theorem dX1_seek_163 : decode cX1_seek 163 = .ok (.putfield 25, 3) := by decide +kernel
theorem dX1_seek_166 : decode cX1_seek 166 = .ok (.iinc 3 1, 3) := by decide +kernel
theorem dX1_seek_169 : decode cX1_seek 169 = .ok (.goto (-82), 3) := by decide +kernel
theorem dX1_seek_172 : decode cX1_seek 172 = .ok (.return_, 1) := by decide +kernel
theorem dX1_coilOf_0 : decode cX1_coilOf 0 = .ok (.iload_n 1, 1) := by decide +kernel
theorem dX1_coilOf_1 : decode cX1_coilOf 1 = .ok (.ifCond .lt 11, 3) := by decide +kernel
theorem dX1_coilOf_4 : decode cX1_coilOf 4 = .ok (.iload_n 1, 1) := by decide +kernel
theorem dX1_coilOf_5 : decode cX1_coilOf 5 = .ok (.getstatic 47, 3) := by decide +kernel
theorem dX1_coilOf_8 : decode cX1_coilOf 8 = .ok (.arraylength, 1) := by decide +kernel
theorem dX1_coilOf_9 : decode cX1_coilOf 9 = .ok (.if_icmp .lt 5, 3) := by decide +kernel
theorem dX1_coilOf_12 : decode cX1_coilOf 12 = .ok (.iconst (-1), 1) := by decide +kernel
theorem dX1_coilOf_13 : decode cX1_coilOf 13 = .ok (.ireturn, 1) := by decide +kernel
theorem dX1_coilOf_14 : decode cX1_coilOf 14 = .ok (.aload_n 0, 1) := by decide +kernel
theorem dX1_coilOf_15 : decode cX1_coilOf 15 = .ok (.getfield 25, 3) := by decide +kernel
theorem dX1_coilOf_18 : decode cX1_coilOf 18 = .ok (.i2l, 1) := by decide +kernel
theorem dX1_coilOf_19 : decode cX1_coilOf 19 = .ok (.getstatic 47, 3) := by decide +kernel
theorem dX1_coilOf_22 : decode cX1_coilOf 22 = .ok (.iload_n 1, 1) := by decide +kernel
theorem dX1_coilOf_23 : decode cX1_coilOf 23 = .ok (.iaload, 1) := by decide +kernel
theorem dX1_coilOf_24 : decode cX1_coilOf 24 = .ok (.i2l, 1) := by decide +kernel
theorem dX1_coilOf_25 : decode cX1_coilOf 25 = .ok (.invokestatic 50, 3) := by decide +kernel
theorem dX1_coilOf_28 : decode cX1_coilOf 28 = .ok (.l2i, 1) := by decide +kernel
theorem dX1_coilOf_29 : decode cX1_coilOf 29 = .ok (.bipush 17, 2) := by decide +kernel
theorem dX1_coilOf_31 : decode cX1_coilOf 31 = .ok (.irem, 1) := by decide +kernel
theorem dX1_coilOf_32 : decode cX1_coilOf 32 = .ok (.istore_n 2, 1) := by decide +kernel
theorem dX1_coilOf_33 : decode cX1_coilOf 33 = .ok (.iload_n 2, 1) := by decide +kernel
theorem dX1_coilOf_34 : decode cX1_coilOf 34 = .ok (.bipush 16, 2) := by decide +kernel
theorem dX1_coilOf_36 : decode cX1_coilOf 36 = .ok (.if_icmp .ne 7, 3) := by decide +kernel
theorem dX1_coilOf_39 : decode cX1_coilOf 39 = .ok (.iconst (-1), 1) := by decide +kernel
theorem dX1_coilOf_40 : decode cX1_coilOf 40 = .ok (.goto 4, 3) := by decide +kernel
theorem dX1_coilOf_43 : decode cX1_coilOf 43 = .ok (.iload_n 2, 1) := by decide +kernel
theorem dX1_coilOf_44 : decode cX1_coilOf 44 = .ok (.ireturn, 1) := by decide +kernel
theorem dX1_uses_0 : decode cX1_uses 0 = .ok (.iconst 0, 1) := by decide +kernel
theorem dX1_uses_1 : decode cX1_uses 1 = .ok (.istore_n 2, 1) := by decide +kernel
theorem dX1_uses_2 : decode cX1_uses 2 = .ok (.iload_n 2, 1) := by decide +kernel
theorem dX1_uses_3 : decode cX1_uses 3 = .ok (.getstatic 47, 3) := by decide +kernel
theorem dX1_uses_6 : decode cX1_uses 6 = .ok (.arraylength, 1) := by decide +kernel
theorem dX1_uses_7 : decode cX1_uses 7 = .ok (.if_icmp .ge 20, 3) := by decide +kernel
theorem dX1_uses_10 : decode cX1_uses 10 = .ok (.aload_n 0, 1) := by decide +kernel
theorem dX1_uses_11 : decode cX1_uses 11 = .ok (.iload_n 2, 1) := by decide +kernel
theorem dX1_uses_12 : decode cX1_uses 12 = .ok (.invokevirtual 54, 3) := by decide +kernel
theorem dX1_uses_15 : decode cX1_uses 15 = .ok (.iload_n 1, 1) := by decide +kernel
theorem dX1_uses_16 : decode cX1_uses 16 = .ok (.if_icmp .ne 5, 3) := by decide +kernel
theorem dX1_uses_19 : decode cX1_uses 19 = .ok (.iconst 1, 1) := by decide +kernel
theorem dX1_uses_20 : decode cX1_uses 20 = .ok (.ireturn, 1) := by decide +kernel
theorem dX1_uses_21 : decode cX1_uses 21 = .ok (.iinc 2 1, 3) := by decide +kernel
theorem dX1_uses_24 : decode cX1_uses 24 = .ok (.goto (-22), 3) := by decide +kernel
theorem dX1_uses_27 : decode cX1_uses 27 = .ok (.iconst 0, 1) := by decide +kernel
theorem dX1_uses_28 : decode cX1_uses 28 = .ok (.ireturn, 1) := by decide +kernel
theorem dX1_measureSets_0 : decode cX1_measureSets 0 = .ok (.iconst 0, 1) := by decide +kernel
theorem dX1_measureSets_1 : decode cX1_measureSets 1 = .ok (.istore_n 2, 1) := by decide +kernel
theorem dX1_measureSets_2 : decode cX1_measureSets 2 = .ok (.iload_n 2, 1) := by decide +kernel
theorem dX1_measureSets_3 : decode cX1_measureSets 3 = .ok (.bipush 64, 2) := by decide +kernel
theorem dX1_measureSets_5 : decode cX1_measureSets 5 = .ok (.if_icmp .ge 91, 3) := by decide +kernel
theorem dX1_measureSets_8 : decode cX1_measureSets 8 = .ok (.aload_n 0, 1) := by decide +kernel
theorem dX1_measureSets_9 : decode cX1_measureSets 9 = .ok (.getfield 11, 3) := by decide +kernel
theorem dX1_measureSets_12 : decode cX1_measureSets 12 = .ok (.iload_n 2, 1) := by decide +kernel
theorem dX1_measureSets_13 : decode cX1_measureSets 13 = .ok (.iconst 0, 1) := by decide +kernel
theorem dX1_measureSets_14 : decode cX1_measureSets 14 = .ok (.iastore, 1) := by decide +kernel
theorem dX1_measureSets_15 : decode cX1_measureSets 15 = .ok (.aload_n 0, 1) := by decide +kernel
theorem dX1_measureSets_16 : decode cX1_measureSets 16 = .ok (.getfield 15, 3) := by decide +kernel
theorem dX1_measureSets_19 : decode cX1_measureSets 19 = .ok (.iload_n 2, 1) := by decide +kernel
theorem dX1_measureSets_20 : decode cX1_measureSets 20 = .ok (.iconst 0, 1) := by decide +kernel
theorem dX1_measureSets_21 : decode cX1_measureSets 21 = .ok (.iastore, 1) := by decide +kernel
theorem dX1_measureSets_22 : decode cX1_measureSets 22 = .ok (.iconst 0, 1) := by decide +kernel
theorem dX1_measureSets_23 : decode cX1_measureSets 23 = .ok (.istore_n 3, 1) := by decide +kernel
theorem dX1_measureSets_24 : decode cX1_measureSets 24 = .ok (.iload_n 3, 1) := by decide +kernel
theorem dX1_measureSets_25 : decode cX1_measureSets 25 = .ok (.aload_n 1, 1) := by decide +kernel
theorem dX1_measureSets_26 : decode cX1_measureSets 26 = .ok (.arraylength, 1) := by decide +kernel
theorem dX1_measureSets_27 : decode cX1_measureSets 27 = .ok (.if_icmp .ge 63, 3) := by decide +kernel
theorem dX1_measureSets_30 : decode cX1_measureSets 30 = .ok (.iload_n 3, 1) := by decide +kernel
theorem dX1_measureSets_31 : decode cX1_measureSets 31 = .ok (.getstatic 47, 3) := by decide +kernel
theorem dX1_measureSets_34 : decode cX1_measureSets 34 = .ok (.arraylength, 1) := by decide +kernel
theorem dX1_measureSets_35 : decode cX1_measureSets 35 = .ok (.if_icmp .ge 55, 3) := by decide +kernel
theorem dX1_measureSets_38 : decode cX1_measureSets 38 = .ok (.iload_n 2, 1) := by decide +kernel
theorem dX1_measureSets_39 : decode cX1_measureSets 39 = .ok (.iload_n 3, 1) := by decide +kernel
theorem dX1_measureSets_40 : decode cX1_measureSets 40 = .ok (.ishr, 1) := by decide +kernel
theorem dX1_measureSets_41 : decode cX1_measureSets 41 = .ok (.iconst 1, 1) := by decide +kernel
theorem dX1_measureSets_42 : decode cX1_measureSets 42 = .ok (.iand, 1) := by decide +kernel
theorem dX1_measureSets_43 : decode cX1_measureSets 43 = .ok (.ifCond .ne 6, 3) := by decide +kernel
theorem dX1_measureSets_46 : decode cX1_measureSets 46 = .ok (.goto 38, 3) := by decide +kernel
theorem dX1_measureSets_49 : decode cX1_measureSets 49 = .ok (.aload_n 0, 1) := by decide +kernel
theorem dX1_measureSets_50 : decode cX1_measureSets 50 = .ok (.getfield 15, 3) := by decide +kernel
theorem dX1_measureSets_53 : decode cX1_measureSets 53 = .ok (.iload_n 2, 1) := by decide +kernel
theorem dX1_measureSets_54 : decode cX1_measureSets 54 = .ok (.dup2, 1) := by decide +kernel
theorem dX1_measureSets_55 : decode cX1_measureSets 55 = .ok (.iaload, 1) := by decide +kernel
theorem dX1_measureSets_56 : decode cX1_measureSets 56 = .ok (.getstatic 47, 3) := by decide +kernel
theorem dX1_measureSets_59 : decode cX1_measureSets 59 = .ok (.iload_n 3, 1) := by decide +kernel
theorem dX1_measureSets_60 : decode cX1_measureSets 60 = .ok (.iaload, 1) := by decide +kernel
theorem dX1_measureSets_61 : decode cX1_measureSets 61 = .ok (.iadd, 1) := by decide +kernel
theorem dX1_measureSets_62 : decode cX1_measureSets 62 = .ok (.iastore, 1) := by decide +kernel
theorem dX1_measureSets_63 : decode cX1_measureSets 63 = .ok (.aload_n 1, 1) := by decide +kernel
theorem dX1_measureSets_64 : decode cX1_measureSets 64 = .ok (.iload_n 3, 1) := by decide +kernel
theorem dX1_measureSets_65 : decode cX1_measureSets 65 = .ok (.aaload, 1) := by decide +kernel
theorem dX1_measureSets_66 : decode cX1_measureSets 66 = .ok (.ifnull 18, 3) := by decide +kernel
theorem dX1_measureSets_69 : decode cX1_measureSets 69 = .ok (.aload_n 0, 1) := by decide +kernel
theorem dX1_measureSets_70 : decode cX1_measureSets 70 = .ok (.getfield 11, 3) := by decide +kernel
theorem dX1_measureSets_73 : decode cX1_measureSets 73 = .ok (.iload_n 2, 1) := by decide +kernel
theorem dX1_measureSets_74 : decode cX1_measureSets 74 = .ok (.dup2, 1) := by decide +kernel
theorem dX1_measureSets_75 : decode cX1_measureSets 75 = .ok (.iaload, 1) := by decide +kernel
theorem dX1_measureSets_76 : decode cX1_measureSets 76 = .ok (.aload_n 1, 1) := by decide +kernel
theorem dX1_measureSets_77 : decode cX1_measureSets 77 = .ok (.iload_n 3, 1) := by decide +kernel
theorem dX1_measureSets_78 : decode cX1_measureSets 78 = .ok (.aaload, 1) := by decide +kernel
theorem dX1_measureSets_79 : decode cX1_measureSets 79 = .ok (.getfield 58, 3) := by decide +kernel
theorem dX1_measureSets_82 : decode cX1_measureSets 82 = .ok (.iadd, 1) := by decide +kernel
theorem dX1_measureSets_83 : decode cX1_measureSets 83 = .ok (.iastore, 1) := by decide +kernel
theorem dX1_measureSets_84 : decode cX1_measureSets 84 = .ok (.iinc 3 1, 3) := by decide +kernel
theorem dX1_measureSets_87 : decode cX1_measureSets 87 = .ok (.goto (-63), 3) := by decide +kernel
theorem dX1_measureSets_90 : decode cX1_measureSets 90 = .ok (.iinc 2 1, 3) := by decide +kernel
theorem dX1_measureSets_93 : decode cX1_measureSets 93 = .ok (.goto (-91), 3) := by decide +kernel
theorem dX1_measureSets_96 : decode cX1_measureSets 96 = .ok (.return_, 1) := by decide +kernel
theorem dX1_offer_0 : decode cX1_offer 0 = .ok (.aload_n 1, 1) := by decide +kernel
theorem dX1_offer_1 : decode cX1_offer 1 = .ok (.aload_n 3, 1) := by decide +kernel
theorem dX1_offer_2 : decode cX1_offer 2 = .ok (.invokestatic 61, 3) := by decide +kernel
theorem dX1_offer_5 : decode cX1_offer 5 = .ok (.istore 4, 2) := by decide +kernel
theorem dX1_offer_7 : decode cX1_offer 7 = .ok (.iload 4, 2) := by decide +kernel
theorem dX1_offer_9 : decode cX1_offer 9 = .ok (.ifCond .ne 4, 3) := by decide +kernel
theorem dX1_offer_12 : decode cX1_offer 12 = .ok (.return_, 1) := by decide +kernel
theorem dX1_offer_13 : decode cX1_offer 13 = .ok (.aload_n 1, 1) := by decide +kernel
theorem dX1_offer_14 : decode cX1_offer 14 = .ok (.invokevirtual 65, 3) := by decide +kernel
theorem dX1_offer_17 : decode cX1_offer 17 = .ok (.istore 5, 2) := by decide +kernel
theorem dX1_offer_19 : decode cX1_offer 19 = .ok (.iconst 0, 1) := by decide +kernel
theorem dX1_offer_20 : decode cX1_offer 20 = .ok (.istore 6, 2) := by decide +kernel
theorem dX1_offer_22 : decode cX1_offer 22 = .ok (.iload 6, 2) := by decide +kernel
theorem dX1_offer_24 : decode cX1_offer 24 = .ok (.bipush 64, 2) := by decide +kernel
theorem dX1_offer_26 : decode cX1_offer 26 = .ok (.if_icmp .ge 23, 3) := by decide +kernel
theorem dX1_offer_29 : decode cX1_offer 29 = .ok (.aload_n 0, 1) := by decide +kernel
theorem dX1_offer_30 : decode cX1_offer 30 = .ok (.getfield 21, 3) := by decide +kernel
theorem dX1_offer_33 : decode cX1_offer 33 = .ok (.iload 6, 2) := by decide +kernel
theorem dX1_offer_35 : decode cX1_offer 35 = .ok (.aload_n 0, 1) := by decide +kernel
theorem dX1_offer_36 : decode cX1_offer 36 = .ok (.getfield 18, 3) := by decide +kernel
theorem dX1_offer_39 : decode cX1_offer 39 = .ok (.iload 6, 2) := by decide +kernel
theorem dX1_offer_41 : decode cX1_offer 41 = .ok (.iaload, 1) := by decide +kernel
theorem dX1_offer_42 : decode cX1_offer 42 = .ok (.iastore, 1) := by decide +kernel
theorem dX1_offer_43 : decode cX1_offer 43 = .ok (.iinc 6 1, 3) := by decide +kernel
theorem dX1_offer_46 : decode cX1_offer 46 = .ok (.goto (-24), 3) := by decide +kernel
theorem dX1_offer_49 : decode cX1_offer 49 = .ok (.iconst 1, 1) := by decide +kernel
theorem dX1_offer_50 : decode cX1_offer 50 = .ok (.istore 6, 2) := by decide +kernel
theorem dX1_offer_52 : decode cX1_offer 52 = .ok (.iload 6, 2) := by decide +kernel
theorem dX1_offer_54 : decode cX1_offer 54 = .ok (.bipush 64, 2) := by decide +kernel
theorem dX1_offer_56 : decode cX1_offer 56 = .ok (.if_icmp .ge 55, 3) := by decide +kernel
theorem dX1_offer_59 : decode cX1_offer 59 = .ok (.iload 6, 2) := by decide +kernel
theorem dX1_offer_61 : decode cX1_offer 61 = .ok (.iload 4, 2) := by decide +kernel
theorem dX1_offer_63 : decode cX1_offer 63 = .ok (.iconst (-1), 1) := by decide +kernel
theorem dX1_offer_64 : decode cX1_offer 64 = .ok (.ixor, 1) := by decide +kernel
theorem dX1_offer_65 : decode cX1_offer 65 = .ok (.iand, 1) := by decide +kernel
theorem dX1_offer_66 : decode cX1_offer 66 = .ok (.ifCond .ne 39, 3) := by decide +kernel
theorem dX1_offer_69 : decode cX1_offer 69 = .ok (.aload_n 0, 1) := by decide +kernel
theorem dX1_offer_70 : decode cX1_offer 70 = .ok (.getfield 11, 3) := by decide +kernel
theorem dX1_offer_73 : decode cX1_offer 73 = .ok (.iload 6, 2) := by decide +kernel
theorem dX1_offer_75 : decode cX1_offer 75 = .ok (.iaload, 1) := by decide +kernel
theorem dX1_offer_76 : decode cX1_offer 76 = .ok (.iload 5, 2) := by decide +kernel
theorem dX1_offer_78 : decode cX1_offer 78 = .ok (.if_icmp .le 6, 3) := by decide +kernel
theorem dX1_offer_81 : decode cX1_offer 81 = .ok (.goto 24, 3) := by decide +kernel
theorem dX1_offer_84 : decode cX1_offer 84 = .ok (.aload_n 0, 1) := by decide +kernel
theorem dX1_offer_85 : decode cX1_offer 85 = .ok (.iload 6, 2) := by decide +kernel
theorem dX1_offer_87 : decode cX1_offer 87 = .ok (.ldc 68, 2) := by decide +kernel
theorem dX1_offer_89 : decode cX1_offer 89 = .ok (.bipush 16, 2) := by decide +kernel
theorem dX1_offer_91 : decode cX1_offer 91 = .ok (.iload_n 2, 1) := by decide +kernel
theorem dX1_offer_92 : decode cX1_offer 92 = .ok (.isub, 1) := by decide +kernel
theorem dX1_offer_93 : decode cX1_offer 93 = .ok (.aload_n 0, 1) := by decide +kernel
theorem dX1_offer_94 : decode cX1_offer 94 = .ok (.getfield 15, 3) := by decide +kernel
theorem dX1_offer_97 : decode cX1_offer 97 = .ok (.iload 6, 2) := by decide +kernel
theorem dX1_offer_99 : decode cX1_offer 99 = .ok (.iaload, 1) := by decide +kernel
theorem dX1_offer_100 : decode cX1_offer 100 = .ok (.imul, 1) := by decide +kernel
theorem dX1_offer_101 : decode cX1_offer 101 = .ok (.isub, 1) := by decide +kernel
theorem dX1_offer_102 : decode cX1_offer 102 = .ok (.invokevirtual 69, 3) := by decide +kernel
theorem dX1_offer_105 : decode cX1_offer 105 = .ok (.iinc 6 1, 3) := by decide +kernel
theorem dX1_offer_108 : decode cX1_offer 108 = .ok (.goto (-56), 3) := by decide +kernel
theorem dX1_offer_111 : decode cX1_offer 111 = .ok (.iconst 0, 1) := by decide +kernel
theorem dX1_offer_112 : decode cX1_offer 112 = .ok (.istore 6, 2) := by decide +kernel
theorem dX1_offer_114 : decode cX1_offer 114 = .ok (.iload 6, 2) := by decide +kernel
theorem dX1_offer_116 : decode cX1_offer 116 = .ok (.bipush 64, 2) := by decide +kernel
theorem dX1_offer_118 : decode cX1_offer 118 = .ok (.if_icmp .ge 23, 3) := by decide +kernel
theorem dX1_offer_121 : decode cX1_offer 121 = .ok (.aload_n 0, 1) := by decide +kernel
theorem dX1_offer_122 : decode cX1_offer 122 = .ok (.getfield 18, 3) := by decide +kernel
theorem dX1_offer_125 : decode cX1_offer 125 = .ok (.iload 6, 2) := by decide +kernel
theorem dX1_offer_127 : decode cX1_offer 127 = .ok (.aload_n 0, 1) := by decide +kernel
theorem dX1_offer_128 : decode cX1_offer 128 = .ok (.getfield 21, 3) := by decide +kernel
theorem dX1_offer_131 : decode cX1_offer 131 = .ok (.iload 6, 2) := by decide +kernel
theorem dX1_offer_133 : decode cX1_offer 133 = .ok (.iaload, 1) := by decide +kernel
theorem dX1_offer_134 : decode cX1_offer 134 = .ok (.iastore, 1) := by decide +kernel
theorem dX1_offer_135 : decode cX1_offer 135 = .ok (.iinc 6 1, 3) := by decide +kernel
theorem dX1_offer_138 : decode cX1_offer 138 = .ok (.goto (-24), 3) := by decide +kernel
theorem dX1_offer_141 : decode cX1_offer 141 = .ok (.return_, 1) := by decide +kernel
theorem dX1_giveTo_0 : decode cX1_giveTo 0 = .ok (.iload_n 1, 1) := by decide +kernel
theorem dX1_giveTo_1 : decode cX1_giveTo 1 = .ok (.istore_n 3, 1) := by decide +kernel
theorem dX1_giveTo_2 : decode cX1_giveTo 2 = .ok (.iload_n 3, 1) := by decide +kernel
theorem dX1_giveTo_3 : decode cX1_giveTo 3 = .ok (.bipush 64, 2) := by decide +kernel
theorem dX1_giveTo_5 : decode cX1_giveTo 5 = .ok (.if_icmp .ge 72, 3) := by decide +kernel
theorem dX1_giveTo_8 : decode cX1_giveTo 8 = .ok (.iload_n 3, 1) := by decide +kernel
theorem dX1_giveTo_9 : decode cX1_giveTo 9 = .ok (.iload_n 1, 1) := by decide +kernel
theorem dX1_giveTo_10 : decode cX1_giveTo 10 = .ok (.ixor, 1) := by decide +kernel
theorem dX1_giveTo_11 : decode cX1_giveTo 11 = .ok (.istore 4, 2) := by decide +kernel
theorem dX1_giveTo_13 : decode cX1_giveTo 13 = .ok (.iload_n 3, 1) := by decide +kernel
theorem dX1_giveTo_14 : decode cX1_giveTo 14 = .ok (.iload_n 1, 1) := by decide +kernel
theorem dX1_giveTo_15 : decode cX1_giveTo 15 = .ok (.iand, 1) := by decide +kernel
theorem dX1_giveTo_16 : decode cX1_giveTo 16 = .ok (.iload_n 1, 1) := by decide +kernel
theorem dX1_giveTo_17 : decode cX1_giveTo 17 = .ok (.if_icmp .ne 54, 3) := by decide +kernel
theorem dX1_giveTo_20 : decode cX1_giveTo 20 = .ok (.iload 4, 2) := by decide +kernel
theorem dX1_giveTo_22 : decode cX1_giveTo 22 = .ok (.ifCond .lt 49, 3) := by decide +kernel
theorem dX1_giveTo_25 : decode cX1_giveTo 25 = .ok (.iload 4, 2) := by decide +kernel
theorem dX1_giveTo_27 : decode cX1_giveTo 27 = .ok (.bipush 64, 2) := by decide +kernel
theorem dX1_giveTo_29 : decode cX1_giveTo 29 = .ok (.if_icmp .ge 42, 3) := by decide +kernel
theorem dX1_giveTo_32 : decode cX1_giveTo 32 = .ok (.aload_n 0, 1) := by decide +kernel
theorem dX1_giveTo_33 : decode cX1_giveTo 33 = .ok (.getfield 18, 3) := by decide +kernel
theorem dX1_giveTo_36 : decode cX1_giveTo 36 = .ok (.iload 4, 2) := by decide +kernel
theorem dX1_giveTo_38 : decode cX1_giveTo 38 = .ok (.iaload, 1) := by decide +kernel
theorem dX1_giveTo_39 : decode cX1_giveTo 39 = .ok (.ldc 33, 2) := by decide +kernel
theorem dX1_giveTo_41 : decode cX1_giveTo 41 = .ok (.if_icmp .ne 6, 3) := by decide +kernel
theorem dX1_giveTo_44 : decode cX1_giveTo 44 = .ok (.goto 27, 3) := by decide +kernel
theorem dX1_giveTo_47 : decode cX1_giveTo 47 = .ok (.aload_n 0, 1) := by decide +kernel
theorem dX1_giveTo_48 : decode cX1_giveTo 48 = .ok (.getfield 21, 3) := by decide +kernel
theorem dX1_giveTo_51 : decode cX1_giveTo 51 = .ok (.iload_n 3, 1) := by decide +kernel
theorem dX1_giveTo_52 : decode cX1_giveTo 52 = .ok (.aload_n 0, 1) := by decide +kernel
theorem dX1_giveTo_53 : decode cX1_giveTo 53 = .ok (.getfield 21, 3) := by decide +kernel
theorem dX1_giveTo_56 : decode cX1_giveTo 56 = .ok (.iload_n 3, 1) := by decide +kernel
theorem dX1_giveTo_57 : decode cX1_giveTo 57 = .ok (.iaload, 1) := by decide +kernel
theorem dX1_giveTo_58 : decode cX1_giveTo 58 = .ok (.aload_n 0, 1) := by decide +kernel
theorem dX1_giveTo_59 : decode cX1_giveTo 59 = .ok (.getfield 18, 3) := by decide +kernel
theorem dX1_giveTo_62 : decode cX1_giveTo 62 = .ok (.iload 4, 2) := by decide +kernel
theorem dX1_giveTo_64 : decode cX1_giveTo 64 = .ok (.iaload, 1) := by decide +kernel
theorem dX1_giveTo_65 : decode cX1_giveTo 65 = .ok (.iload_n 2, 1) := by decide +kernel
theorem dX1_giveTo_66 : decode cX1_giveTo 66 = .ok (.iadd, 1) := by decide +kernel
theorem dX1_giveTo_67 : decode cX1_giveTo 67 = .ok (.invokestatic 73, 3) := by decide +kernel
theorem dX1_giveTo_70 : decode cX1_giveTo 70 = .ok (.iastore, 1) := by decide +kernel
theorem dX1_giveTo_71 : decode cX1_giveTo 71 = .ok (.iinc 3 1, 3) := by decide +kernel
theorem dX1_giveTo_74 : decode cX1_giveTo 74 = .ok (.goto (-72), 3) := by decide +kernel
theorem dX1_giveTo_77 : decode cX1_giveTo 77 = .ok (.return_, 1) := by decide +kernel
theorem dX1_openTo_0 : decode cX1_openTo 0 = .ok (.iconst 0, 1) := by decide +kernel
theorem dX1_openTo_1 : decode cX1_openTo 1 = .ok (.istore_n 2, 1) := by decide +kernel
theorem dX1_openTo_2 : decode cX1_openTo 2 = .ok (.iconst 0, 1) := by decide +kernel
theorem dX1_openTo_3 : decode cX1_openTo 3 = .ok (.istore_n 3, 1) := by decide +kernel
theorem dX1_openTo_4 : decode cX1_openTo 4 = .ok (.iload_n 3, 1) := by decide +kernel
theorem dX1_openTo_5 : decode cX1_openTo 5 = .ok (.aload_n 1, 1) := by decide +kernel
theorem dX1_openTo_6 : decode cX1_openTo 6 = .ok (.arraylength, 1) := by decide +kernel
theorem dX1_openTo_7 : decode cX1_openTo 7 = .ok (.if_icmp .ge 42, 3) := by decide +kernel
theorem dX1_openTo_10 : decode cX1_openTo 10 = .ok (.aload_n 1, 1) := by decide +kernel
theorem dX1_openTo_11 : decode cX1_openTo 11 = .ok (.iload_n 3, 1) := by decide +kernel
theorem dX1_openTo_12 : decode cX1_openTo 12 = .ok (.aaload, 1) := by decide +kernel
theorem dX1_openTo_13 : decode cX1_openTo 13 = .ok (.astore 4, 2) := by decide +kernel
theorem dX1_openTo_15 : decode cX1_openTo 15 = .ok (.aload 4, 2) := by decide +kernel
theorem dX1_openTo_17 : decode cX1_openTo 17 = .ok (.ifnull 26, 3) := by decide +kernel
theorem dX1_openTo_20 : decode cX1_openTo 20 = .ok (.aload 4, 2) := by decide +kernel
theorem dX1_openTo_22 : decode cX1_openTo 22 = .ok (.getfield 79, 3) := by decide +kernel
theorem dX1_openTo_25 : decode cX1_openTo 25 = .ok (.ifCond .ne 18, 3) := by decide +kernel
theorem dX1_openTo_28 : decode cX1_openTo 28 = .ok (.aload 4, 2) := by decide +kernel
theorem dX1_openTo_30 : decode cX1_openTo 30 = .ok (.aload_n 0, 1) := by decide +kernel
theorem dX1_openTo_31 : decode cX1_openTo 31 = .ok (.invokevirtual 83, 3) := by decide +kernel
theorem dX1_openTo_34 : decode cX1_openTo 34 = .ok (.ifCond .eq 9, 3) := by decide +kernel
theorem dX1_openTo_37 : decode cX1_openTo 37 = .ok (.iload_n 2, 1) := by decide +kernel
theorem dX1_openTo_38 : decode cX1_openTo 38 = .ok (.iconst 1, 1) := by decide +kernel
theorem dX1_openTo_39 : decode cX1_openTo 39 = .ok (.iload_n 3, 1) := by decide +kernel
theorem dX1_openTo_40 : decode cX1_openTo 40 = .ok (.ishl, 1) := by decide +kernel
theorem dX1_openTo_41 : decode cX1_openTo 41 = .ok (.ior, 1) := by decide +kernel
theorem dX1_openTo_42 : decode cX1_openTo 42 = .ok (.istore_n 2, 1) := by decide +kernel
theorem dX1_openTo_43 : decode cX1_openTo 43 = .ok (.iinc 3 1, 3) := by decide +kernel
theorem dX1_openTo_46 : decode cX1_openTo 46 = .ok (.goto (-42), 3) := by decide +kernel
theorem dX1_openTo_49 : decode cX1_openTo 49 = .ok (.iload_n 2, 1) := by decide +kernel
theorem dX1_openTo_50 : decode cX1_openTo 50 = .ok (.ireturn, 1) := by decide +kernel
theorem dX2_init_0 : decode cX2_init 0 = .ok (.aload_n 0, 1) := by decide +kernel
theorem dX2_init_1 : decode cX2_init 1 = .ok (.invokespecial 3, 3) := by decide +kernel
theorem dX2_init_4 : decode cX2_init 4 = .ok (.aload_n 0, 1) := by decide +kernel
theorem dX2_init_5 : decode cX2_init 5 = .ok (.aload_n 1, 1) := by decide +kernel
theorem dX2_init_6 : decode cX2_init 6 = .ok (.putfield 9, 3) := by decide +kernel
theorem dX2_init_9 : decode cX2_init 9 = .ok (.return_, 1) := by decide +kernel
theorem dX2_reckon_0 : decode cX2_reckon 0 = .ok (.aload_n 1, 1) := by decide +kernel
theorem dX2_reckon_1 : decode cX2_reckon 1 = .ok (.getfield 15, 3) := by decide +kernel
theorem dX2_reckon_4 : decode cX2_reckon 4 = .ok (.astore 5, 2) := by decide +kernel
theorem dX2_reckon_6 : decode cX2_reckon 6 = .ok (.iload_n 2, 1) := by decide +kernel
theorem dX2_reckon_7 : decode cX2_reckon 7 = .ok (.i2l, 1) := by decide +kernel
theorem dX2_reckon_8 : decode cX2_reckon 8 = .ok (.iload_n 2, 1) := by decide +kernel
theorem dX2_reckon_9 : decode cX2_reckon 9 = .ok (.i2l, 1) := by decide +kernel
theorem dX2_reckon_10 : decode cX2_reckon 10 = .ok (.lmul, 1) := by decide +kernel
theorem dX2_reckon_11 : decode cX2_reckon 11 = .ok (.lstore 6, 2) := by decide +kernel
theorem dX2_reckon_13 : decode cX2_reckon 13 = .ok (.iload 4, 2) := by decide +kernel
theorem dX2_reckon_15 : decode cX2_reckon 15 = .ok (.i2l, 1) := by decide +kernel
theorem dX2_reckon_16 : decode cX2_reckon 16 = .ok (.iload 4, 2) := by decide +kernel
theorem dX2_reckon_18 : decode cX2_reckon 18 = .ok (.i2l, 1) := by decide +kernel
theorem dX2_reckon_19 : decode cX2_reckon 19 = .ok (.lmul, 1) := by decide +kernel
theorem dX2_reckon_20 : decode cX2_reckon 20 = .ok (.lstore 8, 2) := by decide +kernel
theorem dX2_reckon_22 : decode cX2_reckon 22 = .ok (.aload_n 0, 1) := by decide +kernel
theorem dX2_reckon_23 : decode cX2_reckon 23 = .ok (.sipush 1000, 3) := by decide +kernel
theorem dX2_reckon_26 : decode cX2_reckon 26 = .ok (.ldc2_w 21, 3) := by decide +kernel
theorem dX2_reckon_29 : decode cX2_reckon 29 = .ok (.lload 8, 2) := by decide +kernel
theorem dX2_reckon_31 : decode cX2_reckon 31 = .ok (.lmul, 1) := by decide +kernel
theorem dX2_reckon_32 : decode cX2_reckon 32 = .ok (.lload 6, 2) := by decide +kernel
theorem dX2_reckon_34 : decode cX2_reckon 34 = .ok (.invokestatic 23, 3) := by decide +kernel
theorem dX2_reckon_37 : decode cX2_reckon 37 = .ok (.l2i, 1) := by decide +kernel
theorem dX2_reckon_38 : decode cX2_reckon 38 = .ok (.isub, 1) := by decide +kernel
theorem dX2_reckon_39 : decode cX2_reckon 39 = .ok (.putfield 27, 3) := by decide +kernel
theorem dX2_reckon_42 : decode cX2_reckon 42 = .ok (.aload_n 0, 1) := by decide +kernel
theorem dX2_reckon_43 : decode cX2_reckon 43 = .ok (.iload_n 3, 1) := by decide +kernel
theorem dX2_reckon_44 : decode cX2_reckon 44 = .ok (.aload 5, 2) := by decide +kernel
theorem dX2_reckon_46 : decode cX2_reckon 46 = .ok (.getfield 31, 3) := by decide +kernel
theorem dX2_reckon_49 : decode cX2_reckon 49 = .ok (.aload_n 0, 1) := by decide +kernel
theorem dX2_reckon_50 : decode cX2_reckon 50 = .ok (.getfield 27, 3) := by decide +kernel
theorem dX2_reckon_53 : decode cX2_reckon 53 = .ok (.imul, 1) := by decide +kernel
theorem dX2_reckon_54 : decode cX2_reckon 54 = .ok (.sipush 1000, 3) := by decide +kernel
theorem dX2_reckon_57 : decode cX2_reckon 57 = .ok (.idiv, 1) := by decide +kernel
theorem dX2_reckon_58 : decode cX2_reckon 58 = .ok (.iadd, 1) := by decide +kernel
theorem dX2_reckon_59 : decode cX2_reckon 59 = .ok (.putfield 36, 3) := by decide +kernel
theorem dX2_reckon_62 : decode cX2_reckon 62 = .ok (.lload 6, 2) := by decide +kernel
theorem dX2_reckon_64 : decode cX2_reckon 64 = .ok (.lload 8, 2) := by decide +kernel
theorem dX2_reckon_66 : decode cX2_reckon 66 = .ok (.lsub, 1) := by decide +kernel
theorem dX2_reckon_67 : decode cX2_reckon 67 = .ok (.aload 5, 2) := by decide +kernel
theorem dX2_reckon_69 : decode cX2_reckon 69 = .ok (.iload_n 3, 1) := by decide +kernel
theorem dX2_reckon_70 : decode cX2_reckon 70 = .ok (.invokevirtual 39, 3) := by decide +kernel
theorem dX2_reckon_73 : decode cX2_reckon 73 = .ok (.lmul, 1) := by decide +kernel
theorem dX2_reckon_74 : decode cX2_reckon 74 = .ok (.ldc2_w 43, 3) := by decide +kernel
theorem dX2_reckon_77 : decode cX2_reckon 77 = .ok (.ldiv, 1) := by decide +kernel
theorem dX2_reckon_78 : decode cX2_reckon 78 = .ok (.lstore 10, 2) := by decide +kernel
theorem dX2_reckon_80 : decode cX2_reckon 80 = .ok (.aload_n 0, 1) := by decide +kernel
theorem dX2_reckon_81 : decode cX2_reckon 81 = .ok (.lload 10, 2) := by decide +kernel
theorem dX2_reckon_83 : decode cX2_reckon 83 = .ok (.lload 10, 2) := by decide +kernel
theorem dX2_reckon_85 : decode cX2_reckon 85 = .ok (.aload_n 0, 1) := by decide +kernel
theorem dX2_reckon_86 : decode cX2_reckon 86 = .ok (.getfield 9, 3) := by decide +kernel
theorem dX2_reckon_89 : decode cX2_reckon 89 = .ok (.getfield 45, 3) := by decide +kernel
theorem dX2_reckon_92 : decode cX2_reckon 92 = .ok (.i2l, 1) := by decide +kernel
theorem dX2_reckon_93 : decode cX2_reckon 93 = .ok (.lmul, 1) := by decide +kernel
theorem dX2_reckon_94 : decode cX2_reckon 94 = .ok (.ldc2_w 43, 3) := by decide +kernel
theorem dX2_reckon_97 : decode cX2_reckon 97 = .ok (.ldiv, 1) := by decide +kernel
theorem dX2_reckon_98 : decode cX2_reckon 98 = .ok (.ladd, 1) := by decide +kernel
theorem dX2_reckon_99 : decode cX2_reckon 99 = .ok (.l2i, 1) := by decide +kernel
theorem dX2_reckon_100 : decode cX2_reckon 100 = .ok (.putfield 50, 3) := by decide +kernel
theorem dX2_reckon_103 : decode cX2_reckon 103 = .ok (.lload 8, 2) := by decide +kernel
theorem dX2_reckon_105 : decode cX2_reckon 105 = .ok (.aload 5, 2) := by decide +kernel
theorem dX2_reckon_107 : decode cX2_reckon 107 = .ok (.aload_n 0, 1) := by decide +kernel
theorem dX2_reckon_108 : decode cX2_reckon 108 = .ok (.getfield 36, 3) := by decide +kernel
theorem dX2_reckon_111 : decode cX2_reckon 111 = .ok (.invokevirtual 39, 3) := by decide +kernel
theorem dX2_reckon_114 : decode cX2_reckon 114 = .ok (.lmul, 1) := by decide +kernel
theorem dX2_reckon_115 : decode cX2_reckon 115 = .ok (.ldc2_w 43, 3) := by decide +kernel
theorem dX2_reckon_118 : decode cX2_reckon 118 = .ok (.ldiv, 1) := by decide +kernel
theorem dX2_reckon_119 : decode cX2_reckon 119 = .ok (.lstore 12, 2) := by decide +kernel
theorem dX2_reckon_121 : decode cX2_reckon 121 = .ok (.aload_n 1, 1) := by decide +kernel
theorem dX2_reckon_122 : decode cX2_reckon 122 = .ok (.getfield 53, 3) := by decide +kernel
theorem dX2_reckon_125 : decode cX2_reckon 125 = .ok (.ifCond .le 15, 3) := by decide +kernel
theorem dX2_reckon_128 : decode cX2_reckon 128 = .ok (.lload 12, 2) := by decide +kernel
theorem dX2_reckon_130 : decode cX2_reckon 130 = .ok (.ldc2_w 56, 3) := by decide +kernel
theorem dX2_reckon_133 : decode cX2_reckon 133 = .ok (.lmul, 1) := by decide +kernel
theorem dX2_reckon_134 : decode cX2_reckon 134 = .ok (.ldc2_w 58, 3) := by decide +kernel
theorem dX2_reckon_137 : decode cX2_reckon 137 = .ok (.ldiv, 1) := by decide +kernel
theorem dX2_reckon_138 : decode cX2_reckon 138 = .ok (.lstore 12, 2) := by decide +kernel
theorem dX2_reckon_140 : decode cX2_reckon 140 = .ok (.aload_n 0, 1) := by decide +kernel
theorem dX2_reckon_141 : decode cX2_reckon 141 = .ok (.lload 12, 2) := by decide +kernel
theorem dX2_reckon_143 : decode cX2_reckon 143 = .ok (.aload_n 0, 1) := by decide +kernel
theorem dX2_reckon_144 : decode cX2_reckon 144 = .ok (.getfield 9, 3) := by decide +kernel
theorem dX2_reckon_147 : decode cX2_reckon 147 = .ok (.getfield 60, 3) := by decide +kernel
theorem dX2_reckon_150 : decode cX2_reckon 150 = .ok (.i2l, 1) := by decide +kernel
theorem dX2_reckon_151 : decode cX2_reckon 151 = .ok (.lmul, 1) := by decide +kernel
theorem dX2_reckon_152 : decode cX2_reckon 152 = .ok (.ldc2_w 43, 3) := by decide +kernel
theorem dX2_reckon_155 : decode cX2_reckon 155 = .ok (.ldiv, 1) := by decide +kernel
theorem dX2_reckon_156 : decode cX2_reckon 156 = .ok (.l2i, 1) := by decide +kernel
theorem dX2_reckon_157 : decode cX2_reckon 157 = .ok (.putfield 63, 3) := by decide +kernel
theorem dX2_reckon_160 : decode cX2_reckon 160 = .ok (.return_, 1) := by decide +kernel
theorem dX2_refusal_0 : decode cX2_refusal 0 = .ok (.aload 4, 2) := by decide +kernel
theorem dX2_refusal_2 : decode cX2_refusal 2 = .ok (.invokevirtual 66, 3) := by decide +kernel
theorem dX2_refusal_5 : decode cX2_refusal 5 = .ok (.istore 6, 2) := by decide +kernel
theorem dX2_refusal_7 : decode cX2_refusal 7 = .ok (.aload 4, 2) := by decide +kernel
theorem dX2_refusal_9 : decode cX2_refusal 9 = .ok (.invokevirtual 72, 3) := by decide +kernel
theorem dX2_refusal_12 : decode cX2_refusal 12 = .ok (.ifCond .ne 9, 3) := by decide +kernel
theorem dX2_refusal_15 : decode cX2_refusal 15 = .ok (.iload 6, 2) := by decide +kernel
theorem dX2_refusal_17 : decode cX2_refusal 17 = .ok (.iload_n 2, 1) := by decide +kernel
theorem dX2_refusal_18 : decode cX2_refusal 18 = .ok (.if_icmp .lt 6, 3) := by decide +kernel
theorem dX2_refusal_21 : decode cX2_refusal 21 = .ok (.bipush (-4), 2) := by decide +kernel
theorem dX2_refusal_23 : decode cX2_refusal 23 = .ok (.ireturn, 1) := by decide +kernel
theorem dX2_refusal_24 : decode cX2_refusal 24 = .ok (.aload_n 0, 1) := by decide +kernel
theorem dX2_refusal_25 : decode cX2_refusal 25 = .ok (.aload_n 1, 1) := by decide +kernel
theorem dX2_refusal_26 : decode cX2_refusal 26 = .ok (.iload_n 2, 1) := by decide +kernel
theorem dX2_refusal_27 : decode cX2_refusal 27 = .ok (.iload_n 3, 1) := by decide +kernel
theorem dX2_refusal_28 : decode cX2_refusal 28 = .ok (.iload 6, 2) := by decide +kernel
theorem dX2_refusal_30 : decode cX2_refusal 30 = .ok (.invokevirtual 76, 3) := by decide +kernel
theorem dX2_refusal_33 : decode cX2_refusal 33 = .ok (.aload_n 0, 1) := by decide +kernel
theorem dX2_refusal_34 : decode cX2_refusal 34 = .ok (.getfield 36, 3) := by decide +kernel
theorem dX2_refusal_37 : decode cX2_refusal 37 = .ok (.aload_n 1, 1) := by decide +kernel
theorem dX2_refusal_38 : decode cX2_refusal 38 = .ok (.getfield 15, 3) := by decide +kernel
theorem dX2_refusal_41 : decode cX2_refusal 41 = .ok (.getfield 80, 3) := by decide +kernel
theorem dX2_refusal_44 : decode cX2_refusal 44 = .ok (.if_icmp .le 6, 3) := by decide +kernel
theorem dX2_refusal_47 : decode cX2_refusal 47 = .ok (.bipush (-5), 2) := by decide +kernel
theorem dX2_refusal_49 : decode cX2_refusal 49 = .ok (.ireturn, 1) := by decide +kernel
theorem dX2_refusal_50 : decode cX2_refusal 50 = .ok (.aload_n 0, 1) := by decide +kernel
theorem dX2_refusal_51 : decode cX2_refusal 51 = .ok (.getfield 50, 3) := by decide +kernel
theorem dX2_refusal_54 : decode cX2_refusal 54 = .ok (.aload_n 0, 1) := by decide +kernel
theorem dX2_refusal_55 : decode cX2_refusal 55 = .ok (.getfield 63, 3) := by decide +kernel
theorem dX2_refusal_58 : decode cX2_refusal 58 = .ok (.if_icmp .le 6, 3) := by decide +kernel
theorem dX2_refusal_61 : decode cX2_refusal 61 = .ok (.bipush (-6), 2) := by decide +kernel
theorem dX2_refusal_63 : decode cX2_refusal 63 = .ok (.ireturn, 1) := by decide +kernel
theorem dX2_refusal_64 : decode cX2_refusal 64 = .ok (.aload_n 0, 1) := by decide +kernel
theorem dX2_refusal_65 : decode cX2_refusal 65 = .ok (.getfield 50, 3) := by decide +kernel
theorem dX2_refusal_68 : decode cX2_refusal 68 = .ok (.iload 5, 2) := by decide +kernel
theorem dX2_refusal_70 : decode cX2_refusal 70 = .ok (.if_icmp .le 8, 3) := by decide +kernel
theorem dX2_refusal_73 : decode cX2_refusal 73 = .ok (.bipush (-7), 2) := by decide +kernel
theorem dX2_refusal_75 : decode cX2_refusal 75 = .ok (.goto 4, 3) := by decide +kernel
theorem dX2_refusal_78 : decode cX2_refusal 78 = .ok (.iconst 0, 1) := by decide +kernel
theorem dX2_refusal_79 : decode cX2_refusal 79 = .ok (.ireturn, 1) := by decide +kernel
theorem dX3_init_0 : decode cX3_init 0 = .ok (.aload_n 0, 1) := by decide +kernel
theorem dX3_init_1 : decode cX3_init 1 = .ok (.invokespecial 1, 3) := by decide +kernel
theorem dX3_init_4 : decode cX3_init 4 = .ok (.aload_n 0, 1) := by decide +kernel
theorem dX3_init_5 : decode cX3_init 5 = .ok (.iload_n 1, 1) := by decide +kernel
theorem dX3_init_6 : decode cX3_init 6 = .ok (.putfield 7, 3) := by decide +kernel
theorem dX3_init_9 : decode cX3_init 9 = .ok (.return_, 1) := by decide +kernel
theorem dX3_wide_0 : decode cX3_wide 0 = .ok (.aload_n 0, 1) := by decide +kernel
theorem dX3_wide_1 : decode cX3_wide 1 = .ok (.getfield 7, 3) := by decide +kernel
theorem dX3_wide_4 : decode cX3_wide 4 = .ok (.aload_n 0, 1) := by decide +kernel
theorem dX3_wide_5 : decode cX3_wide 5 = .ok (.getfield 13, 3) := by decide +kernel
theorem dX3_wide_8 : decode cX3_wide 8 = .ok (.sipush 1000, 3) := by decide +kernel
theorem dX3_wide_11 : decode cX3_wide 11 = .ok (.idiv, 1) := by decide +kernel
theorem dX3_wide_12 : decode cX3_wide 12 = .ok (.iadd, 1) := by decide +kernel
theorem dX3_wide_13 : decode cX3_wide 13 = .ok (.ireturn, 1) := by decide +kernel
theorem dX3_isSpent_0 : decode cX3_isSpent 0 = .ok (.aload_n 0, 1) := by decide +kernel
theorem dX3_isSpent_1 : decode cX3_isSpent 1 = .ok (.invokevirtual 16, 3) := by decide +kernel
theorem dX3_isSpent_4 : decode cX3_isSpent 4 = .ok (.aload_n 0, 1) := by decide +kernel
theorem dX3_isSpent_5 : decode cX3_isSpent 5 = .ok (.getfield 7, 3) := by decide +kernel
theorem dX3_isSpent_8 : decode cX3_isSpent 8 = .ok (.bipush 50, 2) := by decide +kernel
theorem dX3_isSpent_10 : decode cX3_isSpent 10 = .ok (.iadd, 1) := by decide +kernel
theorem dX3_isSpent_11 : decode cX3_isSpent 11 = .ok (.if_icmp .le 7, 3) := by decide +kernel
theorem dX3_isSpent_14 : decode cX3_isSpent 14 = .ok (.iconst 1, 1) := by decide +kernel
theorem dX3_isSpent_15 : decode cX3_isSpent 15 = .ok (.goto 4, 3) := by decide +kernel
theorem dX3_isSpent_18 : decode cX3_isSpent 18 = .ok (.iconst 0, 1) := by decide +kernel
theorem dX3_isSpent_19 : decode cX3_isSpent 19 = .ok (.ireturn, 1) := by decide +kernel
theorem dX4_init_0 : decode cX4_init 0 = .ok (.aload_n 0, 1) := by decide +kernel
theorem dX4_init_1 : decode cX4_init 1 = .ok (.invokespecial 1, 3) := by decide +kernel
theorem dX4_init_4 : decode cX4_init 4 = .ok (.aload_n 0, 1) := by decide +kernel
theorem dX4_init_5 : decode cX4_init 5 = .ok (.bipush 100, 2) := by decide +kernel
theorem dX4_init_7 : decode cX4_init 7 = .ok (.putfield 7, 3) := by decide +kernel
theorem dX4_init_10 : decode cX4_init 10 = .ok (.aload_n 0, 1) := by decide +kernel
theorem dX4_init_11 : decode cX4_init 11 = .ok (.bipush 100, 2) := by decide +kernel
theorem dX4_init_13 : decode cX4_init 13 = .ok (.putfield 13, 3) := by decide +kernel
theorem dX4_init_16 : decode cX4_init 16 = .ok (.aload_n 0, 1) := by decide +kernel
theorem dX4_init_17 : decode cX4_init 17 = .ok (.bipush 60, 2) := by decide +kernel
theorem dX4_init_19 : decode cX4_init 19 = .ok (.putfield 16, 3) := by decide +kernel
theorem dX4_init_22 : decode cX4_init 22 = .ok (.aload_n 0, 1) := by decide +kernel
theorem dX4_init_23 : decode cX4_init 23 = .ok (.bipush 10, 2) := by decide +kernel
theorem dX4_init_25 : decode cX4_init 25 = .ok (.putfield 19, 3) := by decide +kernel
theorem dX4_init_28 : decode cX4_init 28 = .ok (.aload_n 0, 1) := by decide +kernel
theorem dX4_init_29 : decode cX4_init 29 = .ok (.iconst 5, 1) := by decide +kernel
theorem dX4_init_30 : decode cX4_init 30 = .ok (.putfield 22, 3) := by decide +kernel
theorem dX4_init_33 : decode cX4_init 33 = .ok (.aload_n 0, 1) := by decide +kernel
theorem dX4_init_34 : decode cX4_init 34 = .ok (.iload_n 1, 1) := by decide +kernel
theorem dX4_init_35 : decode cX4_init 35 = .ok (.putfield 25, 3) := by decide +kernel
theorem dX4_init_38 : decode cX4_init 38 = .ok (.return_, 1) := by decide +kernel
theorem dX4_strength_0 : decode cX4_strength 0 = .ok (.aload_n 0, 1) := by decide +kernel
theorem dX4_strength_1 : decode cX4_strength 1 = .ok (.getfield 7, 3) := by decide +kernel
theorem dX4_strength_4 : decode cX4_strength 4 = .ok (.i2l, 1) := by decide +kernel
theorem dX4_strength_5 : decode cX4_strength 5 = .ok (.bipush 100, 2) := by decide +kernel
theorem dX4_strength_7 : decode cX4_strength 7 = .ok (.iload_n 1, 1) := by decide +kernel
theorem dX4_strength_8 : decode cX4_strength 8 = .ok (.iadd, 1) := by decide +kernel
theorem dX4_strength_9 : decode cX4_strength 9 = .ok (.i2l, 1) := by decide +kernel
theorem dX4_strength_10 : decode cX4_strength 10 = .ok (.lmul, 1) := by decide +kernel
theorem dX4_strength_11 : decode cX4_strength 11 = .ok (.lreturn, 1) := by decide +kernel
theorem dX5_init_0 : decode cX5_init 0 = .ok (.aload_n 0, 1) := by decide +kernel
theorem dX5_init_1 : decode cX5_init 1 = .ok (.invokespecial 3, 3) := by decide +kernel
theorem dX5_init_4 : decode cX5_init 4 = .ok (.aload_n 0, 1) := by decide +kernel
theorem dX5_init_5 : decode cX5_init 5 = .ok (.bipush 8, 2) := by decide +kernel
theorem dX5_init_7 : decode cX5_init 7 = .ok (.newarray .int, 2) := by decide +kernel
theorem dX5_init_9 : decode cX5_init 9 = .ok (.putfield 11, 3) := by decide +kernel
theorem dX5_init_12 : decode cX5_init 12 = .ok (.aload_n 0, 1) := by decide +kernel
theorem dX5_init_13 : decode cX5_init 13 = .ok (.bipush 8, 2) := by decide +kernel
theorem dX5_init_15 : decode cX5_init 15 = .ok (.newarray .int, 2) := by decide +kernel
theorem dX5_init_17 : decode cX5_init 17 = .ok (.putfield 15, 3) := by decide +kernel
theorem dX5_init_20 : decode cX5_init 20 = .ok (.return_, 1) := by decide +kernel
theorem dX5_add_0 : decode cX5_add 0 = .ok (.aload_n 0, 1) := by decide +kernel
theorem dX5_add_1 : decode cX5_add 1 = .ok (.getfield 18, 3) := by decide +kernel
theorem dX5_add_4 : decode cX5_add 4 = .ok (.bipush 60, 2) := by decide +kernel
theorem dX5_add_6 : decode cX5_add 6 = .ok (.if_icmp .lt 6, 3) := by decide +kernel
theorem dX5_add_9 : decode cX5_add 9 = .ok (.bipush (-8), 2) := by decide +kernel
theorem dX5_add_11 : decode cX5_add 11 = .ok (.ireturn, 1) := by decide +kernel
theorem dX5_add_12 : decode cX5_add 12 = .ok (.iload_n 1, 1) := by decide +kernel
theorem dX5_add_13 : decode cX5_add 13 = .ok (.ifCond .lt 9, 3) := by decide +kernel
theorem dX5_add_16 : decode cX5_add 16 = .ok (.iload_n 1, 1) := by decide +kernel
theorem dX5_add_17 : decode cX5_add 17 = .ok (.bipush 8, 2) := by decide +kernel
theorem dX5_add_19 : decode cX5_add 19 = .ok (.if_icmp .lt 6, 3) := by decide +kernel
theorem dX5_add_22 : decode cX5_add 22 = .ok (.bipush (-3), 2) := by decide +kernel
theorem dX5_add_24 : decode cX5_add 24 = .ok (.ireturn, 1) := by decide +kernel
theorem dX5_add_25 : decode cX5_add 25 = .ok (.iload_n 2, 1) := by decide +kernel
theorem dX5_add_26 : decode cX5_add 26 = .ok (.ifCond .eq 16, 3) := by decide +kernel
theorem dX5_add_29 : decode cX5_add 29 = .ok (.aload_n 0, 1) := by decide +kernel
theorem dX5_add_30 : decode cX5_add 30 = .ok (.getfield 11, 3) := by decide +kernel
theorem dX5_add_33 : decode cX5_add 33 = .ok (.iload_n 1, 1) := by decide +kernel
theorem dX5_add_34 : decode cX5_add 34 = .ok (.dup2, 1) := by decide +kernel
theorem dX5_add_35 : decode cX5_add 35 = .ok (.iaload, 1) := by decide +kernel
theorem dX5_add_36 : decode cX5_add 36 = .ok (.iconst 1, 1) := by decide +kernel
theorem dX5_add_37 : decode cX5_add 37 = .ok (.iadd, 1) := by decide +kernel
theorem dX5_add_38 : decode cX5_add 38 = .ok (.iastore, 1) := by decide +kernel
theorem dX5_add_39 : decode cX5_add 39 = .ok (.goto 13, 3) := by decide +kernel
theorem dX5_add_42 : decode cX5_add 42 = .ok (.aload_n 0, 1) := by decide +kernel
theorem dX5_add_43 : decode cX5_add 43 = .ok (.getfield 15, 3) := by decide +kernel
theorem dX5_add_46 : decode cX5_add 46 = .ok (.iload_n 1, 1) := by decide +kernel
theorem dX5_add_47 : decode cX5_add 47 = .ok (.dup2, 1) := by decide +kernel
theorem dX5_add_48 : decode cX5_add 48 = .ok (.iaload, 1) := by decide +kernel
theorem dX5_add_49 : decode cX5_add 49 = .ok (.iconst 1, 1) := by decide +kernel
theorem dX5_add_50 : decode cX5_add 50 = .ok (.iadd, 1) := by decide +kernel
theorem dX5_add_51 : decode cX5_add 51 = .ok (.iastore, 1) := by decide +kernel
theorem dX5_add_52 : decode cX5_add 52 = .ok (.aload_n 0, 1) := by decide +kernel
theorem dX5_add_53 : decode cX5_add 53 = .ok (.dup, 1) := by decide +kernel
theorem dX5_add_54 : decode cX5_add 54 = .ok (.getfield 18, 3) := by decide +kernel
theorem dX5_add_57 : decode cX5_add 57 = .ok (.iconst 1, 1) := by decide +kernel
theorem dX5_add_58 : decode cX5_add 58 = .ok (.iadd, 1) := by decide +kernel
theorem dX5_add_59 : decode cX5_add 59 = .ok (.dup_x1, 1) := by decide +kernel
theorem dX5_add_60 : decode cX5_add 60 = .ok (.putfield 18, 3) := by decide +kernel
theorem dX5_add_63 : decode cX5_add 63 = .ok (.ireturn, 1) := by decide +kernel
theorem dX5_share_0 : decode cX5_share 0 = .ok (.iconst 0, 1) := by decide +kernel
theorem dX5_share_1 : decode cX5_share 1 = .ok (.istore_n 3, 1) := by decide +kernel
theorem dX5_share_2 : decode cX5_share 2 = .ok (.iload_n 2, 1) := by decide +kernel
theorem dX5_share_3 : decode cX5_share 3 = .ok (.iconst 2, 1) := by decide +kernel
theorem dX5_share_4 : decode cX5_share 4 = .ok (.if_icmp .ge 7, 3) := by decide +kernel
theorem dX5_share_7 : decode cX5_share 7 = .ok (.iconst 1, 1) := by decide +kernel
theorem dX5_share_8 : decode cX5_share 8 = .ok (.goto 4, 3) := by decide +kernel
theorem dX5_share_11 : decode cX5_share 11 = .ok (.iconst 0, 1) := by decide +kernel
theorem dX5_share_12 : decode cX5_share 12 = .ok (.istore 4, 2) := by decide +kernel
theorem dX5_share_14 : decode cX5_share 14 = .ok (.iconst 0, 1) := by decide +kernel
theorem dX5_share_15 : decode cX5_share 15 = .ok (.istore 5, 2) := by decide +kernel
theorem dX5_share_17 : decode cX5_share 17 = .ok (.iload 5, 2) := by decide +kernel
theorem dX5_share_19 : decode cX5_share 19 = .ok (.bipush 8, 2) := by decide +kernel
theorem dX5_share_21 : decode cX5_share 21 = .ok (.if_icmp .ge 46, 3) := by decide +kernel
theorem dX5_share_24 : decode cX5_share 24 = .ok (.iload 5, 2) := by decide +kernel
theorem dX5_share_26 : decode cX5_share 26 = .ok (.iload_n 1, 1) := by decide +kernel
theorem dX5_share_27 : decode cX5_share 27 = .ok (.ishr, 1) := by decide +kernel
theorem dX5_share_28 : decode cX5_share 28 = .ok (.iconst 1, 1) := by decide +kernel
theorem dX5_share_29 : decode cX5_share 29 = .ok (.iand, 1) := by decide +kernel
theorem dX5_share_30 : decode cX5_share 30 = .ok (.iload 4, 2) := by decide +kernel
theorem dX5_share_32 : decode cX5_share 32 = .ok (.if_icmp .ne 29, 3) := by decide +kernel
theorem dX5_share_35 : decode cX5_share 35 = .ok (.iload_n 3, 1) := by decide +kernel
theorem dX5_share_36 : decode cX5_share 36 = .ok (.iload_n 2, 1) := by decide +kernel
theorem dX5_share_37 : decode cX5_share 37 = .ok (.iconst 2, 1) := by decide +kernel
theorem dX5_share_38 : decode cX5_share 38 = .ok (.irem, 1) := by decide +kernel
theorem dX5_share_39 : decode cX5_share 39 = .ok (.ifCond .ne 13, 3) := by decide +kernel
theorem dX5_share_42 : decode cX5_share 42 = .ok (.aload_n 0, 1) := by decide +kernel
theorem dX5_share_43 : decode cX5_share 43 = .ok (.getfield 11, 3) := by decide +kernel
theorem dX5_share_46 : decode cX5_share 46 = .ok (.iload 5, 2) := by decide +kernel
theorem dX5_share_48 : decode cX5_share 48 = .ok (.iaload, 1) := by decide +kernel
theorem dX5_share_49 : decode cX5_share 49 = .ok (.goto 10, 3) := by decide +kernel
theorem dX5_share_52 : decode cX5_share 52 = .ok (.aload_n 0, 1) := by decide +kernel
theorem dX5_share_53 : decode cX5_share 53 = .ok (.getfield 15, 3) := by decide +kernel
theorem dX5_share_56 : decode cX5_share 56 = .ok (.iload 5, 2) := by decide +kernel
theorem dX5_share_58 : decode cX5_share 58 = .ok (.iaload, 1) := by decide +kernel
theorem dX5_share_59 : decode cX5_share 59 = .ok (.iadd, 1) := by decide +kernel
theorem dX5_share_60 : decode cX5_share 60 = .ok (.istore_n 3, 1) := by decide +kernel
theorem dX5_share_61 : decode cX5_share 61 = .ok (.iinc 5 1, 3) := by decide +kernel
theorem dX5_share_64 : decode cX5_share 64 = .ok (.goto (-47), 3) := by decide +kernel
theorem dX5_share_67 : decode cX5_share 67 = .ok (.iload_n 3, 1) := by decide +kernel
theorem dX5_share_68 : decode cX5_share 68 = .ok (.ireturn, 1) := by decide +kernel
theorem dX5_above_0 : decode cX5_above 0 = .ok (.aload_n 0, 1) := by decide +kernel
theorem dX5_above_1 : decode cX5_above 1 = .ok (.iload_n 1, 1) := by decide +kernel
theorem dX5_above_2 : decode cX5_above 2 = .ok (.iconst 0, 1) := by decide +kernel
theorem dX5_above_3 : decode cX5_above 3 = .ok (.invokevirtual 22, 3) := by decide +kernel
theorem dX5_above_6 : decode cX5_above 6 = .ok (.aload_n 0, 1) := by decide +kernel
theorem dX5_above_7 : decode cX5_above 7 = .ok (.iload_n 1, 1) := by decide +kernel
theorem dX5_above_8 : decode cX5_above 8 = .ok (.iconst 3, 1) := by decide +kernel
theorem dX5_above_9 : decode cX5_above 9 = .ok (.invokevirtual 22, 3) := by decide +kernel
theorem dX5_above_12 : decode cX5_above 12 = .ok (.imul, 1) := by decide +kernel
theorem dX5_above_13 : decode cX5_above 13 = .ok (.aload_n 0, 1) := by decide +kernel
theorem dX5_above_14 : decode cX5_above 14 = .ok (.iload_n 1, 1) := by decide +kernel
theorem dX5_above_15 : decode cX5_above 15 = .ok (.iconst 1, 1) := by decide +kernel
theorem dX5_above_16 : decode cX5_above 16 = .ok (.invokevirtual 22, 3) := by decide +kernel
theorem dX5_above_19 : decode cX5_above 19 = .ok (.aload_n 0, 1) := by decide +kernel
theorem dX5_above_20 : decode cX5_above 20 = .ok (.iload_n 1, 1) := by decide +kernel
theorem dX5_above_21 : decode cX5_above 21 = .ok (.iconst 2, 1) := by decide +kernel
theorem dX5_above_22 : decode cX5_above 22 = .ok (.invokevirtual 22, 3) := by decide +kernel
theorem dX5_above_25 : decode cX5_above 25 = .ok (.imul, 1) := by decide +kernel
theorem dX5_above_26 : decode cX5_above 26 = .ok (.isub, 1) := by decide +kernel
theorem dX5_above_27 : decode cX5_above 27 = .ok (.ireturn, 1) := by decide +kernel
theorem dX5_below_0 : decode cX5_below 0 = .ok (.aload_n 0, 1) := by decide +kernel
theorem dX5_below_1 : decode cX5_below 1 = .ok (.iload_n 1, 1) := by decide +kernel
theorem dX5_below_2 : decode cX5_below 2 = .ok (.iconst 0, 1) := by decide +kernel
theorem dX5_below_3 : decode cX5_below 3 = .ok (.invokevirtual 22, 3) := by decide +kernel
theorem dX5_below_6 : decode cX5_below 6 = .ok (.aload_n 0, 1) := by decide +kernel
theorem dX5_below_7 : decode cX5_below 7 = .ok (.iload_n 1, 1) := by decide +kernel
theorem dX5_below_8 : decode cX5_below 8 = .ok (.iconst 1, 1) := by decide +kernel
theorem dX5_below_9 : decode cX5_below 9 = .ok (.invokevirtual 22, 3) := by decide +kernel
theorem dX5_below_12 : decode cX5_below 12 = .ok (.iadd, 1) := by decide +kernel
theorem dX5_below_13 : decode cX5_below 13 = .ok (.aload_n 0, 1) := by decide +kernel
theorem dX5_below_14 : decode cX5_below 14 = .ok (.iload_n 1, 1) := by decide +kernel
theorem dX5_below_15 : decode cX5_below 15 = .ok (.iconst 2, 1) := by decide +kernel
theorem dX5_below_16 : decode cX5_below 16 = .ok (.invokevirtual 22, 3) := by decide +kernel
theorem dX5_below_19 : decode cX5_below 19 = .ok (.aload_n 0, 1) := by decide +kernel
theorem dX5_below_20 : decode cX5_below 20 = .ok (.iload_n 1, 1) := by decide +kernel
theorem dX5_below_21 : decode cX5_below 21 = .ok (.iconst 3, 1) := by decide +kernel
theorem dX5_below_22 : decode cX5_below 22 = .ok (.invokevirtual 22, 3) := by decide +kernel
theorem dX5_below_25 : decode cX5_below 25 = .ok (.iadd, 1) := by decide +kernel
theorem dX5_below_26 : decode cX5_below 26 = .ok (.imul, 1) := by decide +kernel
theorem dX5_below_27 : decode cX5_below 27 = .ok (.ireturn, 1) := by decide +kernel
theorem dX5_isGreater_0 : decode cX5_isGreater 0 = .ok (.aload_n 0, 1) := by decide +kernel
theorem dX5_isGreater_1 : decode cX5_isGreater 1 = .ok (.iload_n 1, 1) := by decide +kernel
theorem dX5_isGreater_2 : decode cX5_isGreater 2 = .ok (.invokevirtual 26, 3) := by decide +kernel
theorem dX5_isGreater_5 : decode cX5_isGreater 5 = .ok (.i2l, 1) := by decide +kernel
theorem dX5_isGreater_6 : decode cX5_isGreater 6 = .ok (.aload_n 0, 1) := by decide +kernel
theorem dX5_isGreater_7 : decode cX5_isGreater 7 = .ok (.iload_n 2, 1) := by decide +kernel
theorem dX5_isGreater_8 : decode cX5_isGreater 8 = .ok (.invokevirtual 30, 3) := by decide +kernel
theorem dX5_isGreater_11 : decode cX5_isGreater 11 = .ok (.i2l, 1) := by decide +kernel
theorem dX5_isGreater_12 : decode cX5_isGreater 12 = .ok (.lmul, 1) := by decide +kernel
theorem dX5_isGreater_13 : decode cX5_isGreater 13 = .ok (.aload_n 0, 1) := by decide +kernel
theorem dX5_isGreater_14 : decode cX5_isGreater 14 = .ok (.iload_n 2, 1) := by decide +kernel
theorem dX5_isGreater_15 : decode cX5_isGreater 15 = .ok (.invokevirtual 26, 3) := by decide +kernel
theorem dX5_isGreater_18 : decode cX5_isGreater 18 = .ok (.i2l, 1) := by decide +kernel
theorem dX5_isGreater_19 : decode cX5_isGreater 19 = .ok (.aload_n 0, 1) := by decide +kernel
theorem dX5_isGreater_20 : decode cX5_isGreater 20 = .ok (.iload_n 1, 1) := by decide +kernel
theorem dX5_isGreater_21 : decode cX5_isGreater 21 = .ok (.invokevirtual 30, 3) := by decide +kernel
theorem dX5_isGreater_24 : decode cX5_isGreater 24 = .ok (.i2l, 1) := by decide +kernel
theorem dX5_isGreater_25 : decode cX5_isGreater 25 = .ok (.lmul, 1) := by decide +kernel
theorem dX5_isGreater_26 : decode cX5_isGreater 26 = .ok (.lcmp, 1) := by decide +kernel
theorem dX5_isGreater_27 : decode cX5_isGreater 27 = .ok (.ifCond .le 7, 3) := by decide +kernel
theorem dX5_isGreater_30 : decode cX5_isGreater 30 = .ok (.iconst 1, 1) := by decide +kernel
theorem dX5_isGreater_31 : decode cX5_isGreater 31 = .ok (.goto 4, 3) := by decide +kernel
theorem dX5_isGreater_34 : decode cX5_isGreater 34 = .ok (.iconst 0, 1) := by decide +kernel
theorem dX5_isGreater_35 : decode cX5_isGreater 35 = .ok (.ireturn, 1) := by decide +kernel
theorem dX5_isMoreThanChance_0 : decode cX5_isMoreThanChance 0 = .ok (.aload_n 0, 1) := by decide +kernel
theorem dX5_isMoreThanChance_1 : decode cX5_isMoreThanChance 1 = .ok (.iload_n 1, 1) := by decide +kernel
theorem dX5_isMoreThanChance_2 : decode cX5_isMoreThanChance 2 = .ok (.iconst 0, 1) := by decide +kernel
theorem dX5_isMoreThanChance_3 : decode cX5_isMoreThanChance 3 = .ok (.invokevirtual 22, 3) := by decide +kernel
theorem dX5_isMoreThanChance_6 : decode cX5_isMoreThanChance 6 = .ok (.aload_n 0, 1) := by decide +kernel
theorem dX5_isMoreThanChance_7 : decode cX5_isMoreThanChance 7 = .ok (.iload_n 1, 1) := by decide +kernel
theorem dX5_isMoreThanChance_8 : decode cX5_isMoreThanChance 8 = .ok (.iconst 2, 1) := by decide +kernel
theorem dX5_isMoreThanChance_9 : decode cX5_isMoreThanChance 9 = .ok (.invokevirtual 22, 3) := by decide +kernel
theorem dX5_isMoreThanChance_12 : decode cX5_isMoreThanChance 12 = .ok (.iadd, 1) := by decide +kernel
theorem dX5_isMoreThanChance_13 : decode cX5_isMoreThanChance 13 = .ok (.istore_n 2, 1) := by decide +kernel
theorem dX5_isMoreThanChance_14 : decode cX5_isMoreThanChance 14 = .ok (.aload_n 0, 1) := by decide +kernel
theorem dX5_isMoreThanChance_15 : decode cX5_isMoreThanChance 15 = .ok (.iload_n 1, 1) := by decide +kernel
theorem dX5_isMoreThanChance_16 : decode cX5_isMoreThanChance 16 = .ok (.iconst 0, 1) := by decide +kernel
theorem dX5_isMoreThanChance_17 : decode cX5_isMoreThanChance 17 = .ok (.invokevirtual 22, 3) := by decide +kernel
theorem dX5_isMoreThanChance_20 : decode cX5_isMoreThanChance 20 = .ok (.aload_n 0, 1) := by decide +kernel
theorem dX5_isMoreThanChance_21 : decode cX5_isMoreThanChance 21 = .ok (.iload_n 1, 1) := by decide +kernel
theorem dX5_isMoreThanChance_22 : decode cX5_isMoreThanChance 22 = .ok (.iconst 1, 1) := by decide +kernel
theorem dX5_isMoreThanChance_23 : decode cX5_isMoreThanChance 23 = .ok (.invokevirtual 22, 3) := by decide +kernel
theorem dX5_isMoreThanChance_26 : decode cX5_isMoreThanChance 26 = .ok (.iadd, 1) := by decide +kernel
theorem dX5_isMoreThanChance_27 : decode cX5_isMoreThanChance 27 = .ok (.istore_n 3, 1) := by decide +kernel
theorem dX5_isMoreThanChance_28 : decode cX5_isMoreThanChance 28 = .ok (.aload_n 0, 1) := by decide +kernel
theorem dX5_isMoreThanChance_29 : decode cX5_isMoreThanChance 29 = .ok (.getfield 18, 3) := by decide +kernel
theorem dX5_isMoreThanChance_32 : decode cX5_isMoreThanChance 32 = .ok (.iload_n 3, 1) := by decide +kernel
theorem dX5_isMoreThanChance_33 : decode cX5_isMoreThanChance 33 = .ok (.isub, 1) := by decide +kernel
theorem dX5_isMoreThanChance_34 : decode cX5_isMoreThanChance 34 = .ok (.istore 4, 2) := by decide +kernel
theorem dX5_isMoreThanChance_36 : decode cX5_isMoreThanChance 36 = .ok (.lconst 0, 1) := by decide +kernel
theorem dX5_isMoreThanChance_37 : decode cX5_isMoreThanChance 37 = .ok (.lstore 5, 2) := by decide +kernel
theorem dX5_isMoreThanChance_39 : decode cX5_isMoreThanChance 39 = .ok (.aload_n 0, 1) := by decide +kernel
theorem dX5_isMoreThanChance_40 : decode cX5_isMoreThanChance 40 = .ok (.iload_n 1, 1) := by decide +kernel
theorem dX5_isMoreThanChance_41 : decode cX5_isMoreThanChance 41 = .ok (.iconst 0, 1) := by decide +kernel
theorem dX5_isMoreThanChance_42 : decode cX5_isMoreThanChance 42 = .ok (.invokevirtual 22, 3) := by decide +kernel
theorem dX5_isMoreThanChance_45 : decode cX5_isMoreThanChance 45 = .ok (.istore 7, 2) := by decide +kernel
theorem dX5_isMoreThanChance_47 : decode cX5_isMoreThanChance 47 = .ok (.iload 7, 2) := by decide +kernel
theorem dX5_isMoreThanChance_49 : decode cX5_isMoreThanChance 49 = .ok (.iload_n 3, 1) := by decide +kernel
theorem dX5_isMoreThanChance_50 : decode cX5_isMoreThanChance 50 = .ok (.if_icmp .gt 30, 3) := by decide +kernel
theorem dX5_isMoreThanChance_53 : decode cX5_isMoreThanChance 53 = .ok (.lload 5, 2) := by decide +kernel
theorem dX5_isMoreThanChance_55 : decode cX5_isMoreThanChance 55 = .ok (.iload_n 3, 1) := by decide +kernel
theorem dX5_isMoreThanChance_56 : decode cX5_isMoreThanChance 56 = .ok (.iload 7, 2) := by decide +kernel
theorem dX5_isMoreThanChance_58 : decode cX5_isMoreThanChance 58 = .ok (.invokestatic 33, 3) := by decide +kernel
theorem dX5_isMoreThanChance_61 : decode cX5_isMoreThanChance 61 = .ok (.iload 4, 2) := by decide +kernel
theorem dX5_isMoreThanChance_63 : decode cX5_isMoreThanChance 63 = .ok (.iload_n 2, 1) := by decide +kernel
theorem dX5_isMoreThanChance_64 : decode cX5_isMoreThanChance 64 = .ok (.iload 7, 2) := by decide +kernel
theorem dX5_isMoreThanChance_66 : decode cX5_isMoreThanChance 66 = .ok (.isub, 1) := by decide +kernel
theorem dX5_isMoreThanChance_67 : decode cX5_isMoreThanChance 67 = .ok (.invokestatic 33, 3) := by decide +kernel
theorem dX5_isMoreThanChance_70 : decode cX5_isMoreThanChance 70 = .ok (.lmul, 1) := by decide +kernel
theorem dX5_isMoreThanChance_71 : decode cX5_isMoreThanChance 71 = .ok (.ladd, 1) := by decide +kernel
theorem dX5_isMoreThanChance_72 : decode cX5_isMoreThanChance 72 = .ok (.lstore 5, 2) := by decide +kernel
theorem dX5_isMoreThanChance_74 : decode cX5_isMoreThanChance 74 = .ok (.iinc 7 1, 3) := by decide +kernel
theorem dX5_isMoreThanChance_77 : decode cX5_isMoreThanChance 77 = .ok (.goto (-30), 3) := by decide +kernel
theorem dX5_isMoreThanChance_80 : decode cX5_isMoreThanChance 80 = .ok (.ldc2_w 37, 3) := by decide +kernel
theorem dX5_isMoreThanChance_83 : decode cX5_isMoreThanChance 83 = .ok (.lload 5, 2) := by decide +kernel
theorem dX5_isMoreThanChance_85 : decode cX5_isMoreThanChance 85 = .ok (.lmul, 1) := by decide +kernel
theorem dX5_isMoreThanChance_86 : decode cX5_isMoreThanChance 86 = .ok (.aload_n 0, 1) := by decide +kernel
theorem dX5_isMoreThanChance_87 : decode cX5_isMoreThanChance 87 = .ok (.getfield 18, 3) := by decide +kernel
theorem dX5_isMoreThanChance_90 : decode cX5_isMoreThanChance 90 = .ok (.iload_n 2, 1) := by decide +kernel
theorem dX5_isMoreThanChance_91 : decode cX5_isMoreThanChance 91 = .ok (.invokestatic 33, 3) := by decide +kernel
theorem dX5_isMoreThanChance_94 : decode cX5_isMoreThanChance 94 = .ok (.lcmp, 1) := by decide +kernel
theorem dX5_isMoreThanChance_95 : decode cX5_isMoreThanChance 95 = .ok (.ifCond .gt 7, 3) := by decide +kernel
theorem dX5_isMoreThanChance_98 : decode cX5_isMoreThanChance 98 = .ok (.iconst 1, 1) := by decide +kernel
theorem dX5_isMoreThanChance_99 : decode cX5_isMoreThanChance 99 = .ok (.goto 4, 3) := by decide +kernel
theorem dX5_isMoreThanChance_102 : decode cX5_isMoreThanChance 102 = .ok (.iconst 0, 1) := by decide +kernel
theorem dX5_isMoreThanChance_103 : decode cX5_isMoreThanChance 103 = .ok (.ireturn, 1) := by decide +kernel
theorem dX6_init_0 : decode cX6_init 0 = .ok (.aload_n 0, 1) := by decide +kernel
theorem dX6_init_1 : decode cX6_init 1 = .ok (.invokespecial 1, 3) := by decide +kernel
theorem dX6_init_4 : decode cX6_init 4 = .ok (.aload_n 0, 1) := by decide +kernel
theorem dX6_init_5 : decode cX6_init 5 = .ok (.aload_n 1, 1) := by decide +kernel
theorem dX6_init_6 : decode cX6_init 6 = .ok (.putfield 7, 3) := by decide +kernel
theorem dX6_init_9 : decode cX6_init 9 = .ok (.aload_n 0, 1) := by decide +kernel
theorem dX6_init_10 : decode cX6_init 10 = .ok (.iload_n 2, 1) := by decide +kernel
theorem dX6_init_11 : decode cX6_init 11 = .ok (.putfield 13, 3) := by decide +kernel
theorem dX6_init_14 : decode cX6_init 14 = .ok (.aload_n 0, 1) := by decide +kernel
theorem dX6_init_15 : decode cX6_init 15 = .ok (.iload_n 3, 1) := by decide +kernel
theorem dX6_init_16 : decode cX6_init 16 = .ok (.putfield 17, 3) := by decide +kernel
theorem dX6_init_19 : decode cX6_init 19 = .ok (.aload_n 0, 1) := by decide +kernel
theorem dX6_init_20 : decode cX6_init 20 = .ok (.iload 4, 2) := by decide +kernel
theorem dX6_init_22 : decode cX6_init 22 = .ok (.putfield 20, 3) := by decide +kernel
theorem dX6_init_25 : decode cX6_init 25 = .ok (.return_, 1) := by decide +kernel
theorem dX6_canBeCutFrom_0 : decode cX6_canBeCutFrom 0 = .ok (.aload_n 1, 1) := by decide +kernel
theorem dX6_canBeCutFrom_1 : decode cX6_canBeCutFrom 1 = .ok (.getfield 23, 3) := by decide +kernel
theorem dX6_canBeCutFrom_4 : decode cX6_canBeCutFrom 4 = .ok (.aload_n 0, 1) := by decide +kernel
theorem dX6_canBeCutFrom_5 : decode cX6_canBeCutFrom 5 = .ok (.getfield 7, 3) := by decide +kernel
theorem dX6_canBeCutFrom_8 : decode cX6_canBeCutFrom 8 = .ok (.if_acmp .ne 36, 3) := by decide +kernel
theorem dX6_canBeCutFrom_11 : decode cX6_canBeCutFrom 11 = .ok (.aload_n 1, 1) := by decide +kernel
theorem dX6_canBeCutFrom_12 : decode cX6_canBeCutFrom 12 = .ok (.getfield 26, 3) := by decide +kernel
theorem dX6_canBeCutFrom_15 : decode cX6_canBeCutFrom 15 = .ok (.aload_n 0, 1) := by decide +kernel
theorem dX6_canBeCutFrom_16 : decode cX6_canBeCutFrom 16 = .ok (.getfield 13, 3) := by decide +kernel
theorem dX6_canBeCutFrom_19 : decode cX6_canBeCutFrom 19 = .ok (.aload_n 0, 1) := by decide +kernel
theorem dX6_canBeCutFrom_20 : decode cX6_canBeCutFrom 20 = .ok (.getfield 17, 3) := by decide +kernel
theorem dX6_canBeCutFrom_23 : decode cX6_canBeCutFrom 23 = .ok (.invokestatic 29, 3) := by decide +kernel
theorem dX6_canBeCutFrom_26 : decode cX6_canBeCutFrom 26 = .ok (.ifCond .eq 18, 3) := by decide +kernel
theorem dX6_canBeCutFrom_29 : decode cX6_canBeCutFrom 29 = .ok (.aload_n 1, 1) := by decide +kernel
theorem dX6_canBeCutFrom_30 : decode cX6_canBeCutFrom 30 = .ok (.invokevirtual 35, 3) := by decide +kernel
theorem dX6_canBeCutFrom_33 : decode cX6_canBeCutFrom 33 = .ok (.aload_n 0, 1) := by decide +kernel
theorem dX6_canBeCutFrom_34 : decode cX6_canBeCutFrom 34 = .ok (.getfield 20, 3) := by decide +kernel
theorem dX6_canBeCutFrom_37 : decode cX6_canBeCutFrom 37 = .ok (.if_icmp .lt 7, 3) := by decide +kernel
theorem dX6_canBeCutFrom_40 : decode cX6_canBeCutFrom 40 = .ok (.iconst 1, 1) := by decide +kernel
theorem dX6_canBeCutFrom_41 : decode cX6_canBeCutFrom 41 = .ok (.goto 4, 3) := by decide +kernel
theorem dX6_canBeCutFrom_44 : decode cX6_canBeCutFrom 44 = .ok (.iconst 0, 1) := by decide +kernel
theorem dX6_canBeCutFrom_45 : decode cX6_canBeCutFrom 45 = .ok (.ireturn, 1) := by decide +kernel
theorem dX7_init_0 : decode cX7_init 0 = .ok (.aload_n 0, 1) := by decide +kernel
theorem dX7_init_1 : decode cX7_init 1 = .ok (.invokespecial 3, 3) := by decide +kernel
theorem dX7_init_4 : decode cX7_init 4 = .ok (.aload_n 0, 1) := by decide +kernel
theorem dX7_init_5 : decode cX7_init 5 = .ok (.bipush 8, 2) := by decide +kernel
theorem dX7_init_7 : decode cX7_init 7 = .ok (.anewarray 9, 3) := by decide +kernel
theorem dX7_init_10 : decode cX7_init 10 = .ok (.putfield 11, 3) := by decide +kernel
theorem dX7_init_13 : decode cX7_init 13 = .ok (.return_, 1) := by decide +kernel
theorem dX7_bore_0 : decode cX7_bore 0 = .ok (.aload_n 0, 1) := by decide +kernel
theorem dX7_bore_1 : decode cX7_bore 1 = .ok (.getfield 17, 3) := by decide +kernel
theorem dX7_bore_4 : decode cX7_bore 4 = .ok (.ifCond .lt 15, 3) := by decide +kernel
theorem dX7_bore_7 : decode cX7_bore 7 = .ok (.aload_n 0, 1) := by decide +kernel
theorem dX7_bore_8 : decode cX7_bore 8 = .ok (.getfield 17, 3) := by decide +kernel
theorem dX7_bore_11 : decode cX7_bore 11 = .ok (.aload_n 0, 1) := by decide +kernel
theorem dX7_bore_12 : decode cX7_bore 12 = .ok (.getfield 11, 3) := by decide +kernel
theorem dX7_bore_15 : decode cX7_bore 15 = .ok (.arraylength, 1) := by decide +kernel
theorem dX7_bore_16 : decode cX7_bore 16 = .ok (.if_icmp .lt 6, 3) := by decide +kernel
theorem dX7_bore_19 : decode cX7_bore 19 = .ok (.bipush (-8), 2) := by decide +kernel
theorem dX7_bore_21 : decode cX7_bore 21 = .ok (.ireturn, 1) := by decide +kernel
theorem dX7_bore_22 : decode cX7_bore 22 = .ok (.aload_n 0, 1) := by decide +kernel
theorem dX7_bore_23 : decode cX7_bore 23 = .ok (.getfield 11, 3) := by decide +kernel
theorem dX7_bore_26 : decode cX7_bore 26 = .ok (.aload_n 0, 1) := by decide +kernel
theorem dX7_bore_27 : decode cX7_bore 27 = .ok (.getfield 17, 3) := by decide +kernel
theorem dX7_bore_30 : decode cX7_bore 30 = .ok (.new 9, 3) := by decide +kernel
theorem dX7_bore_33 : decode cX7_bore 33 = .ok (.dup, 1) := by decide +kernel
theorem dX7_bore_34 : decode cX7_bore 34 = .ok (.iload_n 1, 1) := by decide +kernel
theorem dX7_bore_35 : decode cX7_bore 35 = .ok (.invokespecial 21, 3) := by decide +kernel
theorem dX7_bore_38 : decode cX7_bore 38 = .ok (.aastore, 1) := by decide +kernel
theorem dX7_bore_39 : decode cX7_bore 39 = .ok (.aload_n 0, 1) := by decide +kernel
theorem dX7_bore_40 : decode cX7_bore 40 = .ok (.dup, 1) := by decide +kernel
theorem dX7_bore_41 : decode cX7_bore 41 = .ok (.getfield 17, 3) := by decide +kernel
theorem dX7_bore_44 : decode cX7_bore 44 = .ok (.dup_x1, 1) := by decide +kernel
theorem dX7_bore_45 : decode cX7_bore 45 = .ok (.iconst 1, 1) := by decide +kernel
theorem dX7_bore_46 : decode cX7_bore 46 = .ok (.iadd, 1) := by decide +kernel
theorem dX7_bore_47 : decode cX7_bore 47 = .ok (.putfield 17, 3) := by decide +kernel
theorem dX7_bore_50 : decode cX7_bore 50 = .ok (.ireturn, 1) := by decide +kernel
theorem dX7_holeAt_0 : decode cX7_holeAt 0 = .ok (.iload_n 1, 1) := by decide +kernel
theorem dX7_holeAt_1 : decode cX7_holeAt 1 = .ok (.ifCond .lt 12, 3) := by decide +kernel
theorem dX7_holeAt_4 : decode cX7_holeAt 4 = .ok (.iload_n 1, 1) := by decide +kernel
theorem dX7_holeAt_5 : decode cX7_holeAt 5 = .ok (.aload_n 0, 1) := by decide +kernel
theorem dX7_holeAt_6 : decode cX7_holeAt 6 = .ok (.getfield 11, 3) := by decide +kernel
theorem dX7_holeAt_9 : decode cX7_holeAt 9 = .ok (.arraylength, 1) := by decide +kernel
theorem dX7_holeAt_10 : decode cX7_holeAt 10 = .ok (.if_icmp .lt 7, 3) := by decide +kernel
theorem dX7_holeAt_13 : decode cX7_holeAt 13 = .ok (.aconst_null, 1) := by decide +kernel
theorem dX7_holeAt_14 : decode cX7_holeAt 14 = .ok (.goto 9, 3) := by decide +kernel
theorem dX7_holeAt_17 : decode cX7_holeAt 17 = .ok (.aload_n 0, 1) := by decide +kernel
theorem dX7_holeAt_18 : decode cX7_holeAt 18 = .ok (.getfield 11, 3) := by decide +kernel
theorem dX7_holeAt_21 : decode cX7_holeAt 21 = .ok (.iload_n 1, 1) := by decide +kernel
theorem dX7_holeAt_22 : decode cX7_holeAt 22 = .ok (.aaload, 1) := by decide +kernel
theorem dX7_holeAt_23 : decode cX7_holeAt 23 = .ok (.areturn, 1) := by decide +kernel
theorem dX8_init_0 : decode cX8_init 0 = .ok (.aload_n 0, 1) := by decide +kernel
theorem dX8_init_1 : decode cX8_init 1 = .ok (.invokespecial 1, 3) := by decide +kernel
theorem dX8_init_4 : decode cX8_init 4 = .ok (.aload_n 0, 1) := by decide +kernel
theorem dX8_init_5 : decode cX8_init 5 = .ok (.bipush 10, 2) := by decide +kernel
theorem dX8_init_7 : decode cX8_init 7 = .ok (.putfield 7, 3) := by decide +kernel
theorem dX8_init_10 : decode cX8_init 10 = .ok (.aload_n 0, 1) := by decide +kernel
theorem dX8_init_11 : decode cX8_init 11 = .ok (.iload_n 1, 1) := by decide +kernel
theorem dX8_init_12 : decode cX8_init 12 = .ok (.putfield 13, 3) := by decide +kernel
theorem dX8_init_15 : decode cX8_init 15 = .ok (.return_, 1) := by decide +kernel
theorem dX8_minutesFor_0 : decode cX8_minutesFor 0 = .ok (.iload_n 1, 1) := by decide +kernel
theorem dX8_minutesFor_1 : decode cX8_minutesFor 1 = .ok (.i2l, 1) := by decide +kernel
theorem dX8_minutesFor_2 : decode cX8_minutesFor 2 = .ok (.aload_n 0, 1) := by decide +kernel
theorem dX8_minutesFor_3 : decode cX8_minutesFor 3 = .ok (.getfield 7, 3) := by decide +kernel
theorem dX8_minutesFor_6 : decode cX8_minutesFor 6 = .ok (.i2l, 1) := by decide +kernel
theorem dX8_minutesFor_7 : decode cX8_minutesFor 7 = .ok (.ladd, 1) := by decide +kernel
theorem dX8_minutesFor_8 : decode cX8_minutesFor 8 = .ok (.lconst 1, 1) := by decide +kernel
theorem dX8_minutesFor_9 : decode cX8_minutesFor 9 = .ok (.lsub, 1) := by decide +kernel
theorem dX8_minutesFor_10 : decode cX8_minutesFor 10 = .ok (.aload_n 0, 1) := by decide +kernel
theorem dX8_minutesFor_11 : decode cX8_minutesFor 11 = .ok (.getfield 7, 3) := by decide +kernel
theorem dX8_minutesFor_14 : decode cX8_minutesFor 14 = .ok (.i2l, 1) := by decide +kernel
theorem dX8_minutesFor_15 : decode cX8_minutesFor 15 = .ok (.invokestatic 17, 3) := by decide +kernel
theorem dX8_minutesFor_18 : decode cX8_minutesFor 18 = .ok (.l2i, 1) := by decide +kernel
theorem dX8_minutesFor_19 : decode cX8_minutesFor 19 = .ok (.iconst 1, 1) := by decide +kernel
theorem dX8_minutesFor_20 : decode cX8_minutesFor 20 = .ok (.iadd, 1) := by decide +kernel
theorem dX8_minutesFor_21 : decode cX8_minutesFor 21 = .ok (.ireturn, 1) := by decide +kernel
theorem dX9_init_0 : decode cX9_init 0 = .ok (.aload_n 0, 1) := by decide +kernel
theorem dX9_init_1 : decode cX9_init 1 = .ok (.invokespecial 3, 3) := by decide +kernel
theorem dX9_init_4 : decode cX9_init 4 = .ok (.aload_n 0, 1) := by decide +kernel
theorem dX9_init_5 : decode cX9_init 5 = .ok (.sipush 909, 3) := by decide +kernel
theorem dX9_init_8 : decode cX9_init 8 = .ok (.newarray .int, 2) := by decide +kernel
theorem dX9_init_10 : decode cX9_init 10 = .ok (.putfield 11, 3) := by decide +kernel
theorem dX9_init_13 : decode cX9_init 13 = .ok (.aload_n 0, 1) := by decide +kernel
theorem dX9_init_14 : decode cX9_init 14 = .ok (.bipush 17, 2) := by decide +kernel
theorem dX9_init_16 : decode cX9_init 16 = .ok (.newarray .int, 2) := by decide +kernel
theorem dX9_init_18 : decode cX9_init 18 = .ok (.putfield 15, 3) := by decide +kernel
theorem dX9_init_21 : decode cX9_init 21 = .ok (.aload_n 0, 1) := by decide +kernel
theorem dX9_init_22 : decode cX9_init 22 = .ok (.aload_n 1, 1) := by decide +kernel
theorem dX9_init_23 : decode cX9_init 23 = .ok (.putfield 18, 3) := by decide +kernel
theorem dX9_init_26 : decode cX9_init 26 = .ok (.return_, 1) := by decide +kernel
theorem dX9_stepAt_0 : decode cX9_stepAt 0 = .ok (.iload_n 1, 1) := by decide +kernel
theorem dX9_stepAt_1 : decode cX9_stepAt 1 = .ok (.ifCond .lt 20, 3) := by decide +kernel
theorem dX9_stepAt_4 : decode cX9_stepAt 4 = .ok (.iload_n 1, 1) := by decide +kernel
theorem dX9_stepAt_5 : decode cX9_stepAt 5 = .ok (.aload_n 0, 1) := by decide +kernel
theorem dX9_stepAt_6 : decode cX9_stepAt 6 = .ok (.getfield 22, 3) := by decide +kernel
theorem dX9_stepAt_9 : decode cX9_stepAt 9 = .ok (.if_icmp .ge 12, 3) := by decide +kernel
theorem dX9_stepAt_12 : decode cX9_stepAt 12 = .ok (.iload_n 1, 1) := by decide +kernel
theorem dX9_stepAt_13 : decode cX9_stepAt 13 = .ok (.aload_n 0, 1) := by decide +kernel
theorem dX9_stepAt_14 : decode cX9_stepAt 14 = .ok (.getfield 15, 3) := by decide +kernel
theorem dX9_stepAt_17 : decode cX9_stepAt 17 = .ok (.arraylength, 1) := by decide +kernel
theorem dX9_stepAt_18 : decode cX9_stepAt 18 = .ok (.if_icmp .lt 7, 3) := by decide +kernel
theorem dX9_stepAt_21 : decode cX9_stepAt 21 = .ok (.iconst (-1), 1) := by decide +kernel
theorem dX9_stepAt_22 : decode cX9_stepAt 22 = .ok (.goto 9, 3) := by decide +kernel
theorem dX9_stepAt_25 : decode cX9_stepAt 25 = .ok (.aload_n 0, 1) := by decide +kernel
theorem dX9_stepAt_26 : decode cX9_stepAt 26 = .ok (.getfield 15, 3) := by decide +kernel
theorem dX9_stepAt_29 : decode cX9_stepAt 29 = .ok (.iload_n 1, 1) := by decide +kernel
theorem dX9_stepAt_30 : decode cX9_stepAt 30 = .ok (.iaload, 1) := by decide +kernel
theorem dX9_stepAt_31 : decode cX9_stepAt 31 = .ok (.ireturn, 1) := by decide +kernel
theorem dX9_seek_0 : decode cX9_seek 0 = .ok (.aload_n 0, 1) := by decide +kernel
theorem dX9_seek_1 : decode cX9_seek 1 = .ok (.aload_n 1, 1) := by decide +kernel
theorem dX9_seek_2 : decode cX9_seek 2 = .ok (.putfield 26, 3) := by decide +kernel
theorem dX9_seek_5 : decode cX9_seek 5 = .ok (.aload_n 0, 1) := by decide +kernel
theorem dX9_seek_6 : decode cX9_seek 6 = .ok (.aload_n 2, 1) := by decide +kernel
theorem dX9_seek_7 : decode cX9_seek 7 = .ok (.putfield 30, 3) := by decide +kernel
theorem dX9_seek_10 : decode cX9_seek 10 = .ok (.aload_n 0, 1) := by decide +kernel
theorem dX9_seek_11 : decode cX9_seek 11 = .ok (.iload_n 3, 1) := by decide +kernel
theorem dX9_seek_12 : decode cX9_seek 12 = .ok (.putfield 34, 3) := by decide +kernel
theorem dX9_seek_15 : decode cX9_seek 15 = .ok (.aload_n 0, 1) := by decide +kernel
theorem dX9_seek_16 : decode cX9_seek 16 = .ok (.iload 4, 2) := by decide +kernel
theorem dX9_seek_18 : decode cX9_seek 18 = .ok (.putfield 37, 3) := by decide +kernel
theorem dX9_seek_21 : decode cX9_seek 21 = .ok (.aload_n 0, 1) := by decide +kernel
theorem dX9_seek_22 : decode cX9_seek 22 = .ok (.iload 5, 2) := by decide +kernel
theorem dX9_seek_24 : decode cX9_seek 24 = .ok (.putfield 40, 3) := by decide +kernel
theorem dX9_seek_27 : decode cX9_seek 27 = .ok (.aload_n 0, 1) := by decide +kernel
theorem dX9_seek_28 : decode cX9_seek 28 = .ok (.iconst 0, 1) := by decide +kernel
theorem dX9_seek_29 : decode cX9_seek 29 = .ok (.putfield 22, 3) := by decide +kernel
theorem dX9_seek_32 : decode cX9_seek 32 = .ok (.iconst 0, 1) := by decide +kernel
theorem dX9_seek_33 : decode cX9_seek 33 = .ok (.istore 6, 2) := by decide +kernel
theorem dX9_seek_35 : decode cX9_seek 35 = .ok (.iload 6, 2) := by decide +kernel
theorem dX9_seek_37 : decode cX9_seek 37 = .ok (.aload_n 0, 1) := by decide +kernel
theorem dX9_seek_38 : decode cX9_seek 38 = .ok (.getfield 11, 3) := by decide +kernel
theorem dX9_seek_41 : decode cX9_seek 41 = .ok (.arraylength, 1) := by decide +kernel
theorem dX9_seek_42 : decode cX9_seek 42 = .ok (.if_icmp .ge 17, 3) := by decide +kernel
theorem dX9_seek_45 : decode cX9_seek 45 = .ok (.aload_n 0, 1) := by decide +kernel
theorem dX9_seek_46 : decode cX9_seek 46 = .ok (.getfield 11, 3) := by decide +kernel
theorem dX9_seek_49 : decode cX9_seek 49 = .ok (.iload 6, 2) := by decide +kernel
theorem dX9_seek_51 : decode cX9_seek 51 = .ok (.iconst (-1), 1) := by decide +kernel
theorem dX9_seek_52 : decode cX9_seek 52 = .ok (.iastore, 1) := by decide +kernel
theorem dX9_seek_53 : decode cX9_seek 53 = .ok (.iinc 6 1, 3) := by decide +kernel
theorem dX9_seek_56 : decode cX9_seek 56 = .ok (.goto (-21), 3) := by decide +kernel
theorem dX9_seek_59 : decode cX9_seek 59 = .ok (.aload_n 0, 1) := by decide +kernel
theorem dX9_seek_60 : decode cX9_seek 60 = .ok (.iconst 0, 1) := by decide +kernel
theorem dX9_seek_61 : decode cX9_seek 61 = .ok (.aload_n 1, 1) := by decide +kernel
theorem dX9_seek_62 : decode cX9_seek 62 = .ok (.getfield 43, 3) := by decide +kernel
theorem dX9_seek_65 : decode cX9_seek 65 = .ok (.iconst 0, 1) := by decide +kernel
theorem dX9_seek_66 : decode cX9_seek 66 = .ok (.invokevirtual 48, 3) := by decide +kernel
theorem dX9_seek_69 : decode cX9_seek 69 = .ok (.istore 6, 2) := by decide +kernel
theorem dX9_seek_71 : decode cX9_seek 71 = .ok (.iload 6, 2) := by decide +kernel
theorem dX9_seek_73 : decode cX9_seek 73 = .ok (.ldc 52, 2) := by decide +kernel
theorem dX9_seek_75 : decode cX9_seek 75 = .ok (.if_icmp .lt 5, 3) := by decide +kernel
theorem dX9_seek_78 : decode cX9_seek 78 = .ok (.iconst (-1), 1) := by decide +kernel
theorem dX9_seek_79 : decode cX9_seek 79 = .ok (.ireturn, 1) := by decide +kernel
theorem dX9_seek_80 : decode cX9_seek 80 = .ok (.aload_n 0, 1) := by decide +kernel
theorem dX9_seek_81 : decode cX9_seek 81 = .ok (.aload_n 1, 1) := by decide +kernel
theorem dX9_seek_82 : decode cX9_seek 82 = .ok (.getfield 43, 3) := by decide +kernel
theorem dX9_seek_85 : decode cX9_seek 85 = .ok (.iload 6, 2) := by decide +kernel
theorem dX9_seek_87 : decode cX9_seek 87 = .ok (.bipush 100, 2) := by decide +kernel
theorem dX9_seek_89 : decode cX9_seek 89 = .ok (.idiv, 1) := by decide +kernel
theorem dX9_seek_90 : decode cX9_seek 90 = .ok (.iload 6, 2) := by decide +kernel
theorem dX9_seek_92 : decode cX9_seek 92 = .ok (.bipush 100, 2) := by decide +kernel
theorem dX9_seek_94 : decode cX9_seek 94 = .ok (.irem, 1) := by decide +kernel
theorem dX9_seek_95 : decode cX9_seek 95 = .ok (.iadd, 1) := by decide +kernel
theorem dX9_seek_96 : decode cX9_seek 96 = .ok (.invokevirtual 53, 3) := by decide +kernel
theorem dX9_seek_99 : decode cX9_seek 99 = .ok (.iload 6, 2) := by decide +kernel
theorem dX9_seek_101 : decode cX9_seek 101 = .ok (.ireturn, 1) := by decide +kernel
theorem dX9_laySteps_0 : decode cX9_laySteps 0 = .ok (.iconst 0, 1) := by decide +kernel
theorem dX9_laySteps_1 : decode cX9_laySteps 1 = .ok (.istore_n 3, 1) := by decide +kernel
theorem dX9_laySteps_2 : decode cX9_laySteps 2 = .ok (.iload_n 1, 1) := by decide +kernel
theorem dX9_laySteps_3 : decode cX9_laySteps 3 = .ok (.istore 4, 2) := by decide +kernel
theorem dX9_laySteps_5 : decode cX9_laySteps 5 = .ok (.iconst 0, 1) := by decide +kernel
theorem dX9_laySteps_6 : decode cX9_laySteps 6 = .ok (.istore 5, 2) := by decide +kernel
theorem dX9_laySteps_8 : decode cX9_laySteps 8 = .ok (.iload 5, 2) := by decide +kernel
theorem dX9_laySteps_10 : decode cX9_laySteps 10 = .ok (.iload_n 2, 1) := by decide +kernel
theorem dX9_laySteps_11 : decode cX9_laySteps 11 = .ok (.if_icmp .ge 111, 3) := by decide +kernel
theorem dX9_laySteps_14 : decode cX9_laySteps 14 = .ok (.iload 5, 2) := by decide +kernel
theorem dX9_laySteps_16 : decode cX9_laySteps 16 = .ok (.aload_n 0, 1) := by decide +kernel
theorem dX9_laySteps_17 : decode cX9_laySteps 17 = .ok (.getfield 15, 3) := by decide +kernel
theorem dX9_laySteps_20 : decode cX9_laySteps 20 = .ok (.arraylength, 1) := by decide +kernel
theorem dX9_laySteps_21 : decode cX9_laySteps 21 = .ok (.if_icmp .ge 101, 3) := by decide +kernel
theorem dX9_laySteps_24 : decode cX9_laySteps 24 = .ok (.iload_n 3, 1) := by decide +kernel
theorem dX9_laySteps_25 : decode cX9_laySteps 25 = .ok (.bipush 101, 2) := by decide +kernel
theorem dX9_laySteps_27 : decode cX9_laySteps 27 = .ok (.imul, 1) := by decide +kernel
theorem dX9_laySteps_28 : decode cX9_laySteps 28 = .ok (.iload 4, 2) := by decide +kernel
theorem dX9_laySteps_30 : decode cX9_laySteps 30 = .ok (.iadd, 1) := by decide +kernel
theorem dX9_laySteps_31 : decode cX9_laySteps 31 = .ok (.istore 6, 2) := by decide +kernel
theorem dX9_laySteps_33 : decode cX9_laySteps 33 = .ok (.iload 6, 2) := by decide +kernel
theorem dX9_laySteps_35 : decode cX9_laySteps 35 = .ok (.ifCond .lt 13, 3) := by decide +kernel
theorem dX9_laySteps_38 : decode cX9_laySteps 38 = .ok (.iload 6, 2) := by decide +kernel
theorem dX9_laySteps_40 : decode cX9_laySteps 40 = .ok (.aload_n 0, 1) := by decide +kernel
theorem dX9_laySteps_41 : decode cX9_laySteps 41 = .ok (.getfield 11, 3) := by decide +kernel
theorem dX9_laySteps_44 : decode cX9_laySteps 44 = .ok (.arraylength, 1) := by decide +kernel
theorem dX9_laySteps_45 : decode cX9_laySteps 45 = .ok (.if_icmp .lt 4, 3) := by decide +kernel
theorem dX9_laySteps_48 : decode cX9_laySteps 48 = .ok (.return_, 1) := by decide +kernel
theorem dX9_laySteps_49 : decode cX9_laySteps 49 = .ok (.aload_n 0, 1) := by decide +kernel
theorem dX9_laySteps_50 : decode cX9_laySteps 50 = .ok (.getfield 11, 3) := by decide +kernel
theorem dX9_laySteps_53 : decode cX9_laySteps 53 = .ok (.iload 6, 2) := by decide +kernel
theorem dX9_laySteps_55 : decode cX9_laySteps 55 = .ok (.iaload, 1) := by decide +kernel
theorem dX9_laySteps_56 : decode cX9_laySteps 56 = .ok (.bipush 9, 2) := by decide +kernel
theorem dX9_laySteps_58 : decode cX9_laySteps 58 = .ok (.irem, 1) := by decide +kernel
theorem dX9_laySteps_59 : decode cX9_laySteps 59 = .ok (.istore 7, 2) := by decide +kernel
theorem dX9_laySteps_61 : decode cX9_laySteps 61 = .ok (.aload_n 0, 1) := by decide +kernel
theorem dX9_laySteps_62 : decode cX9_laySteps 62 = .ok (.getfield 15, 3) := by decide +kernel
theorem dX9_laySteps_65 : decode cX9_laySteps 65 = .ok (.iload 5, 2) := by decide +kernel
theorem dX9_laySteps_67 : decode cX9_laySteps 67 = .ok (.iload 7, 2) := by decide +kernel
theorem dX9_laySteps_69 : decode cX9_laySteps 69 = .ok (.iastore, 1) := by decide +kernel
theorem dX9_laySteps_70 : decode cX9_laySteps 70 = .ok (.aload_n 0, 1) := by decide +kernel
theorem dX9_laySteps_71 : decode cX9_laySteps 71 = .ok (.iload 5, 2) := by decide +kernel
theorem dX9_laySteps_73 : decode cX9_laySteps 73 = .ok (.iconst 1, 1) := by decide +kernel
theorem dX9_laySteps_74 : decode cX9_laySteps 74 = .ok (.iadd, 1) := by decide +kernel
theorem dX9_laySteps_75 : decode cX9_laySteps 75 = .ok (.putfield 22, 3) := by decide +kernel
theorem dX9_laySteps_78 : decode cX9_laySteps 78 = .ok (.iload 7, 2) := by decide +kernel
theorem dX9_laySteps_80 : decode cX9_laySteps 80 = .ok (.bipush 8, 2) := by decide +kernel
theorem dX9_laySteps_82 : decode cX9_laySteps 82 = .ok (.if_icmp .ne 7, 3) := by decide +kernel
theorem dX9_laySteps_85 : decode cX9_laySteps 85 = .ok (.iconst 0, 1) := by decide +kernel
theorem dX9_laySteps_86 : decode cX9_laySteps 86 = .ok (.goto 12, 3) := by decide +kernel
theorem dX9_laySteps_89 : decode cX9_laySteps 89 = .ok (.aload_n 0, 1) := by decide +kernel
theorem dX9_laySteps_90 : decode cX9_laySteps 90 = .ok (.iload_n 3, 1) := by decide +kernel
theorem dX9_laySteps_91 : decode cX9_laySteps 91 = .ok (.iload 4, 2) := by decide +kernel
theorem dX9_laySteps_93 : decode cX9_laySteps 93 = .ok (.iload 7, 2) := by decide +kernel
theorem dX9_laySteps_95 : decode cX9_laySteps 95 = .ok (.invokevirtual 57, 3) := by decide +kernel
theorem dX9_laySteps_98 : decode cX9_laySteps 98 = .ok (.istore 4, 2) := by decide +kernel
theorem dX9_laySteps_100 : decode cX9_laySteps 100 = .ok (.iload 7, 2) := by decide +kernel
theorem dX9_laySteps_102 : decode cX9_laySteps 102 = .ok (.bipush 8, 2) := by decide +kernel
theorem dX9_laySteps_104 : decode cX9_laySteps 104 = .ok (.if_icmp .ne 7, 3) := by decide +kernel
theorem dX9_laySteps_107 : decode cX9_laySteps 107 = .ok (.iload_n 3, 1) := by decide +kernel
theorem dX9_laySteps_108 : decode cX9_laySteps 108 = .ok (.goto 7, 3) := by decide +kernel
theorem dX9_laySteps_111 : decode cX9_laySteps 111 = .ok (.iload 7, 2) := by decide +kernel
theorem dX9_laySteps_113 : decode cX9_laySteps 113 = .ok (.iconst 1, 1) := by decide +kernel
theorem dX9_laySteps_114 : decode cX9_laySteps 114 = .ok (.iadd, 1) := by decide +kernel
theorem dX9_laySteps_115 : decode cX9_laySteps 115 = .ok (.istore_n 3, 1) := by decide +kernel
theorem dX9_laySteps_116 : decode cX9_laySteps 116 = .ok (.iinc 5 1, 3) := by decide +kernel
theorem dX9_laySteps_119 : decode cX9_laySteps 119 = .ok (.goto (-111), 3) := by decide +kernel
theorem dX9_laySteps_122 : decode cX9_laySteps 122 = .ok (.return_, 1) := by decide +kernel
theorem dX9_priceFrom_0 : decode cX9_priceFrom 0 = .ok (.iload_n 1, 1) := by decide +kernel
theorem dX9_priceFrom_1 : decode cX9_priceFrom 1 = .ok (.bipush 101, 2) := by decide +kernel
theorem dX9_priceFrom_3 : decode cX9_priceFrom 3 = .ok (.imul, 1) := by decide +kernel
theorem dX9_priceFrom_4 : decode cX9_priceFrom 4 = .ok (.iload_n 2, 1) := by decide +kernel
theorem dX9_priceFrom_5 : decode cX9_priceFrom 5 = .ok (.iadd, 1) := by decide +kernel
theorem dX9_priceFrom_6 : decode cX9_priceFrom 6 = .ok (.istore 4, 2) := by decide +kernel
theorem dX9_priceFrom_8 : decode cX9_priceFrom 8 = .ok (.iload_n 3, 1) := by decide +kernel
theorem dX9_priceFrom_9 : decode cX9_priceFrom 9 = .ok (.bipush 17, 2) := by decide +kernel
theorem dX9_priceFrom_11 : decode cX9_priceFrom 11 = .ok (.if_icmp .gt 18, 3) := by decide +kernel
theorem dX9_priceFrom_14 : decode cX9_priceFrom 14 = .ok (.iload 4, 2) := by decide +kernel
theorem dX9_priceFrom_16 : decode cX9_priceFrom 16 = .ok (.ifCond .lt 13, 3) := by decide +kernel
theorem dX9_priceFrom_19 : decode cX9_priceFrom 19 = .ok (.iload 4, 2) := by decide +kernel
theorem dX9_priceFrom_21 : decode cX9_priceFrom 21 = .ok (.aload_n 0, 1) := by decide +kernel
theorem dX9_priceFrom_22 : decode cX9_priceFrom 22 = .ok (.getfield 11, 3) := by decide +kernel
theorem dX9_priceFrom_25 : decode cX9_priceFrom 25 = .ok (.arraylength, 1) := by decide +kernel
theorem dX9_priceFrom_26 : decode cX9_priceFrom 26 = .ok (.if_icmp .lt 6, 3) := by decide +kernel
theorem dX9_priceFrom_29 : decode cX9_priceFrom 29 = .ok (.ldc 52, 2) := by decide +kernel
theorem dX9_priceFrom_31 : decode cX9_priceFrom 31 = .ok (.ireturn, 1) := by decide +kernel
theorem dX9_priceFrom_32 : decode cX9_priceFrom 32 = .ok (.aload_n 0, 1) := by decide +kernel
theorem dX9_priceFrom_33 : decode cX9_priceFrom 33 = .ok (.iload_n 1, 1) := by decide +kernel
theorem dX9_priceFrom_34 : decode cX9_priceFrom 34 = .ok (.invokevirtual 60, 3) := by decide +kernel
theorem dX9_priceFrom_37 : decode cX9_priceFrom 37 = .ok (.aload_n 0, 1) := by decide +kernel
theorem dX9_priceFrom_38 : decode cX9_priceFrom 38 = .ok (.getfield 37, 3) := by decide +kernel
theorem dX9_priceFrom_41 : decode cX9_priceFrom 41 = .ok (.aload_n 0, 1) := by decide +kernel
theorem dX9_priceFrom_42 : decode cX9_priceFrom 42 = .ok (.getfield 40, 3) := by decide +kernel
theorem dX9_priceFrom_45 : decode cX9_priceFrom 45 = .ok (.invokestatic 64, 3) := by decide +kernel
theorem dX9_priceFrom_48 : decode cX9_priceFrom 48 = .ok (.ifCond .eq 5, 3) := by decide +kernel
theorem dX9_priceFrom_51 : decode cX9_priceFrom 51 = .ok (.iconst 0, 1) := by decide +kernel
theorem dX9_priceFrom_52 : decode cX9_priceFrom 52 = .ok (.ireturn, 1) := by decide +kernel
theorem dX9_priceFrom_53 : decode cX9_priceFrom 53 = .ok (.aload_n 0, 1) := by decide +kernel
theorem dX9_priceFrom_54 : decode cX9_priceFrom 54 = .ok (.getfield 11, 3) := by decide +kernel
theorem dX9_priceFrom_57 : decode cX9_priceFrom 57 = .ok (.iload 4, 2) := by decide +kernel
theorem dX9_priceFrom_59 : decode cX9_priceFrom 59 = .ok (.iaload, 1) := by decide +kernel
theorem dX9_priceFrom_60 : decode cX9_priceFrom 60 = .ok (.iconst (-1), 1) := by decide +kernel
theorem dX9_priceFrom_61 : decode cX9_priceFrom 61 = .ok (.if_icmp .eq 14, 3) := by decide +kernel
theorem dX9_priceFrom_64 : decode cX9_priceFrom 64 = .ok (.aload_n 0, 1) := by decide +kernel
theorem dX9_priceFrom_65 : decode cX9_priceFrom 65 = .ok (.getfield 11, 3) := by decide +kernel
theorem dX9_priceFrom_68 : decode cX9_priceFrom 68 = .ok (.iload 4, 2) := by decide +kernel
theorem dX9_priceFrom_70 : decode cX9_priceFrom 70 = .ok (.iaload, 1) := by decide +kernel
theorem dX9_priceFrom_71 : decode cX9_priceFrom 71 = .ok (.bipush 9, 2) := by decide +kernel
theorem dX9_priceFrom_73 : decode cX9_priceFrom 73 = .ok (.idiv, 1) := by decide +kernel
theorem dX9_priceFrom_74 : decode cX9_priceFrom 74 = .ok (.ireturn, 1) := by decide +kernel
theorem dX9_priceFrom_75 : decode cX9_priceFrom 75 = .ok (.ldc 68, 2) := by decide +kernel
theorem dX9_priceFrom_77 : decode cX9_priceFrom 77 = .ok (.istore 5, 2) := by decide +kernel
theorem dX9_priceFrom_79 : decode cX9_priceFrom 79 = .ok (.iconst 0, 1) := by decide +kernel
theorem dX9_priceFrom_80 : decode cX9_priceFrom 80 = .ok (.istore 6, 2) := by decide +kernel
theorem dX9_priceFrom_82 : decode cX9_priceFrom 82 = .ok (.iload 6, 2) := by decide +kernel
theorem dX9_priceFrom_84 : decode cX9_priceFrom 84 = .ok (.bipush 8, 2) := by decide +kernel
theorem dX9_priceFrom_86 : decode cX9_priceFrom 86 = .ok (.if_icmp .ge 60, 3) := by decide +kernel
theorem dX9_priceFrom_89 : decode cX9_priceFrom 89 = .ok (.aload_n 0, 1) := by decide +kernel
theorem dX9_priceFrom_90 : decode cX9_priceFrom 90 = .ok (.iload_n 1, 1) := by decide +kernel
theorem dX9_priceFrom_91 : decode cX9_priceFrom 91 = .ok (.iload_n 2, 1) := by decide +kernel
theorem dX9_priceFrom_92 : decode cX9_priceFrom 92 = .ok (.iload 6, 2) := by decide +kernel
theorem dX9_priceFrom_94 : decode cX9_priceFrom 94 = .ok (.invokevirtual 57, 3) := by decide +kernel
theorem dX9_priceFrom_97 : decode cX9_priceFrom 97 = .ok (.istore 7, 2) := by decide +kernel
theorem dX9_priceFrom_99 : decode cX9_priceFrom 99 = .ok (.iload 7, 2) := by decide +kernel
theorem dX9_priceFrom_101 : decode cX9_priceFrom 101 = .ok (.iconst (-1), 1) := by decide +kernel
theorem dX9_priceFrom_102 : decode cX9_priceFrom 102 = .ok (.if_icmp .ne 6, 3) := by decide +kernel
theorem dX9_priceFrom_105 : decode cX9_priceFrom 105 = .ok (.goto 35, 3) := by decide +kernel
theorem dX9_priceFrom_108 : decode cX9_priceFrom 108 = .ok (.aload_n 0, 1) := by decide +kernel
theorem dX9_priceFrom_109 : decode cX9_priceFrom 109 = .ok (.iload 6, 2) := by decide +kernel
theorem dX9_priceFrom_111 : decode cX9_priceFrom 111 = .ok (.iconst 1, 1) := by decide +kernel
theorem dX9_priceFrom_112 : decode cX9_priceFrom 112 = .ok (.iadd, 1) := by decide +kernel
theorem dX9_priceFrom_113 : decode cX9_priceFrom 113 = .ok (.iload 7, 2) := by decide +kernel
theorem dX9_priceFrom_115 : decode cX9_priceFrom 115 = .ok (.iload_n 3, 1) := by decide +kernel
theorem dX9_priceFrom_116 : decode cX9_priceFrom 116 = .ok (.iconst 1, 1) := by decide +kernel
theorem dX9_priceFrom_117 : decode cX9_priceFrom 117 = .ok (.iadd, 1) := by decide +kernel
theorem dX9_priceFrom_118 : decode cX9_priceFrom 118 = .ok (.invokevirtual 48, 3) := by decide +kernel
theorem dX9_priceFrom_121 : decode cX9_priceFrom 121 = .ok (.iconst 1, 1) := by decide +kernel
theorem dX9_priceFrom_122 : decode cX9_priceFrom 122 = .ok (.iadd, 1) := by decide +kernel
theorem dX9_priceFrom_123 : decode cX9_priceFrom 123 = .ok (.istore 8, 2) := by decide +kernel
theorem dX9_priceFrom_125 : decode cX9_priceFrom 125 = .ok (.iload 5, 2) := by decide +kernel
theorem dX9_priceFrom_127 : decode cX9_priceFrom 127 = .ok (.iload 8, 2) := by decide +kernel
theorem dX9_priceFrom_129 : decode cX9_priceFrom 129 = .ok (.bipush 9, 2) := by decide +kernel
theorem dX9_priceFrom_131 : decode cX9_priceFrom 131 = .ok (.imul, 1) := by decide +kernel
theorem dX9_priceFrom_132 : decode cX9_priceFrom 132 = .ok (.iload 6, 2) := by decide +kernel
theorem dX9_priceFrom_134 : decode cX9_priceFrom 134 = .ok (.iadd, 1) := by decide +kernel
theorem dX9_priceFrom_135 : decode cX9_priceFrom 135 = .ok (.invokestatic 69, 3) := by decide +kernel
theorem dX9_priceFrom_138 : decode cX9_priceFrom 138 = .ok (.istore 5, 2) := by decide +kernel
theorem dX9_priceFrom_140 : decode cX9_priceFrom 140 = .ok (.iinc 6 1, 3) := by decide +kernel
theorem dX9_priceFrom_143 : decode cX9_priceFrom 143 = .ok (.goto (-61), 3) := by decide +kernel
theorem dX9_priceFrom_146 : decode cX9_priceFrom 146 = .ok (.iload_n 2, 1) := by decide +kernel
theorem dX9_priceFrom_147 : decode cX9_priceFrom 147 = .ok (.ifCond .le 32, 3) := by decide +kernel
theorem dX9_priceFrom_150 : decode cX9_priceFrom 150 = .ok (.aload_n 0, 1) := by decide +kernel
theorem dX9_priceFrom_151 : decode cX9_priceFrom 151 = .ok (.iload_n 1, 1) := by decide +kernel
theorem dX9_priceFrom_152 : decode cX9_priceFrom 152 = .ok (.iconst 0, 1) := by decide +kernel
theorem dX9_priceFrom_153 : decode cX9_priceFrom 153 = .ok (.iload_n 3, 1) := by decide +kernel
theorem dX9_priceFrom_154 : decode cX9_priceFrom 154 = .ok (.iconst 1, 1) := by decide +kernel
theorem dX9_priceFrom_155 : decode cX9_priceFrom 155 = .ok (.iadd, 1) := by decide +kernel
theorem dX9_priceFrom_156 : decode cX9_priceFrom 156 = .ok (.invokevirtual 48, 3) := by decide +kernel
theorem dX9_priceFrom_159 : decode cX9_priceFrom 159 = .ok (.bipush 100, 2) := by decide +kernel
theorem dX9_priceFrom_161 : decode cX9_priceFrom 161 = .ok (.iadd, 1) := by decide +kernel
theorem dX9_priceFrom_162 : decode cX9_priceFrom 162 = .ok (.istore 6, 2) := by decide +kernel
theorem dX9_priceFrom_164 : decode cX9_priceFrom 164 = .ok (.iload 5, 2) := by decide +kernel
theorem dX9_priceFrom_166 : decode cX9_priceFrom 166 = .ok (.iload 6, 2) := by decide +kernel
theorem dX9_priceFrom_168 : decode cX9_priceFrom 168 = .ok (.bipush 9, 2) := by decide +kernel
theorem dX9_priceFrom_170 : decode cX9_priceFrom 170 = .ok (.imul, 1) := by decide +kernel
theorem dX9_priceFrom_171 : decode cX9_priceFrom 171 = .ok (.bipush 8, 2) := by decide +kernel
theorem dX9_priceFrom_173 : decode cX9_priceFrom 173 = .ok (.iadd, 1) := by decide +kernel
theorem dX9_priceFrom_174 : decode cX9_priceFrom 174 = .ok (.invokestatic 69, 3) := by decide +kernel
theorem dX9_priceFrom_177 : decode cX9_priceFrom 177 = .ok (.istore 5, 2) := by decide +kernel
theorem dX9_priceFrom_179 : decode cX9_priceFrom 179 = .ok (.aload_n 0, 1) := by decide +kernel
theorem dX9_priceFrom_180 : decode cX9_priceFrom 180 = .ok (.getfield 11, 3) := by decide +kernel
theorem dX9_priceFrom_183 : decode cX9_priceFrom 183 = .ok (.iload 4, 2) := by decide +kernel
theorem dX9_priceFrom_185 : decode cX9_priceFrom 185 = .ok (.iload 5, 2) := by decide +kernel
theorem dX9_priceFrom_187 : decode cX9_priceFrom 187 = .ok (.iastore, 1) := by decide +kernel
theorem dX9_priceFrom_188 : decode cX9_priceFrom 188 = .ok (.iload 5, 2) := by decide +kernel
theorem dX9_priceFrom_190 : decode cX9_priceFrom 190 = .ok (.bipush 9, 2) := by decide +kernel
theorem dX9_priceFrom_192 : decode cX9_priceFrom 192 = .ok (.idiv, 1) := by decide +kernel
theorem dX9_priceFrom_193 : decode cX9_priceFrom 193 = .ok (.ireturn, 1) := by decide +kernel
theorem dX9_sizeAt_0 : decode cX9_sizeAt 0 = .ok (.aload_n 0, 1) := by decide +kernel
theorem dX9_sizeAt_1 : decode cX9_sizeAt 1 = .ok (.getfield 26, 3) := by decide +kernel
theorem dX9_sizeAt_4 : decode cX9_sizeAt 4 = .ok (.ifnull 10, 3) := by decide +kernel
theorem dX9_sizeAt_7 : decode cX9_sizeAt 7 = .ok (.aload_n 0, 1) := by decide +kernel
theorem dX9_sizeAt_8 : decode cX9_sizeAt 8 = .ok (.getfield 30, 3) := by decide +kernel
theorem dX9_sizeAt_11 : decode cX9_sizeAt 11 = .ok (.ifnonnull 5, 3) := by decide +kernel
theorem dX9_sizeAt_14 : decode cX9_sizeAt 14 = .ok (.iconst 0, 1) := by decide +kernel
theorem dX9_sizeAt_15 : decode cX9_sizeAt 15 = .ok (.ireturn, 1) := by decide +kernel
theorem dX9_sizeAt_16 : decode cX9_sizeAt 16 = .ok (.iload_n 1, 1) := by decide +kernel
theorem dX9_sizeAt_17 : decode cX9_sizeAt 17 = .ok (.ifCond .ne 11, 3) := by decide +kernel
theorem dX9_sizeAt_20 : decode cX9_sizeAt 20 = .ok (.aload_n 0, 1) := by decide +kernel
theorem dX9_sizeAt_21 : decode cX9_sizeAt 21 = .ok (.getfield 26, 3) := by decide +kernel
theorem dX9_sizeAt_24 : decode cX9_sizeAt 24 = .ok (.getfield 75, 3) := by decide +kernel
theorem dX9_sizeAt_27 : decode cX9_sizeAt 27 = .ok (.ireturn, 1) := by decide +kernel
theorem dX9_sizeAt_28 : decode cX9_sizeAt 28 = .ok (.aload_n 0, 1) := by decide +kernel
theorem dX9_sizeAt_29 : decode cX9_sizeAt 29 = .ok (.getfield 30, 3) := by decide +kernel
theorem dX9_sizeAt_32 : decode cX9_sizeAt 32 = .ok (.iload_n 1, 1) := by decide +kernel
theorem dX9_sizeAt_33 : decode cX9_sizeAt 33 = .ok (.iconst 1, 1) := by decide +kernel
theorem dX9_sizeAt_34 : decode cX9_sizeAt 34 = .ok (.isub, 1) := by decide +kernel
theorem dX9_sizeAt_35 : decode cX9_sizeAt 35 = .ok (.invokevirtual 78, 3) := by decide +kernel
theorem dX9_sizeAt_38 : decode cX9_sizeAt 38 = .ok (.astore_n 2, 1) := by decide +kernel
theorem dX9_sizeAt_39 : decode cX9_sizeAt 39 = .ok (.aload_n 2, 1) := by decide +kernel
theorem dX9_sizeAt_40 : decode cX9_sizeAt 40 = .ok (.ifnonnull 7, 3) := by decide +kernel
theorem dX9_sizeAt_43 : decode cX9_sizeAt 43 = .ok (.iconst 0, 1) := by decide +kernel
theorem dX9_sizeAt_44 : decode cX9_sizeAt 44 = .ok (.goto 7, 3) := by decide +kernel
theorem dX9_sizeAt_47 : decode cX9_sizeAt 47 = .ok (.aload_n 2, 1) := by decide +kernel
theorem dX9_sizeAt_48 : decode cX9_sizeAt 48 = .ok (.invokevirtual 84, 3) := by decide +kernel
theorem dX9_sizeAt_51 : decode cX9_sizeAt 51 = .ok (.ireturn, 1) := by decide +kernel
theorem dX9_hardnessBehind_0 : decode cX9_hardnessBehind 0 = .ok (.aload_n 0, 1) := by decide +kernel
theorem dX9_hardnessBehind_1 : decode cX9_hardnessBehind 1 = .ok (.getfield 26, 3) := by decide +kernel
theorem dX9_hardnessBehind_4 : decode cX9_hardnessBehind 4 = .ok (.ifnull 10, 3) := by decide +kernel
theorem dX9_hardnessBehind_7 : decode cX9_hardnessBehind 7 = .ok (.aload_n 0, 1) := by decide +kernel
theorem dX9_hardnessBehind_8 : decode cX9_hardnessBehind 8 = .ok (.getfield 30, 3) := by decide +kernel
theorem dX9_hardnessBehind_11 : decode cX9_hardnessBehind 11 = .ok (.ifnonnull 5, 3) := by decide +kernel
theorem dX9_hardnessBehind_14 : decode cX9_hardnessBehind 14 = .ok (.iconst (-1), 1) := by decide +kernel
theorem dX9_hardnessBehind_15 : decode cX9_hardnessBehind 15 = .ok (.ireturn, 1) := by decide +kernel
theorem dX9_hardnessBehind_16 : decode cX9_hardnessBehind 16 = .ok (.aload_n 0, 1) := by decide +kernel
theorem dX9_hardnessBehind_17 : decode cX9_hardnessBehind 17 = .ok (.getfield 30, 3) := by decide +kernel
theorem dX9_hardnessBehind_20 : decode cX9_hardnessBehind 20 = .ok (.iload_n 3, 1) := by decide +kernel
theorem dX9_hardnessBehind_21 : decode cX9_hardnessBehind 21 = .ok (.invokevirtual 78, 3) := by decide +kernel
theorem dX9_hardnessBehind_24 : decode cX9_hardnessBehind 24 = .ok (.astore 4, 2) := by decide +kernel
theorem dX9_hardnessBehind_26 : decode cX9_hardnessBehind 26 = .ok (.aload 4, 2) := by decide +kernel
theorem dX9_hardnessBehind_28 : decode cX9_hardnessBehind 28 = .ok (.ifnull 29, 3) := by decide +kernel
theorem dX9_hardnessBehind_31 : decode cX9_hardnessBehind 31 = .ok (.aload_n 0, 1) := by decide +kernel
theorem dX9_hardnessBehind_32 : decode cX9_hardnessBehind 32 = .ok (.getfield 18, 3) := by decide +kernel
theorem dX9_hardnessBehind_35 : decode cX9_hardnessBehind 35 = .ok (.aload_n 0, 1) := by decide +kernel
theorem dX9_hardnessBehind_36 : decode cX9_hardnessBehind 36 = .ok (.getfield 26, 3) := by decide +kernel
theorem dX9_hardnessBehind_39 : decode cX9_hardnessBehind 39 = .ok (.aload_n 0, 1) := by decide +kernel
theorem dX9_hardnessBehind_40 : decode cX9_hardnessBehind 40 = .ok (.iload_n 1, 1) := by decide +kernel
theorem dX9_hardnessBehind_41 : decode cX9_hardnessBehind 41 = .ok (.invokevirtual 60, 3) := by decide +kernel
theorem dX9_hardnessBehind_44 : decode cX9_hardnessBehind 44 = .ok (.iload_n 2, 1) := by decide +kernel
theorem dX9_hardnessBehind_45 : decode cX9_hardnessBehind 45 = .ok (.aload 4, 2) := by decide +kernel
theorem dX9_hardnessBehind_47 : decode cX9_hardnessBehind 47 = .ok (.aload_n 0, 1) := by decide +kernel
theorem dX9_hardnessBehind_48 : decode cX9_hardnessBehind 48 = .ok (.getfield 34, 3) := by decide +kernel
theorem dX9_hardnessBehind_51 : decode cX9_hardnessBehind 51 = .ok (.invokevirtual 90, 3) := by decide +kernel
theorem dX9_hardnessBehind_54 : decode cX9_hardnessBehind 54 = .ok (.ifCond .ge 5, 3) := by decide +kernel
theorem dX9_hardnessBehind_57 : decode cX9_hardnessBehind 57 = .ok (.iconst (-1), 1) := by decide +kernel
theorem dX9_hardnessBehind_58 : decode cX9_hardnessBehind 58 = .ok (.ireturn, 1) := by decide +kernel
theorem dX9_hardnessBehind_59 : decode cX9_hardnessBehind 59 = .ok (.aload_n 0, 1) := by decide +kernel
theorem dX9_hardnessBehind_60 : decode cX9_hardnessBehind 60 = .ok (.getfield 18, 3) := by decide +kernel
theorem dX9_hardnessBehind_63 : decode cX9_hardnessBehind 63 = .ok (.getfield 96, 3) := by decide +kernel
theorem dX9_hardnessBehind_66 : decode cX9_hardnessBehind 66 = .ok (.ireturn, 1) := by decide +kernel
theorem dX10_init_0 : decode cX10_init 0 = .ok (.aload_n 0, 1) := by decide +kernel
theorem dX10_init_1 : decode cX10_init 1 = .ok (.invokespecial 1, 3) := by decide +kernel
theorem dX10_init_4 : decode cX10_init 4 = .ok (.aload_n 0, 1) := by decide +kernel
theorem dX10_init_5 : decode cX10_init 5 = .ok (.bipush 20, 2) := by decide +kernel
theorem dX10_init_7 : decode cX10_init 7 = .ok (.putfield 7, 3) := by decide +kernel
theorem dX10_init_10 : decode cX10_init 10 = .ok (.aload_n 0, 1) := by decide +kernel
theorem dX10_init_11 : decode cX10_init 11 = .ok (.bipush 80, 2) := by decide +kernel
theorem dX10_init_13 : decode cX10_init 13 = .ok (.putfield 13, 3) := by decide +kernel
theorem dX10_init_16 : decode cX10_init 16 = .ok (.aload_n 0, 1) := by decide +kernel
theorem dX10_init_17 : decode cX10_init 17 = .ok (.bipush 10, 2) := by decide +kernel
theorem dX10_init_19 : decode cX10_init 19 = .ok (.putfield 16, 3) := by decide +kernel
theorem dX10_init_22 : decode cX10_init 22 = .ok (.aload_n 0, 1) := by decide +kernel
theorem dX10_init_23 : decode cX10_init 23 = .ok (.bipush 60, 2) := by decide +kernel
theorem dX10_init_25 : decode cX10_init 25 = .ok (.putfield 19, 3) := by decide +kernel
theorem dX10_init_28 : decode cX10_init 28 = .ok (.aload_n 0, 1) := by decide +kernel
theorem dX10_init_29 : decode cX10_init 29 = .ok (.iconst 2, 1) := by decide +kernel
theorem dX10_init_30 : decode cX10_init 30 = .ok (.putfield 22, 3) := by decide +kernel
theorem dX10_init_33 : decode cX10_init 33 = .ok (.aload_n 0, 1) := by decide +kernel
theorem dX10_init_34 : decode cX10_init 34 = .ok (.iconst 5, 1) := by decide +kernel
theorem dX10_init_35 : decode cX10_init 35 = .ok (.putfield 25, 3) := by decide +kernel
theorem dX10_init_38 : decode cX10_init 38 = .ok (.return_, 1) := by decide +kernel
theorem dX10_admits_0 : decode cX10_admits 0 = .ok (.iload_n 1, 1) := by decide +kernel
theorem dX10_admits_1 : decode cX10_admits 1 = .ok (.ifCond .lt 19, 3) := by decide +kernel
theorem dX10_admits_4 : decode cX10_admits 4 = .ok (.iload_n 1, 1) := by decide +kernel
theorem dX10_admits_5 : decode cX10_admits 5 = .ok (.getstatic 28, 3) := by decide +kernel
theorem dX10_admits_8 : decode cX10_admits 8 = .ok (.arraylength, 1) := by decide +kernel
theorem dX10_admits_9 : decode cX10_admits 9 = .ok (.if_icmp .ge 11, 3) := by decide +kernel
theorem dX10_admits_12 : decode cX10_admits 12 = .ok (.iload_n 1, 1) := by decide +kernel
theorem dX10_admits_13 : decode cX10_admits 13 = .ok (.getstatic 32, 3) := by decide +kernel
theorem dX10_admits_16 : decode cX10_admits 16 = .ok (.arraylength, 1) := by decide +kernel
theorem dX10_admits_17 : decode cX10_admits 17 = .ok (.if_icmp .lt 5, 3) := by decide +kernel
theorem dX10_admits_20 : decode cX10_admits 20 = .ok (.iconst 0, 1) := by decide +kernel
theorem dX10_admits_21 : decode cX10_admits 21 = .ok (.ireturn, 1) := by decide +kernel
theorem dX10_admits_22 : decode cX10_admits 22 = .ok (.iload_n 2, 1) := by decide +kernel
theorem dX10_admits_23 : decode cX10_admits 23 = .ok (.getstatic 28, 3) := by decide +kernel
theorem dX10_admits_26 : decode cX10_admits 26 = .ok (.iload_n 1, 1) := by decide +kernel
theorem dX10_admits_27 : decode cX10_admits 27 = .ok (.iaload, 1) := by decide +kernel
theorem dX10_admits_28 : decode cX10_admits 28 = .ok (.getstatic 32, 3) := by decide +kernel
theorem dX10_admits_31 : decode cX10_admits 31 = .ok (.iload_n 1, 1) := by decide +kernel
theorem dX10_admits_32 : decode cX10_admits 32 = .ok (.iaload, 1) := by decide +kernel
theorem dX10_admits_33 : decode cX10_admits 33 = .ok (.invokestatic 35, 3) := by decide +kernel
theorem dX10_admits_36 : decode cX10_admits 36 = .ok (.ireturn, 1) := by decide +kernel
theorem dX10_value_0 : decode cX10_value 0 = .ok (.iload_n 1, 1) := by decide +kernel
theorem dX10_value_1 : decode cX10_value 1 = .ok (.tableswitch 60 0 4 #[35, 40, 45, 50, 55], 35) := by decide +kernel
theorem dX10_value_36 : decode cX10_value 36 = .ok (.aload_n 0, 1) := by decide +kernel
theorem dX10_value_37 : decode cX10_value 37 = .ok (.getfield 7, 3) := by decide +kernel
theorem dX10_value_40 : decode cX10_value 40 = .ok (.ireturn, 1) := by decide +kernel
theorem dX10_value_41 : decode cX10_value 41 = .ok (.aload_n 0, 1) := by decide +kernel
theorem dX10_value_42 : decode cX10_value 42 = .ok (.getfield 13, 3) := by decide +kernel
theorem dX10_value_45 : decode cX10_value 45 = .ok (.ireturn, 1) := by decide +kernel
theorem dX10_value_46 : decode cX10_value 46 = .ok (.aload_n 0, 1) := by decide +kernel
theorem dX10_value_47 : decode cX10_value 47 = .ok (.getfield 16, 3) := by decide +kernel
theorem dX10_value_50 : decode cX10_value 50 = .ok (.ireturn, 1) := by decide +kernel
theorem dX10_value_51 : decode cX10_value 51 = .ok (.aload_n 0, 1) := by decide +kernel
theorem dX10_value_52 : decode cX10_value 52 = .ok (.getfield 19, 3) := by decide +kernel
theorem dX10_value_55 : decode cX10_value 55 = .ok (.ireturn, 1) := by decide +kernel
theorem dX10_value_56 : decode cX10_value 56 = .ok (.aload_n 0, 1) := by decide +kernel
theorem dX10_value_57 : decode cX10_value 57 = .ok (.getfield 22, 3) := by decide +kernel
theorem dX10_value_60 : decode cX10_value 60 = .ok (.ireturn, 1) := by decide +kernel
theorem dX10_value_61 : decode cX10_value 61 = .ok (.aload_n 0, 1) := by decide +kernel
theorem dX10_value_62 : decode cX10_value 62 = .ok (.getfield 25, 3) := by decide +kernel
theorem dX10_value_65 : decode cX10_value 65 = .ok (.ireturn, 1) := by decide +kernel
theorem dX10_change_0 : decode cX10_change 0 = .ok (.iload_n 1, 1) := by decide +kernel
theorem dX10_change_1 : decode cX10_change 1 = .ok (.tableswitch 75 0 4 #[35, 43, 51, 59, 67], 35) := by decide +kernel
theorem dX10_change_36 : decode cX10_change 36 = .ok (.aload_n 0, 1) := by decide +kernel
theorem dX10_change_37 : decode cX10_change 37 = .ok (.iload_n 2, 1) := by decide +kernel
theorem dX10_change_38 : decode cX10_change 38 = .ok (.putfield 7, 3) := by decide +kernel
theorem dX10_change_41 : decode cX10_change 41 = .ok (.goto 40, 3) := by decide +kernel
theorem dX10_change_44 : decode cX10_change 44 = .ok (.aload_n 0, 1) := by decide +kernel
theorem dX10_change_45 : decode cX10_change 45 = .ok (.iload_n 2, 1) := by decide +kernel
theorem dX10_change_46 : decode cX10_change 46 = .ok (.putfield 13, 3) := by decide +kernel
theorem dX10_change_49 : decode cX10_change 49 = .ok (.goto 32, 3) := by decide +kernel
theorem dX10_change_52 : decode cX10_change 52 = .ok (.aload_n 0, 1) := by decide +kernel
theorem dX10_change_53 : decode cX10_change 53 = .ok (.iload_n 2, 1) := by decide +kernel
theorem dX10_change_54 : decode cX10_change 54 = .ok (.putfield 16, 3) := by decide +kernel
theorem dX10_change_57 : decode cX10_change 57 = .ok (.goto 24, 3) := by decide +kernel
theorem dX10_change_60 : decode cX10_change 60 = .ok (.aload_n 0, 1) := by decide +kernel
theorem dX10_change_61 : decode cX10_change 61 = .ok (.iload_n 2, 1) := by decide +kernel
theorem dX10_change_62 : decode cX10_change 62 = .ok (.putfield 19, 3) := by decide +kernel
theorem dX10_change_65 : decode cX10_change 65 = .ok (.goto 16, 3) := by decide +kernel
theorem dX10_change_68 : decode cX10_change 68 = .ok (.aload_n 0, 1) := by decide +kernel
theorem dX10_change_69 : decode cX10_change 69 = .ok (.iload_n 2, 1) := by decide +kernel
theorem dX10_change_70 : decode cX10_change 70 = .ok (.putfield 22, 3) := by decide +kernel
theorem dX10_change_73 : decode cX10_change 73 = .ok (.goto 8, 3) := by decide +kernel
theorem dX10_change_76 : decode cX10_change 76 = .ok (.aload_n 0, 1) := by decide +kernel
theorem dX10_change_77 : decode cX10_change 77 = .ok (.iload_n 2, 1) := by decide +kernel
theorem dX10_change_78 : decode cX10_change 78 = .ok (.putfield 25, 3) := by decide +kernel
theorem dX10_change_81 : decode cX10_change 81 = .ok (.return_, 1) := by decide +kernel
theorem dX11_init_0 : decode cX11_init 0 = .ok (.aload_n 0, 1) := by decide +kernel
theorem dX11_init_1 : decode cX11_init 1 = .ok (.invokespecial 1, 3) := by decide +kernel
theorem dX11_init_4 : decode cX11_init 4 = .ok (.aload_n 0, 1) := by decide +kernel
theorem dX11_init_5 : decode cX11_init 5 = .ok (.new 7, 3) := by decide +kernel
theorem dX11_init_8 : decode cX11_init 8 = .ok (.dup, 1) := by decide +kernel
theorem dX11_init_9 : decode cX11_init 9 = .ok (.invokespecial 9, 3) := by decide +kernel
theorem dX11_init_12 : decode cX11_init 12 = .ok (.putfield 10, 3) := by decide +kernel
theorem dX11_init_15 : decode cX11_init 15 = .ok (.aload_n 0, 1) := by decide +kernel
theorem dX11_init_16 : decode cX11_init 16 = .ok (.iconst 4, 1) := by decide +kernel
theorem dX11_init_17 : decode cX11_init 17 = .ok (.anewarray 16, 3) := by decide +kernel
theorem dX11_init_20 : decode cX11_init 20 = .ok (.putfield 18, 3) := by decide +kernel
theorem dX11_init_23 : decode cX11_init 23 = .ok (.aload_n 0, 1) := by decide +kernel
theorem dX11_init_24 : decode cX11_init 24 = .ok (.iconst 3, 1) := by decide +kernel
theorem dX11_init_25 : decode cX11_init 25 = .ok (.anewarray 22, 3) := by decide +kernel
theorem dX11_init_28 : decode cX11_init 28 = .ok (.putfield 24, 3) := by decide +kernel
theorem dX11_init_31 : decode cX11_init 31 = .ok (.aload_n 0, 1) := by decide +kernel
theorem dX11_init_32 : decode cX11_init 32 = .ok (.iconst 4, 1) := by decide +kernel
theorem dX11_init_33 : decode cX11_init 33 = .ok (.anewarray 28, 3) := by decide +kernel
theorem dX11_init_36 : decode cX11_init 36 = .ok (.putfield 30, 3) := by decide +kernel
theorem dX11_init_39 : decode cX11_init 39 = .ok (.aload_n 0, 1) := by decide +kernel
theorem dX11_init_40 : decode cX11_init 40 = .ok (.bipush 16, 2) := by decide +kernel
theorem dX11_init_42 : decode cX11_init 42 = .ok (.anewarray 34, 3) := by decide +kernel
theorem dX11_init_45 : decode cX11_init 45 = .ok (.putfield 36, 3) := by decide +kernel
theorem dX11_init_48 : decode cX11_init 48 = .ok (.aload_n 0, 1) := by decide +kernel
theorem dX11_init_49 : decode cX11_init 49 = .ok (.bipush 6, 2) := by decide +kernel
theorem dX11_init_51 : decode cX11_init 51 = .ok (.anewarray 40, 3) := by decide +kernel
theorem dX11_init_54 : decode cX11_init 54 = .ok (.putfield 42, 3) := by decide +kernel
theorem dX11_init_57 : decode cX11_init 57 = .ok (.aload_n 0, 1) := by decide +kernel
theorem dX11_init_58 : decode cX11_init 58 = .ok (.new 46, 3) := by decide +kernel
theorem dX11_init_61 : decode cX11_init 61 = .ok (.dup, 1) := by decide +kernel
theorem dX11_init_62 : decode cX11_init 62 = .ok (.invokespecial 48, 3) := by decide +kernel
theorem dX11_init_65 : decode cX11_init 65 = .ok (.putfield 49, 3) := by decide +kernel
theorem dX11_init_68 : decode cX11_init 68 = .ok (.aload_n 0, 1) := by decide +kernel
theorem dX11_init_69 : decode cX11_init 69 = .ok (.new 53, 3) := by decide +kernel
theorem dX11_init_72 : decode cX11_init 72 = .ok (.dup, 1) := by decide +kernel
theorem dX11_init_73 : decode cX11_init 73 = .ok (.aload_n 0, 1) := by decide +kernel
theorem dX11_init_74 : decode cX11_init 74 = .ok (.getfield 10, 3) := by decide +kernel
theorem dX11_init_77 : decode cX11_init 77 = .ok (.invokespecial 55, 3) := by decide +kernel
theorem dX11_init_80 : decode cX11_init 80 = .ok (.putfield 58, 3) := by decide +kernel
theorem dX11_init_83 : decode cX11_init 83 = .ok (.aload_n 0, 1) := by decide +kernel
theorem dX11_init_84 : decode cX11_init 84 = .ok (.new 62, 3) := by decide +kernel
theorem dX11_init_87 : decode cX11_init 87 = .ok (.dup, 1) := by decide +kernel
theorem dX11_init_88 : decode cX11_init 88 = .ok (.aload_n 0, 1) := by decide +kernel
theorem dX11_init_89 : decode cX11_init 89 = .ok (.getfield 58, 3) := by decide +kernel
theorem dX11_init_92 : decode cX11_init 92 = .ok (.invokespecial 64, 3) := by decide +kernel
theorem dX11_init_95 : decode cX11_init 95 = .ok (.putfield 67, 3) := by decide +kernel
theorem dX11_init_98 : decode cX11_init 98 = .ok (.aload_n 0, 1) := by decide +kernel
theorem dX11_init_99 : decode cX11_init 99 = .ok (.new 71, 3) := by decide +kernel
theorem dX11_init_102 : decode cX11_init 102 = .ok (.dup, 1) := by decide +kernel
theorem dX11_init_103 : decode cX11_init 103 = .ok (.invokespecial 73, 3) := by decide +kernel
theorem dX11_init_106 : decode cX11_init 106 = .ok (.putfield 74, 3) := by decide +kernel
theorem dX11_init_109 : decode cX11_init 109 = .ok (.iconst 0, 1) := by decide +kernel
theorem dX11_init_110 : decode cX11_init 110 = .ok (.istore_n 1, 1) := by decide +kernel
theorem dX11_init_111 : decode cX11_init 111 = .ok (.iload_n 1, 1) := by decide +kernel
theorem dX11_init_112 : decode cX11_init 112 = .ok (.aload_n 0, 1) := by decide +kernel
theorem dX11_init_113 : decode cX11_init 113 = .ok (.getfield 18, 3) := by decide +kernel
theorem dX11_init_116 : decode cX11_init 116 = .ok (.arraylength, 1) := by decide +kernel
theorem dX11_init_117 : decode cX11_init 117 = .ok (.if_icmp .ge 23, 3) := by decide +kernel
theorem dX11_init_120 : decode cX11_init 120 = .ok (.aload_n 0, 1) := by decide +kernel
theorem dX11_init_121 : decode cX11_init 121 = .ok (.getfield 18, 3) := by decide +kernel
theorem dX11_init_124 : decode cX11_init 124 = .ok (.iload_n 1, 1) := by decide +kernel
theorem dX11_init_125 : decode cX11_init 125 = .ok (.new 16, 3) := by decide +kernel
theorem dX11_init_128 : decode cX11_init 128 = .ok (.dup, 1) := by decide +kernel
theorem dX11_init_129 : decode cX11_init 129 = .ok (.iload_n 1, 1) := by decide +kernel
theorem dX11_init_130 : decode cX11_init 130 = .ok (.invokespecial 78, 3) := by decide +kernel
theorem dX11_init_133 : decode cX11_init 133 = .ok (.aastore, 1) := by decide +kernel
theorem dX11_init_134 : decode cX11_init 134 = .ok (.iinc 1 1, 3) := by decide +kernel
theorem dX11_init_137 : decode cX11_init 137 = .ok (.goto (-26), 3) := by decide +kernel
theorem dX11_init_140 : decode cX11_init 140 = .ok (.iconst 0, 1) := by decide +kernel
theorem dX11_init_141 : decode cX11_init 141 = .ok (.istore_n 1, 1) := by decide +kernel
theorem dX11_init_142 : decode cX11_init 142 = .ok (.iload_n 1, 1) := by decide +kernel
theorem dX11_init_143 : decode cX11_init 143 = .ok (.aload_n 0, 1) := by decide +kernel
theorem dX11_init_144 : decode cX11_init 144 = .ok (.getfield 24, 3) := by decide +kernel
theorem dX11_init_147 : decode cX11_init 147 = .ok (.arraylength, 1) := by decide +kernel
theorem dX11_init_148 : decode cX11_init 148 = .ok (.if_icmp .ge 31, 3) := by decide +kernel
theorem dX11_init_151 : decode cX11_init 151 = .ok (.aload_n 0, 1) := by decide +kernel
theorem dX11_init_152 : decode cX11_init 152 = .ok (.getfield 24, 3) := by decide +kernel
theorem dX11_init_155 : decode cX11_init 155 = .ok (.iload_n 1, 1) := by decide +kernel
theorem dX11_init_156 : decode cX11_init 156 = .ok (.new 22, 3) := by decide +kernel
theorem dX11_init_159 : decode cX11_init 159 = .ok (.dup, 1) := by decide +kernel
theorem dX11_init_160 : decode cX11_init 160 = .ok (.iload_n 1, 1) := by decide +kernel
theorem dX11_init_161 : decode cX11_init 161 = .ok (.ifCond .ne 7, 3) := by decide +kernel
theorem dX11_init_164 : decode cX11_init 164 = .ok (.iconst 1, 1) := by decide +kernel
theorem dX11_init_165 : decode cX11_init 165 = .ok (.goto 4, 3) := by decide +kernel
theorem dX11_init_168 : decode cX11_init 168 = .ok (.iconst 0, 1) := by decide +kernel
theorem dX11_init_169 : decode cX11_init 169 = .ok (.invokespecial 81, 3) := by decide +kernel
theorem dX11_init_172 : decode cX11_init 172 = .ok (.aastore, 1) := by decide +kernel
theorem dX11_init_173 : decode cX11_init 173 = .ok (.iinc 1 1, 3) := by decide +kernel
theorem dX11_init_176 : decode cX11_init 176 = .ok (.goto (-34), 3) := by decide +kernel
theorem dX11_init_179 : decode cX11_init 179 = .ok (.iconst 0, 1) := by decide +kernel
theorem dX11_init_180 : decode cX11_init 180 = .ok (.istore_n 1, 1) := by decide +kernel
theorem dX11_init_181 : decode cX11_init 181 = .ok (.iload_n 1, 1) := by decide +kernel
theorem dX11_init_182 : decode cX11_init 182 = .ok (.aload_n 0, 1) := by decide +kernel
theorem dX11_init_183 : decode cX11_init 183 = .ok (.getfield 30, 3) := by decide +kernel
theorem dX11_init_186 : decode cX11_init 186 = .ok (.arraylength, 1) := by decide +kernel
theorem dX11_init_187 : decode cX11_init 187 = .ok (.if_icmp .ge 22, 3) := by decide +kernel
theorem dX11_init_190 : decode cX11_init 190 = .ok (.aload_n 0, 1) := by decide +kernel
theorem dX11_init_191 : decode cX11_init 191 = .ok (.getfield 30, 3) := by decide +kernel
theorem dX11_init_194 : decode cX11_init 194 = .ok (.iload_n 1, 1) := by decide +kernel
theorem dX11_init_195 : decode cX11_init 195 = .ok (.new 28, 3) := by decide +kernel
theorem dX11_init_198 : decode cX11_init 198 = .ok (.dup, 1) := by decide +kernel
theorem dX11_init_199 : decode cX11_init 199 = .ok (.invokespecial 84, 3) := by decide +kernel
theorem dX11_init_202 : decode cX11_init 202 = .ok (.aastore, 1) := by decide +kernel
theorem dX11_init_203 : decode cX11_init 203 = .ok (.iinc 1 1, 3) := by decide +kernel
theorem dX11_init_206 : decode cX11_init 206 = .ok (.goto (-25), 3) := by decide +kernel
theorem dX11_init_209 : decode cX11_init 209 = .ok (.return_, 1) := by decide +kernel
theorem dX11_metal_0 : decode cX11_metal 0 = .ok (.aload_n 0, 1) := by decide +kernel
theorem dX11_metal_1 : decode cX11_metal 1 = .ok (.iload_n 1, 1) := by decide +kernel
theorem dX11_metal_2 : decode cX11_metal 2 = .ok (.invokevirtual 85, 3) := by decide +kernel
theorem dX11_metal_5 : decode cX11_metal 5 = .ok (.astore 7, 2) := by decide +kernel
theorem dX11_metal_7 : decode cX11_metal 7 = .ok (.aload 7, 2) := by decide +kernel
theorem dX11_metal_9 : decode cX11_metal 9 = .ok (.ifnonnull 6, 3) := by decide +kernel
theorem dX11_metal_12 : decode cX11_metal 12 = .ok (.bipush (-2), 2) := by decide +kernel
theorem dX11_metal_14 : decode cX11_metal 14 = .ok (.ireturn, 1) := by decide +kernel
theorem dX11_metal_15 : decode cX11_metal 15 = .ok (.iload_n 2, 1) := by decide +kernel
theorem dX11_metal_16 : decode cX11_metal 16 = .ok (.iconst 1, 1) := by decide +kernel
theorem dX11_metal_17 : decode cX11_metal 17 = .ok (.sipush 200, 3) := by decide +kernel
theorem dX11_metal_20 : decode cX11_metal 20 = .ok (.invokestatic 89, 3) := by decide +kernel
theorem dX11_metal_23 : decode cX11_metal 23 = .ok (.ifCond .eq 25, 3) := by decide +kernel
theorem dX11_metal_26 : decode cX11_metal 26 = .ok (.iload_n 3, 1) := by decide +kernel
theorem dX11_metal_27 : decode cX11_metal 27 = .ok (.iconst 0, 1) := by decide +kernel
theorem dX11_metal_28 : decode cX11_metal 28 = .ok (.sipush 300, 3) := by decide +kernel
theorem dX11_metal_31 : decode cX11_metal 31 = .ok (.invokestatic 89, 3) := by decide +kernel
theorem dX11_metal_34 : decode cX11_metal 34 = .ok (.ifCond .eq 14, 3) := by decide +kernel
theorem dX11_metal_37 : decode cX11_metal 37 = .ok (.iload 4, 2) := by decide +kernel
theorem dX11_metal_39 : decode cX11_metal 39 = .ok (.iconst 1, 1) := by decide +kernel
theorem dX11_metal_40 : decode cX11_metal 40 = .ok (.bipush 100, 2) := by decide +kernel
theorem dX11_metal_42 : decode cX11_metal 42 = .ok (.invokestatic 89, 3) := by decide +kernel
theorem dX11_metal_45 : decode cX11_metal 45 = .ok (.ifCond .ne 6, 3) := by decide +kernel
theorem dX11_metal_48 : decode cX11_metal 48 = .ok (.bipush (-3), 2) := by decide +kernel
theorem dX11_metal_50 : decode cX11_metal 50 = .ok (.ireturn, 1) := by decide +kernel
theorem dX11_metal_51 : decode cX11_metal 51 = .ok (.iload 5, 2) := by decide +kernel
theorem dX11_metal_53 : decode cX11_metal 53 = .ok (.iconst 0, 1) := by decide +kernel
theorem dX11_metal_54 : decode cX11_metal 54 = .ok (.bipush 50, 2) := by decide +kernel
theorem dX11_metal_56 : decode cX11_metal 56 = .ok (.invokestatic 89, 3) := by decide +kernel
theorem dX11_metal_59 : decode cX11_metal 59 = .ok (.ifCond .eq 14, 3) := by decide +kernel
theorem dX11_metal_62 : decode cX11_metal 62 = .ok (.iload 6, 2) := by decide +kernel
theorem dX11_metal_64 : decode cX11_metal 64 = .ok (.iconst 0, 1) := by decide +kernel
theorem dX11_metal_65 : decode cX11_metal 65 = .ok (.bipush 50, 2) := by decide +kernel
theorem dX11_metal_67 : decode cX11_metal 67 = .ok (.invokestatic 89, 3) := by decide +kernel
theorem dX11_metal_70 : decode cX11_metal 70 = .ok (.ifCond .ne 6, 3) := by decide +kernel
theorem dX11_metal_73 : decode cX11_metal 73 = .ok (.bipush (-3), 2) := by decide +kernel
theorem dX11_metal_75 : decode cX11_metal 75 = .ok (.ireturn, 1) := by decide +kernel
theorem dX11_metal_76 : decode cX11_metal 76 = .ok (.aload 7, 2) := by decide +kernel
theorem dX11_metal_78 : decode cX11_metal 78 = .ok (.iload_n 2, 1) := by decide +kernel
theorem dX11_metal_79 : decode cX11_metal 79 = .ok (.putfield 93, 3) := by decide +kernel
theorem dX11_metal_82 : decode cX11_metal 82 = .ok (.aload 7, 2) := by decide +kernel
theorem dX11_metal_84 : decode cX11_metal 84 = .ok (.iload_n 3, 1) := by decide +kernel
theorem dX11_metal_85 : decode cX11_metal 85 = .ok (.putfield 97, 3) := by decide +kernel
end
section
theorem dX11_metal_88 : decode cX11_metal 88 = .ok (.aload 7, 2) := by decide +kernel
theorem dX11_metal_90 : decode cX11_metal 90 = .ok (.iload 4, 2) := by decide +kernel
theorem dX11_metal_92 : decode cX11_metal 92 = .ok (.putfield 100, 3) := by decide +kernel
theorem dX11_metal_95 : decode cX11_metal 95 = .ok (.aload 7, 2) := by decide +kernel
theorem dX11_metal_97 : decode cX11_metal 97 = .ok (.iload 5, 2) := by decide +kernel
theorem dX11_metal_99 : decode cX11_metal 99 = .ok (.putfield 103, 3) := by decide +kernel
theorem dX11_metal_102 : decode cX11_metal 102 = .ok (.aload 7, 2) := by decide +kernel
theorem dX11_metal_104 : decode cX11_metal 104 = .ok (.iload 6, 2) := by decide +kernel
theorem dX11_metal_106 : decode cX11_metal 106 = .ok (.putfield 106, 3) := by decide +kernel
theorem dX11_metal_109 : decode cX11_metal 109 = .ok (.iconst 1, 1) := by decide +kernel
theorem dX11_metal_110 : decode cX11_metal 110 = .ok (.ireturn, 1) := by decide +kernel
theorem dX11_set_0 : decode cX11_set 0 = .ok (.aload_n 0, 1) := by decide +kernel
theorem dX11_set_1 : decode cX11_set 1 = .ok (.getfield 10, 3) := by decide +kernel
theorem dX11_set_4 : decode cX11_set 4 = .ok (.iload_n 1, 1) := by decide +kernel
theorem dX11_set_5 : decode cX11_set 5 = .ok (.iload_n 2, 1) := by decide +kernel
theorem dX11_set_6 : decode cX11_set 6 = .ok (.invokevirtual 109, 3) := by decide +kernel
theorem dX11_set_9 : decode cX11_set 9 = .ok (.ifCond .ne 6, 3) := by decide +kernel
theorem dX11_set_12 : decode cX11_set 12 = .ok (.bipush (-3), 2) := by decide +kernel
theorem dX11_set_14 : decode cX11_set 14 = .ok (.ireturn, 1) := by decide +kernel
theorem dX11_set_15 : decode cX11_set 15 = .ok (.aload_n 0, 1) := by decide +kernel
theorem dX11_set_16 : decode cX11_set 16 = .ok (.getfield 10, 3) := by decide +kernel
theorem dX11_set_19 : decode cX11_set 19 = .ok (.iload_n 1, 1) := by decide +kernel
theorem dX11_set_20 : decode cX11_set 20 = .ok (.invokevirtual 113, 3) := by decide +kernel
theorem dX11_set_23 : decode cX11_set 23 = .ok (.istore_n 3, 1) := by decide +kernel
theorem dX11_set_24 : decode cX11_set 24 = .ok (.aload_n 0, 1) := by decide +kernel
theorem dX11_set_25 : decode cX11_set 25 = .ok (.getfield 10, 3) := by decide +kernel
theorem dX11_set_28 : decode cX11_set 28 = .ok (.iload_n 1, 1) := by decide +kernel
theorem dX11_set_29 : decode cX11_set 29 = .ok (.iload_n 2, 1) := by decide +kernel
theorem dX11_set_30 : decode cX11_set 30 = .ok (.invokevirtual 117, 3) := by decide +kernel
theorem dX11_set_33 : decode cX11_set 33 = .ok (.iload_n 3, 1) := by decide +kernel
theorem dX11_set_34 : decode cX11_set 34 = .ok (.ireturn, 1) := by decide +kernel
theorem dX11_puller_0 : decode cX11_puller 0 = .ok (.aload_n 0, 1) := by decide +kernel
theorem dX11_puller_1 : decode cX11_puller 1 = .ok (.iload_n 1, 1) := by decide +kernel
theorem dX11_puller_2 : decode cX11_puller 2 = .ok (.invokevirtual 121, 3) := by decide +kernel
theorem dX11_puller_5 : decode cX11_puller 5 = .ok (.astore 4, 2) := by decide +kernel
theorem dX11_puller_7 : decode cX11_puller 7 = .ok (.aload 4, 2) := by decide +kernel
theorem dX11_puller_9 : decode cX11_puller 9 = .ok (.ifnonnull 6, 3) := by decide +kernel
theorem dX11_puller_12 : decode cX11_puller 12 = .ok (.bipush (-2), 2) := by decide +kernel
theorem dX11_puller_14 : decode cX11_puller 14 = .ok (.ireturn, 1) := by decide +kernel
theorem dX11_puller_15 : decode cX11_puller 15 = .ok (.iload_n 2, 1) := by decide +kernel
theorem dX11_puller_16 : decode cX11_puller 16 = .ok (.iconst 0, 1) := by decide +kernel
theorem dX11_puller_17 : decode cX11_puller 17 = .ok (.ldc 125, 2) := by decide +kernel
theorem dX11_puller_19 : decode cX11_puller 19 = .ok (.invokestatic 89, 3) := by decide +kernel
theorem dX11_puller_22 : decode cX11_puller 22 = .ok (.ifCond .eq 15, 3) := by decide +kernel
theorem dX11_puller_25 : decode cX11_puller 25 = .ok (.iload_n 3, 1) := by decide +kernel
theorem dX11_puller_26 : decode cX11_puller 26 = .ok (.bipush 10, 2) := by decide +kernel
theorem dX11_puller_28 : decode cX11_puller 28 = .ok (.sipush 1000, 3) := by decide +kernel
theorem dX11_puller_31 : decode cX11_puller 31 = .ok (.invokestatic 89, 3) := by decide +kernel
theorem dX11_puller_34 : decode cX11_puller 34 = .ok (.ifCond .ne 6, 3) := by decide +kernel
theorem dX11_puller_37 : decode cX11_puller 37 = .ok (.bipush (-3), 2) := by decide +kernel
theorem dX11_puller_39 : decode cX11_puller 39 = .ok (.ireturn, 1) := by decide +kernel
theorem dX11_puller_40 : decode cX11_puller 40 = .ok (.aload 4, 2) := by decide +kernel
theorem dX11_puller_42 : decode cX11_puller 42 = .ok (.iload_n 2, 1) := by decide +kernel
theorem dX11_puller_43 : decode cX11_puller 43 = .ok (.putfield 126, 3) := by decide +kernel
theorem dX11_puller_46 : decode cX11_puller 46 = .ok (.aload 4, 2) := by decide +kernel
theorem dX11_puller_48 : decode cX11_puller 48 = .ok (.iload_n 3, 1) := by decide +kernel
theorem dX11_puller_49 : decode cX11_puller 49 = .ok (.putfield 129, 3) := by decide +kernel
theorem dX11_puller_52 : decode cX11_puller 52 = .ok (.iconst 1, 1) := by decide +kernel
theorem dX11_puller_53 : decode cX11_puller 53 = .ok (.ireturn, 1) := by decide +kernel
theorem dX11_hole_0 : decode cX11_hole 0 = .ok (.aload_n 0, 1) := by decide +kernel
theorem dX11_hole_1 : decode cX11_hole 1 = .ok (.iload_n 1, 1) := by decide +kernel
theorem dX11_hole_2 : decode cX11_hole 2 = .ok (.invokevirtual 132, 3) := by decide +kernel
theorem dX11_hole_5 : decode cX11_hole 5 = .ok (.astore_n 3, 1) := by decide +kernel
theorem dX11_hole_6 : decode cX11_hole 6 = .ok (.aload_n 3, 1) := by decide +kernel
theorem dX11_hole_7 : decode cX11_hole 7 = .ok (.ifnonnull 6, 3) := by decide +kernel
theorem dX11_hole_10 : decode cX11_hole 10 = .ok (.bipush (-2), 2) := by decide +kernel
theorem dX11_hole_12 : decode cX11_hole 12 = .ok (.ireturn, 1) := by decide +kernel
theorem dX11_hole_13 : decode cX11_hole 13 = .ok (.iload_n 2, 1) := by decide +kernel
theorem dX11_hole_14 : decode cX11_hole 14 = .ok (.invokestatic 136, 3) := by decide +kernel
theorem dX11_hole_17 : decode cX11_hole 17 = .ok (.ifCond .ne 6, 3) := by decide +kernel
theorem dX11_hole_20 : decode cX11_hole 20 = .ok (.bipush (-3), 2) := by decide +kernel
theorem dX11_hole_22 : decode cX11_hole 22 = .ok (.ireturn, 1) := by decide +kernel
theorem dX11_hole_23 : decode cX11_hole 23 = .ok (.aload_n 3, 1) := by decide +kernel
theorem dX11_hole_24 : decode cX11_hole 24 = .ok (.iload_n 2, 1) := by decide +kernel
theorem dX11_hole_25 : decode cX11_hole 25 = .ok (.invokevirtual 140, 3) := by decide +kernel
theorem dX11_hole_28 : decode cX11_hole 28 = .ok (.ireturn, 1) := by decide +kernel
theorem dX11_told_0 : decode cX11_told 0 = .ok (.aload_n 0, 1) := by decide +kernel
theorem dX11_told_1 : decode cX11_told 1 = .ok (.iload_n 1, 1) := by decide +kernel
theorem dX11_told_2 : decode cX11_told 2 = .ok (.iload_n 2, 1) := by decide +kernel
theorem dX11_told_3 : decode cX11_told 3 = .ok (.invokevirtual 143, 3) := by decide +kernel
theorem dX11_told_6 : decode cX11_told 6 = .ok (.astore 4, 2) := by decide +kernel
theorem dX11_told_8 : decode cX11_told 8 = .ok (.aload 4, 2) := by decide +kernel
theorem dX11_told_10 : decode cX11_told 10 = .ok (.ifnonnull 6, 3) := by decide +kernel
theorem dX11_told_13 : decode cX11_told 13 = .ok (.bipush (-2), 2) := by decide +kernel
theorem dX11_told_15 : decode cX11_told 15 = .ok (.ireturn, 1) := by decide +kernel
theorem dX11_told_16 : decode cX11_told 16 = .ok (.iload_n 3, 1) := by decide +kernel
theorem dX11_told_17 : decode cX11_told 17 = .ok (.tableswitch 73 0 4 #[35, 41, 47, 53, 59], 35) := by decide +kernel
theorem dX11_told_52 : decode cX11_told 52 = .ok (.aload 4, 2) := by decide +kernel
theorem dX11_told_54 : decode cX11_told 54 = .ok (.getfield 147, 3) := by decide +kernel
theorem dX11_told_57 : decode cX11_told 57 = .ok (.ireturn, 1) := by decide +kernel
theorem dX11_told_58 : decode cX11_told 58 = .ok (.aload 4, 2) := by decide +kernel
theorem dX11_told_60 : decode cX11_told 60 = .ok (.getfield 152, 3) := by decide +kernel
theorem dX11_told_63 : decode cX11_told 63 = .ok (.ireturn, 1) := by decide +kernel
theorem dX11_told_64 : decode cX11_told 64 = .ok (.aload 4, 2) := by decide +kernel
theorem dX11_told_66 : decode cX11_told 66 = .ok (.invokevirtual 155, 3) := by decide +kernel
theorem dX11_told_69 : decode cX11_told 69 = .ok (.ireturn, 1) := by decide +kernel
theorem dX11_told_70 : decode cX11_told 70 = .ok (.aload 4, 2) := by decide +kernel
theorem dX11_told_72 : decode cX11_told 72 = .ok (.getfield 159, 3) := by decide +kernel
theorem dX11_told_75 : decode cX11_told 75 = .ok (.ireturn, 1) := by decide +kernel
theorem dX11_told_76 : decode cX11_told 76 = .ok (.aload 4, 2) := by decide +kernel
theorem dX11_told_78 : decode cX11_told 78 = .ok (.invokevirtual 162, 3) := by decide +kernel
theorem dX11_told_81 : decode cX11_told 81 = .ok (.ifCond .eq 7, 3) := by decide +kernel
theorem dX11_told_84 : decode cX11_told 84 = .ok (.iconst 1, 1) := by decide +kernel
theorem dX11_told_85 : decode cX11_told 85 = .ok (.goto 4, 3) := by decide +kernel
theorem dX11_told_88 : decode cX11_told 88 = .ok (.iconst 0, 1) := by decide +kernel
theorem dX11_told_89 : decode cX11_told 89 = .ok (.ireturn, 1) := by decide +kernel
theorem dX11_told_90 : decode cX11_told 90 = .ok (.bipush (-3), 2) := by decide +kernel
theorem dX11_told_92 : decode cX11_told 92 = .ok (.ireturn, 1) := by decide +kernel
theorem dX11_gauge_0 : decode cX11_gauge 0 = .ok (.aload_n 0, 1) := by decide +kernel
theorem dX11_gauge_1 : decode cX11_gauge 1 = .ok (.iload_n 1, 1) := by decide +kernel
theorem dX11_gauge_2 : decode cX11_gauge 2 = .ok (.iload_n 2, 1) := by decide +kernel
theorem dX11_gauge_3 : decode cX11_gauge 3 = .ok (.invokevirtual 143, 3) := by decide +kernel
theorem dX11_gauge_6 : decode cX11_gauge 6 = .ok (.astore_n 3, 1) := by decide +kernel
theorem dX11_gauge_7 : decode cX11_gauge 7 = .ok (.aload_n 3, 1) := by decide +kernel
theorem dX11_gauge_8 : decode cX11_gauge 8 = .ok (.ifnonnull 8, 3) := by decide +kernel
theorem dX11_gauge_11 : decode cX11_gauge 11 = .ok (.bipush (-2), 2) := by decide +kernel
theorem dX11_gauge_13 : decode cX11_gauge 13 = .ok (.goto 12, 3) := by decide +kernel
theorem dX11_gauge_16 : decode cX11_gauge 16 = .ok (.aload_n 3, 1) := by decide +kernel
theorem dX11_gauge_17 : decode cX11_gauge 17 = .ok (.invokevirtual 155, 3) := by decide +kernel
theorem dX11_gauge_20 : decode cX11_gauge 20 = .ok (.aload_n 3, 1) := by decide +kernel
theorem dX11_gauge_21 : decode cX11_gauge 21 = .ok (.getfield 147, 3) := by decide +kernel
theorem dX11_gauge_24 : decode cX11_gauge 24 = .ok (.isub, 1) := by decide +kernel
theorem dX11_gauge_25 : decode cX11_gauge 25 = .ok (.ireturn, 1) := by decide +kernel
theorem dX11_ream_0 : decode cX11_ream 0 = .ok (.aload_n 0, 1) := by decide +kernel
theorem dX11_ream_1 : decode cX11_ream 1 = .ok (.iload_n 1, 1) := by decide +kernel
theorem dX11_ream_2 : decode cX11_ream 2 = .ok (.iload_n 2, 1) := by decide +kernel
theorem dX11_ream_3 : decode cX11_ream 3 = .ok (.invokevirtual 143, 3) := by decide +kernel
theorem dX11_ream_6 : decode cX11_ream 6 = .ok (.astore 4, 2) := by decide +kernel
theorem dX11_ream_8 : decode cX11_ream 8 = .ok (.aload 4, 2) := by decide +kernel
theorem dX11_ream_10 : decode cX11_ream 10 = .ok (.ifnonnull 6, 3) := by decide +kernel
theorem dX11_ream_13 : decode cX11_ream 13 = .ok (.bipush (-2), 2) := by decide +kernel
theorem dX11_ream_15 : decode cX11_ream 15 = .ok (.ireturn, 1) := by decide +kernel
theorem dX11_ream_16 : decode cX11_ream 16 = .ok (.iload_n 3, 1) := by decide +kernel
theorem dX11_ream_17 : decode cX11_ream 17 = .ok (.iconst 1, 1) := by decide +kernel
theorem dX11_ream_18 : decode cX11_ream 18 = .ok (.bipush 50, 2) := by decide +kernel
theorem dX11_ream_20 : decode cX11_ream 20 = .ok (.invokestatic 89, 3) := by decide +kernel
theorem dX11_ream_23 : decode cX11_ream 23 = .ok (.ifCond .ne 6, 3) := by decide +kernel
theorem dX11_ream_26 : decode cX11_ream 26 = .ok (.bipush (-3), 2) := by decide +kernel
theorem dX11_ream_28 : decode cX11_ream 28 = .ok (.ireturn, 1) := by decide +kernel
theorem dX11_ream_29 : decode cX11_ream 29 = .ok (.aload 4, 2) := by decide +kernel
theorem dX11_ream_31 : decode cX11_ream 31 = .ok (.invokevirtual 155, 3) := by decide +kernel
theorem dX11_ream_34 : decode cX11_ream 34 = .ok (.iload_n 3, 1) := by decide +kernel
theorem dX11_ream_35 : decode cX11_ream 35 = .ok (.iadd, 1) := by decide +kernel
theorem dX11_ream_36 : decode cX11_ream 36 = .ok (.istore 5, 2) := by decide +kernel
theorem dX11_ream_38 : decode cX11_ream 38 = .ok (.aload 4, 2) := by decide +kernel
theorem dX11_ream_40 : decode cX11_ream 40 = .ok (.getfield 159, 3) := by decide +kernel
theorem dX11_ream_43 : decode cX11_ream 43 = .ok (.iconst 2, 1) := by decide +kernel
theorem dX11_ream_44 : decode cX11_ream 44 = .ok (.if_icmp .ge 11, 3) := by decide +kernel
theorem dX11_ream_47 : decode cX11_ream 47 = .ok (.iload 5, 2) := by decide +kernel
theorem dX11_ream_49 : decode cX11_ream 49 = .ok (.sipush 1000, 3) := by decide +kernel
theorem dX11_ream_52 : decode cX11_ream 52 = .ok (.if_icmp .le 6, 3) := by decide +kernel
theorem dX11_ream_55 : decode cX11_ream 55 = .ok (.bipush (-4), 2) := by decide +kernel
theorem dX11_ream_57 : decode cX11_ream 57 = .ok (.ireturn, 1) := by decide +kernel
theorem dX11_ream_58 : decode cX11_ream 58 = .ok (.aload 4, 2) := by decide +kernel
theorem dX11_ream_60 : decode cX11_ream 60 = .ok (.iload 5, 2) := by decide +kernel
theorem dX11_ream_62 : decode cX11_ream 62 = .ok (.putfield 147, 3) := by decide +kernel
theorem dX11_ream_65 : decode cX11_ream 65 = .ok (.aload 4, 2) := by decide +kernel
theorem dX11_ream_67 : decode cX11_ream 67 = .ok (.iconst 0, 1) := by decide +kernel
theorem dX11_ream_68 : decode cX11_ream 68 = .ok (.putfield 152, 3) := by decide +kernel
theorem dX11_ream_71 : decode cX11_ream 71 = .ok (.aload 4, 2) := by decide +kernel
theorem dX11_ream_73 : decode cX11_ream 73 = .ok (.dup, 1) := by decide +kernel
theorem dX11_ream_74 : decode cX11_ream 74 = .ok (.getfield 159, 3) := by decide +kernel
theorem dX11_ream_77 : decode cX11_ream 77 = .ok (.iconst 1, 1) := by decide +kernel
theorem dX11_ream_78 : decode cX11_ream 78 = .ok (.iadd, 1) := by decide +kernel
theorem dX11_ream_79 : decode cX11_ream 79 = .ok (.putfield 159, 3) := by decide +kernel
theorem dX11_ream_82 : decode cX11_ream 82 = .ok (.iload 5, 2) := by decide +kernel
theorem dX11_ream_84 : decode cX11_ream 84 = .ok (.ireturn, 1) := by decide +kernel
theorem dX11_coil_0 : decode cX11_coil 0 = .ok (.aload_n 0, 1) := by decide +kernel
theorem dX11_coil_1 : decode cX11_coil 1 = .ok (.iload_n 1, 1) := by decide +kernel
theorem dX11_coil_2 : decode cX11_coil 2 = .ok (.invokevirtual 85, 3) := by decide +kernel
theorem dX11_coil_5 : decode cX11_coil 5 = .ok (.astore 5, 2) := by decide +kernel
theorem dX11_coil_7 : decode cX11_coil 7 = .ok (.aload 5, 2) := by decide +kernel
theorem dX11_coil_9 : decode cX11_coil 9 = .ok (.ifnonnull 6, 3) := by decide +kernel
theorem dX11_coil_12 : decode cX11_coil 12 = .ok (.bipush (-2), 2) := by decide +kernel
theorem dX11_coil_14 : decode cX11_coil 14 = .ok (.ireturn, 1) := by decide +kernel
theorem dX11_coil_15 : decode cX11_coil 15 = .ok (.iload_n 2, 1) := by decide +kernel
theorem dX11_coil_16 : decode cX11_coil 16 = .ok (.invokestatic 136, 3) := by decide +kernel
theorem dX11_coil_19 : decode cX11_coil 19 = .ok (.ifCond .eq 14, 3) := by decide +kernel
theorem dX11_coil_22 : decode cX11_coil 22 = .ok (.iload_n 3, 1) := by decide +kernel
theorem dX11_coil_23 : decode cX11_coil 23 = .ok (.iconst 1, 1) := by decide +kernel
theorem dX11_coil_24 : decode cX11_coil 24 = .ok (.sipush 1000, 3) := by decide +kernel
theorem dX11_coil_27 : decode cX11_coil 27 = .ok (.invokestatic 89, 3) := by decide +kernel
theorem dX11_coil_30 : decode cX11_coil 30 = .ok (.ifCond .ne 6, 3) := by decide +kernel
theorem dX11_coil_33 : decode cX11_coil 33 = .ok (.bipush (-3), 2) := by decide +kernel
theorem dX11_coil_35 : decode cX11_coil 35 = .ok (.ireturn, 1) := by decide +kernel
theorem dX11_coil_36 : decode cX11_coil 36 = .ok (.aload_n 0, 1) := by decide +kernel
theorem dX11_coil_37 : decode cX11_coil 37 = .ok (.getfield 166, 3) := by decide +kernel
theorem dX11_coil_40 : decode cX11_coil 40 = .ok (.aload_n 0, 1) := by decide +kernel
theorem dX11_coil_41 : decode cX11_coil 41 = .ok (.getfield 36, 3) := by decide +kernel
theorem dX11_coil_44 : decode cX11_coil 44 = .ok (.arraylength, 1) := by decide +kernel
theorem dX11_coil_45 : decode cX11_coil 45 = .ok (.if_icmp .lt 6, 3) := by decide +kernel
theorem dX11_coil_48 : decode cX11_coil 48 = .ok (.bipush (-8), 2) := by decide +kernel
theorem dX11_coil_50 : decode cX11_coil 50 = .ok (.ireturn, 1) := by decide +kernel
theorem dX11_coil_51 : decode cX11_coil 51 = .ok (.new 34, 3) := by decide +kernel
theorem dX11_coil_54 : decode cX11_coil 54 = .ok (.dup, 1) := by decide +kernel
theorem dX11_coil_55 : decode cX11_coil 55 = .ok (.aload 5, 2) := by decide +kernel
theorem dX11_coil_57 : decode cX11_coil 57 = .ok (.iload_n 2, 1) := by decide +kernel
theorem dX11_coil_58 : decode cX11_coil 58 = .ok (.iload_n 2, 1) := by decide +kernel
theorem dX11_coil_59 : decode cX11_coil 59 = .ok (.i2l, 1) := by decide +kernel
theorem dX11_coil_60 : decode cX11_coil 60 = .ok (.iload_n 2, 1) := by decide +kernel
theorem dX11_coil_61 : decode cX11_coil 61 = .ok (.i2l, 1) := by decide +kernel
theorem dX11_coil_62 : decode cX11_coil 62 = .ok (.lmul, 1) := by decide +kernel
theorem dX11_coil_63 : decode cX11_coil 63 = .ok (.iload_n 3, 1) := by decide +kernel
theorem dX11_coil_64 : decode cX11_coil 64 = .ok (.i2l, 1) := by decide +kernel
theorem dX11_coil_65 : decode cX11_coil 65 = .ok (.lmul, 1) := by decide +kernel
theorem dX11_coil_66 : decode cX11_coil 66 = .ok (.iload 4, 2) := by decide +kernel
theorem dX11_coil_68 : decode cX11_coil 68 = .ok (.invokespecial 169, 3) := by decide +kernel
theorem dX11_coil_71 : decode cX11_coil 71 = .ok (.astore 6, 2) := by decide +kernel
theorem dX11_coil_73 : decode cX11_coil 73 = .ok (.aload_n 0, 1) := by decide +kernel
theorem dX11_coil_74 : decode cX11_coil 74 = .ok (.dup, 1) := by decide +kernel
theorem dX11_coil_75 : decode cX11_coil 75 = .ok (.getfield 172, 3) := by decide +kernel
theorem dX11_coil_78 : decode cX11_coil 78 = .ok (.aload 6, 2) := by decide +kernel
theorem dX11_coil_80 : decode cX11_coil 80 = .ok (.getfield 176, 3) := by decide +kernel
theorem dX11_coil_83 : decode cX11_coil 83 = .ok (.ladd, 1) := by decide +kernel
theorem dX11_coil_84 : decode cX11_coil 84 = .ok (.putfield 172, 3) := by decide +kernel
theorem dX11_coil_87 : decode cX11_coil 87 = .ok (.aload_n 0, 1) := by decide +kernel
theorem dX11_coil_88 : decode cX11_coil 88 = .ok (.aload 6, 2) := by decide +kernel
theorem dX11_coil_90 : decode cX11_coil 90 = .ok (.invokevirtual 179, 3) := by decide +kernel
theorem dX11_coil_93 : decode cX11_coil 93 = .ok (.ireturn, 1) := by decide +kernel
theorem dX11_at_0 : decode cX11_at 0 = .ok (.aload_n 0, 1) := by decide +kernel
theorem dX11_at_1 : decode cX11_at 1 = .ok (.iload_n 1, 1) := by decide +kernel
theorem dX11_at_2 : decode cX11_at 2 = .ok (.invokevirtual 183, 3) := by decide +kernel
theorem dX11_at_5 : decode cX11_at 5 = .ok (.astore_n 3, 1) := by decide +kernel
theorem dX11_at_6 : decode cX11_at 6 = .ok (.aload_n 3, 1) := by decide +kernel
theorem dX11_at_7 : decode cX11_at 7 = .ok (.ifnonnull 6, 3) := by decide +kernel
theorem dX11_at_10 : decode cX11_at 10 = .ok (.bipush (-2), 2) := by decide +kernel
theorem dX11_at_12 : decode cX11_at 12 = .ok (.ireturn, 1) := by decide +kernel
theorem dX11_at_13 : decode cX11_at 13 = .ok (.iload_n 2, 1) := by decide +kernel
theorem dX11_at_14 : decode cX11_at 14 = .ok (.tableswitch 88 0 6 #[42, 50, 55, 60, 65, 70, 75], 42) := by decide +kernel
theorem dX11_at_56 : decode cX11_at 56 = .ok (.aload_n 3, 1) := by decide +kernel
theorem dX11_at_57 : decode cX11_at 57 = .ok (.getfield 187, 3) := by decide +kernel
theorem dX11_at_60 : decode cX11_at 60 = .ok (.getfield 191, 3) := by decide +kernel
theorem dX11_at_63 : decode cX11_at 63 = .ok (.ireturn, 1) := by decide +kernel
theorem dX11_at_64 : decode cX11_at 64 = .ok (.aload_n 3, 1) := by decide +kernel
theorem dX11_at_65 : decode cX11_at 65 = .ok (.getfield 194, 3) := by decide +kernel
theorem dX11_at_68 : decode cX11_at 68 = .ok (.ireturn, 1) := by decide +kernel
theorem dX11_at_69 : decode cX11_at 69 = .ok (.aload_n 3, 1) := by decide +kernel
theorem dX11_at_70 : decode cX11_at 70 = .ok (.getfield 197, 3) := by decide +kernel
theorem dX11_at_73 : decode cX11_at 73 = .ok (.ireturn, 1) := by decide +kernel
theorem dX11_at_74 : decode cX11_at 74 = .ok (.aload_n 3, 1) := by decide +kernel
theorem dX11_at_75 : decode cX11_at 75 = .ok (.invokevirtual 200, 3) := by decide +kernel
theorem dX11_at_78 : decode cX11_at 78 = .ok (.ireturn, 1) := by decide +kernel
theorem dX11_at_79 : decode cX11_at 79 = .ok (.aload_n 3, 1) := by decide +kernel
theorem dX11_at_80 : decode cX11_at 80 = .ok (.getfield 203, 3) := by decide +kernel
theorem dX11_at_83 : decode cX11_at 83 = .ok (.ireturn, 1) := by decide +kernel
theorem dX11_at_84 : decode cX11_at 84 = .ok (.aload_n 3, 1) := by decide +kernel
theorem dX11_at_85 : decode cX11_at 85 = .ok (.getfield 206, 3) := by decide +kernel
theorem dX11_at_88 : decode cX11_at 88 = .ok (.ireturn, 1) := by decide +kernel
theorem dX11_at_89 : decode cX11_at 89 = .ok (.aload_n 3, 1) := by decide +kernel
theorem dX11_at_90 : decode cX11_at 90 = .ok (.getfield 209, 3) := by decide +kernel
theorem dX11_at_93 : decode cX11_at 93 = .ok (.ifCond .eq 7, 3) := by decide +kernel
theorem dX11_at_96 : decode cX11_at 96 = .ok (.iconst 1, 1) := by decide +kernel
theorem dX11_at_97 : decode cX11_at 97 = .ok (.goto 4, 3) := by decide +kernel
theorem dX11_at_100 : decode cX11_at 100 = .ok (.iconst 0, 1) := by decide +kernel
theorem dX11_at_101 : decode cX11_at 101 = .ok (.ireturn, 1) := by decide +kernel
theorem dX11_at_102 : decode cX11_at 102 = .ok (.bipush (-3), 2) := by decide +kernel
theorem dX11_at_104 : decode cX11_at 104 = .ok (.ireturn, 1) := by decide +kernel
theorem dX11_stuff_0 : decode cX11_stuff 0 = .ok (.aload_n 0, 1) := by decide +kernel
theorem dX11_stuff_1 : decode cX11_stuff 1 = .ok (.iload_n 1, 1) := by decide +kernel
theorem dX11_stuff_2 : decode cX11_stuff 2 = .ok (.invokevirtual 183, 3) := by decide +kernel
theorem dX11_stuff_5 : decode cX11_stuff 5 = .ok (.astore_n 2, 1) := by decide +kernel
theorem dX11_stuff_6 : decode cX11_stuff 6 = .ok (.aload_n 2, 1) := by decide +kernel
theorem dX11_stuff_7 : decode cX11_stuff 7 = .ok (.ifnonnull 9, 3) := by decide +kernel
theorem dX11_stuff_10 : decode cX11_stuff 10 = .ok (.ldc2_w 213, 3) := by decide +kernel
theorem dX11_stuff_13 : decode cX11_stuff 13 = .ok (.goto 7, 3) := by decide +kernel
theorem dX11_stuff_16 : decode cX11_stuff 16 = .ok (.aload_n 2, 1) := by decide +kernel
theorem dX11_stuff_17 : decode cX11_stuff 17 = .ok (.getfield 176, 3) := by decide +kernel
theorem dX11_stuff_20 : decode cX11_stuff 20 = .ok (.lreturn, 1) := by decide +kernel
theorem dX11_asks_0 : decode cX11_asks 0 = .ok (.aload_n 0, 1) := by decide +kernel
theorem dX11_asks_1 : decode cX11_asks 1 = .ok (.iload_n 1, 1) := by decide +kernel
theorem dX11_asks_2 : decode cX11_asks 2 = .ok (.invokevirtual 183, 3) := by decide +kernel
theorem dX11_asks_5 : decode cX11_asks 5 = .ok (.astore 5, 2) := by decide +kernel
theorem dX11_asks_7 : decode cX11_asks 7 = .ok (.aload_n 0, 1) := by decide +kernel
theorem dX11_asks_8 : decode cX11_asks 8 = .ok (.iload_n 2, 1) := by decide +kernel
theorem dX11_asks_9 : decode cX11_asks 9 = .ok (.iload_n 3, 1) := by decide +kernel
theorem dX11_asks_10 : decode cX11_asks 10 = .ok (.invokevirtual 143, 3) := by decide +kernel
theorem dX11_asks_13 : decode cX11_asks 13 = .ok (.astore 6, 2) := by decide +kernel
theorem dX11_asks_15 : decode cX11_asks 15 = .ok (.aload 5, 2) := by decide +kernel
theorem dX11_asks_17 : decode cX11_asks 17 = .ok (.ifnull 8, 3) := by decide +kernel
theorem dX11_asks_20 : decode cX11_asks 20 = .ok (.aload 6, 2) := by decide +kernel
theorem dX11_asks_22 : decode cX11_asks 22 = .ok (.ifnonnull 6, 3) := by decide +kernel
theorem dX11_asks_25 : decode cX11_asks 25 = .ok (.bipush (-2), 2) := by decide +kernel
theorem dX11_asks_27 : decode cX11_asks 27 = .ok (.ireturn, 1) := by decide +kernel
theorem dX11_asks_28 : decode cX11_asks 28 = .ok (.iload 4, 2) := by decide +kernel
theorem dX11_asks_30 : decode cX11_asks 30 = .ok (.iconst 0, 1) := by decide +kernel
theorem dX11_asks_31 : decode cX11_asks 31 = .ok (.iconst 3, 1) := by decide +kernel
theorem dX11_asks_32 : decode cX11_asks 32 = .ok (.invokestatic 89, 3) := by decide +kernel
theorem dX11_asks_35 : decode cX11_asks 35 = .ok (.ifCond .ne 6, 3) := by decide +kernel
theorem dX11_asks_38 : decode cX11_asks 38 = .ok (.bipush (-3), 2) := by decide +kernel
theorem dX11_asks_40 : decode cX11_asks 40 = .ok (.ireturn, 1) := by decide +kernel
theorem dX11_asks_41 : decode cX11_asks 41 = .ok (.aload 6, 2) := by decide +kernel
theorem dX11_asks_43 : decode cX11_asks 43 = .ok (.invokevirtual 155, 3) := by decide +kernel
theorem dX11_asks_46 : decode cX11_asks 46 = .ok (.aload 5, 2) := by decide +kernel
theorem dX11_asks_48 : decode cX11_asks 48 = .ok (.getfield 194, 3) := by decide +kernel
theorem dX11_asks_51 : decode cX11_asks 51 = .ok (.if_icmp .lt 6, 3) := by decide +kernel
theorem dX11_asks_54 : decode cX11_asks 54 = .ok (.bipush (-4), 2) := by decide +kernel
theorem dX11_asks_56 : decode cX11_asks 56 = .ok (.ireturn, 1) := by decide +kernel
theorem dX11_asks_57 : decode cX11_asks 57 = .ok (.aload_n 0, 1) := by decide +kernel
theorem dX11_asks_58 : decode cX11_asks 58 = .ok (.getfield 58, 3) := by decide +kernel
theorem dX11_asks_61 : decode cX11_asks 61 = .ok (.aload 5, 2) := by decide +kernel
theorem dX11_asks_63 : decode cX11_asks 63 = .ok (.aload 5, 2) := by decide +kernel
theorem dX11_asks_65 : decode cX11_asks 65 = .ok (.getfield 194, 3) := by decide +kernel
theorem dX11_asks_68 : decode cX11_asks 68 = .ok (.aload 5, 2) := by decide +kernel
theorem dX11_asks_70 : decode cX11_asks 70 = .ok (.getfield 197, 3) := by decide +kernel
theorem dX11_asks_73 : decode cX11_asks 73 = .ok (.aload 6, 2) := by decide +kernel
theorem dX11_asks_75 : decode cX11_asks 75 = .ok (.invokevirtual 155, 3) := by decide +kernel
theorem dX11_asks_78 : decode cX11_asks 78 = .ok (.invokevirtual 215, 3) := by decide +kernel
theorem dX11_asks_81 : decode cX11_asks 81 = .ok (.iload 4, 2) := by decide +kernel
theorem dX11_asks_83 : decode cX11_asks 83 = .ok (.tableswitch 49 0 2 #[25, 33, 41], 25) := by decide +kernel
theorem dX11_asks_108 : decode cX11_asks 108 = .ok (.aload_n 0, 1) := by decide +kernel
theorem dX11_asks_109 : decode cX11_asks 109 = .ok (.getfield 58, 3) := by decide +kernel
theorem dX11_asks_112 : decode cX11_asks 112 = .ok (.getfield 219, 3) := by decide +kernel
theorem dX11_asks_115 : decode cX11_asks 115 = .ok (.ireturn, 1) := by decide +kernel
theorem dX11_asks_116 : decode cX11_asks 116 = .ok (.aload_n 0, 1) := by decide +kernel
theorem dX11_asks_117 : decode cX11_asks 117 = .ok (.getfield 58, 3) := by decide +kernel
theorem dX11_asks_120 : decode cX11_asks 120 = .ok (.getfield 222, 3) := by decide +kernel
theorem dX11_asks_123 : decode cX11_asks 123 = .ok (.ireturn, 1) := by decide +kernel
theorem dX11_asks_124 : decode cX11_asks 124 = .ok (.aload_n 0, 1) := by decide +kernel
theorem dX11_asks_125 : decode cX11_asks 125 = .ok (.getfield 58, 3) := by decide +kernel
theorem dX11_asks_128 : decode cX11_asks 128 = .ok (.getfield 225, 3) := by decide +kernel
theorem dX11_asks_131 : decode cX11_asks 131 = .ok (.ireturn, 1) := by decide +kernel
theorem dX11_asks_132 : decode cX11_asks 132 = .ok (.aload_n 0, 1) := by decide +kernel
theorem dX11_asks_133 : decode cX11_asks 133 = .ok (.getfield 58, 3) := by decide +kernel
theorem dX11_asks_136 : decode cX11_asks 136 = .ok (.getfield 228, 3) := by decide +kernel
theorem dX11_asks_139 : decode cX11_asks 139 = .ok (.ireturn, 1) := by decide +kernel
theorem dX11_draw_0 : decode cX11_draw 0 = .ok (.aload_n 0, 1) := by decide +kernel
theorem dX11_draw_1 : decode cX11_draw 1 = .ok (.iload_n 1, 1) := by decide +kernel
theorem dX11_draw_2 : decode cX11_draw 2 = .ok (.invokevirtual 183, 3) := by decide +kernel
theorem dX11_draw_5 : decode cX11_draw 5 = .ok (.astore 5, 2) := by decide +kernel
theorem dX11_draw_7 : decode cX11_draw 7 = .ok (.aload_n 0, 1) := by decide +kernel
theorem dX11_draw_8 : decode cX11_draw 8 = .ok (.iload_n 2, 1) := by decide +kernel
theorem dX11_draw_9 : decode cX11_draw 9 = .ok (.iload_n 3, 1) := by decide +kernel
theorem dX11_draw_10 : decode cX11_draw 10 = .ok (.invokevirtual 143, 3) := by decide +kernel
theorem dX11_draw_13 : decode cX11_draw 13 = .ok (.astore 6, 2) := by decide +kernel
theorem dX11_draw_15 : decode cX11_draw 15 = .ok (.aload_n 0, 1) := by decide +kernel
theorem dX11_draw_16 : decode cX11_draw 16 = .ok (.iload 4, 2) := by decide +kernel
theorem dX11_draw_18 : decode cX11_draw 18 = .ok (.invokevirtual 121, 3) := by decide +kernel
theorem dX11_draw_21 : decode cX11_draw 21 = .ok (.astore 7, 2) := by decide +kernel
theorem dX11_draw_23 : decode cX11_draw 23 = .ok (.aload 5, 2) := by decide +kernel
theorem dX11_draw_25 : decode cX11_draw 25 = .ok (.ifnull 13, 3) := by decide +kernel
theorem dX11_draw_28 : decode cX11_draw 28 = .ok (.aload 6, 2) := by decide +kernel
theorem dX11_draw_30 : decode cX11_draw 30 = .ok (.ifnull 8, 3) := by decide +kernel
theorem dX11_draw_33 : decode cX11_draw 33 = .ok (.aload 7, 2) := by decide +kernel
theorem dX11_draw_35 : decode cX11_draw 35 = .ok (.ifnonnull 6, 3) := by decide +kernel
theorem dX11_draw_38 : decode cX11_draw 38 = .ok (.bipush (-2), 2) := by decide +kernel
theorem dX11_draw_40 : decode cX11_draw 40 = .ok (.ireturn, 1) := by decide +kernel
theorem dX11_draw_41 : decode cX11_draw 41 = .ok (.aload_n 0, 1) := by decide +kernel
theorem dX11_draw_42 : decode cX11_draw 42 = .ok (.getfield 58, 3) := by decide +kernel
theorem dX11_draw_45 : decode cX11_draw 45 = .ok (.aload 5, 2) := by decide +kernel
theorem dX11_draw_47 : decode cX11_draw 47 = .ok (.aload 5, 2) := by decide +kernel
theorem dX11_draw_49 : decode cX11_draw 49 = .ok (.getfield 194, 3) := by decide +kernel
theorem dX11_draw_52 : decode cX11_draw 52 = .ok (.aload 5, 2) := by decide +kernel
theorem dX11_draw_54 : decode cX11_draw 54 = .ok (.getfield 197, 3) := by decide +kernel
theorem dX11_draw_57 : decode cX11_draw 57 = .ok (.aload 6, 2) := by decide +kernel
theorem dX11_draw_59 : decode cX11_draw 59 = .ok (.aload_n 0, 1) := by decide +kernel
theorem dX11_draw_60 : decode cX11_draw 60 = .ok (.aload 7, 2) := by decide +kernel
theorem dX11_draw_62 : decode cX11_draw 62 = .ok (.invokevirtual 231, 3) := by decide +kernel
theorem dX11_draw_65 : decode cX11_draw 65 = .ok (.invokevirtual 235, 3) := by decide +kernel
theorem dX11_draw_68 : decode cX11_draw 68 = .ok (.istore 8, 2) := by decide +kernel
theorem dX11_draw_70 : decode cX11_draw 70 = .ok (.iload 8, 2) := by decide +kernel
theorem dX11_draw_72 : decode cX11_draw 72 = .ok (.ifCond .ge 8, 3) := by decide +kernel
theorem dX11_draw_75 : decode cX11_draw 75 = .ok (.iload 8, 2) := by decide +kernel
theorem dX11_draw_77 : decode cX11_draw 77 = .ok (.goto 13, 3) := by decide +kernel
theorem dX11_draw_80 : decode cX11_draw 80 = .ok (.aload_n 0, 1) := by decide +kernel
theorem dX11_draw_81 : decode cX11_draw 81 = .ok (.aload 5, 2) := by decide +kernel
theorem dX11_draw_83 : decode cX11_draw 83 = .ok (.aload 6, 2) := by decide +kernel
theorem dX11_draw_85 : decode cX11_draw 85 = .ok (.aload 7, 2) := by decide +kernel
theorem dX11_draw_87 : decode cX11_draw 87 = .ok (.invokevirtual 239, 3) := by decide +kernel
theorem dX11_draw_90 : decode cX11_draw 90 = .ok (.ireturn, 1) := by decide +kernel
theorem dX11_fire_0 : decode cX11_fire 0 = .ok (.aload_n 0, 1) := by decide +kernel
theorem dX11_fire_1 : decode cX11_fire 1 = .ok (.iload_n 1, 1) := by decide +kernel
theorem dX11_fire_2 : decode cX11_fire 2 = .ok (.invokevirtual 183, 3) := by decide +kernel
theorem dX11_fire_5 : decode cX11_fire 5 = .ok (.astore_n 2, 1) := by decide +kernel
theorem dX11_fire_6 : decode cX11_fire 6 = .ok (.aload_n 2, 1) := by decide +kernel
theorem dX11_fire_7 : decode cX11_fire 7 = .ok (.ifnonnull 6, 3) := by decide +kernel
theorem dX11_fire_10 : decode cX11_fire 10 = .ok (.bipush (-2), 2) := by decide +kernel
theorem dX11_fire_12 : decode cX11_fire 12 = .ok (.ireturn, 1) := by decide +kernel
theorem dX11_fire_13 : decode cX11_fire 13 = .ok (.aload_n 2, 1) := by decide +kernel
theorem dX11_fire_14 : decode cX11_fire 14 = .ok (.getfield 197, 3) := by decide +kernel
theorem dX11_fire_17 : decode cX11_fire 17 = .ok (.ifCond .ne 6, 3) := by decide +kernel
theorem dX11_fire_20 : decode cX11_fire 20 = .ok (.bipush (-4), 2) := by decide +kernel
theorem dX11_fire_22 : decode cX11_fire 22 = .ok (.ireturn, 1) := by decide +kernel
theorem dX11_fire_23 : decode cX11_fire 23 = .ok (.aload_n 2, 1) := by decide +kernel
theorem dX11_fire_24 : decode cX11_fire 24 = .ok (.getfield 206, 3) := by decide +kernel
theorem dX11_fire_27 : decode cX11_fire 27 = .ok (.aload_n 0, 1) := by decide +kernel
theorem dX11_fire_28 : decode cX11_fire 28 = .ok (.getfield 243, 3) := by decide +kernel
theorem dX11_fire_31 : decode cX11_fire 31 = .ok (.invokestatic 246, 3) := by decide +kernel
theorem dX11_fire_34 : decode cX11_fire 34 = .ok (.aload_n 0, 1) := by decide +kernel
theorem dX11_fire_35 : decode cX11_fire 35 = .ok (.getfield 10, 3) := by decide +kernel
theorem dX11_fire_38 : decode cX11_fire 38 = .ok (.getfield 252, 3) := by decide +kernel
theorem dX11_fire_41 : decode cX11_fire 41 = .ok (.iadd, 1) := by decide +kernel
theorem dX11_fire_42 : decode cX11_fire 42 = .ok (.istore_n 3, 1) := by decide +kernel
theorem dX11_fire_43 : decode cX11_fire 43 = .ok (.aload_n 2, 1) := by decide +kernel
theorem dX11_fire_44 : decode cX11_fire 44 = .ok (.iload_n 3, 1) := by decide +kernel
theorem dX11_fire_45 : decode cX11_fire 45 = .ok (.putfield 206, 3) := by decide +kernel
theorem dX11_fire_48 : decode cX11_fire 48 = .ok (.aload_n 0, 1) := by decide +kernel
theorem dX11_fire_49 : decode cX11_fire 49 = .ok (.iload_n 3, 1) := by decide +kernel
theorem dX11_fire_50 : decode cX11_fire 50 = .ok (.putfield 243, 3) := by decide +kernel
theorem dX11_fire_53 : decode cX11_fire 53 = .ok (.aload_n 2, 1) := by decide +kernel
theorem dX11_fire_54 : decode cX11_fire 54 = .ok (.iconst 0, 1) := by decide +kernel
theorem dX11_fire_55 : decode cX11_fire 55 = .ok (.putfield 197, 3) := by decide +kernel
theorem dX11_fire_58 : decode cX11_fire 58 = .ok (.aload_n 2, 1) := by decide +kernel
theorem dX11_fire_59 : decode cX11_fire 59 = .ok (.getfield 176, 3) := by decide +kernel
theorem dX11_fire_62 : decode cX11_fire 62 = .ok (.aload_n 2, 1) := by decide +kernel
theorem dX11_fire_63 : decode cX11_fire 63 = .ok (.getfield 187, 3) := by decide +kernel
theorem dX11_fire_66 : decode cX11_fire 66 = .ok (.getfield 106, 3) := by decide +kernel
theorem dX11_fire_69 : decode cX11_fire 69 = .ok (.i2l, 1) := by decide +kernel
theorem dX11_fire_70 : decode cX11_fire 70 = .ok (.lmul, 1) := by decide +kernel
theorem dX11_fire_71 : decode cX11_fire 71 = .ok (.ldc2_w 255, 3) := by decide +kernel
theorem dX11_fire_74 : decode cX11_fire 74 = .ok (.ldiv, 1) := by decide +kernel
theorem dX11_fire_75 : decode cX11_fire 75 = .ok (.lstore 4, 2) := by decide +kernel
theorem dX11_fire_77 : decode cX11_fire 77 = .ok (.aload_n 2, 1) := by decide +kernel
theorem dX11_fire_78 : decode cX11_fire 78 = .ok (.dup, 1) := by decide +kernel
theorem dX11_fire_79 : decode cX11_fire 79 = .ok (.getfield 176, 3) := by decide +kernel
theorem dX11_fire_82 : decode cX11_fire 82 = .ok (.lload 4, 2) := by decide +kernel
theorem dX11_fire_84 : decode cX11_fire 84 = .ok (.lsub, 1) := by decide +kernel
theorem dX11_fire_85 : decode cX11_fire 85 = .ok (.putfield 176, 3) := by decide +kernel
theorem dX11_fire_88 : decode cX11_fire 88 = .ok (.aload_n 0, 1) := by decide +kernel
theorem dX11_fire_89 : decode cX11_fire 89 = .ok (.dup, 1) := by decide +kernel
theorem dX11_fire_90 : decode cX11_fire 90 = .ok (.getfield 257, 3) := by decide +kernel
theorem dX11_fire_93 : decode cX11_fire 93 = .ok (.lload 4, 2) := by decide +kernel
theorem dX11_fire_95 : decode cX11_fire 95 = .ok (.ladd, 1) := by decide +kernel
theorem dX11_fire_96 : decode cX11_fire 96 = .ok (.putfield 257, 3) := by decide +kernel
theorem dX11_fire_99 : decode cX11_fire 99 = .ok (.aload_n 0, 1) := by decide +kernel
theorem dX11_fire_100 : decode cX11_fire 100 = .ok (.dup, 1) := by decide +kernel
theorem dX11_fire_101 : decode cX11_fire 101 = .ok (.getfield 260, 3) := by decide +kernel
theorem dX11_fire_104 : decode cX11_fire 104 = .ok (.iconst 1, 1) := by decide +kernel
theorem dX11_fire_105 : decode cX11_fire 105 = .ok (.iadd, 1) := by decide +kernel
theorem dX11_fire_106 : decode cX11_fire 106 = .ok (.putfield 260, 3) := by decide +kernel
theorem dX11_fire_109 : decode cX11_fire 109 = .ok (.aload_n 2, 1) := by decide +kernel
theorem dX11_fire_110 : decode cX11_fire 110 = .ok (.invokevirtual 200, 3) := by decide +kernel
theorem dX11_fire_113 : decode cX11_fire 113 = .ok (.ifCond .ne 8, 3) := by decide +kernel
theorem dX11_fire_116 : decode cX11_fire 116 = .ok (.aload_n 0, 1) := by decide +kernel
theorem dX11_fire_117 : decode cX11_fire 117 = .ok (.aload_n 2, 1) := by decide +kernel
theorem dX11_fire_118 : decode cX11_fire 118 = .ok (.invokevirtual 263, 3) := by decide +kernel
theorem dX11_fire_121 : decode cX11_fire 121 = .ok (.iload_n 3, 1) := by decide +kernel
theorem dX11_fire_122 : decode cX11_fire 122 = .ok (.ireturn, 1) := by decide +kernel
theorem dX11_part_0 : decode cX11_part 0 = .ok (.aload_n 0, 1) := by decide +kernel
theorem dX11_part_1 : decode cX11_part 1 = .ok (.iload_n 1, 1) := by decide +kernel
theorem dX11_part_2 : decode cX11_part 2 = .ok (.invokevirtual 183, 3) := by decide +kernel
theorem dX11_part_5 : decode cX11_part 5 = .ok (.astore_n 3, 1) := by decide +kernel
theorem dX11_part_6 : decode cX11_part 6 = .ok (.aload_n 3, 1) := by decide +kernel
theorem dX11_part_7 : decode cX11_part 7 = .ok (.ifnonnull 6, 3) := by decide +kernel
theorem dX11_part_10 : decode cX11_part 10 = .ok (.bipush (-2), 2) := by decide +kernel
theorem dX11_part_12 : decode cX11_part 12 = .ok (.ireturn, 1) := by decide +kernel
theorem dX11_part_13 : decode cX11_part 13 = .ok (.iload_n 2, 1) := by decide +kernel
theorem dX11_part_14 : decode cX11_part 14 = .ok (.iconst 1, 1) := by decide +kernel
theorem dX11_part_15 : decode cX11_part 15 = .ok (.aload_n 3, 1) := by decide +kernel
theorem dX11_part_16 : decode cX11_part 16 = .ok (.invokevirtual 200, 3) := by decide +kernel
theorem dX11_part_19 : decode cX11_part 19 = .ok (.iconst 1, 1) := by decide +kernel
theorem dX11_part_20 : decode cX11_part 20 = .ok (.isub, 1) := by decide +kernel
theorem dX11_part_21 : decode cX11_part 21 = .ok (.invokestatic 89, 3) := by decide +kernel
theorem dX11_part_24 : decode cX11_part 24 = .ok (.ifCond .ne 6, 3) := by decide +kernel
theorem dX11_part_27 : decode cX11_part 27 = .ok (.bipush (-3), 2) := by decide +kernel
theorem dX11_part_29 : decode cX11_part 29 = .ok (.ireturn, 1) := by decide +kernel
theorem dX11_part_30 : decode cX11_part 30 = .ok (.aload_n 0, 1) := by decide +kernel
theorem dX11_part_31 : decode cX11_part 31 = .ok (.getfield 166, 3) := by decide +kernel
theorem dX11_part_34 : decode cX11_part 34 = .ok (.aload_n 0, 1) := by decide +kernel
theorem dX11_part_35 : decode cX11_part 35 = .ok (.getfield 36, 3) := by decide +kernel
theorem dX11_part_38 : decode cX11_part 38 = .ok (.arraylength, 1) := by decide +kernel
theorem dX11_part_39 : decode cX11_part 39 = .ok (.if_icmp .lt 6, 3) := by decide +kernel
theorem dX11_part_42 : decode cX11_part 42 = .ok (.bipush (-8), 2) := by decide +kernel
theorem dX11_part_44 : decode cX11_part 44 = .ok (.ireturn, 1) := by decide +kernel
theorem dX11_part_45 : decode cX11_part 45 = .ok (.aload_n 3, 1) := by decide +kernel
theorem dX11_part_46 : decode cX11_part 46 = .ok (.iload_n 2, 1) := by decide +kernel
theorem dX11_part_47 : decode cX11_part 47 = .ok (.invokevirtual 267, 3) := by decide +kernel
theorem dX11_part_50 : decode cX11_part 50 = .ok (.lstore 4, 2) := by decide +kernel
theorem dX11_part_52 : decode cX11_part 52 = .ok (.new 34, 3) := by decide +kernel
theorem dX11_part_55 : decode cX11_part 55 = .ok (.dup, 1) := by decide +kernel
theorem dX11_part_56 : decode cX11_part 56 = .ok (.aload_n 3, 1) := by decide +kernel
theorem dX11_part_57 : decode cX11_part 57 = .ok (.getfield 187, 3) := by decide +kernel
theorem dX11_part_60 : decode cX11_part 60 = .ok (.aload_n 3, 1) := by decide +kernel
theorem dX11_part_61 : decode cX11_part 61 = .ok (.getfield 194, 3) := by decide +kernel
theorem dX11_part_64 : decode cX11_part 64 = .ok (.aload_n 3, 1) := by decide +kernel
theorem dX11_part_65 : decode cX11_part 65 = .ok (.getfield 176, 3) := by decide +kernel
theorem dX11_part_68 : decode cX11_part 68 = .ok (.lload 4, 2) := by decide +kernel
theorem dX11_part_70 : decode cX11_part 70 = .ok (.lsub, 1) := by decide +kernel
theorem dX11_part_71 : decode cX11_part 71 = .ok (.aload_n 3, 1) := by decide +kernel
theorem dX11_part_72 : decode cX11_part 72 = .ok (.getfield 209, 3) := by decide +kernel
theorem dX11_part_75 : decode cX11_part 75 = .ok (.invokespecial 169, 3) := by decide +kernel
theorem dX11_part_78 : decode cX11_part 78 = .ok (.astore 6, 2) := by decide +kernel
theorem dX11_part_80 : decode cX11_part 80 = .ok (.aload 6, 2) := by decide +kernel
theorem dX11_part_82 : decode cX11_part 82 = .ok (.aload_n 3, 1) := by decide +kernel
theorem dX11_part_83 : decode cX11_part 83 = .ok (.getfield 197, 3) := by decide +kernel
theorem dX11_part_86 : decode cX11_part 86 = .ok (.putfield 197, 3) := by decide +kernel
theorem dX11_part_89 : decode cX11_part 89 = .ok (.aload 6, 2) := by decide +kernel
theorem dX11_part_91 : decode cX11_part 91 = .ok (.aload_n 3, 1) := by decide +kernel
theorem dX11_part_92 : decode cX11_part 92 = .ok (.getfield 203, 3) := by decide +kernel
theorem dX11_part_95 : decode cX11_part 95 = .ok (.putfield 203, 3) := by decide +kernel
theorem dX11_part_98 : decode cX11_part 98 = .ok (.aload 6, 2) := by decide +kernel
theorem dX11_part_100 : decode cX11_part 100 = .ok (.aload_n 3, 1) := by decide +kernel
theorem dX11_part_101 : decode cX11_part 101 = .ok (.getfield 206, 3) := by decide +kernel
theorem dX11_part_104 : decode cX11_part 104 = .ok (.putfield 206, 3) := by decide +kernel
theorem dX11_part_107 : decode cX11_part 107 = .ok (.aload_n 3, 1) := by decide +kernel
theorem dX11_part_108 : decode cX11_part 108 = .ok (.lload 4, 2) := by decide +kernel
theorem dX11_part_110 : decode cX11_part 110 = .ok (.putfield 176, 3) := by decide +kernel
theorem dX11_part_113 : decode cX11_part 113 = .ok (.aload_n 0, 1) := by decide +kernel
theorem dX11_part_114 : decode cX11_part 114 = .ok (.aload 6, 2) := by decide +kernel
theorem dX11_part_116 : decode cX11_part 116 = .ok (.invokevirtual 179, 3) := by decide +kernel
theorem dX11_part_119 : decode cX11_part 119 = .ok (.ireturn, 1) := by decide +kernel
theorem dX11_join_0 : decode cX11_join 0 = .ok (.aload_n 0, 1) := by decide +kernel
theorem dX11_join_1 : decode cX11_join 1 = .ok (.iload_n 1, 1) := by decide +kernel
theorem dX11_join_2 : decode cX11_join 2 = .ok (.invokevirtual 183, 3) := by decide +kernel
theorem dX11_join_5 : decode cX11_join 5 = .ok (.astore_n 3, 1) := by decide +kernel
theorem dX11_join_6 : decode cX11_join 6 = .ok (.aload_n 0, 1) := by decide +kernel
theorem dX11_join_7 : decode cX11_join 7 = .ok (.iload_n 2, 1) := by decide +kernel
theorem dX11_join_8 : decode cX11_join 8 = .ok (.invokevirtual 183, 3) := by decide +kernel
theorem dX11_join_11 : decode cX11_join 11 = .ok (.astore 4, 2) := by decide +kernel
theorem dX11_join_13 : decode cX11_join 13 = .ok (.aload_n 3, 1) := by decide +kernel
theorem dX11_join_14 : decode cX11_join 14 = .ok (.ifnull 8, 3) := by decide +kernel
theorem dX11_join_17 : decode cX11_join 17 = .ok (.aload 4, 2) := by decide +kernel
theorem dX11_join_19 : decode cX11_join 19 = .ok (.ifnonnull 6, 3) := by decide +kernel
theorem dX11_join_22 : decode cX11_join 22 = .ok (.bipush (-2), 2) := by decide +kernel
theorem dX11_join_24 : decode cX11_join 24 = .ok (.ireturn, 1) := by decide +kernel
theorem dX11_join_25 : decode cX11_join 25 = .ok (.iload_n 1, 1) := by decide +kernel
theorem dX11_join_26 : decode cX11_join 26 = .ok (.iload_n 2, 1) := by decide +kernel
theorem dX11_join_27 : decode cX11_join 27 = .ok (.if_icmp .ne 6, 3) := by decide +kernel
theorem dX11_join_30 : decode cX11_join 30 = .ok (.bipush (-3), 2) := by decide +kernel
theorem dX11_join_32 : decode cX11_join 32 = .ok (.ireturn, 1) := by decide +kernel
theorem dX11_join_33 : decode cX11_join 33 = .ok (.aload_n 3, 1) := by decide +kernel
theorem dX11_join_34 : decode cX11_join 34 = .ok (.getfield 187, 3) := by decide +kernel
theorem dX11_join_37 : decode cX11_join 37 = .ok (.aload 4, 2) := by decide +kernel
theorem dX11_join_39 : decode cX11_join 39 = .ok (.getfield 187, 3) := by decide +kernel
theorem dX11_join_42 : decode cX11_join 42 = .ok (.if_acmp .ne 15, 3) := by decide +kernel
theorem dX11_join_45 : decode cX11_join 45 = .ok (.aload_n 3, 1) := by decide +kernel
theorem dX11_join_46 : decode cX11_join 46 = .ok (.getfield 194, 3) := by decide +kernel
theorem dX11_join_49 : decode cX11_join 49 = .ok (.aload 4, 2) := by decide +kernel
theorem dX11_join_51 : decode cX11_join 51 = .ok (.getfield 194, 3) := by decide +kernel
theorem dX11_join_54 : decode cX11_join 54 = .ok (.if_icmp .eq 6, 3) := by decide +kernel
theorem dX11_join_57 : decode cX11_join 57 = .ok (.bipush (-4), 2) := by decide +kernel
theorem dX11_join_59 : decode cX11_join 59 = .ok (.ireturn, 1) := by decide +kernel
theorem dX11_join_60 : decode cX11_join 60 = .ok (.aload 4, 2) := by decide +kernel
theorem dX11_join_62 : decode cX11_join 62 = .ok (.invokevirtual 200, 3) := by decide +kernel
theorem dX11_join_65 : decode cX11_join 65 = .ok (.aload_n 0, 1) := by decide +kernel
theorem dX11_join_66 : decode cX11_join 66 = .ok (.getfield 10, 3) := by decide +kernel
theorem dX11_join_69 : decode cX11_join 69 = .ok (.getfield 271, 3) := by decide +kernel
theorem dX11_join_72 : decode cX11_join 72 = .ok (.iconst 1, 1) := by decide +kernel
theorem dX11_join_73 : decode cX11_join 73 = .ok (.iadd, 1) := by decide +kernel
theorem dX11_join_74 : decode cX11_join 74 = .ok (.if_icmp .ge 6, 3) := by decide +kernel
theorem dX11_join_77 : decode cX11_join 77 = .ok (.bipush (-4), 2) := by decide +kernel
theorem dX11_join_79 : decode cX11_join 79 = .ok (.ireturn, 1) := by decide +kernel
theorem dX11_join_80 : decode cX11_join 80 = .ok (.aload 4, 2) := by decide +kernel
theorem dX11_join_82 : decode cX11_join 82 = .ok (.aload_n 0, 1) := by decide +kernel
theorem dX11_join_83 : decode cX11_join 83 = .ok (.getfield 10, 3) := by decide +kernel
theorem dX11_join_86 : decode cX11_join 86 = .ok (.getfield 271, 3) := by decide +kernel
theorem dX11_join_89 : decode cX11_join 89 = .ok (.invokevirtual 267, 3) := by decide +kernel
theorem dX11_join_92 : decode cX11_join 92 = .ok (.lstore 5, 2) := by decide +kernel
theorem dX11_join_94 : decode cX11_join 94 = .ok (.aload_n 3, 1) := by decide +kernel
theorem dX11_join_95 : decode cX11_join 95 = .ok (.dup, 1) := by decide +kernel
theorem dX11_join_96 : decode cX11_join 96 = .ok (.getfield 176, 3) := by decide +kernel
theorem dX11_join_99 : decode cX11_join 99 = .ok (.aload 4, 2) := by decide +kernel
theorem dX11_join_101 : decode cX11_join 101 = .ok (.getfield 176, 3) := by decide +kernel
theorem dX11_join_104 : decode cX11_join 104 = .ok (.lload 5, 2) := by decide +kernel
theorem dX11_join_106 : decode cX11_join 106 = .ok (.lsub, 1) := by decide +kernel
theorem dX11_join_107 : decode cX11_join 107 = .ok (.ladd, 1) := by decide +kernel
theorem dX11_join_108 : decode cX11_join 108 = .ok (.putfield 176, 3) := by decide +kernel
theorem dX11_join_111 : decode cX11_join 111 = .ok (.aload 4, 2) := by decide +kernel
theorem dX11_join_113 : decode cX11_join 113 = .ok (.lconst 0, 1) := by decide +kernel
theorem dX11_join_114 : decode cX11_join 114 = .ok (.putfield 176, 3) := by decide +kernel
theorem dX11_join_117 : decode cX11_join 117 = .ok (.aload_n 0, 1) := by decide +kernel
theorem dX11_join_118 : decode cX11_join 118 = .ok (.dup, 1) := by decide +kernel
theorem dX11_join_119 : decode cX11_join 119 = .ok (.getfield 274, 3) := by decide +kernel
theorem dX11_join_122 : decode cX11_join 122 = .ok (.lload 5, 2) := by decide +kernel
theorem dX11_join_124 : decode cX11_join 124 = .ok (.ladd, 1) := by decide +kernel
theorem dX11_join_125 : decode cX11_join 125 = .ok (.putfield 274, 3) := by decide +kernel
theorem dX11_join_128 : decode cX11_join 128 = .ok (.aload_n 3, 1) := by decide +kernel
theorem dX11_join_129 : decode cX11_join 129 = .ok (.aload_n 3, 1) := by decide +kernel
theorem dX11_join_130 : decode cX11_join 130 = .ok (.getfield 197, 3) := by decide +kernel
theorem dX11_join_133 : decode cX11_join 133 = .ok (.aload 4, 2) := by decide +kernel
theorem dX11_join_135 : decode cX11_join 135 = .ok (.getfield 197, 3) := by decide +kernel
theorem dX11_join_138 : decode cX11_join 138 = .ok (.invokestatic 246, 3) := by decide +kernel
theorem dX11_join_141 : decode cX11_join 141 = .ok (.putfield 197, 3) := by decide +kernel
theorem dX11_join_144 : decode cX11_join 144 = .ok (.aload_n 3, 1) := by decide +kernel
theorem dX11_join_145 : decode cX11_join 145 = .ok (.dup, 1) := by decide +kernel
theorem dX11_join_146 : decode cX11_join 146 = .ok (.getfield 203, 3) := by decide +kernel
theorem dX11_join_149 : decode cX11_join 149 = .ok (.aload 4, 2) := by decide +kernel
theorem dX11_join_151 : decode cX11_join 151 = .ok (.getfield 203, 3) := by decide +kernel
theorem dX11_join_154 : decode cX11_join 154 = .ok (.iconst 1, 1) := by decide +kernel
theorem dX11_join_155 : decode cX11_join 155 = .ok (.iadd, 1) := by decide +kernel
theorem dX11_join_156 : decode cX11_join 156 = .ok (.iadd, 1) := by decide +kernel
theorem dX11_join_157 : decode cX11_join 157 = .ok (.putfield 203, 3) := by decide +kernel
theorem dX11_join_160 : decode cX11_join 160 = .ok (.aload_n 3, 1) := by decide +kernel
theorem dX11_join_161 : decode cX11_join 161 = .ok (.aload_n 3, 1) := by decide +kernel
theorem dX11_join_162 : decode cX11_join 162 = .ok (.getfield 206, 3) := by decide +kernel
theorem dX11_join_165 : decode cX11_join 165 = .ok (.aload 4, 2) := by decide +kernel
theorem dX11_join_167 : decode cX11_join 167 = .ok (.getfield 206, 3) := by decide +kernel
theorem dX11_join_170 : decode cX11_join 170 = .ok (.invokestatic 246, 3) := by decide +kernel
theorem dX11_join_173 : decode cX11_join 173 = .ok (.putfield 206, 3) := by decide +kernel
theorem dX11_join_176 : decode cX11_join 176 = .ok (.aload_n 3, 1) := by decide +kernel
theorem dX11_join_177 : decode cX11_join 177 = .ok (.aload_n 3, 1) := by decide +kernel
theorem dX11_join_178 : decode cX11_join 178 = .ok (.getfield 209, 3) := by decide +kernel
theorem dX11_join_181 : decode cX11_join 181 = .ok (.ifCond .ne 11, 3) := by decide +kernel
theorem dX11_join_184 : decode cX11_join 184 = .ok (.aload 4, 2) := by decide +kernel
theorem dX11_join_186 : decode cX11_join 186 = .ok (.getfield 209, 3) := by decide +kernel
theorem dX11_join_189 : decode cX11_join 189 = .ok (.ifCond .eq 7, 3) := by decide +kernel
theorem dX11_join_192 : decode cX11_join 192 = .ok (.iconst 1, 1) := by decide +kernel
theorem dX11_join_193 : decode cX11_join 193 = .ok (.goto 4, 3) := by decide +kernel
theorem dX11_join_196 : decode cX11_join 196 = .ok (.iconst 0, 1) := by decide +kernel
theorem dX11_join_197 : decode cX11_join 197 = .ok (.putfield 209, 3) := by decide +kernel
theorem dX11_join_200 : decode cX11_join 200 = .ok (.aload_n 3, 1) := by decide +kernel
theorem dX11_join_201 : decode cX11_join 201 = .ok (.invokevirtual 200, 3) := by decide +kernel
theorem dX11_join_204 : decode cX11_join 204 = .ok (.ireturn, 1) := by decide +kernel
theorem dX11_scrap_0 : decode cX11_scrap 0 = .ok (.aload_n 0, 1) := by decide +kernel
theorem dX11_scrap_1 : decode cX11_scrap 1 = .ok (.iload_n 1, 1) := by decide +kernel
theorem dX11_scrap_2 : decode cX11_scrap 2 = .ok (.invokevirtual 183, 3) := by decide +kernel
theorem dX11_scrap_5 : decode cX11_scrap 5 = .ok (.astore_n 2, 1) := by decide +kernel
theorem dX11_scrap_6 : decode cX11_scrap 6 = .ok (.aload_n 2, 1) := by decide +kernel
theorem dX11_scrap_7 : decode cX11_scrap 7 = .ok (.ifnonnull 6, 3) := by decide +kernel
theorem dX11_scrap_10 : decode cX11_scrap 10 = .ok (.bipush (-2), 2) := by decide +kernel
theorem dX11_scrap_12 : decode cX11_scrap 12 = .ok (.ireturn, 1) := by decide +kernel
theorem dX11_scrap_13 : decode cX11_scrap 13 = .ok (.aload_n 0, 1) := by decide +kernel
theorem dX11_scrap_14 : decode cX11_scrap 14 = .ok (.aload_n 2, 1) := by decide +kernel
theorem dX11_scrap_15 : decode cX11_scrap 15 = .ok (.invokevirtual 263, 3) := by decide +kernel
theorem dX11_scrap_18 : decode cX11_scrap 18 = .ok (.iconst 1, 1) := by decide +kernel
theorem dX11_scrap_19 : decode cX11_scrap 19 = .ok (.ireturn, 1) := by decide +kernel
theorem dX11_ready_0 : decode cX11_ready 0 = .ok (.iload_n 1, 1) := by decide +kernel
theorem dX11_ready_1 : decode cX11_ready 1 = .ok (.iconst 3, 1) := by decide +kernel
theorem dX11_ready_2 : decode cX11_ready 2 = .ok (.if_icmp .ne 8, 3) := by decide +kernel
theorem dX11_ready_5 : decode cX11_ready 5 = .ok (.aload_n 0, 1) := by decide +kernel
theorem dX11_ready_6 : decode cX11_ready 6 = .ok (.getfield 243, 3) := by decide +kernel
theorem dX11_ready_9 : decode cX11_ready 9 = .ok (.ireturn, 1) := by decide +kernel
theorem dX11_ready_10 : decode cX11_ready 10 = .ok (.aload_n 0, 1) := by decide +kernel
theorem dX11_ready_11 : decode cX11_ready 11 = .ok (.iload_n 1, 1) := by decide +kernel
theorem dX11_ready_12 : decode cX11_ready 12 = .ok (.invokevirtual 121, 3) := by decide +kernel
theorem dX11_ready_15 : decode cX11_ready 15 = .ok (.astore_n 2, 1) := by decide +kernel
theorem dX11_ready_16 : decode cX11_ready 16 = .ok (.aload_n 2, 1) := by decide +kernel
theorem dX11_ready_17 : decode cX11_ready 17 = .ok (.ifnonnull 8, 3) := by decide +kernel
theorem dX11_ready_20 : decode cX11_ready 20 = .ok (.bipush (-2), 2) := by decide +kernel
theorem dX11_ready_22 : decode cX11_ready 22 = .ok (.goto 7, 3) := by decide +kernel
theorem dX11_ready_25 : decode cX11_ready 25 = .ok (.aload_n 2, 1) := by decide +kernel
theorem dX11_ready_26 : decode cX11_ready 26 = .ok (.getfield 277, 3) := by decide +kernel
theorem dX11_ready_29 : decode cX11_ready 29 = .ok (.ireturn, 1) := by decide +kernel
theorem dX11_way_0 : decode cX11_way 0 = .ok (.aload_n 0, 1) := by decide +kernel
theorem dX11_way_1 : decode cX11_way 1 = .ok (.iload_n 1, 1) := by decide +kernel
theorem dX11_way_2 : decode cX11_way 2 = .ok (.iload_n 2, 1) := by decide +kernel
theorem dX11_way_3 : decode cX11_way 3 = .ok (.iload_n 3, 1) := by decide +kernel
theorem dX11_way_4 : decode cX11_way 4 = .ok (.iload 4, 2) := by decide +kernel
theorem dX11_way_6 : decode cX11_way 6 = .ok (.iload 5, 2) := by decide +kernel
theorem dX11_way_8 : decode cX11_way 8 = .ok (.invokevirtual 278, 3) := by decide +kernel
theorem dX11_way_11 : decode cX11_way 11 = .ok (.ireturn, 1) := by decide +kernel
theorem dX11_step_0 : decode cX11_step 0 = .ok (.aload_n 0, 1) := by decide +kernel
theorem dX11_step_1 : decode cX11_step 1 = .ok (.iload_n 1, 1) := by decide +kernel
theorem dX11_step_2 : decode cX11_step 2 = .ok (.iload_n 2, 1) := by decide +kernel
theorem dX11_step_3 : decode cX11_step 3 = .ok (.iload_n 3, 1) := by decide +kernel
theorem dX11_step_4 : decode cX11_step 4 = .ok (.iload 4, 2) := by decide +kernel
theorem dX11_step_6 : decode cX11_step 6 = .ok (.iload 5, 2) := by decide +kernel
theorem dX11_step_8 : decode cX11_step 8 = .ok (.invokevirtual 278, 3) := by decide +kernel
theorem dX11_step_11 : decode cX11_step 11 = .ok (.istore 7, 2) := by decide +kernel
theorem dX11_step_13 : decode cX11_step 13 = .ok (.iload 7, 2) := by decide +kernel
theorem dX11_step_15 : decode cX11_step 15 = .ok (.bipush (-2), 2) := by decide +kernel
theorem dX11_step_17 : decode cX11_step 17 = .ok (.if_icmp .ne 6, 3) := by decide +kernel
theorem dX11_step_20 : decode cX11_step 20 = .ok (.bipush (-2), 2) := by decide +kernel
theorem dX11_step_22 : decode cX11_step 22 = .ok (.ireturn, 1) := by decide +kernel
theorem dX11_step_23 : decode cX11_step 23 = .ok (.iload 7, 2) := by decide +kernel
theorem dX11_step_25 : decode cX11_step 25 = .ok (.bipush (-3), 2) := by decide +kernel
theorem dX11_step_27 : decode cX11_step 27 = .ok (.if_icmp .eq 8, 3) := by decide +kernel
theorem dX11_step_30 : decode cX11_step 30 = .ok (.iload 6, 2) := by decide +kernel
theorem dX11_step_32 : decode cX11_step 32 = .ok (.ifCond .ge 6, 3) := by decide +kernel
theorem dX11_step_35 : decode cX11_step 35 = .ok (.bipush (-3), 2) := by decide +kernel
theorem dX11_step_37 : decode cX11_step 37 = .ok (.ireturn, 1) := by decide +kernel
theorem dX11_step_38 : decode cX11_step 38 = .ok (.iload 7, 2) := by decide +kernel
theorem dX11_step_40 : decode cX11_step 40 = .ok (.iconst (-1), 1) := by decide +kernel
theorem dX11_step_41 : decode cX11_step 41 = .ok (.if_icmp .ne 7, 3) := by decide +kernel
theorem dX11_step_44 : decode cX11_step 44 = .ok (.iconst (-1), 1) := by decide +kernel
theorem dX11_step_45 : decode cX11_step 45 = .ok (.goto 12, 3) := by decide +kernel
theorem dX11_step_48 : decode cX11_step 48 = .ok (.aload_n 0, 1) := by decide +kernel
theorem dX11_step_49 : decode cX11_step 49 = .ok (.getfield 67, 3) := by decide +kernel
theorem dX11_step_52 : decode cX11_step 52 = .ok (.iload 6, 2) := by decide +kernel
theorem dX11_step_54 : decode cX11_step 54 = .ok (.invokevirtual 282, 3) := by decide +kernel
theorem dX11_step_57 : decode cX11_step 57 = .ok (.ireturn, 1) := by decide +kernel
theorem dX11_go_0 : decode cX11_go 0 = .ok (.aload_n 0, 1) := by decide +kernel
theorem dX11_go_1 : decode cX11_go 1 = .ok (.iload_n 1, 1) := by decide +kernel
theorem dX11_go_2 : decode cX11_go 2 = .ok (.iload_n 2, 1) := by decide +kernel
theorem dX11_go_3 : decode cX11_go 3 = .ok (.iload_n 3, 1) := by decide +kernel
theorem dX11_go_4 : decode cX11_go 4 = .ok (.iload 4, 2) := by decide +kernel
theorem dX11_go_6 : decode cX11_go 6 = .ok (.iload 5, 2) := by decide +kernel
theorem dX11_go_8 : decode cX11_go 8 = .ok (.invokevirtual 278, 3) := by decide +kernel
theorem dX11_go_11 : decode cX11_go 11 = .ok (.istore 6, 2) := by decide +kernel
theorem dX11_go_13 : decode cX11_go 13 = .ok (.iload 6, 2) := by decide +kernel
theorem dX11_go_15 : decode cX11_go 15 = .ok (.ifCond .ge 17, 3) := by decide +kernel
theorem dX11_go_18 : decode cX11_go 18 = .ok (.iload 6, 2) := by decide +kernel
theorem dX11_go_20 : decode cX11_go 20 = .ok (.iconst (-1), 1) := by decide +kernel
theorem dX11_go_21 : decode cX11_go 21 = .ok (.if_icmp .ne 8, 3) := by decide +kernel
theorem dX11_go_24 : decode cX11_go 24 = .ok (.bipush (-4), 2) := by decide +kernel
theorem dX11_go_26 : decode cX11_go 26 = .ok (.goto 5, 3) := by decide +kernel
theorem dX11_go_29 : decode cX11_go 29 = .ok (.iload 6, 2) := by decide +kernel
theorem dX11_go_31 : decode cX11_go 31 = .ok (.ireturn, 1) := by decide +kernel
theorem dX11_go_32 : decode cX11_go 32 = .ok (.aload_n 0, 1) := by decide +kernel
theorem dX11_go_33 : decode cX11_go 33 = .ok (.getfield 67, 3) := by decide +kernel
theorem dX11_go_36 : decode cX11_go 36 = .ok (.getfield 285, 3) := by decide +kernel
theorem dX11_go_39 : decode cX11_go 39 = .ok (.istore 7, 2) := by decide +kernel
theorem dX11_go_41 : decode cX11_go 41 = .ok (.iconst 0, 1) := by decide +kernel
theorem dX11_go_42 : decode cX11_go 42 = .ok (.istore 8, 2) := by decide +kernel
theorem dX11_go_44 : decode cX11_go 44 = .ok (.iload 8, 2) := by decide +kernel
theorem dX11_go_46 : decode cX11_go 46 = .ok (.iload 7, 2) := by decide +kernel
theorem dX11_go_48 : decode cX11_go 48 = .ok (.if_icmp .ge 54, 3) := by decide +kernel
theorem dX11_go_51 : decode cX11_go 51 = .ok (.aload_n 0, 1) := by decide +kernel
theorem dX11_go_52 : decode cX11_go 52 = .ok (.getfield 67, 3) := by decide +kernel
theorem dX11_go_55 : decode cX11_go 55 = .ok (.iload 8, 2) := by decide +kernel
theorem dX11_go_57 : decode cX11_go 57 = .ok (.invokevirtual 282, 3) := by decide +kernel
theorem dX11_go_60 : decode cX11_go 60 = .ok (.istore 9, 2) := by decide +kernel
theorem dX11_go_62 : decode cX11_go 62 = .ok (.iload 9, 2) := by decide +kernel
theorem dX11_go_64 : decode cX11_go 64 = .ok (.bipush 8, 2) := by decide +kernel
theorem dX11_go_66 : decode cX11_go 66 = .ok (.if_icmp .ne 11, 3) := by decide +kernel
theorem dX11_go_69 : decode cX11_go 69 = .ok (.aload_n 0, 1) := by decide +kernel
theorem dX11_go_70 : decode cX11_go 70 = .ok (.iload_n 1, 1) := by decide +kernel
theorem dX11_go_71 : decode cX11_go 71 = .ok (.invokevirtual 288, 3) := by decide +kernel
theorem dX11_go_74 : decode cX11_go 74 = .ok (.goto 12, 3) := by decide +kernel
theorem dX11_go_77 : decode cX11_go 77 = .ok (.aload_n 0, 1) := by decide +kernel
theorem dX11_go_78 : decode cX11_go 78 = .ok (.iload_n 1, 1) := by decide +kernel
theorem dX11_go_79 : decode cX11_go 79 = .ok (.iload_n 2, 1) := by decide +kernel
theorem dX11_go_80 : decode cX11_go 80 = .ok (.iload 9, 2) := by decide +kernel
theorem dX11_go_82 : decode cX11_go 82 = .ok (.iload_n 3, 1) := by decide +kernel
theorem dX11_go_83 : decode cX11_go 83 = .ok (.invokevirtual 291, 3) := by decide +kernel
theorem dX11_go_86 : decode cX11_go 86 = .ok (.istore 10, 2) := by decide +kernel
theorem dX11_go_88 : decode cX11_go 88 = .ok (.iload 10, 2) := by decide +kernel
theorem dX11_go_90 : decode cX11_go 90 = .ok (.ifCond .ge 6, 3) := by decide +kernel
theorem dX11_go_93 : decode cX11_go 93 = .ok (.iload 8, 2) := by decide +kernel
theorem dX11_go_95 : decode cX11_go 95 = .ok (.ireturn, 1) := by decide +kernel
theorem dX11_go_96 : decode cX11_go 96 = .ok (.iinc 8 1, 3) := by decide +kernel
theorem dX11_go_99 : decode cX11_go 99 = .ok (.goto (-55), 3) := by decide +kernel
theorem dX11_go_102 : decode cX11_go 102 = .ok (.iload 7, 2) := by decide +kernel
theorem dX11_go_104 : decode cX11_go 104 = .ok (.ireturn, 1) := by decide +kernel
theorem dX11_order_0 : decode cX11_order 0 = .ok (.aload_n 0, 1) := by decide +kernel
theorem dX11_order_1 : decode cX11_order 1 = .ok (.iload_n 1, 1) := by decide +kernel
theorem dX11_order_2 : decode cX11_order 2 = .ok (.invokevirtual 85, 3) := by decide +kernel
theorem dX11_order_5 : decode cX11_order 5 = .ok (.astore 5, 2) := by decide +kernel
theorem dX11_order_7 : decode cX11_order 7 = .ok (.aload 5, 2) := by decide +kernel
theorem dX11_order_9 : decode cX11_order 9 = .ok (.ifnonnull 6, 3) := by decide +kernel
theorem dX11_order_12 : decode cX11_order 12 = .ok (.bipush (-2), 2) := by decide +kernel
theorem dX11_order_14 : decode cX11_order 14 = .ok (.ireturn, 1) := by decide +kernel
theorem dX11_order_15 : decode cX11_order 15 = .ok (.iload_n 2, 1) := by decide +kernel
theorem dX11_order_16 : decode cX11_order 16 = .ok (.iload_n 3, 1) := by decide +kernel
theorem dX11_order_17 : decode cX11_order 17 = .ok (.invokestatic 295, 3) := by decide +kernel
theorem dX11_order_20 : decode cX11_order 20 = .ok (.ifCond .eq 15, 3) := by decide +kernel
theorem dX11_order_23 : decode cX11_order 23 = .ok (.iload 4, 2) := by decide +kernel
theorem dX11_order_25 : decode cX11_order 25 = .ok (.iconst 1, 1) := by decide +kernel
theorem dX11_order_26 : decode cX11_order 26 = .ok (.sipush 10000, 3) := by decide +kernel
theorem dX11_order_29 : decode cX11_order 29 = .ok (.invokestatic 89, 3) := by decide +kernel
theorem dX11_order_32 : decode cX11_order 32 = .ok (.ifCond .ne 6, 3) := by decide +kernel
theorem dX11_order_35 : decode cX11_order 35 = .ok (.bipush (-3), 2) := by decide +kernel
theorem dX11_order_37 : decode cX11_order 37 = .ok (.ireturn, 1) := by decide +kernel
theorem dX11_order_38 : decode cX11_order 38 = .ok (.aload_n 0, 1) := by decide +kernel
theorem dX11_order_39 : decode cX11_order 39 = .ok (.getfield 298, 3) := by decide +kernel
theorem dX11_order_42 : decode cX11_order 42 = .ok (.ifCond .lt 15, 3) := by decide +kernel
theorem dX11_order_45 : decode cX11_order 45 = .ok (.aload_n 0, 1) := by decide +kernel
theorem dX11_order_46 : decode cX11_order 46 = .ok (.getfield 298, 3) := by decide +kernel
theorem dX11_order_49 : decode cX11_order 49 = .ok (.aload_n 0, 1) := by decide +kernel
theorem dX11_order_50 : decode cX11_order 50 = .ok (.getfield 42, 3) := by decide +kernel
theorem dX11_order_53 : decode cX11_order 53 = .ok (.arraylength, 1) := by decide +kernel
theorem dX11_order_54 : decode cX11_order 54 = .ok (.if_icmp .lt 6, 3) := by decide +kernel
theorem dX11_order_57 : decode cX11_order 57 = .ok (.bipush (-8), 2) := by decide +kernel
theorem dX11_order_59 : decode cX11_order 59 = .ok (.ireturn, 1) := by decide +kernel
theorem dX11_order_60 : decode cX11_order 60 = .ok (.aload_n 0, 1) := by decide +kernel
theorem dX11_order_61 : decode cX11_order 61 = .ok (.getfield 42, 3) := by decide +kernel
theorem dX11_order_64 : decode cX11_order 64 = .ok (.aload_n 0, 1) := by decide +kernel
theorem dX11_order_65 : decode cX11_order 65 = .ok (.getfield 298, 3) := by decide +kernel
theorem dX11_order_68 : decode cX11_order 68 = .ok (.new 40, 3) := by decide +kernel
theorem dX11_order_71 : decode cX11_order 71 = .ok (.dup, 1) := by decide +kernel
theorem dX11_order_72 : decode cX11_order 72 = .ok (.aload 5, 2) := by decide +kernel
theorem dX11_order_74 : decode cX11_order 74 = .ok (.iload_n 2, 1) := by decide +kernel
theorem dX11_order_75 : decode cX11_order 75 = .ok (.iload_n 3, 1) := by decide +kernel
theorem dX11_order_76 : decode cX11_order 76 = .ok (.iload 4, 2) := by decide +kernel
theorem dX11_order_78 : decode cX11_order 78 = .ok (.invokespecial 301, 3) := by decide +kernel
theorem dX11_order_81 : decode cX11_order 81 = .ok (.aastore, 1) := by decide +kernel
theorem dX11_order_82 : decode cX11_order 82 = .ok (.aload_n 0, 1) := by decide +kernel
theorem dX11_order_83 : decode cX11_order 83 = .ok (.dup, 1) := by decide +kernel
theorem dX11_order_84 : decode cX11_order 84 = .ok (.getfield 298, 3) := by decide +kernel
theorem dX11_order_87 : decode cX11_order 87 = .ok (.dup_x1, 1) := by decide +kernel
theorem dX11_order_88 : decode cX11_order 88 = .ok (.iconst 1, 1) := by decide +kernel
theorem dX11_order_89 : decode cX11_order 89 = .ok (.iadd, 1) := by decide +kernel
theorem dX11_order_90 : decode cX11_order 90 = .ok (.putfield 298, 3) := by decide +kernel
theorem dX11_order_93 : decode cX11_order 93 = .ok (.ireturn, 1) := by decide +kernel
theorem dX11_cutting_0 : decode cX11_cutting 0 = .ok (.aload_n 0, 1) := by decide +kernel
theorem dX11_cutting_1 : decode cX11_cutting 1 = .ok (.getfield 74, 3) := by decide +kernel
theorem dX11_cutting_4 : decode cX11_cutting 4 = .ok (.aload_n 0, 1) := by decide +kernel
theorem dX11_cutting_5 : decode cX11_cutting 5 = .ok (.getfield 36, 3) := by decide +kernel
theorem dX11_cutting_8 : decode cX11_cutting 8 = .ok (.aload_n 0, 1) := by decide +kernel
theorem dX11_cutting_9 : decode cX11_cutting 9 = .ok (.getfield 42, 3) := by decide +kernel
theorem dX11_cutting_12 : decode cX11_cutting 12 = .ok (.invokevirtual 304, 3) := by decide +kernel
theorem dX11_cutting_15 : decode cX11_cutting 15 = .ok (.aload_n 0, 1) := by decide +kernel
theorem dX11_cutting_16 : decode cX11_cutting 16 = .ok (.getfield 74, 3) := by decide +kernel
theorem dX11_cutting_19 : decode cX11_cutting 19 = .ok (.getfield 308, 3) := by decide +kernel
theorem dX11_cutting_22 : decode cX11_cutting 22 = .ok (.ireturn, 1) := by decide +kernel
theorem dX11_from_0 : decode cX11_from 0 = .ok (.aload_n 0, 1) := by decide +kernel
theorem dX11_from_1 : decode cX11_from 1 = .ok (.iload_n 1, 1) := by decide +kernel
theorem dX11_from_2 : decode cX11_from 2 = .ok (.invokevirtual 310, 3) := by decide +kernel
theorem dX11_from_5 : decode cX11_from 5 = .ok (.ifnonnull 6, 3) := by decide +kernel
theorem dX11_from_8 : decode cX11_from 8 = .ok (.bipush (-2), 2) := by decide +kernel
theorem dX11_from_10 : decode cX11_from 10 = .ok (.ireturn, 1) := by decide +kernel
theorem dX11_from_11 : decode cX11_from 11 = .ok (.aload_n 0, 1) := by decide +kernel
theorem dX11_from_12 : decode cX11_from 12 = .ok (.getfield 74, 3) := by decide +kernel
theorem dX11_from_15 : decode cX11_from 15 = .ok (.aload_n 0, 1) := by decide +kernel
theorem dX11_from_16 : decode cX11_from 16 = .ok (.getfield 36, 3) := by decide +kernel
theorem dX11_from_19 : decode cX11_from 19 = .ok (.aload_n 0, 1) := by decide +kernel
theorem dX11_from_20 : decode cX11_from 20 = .ok (.getfield 42, 3) := by decide +kernel
theorem dX11_from_23 : decode cX11_from 23 = .ok (.invokevirtual 304, 3) := by decide +kernel
theorem dX11_from_26 : decode cX11_from 26 = .ok (.aload_n 0, 1) := by decide +kernel
theorem dX11_from_27 : decode cX11_from 27 = .ok (.getfield 74, 3) := by decide +kernel
theorem dX11_from_30 : decode cX11_from 30 = .ok (.iload_n 1, 1) := by decide +kernel
theorem dX11_from_31 : decode cX11_from 31 = .ok (.invokevirtual 314, 3) := by decide +kernel
theorem dX11_from_34 : decode cX11_from 34 = .ok (.ireturn, 1) := by decide +kernel
theorem dX11_cut_0 : decode cX11_cut 0 = .ok (.aload_n 0, 1) := by decide +kernel
theorem dX11_cut_1 : decode cX11_cut 1 = .ok (.getfield 74, 3) := by decide +kernel
theorem dX11_cut_4 : decode cX11_cut 4 = .ok (.aload_n 0, 1) := by decide +kernel
theorem dX11_cut_5 : decode cX11_cut 5 = .ok (.getfield 36, 3) := by decide +kernel
theorem dX11_cut_8 : decode cX11_cut 8 = .ok (.aload_n 0, 1) := by decide +kernel
theorem dX11_cut_9 : decode cX11_cut 9 = .ok (.getfield 42, 3) := by decide +kernel
theorem dX11_cut_12 : decode cX11_cut 12 = .ok (.invokevirtual 304, 3) := by decide +kernel
theorem dX11_cut_15 : decode cX11_cut 15 = .ok (.iconst 0, 1) := by decide +kernel
theorem dX11_cut_16 : decode cX11_cut 16 = .ok (.istore_n 1, 1) := by decide +kernel
theorem dX11_cut_17 : decode cX11_cut 17 = .ok (.iconst 0, 1) := by decide +kernel
theorem dX11_cut_18 : decode cX11_cut 18 = .ok (.istore_n 2, 1) := by decide +kernel
theorem dX11_cut_19 : decode cX11_cut 19 = .ok (.iload_n 2, 1) := by decide +kernel
theorem dX11_cut_20 : decode cX11_cut 20 = .ok (.aload_n 0, 1) := by decide +kernel
theorem dX11_cut_21 : decode cX11_cut 21 = .ok (.getfield 42, 3) := by decide +kernel
theorem dX11_cut_24 : decode cX11_cut 24 = .ok (.arraylength, 1) := by decide +kernel
theorem dX11_cut_25 : decode cX11_cut 25 = .ok (.if_icmp .ge 52, 3) := by decide +kernel
theorem dX11_cut_28 : decode cX11_cut 28 = .ok (.aload_n 0, 1) := by decide +kernel
theorem dX11_cut_29 : decode cX11_cut 29 = .ok (.aload_n 0, 1) := by decide +kernel
theorem dX11_cut_30 : decode cX11_cut 30 = .ok (.getfield 74, 3) := by decide +kernel
theorem dX11_cut_33 : decode cX11_cut 33 = .ok (.iload_n 2, 1) := by decide +kernel
theorem dX11_cut_34 : decode cX11_cut 34 = .ok (.invokevirtual 314, 3) := by decide +kernel
theorem dX11_cut_37 : decode cX11_cut 37 = .ok (.invokevirtual 183, 3) := by decide +kernel
theorem dX11_cut_40 : decode cX11_cut 40 = .ok (.astore_n 3, 1) := by decide +kernel
theorem dX11_cut_41 : decode cX11_cut 41 = .ok (.aload_n 3, 1) := by decide +kernel
theorem dX11_cut_42 : decode cX11_cut 42 = .ok (.ifnull 29, 3) := by decide +kernel
theorem dX11_cut_45 : decode cX11_cut 45 = .ok (.aload_n 0, 1) := by decide +kernel
theorem dX11_cut_46 : decode cX11_cut 46 = .ok (.getfield 42, 3) := by decide +kernel
theorem dX11_cut_49 : decode cX11_cut 49 = .ok (.iload_n 2, 1) := by decide +kernel
theorem dX11_cut_50 : decode cX11_cut 50 = .ok (.aaload, 1) := by decide +kernel
theorem dX11_cut_51 : decode cX11_cut 51 = .ok (.ifnonnull 6, 3) := by decide +kernel
theorem dX11_cut_54 : decode cX11_cut 54 = .ok (.goto 17, 3) := by decide +kernel
theorem dX11_cut_57 : decode cX11_cut 57 = .ok (.aload_n 0, 1) := by decide +kernel
theorem dX11_cut_58 : decode cX11_cut 58 = .ok (.aload_n 3, 1) := by decide +kernel
theorem dX11_cut_59 : decode cX11_cut 59 = .ok (.aload_n 0, 1) := by decide +kernel
theorem dX11_cut_60 : decode cX11_cut 60 = .ok (.getfield 42, 3) := by decide +kernel
theorem dX11_cut_63 : decode cX11_cut 63 = .ok (.iload_n 2, 1) := by decide +kernel
theorem dX11_cut_64 : decode cX11_cut 64 = .ok (.aaload, 1) := by decide +kernel
theorem dX11_cut_65 : decode cX11_cut 65 = .ok (.invokevirtual 317, 3) := by decide +kernel
theorem dX11_cut_68 : decode cX11_cut 68 = .ok (.iinc 1 1, 3) := by decide +kernel
theorem dX11_cut_71 : decode cX11_cut 71 = .ok (.iinc 2 1, 3) := by decide +kernel
theorem dX11_cut_74 : decode cX11_cut 74 = .ok (.goto (-55), 3) := by decide +kernel
theorem dX11_cut_77 : decode cX11_cut 77 = .ok (.iconst 0, 1) := by decide +kernel
theorem dX11_cut_78 : decode cX11_cut 78 = .ok (.istore_n 2, 1) := by decide +kernel
theorem dX11_cut_79 : decode cX11_cut 79 = .ok (.iload_n 2, 1) := by decide +kernel
theorem dX11_cut_80 : decode cX11_cut 80 = .ok (.aload_n 0, 1) := by decide +kernel
theorem dX11_cut_81 : decode cX11_cut 81 = .ok (.getfield 36, 3) := by decide +kernel
theorem dX11_cut_84 : decode cX11_cut 84 = .ok (.arraylength, 1) := by decide +kernel
theorem dX11_cut_85 : decode cX11_cut 85 = .ok (.if_icmp .ge 58, 3) := by decide +kernel
theorem dX11_cut_88 : decode cX11_cut 88 = .ok (.aload_n 0, 1) := by decide +kernel
theorem dX11_cut_89 : decode cX11_cut 89 = .ok (.getfield 36, 3) := by decide +kernel
theorem dX11_cut_92 : decode cX11_cut 92 = .ok (.iload_n 2, 1) := by decide +kernel
theorem dX11_cut_93 : decode cX11_cut 93 = .ok (.aaload, 1) := by decide +kernel
theorem dX11_cut_94 : decode cX11_cut 94 = .ok (.ifnull 43, 3) := by decide +kernel
theorem dX11_cut_97 : decode cX11_cut 97 = .ok (.aload_n 0, 1) := by decide +kernel
theorem dX11_cut_98 : decode cX11_cut 98 = .ok (.getfield 74, 3) := by decide +kernel
theorem dX11_cut_101 : decode cX11_cut 101 = .ok (.iload_n 2, 1) := by decide +kernel
theorem dX11_cut_102 : decode cX11_cut 102 = .ok (.invokevirtual 321, 3) := by decide +kernel
theorem dX11_cut_105 : decode cX11_cut 105 = .ok (.ifCond .eq 32, 3) := by decide +kernel
theorem dX11_cut_108 : decode cX11_cut 108 = .ok (.aload_n 0, 1) := by decide +kernel
theorem dX11_cut_109 : decode cX11_cut 109 = .ok (.getfield 36, 3) := by decide +kernel
theorem dX11_cut_112 : decode cX11_cut 112 = .ok (.iload_n 2, 1) := by decide +kernel
theorem dX11_cut_113 : decode cX11_cut 113 = .ok (.aaload, 1) := by decide +kernel
theorem dX11_cut_114 : decode cX11_cut 114 = .ok (.invokevirtual 200, 3) := by decide +kernel
theorem dX11_cut_117 : decode cX11_cut 117 = .ok (.aload_n 0, 1) := by decide +kernel
theorem dX11_cut_118 : decode cX11_cut 118 = .ok (.getfield 10, 3) := by decide +kernel
theorem dX11_cut_121 : decode cX11_cut 121 = .ok (.getfield 324, 3) := by decide +kernel
theorem dX11_cut_124 : decode cX11_cut 124 = .ok (.if_icmp .ge 13, 3) := by decide +kernel
theorem dX11_cut_127 : decode cX11_cut 127 = .ok (.aload_n 0, 1) := by decide +kernel
theorem dX11_cut_128 : decode cX11_cut 128 = .ok (.aload_n 0, 1) := by decide +kernel
theorem dX11_cut_129 : decode cX11_cut 129 = .ok (.getfield 36, 3) := by decide +kernel
theorem dX11_cut_132 : decode cX11_cut 132 = .ok (.iload_n 2, 1) := by decide +kernel
theorem dX11_cut_133 : decode cX11_cut 133 = .ok (.aaload, 1) := by decide +kernel
theorem dX11_cut_134 : decode cX11_cut 134 = .ok (.invokevirtual 263, 3) := by decide +kernel
theorem dX11_cut_137 : decode cX11_cut 137 = .ok (.iinc 2 1, 3) := by decide +kernel
theorem dX11_cut_140 : decode cX11_cut 140 = .ok (.goto (-61), 3) := by decide +kernel
theorem dX11_cut_143 : decode cX11_cut 143 = .ok (.iload_n 1, 1) := by decide +kernel
theorem dX11_cut_144 : decode cX11_cut 144 = .ok (.ireturn, 1) := by decide +kernel
theorem dX11_filled_0 : decode cX11_filled 0 = .ok (.aload_n 0, 1) := by decide +kernel
theorem dX11_filled_1 : decode cX11_filled 1 = .ok (.iload_n 1, 1) := by decide +kernel
theorem dX11_filled_2 : decode cX11_filled 2 = .ok (.invokevirtual 310, 3) := by decide +kernel
theorem dX11_filled_5 : decode cX11_filled 5 = .ok (.astore_n 2, 1) := by decide +kernel
theorem dX11_filled_6 : decode cX11_filled 6 = .ok (.aload_n 2, 1) := by decide +kernel
theorem dX11_filled_7 : decode cX11_filled 7 = .ok (.ifnonnull 6, 3) := by decide +kernel
theorem dX11_filled_10 : decode cX11_filled 10 = .ok (.bipush (-2), 2) := by decide +kernel
theorem dX11_filled_12 : decode cX11_filled 12 = .ok (.ireturn, 1) := by decide +kernel
theorem dX11_filled_13 : decode cX11_filled 13 = .ok (.aload_n 2, 1) := by decide +kernel
theorem dX11_filled_14 : decode cX11_filled 14 = .ok (.getfield 327, 3) := by decide +kernel
theorem dX11_filled_17 : decode cX11_filled 17 = .ok (.ifCond .eq 7, 3) := by decide +kernel
theorem dX11_filled_20 : decode cX11_filled 20 = .ok (.iconst 1, 1) := by decide +kernel
theorem dX11_filled_21 : decode cX11_filled 21 = .ok (.goto 4, 3) := by decide +kernel
theorem dX11_filled_24 : decode cX11_filled 24 = .ok (.iconst 0, 1) := by decide +kernel
theorem dX11_filled_25 : decode cX11_filled 25 = .ok (.ireturn, 1) := by decide +kernel
theorem dX11_note_0 : decode cX11_note 0 = .ok (.iload_n 1, 1) := by decide +kernel
theorem dX11_note_1 : decode cX11_note 1 = .ok (.iconst 0, 1) := by decide +kernel
theorem dX11_note_2 : decode cX11_note 2 = .ok (.bipush 7, 2) := by decide +kernel
theorem dX11_note_4 : decode cX11_note 4 = .ok (.invokestatic 89, 3) := by decide +kernel
theorem dX11_note_7 : decode cX11_note 7 = .ok (.ifCond .ne 6, 3) := by decide +kernel
theorem dX11_note_10 : decode cX11_note 10 = .ok (.bipush (-3), 2) := by decide +kernel
theorem dX11_note_12 : decode cX11_note 12 = .ok (.ireturn, 1) := by decide +kernel
theorem dX11_note_13 : decode cX11_note 13 = .ok (.aload_n 0, 1) := by decide +kernel
theorem dX11_note_14 : decode cX11_note 14 = .ok (.getfield 49, 3) := by decide +kernel
theorem dX11_note_17 : decode cX11_note 17 = .ok (.iload_n 1, 1) := by decide +kernel
theorem dX11_note_18 : decode cX11_note 18 = .ok (.iload_n 2, 1) := by decide +kernel
theorem dX11_note_19 : decode cX11_note 19 = .ok (.invokevirtual 330, 3) := by decide +kernel
theorem dX11_note_22 : decode cX11_note 22 = .ok (.ireturn, 1) := by decide +kernel
theorem dX11_tally_0 : decode cX11_tally 0 = .ok (.iload_n 1, 1) := by decide +kernel
theorem dX11_tally_1 : decode cX11_tally 1 = .ok (.invokestatic 334, 3) := by decide +kernel
theorem dX11_tally_4 : decode cX11_tally 4 = .ok (.ifCond .ne 6, 3) := by decide +kernel
theorem dX11_tally_7 : decode cX11_tally 7 = .ok (.bipush (-2), 2) := by decide +kernel
theorem dX11_tally_9 : decode cX11_tally 9 = .ok (.ireturn, 1) := by decide +kernel
theorem dX11_tally_10 : decode cX11_tally 10 = .ok (.iload_n 2, 1) := by decide +kernel
theorem dX11_tally_11 : decode cX11_tally 11 = .ok (.iconst 0, 1) := by decide +kernel
theorem dX11_tally_12 : decode cX11_tally 12 = .ok (.iconst 3, 1) := by decide +kernel
theorem dX11_tally_13 : decode cX11_tally 13 = .ok (.invokestatic 89, 3) := by decide +kernel
theorem dX11_tally_16 : decode cX11_tally 16 = .ok (.ifCond .eq 15, 3) := by decide +kernel
theorem dX11_tally_19 : decode cX11_tally 19 = .ok (.aload_n 0, 1) := by decide +kernel
theorem dX11_tally_20 : decode cX11_tally 20 = .ok (.getfield 49, 3) := by decide +kernel
theorem dX11_tally_23 : decode cX11_tally 23 = .ok (.iload_n 1, 1) := by decide +kernel
theorem dX11_tally_24 : decode cX11_tally 24 = .ok (.iload_n 2, 1) := by decide +kernel
theorem dX11_tally_25 : decode cX11_tally 25 = .ok (.invokevirtual 337, 3) := by decide +kernel
theorem dX11_tally_28 : decode cX11_tally 28 = .ok (.goto 5, 3) := by decide +kernel
theorem dX11_tally_31 : decode cX11_tally 31 = .ok (.bipush (-3), 2) := by decide +kernel
theorem dX11_tally_33 : decode cX11_tally 33 = .ok (.ireturn, 1) := by decide +kernel
theorem dX11_by_0 : decode cX11_by 0 = .ok (.iload_n 1, 1) := by decide +kernel
theorem dX11_by_1 : decode cX11_by 1 = .ok (.invokestatic 334, 3) := by decide +kernel
theorem dX11_by_4 : decode cX11_by 4 = .ok (.ifCond .eq 12, 3) := by decide +kernel
theorem dX11_by_7 : decode cX11_by 7 = .ok (.iload_n 2, 1) := by decide +kernel
theorem dX11_by_8 : decode cX11_by 8 = .ok (.iconst 0, 1) := by decide +kernel
theorem dX11_by_9 : decode cX11_by 9 = .ok (.iconst 1, 1) := by decide +kernel
theorem dX11_by_10 : decode cX11_by 10 = .ok (.invokestatic 89, 3) := by decide +kernel
theorem dX11_by_13 : decode cX11_by 13 = .ok (.ifCond .ne 7, 3) := by decide +kernel
theorem dX11_by_16 : decode cX11_by 16 = .ok (.ldc_w 340, 3) := by decide +kernel
theorem dX11_by_19 : decode cX11_by 19 = .ok (.ireturn, 1) := by decide +kernel
theorem dX11_by_20 : decode cX11_by 20 = .ok (.aload_n 0, 1) := by decide +kernel
theorem dX11_by_21 : decode cX11_by 21 = .ok (.getfield 49, 3) := by decide +kernel
theorem dX11_by_24 : decode cX11_by 24 = .ok (.iload_n 1, 1) := by decide +kernel
theorem dX11_by_25 : decode cX11_by 25 = .ok (.invokevirtual 341, 3) := by decide +kernel
theorem dX11_by_28 : decode cX11_by 28 = .ok (.istore_n 3, 1) := by decide +kernel
theorem dX11_by_29 : decode cX11_by 29 = .ok (.iload_n 3, 1) := by decide +kernel
theorem dX11_by_30 : decode cX11_by 30 = .ok (.ifCond .ne 7, 3) := by decide +kernel
theorem dX11_by_33 : decode cX11_by 33 = .ok (.ldc_w 340, 3) := by decide +kernel
theorem dX11_by_36 : decode cX11_by 36 = .ok (.ireturn, 1) := by decide +kernel
theorem dX11_by_37 : decode cX11_by 37 = .ok (.aload_n 0, 1) := by decide +kernel
theorem dX11_by_38 : decode cX11_by 38 = .ok (.getfield 49, 3) := by decide +kernel
theorem dX11_by_41 : decode cX11_by 41 = .ok (.iload_n 1, 1) := by decide +kernel
theorem dX11_by_42 : decode cX11_by 42 = .ok (.invokevirtual 344, 3) := by decide +kernel
theorem dX11_by_45 : decode cX11_by 45 = .ok (.istore 4, 2) := by decide +kernel
theorem dX11_by_47 : decode cX11_by 47 = .ok (.iload_n 2, 1) := by decide +kernel
theorem dX11_by_48 : decode cX11_by 48 = .ok (.ifCond .ne 9, 3) := by decide +kernel
theorem dX11_by_51 : decode cX11_by 51 = .ok (.iload 4, 2) := by decide +kernel
theorem dX11_by_53 : decode cX11_by 53 = .ok (.i2l, 1) := by decide +kernel
theorem dX11_by_54 : decode cX11_by 54 = .ok (.goto 5, 3) := by decide +kernel
theorem dX11_by_57 : decode cX11_by 57 = .ok (.iload_n 3, 1) := by decide +kernel
theorem dX11_by_58 : decode cX11_by 58 = .ok (.i2l, 1) := by decide +kernel
theorem dX11_by_59 : decode cX11_by 59 = .ok (.iload 4, 2) := by decide +kernel
theorem dX11_by_61 : decode cX11_by 61 = .ok (.invokestatic 347, 3) := by decide +kernel
theorem dX11_by_64 : decode cX11_by 64 = .ok (.iload_n 3, 1) := by decide +kernel
theorem dX11_by_65 : decode cX11_by 65 = .ok (.invokestatic 350, 3) := by decide +kernel
theorem dX11_by_68 : decode cX11_by 68 = .ok (.i2l, 1) := by decide +kernel
theorem dX11_by_69 : decode cX11_by 69 = .ok (.invokestatic 353, 3) := by decide +kernel
theorem dX11_by_72 : decode cX11_by 72 = .ok (.l2i, 1) := by decide +kernel
theorem dX11_by_73 : decode cX11_by 73 = .ok (.ireturn, 1) := by decide +kernel
theorem dX11_chance_0 : decode cX11_chance 0 = .ok (.iload_n 1, 1) := by decide +kernel
theorem dX11_chance_1 : decode cX11_chance 1 = .ok (.invokestatic 334, 3) := by decide +kernel
theorem dX11_chance_4 : decode cX11_chance 4 = .ok (.ifCond .ne 6, 3) := by decide +kernel
theorem dX11_chance_7 : decode cX11_chance 7 = .ok (.bipush (-2), 2) := by decide +kernel
theorem dX11_chance_9 : decode cX11_chance 9 = .ok (.ireturn, 1) := by decide +kernel
theorem dX11_chance_10 : decode cX11_chance 10 = .ok (.aload_n 0, 1) := by decide +kernel
theorem dX11_chance_11 : decode cX11_chance 11 = .ok (.getfield 49, 3) := by decide +kernel
theorem dX11_chance_14 : decode cX11_chance 14 = .ok (.iload_n 1, 1) := by decide +kernel
theorem dX11_chance_15 : decode cX11_chance 15 = .ok (.invokevirtual 357, 3) := by decide +kernel
theorem dX11_chance_18 : decode cX11_chance 18 = .ok (.ifCond .eq 7, 3) := by decide +kernel
theorem dX11_chance_21 : decode cX11_chance 21 = .ok (.iconst 1, 1) := by decide +kernel
theorem dX11_chance_22 : decode cX11_chance 22 = .ok (.goto 4, 3) := by decide +kernel
theorem dX11_chance_25 : decode cX11_chance 25 = .ok (.iconst 0, 1) := by decide +kernel
theorem dX11_chance_26 : decode cX11_chance 26 = .ok (.ireturn, 1) := by decide +kernel
theorem dX11_cause_0 : decode cX11_cause 0 = .ok (.iconst (-1), 1) := by decide +kernel
theorem dX11_cause_1 : decode cX11_cause 1 = .ok (.istore_n 1, 1) := by decide +kernel
theorem dX11_cause_2 : decode cX11_cause 2 = .ok (.iconst 0, 1) := by decide +kernel
theorem dX11_cause_3 : decode cX11_cause 3 = .ok (.istore_n 2, 1) := by decide +kernel
theorem dX11_cause_4 : decode cX11_cause 4 = .ok (.iload_n 2, 1) := by decide +kernel
theorem dX11_cause_5 : decode cX11_cause 5 = .ok (.iconst 3, 1) := by decide +kernel
theorem dX11_cause_6 : decode cX11_cause 6 = .ok (.if_icmp .ge 39, 3) := by decide +kernel
theorem dX11_cause_9 : decode cX11_cause 9 = .ok (.aload_n 0, 1) := by decide +kernel
theorem dX11_cause_10 : decode cX11_cause 10 = .ok (.getfield 49, 3) := by decide +kernel
theorem dX11_cause_13 : decode cX11_cause 13 = .ok (.iload_n 2, 1) := by decide +kernel
theorem dX11_cause_14 : decode cX11_cause 14 = .ok (.invokevirtual 357, 3) := by decide +kernel
theorem dX11_cause_17 : decode cX11_cause 17 = .ok (.ifCond .eq 22, 3) := by decide +kernel
theorem dX11_cause_20 : decode cX11_cause 20 = .ok (.iload_n 1, 1) := by decide +kernel
theorem dX11_cause_21 : decode cX11_cause 21 = .ok (.iconst (-1), 1) := by decide +kernel
theorem dX11_cause_22 : decode cX11_cause 22 = .ok (.if_icmp .eq 15, 3) := by decide +kernel
theorem dX11_cause_25 : decode cX11_cause 25 = .ok (.aload_n 0, 1) := by decide +kernel
theorem dX11_cause_26 : decode cX11_cause 26 = .ok (.getfield 49, 3) := by decide +kernel
theorem dX11_cause_29 : decode cX11_cause 29 = .ok (.iload_n 2, 1) := by decide +kernel
theorem dX11_cause_30 : decode cX11_cause 30 = .ok (.iload_n 1, 1) := by decide +kernel
theorem dX11_cause_31 : decode cX11_cause 31 = .ok (.invokevirtual 360, 3) := by decide +kernel
theorem dX11_cause_34 : decode cX11_cause 34 = .ok (.ifCond .eq 5, 3) := by decide +kernel
theorem dX11_cause_37 : decode cX11_cause 37 = .ok (.iload_n 2, 1) := by decide +kernel
theorem dX11_cause_38 : decode cX11_cause 38 = .ok (.istore_n 1, 1) := by decide +kernel
theorem dX11_cause_39 : decode cX11_cause 39 = .ok (.iinc 2 1, 3) := by decide +kernel
theorem dX11_cause_42 : decode cX11_cause 42 = .ok (.goto (-38), 3) := by decide +kernel
theorem dX11_cause_45 : decode cX11_cause 45 = .ok (.iload_n 1, 1) := by decide +kernel
theorem dX11_cause_46 : decode cX11_cause 46 = .ok (.ireturn, 1) := by decide +kernel
theorem dX11_account_0 : decode cX11_account 0 = .ok (.iload_n 1, 1) := by decide +kernel
theorem dX11_account_1 : decode cX11_account 1 = .ok (.tableswitch 60 0 4 #[35, 40, 45, 50, 55], 35) := by decide +kernel
theorem dX11_account_36 : decode cX11_account 36 = .ok (.aload_n 0, 1) := by decide +kernel
theorem dX11_account_37 : decode cX11_account 37 = .ok (.getfield 172, 3) := by decide +kernel
theorem dX11_account_40 : decode cX11_account 40 = .ok (.lreturn, 1) := by decide +kernel
theorem dX11_account_41 : decode cX11_account 41 = .ok (.aload_n 0, 1) := by decide +kernel
theorem dX11_account_42 : decode cX11_account 42 = .ok (.invokevirtual 363, 3) := by decide +kernel
theorem dX11_account_45 : decode cX11_account 45 = .ok (.lreturn, 1) := by decide +kernel
theorem dX11_account_46 : decode cX11_account 46 = .ok (.aload_n 0, 1) := by decide +kernel
theorem dX11_account_47 : decode cX11_account 47 = .ok (.getfield 367, 3) := by decide +kernel
theorem dX11_account_50 : decode cX11_account 50 = .ok (.lreturn, 1) := by decide +kernel
theorem dX11_account_51 : decode cX11_account 51 = .ok (.aload_n 0, 1) := by decide +kernel
theorem dX11_account_52 : decode cX11_account 52 = .ok (.getfield 274, 3) := by decide +kernel
theorem dX11_account_55 : decode cX11_account 55 = .ok (.lreturn, 1) := by decide +kernel
theorem dX11_account_56 : decode cX11_account 56 = .ok (.aload_n 0, 1) := by decide +kernel
theorem dX11_account_57 : decode cX11_account 57 = .ok (.getfield 257, 3) := by decide +kernel
theorem dX11_account_60 : decode cX11_account 60 = .ok (.lreturn, 1) := by decide +kernel
theorem dX11_account_61 : decode cX11_account 61 = .ok (.ldc2_w 370, 3) := by decide +kernel
theorem dX11_account_64 : decode cX11_account 64 = .ok (.lreturn, 1) := by decide +kernel
theorem dX11_count_0 : decode cX11_count 0 = .ok (.iload_n 1, 1) := by decide +kernel
theorem dX11_count_1 : decode cX11_count 1 = .ok (.tableswitch 81 0 6 #[43, 48, 53, 58, 63, 71, 76], 43) := by decide +kernel
theorem dX11_count_44 : decode cX11_count 44 = .ok (.aload_n 0, 1) := by decide +kernel
theorem dX11_count_45 : decode cX11_count 45 = .ok (.getfield 166, 3) := by decide +kernel
theorem dX11_count_48 : decode cX11_count 48 = .ok (.ireturn, 1) := by decide +kernel
theorem dX11_count_49 : decode cX11_count 49 = .ok (.aload_n 0, 1) := by decide +kernel
theorem dX11_count_50 : decode cX11_count 50 = .ok (.invokevirtual 372, 3) := by decide +kernel
theorem dX11_count_53 : decode cX11_count 53 = .ok (.ireturn, 1) := by decide +kernel
theorem dX11_count_54 : decode cX11_count 54 = .ok (.aload_n 0, 1) := by decide +kernel
theorem dX11_count_55 : decode cX11_count 55 = .ok (.getfield 298, 3) := by decide +kernel
theorem dX11_count_58 : decode cX11_count 58 = .ok (.ireturn, 1) := by decide +kernel
theorem dX11_count_59 : decode cX11_count 59 = .ok (.aload_n 0, 1) := by decide +kernel
theorem dX11_count_60 : decode cX11_count 60 = .ok (.invokevirtual 375, 3) := by decide +kernel
theorem dX11_count_63 : decode cX11_count 63 = .ok (.ireturn, 1) := by decide +kernel
theorem dX11_count_64 : decode cX11_count 64 = .ok (.aload_n 0, 1) := by decide +kernel
theorem dX11_count_65 : decode cX11_count 65 = .ok (.getfield 49, 3) := by decide +kernel
theorem dX11_count_68 : decode cX11_count 68 = .ok (.getfield 378, 3) := by decide +kernel
theorem dX11_count_71 : decode cX11_count 71 = .ok (.ireturn, 1) := by decide +kernel
theorem dX11_count_72 : decode cX11_count 72 = .ok (.aload_n 0, 1) := by decide +kernel
theorem dX11_count_73 : decode cX11_count 73 = .ok (.getfield 379, 3) := by decide +kernel
theorem dX11_count_76 : decode cX11_count 76 = .ok (.ireturn, 1) := by decide +kernel
theorem dX11_count_77 : decode cX11_count 77 = .ok (.aload_n 0, 1) := by decide +kernel
theorem dX11_count_78 : decode cX11_count 78 = .ok (.getfield 260, 3) := by decide +kernel
theorem dX11_count_81 : decode cX11_count 81 = .ok (.ireturn, 1) := by decide +kernel
theorem dX11_count_82 : decode cX11_count 82 = .ok (.bipush (-3), 2) := by decide +kernel
theorem dX11_count_84 : decode cX11_count 84 = .ok (.ireturn, 1) := by decide +kernel
theorem dX11_metalAt_0 : decode cX11_metalAt 0 = .ok (.iload_n 1, 1) := by decide +kernel
theorem dX11_metalAt_1 : decode cX11_metalAt 1 = .ok (.ifCond .lt 12, 3) := by decide +kernel
theorem dX11_metalAt_4 : decode cX11_metalAt 4 = .ok (.iload_n 1, 1) := by decide +kernel
theorem dX11_metalAt_5 : decode cX11_metalAt 5 = .ok (.aload_n 0, 1) := by decide +kernel
theorem dX11_metalAt_6 : decode cX11_metalAt 6 = .ok (.getfield 18, 3) := by decide +kernel
theorem dX11_metalAt_9 : decode cX11_metalAt 9 = .ok (.arraylength, 1) := by decide +kernel
theorem dX11_metalAt_10 : decode cX11_metalAt 10 = .ok (.if_icmp .lt 7, 3) := by decide +kernel
theorem dX11_metalAt_13 : decode cX11_metalAt 13 = .ok (.aconst_null, 1) := by decide +kernel
theorem dX11_metalAt_14 : decode cX11_metalAt 14 = .ok (.goto 9, 3) := by decide +kernel
theorem dX11_metalAt_17 : decode cX11_metalAt 17 = .ok (.aload_n 0, 1) := by decide +kernel
theorem dX11_metalAt_18 : decode cX11_metalAt 18 = .ok (.getfield 18, 3) := by decide +kernel
theorem dX11_metalAt_21 : decode cX11_metalAt 21 = .ok (.iload_n 1, 1) := by decide +kernel
theorem dX11_metalAt_22 : decode cX11_metalAt 22 = .ok (.aaload, 1) := by decide +kernel
theorem dX11_metalAt_23 : decode cX11_metalAt 23 = .ok (.areturn, 1) := by decide +kernel
theorem dX11_pullerAt_0 : decode cX11_pullerAt 0 = .ok (.iload_n 1, 1) := by decide +kernel
theorem dX11_pullerAt_1 : decode cX11_pullerAt 1 = .ok (.ifCond .lt 12, 3) := by decide +kernel
theorem dX11_pullerAt_4 : decode cX11_pullerAt 4 = .ok (.iload_n 1, 1) := by decide +kernel
theorem dX11_pullerAt_5 : decode cX11_pullerAt 5 = .ok (.aload_n 0, 1) := by decide +kernel
theorem dX11_pullerAt_6 : decode cX11_pullerAt 6 = .ok (.getfield 24, 3) := by decide +kernel
theorem dX11_pullerAt_9 : decode cX11_pullerAt 9 = .ok (.arraylength, 1) := by decide +kernel
theorem dX11_pullerAt_10 : decode cX11_pullerAt 10 = .ok (.if_icmp .lt 7, 3) := by decide +kernel
theorem dX11_pullerAt_13 : decode cX11_pullerAt 13 = .ok (.aconst_null, 1) := by decide +kernel
theorem dX11_pullerAt_14 : decode cX11_pullerAt 14 = .ok (.goto 9, 3) := by decide +kernel
theorem dX11_pullerAt_17 : decode cX11_pullerAt 17 = .ok (.aload_n 0, 1) := by decide +kernel
theorem dX11_pullerAt_18 : decode cX11_pullerAt 18 = .ok (.getfield 24, 3) := by decide +kernel
theorem dX11_pullerAt_21 : decode cX11_pullerAt 21 = .ok (.iload_n 1, 1) := by decide +kernel
theorem dX11_pullerAt_22 : decode cX11_pullerAt 22 = .ok (.aaload, 1) := by decide +kernel
theorem dX11_pullerAt_23 : decode cX11_pullerAt 23 = .ok (.areturn, 1) := by decide +kernel
theorem dX11_plateAt_0 : decode cX11_plateAt 0 = .ok (.iload_n 1, 1) := by decide +kernel
theorem dX11_plateAt_1 : decode cX11_plateAt 1 = .ok (.ifCond .lt 12, 3) := by decide +kernel
theorem dX11_plateAt_4 : decode cX11_plateAt 4 = .ok (.iload_n 1, 1) := by decide +kernel
theorem dX11_plateAt_5 : decode cX11_plateAt 5 = .ok (.aload_n 0, 1) := by decide +kernel
theorem dX11_plateAt_6 : decode cX11_plateAt 6 = .ok (.getfield 30, 3) := by decide +kernel
theorem dX11_plateAt_9 : decode cX11_plateAt 9 = .ok (.arraylength, 1) := by decide +kernel
theorem dX11_plateAt_10 : decode cX11_plateAt 10 = .ok (.if_icmp .lt 7, 3) := by decide +kernel
theorem dX11_plateAt_13 : decode cX11_plateAt 13 = .ok (.aconst_null, 1) := by decide +kernel
theorem dX11_plateAt_14 : decode cX11_plateAt 14 = .ok (.goto 9, 3) := by decide +kernel
theorem dX11_plateAt_17 : decode cX11_plateAt 17 = .ok (.aload_n 0, 1) := by decide +kernel
theorem dX11_plateAt_18 : decode cX11_plateAt 18 = .ok (.getfield 30, 3) := by decide +kernel
theorem dX11_plateAt_21 : decode cX11_plateAt 21 = .ok (.iload_n 1, 1) := by decide +kernel
theorem dX11_plateAt_22 : decode cX11_plateAt 22 = .ok (.aaload, 1) := by decide +kernel
theorem dX11_plateAt_23 : decode cX11_plateAt 23 = .ok (.areturn, 1) := by decide +kernel
theorem dX11_holeAt_0 : decode cX11_holeAt 0 = .ok (.aload_n 0, 1) := by decide +kernel
theorem dX11_holeAt_1 : decode cX11_holeAt 1 = .ok (.iload_n 1, 1) := by decide +kernel
theorem dX11_holeAt_2 : decode cX11_holeAt 2 = .ok (.invokevirtual 132, 3) := by decide +kernel
theorem dX11_holeAt_5 : decode cX11_holeAt 5 = .ok (.astore_n 3, 1) := by decide +kernel
theorem dX11_holeAt_6 : decode cX11_holeAt 6 = .ok (.aload_n 3, 1) := by decide +kernel
theorem dX11_holeAt_7 : decode cX11_holeAt 7 = .ok (.ifnonnull 7, 3) := by decide +kernel
theorem dX11_holeAt_10 : decode cX11_holeAt 10 = .ok (.aconst_null, 1) := by decide +kernel
theorem dX11_holeAt_11 : decode cX11_holeAt 11 = .ok (.goto 8, 3) := by decide +kernel
theorem dX11_holeAt_14 : decode cX11_holeAt 14 = .ok (.aload_n 3, 1) := by decide +kernel
theorem dX11_holeAt_15 : decode cX11_holeAt 15 = .ok (.iload_n 2, 1) := by decide +kernel
theorem dX11_holeAt_16 : decode cX11_holeAt 16 = .ok (.invokevirtual 382, 3) := by decide +kernel
theorem dX11_holeAt_19 : decode cX11_holeAt 19 = .ok (.areturn, 1) := by decide +kernel
theorem dX11_coilAt_0 : decode cX11_coilAt 0 = .ok (.iload_n 1, 1) := by decide +kernel
theorem dX11_coilAt_1 : decode cX11_coilAt 1 = .ok (.ifCond .lt 12, 3) := by decide +kernel
theorem dX11_coilAt_4 : decode cX11_coilAt 4 = .ok (.iload_n 1, 1) := by decide +kernel
theorem dX11_coilAt_5 : decode cX11_coilAt 5 = .ok (.aload_n 0, 1) := by decide +kernel
theorem dX11_coilAt_6 : decode cX11_coilAt 6 = .ok (.getfield 36, 3) := by decide +kernel
theorem dX11_coilAt_9 : decode cX11_coilAt 9 = .ok (.arraylength, 1) := by decide +kernel
theorem dX11_coilAt_10 : decode cX11_coilAt 10 = .ok (.if_icmp .lt 5, 3) := by decide +kernel
theorem dX11_coilAt_13 : decode cX11_coilAt 13 = .ok (.aconst_null, 1) := by decide +kernel
theorem dX11_coilAt_14 : decode cX11_coilAt 14 = .ok (.areturn, 1) := by decide +kernel
theorem dX11_coilAt_15 : decode cX11_coilAt 15 = .ok (.aload_n 0, 1) := by decide +kernel
theorem dX11_coilAt_16 : decode cX11_coilAt 16 = .ok (.getfield 36, 3) := by decide +kernel
theorem dX11_coilAt_19 : decode cX11_coilAt 19 = .ok (.iload_n 1, 1) := by decide +kernel
theorem dX11_coilAt_20 : decode cX11_coilAt 20 = .ok (.aaload, 1) := by decide +kernel
theorem dX11_coilAt_21 : decode cX11_coilAt 21 = .ok (.astore_n 2, 1) := by decide +kernel
theorem dX11_coilAt_22 : decode cX11_coilAt 22 = .ok (.aload_n 2, 1) := by decide +kernel
theorem dX11_coilAt_23 : decode cX11_coilAt 23 = .ok (.ifnull 10, 3) := by decide +kernel
theorem dX11_coilAt_26 : decode cX11_coilAt 26 = .ok (.aload_n 2, 1) := by decide +kernel
theorem dX11_coilAt_27 : decode cX11_coilAt 27 = .ok (.invokevirtual 385, 3) := by decide +kernel
theorem dX11_coilAt_30 : decode cX11_coilAt 30 = .ok (.ifCond .eq 7, 3) := by decide +kernel
theorem dX11_coilAt_33 : decode cX11_coilAt 33 = .ok (.aconst_null, 1) := by decide +kernel
theorem dX11_coilAt_34 : decode cX11_coilAt 34 = .ok (.goto 4, 3) := by decide +kernel
theorem dX11_coilAt_37 : decode cX11_coilAt 37 = .ok (.aload_n 2, 1) := by decide +kernel
theorem dX11_coilAt_38 : decode cX11_coilAt 38 = .ok (.areturn, 1) := by decide +kernel
theorem dX11_orderAt_0 : decode cX11_orderAt 0 = .ok (.iload_n 1, 1) := by decide +kernel
theorem dX11_orderAt_1 : decode cX11_orderAt 1 = .ok (.ifCond .lt 12, 3) := by decide +kernel
theorem dX11_orderAt_4 : decode cX11_orderAt 4 = .ok (.iload_n 1, 1) := by decide +kernel
theorem dX11_orderAt_5 : decode cX11_orderAt 5 = .ok (.aload_n 0, 1) := by decide +kernel
theorem dX11_orderAt_6 : decode cX11_orderAt 6 = .ok (.getfield 42, 3) := by decide +kernel
theorem dX11_orderAt_9 : decode cX11_orderAt 9 = .ok (.arraylength, 1) := by decide +kernel
theorem dX11_orderAt_10 : decode cX11_orderAt 10 = .ok (.if_icmp .lt 7, 3) := by decide +kernel
theorem dX11_orderAt_13 : decode cX11_orderAt 13 = .ok (.aconst_null, 1) := by decide +kernel
theorem dX11_orderAt_14 : decode cX11_orderAt 14 = .ok (.goto 9, 3) := by decide +kernel
theorem dX11_orderAt_17 : decode cX11_orderAt 17 = .ok (.aload_n 0, 1) := by decide +kernel
theorem dX11_orderAt_18 : decode cX11_orderAt 18 = .ok (.getfield 42, 3) := by decide +kernel
theorem dX11_orderAt_21 : decode cX11_orderAt 21 = .ok (.iload_n 1, 1) := by decide +kernel
theorem dX11_orderAt_22 : decode cX11_orderAt 22 = .ok (.aaload, 1) := by decide +kernel
theorem dX11_orderAt_23 : decode cX11_orderAt 23 = .ok (.areturn, 1) := by decide +kernel
theorem dX11_addCoil_0 : decode cX11_addCoil 0 = .ok (.aload_n 0, 1) := by decide +kernel
theorem dX11_addCoil_1 : decode cX11_addCoil 1 = .ok (.getfield 166, 3) := by decide +kernel
theorem dX11_addCoil_4 : decode cX11_addCoil 4 = .ok (.ifCond .lt 15, 3) := by decide +kernel
theorem dX11_addCoil_7 : decode cX11_addCoil 7 = .ok (.aload_n 0, 1) := by decide +kernel
theorem dX11_addCoil_8 : decode cX11_addCoil 8 = .ok (.getfield 166, 3) := by decide +kernel
theorem dX11_addCoil_11 : decode cX11_addCoil 11 = .ok (.aload_n 0, 1) := by decide +kernel
theorem dX11_addCoil_12 : decode cX11_addCoil 12 = .ok (.getfield 36, 3) := by decide +kernel
theorem dX11_addCoil_15 : decode cX11_addCoil 15 = .ok (.arraylength, 1) := by decide +kernel
theorem dX11_addCoil_16 : decode cX11_addCoil 16 = .ok (.if_icmp .lt 6, 3) := by decide +kernel
theorem dX11_addCoil_19 : decode cX11_addCoil 19 = .ok (.bipush (-8), 2) := by decide +kernel
theorem dX11_addCoil_21 : decode cX11_addCoil 21 = .ok (.ireturn, 1) := by decide +kernel
theorem dX11_addCoil_22 : decode cX11_addCoil 22 = .ok (.aload_n 0, 1) := by decide +kernel
theorem dX11_addCoil_23 : decode cX11_addCoil 23 = .ok (.getfield 36, 3) := by decide +kernel
theorem dX11_addCoil_26 : decode cX11_addCoil 26 = .ok (.aload_n 0, 1) := by decide +kernel
theorem dX11_addCoil_27 : decode cX11_addCoil 27 = .ok (.getfield 166, 3) := by decide +kernel
theorem dX11_addCoil_30 : decode cX11_addCoil 30 = .ok (.aload_n 1, 1) := by decide +kernel
theorem dX11_addCoil_31 : decode cX11_addCoil 31 = .ok (.aastore, 1) := by decide +kernel
theorem dX11_addCoil_32 : decode cX11_addCoil 32 = .ok (.aload_n 0, 1) := by decide +kernel
theorem dX11_addCoil_33 : decode cX11_addCoil 33 = .ok (.dup, 1) := by decide +kernel
theorem dX11_addCoil_34 : decode cX11_addCoil 34 = .ok (.getfield 166, 3) := by decide +kernel
theorem dX11_addCoil_37 : decode cX11_addCoil 37 = .ok (.dup_x1, 1) := by decide +kernel
theorem dX11_addCoil_38 : decode cX11_addCoil 38 = .ok (.iconst 1, 1) := by decide +kernel
theorem dX11_addCoil_39 : decode cX11_addCoil 39 = .ok (.iadd, 1) := by decide +kernel
theorem dX11_addCoil_40 : decode cX11_addCoil 40 = .ok (.putfield 166, 3) := by decide +kernel
theorem dX11_addCoil_43 : decode cX11_addCoil 43 = .ok (.ireturn, 1) := by decide +kernel
theorem dX11_pullThrough_0 : decode cX11_pullThrough 0 = .ok (.aload_n 1, 1) := by decide +kernel
theorem dX11_pullThrough_1 : decode cX11_pullThrough 1 = .ok (.getfield 197, 3) := by decide +kernel
theorem dX11_pullThrough_4 : decode cX11_pullThrough 4 = .ok (.istore 4, 2) := by decide +kernel
theorem dX11_pullThrough_6 : decode cX11_pullThrough 6 = .ok (.aload_n 1, 1) := by decide +kernel
theorem dX11_pullThrough_7 : decode cX11_pullThrough 7 = .ok (.aload_n 2, 1) := by decide +kernel
theorem dX11_pullThrough_8 : decode cX11_pullThrough 8 = .ok (.invokevirtual 155, 3) := by decide +kernel
theorem dX11_pullThrough_11 : decode cX11_pullThrough 11 = .ok (.putfield 194, 3) := by decide +kernel
theorem dX11_pullThrough_14 : decode cX11_pullThrough 14 = .ok (.aload_n 1, 1) := by decide +kernel
theorem dX11_pullThrough_15 : decode cX11_pullThrough 15 = .ok (.aload_n 0, 1) := by decide +kernel
theorem dX11_pullThrough_16 : decode cX11_pullThrough 16 = .ok (.getfield 58, 3) := by decide +kernel
theorem dX11_pullThrough_19 : decode cX11_pullThrough 19 = .ok (.getfield 225, 3) := by decide +kernel
theorem dX11_pullThrough_22 : decode cX11_pullThrough 22 = .ok (.putfield 197, 3) := by decide +kernel
theorem dX11_pullThrough_25 : decode cX11_pullThrough 25 = .ok (.aload_n 1, 1) := by decide +kernel
theorem dX11_pullThrough_26 : decode cX11_pullThrough 26 = .ok (.invokevirtual 200, 3) := by decide +kernel
theorem dX11_pullThrough_29 : decode cX11_pullThrough 29 = .ok (.istore 5, 2) := by decide +kernel
theorem dX11_pullThrough_31 : decode cX11_pullThrough 31 = .ok (.aload_n 2, 1) := by decide +kernel
theorem dX11_pullThrough_32 : decode cX11_pullThrough 32 = .ok (.dup, 1) := by decide +kernel
theorem dX11_pullThrough_33 : decode cX11_pullThrough 33 = .ok (.getfield 152, 3) := by decide +kernel
theorem dX11_pullThrough_36 : decode cX11_pullThrough 36 = .ok (.iload 5, 2) := by decide +kernel
theorem dX11_pullThrough_38 : decode cX11_pullThrough 38 = .ok (.i2l, 1) := by decide +kernel
theorem dX11_pullThrough_39 : decode cX11_pullThrough 39 = .ok (.aload_n 1, 1) := by decide +kernel
theorem dX11_pullThrough_40 : decode cX11_pullThrough 40 = .ok (.getfield 187, 3) := by decide +kernel
theorem dX11_pullThrough_43 : decode cX11_pullThrough 43 = .ok (.getfield 103, 3) := by decide +kernel
theorem dX11_pullThrough_46 : decode cX11_pullThrough 46 = .ok (.i2l, 1) := by decide +kernel
theorem dX11_pullThrough_47 : decode cX11_pullThrough 47 = .ok (.lmul, 1) := by decide +kernel
theorem dX11_pullThrough_48 : decode cX11_pullThrough 48 = .ok (.bipush 100, 2) := by decide +kernel
theorem dX11_pullThrough_50 : decode cX11_pullThrough 50 = .ok (.iload 4, 2) := by decide +kernel
theorem dX11_pullThrough_52 : decode cX11_pullThrough 52 = .ok (.iadd, 1) := by decide +kernel
theorem dX11_pullThrough_53 : decode cX11_pullThrough 53 = .ok (.i2l, 1) := by decide +kernel
theorem dX11_pullThrough_54 : decode cX11_pullThrough 54 = .ok (.lmul, 1) := by decide +kernel
theorem dX11_pullThrough_55 : decode cX11_pullThrough 55 = .ok (.ldc2_w 388, 3) := by decide +kernel
theorem dX11_pullThrough_58 : decode cX11_pullThrough 58 = .ok (.ldiv, 1) := by decide +kernel
theorem dX11_pullThrough_59 : decode cX11_pullThrough 59 = .ok (.l2i, 1) := by decide +kernel
theorem dX11_pullThrough_60 : decode cX11_pullThrough 60 = .ok (.iadd, 1) := by decide +kernel
theorem dX11_pullThrough_61 : decode cX11_pullThrough 61 = .ok (.putfield 152, 3) := by decide +kernel
theorem dX11_pullThrough_64 : decode cX11_pullThrough 64 = .ok (.aload_n 1, 1) := by decide +kernel
theorem dX11_pullThrough_65 : decode cX11_pullThrough 65 = .ok (.getfield 206, 3) := by decide +kernel
theorem dX11_pullThrough_68 : decode cX11_pullThrough 68 = .ok (.aload_n 3, 1) := by decide +kernel
theorem dX11_pullThrough_69 : decode cX11_pullThrough 69 = .ok (.getfield 277, 3) := by decide +kernel
theorem dX11_pullThrough_72 : decode cX11_pullThrough 72 = .ok (.invokestatic 246, 3) := by decide +kernel
theorem dX11_pullThrough_75 : decode cX11_pullThrough 75 = .ok (.aload_n 3, 1) := by decide +kernel
theorem dX11_pullThrough_76 : decode cX11_pullThrough 76 = .ok (.iload 5, 2) := by decide +kernel
theorem dX11_pullThrough_78 : decode cX11_pullThrough 78 = .ok (.invokevirtual 390, 3) := by decide +kernel
theorem dX11_pullThrough_81 : decode cX11_pullThrough 81 = .ok (.iadd, 1) := by decide +kernel
theorem dX11_pullThrough_82 : decode cX11_pullThrough 82 = .ok (.istore 6, 2) := by decide +kernel
theorem dX11_pullThrough_84 : decode cX11_pullThrough 84 = .ok (.aload_n 1, 1) := by decide +kernel
theorem dX11_pullThrough_85 : decode cX11_pullThrough 85 = .ok (.iload 6, 2) := by decide +kernel
theorem dX11_pullThrough_87 : decode cX11_pullThrough 87 = .ok (.putfield 206, 3) := by decide +kernel
theorem dX11_pullThrough_90 : decode cX11_pullThrough 90 = .ok (.aload_n 3, 1) := by decide +kernel
theorem dX11_pullThrough_91 : decode cX11_pullThrough 91 = .ok (.iload 6, 2) := by decide +kernel
theorem dX11_pullThrough_93 : decode cX11_pullThrough 93 = .ok (.putfield 277, 3) := by decide +kernel
theorem dX11_pullThrough_96 : decode cX11_pullThrough 96 = .ok (.aload_n 0, 1) := by decide +kernel
theorem dX11_pullThrough_97 : decode cX11_pullThrough 97 = .ok (.dup, 1) := by decide +kernel
theorem dX11_pullThrough_98 : decode cX11_pullThrough 98 = .ok (.getfield 379, 3) := by decide +kernel
theorem dX11_pullThrough_101 : decode cX11_pullThrough 101 = .ok (.iconst 1, 1) := by decide +kernel
theorem dX11_pullThrough_102 : decode cX11_pullThrough 102 = .ok (.iadd, 1) := by decide +kernel
theorem dX11_pullThrough_103 : decode cX11_pullThrough 103 = .ok (.putfield 379, 3) := by decide +kernel
theorem dX11_pullThrough_106 : decode cX11_pullThrough 106 = .ok (.iload 5, 2) := by decide +kernel
theorem dX11_pullThrough_108 : decode cX11_pullThrough 108 = .ok (.ireturn, 1) := by decide +kernel
theorem dX11_throwAway_0 : decode cX11_throwAway 0 = .ok (.aload_n 0, 1) := by decide +kernel
theorem dX11_throwAway_1 : decode cX11_throwAway 1 = .ok (.dup, 1) := by decide +kernel
theorem dX11_throwAway_2 : decode cX11_throwAway 2 = .ok (.getfield 274, 3) := by decide +kernel
theorem dX11_throwAway_5 : decode cX11_throwAway 5 = .ok (.aload_n 1, 1) := by decide +kernel
theorem dX11_throwAway_6 : decode cX11_throwAway 6 = .ok (.getfield 176, 3) := by decide +kernel
theorem dX11_throwAway_9 : decode cX11_throwAway 9 = .ok (.ladd, 1) := by decide +kernel
theorem dX11_throwAway_10 : decode cX11_throwAway 10 = .ok (.putfield 274, 3) := by decide +kernel
theorem dX11_throwAway_13 : decode cX11_throwAway 13 = .ok (.aload_n 1, 1) := by decide +kernel
theorem dX11_throwAway_14 : decode cX11_throwAway 14 = .ok (.lconst 0, 1) := by decide +kernel
theorem dX11_throwAway_15 : decode cX11_throwAway 15 = .ok (.putfield 176, 3) := by decide +kernel
theorem dX11_throwAway_18 : decode cX11_throwAway 18 = .ok (.return_, 1) := by decide +kernel
theorem dX11_deliver_0 : decode cX11_deliver 0 = .ok (.aload_n 1, 1) := by decide +kernel
theorem dX11_deliver_1 : decode cX11_deliver 1 = .ok (.aload_n 2, 1) := by decide +kernel
theorem dX11_deliver_2 : decode cX11_deliver 2 = .ok (.getfield 393, 3) := by decide +kernel
theorem dX11_deliver_5 : decode cX11_deliver 5 = .ok (.invokevirtual 267, 3) := by decide +kernel
theorem dX11_deliver_8 : decode cX11_deliver 8 = .ok (.lstore_n 3, 1) := by decide +kernel
theorem dX11_deliver_9 : decode cX11_deliver 9 = .ok (.aload_n 1, 1) := by decide +kernel
theorem dX11_deliver_10 : decode cX11_deliver 10 = .ok (.dup, 1) := by decide +kernel
theorem dX11_deliver_11 : decode cX11_deliver 11 = .ok (.getfield 176, 3) := by decide +kernel
theorem dX11_deliver_14 : decode cX11_deliver 14 = .ok (.lload_n 3, 1) := by decide +kernel
theorem dX11_deliver_15 : decode cX11_deliver 15 = .ok (.lsub, 1) := by decide +kernel
theorem dX11_deliver_16 : decode cX11_deliver 16 = .ok (.putfield 176, 3) := by decide +kernel
theorem dX11_deliver_19 : decode cX11_deliver 19 = .ok (.aload_n 0, 1) := by decide +kernel
theorem dX11_deliver_20 : decode cX11_deliver 20 = .ok (.dup, 1) := by decide +kernel
theorem dX11_deliver_21 : decode cX11_deliver 21 = .ok (.getfield 367, 3) := by decide +kernel
theorem dX11_deliver_24 : decode cX11_deliver 24 = .ok (.lload_n 3, 1) := by decide +kernel
theorem dX11_deliver_25 : decode cX11_deliver 25 = .ok (.ladd, 1) := by decide +kernel
theorem dX11_deliver_26 : decode cX11_deliver 26 = .ok (.putfield 367, 3) := by decide +kernel
theorem dX11_deliver_29 : decode cX11_deliver 29 = .ok (.aload_n 2, 1) := by decide +kernel
theorem dX11_deliver_30 : decode cX11_deliver 30 = .ok (.iconst 1, 1) := by decide +kernel
theorem dX11_deliver_31 : decode cX11_deliver 31 = .ok (.putfield 327, 3) := by decide +kernel
theorem dX11_deliver_34 : decode cX11_deliver 34 = .ok (.return_, 1) := by decide +kernel
theorem dX11_pullOf_0 : decode cX11_pullOf 0 = .ok (.aload_n 1, 1) := by decide +kernel
theorem dX11_pullOf_1 : decode cX11_pullOf 1 = .ok (.getfield 394, 3) := by decide +kernel
theorem dX11_pullOf_4 : decode cX11_pullOf 4 = .ok (.ifCond .eq 25, 3) := by decide +kernel
theorem dX11_pullOf_7 : decode cX11_pullOf 7 = .ok (.aload_n 1, 1) := by decide +kernel
theorem dX11_pullOf_8 : decode cX11_pullOf 8 = .ok (.getfield 126, 3) := by decide +kernel
theorem dX11_pullOf_11 : decode cX11_pullOf 11 = .ok (.i2l, 1) := by decide +kernel
theorem dX11_pullOf_12 : decode cX11_pullOf 12 = .ok (.aload_n 0, 1) := by decide +kernel
theorem dX11_pullOf_13 : decode cX11_pullOf 13 = .ok (.getfield 10, 3) := by decide +kernel
theorem dX11_pullOf_16 : decode cX11_pullOf 16 = .ok (.getfield 397, 3) := by decide +kernel
theorem dX11_pullOf_19 : decode cX11_pullOf 19 = .ok (.i2l, 1) := by decide +kernel
theorem dX11_pullOf_20 : decode cX11_pullOf 20 = .ok (.lmul, 1) := by decide +kernel
theorem dX11_pullOf_21 : decode cX11_pullOf 21 = .ok (.ldc2_w 400, 3) := by decide +kernel
theorem dX11_pullOf_24 : decode cX11_pullOf 24 = .ok (.ldiv, 1) := by decide +kernel
theorem dX11_pullOf_25 : decode cX11_pullOf 25 = .ok (.l2i, 1) := by decide +kernel
theorem dX11_pullOf_26 : decode cX11_pullOf 26 = .ok (.goto 7, 3) := by decide +kernel
theorem dX11_pullOf_29 : decode cX11_pullOf 29 = .ok (.aload_n 1, 1) := by decide +kernel
theorem dX11_pullOf_30 : decode cX11_pullOf 30 = .ok (.getfield 126, 3) := by decide +kernel
theorem dX11_pullOf_33 : decode cX11_pullOf 33 = .ok (.ireturn, 1) := by decide +kernel
theorem dX11_seekWay_0 : decode cX11_seekWay 0 = .ok (.aload_n 0, 1) := by decide +kernel
theorem dX11_seekWay_1 : decode cX11_seekWay 1 = .ok (.iload_n 1, 1) := by decide +kernel
theorem dX11_seekWay_2 : decode cX11_seekWay 2 = .ok (.invokevirtual 183, 3) := by decide +kernel
theorem dX11_seekWay_5 : decode cX11_seekWay 5 = .ok (.astore 6, 2) := by decide +kernel
theorem dX11_seekWay_7 : decode cX11_seekWay 7 = .ok (.aload_n 0, 1) := by decide +kernel
theorem dX11_seekWay_8 : decode cX11_seekWay 8 = .ok (.iload_n 2, 1) := by decide +kernel
theorem dX11_seekWay_9 : decode cX11_seekWay 9 = .ok (.invokevirtual 132, 3) := by decide +kernel
theorem dX11_seekWay_12 : decode cX11_seekWay 12 = .ok (.astore 7, 2) := by decide +kernel
theorem dX11_seekWay_14 : decode cX11_seekWay 14 = .ok (.aload_n 0, 1) := by decide +kernel
theorem dX11_seekWay_15 : decode cX11_seekWay 15 = .ok (.iload_n 3, 1) := by decide +kernel
theorem dX11_seekWay_16 : decode cX11_seekWay 16 = .ok (.invokevirtual 121, 3) := by decide +kernel
theorem dX11_seekWay_19 : decode cX11_seekWay 19 = .ok (.astore 8, 2) := by decide +kernel
theorem dX11_seekWay_21 : decode cX11_seekWay 21 = .ok (.aload 6, 2) := by decide +kernel
theorem dX11_seekWay_23 : decode cX11_seekWay 23 = .ok (.ifnull 13, 3) := by decide +kernel
theorem dX11_seekWay_26 : decode cX11_seekWay 26 = .ok (.aload 7, 2) := by decide +kernel
theorem dX11_seekWay_28 : decode cX11_seekWay 28 = .ok (.ifnull 8, 3) := by decide +kernel
theorem dX11_seekWay_31 : decode cX11_seekWay 31 = .ok (.aload 8, 2) := by decide +kernel
theorem dX11_seekWay_33 : decode cX11_seekWay 33 = .ok (.ifnonnull 6, 3) := by decide +kernel
theorem dX11_seekWay_36 : decode cX11_seekWay 36 = .ok (.bipush (-2), 2) := by decide +kernel
theorem dX11_seekWay_38 : decode cX11_seekWay 38 = .ok (.ireturn, 1) := by decide +kernel
theorem dX11_seekWay_39 : decode cX11_seekWay 39 = .ok (.iload 4, 2) := by decide +kernel
theorem dX11_seekWay_41 : decode cX11_seekWay 41 = .ok (.iload 5, 2) := by decide +kernel
theorem dX11_seekWay_43 : decode cX11_seekWay 43 = .ok (.invokestatic 295, 3) := by decide +kernel
theorem dX11_seekWay_46 : decode cX11_seekWay 46 = .ok (.ifCond .ne 6, 3) := by decide +kernel
theorem dX11_seekWay_49 : decode cX11_seekWay 49 = .ok (.bipush (-3), 2) := by decide +kernel
theorem dX11_seekWay_51 : decode cX11_seekWay 51 = .ok (.ireturn, 1) := by decide +kernel
theorem dX11_seekWay_52 : decode cX11_seekWay 52 = .ok (.aload_n 0, 1) := by decide +kernel
theorem dX11_seekWay_53 : decode cX11_seekWay 53 = .ok (.getfield 67, 3) := by decide +kernel
theorem dX11_seekWay_56 : decode cX11_seekWay 56 = .ok (.aload 6, 2) := by decide +kernel
theorem dX11_seekWay_58 : decode cX11_seekWay 58 = .ok (.aload 7, 2) := by decide +kernel
theorem dX11_seekWay_60 : decode cX11_seekWay 60 = .ok (.aload_n 0, 1) := by decide +kernel
theorem dX11_seekWay_61 : decode cX11_seekWay 61 = .ok (.aload 8, 2) := by decide +kernel
theorem dX11_seekWay_63 : decode cX11_seekWay 63 = .ok (.invokevirtual 231, 3) := by decide +kernel
theorem dX11_seekWay_66 : decode cX11_seekWay 66 = .ok (.iload 4, 2) := by decide +kernel
theorem dX11_seekWay_68 : decode cX11_seekWay 68 = .ok (.iload 5, 2) := by decide +kernel
theorem dX11_seekWay_70 : decode cX11_seekWay 70 = .ok (.invokevirtual 402, 3) := by decide +kernel
theorem dX11_seekWay_73 : decode cX11_seekWay 73 = .ok (.ireturn, 1) := by decide +kernel
theorem dX11_stuffInCoils_0 : decode cX11_stuffInCoils 0 = .ok (.lconst 0, 1) := by decide +kernel
theorem dX11_stuffInCoils_1 : decode cX11_stuffInCoils 1 = .ok (.lstore_n 1, 1) := by decide +kernel
theorem dX11_stuffInCoils_2 : decode cX11_stuffInCoils 2 = .ok (.iconst 0, 1) := by decide +kernel
theorem dX11_stuffInCoils_3 : decode cX11_stuffInCoils 3 = .ok (.istore_n 3, 1) := by decide +kernel
theorem dX11_stuffInCoils_4 : decode cX11_stuffInCoils 4 = .ok (.iload_n 3, 1) := by decide +kernel
theorem dX11_stuffInCoils_5 : decode cX11_stuffInCoils 5 = .ok (.aload_n 0, 1) := by decide +kernel
theorem dX11_stuffInCoils_6 : decode cX11_stuffInCoils 6 = .ok (.getfield 36, 3) := by decide +kernel
theorem dX11_stuffInCoils_9 : decode cX11_stuffInCoils 9 = .ok (.arraylength, 1) := by decide +kernel
theorem dX11_stuffInCoils_10 : decode cX11_stuffInCoils 10 = .ok (.if_icmp .ge 30, 3) := by decide +kernel
theorem dX11_stuffInCoils_13 : decode cX11_stuffInCoils 13 = .ok (.aload_n 0, 1) := by decide +kernel
theorem dX11_stuffInCoils_14 : decode cX11_stuffInCoils 14 = .ok (.getfield 36, 3) := by decide +kernel
theorem dX11_stuffInCoils_17 : decode cX11_stuffInCoils 17 = .ok (.iload_n 3, 1) := by decide +kernel
theorem dX11_stuffInCoils_18 : decode cX11_stuffInCoils 18 = .ok (.aaload, 1) := by decide +kernel
theorem dX11_stuffInCoils_19 : decode cX11_stuffInCoils 19 = .ok (.ifnull 15, 3) := by decide +kernel
theorem dX11_stuffInCoils_22 : decode cX11_stuffInCoils 22 = .ok (.lload_n 1, 1) := by decide +kernel
theorem dX11_stuffInCoils_23 : decode cX11_stuffInCoils 23 = .ok (.aload_n 0, 1) := by decide +kernel
theorem dX11_stuffInCoils_24 : decode cX11_stuffInCoils 24 = .ok (.getfield 36, 3) := by decide +kernel
theorem dX11_stuffInCoils_27 : decode cX11_stuffInCoils 27 = .ok (.iload_n 3, 1) := by decide +kernel
theorem dX11_stuffInCoils_28 : decode cX11_stuffInCoils 28 = .ok (.aaload, 1) := by decide +kernel
theorem dX11_stuffInCoils_29 : decode cX11_stuffInCoils 29 = .ok (.getfield 176, 3) := by decide +kernel
theorem dX11_stuffInCoils_32 : decode cX11_stuffInCoils 32 = .ok (.ladd, 1) := by decide +kernel
theorem dX11_stuffInCoils_33 : decode cX11_stuffInCoils 33 = .ok (.lstore_n 1, 1) := by decide +kernel
theorem dX11_stuffInCoils_34 : decode cX11_stuffInCoils 34 = .ok (.iinc 3 1, 3) := by decide +kernel
theorem dX11_stuffInCoils_37 : decode cX11_stuffInCoils 37 = .ok (.goto (-33), 3) := by decide +kernel
theorem dX11_stuffInCoils_40 : decode cX11_stuffInCoils 40 = .ok (.lload_n 1, 1) := by decide +kernel
theorem dX11_stuffInCoils_41 : decode cX11_stuffInCoils 41 = .ok (.lreturn, 1) := by decide +kernel
theorem dX11_coilsLeft_0 : decode cX11_coilsLeft 0 = .ok (.iconst 0, 1) := by decide +kernel
theorem dX11_coilsLeft_1 : decode cX11_coilsLeft 1 = .ok (.istore_n 1, 1) := by decide +kernel
theorem dX11_coilsLeft_2 : decode cX11_coilsLeft 2 = .ok (.iconst 0, 1) := by decide +kernel
theorem dX11_coilsLeft_3 : decode cX11_coilsLeft 3 = .ok (.istore_n 2, 1) := by decide +kernel
theorem dX11_coilsLeft_4 : decode cX11_coilsLeft 4 = .ok (.iload_n 2, 1) := by decide +kernel
theorem dX11_coilsLeft_5 : decode cX11_coilsLeft 5 = .ok (.aload_n 0, 1) := by decide +kernel
theorem dX11_coilsLeft_6 : decode cX11_coilsLeft 6 = .ok (.getfield 36, 3) := by decide +kernel
theorem dX11_coilsLeft_9 : decode cX11_coilsLeft 9 = .ok (.arraylength, 1) := by decide +kernel
theorem dX11_coilsLeft_10 : decode cX11_coilsLeft 10 = .ok (.if_icmp .ge 20, 3) := by decide +kernel
theorem dX11_coilsLeft_13 : decode cX11_coilsLeft 13 = .ok (.aload_n 0, 1) := by decide +kernel
theorem dX11_coilsLeft_14 : decode cX11_coilsLeft 14 = .ok (.iload_n 2, 1) := by decide +kernel
theorem dX11_coilsLeft_15 : decode cX11_coilsLeft 15 = .ok (.invokevirtual 183, 3) := by decide +kernel
theorem dX11_coilsLeft_18 : decode cX11_coilsLeft 18 = .ok (.ifnull 6, 3) := by decide +kernel
theorem dX11_coilsLeft_21 : decode cX11_coilsLeft 21 = .ok (.iinc 1 1, 3) := by decide +kernel
theorem dX11_coilsLeft_24 : decode cX11_coilsLeft 24 = .ok (.iinc 2 1, 3) := by decide +kernel
theorem dX11_coilsLeft_27 : decode cX11_coilsLeft 27 = .ok (.goto (-23), 3) := by decide +kernel
theorem dX11_coilsLeft_30 : decode cX11_coilsLeft 30 = .ok (.iload_n 1, 1) := by decide +kernel
theorem dX11_coilsLeft_31 : decode cX11_coilsLeft 31 = .ok (.ireturn, 1) := by decide +kernel
theorem dX11_ordersFilled_0 : decode cX11_ordersFilled 0 = .ok (.iconst 0, 1) := by decide +kernel
theorem dX11_ordersFilled_1 : decode cX11_ordersFilled 1 = .ok (.istore_n 1, 1) := by decide +kernel
theorem dX11_ordersFilled_2 : decode cX11_ordersFilled 2 = .ok (.iconst 0, 1) := by decide +kernel
theorem dX11_ordersFilled_3 : decode cX11_ordersFilled 3 = .ok (.istore_n 2, 1) := by decide +kernel
theorem dX11_ordersFilled_4 : decode cX11_ordersFilled 4 = .ok (.iload_n 2, 1) := by decide +kernel
theorem dX11_ordersFilled_5 : decode cX11_ordersFilled 5 = .ok (.aload_n 0, 1) := by decide +kernel
theorem dX11_ordersFilled_6 : decode cX11_ordersFilled 6 = .ok (.getfield 42, 3) := by decide +kernel
theorem dX11_ordersFilled_9 : decode cX11_ordersFilled 9 = .ok (.arraylength, 1) := by decide +kernel
theorem dX11_ordersFilled_10 : decode cX11_ordersFilled 10 = .ok (.if_icmp .ge 33, 3) := by decide +kernel
theorem dX11_ordersFilled_13 : decode cX11_ordersFilled 13 = .ok (.aload_n 0, 1) := by decide +kernel
theorem dX11_ordersFilled_14 : decode cX11_ordersFilled 14 = .ok (.getfield 42, 3) := by decide +kernel
theorem dX11_ordersFilled_17 : decode cX11_ordersFilled 17 = .ok (.iload_n 2, 1) := by decide +kernel
theorem dX11_ordersFilled_18 : decode cX11_ordersFilled 18 = .ok (.aaload, 1) := by decide +kernel
theorem dX11_ordersFilled_19 : decode cX11_ordersFilled 19 = .ok (.ifnull 18, 3) := by decide +kernel
theorem dX11_ordersFilled_22 : decode cX11_ordersFilled 22 = .ok (.aload_n 0, 1) := by decide +kernel
theorem dX11_ordersFilled_23 : decode cX11_ordersFilled 23 = .ok (.getfield 42, 3) := by decide +kernel
theorem dX11_ordersFilled_26 : decode cX11_ordersFilled 26 = .ok (.iload_n 2, 1) := by decide +kernel
theorem dX11_ordersFilled_27 : decode cX11_ordersFilled 27 = .ok (.aaload, 1) := by decide +kernel
theorem dX11_ordersFilled_28 : decode cX11_ordersFilled 28 = .ok (.getfield 327, 3) := by decide +kernel
theorem dX11_ordersFilled_31 : decode cX11_ordersFilled 31 = .ok (.ifCond .eq 6, 3) := by decide +kernel
theorem dX11_ordersFilled_34 : decode cX11_ordersFilled 34 = .ok (.iinc 1 1, 3) := by decide +kernel
theorem dX11_ordersFilled_37 : decode cX11_ordersFilled 37 = .ok (.iinc 2 1, 3) := by decide +kernel
theorem dX11_ordersFilled_40 : decode cX11_ordersFilled 40 = .ok (.goto (-36), 3) := by decide +kernel
theorem dX11_ordersFilled_43 : decode cX11_ordersFilled 43 = .ok (.iload_n 1, 1) := by decide +kernel
theorem dX11_ordersFilled_44 : decode cX11_ordersFilled 44 = .ok (.ireturn, 1) := by decide +kernel
theorem dX11_isWithin_0 : decode cX11_isWithin 0 = .ok (.iload_n 0, 1) := by decide +kernel
theorem dX11_isWithin_1 : decode cX11_isWithin 1 = .ok (.iload_n 1, 1) := by decide +kernel
theorem dX11_isWithin_2 : decode cX11_isWithin 2 = .ok (.if_icmp .lt 12, 3) := by decide +kernel
theorem dX11_isWithin_5 : decode cX11_isWithin 5 = .ok (.iload_n 0, 1) := by decide +kernel
theorem dX11_isWithin_6 : decode cX11_isWithin 6 = .ok (.iload_n 2, 1) := by decide +kernel
theorem dX11_isWithin_7 : decode cX11_isWithin 7 = .ok (.if_icmp .gt 7, 3) := by decide +kernel
theorem dX11_isWithin_10 : decode cX11_isWithin 10 = .ok (.iconst 1, 1) := by decide +kernel
theorem dX11_isWithin_11 : decode cX11_isWithin 11 = .ok (.goto 4, 3) := by decide +kernel
theorem dX11_isWithin_14 : decode cX11_isWithin 14 = .ok (.iconst 0, 1) := by decide +kernel
theorem dX11_isWithin_15 : decode cX11_isWithin 15 = .ok (.ireturn, 1) := by decide +kernel
theorem dX11_isSize_0 : decode cX11_isSize 0 = .ok (.iload_n 0, 1) := by decide +kernel
theorem dX11_isSize_1 : decode cX11_isSize 1 = .ok (.bipush 20, 2) := by decide +kernel
theorem dX11_isSize_3 : decode cX11_isSize 3 = .ok (.sipush 1000, 3) := by decide +kernel
theorem dX11_isSize_6 : decode cX11_isSize 6 = .ok (.invokestatic 89, 3) := by decide +kernel
theorem dX11_isSize_9 : decode cX11_isSize 9 = .ok (.ireturn, 1) := by decide +kernel
theorem dX11_isRange_0 : decode cX11_isRange 0 = .ok (.iload_n 0, 1) := by decide +kernel
theorem dX11_isRange_1 : decode cX11_isRange 1 = .ok (.invokestatic 136, 3) := by decide +kernel
theorem dX11_isRange_4 : decode cX11_isRange 4 = .ok (.ifCond .eq 19, 3) := by decide +kernel
theorem dX11_isRange_7 : decode cX11_isRange 7 = .ok (.iload_n 1, 1) := by decide +kernel
theorem dX11_isRange_8 : decode cX11_isRange 8 = .ok (.invokestatic 136, 3) := by decide +kernel
theorem dX11_isRange_11 : decode cX11_isRange 11 = .ok (.ifCond .eq 12, 3) := by decide +kernel
theorem dX11_isRange_14 : decode cX11_isRange 14 = .ok (.iload_n 0, 1) := by decide +kernel
theorem dX11_isRange_15 : decode cX11_isRange 15 = .ok (.iload_n 1, 1) := by decide +kernel
theorem dX11_isRange_16 : decode cX11_isRange 16 = .ok (.if_icmp .gt 7, 3) := by decide +kernel
theorem dX11_isRange_19 : decode cX11_isRange 19 = .ok (.iconst 1, 1) := by decide +kernel
theorem dX11_isRange_20 : decode cX11_isRange 20 = .ok (.goto 4, 3) := by decide +kernel
theorem dX11_isRange_23 : decode cX11_isRange 23 = .ok (.iconst 0, 1) := by decide +kernel
theorem dX11_isRange_24 : decode cX11_isRange 24 = .ok (.ireturn, 1) := by decide +kernel
theorem dX11_isCause_0 : decode cX11_isCause 0 = .ok (.iload_n 0, 1) := by decide +kernel
theorem dX11_isCause_1 : decode cX11_isCause 1 = .ok (.iconst 0, 1) := by decide +kernel
theorem dX11_isCause_2 : decode cX11_isCause 2 = .ok (.iconst 2, 1) := by decide +kernel
theorem dX11_isCause_3 : decode cX11_isCause 3 = .ok (.invokestatic 89, 3) := by decide +kernel
theorem dX11_isCause_6 : decode cX11_isCause 6 = .ok (.ireturn, 1) := by decide +kernel
theorem dX11_quotient_0 : decode cX11_quotient 0 = .ok (.lload_n 2, 1) := by decide +kernel
theorem dX11_quotient_1 : decode cX11_quotient 1 = .ok (.lconst 0, 1) := by decide +kernel
theorem dX11_quotient_2 : decode cX11_quotient 2 = .ok (.lcmp, 1) := by decide +kernel
theorem dX11_quotient_3 : decode cX11_quotient 3 = .ok (.ifCond .ne 7, 3) := by decide +kernel
theorem dX11_quotient_6 : decode cX11_quotient 6 = .ok (.lconst 0, 1) := by decide +kernel
theorem dX11_quotient_7 : decode cX11_quotient 7 = .ok (.goto 6, 3) := by decide +kernel
theorem dX11_quotient_10 : decode cX11_quotient 10 = .ok (.lload_n 0, 1) := by decide +kernel
theorem dX11_quotient_11 : decode cX11_quotient 11 = .ok (.lload_n 2, 1) := by decide +kernel
theorem dX11_quotient_12 : decode cX11_quotient 12 = .ok (.ldiv, 1) := by decide +kernel
theorem dX11_quotient_13 : decode cX11_quotient 13 = .ok (.lreturn, 1) := by decide +kernel
theorem dX11_commonDivisor_0 : decode cX11_commonDivisor 0 = .ok (.iload_n 0, 1) := by decide +kernel
theorem dX11_commonDivisor_1 : decode cX11_commonDivisor 1 = .ok (.istore_n 2, 1) := by decide +kernel
theorem dX11_commonDivisor_2 : decode cX11_commonDivisor 2 = .ok (.iload_n 1, 1) := by decide +kernel
theorem dX11_commonDivisor_3 : decode cX11_commonDivisor 3 = .ok (.istore_n 3, 1) := by decide +kernel
theorem dX11_commonDivisor_4 : decode cX11_commonDivisor 4 = .ok (.iconst 0, 1) := by decide +kernel
theorem dX11_commonDivisor_5 : decode cX11_commonDivisor 5 = .ok (.istore 4, 2) := by decide +kernel
theorem dX11_commonDivisor_7 : decode cX11_commonDivisor 7 = .ok (.iload 4, 2) := by decide +kernel
theorem dX11_commonDivisor_9 : decode cX11_commonDivisor 9 = .ok (.bipush 64, 2) := by decide +kernel
theorem dX11_commonDivisor_11 : decode cX11_commonDivisor 11 = .ok (.if_icmp .ge 23, 3) := by decide +kernel
theorem dX11_commonDivisor_14 : decode cX11_commonDivisor 14 = .ok (.iload_n 3, 1) := by decide +kernel
theorem dX11_commonDivisor_15 : decode cX11_commonDivisor 15 = .ok (.ifCond .eq 19, 3) := by decide +kernel
theorem dX11_commonDivisor_18 : decode cX11_commonDivisor 18 = .ok (.iload_n 2, 1) := by decide +kernel
theorem dX11_commonDivisor_19 : decode cX11_commonDivisor 19 = .ok (.iload_n 3, 1) := by decide +kernel
theorem dX11_commonDivisor_20 : decode cX11_commonDivisor 20 = .ok (.irem, 1) := by decide +kernel
theorem dX11_commonDivisor_21 : decode cX11_commonDivisor 21 = .ok (.istore 5, 2) := by decide +kernel
theorem dX11_commonDivisor_23 : decode cX11_commonDivisor 23 = .ok (.iload_n 3, 1) := by decide +kernel
theorem dX11_commonDivisor_24 : decode cX11_commonDivisor 24 = .ok (.istore_n 2, 1) := by decide +kernel
theorem dX11_commonDivisor_25 : decode cX11_commonDivisor 25 = .ok (.iload 5, 2) := by decide +kernel
theorem dX11_commonDivisor_27 : decode cX11_commonDivisor 27 = .ok (.istore_n 3, 1) := by decide +kernel
theorem dX11_commonDivisor_28 : decode cX11_commonDivisor 28 = .ok (.iinc 4 1, 3) := by decide +kernel
theorem dX11_commonDivisor_31 : decode cX11_commonDivisor 31 = .ok (.goto (-24), 3) := by decide +kernel
theorem dX11_commonDivisor_34 : decode cX11_commonDivisor 34 = .ok (.iload_n 2, 1) := by decide +kernel
theorem dX11_commonDivisor_35 : decode cX11_commonDivisor 35 = .ok (.ireturn, 1) := by decide +kernel
theorem dX11_choices_0 : decode cX11_choices 0 = .ok (.iload_n 1, 1) := by decide +kernel
theorem dX11_choices_1 : decode cX11_choices 1 = .ok (.ifCond .lt 8, 3) := by decide +kernel
theorem dX11_choices_4 : decode cX11_choices 4 = .ok (.iload_n 1, 1) := by decide +kernel
theorem dX11_choices_5 : decode cX11_choices 5 = .ok (.iload_n 0, 1) := by decide +kernel
theorem dX11_choices_6 : decode cX11_choices 6 = .ok (.if_icmp .le 5, 3) := by decide +kernel
theorem dX11_choices_9 : decode cX11_choices 9 = .ok (.lconst 0, 1) := by decide +kernel
theorem dX11_choices_10 : decode cX11_choices 10 = .ok (.lreturn, 1) := by decide +kernel
theorem dX11_choices_11 : decode cX11_choices 11 = .ok (.iload_n 1, 1) := by decide +kernel
theorem dX11_choices_12 : decode cX11_choices 12 = .ok (.iload_n 0, 1) := by decide +kernel
theorem dX11_choices_13 : decode cX11_choices 13 = .ok (.iload_n 1, 1) := by decide +kernel
theorem dX11_choices_14 : decode cX11_choices 14 = .ok (.isub, 1) := by decide +kernel
theorem dX11_choices_15 : decode cX11_choices 15 = .ok (.invokestatic 405, 3) := by decide +kernel
theorem dX11_choices_18 : decode cX11_choices 18 = .ok (.istore_n 2, 1) := by decide +kernel
theorem dX11_choices_19 : decode cX11_choices 19 = .ok (.lconst 1, 1) := by decide +kernel
theorem dX11_choices_20 : decode cX11_choices 20 = .ok (.lstore_n 3, 1) := by decide +kernel
theorem dX11_choices_21 : decode cX11_choices 21 = .ok (.iconst 0, 1) := by decide +kernel
theorem dX11_choices_22 : decode cX11_choices 22 = .ok (.istore 5, 2) := by decide +kernel
theorem dX11_choices_24 : decode cX11_choices 24 = .ok (.iload 5, 2) := by decide +kernel
theorem dX11_choices_26 : decode cX11_choices 26 = .ok (.iload_n 2, 1) := by decide +kernel
theorem dX11_choices_27 : decode cX11_choices 27 = .ok (.if_icmp .ge 23, 3) := by decide +kernel
theorem dX11_choices_30 : decode cX11_choices 30 = .ok (.lload_n 3, 1) := by decide +kernel
theorem dX11_choices_31 : decode cX11_choices 31 = .ok (.iload_n 0, 1) := by decide +kernel
theorem dX11_choices_32 : decode cX11_choices 32 = .ok (.iload 5, 2) := by decide +kernel
theorem dX11_choices_34 : decode cX11_choices 34 = .ok (.isub, 1) := by decide +kernel
theorem dX11_choices_35 : decode cX11_choices 35 = .ok (.i2l, 1) := by decide +kernel
theorem dX11_choices_36 : decode cX11_choices 36 = .ok (.lmul, 1) := by decide +kernel
theorem dX11_choices_37 : decode cX11_choices 37 = .ok (.iload 5, 2) := by decide +kernel
theorem dX11_choices_39 : decode cX11_choices 39 = .ok (.iconst 1, 1) := by decide +kernel
theorem dX11_choices_40 : decode cX11_choices 40 = .ok (.iadd, 1) := by decide +kernel
theorem dX11_choices_41 : decode cX11_choices 41 = .ok (.i2l, 1) := by decide +kernel
theorem dX11_choices_42 : decode cX11_choices 42 = .ok (.ldiv, 1) := by decide +kernel
theorem dX11_choices_43 : decode cX11_choices 43 = .ok (.lstore_n 3, 1) := by decide +kernel
theorem dX11_choices_44 : decode cX11_choices 44 = .ok (.iinc 5 1, 3) := by decide +kernel
theorem dX11_choices_47 : decode cX11_choices 47 = .ok (.goto (-23), 3) := by decide +kernel
theorem dX11_choices_50 : decode cX11_choices 50 = .ok (.lload_n 3, 1) := by decide +kernel
theorem dX11_choices_51 : decode cX11_choices 51 = .ok (.lreturn, 1) := by decide +kernel
theorem dX12_init_0 : decode cX12_init 0 = .ok (.aload_n 0, 1) := by decide +kernel
theorem dX12_init_1 : decode cX12_init 1 = .ok (.invokespecial 1, 3) := by decide +kernel
theorem dX12_init_4 : decode cX12_init 4 = .ok (.aload_n 0, 1) := by decide +kernel
theorem dX12_init_5 : decode cX12_init 5 = .ok (.iconst 4, 1) := by decide +kernel
theorem dX12_init_6 : decode cX12_init 6 = .ok (.newarray .int, 2) := by decide +kernel
theorem dX12_init_8 : decode cX12_init 8 = .ok (.putfield 7, 3) := by decide +kernel
theorem dX12_init_11 : decode cX12_init 11 = .ok (.aload_n 0, 1) := by decide +kernel
theorem dX12_init_12 : decode cX12_init 12 = .ok (.iconst 4, 1) := by decide +kernel
theorem dX12_init_13 : decode cX12_init 13 = .ok (.newarray .int, 2) := by decide +kernel
theorem dX12_init_15 : decode cX12_init 15 = .ok (.putfield 13, 3) := by decide +kernel
theorem dX12_init_18 : decode cX12_init 18 = .ok (.aload_n 0, 1) := by decide +kernel
theorem dX12_init_19 : decode cX12_init 19 = .ok (.iconst 4, 1) := by decide +kernel
theorem dX12_init_20 : decode cX12_init 20 = .ok (.newarray .int, 2) := by decide +kernel
theorem dX12_init_22 : decode cX12_init 22 = .ok (.putfield 16, 3) := by decide +kernel
theorem dX12_init_25 : decode cX12_init 25 = .ok (.aload_n 0, 1) := by decide +kernel
theorem dX12_init_26 : decode cX12_init 26 = .ok (.iconst 4, 1) := by decide +kernel
theorem dX12_init_27 : decode cX12_init 27 = .ok (.newarray .int, 2) := by decide +kernel
end
section
theorem dX12_init_29 : decode cX12_init 29 = .ok (.putfield 19, 3) := by decide +kernel
theorem dX12_init_32 : decode cX12_init 32 = .ok (.aload_n 0, 1) := by decide +kernel
theorem dX12_init_33 : decode cX12_init 33 = .ok (.iconst 4, 1) := by decide +kernel
theorem dX12_init_34 : decode cX12_init 34 = .ok (.newarray .int, 2) := by decide +kernel
theorem dX12_init_36 : decode cX12_init 36 = .ok (.putfield 22, 3) := by decide +kernel
theorem dX12_init_39 : decode cX12_init 39 = .ok (.aload_n 0, 1) := by decide +kernel
theorem dX12_init_40 : decode cX12_init 40 = .ok (.bipush 6, 2) := by decide +kernel
theorem dX12_init_42 : decode cX12_init 42 = .ok (.newarray .int, 2) := by decide +kernel
theorem dX12_init_44 : decode cX12_init 44 = .ok (.putfield 25, 3) := by decide +kernel
theorem dX12_init_47 : decode cX12_init 47 = .ok (.aload_n 0, 1) := by decide +kernel
theorem dX12_init_48 : decode cX12_init 48 = .ok (.iconst 3, 1) := by decide +kernel
theorem dX12_init_49 : decode cX12_init 49 = .ok (.newarray .int, 2) := by decide +kernel
theorem dX12_init_51 : decode cX12_init 51 = .ok (.putfield 28, 3) := by decide +kernel
theorem dX12_init_54 : decode cX12_init 54 = .ok (.aload_n 0, 1) := by decide +kernel
theorem dX12_init_55 : decode cX12_init 55 = .ok (.iconst 3, 1) := by decide +kernel
theorem dX12_init_56 : decode cX12_init 56 = .ok (.newarray .int, 2) := by decide +kernel
theorem dX12_init_58 : decode cX12_init 58 = .ok (.putfield 31, 3) := by decide +kernel
theorem dX12_init_61 : decode cX12_init 61 = .ok (.aload_n 0, 1) := by decide +kernel
theorem dX12_init_62 : decode cX12_init 62 = .ok (.iconst 4, 1) := by decide +kernel
theorem dX12_init_63 : decode cX12_init 63 = .ok (.newarray .int, 2) := by decide +kernel
theorem dX12_init_65 : decode cX12_init 65 = .ok (.putfield 34, 3) := by decide +kernel
theorem dX12_init_68 : decode cX12_init 68 = .ok (.aload_n 0, 1) := by decide +kernel
theorem dX12_init_69 : decode cX12_init 69 = .ok (.iconst 4, 1) := by decide +kernel
theorem dX12_init_70 : decode cX12_init 70 = .ok (.newarray .int, 2) := by decide +kernel
theorem dX12_init_72 : decode cX12_init 72 = .ok (.putfield 37, 3) := by decide +kernel
theorem dX12_init_75 : decode cX12_init 75 = .ok (.aload_n 0, 1) := by decide +kernel
theorem dX12_init_76 : decode cX12_init 76 = .ok (.bipush 32, 2) := by decide +kernel
theorem dX12_init_78 : decode cX12_init 78 = .ok (.newarray .int, 2) := by decide +kernel
theorem dX12_init_80 : decode cX12_init 80 = .ok (.putfield 40, 3) := by decide +kernel
theorem dX12_init_83 : decode cX12_init 83 = .ok (.aload_n 0, 1) := by decide +kernel
theorem dX12_init_84 : decode cX12_init 84 = .ok (.bipush 32, 2) := by decide +kernel
theorem dX12_init_86 : decode cX12_init 86 = .ok (.newarray .int, 2) := by decide +kernel
theorem dX12_init_88 : decode cX12_init 88 = .ok (.putfield 43, 3) := by decide +kernel
theorem dX12_init_91 : decode cX12_init 91 = .ok (.aload_n 0, 1) := by decide +kernel
theorem dX12_init_92 : decode cX12_init 92 = .ok (.bipush 32, 2) := by decide +kernel
theorem dX12_init_94 : decode cX12_init 94 = .ok (.newarray .int, 2) := by decide +kernel
theorem dX12_init_96 : decode cX12_init 96 = .ok (.putfield 46, 3) := by decide +kernel
theorem dX12_init_99 : decode cX12_init 99 = .ok (.aload_n 0, 1) := by decide +kernel
theorem dX12_init_100 : decode cX12_init 100 = .ok (.bipush 16, 2) := by decide +kernel
theorem dX12_init_102 : decode cX12_init 102 = .ok (.newarray .int, 2) := by decide +kernel
theorem dX12_init_104 : decode cX12_init 104 = .ok (.putfield 49, 3) := by decide +kernel
theorem dX12_init_107 : decode cX12_init 107 = .ok (.aload_n 0, 1) := by decide +kernel
theorem dX12_init_108 : decode cX12_init 108 = .ok (.bipush 16, 2) := by decide +kernel
theorem dX12_init_110 : decode cX12_init 110 = .ok (.newarray .int, 2) := by decide +kernel
theorem dX12_init_112 : decode cX12_init 112 = .ok (.putfield 52, 3) := by decide +kernel
theorem dX12_init_115 : decode cX12_init 115 = .ok (.aload_n 0, 1) := by decide +kernel
theorem dX12_init_116 : decode cX12_init 116 = .ok (.bipush 16, 2) := by decide +kernel
theorem dX12_init_118 : decode cX12_init 118 = .ok (.newarray .int, 2) := by decide +kernel
theorem dX12_init_120 : decode cX12_init 120 = .ok (.putfield 55, 3) := by decide +kernel
theorem dX12_init_123 : decode cX12_init 123 = .ok (.aload_n 0, 1) := by decide +kernel
theorem dX12_init_124 : decode cX12_init 124 = .ok (.bipush 16, 2) := by decide +kernel
theorem dX12_init_126 : decode cX12_init 126 = .ok (.newarray .long, 2) := by decide +kernel
theorem dX12_init_128 : decode cX12_init 128 = .ok (.putfield 58, 3) := by decide +kernel
theorem dX12_init_131 : decode cX12_init 131 = .ok (.aload_n 0, 1) := by decide +kernel
theorem dX12_init_132 : decode cX12_init 132 = .ok (.bipush 16, 2) := by decide +kernel
theorem dX12_init_134 : decode cX12_init 134 = .ok (.newarray .int, 2) := by decide +kernel
theorem dX12_init_136 : decode cX12_init 136 = .ok (.putfield 62, 3) := by decide +kernel
theorem dX12_init_139 : decode cX12_init 139 = .ok (.aload_n 0, 1) := by decide +kernel
theorem dX12_init_140 : decode cX12_init 140 = .ok (.bipush 16, 2) := by decide +kernel
theorem dX12_init_142 : decode cX12_init 142 = .ok (.newarray .int, 2) := by decide +kernel
theorem dX12_init_144 : decode cX12_init 144 = .ok (.putfield 65, 3) := by decide +kernel
theorem dX12_init_147 : decode cX12_init 147 = .ok (.aload_n 0, 1) := by decide +kernel
theorem dX12_init_148 : decode cX12_init 148 = .ok (.bipush 16, 2) := by decide +kernel
theorem dX12_init_150 : decode cX12_init 150 = .ok (.newarray .boolean, 2) := by decide +kernel
theorem dX12_init_152 : decode cX12_init 152 = .ok (.putfield 68, 3) := by decide +kernel
theorem dX12_init_155 : decode cX12_init 155 = .ok (.aload_n 0, 1) := by decide +kernel
theorem dX12_init_156 : decode cX12_init 156 = .ok (.bipush 6, 2) := by decide +kernel
theorem dX12_init_158 : decode cX12_init 158 = .ok (.newarray .int, 2) := by decide +kernel
theorem dX12_init_160 : decode cX12_init 160 = .ok (.putfield 72, 3) := by decide +kernel
theorem dX12_init_163 : decode cX12_init 163 = .ok (.aload_n 0, 1) := by decide +kernel
theorem dX12_init_164 : decode cX12_init 164 = .ok (.bipush 6, 2) := by decide +kernel
theorem dX12_init_166 : decode cX12_init 166 = .ok (.newarray .int, 2) := by decide +kernel
theorem dX12_init_168 : decode cX12_init 168 = .ok (.putfield 75, 3) := by decide +kernel
theorem dX12_init_171 : decode cX12_init 171 = .ok (.aload_n 0, 1) := by decide +kernel
theorem dX12_init_172 : decode cX12_init 172 = .ok (.bipush 6, 2) := by decide +kernel
theorem dX12_init_174 : decode cX12_init 174 = .ok (.newarray .int, 2) := by decide +kernel
theorem dX12_init_176 : decode cX12_init 176 = .ok (.putfield 78, 3) := by decide +kernel
theorem dX12_init_179 : decode cX12_init 179 = .ok (.aload_n 0, 1) := by decide +kernel
theorem dX12_init_180 : decode cX12_init 180 = .ok (.bipush 6, 2) := by decide +kernel
theorem dX12_init_182 : decode cX12_init 182 = .ok (.newarray .int, 2) := by decide +kernel
theorem dX12_init_184 : decode cX12_init 184 = .ok (.putfield 81, 3) := by decide +kernel
theorem dX12_init_187 : decode cX12_init 187 = .ok (.aload_n 0, 1) := by decide +kernel
theorem dX12_init_188 : decode cX12_init 188 = .ok (.bipush 6, 2) := by decide +kernel
theorem dX12_init_190 : decode cX12_init 190 = .ok (.newarray .boolean, 2) := by decide +kernel
theorem dX12_init_192 : decode cX12_init 192 = .ok (.putfield 84, 3) := by decide +kernel
theorem dX12_init_195 : decode cX12_init 195 = .ok (.aload_n 0, 1) := by decide +kernel
theorem dX12_init_196 : decode cX12_init 196 = .ok (.bipush 60, 2) := by decide +kernel
theorem dX12_init_198 : decode cX12_init 198 = .ok (.newarray .int, 2) := by decide +kernel
theorem dX12_init_200 : decode cX12_init 200 = .ok (.putfield 87, 3) := by decide +kernel
theorem dX12_init_203 : decode cX12_init 203 = .ok (.aload_n 0, 1) := by decide +kernel
theorem dX12_init_204 : decode cX12_init 204 = .ok (.bipush 60, 2) := by decide +kernel
theorem dX12_init_206 : decode cX12_init 206 = .ok (.newarray .boolean, 2) := by decide +kernel
theorem dX12_init_208 : decode cX12_init 208 = .ok (.putfield 90, 3) := by decide +kernel
theorem dX12_init_211 : decode cX12_init 211 = .ok (.aload_n 0, 1) := by decide +kernel
theorem dX12_init_212 : decode cX12_init 212 = .ok (.sipush 909, 3) := by decide +kernel
theorem dX12_init_215 : decode cX12_init 215 = .ok (.newarray .int, 2) := by decide +kernel
theorem dX12_init_217 : decode cX12_init 217 = .ok (.putfield 93, 3) := by decide +kernel
theorem dX12_init_220 : decode cX12_init 220 = .ok (.aload_n 0, 1) := by decide +kernel
theorem dX12_init_221 : decode cX12_init 221 = .ok (.sipush 909, 3) := by decide +kernel
theorem dX12_init_224 : decode cX12_init 224 = .ok (.newarray .int, 2) := by decide +kernel
theorem dX12_init_226 : decode cX12_init 226 = .ok (.putfield 96, 3) := by decide +kernel
theorem dX12_init_229 : decode cX12_init 229 = .ok (.aload_n 0, 1) := by decide +kernel
theorem dX12_init_230 : decode cX12_init 230 = .ok (.bipush 9, 2) := by decide +kernel
theorem dX12_init_232 : decode cX12_init 232 = .ok (.newarray .int, 2) := by decide +kernel
theorem dX12_init_234 : decode cX12_init 234 = .ok (.putfield 99, 3) := by decide +kernel
theorem dX12_init_237 : decode cX12_init 237 = .ok (.aload_n 0, 1) := by decide +kernel
theorem dX12_init_238 : decode cX12_init 238 = .ok (.bipush 9, 2) := by decide +kernel
theorem dX12_init_240 : decode cX12_init 240 = .ok (.newarray .boolean, 2) := by decide +kernel
theorem dX12_init_242 : decode cX12_init 242 = .ok (.putfield 102, 3) := by decide +kernel
theorem dX12_init_245 : decode cX12_init 245 = .ok (.aload_n 0, 1) := by decide +kernel
theorem dX12_init_246 : decode cX12_init 246 = .ok (.sipush 400, 3) := by decide +kernel
theorem dX12_init_249 : decode cX12_init 249 = .ok (.newarray .int, 2) := by decide +kernel
theorem dX12_init_251 : decode cX12_init 251 = .ok (.putfield 105, 3) := by decide +kernel
theorem dX12_init_254 : decode cX12_init 254 = .ok (.aload_n 0, 1) := by decide +kernel
theorem dX12_init_255 : decode cX12_init 255 = .ok (.bipush 7, 2) := by decide +kernel
theorem dX12_init_257 : decode cX12_init 257 = .ok (.newarray .int, 2) := by decide +kernel
theorem dX12_init_259 : decode cX12_init 259 = .ok (.putfield 108, 3) := by decide +kernel
theorem dX12_init_262 : decode cX12_init 262 = .ok (.aload_n 0, 1) := by decide +kernel
theorem dX12_init_263 : decode cX12_init 263 = .ok (.bipush 6, 2) := by decide +kernel
theorem dX12_init_265 : decode cX12_init 265 = .ok (.newarray .int, 2) := by decide +kernel
theorem dX12_init_267 : decode cX12_init 267 = .ok (.putfield 111, 3) := by decide +kernel
theorem dX12_init_270 : decode cX12_init 270 = .ok (.aload_n 0, 1) := by decide +kernel
theorem dX12_init_271 : decode cX12_init 271 = .ok (.bipush 16, 2) := by decide +kernel
theorem dX12_init_273 : decode cX12_init 273 = .ok (.newarray .int, 2) := by decide +kernel
theorem dX12_init_275 : decode cX12_init 275 = .ok (.putfield 114, 3) := by decide +kernel
theorem dX12_init_278 : decode cX12_init 278 = .ok (.aload_n 0, 1) := by decide +kernel
theorem dX12_init_279 : decode cX12_init 279 = .ok (.bipush 17, 2) := by decide +kernel
theorem dX12_init_281 : decode cX12_init 281 = .ok (.newarray .int, 2) := by decide +kernel
theorem dX12_init_283 : decode cX12_init 283 = .ok (.putfield 117, 3) := by decide +kernel
theorem dX12_init_286 : decode cX12_init 286 = .ok (.aload_n 0, 1) := by decide +kernel
theorem dX12_init_287 : decode cX12_init 287 = .ok (.bipush 61, 2) := by decide +kernel
theorem dX12_init_289 : decode cX12_init 289 = .ok (.newarray .long, 2) := by decide +kernel
theorem dX12_init_291 : decode cX12_init 291 = .ok (.putfield 120, 3) := by decide +kernel
theorem dX12_init_294 : decode cX12_init 294 = .ok (.iconst 0, 1) := by decide +kernel
theorem dX12_init_295 : decode cX12_init 295 = .ok (.istore_n 1, 1) := by decide +kernel
theorem dX12_init_296 : decode cX12_init 296 = .ok (.iload_n 1, 1) := by decide +kernel
theorem dX12_init_297 : decode cX12_init 297 = .ok (.iconst 4, 1) := by decide +kernel
theorem dX12_init_298 : decode cX12_init 298 = .ok (.if_icmp .ge 48, 3) := by decide +kernel
theorem dX12_init_301 : decode cX12_init 301 = .ok (.aload_n 0, 1) := by decide +kernel
theorem dX12_init_302 : decode cX12_init 302 = .ok (.getfield 7, 3) := by decide +kernel
theorem dX12_init_305 : decode cX12_init 305 = .ok (.iload_n 1, 1) := by decide +kernel
theorem dX12_init_306 : decode cX12_init 306 = .ok (.bipush 100, 2) := by decide +kernel
theorem dX12_init_308 : decode cX12_init 308 = .ok (.iastore, 1) := by decide +kernel
theorem dX12_init_309 : decode cX12_init 309 = .ok (.aload_n 0, 1) := by decide +kernel
theorem dX12_init_310 : decode cX12_init 310 = .ok (.getfield 13, 3) := by decide +kernel
theorem dX12_init_313 : decode cX12_init 313 = .ok (.iload_n 1, 1) := by decide +kernel
theorem dX12_init_314 : decode cX12_init 314 = .ok (.bipush 100, 2) := by decide +kernel
theorem dX12_init_316 : decode cX12_init 316 = .ok (.iastore, 1) := by decide +kernel
theorem dX12_init_317 : decode cX12_init 317 = .ok (.aload_n 0, 1) := by decide +kernel
theorem dX12_init_318 : decode cX12_init 318 = .ok (.getfield 16, 3) := by decide +kernel
theorem dX12_init_321 : decode cX12_init 321 = .ok (.iload_n 1, 1) := by decide +kernel
theorem dX12_init_322 : decode cX12_init 322 = .ok (.bipush 60, 2) := by decide +kernel
theorem dX12_init_324 : decode cX12_init 324 = .ok (.iastore, 1) := by decide +kernel
theorem dX12_init_325 : decode cX12_init 325 = .ok (.aload_n 0, 1) := by decide +kernel
theorem dX12_init_326 : decode cX12_init 326 = .ok (.getfield 19, 3) := by decide +kernel
theorem dX12_init_329 : decode cX12_init 329 = .ok (.iload_n 1, 1) := by decide +kernel
theorem dX12_init_330 : decode cX12_init 330 = .ok (.bipush 10, 2) := by decide +kernel
theorem dX12_init_332 : decode cX12_init 332 = .ok (.iastore, 1) := by decide +kernel
theorem dX12_init_333 : decode cX12_init 333 = .ok (.aload_n 0, 1) := by decide +kernel
theorem dX12_init_334 : decode cX12_init 334 = .ok (.getfield 22, 3) := by decide +kernel
theorem dX12_init_337 : decode cX12_init 337 = .ok (.iload_n 1, 1) := by decide +kernel
theorem dX12_init_338 : decode cX12_init 338 = .ok (.iconst 5, 1) := by decide +kernel
theorem dX12_init_339 : decode cX12_init 339 = .ok (.iastore, 1) := by decide +kernel
theorem dX12_init_340 : decode cX12_init 340 = .ok (.iinc 1 1, 3) := by decide +kernel
theorem dX12_init_343 : decode cX12_init 343 = .ok (.goto (-47), 3) := by decide +kernel
theorem dX12_init_346 : decode cX12_init 346 = .ok (.iconst 0, 1) := by decide +kernel
theorem dX12_init_347 : decode cX12_init 347 = .ok (.istore_n 1, 1) := by decide +kernel
theorem dX12_init_348 : decode cX12_init 348 = .ok (.iload_n 1, 1) := by decide +kernel
theorem dX12_init_349 : decode cX12_init 349 = .ok (.iconst 3, 1) := by decide +kernel
theorem dX12_init_350 : decode cX12_init 350 = .ok (.if_icmp .ge 17, 3) := by decide +kernel
theorem dX12_init_353 : decode cX12_init 353 = .ok (.aload_n 0, 1) := by decide +kernel
theorem dX12_init_354 : decode cX12_init 354 = .ok (.getfield 31, 3) := by decide +kernel
theorem dX12_init_357 : decode cX12_init 357 = .ok (.iload_n 1, 1) := by decide +kernel
theorem dX12_init_358 : decode cX12_init 358 = .ok (.bipush 10, 2) := by decide +kernel
theorem dX12_init_360 : decode cX12_init 360 = .ok (.iastore, 1) := by decide +kernel
theorem dX12_init_361 : decode cX12_init 361 = .ok (.iinc 1 1, 3) := by decide +kernel
theorem dX12_init_364 : decode cX12_init 364 = .ok (.goto (-16), 3) := by decide +kernel
theorem dX12_init_367 : decode cX12_init 367 = .ok (.aload_n 0, 1) := by decide +kernel
theorem dX12_init_368 : decode cX12_init 368 = .ok (.getfield 25, 3) := by decide +kernel
theorem dX12_init_371 : decode cX12_init 371 = .ok (.iconst 0, 1) := by decide +kernel
theorem dX12_init_372 : decode cX12_init 372 = .ok (.bipush 20, 2) := by decide +kernel
theorem dX12_init_374 : decode cX12_init 374 = .ok (.iastore, 1) := by decide +kernel
theorem dX12_init_375 : decode cX12_init 375 = .ok (.aload_n 0, 1) := by decide +kernel
theorem dX12_init_376 : decode cX12_init 376 = .ok (.getfield 25, 3) := by decide +kernel
theorem dX12_init_379 : decode cX12_init 379 = .ok (.iconst 1, 1) := by decide +kernel
theorem dX12_init_380 : decode cX12_init 380 = .ok (.bipush 80, 2) := by decide +kernel
theorem dX12_init_382 : decode cX12_init 382 = .ok (.iastore, 1) := by decide +kernel
theorem dX12_init_383 : decode cX12_init 383 = .ok (.aload_n 0, 1) := by decide +kernel
theorem dX12_init_384 : decode cX12_init 384 = .ok (.getfield 25, 3) := by decide +kernel
theorem dX12_init_387 : decode cX12_init 387 = .ok (.iconst 2, 1) := by decide +kernel
theorem dX12_init_388 : decode cX12_init 388 = .ok (.bipush 10, 2) := by decide +kernel
theorem dX12_init_390 : decode cX12_init 390 = .ok (.iastore, 1) := by decide +kernel
theorem dX12_init_391 : decode cX12_init 391 = .ok (.aload_n 0, 1) := by decide +kernel
theorem dX12_init_392 : decode cX12_init 392 = .ok (.getfield 25, 3) := by decide +kernel
theorem dX12_init_395 : decode cX12_init 395 = .ok (.iconst 3, 1) := by decide +kernel
theorem dX12_init_396 : decode cX12_init 396 = .ok (.bipush 60, 2) := by decide +kernel
theorem dX12_init_398 : decode cX12_init 398 = .ok (.iastore, 1) := by decide +kernel
theorem dX12_init_399 : decode cX12_init 399 = .ok (.aload_n 0, 1) := by decide +kernel
theorem dX12_init_400 : decode cX12_init 400 = .ok (.getfield 25, 3) := by decide +kernel
theorem dX12_init_403 : decode cX12_init 403 = .ok (.iconst 4, 1) := by decide +kernel
theorem dX12_init_404 : decode cX12_init 404 = .ok (.iconst 2, 1) := by decide +kernel
theorem dX12_init_405 : decode cX12_init 405 = .ok (.iastore, 1) := by decide +kernel
theorem dX12_init_406 : decode cX12_init 406 = .ok (.aload_n 0, 1) := by decide +kernel
theorem dX12_init_407 : decode cX12_init 407 = .ok (.getfield 25, 3) := by decide +kernel
theorem dX12_init_410 : decode cX12_init 410 = .ok (.iconst 5, 1) := by decide +kernel
theorem dX12_init_411 : decode cX12_init 411 = .ok (.iconst 5, 1) := by decide +kernel
theorem dX12_init_412 : decode cX12_init 412 = .ok (.iastore, 1) := by decide +kernel
theorem dX12_init_413 : decode cX12_init 413 = .ok (.return_, 1) := by decide +kernel
theorem dX12_within_0 : decode cX12_within 0 = .ok (.iload_n 0, 1) := by decide +kernel
theorem dX12_within_1 : decode cX12_within 1 = .ok (.iload_n 1, 1) := by decide +kernel
theorem dX12_within_2 : decode cX12_within 2 = .ok (.if_icmp .lt 12, 3) := by decide +kernel
theorem dX12_within_5 : decode cX12_within 5 = .ok (.iload_n 0, 1) := by decide +kernel
theorem dX12_within_6 : decode cX12_within 6 = .ok (.iload_n 2, 1) := by decide +kernel
theorem dX12_within_7 : decode cX12_within 7 = .ok (.if_icmp .gt 7, 3) := by decide +kernel
theorem dX12_within_10 : decode cX12_within 10 = .ok (.iconst 1, 1) := by decide +kernel
theorem dX12_within_11 : decode cX12_within 11 = .ok (.goto 4, 3) := by decide +kernel
theorem dX12_within_14 : decode cX12_within 14 = .ok (.iconst 0, 1) := by decide +kernel
theorem dX12_within_15 : decode cX12_within 15 = .ok (.ireturn, 1) := by decide +kernel
theorem dX12_isMetal_0 : decode cX12_isMetal 0 = .ok (.iload_n 0, 1) := by decide +kernel
theorem dX12_isMetal_1 : decode cX12_isMetal 1 = .ok (.iconst 0, 1) := by decide +kernel
theorem dX12_isMetal_2 : decode cX12_isMetal 2 = .ok (.iconst 3, 1) := by decide +kernel
theorem dX12_isMetal_3 : decode cX12_isMetal 3 = .ok (.invokestatic 123, 3) := by decide +kernel
theorem dX12_isMetal_6 : decode cX12_isMetal 6 = .ok (.ireturn, 1) := by decide +kernel
theorem dX12_isCoil_0 : decode cX12_isCoil 0 = .ok (.iload_n 1, 1) := by decide +kernel
theorem dX12_isCoil_1 : decode cX12_isCoil 1 = .ok (.iconst 0, 1) := by decide +kernel
theorem dX12_isCoil_2 : decode cX12_isCoil 2 = .ok (.aload_n 0, 1) := by decide +kernel
theorem dX12_isCoil_3 : decode cX12_isCoil 3 = .ok (.getfield 127, 3) := by decide +kernel
theorem dX12_isCoil_6 : decode cX12_isCoil 6 = .ok (.iconst 1, 1) := by decide +kernel
theorem dX12_isCoil_7 : decode cX12_isCoil 7 = .ok (.isub, 1) := by decide +kernel
theorem dX12_isCoil_8 : decode cX12_isCoil 8 = .ok (.invokestatic 123, 3) := by decide +kernel
theorem dX12_isCoil_11 : decode cX12_isCoil 11 = .ok (.ifCond .eq 18, 3) := by decide +kernel
theorem dX12_isCoil_14 : decode cX12_isCoil 14 = .ok (.aload_n 0, 1) := by decide +kernel
theorem dX12_isCoil_15 : decode cX12_isCoil 15 = .ok (.getfield 58, 3) := by decide +kernel
theorem dX12_isCoil_18 : decode cX12_isCoil 18 = .ok (.iload_n 1, 1) := by decide +kernel
theorem dX12_isCoil_19 : decode cX12_isCoil 19 = .ok (.laload, 1) := by decide +kernel
theorem dX12_isCoil_20 : decode cX12_isCoil 20 = .ok (.lconst 0, 1) := by decide +kernel
theorem dX12_isCoil_21 : decode cX12_isCoil 21 = .ok (.lcmp, 1) := by decide +kernel
theorem dX12_isCoil_22 : decode cX12_isCoil 22 = .ok (.ifCond .le 7, 3) := by decide +kernel
theorem dX12_isCoil_25 : decode cX12_isCoil 25 = .ok (.iconst 1, 1) := by decide +kernel
theorem dX12_isCoil_26 : decode cX12_isCoil 26 = .ok (.goto 4, 3) := by decide +kernel
theorem dX12_isCoil_29 : decode cX12_isCoil 29 = .ok (.iconst 0, 1) := by decide +kernel
theorem dX12_isCoil_30 : decode cX12_isCoil 30 = .ok (.ireturn, 1) := by decide +kernel
theorem dX12_isHole_0 : decode cX12_isHole 0 = .ok (.iload_n 1, 1) := by decide +kernel
theorem dX12_isHole_1 : decode cX12_isHole 1 = .ok (.iconst 0, 1) := by decide +kernel
theorem dX12_isHole_2 : decode cX12_isHole 2 = .ok (.iconst 3, 1) := by decide +kernel
theorem dX12_isHole_3 : decode cX12_isHole 3 = .ok (.invokestatic 123, 3) := by decide +kernel
theorem dX12_isHole_6 : decode cX12_isHole 6 = .ok (.ifCond .eq 23, 3) := by decide +kernel
theorem dX12_isHole_9 : decode cX12_isHole 9 = .ok (.iload_n 2, 1) := by decide +kernel
theorem dX12_isHole_10 : decode cX12_isHole 10 = .ok (.iconst 0, 1) := by decide +kernel
theorem dX12_isHole_11 : decode cX12_isHole 11 = .ok (.aload_n 0, 1) := by decide +kernel
theorem dX12_isHole_12 : decode cX12_isHole 12 = .ok (.getfield 37, 3) := by decide +kernel
theorem dX12_isHole_15 : decode cX12_isHole 15 = .ok (.iload_n 1, 1) := by decide +kernel
theorem dX12_isHole_16 : decode cX12_isHole 16 = .ok (.iaload, 1) := by decide +kernel
theorem dX12_isHole_17 : decode cX12_isHole 17 = .ok (.iconst 1, 1) := by decide +kernel
theorem dX12_isHole_18 : decode cX12_isHole 18 = .ok (.isub, 1) := by decide +kernel
theorem dX12_isHole_19 : decode cX12_isHole 19 = .ok (.invokestatic 123, 3) := by decide +kernel
theorem dX12_isHole_22 : decode cX12_isHole 22 = .ok (.ifCond .eq 7, 3) := by decide +kernel
theorem dX12_isHole_25 : decode cX12_isHole 25 = .ok (.iconst 1, 1) := by decide +kernel
theorem dX12_isHole_26 : decode cX12_isHole 26 = .ok (.goto 4, 3) := by decide +kernel
theorem dX12_isHole_29 : decode cX12_isHole 29 = .ok (.iconst 0, 1) := by decide +kernel
theorem dX12_isHole_30 : decode cX12_isHole 30 = .ok (.ireturn, 1) := by decide +kernel
theorem dX12_isPuller_0 : decode cX12_isPuller 0 = .ok (.iload_n 0, 1) := by decide +kernel
theorem dX12_isPuller_1 : decode cX12_isPuller 1 = .ok (.iconst 0, 1) := by decide +kernel
theorem dX12_isPuller_2 : decode cX12_isPuller 2 = .ok (.iconst 2, 1) := by decide +kernel
theorem dX12_isPuller_3 : decode cX12_isPuller 3 = .ok (.invokestatic 123, 3) := by decide +kernel
theorem dX12_isPuller_6 : decode cX12_isPuller 6 = .ok (.ireturn, 1) := by decide +kernel
theorem dX12_isSize_0 : decode cX12_isSize 0 = .ok (.iload_n 0, 1) := by decide +kernel
theorem dX12_isSize_1 : decode cX12_isSize 1 = .ok (.bipush 20, 2) := by decide +kernel
theorem dX12_isSize_3 : decode cX12_isSize 3 = .ok (.sipush 1000, 3) := by decide +kernel
theorem dX12_isSize_6 : decode cX12_isSize 6 = .ok (.invokestatic 123, 3) := by decide +kernel
theorem dX12_isSize_9 : decode cX12_isSize 9 = .ok (.ireturn, 1) := by decide +kernel
theorem dX12_metal_0 : decode cX12_metal 0 = .ok (.iload_n 1, 1) := by decide +kernel
theorem dX12_metal_1 : decode cX12_metal 1 = .ok (.invokestatic 131, 3) := by decide +kernel
theorem dX12_metal_4 : decode cX12_metal 4 = .ok (.ifCond .ne 6, 3) := by decide +kernel
theorem dX12_metal_7 : decode cX12_metal 7 = .ok (.bipush (-2), 2) := by decide +kernel
theorem dX12_metal_9 : decode cX12_metal 9 = .ok (.ireturn, 1) := by decide +kernel
theorem dX12_metal_10 : decode cX12_metal 10 = .ok (.iload_n 2, 1) := by decide +kernel
theorem dX12_metal_11 : decode cX12_metal 11 = .ok (.iconst 1, 1) := by decide +kernel
theorem dX12_metal_12 : decode cX12_metal 12 = .ok (.sipush 200, 3) := by decide +kernel
theorem dX12_metal_15 : decode cX12_metal 15 = .ok (.invokestatic 123, 3) := by decide +kernel
theorem dX12_metal_18 : decode cX12_metal 18 = .ok (.ifCond .eq 47, 3) := by decide +kernel
theorem dX12_metal_21 : decode cX12_metal 21 = .ok (.iload_n 3, 1) := by decide +kernel
theorem dX12_metal_22 : decode cX12_metal 22 = .ok (.iconst 0, 1) := by decide +kernel
theorem dX12_metal_23 : decode cX12_metal 23 = .ok (.sipush 300, 3) := by decide +kernel
theorem dX12_metal_26 : decode cX12_metal 26 = .ok (.invokestatic 123, 3) := by decide +kernel
theorem dX12_metal_29 : decode cX12_metal 29 = .ok (.ifCond .eq 36, 3) := by decide +kernel
theorem dX12_metal_32 : decode cX12_metal 32 = .ok (.iload 4, 2) := by decide +kernel
theorem dX12_metal_34 : decode cX12_metal 34 = .ok (.iconst 1, 1) := by decide +kernel
theorem dX12_metal_35 : decode cX12_metal 35 = .ok (.bipush 100, 2) := by decide +kernel
theorem dX12_metal_37 : decode cX12_metal 37 = .ok (.invokestatic 123, 3) := by decide +kernel
theorem dX12_metal_40 : decode cX12_metal 40 = .ok (.ifCond .eq 25, 3) := by decide +kernel
theorem dX12_metal_43 : decode cX12_metal 43 = .ok (.iload 5, 2) := by decide +kernel
theorem dX12_metal_45 : decode cX12_metal 45 = .ok (.iconst 0, 1) := by decide +kernel
theorem dX12_metal_46 : decode cX12_metal 46 = .ok (.bipush 50, 2) := by decide +kernel
theorem dX12_metal_48 : decode cX12_metal 48 = .ok (.invokestatic 123, 3) := by decide +kernel
theorem dX12_metal_51 : decode cX12_metal 51 = .ok (.ifCond .eq 14, 3) := by decide +kernel
theorem dX12_metal_54 : decode cX12_metal 54 = .ok (.iload 6, 2) := by decide +kernel
theorem dX12_metal_56 : decode cX12_metal 56 = .ok (.iconst 0, 1) := by decide +kernel
theorem dX12_metal_57 : decode cX12_metal 57 = .ok (.bipush 50, 2) := by decide +kernel
theorem dX12_metal_59 : decode cX12_metal 59 = .ok (.invokestatic 123, 3) := by decide +kernel
theorem dX12_metal_62 : decode cX12_metal 62 = .ok (.ifCond .ne 6, 3) := by decide +kernel
theorem dX12_metal_65 : decode cX12_metal 65 = .ok (.bipush (-3), 2) := by decide +kernel
theorem dX12_metal_67 : decode cX12_metal 67 = .ok (.ireturn, 1) := by decide +kernel
theorem dX12_metal_68 : decode cX12_metal 68 = .ok (.aload_n 0, 1) := by decide +kernel
theorem dX12_metal_69 : decode cX12_metal 69 = .ok (.getfield 7, 3) := by decide +kernel
theorem dX12_metal_72 : decode cX12_metal 72 = .ok (.iload_n 1, 1) := by decide +kernel
theorem dX12_metal_73 : decode cX12_metal 73 = .ok (.iload_n 2, 1) := by decide +kernel
theorem dX12_metal_74 : decode cX12_metal 74 = .ok (.iastore, 1) := by decide +kernel
theorem dX12_metal_75 : decode cX12_metal 75 = .ok (.aload_n 0, 1) := by decide +kernel
theorem dX12_metal_76 : decode cX12_metal 76 = .ok (.getfield 13, 3) := by decide +kernel
theorem dX12_metal_79 : decode cX12_metal 79 = .ok (.iload_n 1, 1) := by decide +kernel
theorem dX12_metal_80 : decode cX12_metal 80 = .ok (.iload_n 3, 1) := by decide +kernel
theorem dX12_metal_81 : decode cX12_metal 81 = .ok (.iastore, 1) := by decide +kernel
theorem dX12_metal_82 : decode cX12_metal 82 = .ok (.aload_n 0, 1) := by decide +kernel
theorem dX12_metal_83 : decode cX12_metal 83 = .ok (.getfield 16, 3) := by decide +kernel
theorem dX12_metal_86 : decode cX12_metal 86 = .ok (.iload_n 1, 1) := by decide +kernel
theorem dX12_metal_87 : decode cX12_metal 87 = .ok (.iload 4, 2) := by decide +kernel
theorem dX12_metal_89 : decode cX12_metal 89 = .ok (.iastore, 1) := by decide +kernel
theorem dX12_metal_90 : decode cX12_metal 90 = .ok (.aload_n 0, 1) := by decide +kernel
theorem dX12_metal_91 : decode cX12_metal 91 = .ok (.getfield 19, 3) := by decide +kernel
theorem dX12_metal_94 : decode cX12_metal 94 = .ok (.iload_n 1, 1) := by decide +kernel
theorem dX12_metal_95 : decode cX12_metal 95 = .ok (.iload 5, 2) := by decide +kernel
theorem dX12_metal_97 : decode cX12_metal 97 = .ok (.iastore, 1) := by decide +kernel
theorem dX12_metal_98 : decode cX12_metal 98 = .ok (.aload_n 0, 1) := by decide +kernel
theorem dX12_metal_99 : decode cX12_metal 99 = .ok (.getfield 22, 3) := by decide +kernel
theorem dX12_metal_102 : decode cX12_metal 102 = .ok (.iload_n 1, 1) := by decide +kernel
theorem dX12_metal_103 : decode cX12_metal 103 = .ok (.iload 6, 2) := by decide +kernel
theorem dX12_metal_105 : decode cX12_metal 105 = .ok (.iastore, 1) := by decide +kernel
theorem dX12_metal_106 : decode cX12_metal 106 = .ok (.iconst 1, 1) := by decide +kernel
theorem dX12_metal_107 : decode cX12_metal 107 = .ok (.ireturn, 1) := by decide +kernel
theorem dX12_leastOf_0 : decode cX12_leastOf 0 = .ok (.iload_n 0, 1) := by decide +kernel
theorem dX12_leastOf_1 : decode cX12_leastOf 1 = .ok (.iconst 1, 1) := by decide +kernel
theorem dX12_leastOf_2 : decode cX12_leastOf 2 = .ok (.if_icmp .ne 8, 3) := by decide +kernel
theorem dX12_leastOf_5 : decode cX12_leastOf 5 = .ok (.bipush 10, 2) := by decide +kernel
theorem dX12_leastOf_7 : decode cX12_leastOf 7 = .ok (.goto 18, 3) := by decide +kernel
theorem dX12_leastOf_10 : decode cX12_leastOf 10 = .ok (.iload_n 0, 1) := by decide +kernel
theorem dX12_leastOf_11 : decode cX12_leastOf 11 = .ok (.iconst 3, 1) := by decide +kernel
theorem dX12_leastOf_12 : decode cX12_leastOf 12 = .ok (.if_icmp .eq 8, 3) := by decide +kernel
theorem dX12_leastOf_15 : decode cX12_leastOf 15 = .ok (.iload_n 0, 1) := by decide +kernel
theorem dX12_leastOf_16 : decode cX12_leastOf 16 = .ok (.iconst 5, 1) := by decide +kernel
theorem dX12_leastOf_17 : decode cX12_leastOf 17 = .ok (.if_icmp .ne 7, 3) := by decide +kernel
theorem dX12_leastOf_20 : decode cX12_leastOf 20 = .ok (.iconst 1, 1) := by decide +kernel
theorem dX12_leastOf_21 : decode cX12_leastOf 21 = .ok (.goto 4, 3) := by decide +kernel
theorem dX12_leastOf_24 : decode cX12_leastOf 24 = .ok (.iconst 0, 1) := by decide +kernel
theorem dX12_leastOf_25 : decode cX12_leastOf 25 = .ok (.ireturn, 1) := by decide +kernel
theorem dX12_mostOf_0 : decode cX12_mostOf 0 = .ok (.iload_n 0, 1) := by decide +kernel
theorem dX12_mostOf_1 : decode cX12_mostOf 1 = .ok (.iconst 2, 1) := by decide +kernel
theorem dX12_mostOf_2 : decode cX12_mostOf 2 = .ok (.if_icmp .ne 8, 3) := by decide +kernel
theorem dX12_mostOf_5 : decode cX12_mostOf 5 = .ok (.bipush 10, 2) := by decide +kernel
theorem dX12_mostOf_7 : decode cX12_mostOf 7 = .ok (.goto 26, 3) := by decide +kernel
theorem dX12_mostOf_10 : decode cX12_mostOf 10 = .ok (.iload_n 0, 1) := by decide +kernel
theorem dX12_mostOf_11 : decode cX12_mostOf 11 = .ok (.iconst 3, 1) := by decide +kernel
theorem dX12_mostOf_12 : decode cX12_mostOf 12 = .ok (.if_icmp .ne 9, 3) := by decide +kernel
theorem dX12_mostOf_15 : decode cX12_mostOf 15 = .ok (.sipush 500, 3) := by decide +kernel
theorem dX12_mostOf_18 : decode cX12_mostOf 18 = .ok (.goto 15, 3) := by decide +kernel
theorem dX12_mostOf_21 : decode cX12_mostOf 21 = .ok (.iload_n 0, 1) := by decide +kernel
theorem dX12_mostOf_22 : decode cX12_mostOf 22 = .ok (.iconst 4, 1) := by decide +kernel
theorem dX12_mostOf_23 : decode cX12_mostOf 23 = .ok (.if_icmp .ne 8, 3) := by decide +kernel
theorem dX12_mostOf_26 : decode cX12_mostOf 26 = .ok (.bipush 20, 2) := by decide +kernel
theorem dX12_mostOf_28 : decode cX12_mostOf 28 = .ok (.goto 5, 3) := by decide +kernel
theorem dX12_mostOf_31 : decode cX12_mostOf 31 = .ok (.bipush 100, 2) := by decide +kernel
theorem dX12_mostOf_33 : decode cX12_mostOf 33 = .ok (.ireturn, 1) := by decide +kernel
theorem dX12_set_0 : decode cX12_set 0 = .ok (.iload_n 1, 1) := by decide +kernel
theorem dX12_set_1 : decode cX12_set 1 = .ok (.iconst 0, 1) := by decide +kernel
theorem dX12_set_2 : decode cX12_set 2 = .ok (.iconst 5, 1) := by decide +kernel
theorem dX12_set_3 : decode cX12_set 3 = .ok (.invokestatic 123, 3) := by decide +kernel
theorem dX12_set_6 : decode cX12_set 6 = .ok (.ifCond .eq 18, 3) := by decide +kernel
theorem dX12_set_9 : decode cX12_set 9 = .ok (.iload_n 2, 1) := by decide +kernel
theorem dX12_set_10 : decode cX12_set 10 = .ok (.iload_n 1, 1) := by decide +kernel
theorem dX12_set_11 : decode cX12_set 11 = .ok (.invokestatic 135, 3) := by decide +kernel
theorem dX12_set_14 : decode cX12_set 14 = .ok (.iload_n 1, 1) := by decide +kernel
theorem dX12_set_15 : decode cX12_set 15 = .ok (.invokestatic 139, 3) := by decide +kernel
theorem dX12_set_18 : decode cX12_set 18 = .ok (.invokestatic 123, 3) := by decide +kernel
theorem dX12_set_21 : decode cX12_set 21 = .ok (.ifCond .ne 6, 3) := by decide +kernel
theorem dX12_set_24 : decode cX12_set 24 = .ok (.bipush (-3), 2) := by decide +kernel
theorem dX12_set_26 : decode cX12_set 26 = .ok (.ireturn, 1) := by decide +kernel
theorem dX12_set_27 : decode cX12_set 27 = .ok (.aload_n 0, 1) := by decide +kernel
theorem dX12_set_28 : decode cX12_set 28 = .ok (.getfield 25, 3) := by decide +kernel
theorem dX12_set_31 : decode cX12_set 31 = .ok (.iload_n 1, 1) := by decide +kernel
theorem dX12_set_32 : decode cX12_set 32 = .ok (.iaload, 1) := by decide +kernel
theorem dX12_set_33 : decode cX12_set 33 = .ok (.istore_n 3, 1) := by decide +kernel
theorem dX12_set_34 : decode cX12_set 34 = .ok (.aload_n 0, 1) := by decide +kernel
theorem dX12_set_35 : decode cX12_set 35 = .ok (.getfield 25, 3) := by decide +kernel
theorem dX12_set_38 : decode cX12_set 38 = .ok (.iload_n 1, 1) := by decide +kernel
theorem dX12_set_39 : decode cX12_set 39 = .ok (.iload_n 2, 1) := by decide +kernel
theorem dX12_set_40 : decode cX12_set 40 = .ok (.iastore, 1) := by decide +kernel
theorem dX12_set_41 : decode cX12_set 41 = .ok (.iload_n 3, 1) := by decide +kernel
theorem dX12_set_42 : decode cX12_set 42 = .ok (.ireturn, 1) := by decide +kernel
theorem dX12_puller_0 : decode cX12_puller 0 = .ok (.iload_n 1, 1) := by decide +kernel
theorem dX12_puller_1 : decode cX12_puller 1 = .ok (.invokestatic 142, 3) := by decide +kernel
theorem dX12_puller_4 : decode cX12_puller 4 = .ok (.ifCond .ne 6, 3) := by decide +kernel
theorem dX12_puller_7 : decode cX12_puller 7 = .ok (.bipush (-2), 2) := by decide +kernel
theorem dX12_puller_9 : decode cX12_puller 9 = .ok (.ireturn, 1) := by decide +kernel
theorem dX12_puller_10 : decode cX12_puller 10 = .ok (.iload_n 2, 1) := by decide +kernel
theorem dX12_puller_11 : decode cX12_puller 11 = .ok (.iconst 0, 1) := by decide +kernel
theorem dX12_puller_12 : decode cX12_puller 12 = .ok (.ldc 145, 2) := by decide +kernel
theorem dX12_puller_14 : decode cX12_puller 14 = .ok (.invokestatic 123, 3) := by decide +kernel
theorem dX12_puller_17 : decode cX12_puller 17 = .ok (.ifCond .eq 15, 3) := by decide +kernel
theorem dX12_puller_20 : decode cX12_puller 20 = .ok (.iload_n 3, 1) := by decide +kernel
theorem dX12_puller_21 : decode cX12_puller 21 = .ok (.bipush 10, 2) := by decide +kernel
theorem dX12_puller_23 : decode cX12_puller 23 = .ok (.sipush 1000, 3) := by decide +kernel
theorem dX12_puller_26 : decode cX12_puller 26 = .ok (.invokestatic 123, 3) := by decide +kernel
theorem dX12_puller_29 : decode cX12_puller 29 = .ok (.ifCond .ne 6, 3) := by decide +kernel
theorem dX12_puller_32 : decode cX12_puller 32 = .ok (.bipush (-3), 2) := by decide +kernel
theorem dX12_puller_34 : decode cX12_puller 34 = .ok (.ireturn, 1) := by decide +kernel
theorem dX12_puller_35 : decode cX12_puller 35 = .ok (.aload_n 0, 1) := by decide +kernel
theorem dX12_puller_36 : decode cX12_puller 36 = .ok (.getfield 28, 3) := by decide +kernel
theorem dX12_puller_39 : decode cX12_puller 39 = .ok (.iload_n 1, 1) := by decide +kernel
theorem dX12_puller_40 : decode cX12_puller 40 = .ok (.iload_n 2, 1) := by decide +kernel
theorem dX12_puller_41 : decode cX12_puller 41 = .ok (.iastore, 1) := by decide +kernel
theorem dX12_puller_42 : decode cX12_puller 42 = .ok (.aload_n 0, 1) := by decide +kernel
theorem dX12_puller_43 : decode cX12_puller 43 = .ok (.getfield 31, 3) := by decide +kernel
theorem dX12_puller_46 : decode cX12_puller 46 = .ok (.iload_n 1, 1) := by decide +kernel
theorem dX12_puller_47 : decode cX12_puller 47 = .ok (.iload_n 3, 1) := by decide +kernel
theorem dX12_puller_48 : decode cX12_puller 48 = .ok (.iastore, 1) := by decide +kernel
theorem dX12_puller_49 : decode cX12_puller 49 = .ok (.iconst 1, 1) := by decide +kernel
theorem dX12_puller_50 : decode cX12_puller 50 = .ok (.ireturn, 1) := by decide +kernel
theorem dX12_hole_0 : decode cX12_hole 0 = .ok (.iload_n 1, 1) := by decide +kernel
theorem dX12_hole_1 : decode cX12_hole 1 = .ok (.iconst 0, 1) := by decide +kernel
theorem dX12_hole_2 : decode cX12_hole 2 = .ok (.iconst 3, 1) := by decide +kernel
theorem dX12_hole_3 : decode cX12_hole 3 = .ok (.invokestatic 123, 3) := by decide +kernel
theorem dX12_hole_6 : decode cX12_hole 6 = .ok (.ifCond .ne 6, 3) := by decide +kernel
theorem dX12_hole_9 : decode cX12_hole 9 = .ok (.bipush (-2), 2) := by decide +kernel
theorem dX12_hole_11 : decode cX12_hole 11 = .ok (.ireturn, 1) := by decide +kernel
theorem dX12_hole_12 : decode cX12_hole 12 = .ok (.iload_n 2, 1) := by decide +kernel
theorem dX12_hole_13 : decode cX12_hole 13 = .ok (.invokestatic 146, 3) := by decide +kernel
theorem dX12_hole_16 : decode cX12_hole 16 = .ok (.ifCond .ne 6, 3) := by decide +kernel
theorem dX12_hole_19 : decode cX12_hole 19 = .ok (.bipush (-3), 2) := by decide +kernel
theorem dX12_hole_21 : decode cX12_hole 21 = .ok (.ireturn, 1) := by decide +kernel
theorem dX12_hole_22 : decode cX12_hole 22 = .ok (.aload_n 0, 1) := by decide +kernel
theorem dX12_hole_23 : decode cX12_hole 23 = .ok (.getfield 37, 3) := by decide +kernel
theorem dX12_hole_26 : decode cX12_hole 26 = .ok (.iload_n 1, 1) := by decide +kernel
theorem dX12_hole_27 : decode cX12_hole 27 = .ok (.iaload, 1) := by decide +kernel
theorem dX12_hole_28 : decode cX12_hole 28 = .ok (.bipush 8, 2) := by decide +kernel
theorem dX12_hole_30 : decode cX12_hole 30 = .ok (.if_icmp .ne 6, 3) := by decide +kernel
theorem dX12_hole_33 : decode cX12_hole 33 = .ok (.bipush (-8), 2) := by decide +kernel
theorem dX12_hole_35 : decode cX12_hole 35 = .ok (.ireturn, 1) := by decide +kernel
theorem dX12_hole_36 : decode cX12_hole 36 = .ok (.bipush 8, 2) := by decide +kernel
theorem dX12_hole_38 : decode cX12_hole 38 = .ok (.iload_n 1, 1) := by decide +kernel
theorem dX12_hole_39 : decode cX12_hole 39 = .ok (.imul, 1) := by decide +kernel
theorem dX12_hole_40 : decode cX12_hole 40 = .ok (.aload_n 0, 1) := by decide +kernel
theorem dX12_hole_41 : decode cX12_hole 41 = .ok (.getfield 37, 3) := by decide +kernel
theorem dX12_hole_44 : decode cX12_hole 44 = .ok (.iload_n 1, 1) := by decide +kernel
theorem dX12_hole_45 : decode cX12_hole 45 = .ok (.iaload, 1) := by decide +kernel
theorem dX12_hole_46 : decode cX12_hole 46 = .ok (.iadd, 1) := by decide +kernel
theorem dX12_hole_47 : decode cX12_hole 47 = .ok (.istore_n 3, 1) := by decide +kernel
theorem dX12_hole_48 : decode cX12_hole 48 = .ok (.aload_n 0, 1) := by decide +kernel
theorem dX12_hole_49 : decode cX12_hole 49 = .ok (.getfield 40, 3) := by decide +kernel
theorem dX12_hole_52 : decode cX12_hole 52 = .ok (.iload_n 3, 1) := by decide +kernel
theorem dX12_hole_53 : decode cX12_hole 53 = .ok (.iload_n 2, 1) := by decide +kernel
theorem dX12_hole_54 : decode cX12_hole 54 = .ok (.iastore, 1) := by decide +kernel
theorem dX12_hole_55 : decode cX12_hole 55 = .ok (.aload_n 0, 1) := by decide +kernel
theorem dX12_hole_56 : decode cX12_hole 56 = .ok (.getfield 43, 3) := by decide +kernel
theorem dX12_hole_59 : decode cX12_hole 59 = .ok (.iload_n 3, 1) := by decide +kernel
theorem dX12_hole_60 : decode cX12_hole 60 = .ok (.iconst 0, 1) := by decide +kernel
theorem dX12_hole_61 : decode cX12_hole 61 = .ok (.iastore, 1) := by decide +kernel
theorem dX12_hole_62 : decode cX12_hole 62 = .ok (.aload_n 0, 1) := by decide +kernel
theorem dX12_hole_63 : decode cX12_hole 63 = .ok (.getfield 46, 3) := by decide +kernel
theorem dX12_hole_66 : decode cX12_hole 66 = .ok (.iload_n 3, 1) := by decide +kernel
theorem dX12_hole_67 : decode cX12_hole 67 = .ok (.iconst 0, 1) := by decide +kernel
theorem dX12_hole_68 : decode cX12_hole 68 = .ok (.iastore, 1) := by decide +kernel
theorem dX12_hole_69 : decode cX12_hole 69 = .ok (.aload_n 0, 1) := by decide +kernel
theorem dX12_hole_70 : decode cX12_hole 70 = .ok (.getfield 37, 3) := by decide +kernel
theorem dX12_hole_73 : decode cX12_hole 73 = .ok (.iload_n 1, 1) := by decide +kernel
theorem dX12_hole_74 : decode cX12_hole 74 = .ok (.dup2, 1) := by decide +kernel
theorem dX12_hole_75 : decode cX12_hole 75 = .ok (.iaload, 1) := by decide +kernel
theorem dX12_hole_76 : decode cX12_hole 76 = .ok (.iconst 1, 1) := by decide +kernel
theorem dX12_hole_77 : decode cX12_hole 77 = .ok (.iadd, 1) := by decide +kernel
theorem dX12_hole_78 : decode cX12_hole 78 = .ok (.iastore, 1) := by decide +kernel
theorem dX12_hole_79 : decode cX12_hole 79 = .ok (.aload_n 0, 1) := by decide +kernel
theorem dX12_hole_80 : decode cX12_hole 80 = .ok (.getfield 37, 3) := by decide +kernel
theorem dX12_hole_83 : decode cX12_hole 83 = .ok (.iload_n 1, 1) := by decide +kernel
theorem dX12_hole_84 : decode cX12_hole 84 = .ok (.iaload, 1) := by decide +kernel
theorem dX12_hole_85 : decode cX12_hole 85 = .ok (.iconst 1, 1) := by decide +kernel
theorem dX12_hole_86 : decode cX12_hole 86 = .ok (.isub, 1) := by decide +kernel
theorem dX12_hole_87 : decode cX12_hole 87 = .ok (.ireturn, 1) := by decide +kernel
theorem dX12_wide_0 : decode cX12_wide 0 = .ok (.aload_n 0, 1) := by decide +kernel
theorem dX12_wide_1 : decode cX12_wide 1 = .ok (.getfield 40, 3) := by decide +kernel
theorem dX12_wide_4 : decode cX12_wide 4 = .ok (.iload_n 1, 1) := by decide +kernel
theorem dX12_wide_5 : decode cX12_wide 5 = .ok (.iaload, 1) := by decide +kernel
theorem dX12_wide_6 : decode cX12_wide 6 = .ok (.aload_n 0, 1) := by decide +kernel
theorem dX12_wide_7 : decode cX12_wide 7 = .ok (.getfield 43, 3) := by decide +kernel
theorem dX12_wide_10 : decode cX12_wide 10 = .ok (.iload_n 1, 1) := by decide +kernel
theorem dX12_wide_11 : decode cX12_wide 11 = .ok (.iaload, 1) := by decide +kernel
theorem dX12_wide_12 : decode cX12_wide 12 = .ok (.sipush 1000, 3) := by decide +kernel
theorem dX12_wide_15 : decode cX12_wide 15 = .ok (.idiv, 1) := by decide +kernel
theorem dX12_wide_16 : decode cX12_wide 16 = .ok (.iadd, 1) := by decide +kernel
theorem dX12_wide_17 : decode cX12_wide 17 = .ok (.ireturn, 1) := by decide +kernel
theorem dX12_isSpent_0 : decode cX12_isSpent 0 = .ok (.aload_n 0, 1) := by decide +kernel
theorem dX12_isSpent_1 : decode cX12_isSpent 1 = .ok (.iload_n 1, 1) := by decide +kernel
theorem dX12_isSpent_2 : decode cX12_isSpent 2 = .ok (.invokevirtual 149, 3) := by decide +kernel
theorem dX12_isSpent_5 : decode cX12_isSpent 5 = .ok (.aload_n 0, 1) := by decide +kernel
theorem dX12_isSpent_6 : decode cX12_isSpent 6 = .ok (.getfield 40, 3) := by decide +kernel
theorem dX12_isSpent_9 : decode cX12_isSpent 9 = .ok (.iload_n 1, 1) := by decide +kernel
theorem dX12_isSpent_10 : decode cX12_isSpent 10 = .ok (.iaload, 1) := by decide +kernel
theorem dX12_isSpent_11 : decode cX12_isSpent 11 = .ok (.bipush 50, 2) := by decide +kernel
theorem dX12_isSpent_13 : decode cX12_isSpent 13 = .ok (.iadd, 1) := by decide +kernel
theorem dX12_isSpent_14 : decode cX12_isSpent 14 = .ok (.if_icmp .le 7, 3) := by decide +kernel
theorem dX12_isSpent_17 : decode cX12_isSpent 17 = .ok (.iconst 1, 1) := by decide +kernel
theorem dX12_isSpent_18 : decode cX12_isSpent 18 = .ok (.goto 4, 3) := by decide +kernel
theorem dX12_isSpent_21 : decode cX12_isSpent 21 = .ok (.iconst 0, 1) := by decide +kernel
theorem dX12_isSpent_22 : decode cX12_isSpent 22 = .ok (.ireturn, 1) := by decide +kernel
theorem dX12_told_0 : decode cX12_told 0 = .ok (.aload_n 0, 1) := by decide +kernel
theorem dX12_told_1 : decode cX12_told 1 = .ok (.iload_n 1, 1) := by decide +kernel
theorem dX12_told_2 : decode cX12_told 2 = .ok (.iload_n 2, 1) := by decide +kernel
theorem dX12_told_3 : decode cX12_told 3 = .ok (.invokevirtual 152, 3) := by decide +kernel
theorem dX12_told_6 : decode cX12_told 6 = .ok (.ifCond .ne 6, 3) := by decide +kernel
theorem dX12_told_9 : decode cX12_told 9 = .ok (.bipush (-2), 2) := by decide +kernel
theorem dX12_told_11 : decode cX12_told 11 = .ok (.ireturn, 1) := by decide +kernel
theorem dX12_told_12 : decode cX12_told 12 = .ok (.bipush 8, 2) := by decide +kernel
theorem dX12_told_14 : decode cX12_told 14 = .ok (.iload_n 1, 1) := by decide +kernel
theorem dX12_told_15 : decode cX12_told 15 = .ok (.imul, 1) := by decide +kernel
theorem dX12_told_16 : decode cX12_told 16 = .ok (.iload_n 2, 1) := by decide +kernel
theorem dX12_told_17 : decode cX12_told 17 = .ok (.iadd, 1) := by decide +kernel
theorem dX12_told_18 : decode cX12_told 18 = .ok (.istore 4, 2) := by decide +kernel
theorem dX12_told_20 : decode cX12_told 20 = .ok (.iload_n 3, 1) := by decide +kernel
theorem dX12_told_21 : decode cX12_told 21 = .ok (.ifCond .ne 13, 3) := by decide +kernel
theorem dX12_told_24 : decode cX12_told 24 = .ok (.aload_n 0, 1) := by decide +kernel
theorem dX12_told_25 : decode cX12_told 25 = .ok (.getfield 40, 3) := by decide +kernel
theorem dX12_told_28 : decode cX12_told 28 = .ok (.iload 4, 2) := by decide +kernel
theorem dX12_told_30 : decode cX12_told 30 = .ok (.iaload, 1) := by decide +kernel
theorem dX12_told_31 : decode cX12_told 31 = .ok (.goto 71, 3) := by decide +kernel
theorem dX12_told_34 : decode cX12_told 34 = .ok (.iload_n 3, 1) := by decide +kernel
theorem dX12_told_35 : decode cX12_told 35 = .ok (.iconst 1, 1) := by decide +kernel
theorem dX12_told_36 : decode cX12_told 36 = .ok (.if_icmp .ne 13, 3) := by decide +kernel
theorem dX12_told_39 : decode cX12_told 39 = .ok (.aload_n 0, 1) := by decide +kernel
theorem dX12_told_40 : decode cX12_told 40 = .ok (.getfield 43, 3) := by decide +kernel
theorem dX12_told_43 : decode cX12_told 43 = .ok (.iload 4, 2) := by decide +kernel
theorem dX12_told_45 : decode cX12_told 45 = .ok (.iaload, 1) := by decide +kernel
theorem dX12_told_46 : decode cX12_told 46 = .ok (.goto 56, 3) := by decide +kernel
theorem dX12_told_49 : decode cX12_told 49 = .ok (.iload_n 3, 1) := by decide +kernel
theorem dX12_told_50 : decode cX12_told 50 = .ok (.iconst 2, 1) := by decide +kernel
theorem dX12_told_51 : decode cX12_told 51 = .ok (.if_icmp .ne 12, 3) := by decide +kernel
theorem dX12_told_54 : decode cX12_told 54 = .ok (.aload_n 0, 1) := by decide +kernel
theorem dX12_told_55 : decode cX12_told 55 = .ok (.iload 4, 2) := by decide +kernel
theorem dX12_told_57 : decode cX12_told 57 = .ok (.invokevirtual 149, 3) := by decide +kernel
theorem dX12_told_60 : decode cX12_told 60 = .ok (.goto 42, 3) := by decide +kernel
theorem dX12_told_63 : decode cX12_told 63 = .ok (.iload_n 3, 1) := by decide +kernel
theorem dX12_told_64 : decode cX12_told 64 = .ok (.iconst 3, 1) := by decide +kernel
theorem dX12_told_65 : decode cX12_told 65 = .ok (.if_icmp .ne 13, 3) := by decide +kernel
theorem dX12_told_68 : decode cX12_told 68 = .ok (.aload_n 0, 1) := by decide +kernel
theorem dX12_told_69 : decode cX12_told 69 = .ok (.getfield 46, 3) := by decide +kernel
theorem dX12_told_72 : decode cX12_told 72 = .ok (.iload 4, 2) := by decide +kernel
theorem dX12_told_74 : decode cX12_told 74 = .ok (.iaload, 1) := by decide +kernel
theorem dX12_told_75 : decode cX12_told 75 = .ok (.goto 27, 3) := by decide +kernel
theorem dX12_told_78 : decode cX12_told 78 = .ok (.iload_n 3, 1) := by decide +kernel
theorem dX12_told_79 : decode cX12_told 79 = .ok (.iconst 4, 1) := by decide +kernel
theorem dX12_told_80 : decode cX12_told 80 = .ok (.if_icmp .ne 20, 3) := by decide +kernel
theorem dX12_told_83 : decode cX12_told 83 = .ok (.aload_n 0, 1) := by decide +kernel
theorem dX12_told_84 : decode cX12_told 84 = .ok (.iload 4, 2) := by decide +kernel
theorem dX12_told_86 : decode cX12_told 86 = .ok (.invokevirtual 156, 3) := by decide +kernel
theorem dX12_told_89 : decode cX12_told 89 = .ok (.ifCond .eq 7, 3) := by decide +kernel
theorem dX12_told_92 : decode cX12_told 92 = .ok (.iconst 1, 1) := by decide +kernel
theorem dX12_told_93 : decode cX12_told 93 = .ok (.goto 9, 3) := by decide +kernel
theorem dX12_told_96 : decode cX12_told 96 = .ok (.iconst 0, 1) := by decide +kernel
theorem dX12_told_97 : decode cX12_told 97 = .ok (.goto 5, 3) := by decide +kernel
theorem dX12_told_100 : decode cX12_told 100 = .ok (.bipush (-3), 2) := by decide +kernel
theorem dX12_told_102 : decode cX12_told 102 = .ok (.ireturn, 1) := by decide +kernel
theorem dX12_gauge_0 : decode cX12_gauge 0 = .ok (.aload_n 0, 1) := by decide +kernel
theorem dX12_gauge_1 : decode cX12_gauge 1 = .ok (.iload_n 1, 1) := by decide +kernel
theorem dX12_gauge_2 : decode cX12_gauge 2 = .ok (.iload_n 2, 1) := by decide +kernel
theorem dX12_gauge_3 : decode cX12_gauge 3 = .ok (.invokevirtual 152, 3) := by decide +kernel
theorem dX12_gauge_6 : decode cX12_gauge 6 = .ok (.ifCond .eq 28, 3) := by decide +kernel
theorem dX12_gauge_9 : decode cX12_gauge 9 = .ok (.aload_n 0, 1) := by decide +kernel
theorem dX12_gauge_10 : decode cX12_gauge 10 = .ok (.bipush 8, 2) := by decide +kernel
theorem dX12_gauge_12 : decode cX12_gauge 12 = .ok (.iload_n 1, 1) := by decide +kernel
theorem dX12_gauge_13 : decode cX12_gauge 13 = .ok (.imul, 1) := by decide +kernel
theorem dX12_gauge_14 : decode cX12_gauge 14 = .ok (.iload_n 2, 1) := by decide +kernel
theorem dX12_gauge_15 : decode cX12_gauge 15 = .ok (.iadd, 1) := by decide +kernel
theorem dX12_gauge_16 : decode cX12_gauge 16 = .ok (.invokevirtual 149, 3) := by decide +kernel
theorem dX12_gauge_19 : decode cX12_gauge 19 = .ok (.aload_n 0, 1) := by decide +kernel
theorem dX12_gauge_20 : decode cX12_gauge 20 = .ok (.getfield 40, 3) := by decide +kernel
theorem dX12_gauge_23 : decode cX12_gauge 23 = .ok (.bipush 8, 2) := by decide +kernel
theorem dX12_gauge_25 : decode cX12_gauge 25 = .ok (.iload_n 1, 1) := by decide +kernel
theorem dX12_gauge_26 : decode cX12_gauge 26 = .ok (.imul, 1) := by decide +kernel
theorem dX12_gauge_27 : decode cX12_gauge 27 = .ok (.iload_n 2, 1) := by decide +kernel
theorem dX12_gauge_28 : decode cX12_gauge 28 = .ok (.iadd, 1) := by decide +kernel
theorem dX12_gauge_29 : decode cX12_gauge 29 = .ok (.iaload, 1) := by decide +kernel
theorem dX12_gauge_30 : decode cX12_gauge 30 = .ok (.isub, 1) := by decide +kernel
theorem dX12_gauge_31 : decode cX12_gauge 31 = .ok (.goto 5, 3) := by decide +kernel
theorem dX12_gauge_34 : decode cX12_gauge 34 = .ok (.bipush (-2), 2) := by decide +kernel
theorem dX12_gauge_36 : decode cX12_gauge 36 = .ok (.ireturn, 1) := by decide +kernel
theorem dX12_ream_0 : decode cX12_ream 0 = .ok (.aload_n 0, 1) := by decide +kernel
theorem dX12_ream_1 : decode cX12_ream 1 = .ok (.iload_n 1, 1) := by decide +kernel
theorem dX12_ream_2 : decode cX12_ream 2 = .ok (.iload_n 2, 1) := by decide +kernel
theorem dX12_ream_3 : decode cX12_ream 3 = .ok (.invokevirtual 152, 3) := by decide +kernel
theorem dX12_ream_6 : decode cX12_ream 6 = .ok (.ifCond .ne 6, 3) := by decide +kernel
theorem dX12_ream_9 : decode cX12_ream 9 = .ok (.bipush (-2), 2) := by decide +kernel
theorem dX12_ream_11 : decode cX12_ream 11 = .ok (.ireturn, 1) := by decide +kernel
theorem dX12_ream_12 : decode cX12_ream 12 = .ok (.iload_n 3, 1) := by decide +kernel
theorem dX12_ream_13 : decode cX12_ream 13 = .ok (.iconst 1, 1) := by decide +kernel
theorem dX12_ream_14 : decode cX12_ream 14 = .ok (.bipush 50, 2) := by decide +kernel
theorem dX12_ream_16 : decode cX12_ream 16 = .ok (.invokestatic 123, 3) := by decide +kernel
theorem dX12_ream_19 : decode cX12_ream 19 = .ok (.ifCond .ne 6, 3) := by decide +kernel
theorem dX12_ream_22 : decode cX12_ream 22 = .ok (.bipush (-3), 2) := by decide +kernel
theorem dX12_ream_24 : decode cX12_ream 24 = .ok (.ireturn, 1) := by decide +kernel
theorem dX12_ream_25 : decode cX12_ream 25 = .ok (.bipush 8, 2) := by decide +kernel
theorem dX12_ream_27 : decode cX12_ream 27 = .ok (.iload_n 1, 1) := by decide +kernel
theorem dX12_ream_28 : decode cX12_ream 28 = .ok (.imul, 1) := by decide +kernel
theorem dX12_ream_29 : decode cX12_ream 29 = .ok (.iload_n 2, 1) := by decide +kernel
theorem dX12_ream_30 : decode cX12_ream 30 = .ok (.iadd, 1) := by decide +kernel
theorem dX12_ream_31 : decode cX12_ream 31 = .ok (.istore 4, 2) := by decide +kernel
theorem dX12_ream_33 : decode cX12_ream 33 = .ok (.aload_n 0, 1) := by decide +kernel
theorem dX12_ream_34 : decode cX12_ream 34 = .ok (.getfield 46, 3) := by decide +kernel
theorem dX12_ream_37 : decode cX12_ream 37 = .ok (.iload 4, 2) := by decide +kernel
theorem dX12_ream_39 : decode cX12_ream 39 = .ok (.iaload, 1) := by decide +kernel
theorem dX12_ream_40 : decode cX12_ream 40 = .ok (.iconst 2, 1) := by decide +kernel
theorem dX12_ream_41 : decode cX12_ream 41 = .ok (.if_icmp .eq 17, 3) := by decide +kernel
theorem dX12_ream_44 : decode cX12_ream 44 = .ok (.aload_n 0, 1) := by decide +kernel
theorem dX12_ream_45 : decode cX12_ream 45 = .ok (.iload 4, 2) := by decide +kernel
theorem dX12_ream_47 : decode cX12_ream 47 = .ok (.invokevirtual 149, 3) := by decide +kernel
theorem dX12_ream_50 : decode cX12_ream 50 = .ok (.iload_n 3, 1) := by decide +kernel
theorem dX12_ream_51 : decode cX12_ream 51 = .ok (.iadd, 1) := by decide +kernel
theorem dX12_ream_52 : decode cX12_ream 52 = .ok (.sipush 1000, 3) := by decide +kernel
theorem dX12_ream_55 : decode cX12_ream 55 = .ok (.if_icmp .le 6, 3) := by decide +kernel
theorem dX12_ream_58 : decode cX12_ream 58 = .ok (.bipush (-4), 2) := by decide +kernel
theorem dX12_ream_60 : decode cX12_ream 60 = .ok (.ireturn, 1) := by decide +kernel
theorem dX12_ream_61 : decode cX12_ream 61 = .ok (.aload_n 0, 1) := by decide +kernel
theorem dX12_ream_62 : decode cX12_ream 62 = .ok (.getfield 40, 3) := by decide +kernel
theorem dX12_ream_65 : decode cX12_ream 65 = .ok (.iload 4, 2) := by decide +kernel
theorem dX12_ream_67 : decode cX12_ream 67 = .ok (.aload_n 0, 1) := by decide +kernel
theorem dX12_ream_68 : decode cX12_ream 68 = .ok (.iload 4, 2) := by decide +kernel
theorem dX12_ream_70 : decode cX12_ream 70 = .ok (.invokevirtual 149, 3) := by decide +kernel
theorem dX12_ream_73 : decode cX12_ream 73 = .ok (.iload_n 3, 1) := by decide +kernel
theorem dX12_ream_74 : decode cX12_ream 74 = .ok (.iadd, 1) := by decide +kernel
theorem dX12_ream_75 : decode cX12_ream 75 = .ok (.iastore, 1) := by decide +kernel
theorem dX12_ream_76 : decode cX12_ream 76 = .ok (.aload_n 0, 1) := by decide +kernel
theorem dX12_ream_77 : decode cX12_ream 77 = .ok (.getfield 43, 3) := by decide +kernel
theorem dX12_ream_80 : decode cX12_ream 80 = .ok (.iload 4, 2) := by decide +kernel
theorem dX12_ream_82 : decode cX12_ream 82 = .ok (.iconst 0, 1) := by decide +kernel
theorem dX12_ream_83 : decode cX12_ream 83 = .ok (.iastore, 1) := by decide +kernel
theorem dX12_ream_84 : decode cX12_ream 84 = .ok (.aload_n 0, 1) := by decide +kernel
theorem dX12_ream_85 : decode cX12_ream 85 = .ok (.getfield 46, 3) := by decide +kernel
theorem dX12_ream_88 : decode cX12_ream 88 = .ok (.iload 4, 2) := by decide +kernel
theorem dX12_ream_90 : decode cX12_ream 90 = .ok (.dup2, 1) := by decide +kernel
theorem dX12_ream_91 : decode cX12_ream 91 = .ok (.iaload, 1) := by decide +kernel
theorem dX12_ream_92 : decode cX12_ream 92 = .ok (.iconst 1, 1) := by decide +kernel
theorem dX12_ream_93 : decode cX12_ream 93 = .ok (.iadd, 1) := by decide +kernel
theorem dX12_ream_94 : decode cX12_ream 94 = .ok (.iastore, 1) := by decide +kernel
theorem dX12_ream_95 : decode cX12_ream 95 = .ok (.aload_n 0, 1) := by decide +kernel
theorem dX12_ream_96 : decode cX12_ream 96 = .ok (.getfield 40, 3) := by decide +kernel
theorem dX12_ream_99 : decode cX12_ream 99 = .ok (.iload 4, 2) := by decide +kernel
theorem dX12_ream_101 : decode cX12_ream 101 = .ok (.iaload, 1) := by decide +kernel
theorem dX12_ream_102 : decode cX12_ream 102 = .ok (.ireturn, 1) := by decide +kernel
theorem dX12_newCoil_0 : decode cX12_newCoil 0 = .ok (.aload_n 0, 1) := by decide +kernel
theorem dX12_newCoil_1 : decode cX12_newCoil 1 = .ok (.getfield 49, 3) := by decide +kernel
theorem dX12_newCoil_4 : decode cX12_newCoil 4 = .ok (.aload_n 0, 1) := by decide +kernel
theorem dX12_newCoil_5 : decode cX12_newCoil 5 = .ok (.getfield 127, 3) := by decide +kernel
theorem dX12_newCoil_8 : decode cX12_newCoil 8 = .ok (.iload_n 1, 1) := by decide +kernel
theorem dX12_newCoil_9 : decode cX12_newCoil 9 = .ok (.iastore, 1) := by decide +kernel
theorem dX12_newCoil_10 : decode cX12_newCoil 10 = .ok (.aload_n 0, 1) := by decide +kernel
theorem dX12_newCoil_11 : decode cX12_newCoil 11 = .ok (.getfield 52, 3) := by decide +kernel
theorem dX12_newCoil_14 : decode cX12_newCoil 14 = .ok (.aload_n 0, 1) := by decide +kernel
theorem dX12_newCoil_15 : decode cX12_newCoil 15 = .ok (.getfield 127, 3) := by decide +kernel
theorem dX12_newCoil_18 : decode cX12_newCoil 18 = .ok (.iload_n 2, 1) := by decide +kernel
theorem dX12_newCoil_19 : decode cX12_newCoil 19 = .ok (.iastore, 1) := by decide +kernel
theorem dX12_newCoil_20 : decode cX12_newCoil 20 = .ok (.aload_n 0, 1) := by decide +kernel
theorem dX12_newCoil_21 : decode cX12_newCoil 21 = .ok (.getfield 55, 3) := by decide +kernel
theorem dX12_newCoil_24 : decode cX12_newCoil 24 = .ok (.aload_n 0, 1) := by decide +kernel
theorem dX12_newCoil_25 : decode cX12_newCoil 25 = .ok (.getfield 127, 3) := by decide +kernel
theorem dX12_newCoil_28 : decode cX12_newCoil 28 = .ok (.iconst 0, 1) := by decide +kernel
theorem dX12_newCoil_29 : decode cX12_newCoil 29 = .ok (.iastore, 1) := by decide +kernel
theorem dX12_newCoil_30 : decode cX12_newCoil 30 = .ok (.aload_n 0, 1) := by decide +kernel
theorem dX12_newCoil_31 : decode cX12_newCoil 31 = .ok (.getfield 58, 3) := by decide +kernel
theorem dX12_newCoil_34 : decode cX12_newCoil 34 = .ok (.aload_n 0, 1) := by decide +kernel
theorem dX12_newCoil_35 : decode cX12_newCoil 35 = .ok (.getfield 127, 3) := by decide +kernel
theorem dX12_newCoil_38 : decode cX12_newCoil 38 = .ok (.lload_n 3, 1) := by decide +kernel
theorem dX12_newCoil_39 : decode cX12_newCoil 39 = .ok (.lastore, 1) := by decide +kernel
theorem dX12_newCoil_40 : decode cX12_newCoil 40 = .ok (.aload_n 0, 1) := by decide +kernel
theorem dX12_newCoil_41 : decode cX12_newCoil 41 = .ok (.getfield 62, 3) := by decide +kernel
theorem dX12_newCoil_44 : decode cX12_newCoil 44 = .ok (.aload_n 0, 1) := by decide +kernel
theorem dX12_newCoil_45 : decode cX12_newCoil 45 = .ok (.getfield 127, 3) := by decide +kernel
theorem dX12_newCoil_48 : decode cX12_newCoil 48 = .ok (.iconst 0, 1) := by decide +kernel
theorem dX12_newCoil_49 : decode cX12_newCoil 49 = .ok (.iastore, 1) := by decide +kernel
theorem dX12_newCoil_50 : decode cX12_newCoil 50 = .ok (.aload_n 0, 1) := by decide +kernel
theorem dX12_newCoil_51 : decode cX12_newCoil 51 = .ok (.getfield 65, 3) := by decide +kernel
theorem dX12_newCoil_54 : decode cX12_newCoil 54 = .ok (.aload_n 0, 1) := by decide +kernel
theorem dX12_newCoil_55 : decode cX12_newCoil 55 = .ok (.getfield 127, 3) := by decide +kernel
theorem dX12_newCoil_58 : decode cX12_newCoil 58 = .ok (.iconst 0, 1) := by decide +kernel
theorem dX12_newCoil_59 : decode cX12_newCoil 59 = .ok (.iastore, 1) := by decide +kernel
theorem dX12_newCoil_60 : decode cX12_newCoil 60 = .ok (.aload_n 0, 1) := by decide +kernel
theorem dX12_newCoil_61 : decode cX12_newCoil 61 = .ok (.getfield 68, 3) := by decide +kernel
theorem dX12_newCoil_64 : decode cX12_newCoil 64 = .ok (.aload_n 0, 1) := by decide +kernel
theorem dX12_newCoil_65 : decode cX12_newCoil 65 = .ok (.getfield 127, 3) := by decide +kernel
theorem dX12_newCoil_68 : decode cX12_newCoil 68 = .ok (.iconst 0, 1) := by decide +kernel
theorem dX12_newCoil_69 : decode cX12_newCoil 69 = .ok (.bastore, 1) := by decide +kernel
theorem dX12_newCoil_70 : decode cX12_newCoil 70 = .ok (.aload_n 0, 1) := by decide +kernel
theorem dX12_newCoil_71 : decode cX12_newCoil 71 = .ok (.dup, 1) := by decide +kernel
theorem dX12_newCoil_72 : decode cX12_newCoil 72 = .ok (.getfield 127, 3) := by decide +kernel
theorem dX12_newCoil_75 : decode cX12_newCoil 75 = .ok (.iconst 1, 1) := by decide +kernel
theorem dX12_newCoil_76 : decode cX12_newCoil 76 = .ok (.iadd, 1) := by decide +kernel
theorem dX12_newCoil_77 : decode cX12_newCoil 77 = .ok (.putfield 127, 3) := by decide +kernel
theorem dX12_newCoil_80 : decode cX12_newCoil 80 = .ok (.aload_n 0, 1) := by decide +kernel
theorem dX12_newCoil_81 : decode cX12_newCoil 81 = .ok (.getfield 127, 3) := by decide +kernel
theorem dX12_newCoil_84 : decode cX12_newCoil 84 = .ok (.iconst 1, 1) := by decide +kernel
theorem dX12_newCoil_85 : decode cX12_newCoil 85 = .ok (.isub, 1) := by decide +kernel
theorem dX12_newCoil_86 : decode cX12_newCoil 86 = .ok (.ireturn, 1) := by decide +kernel
theorem dX12_coil_0 : decode cX12_coil 0 = .ok (.iload_n 1, 1) := by decide +kernel
theorem dX12_coil_1 : decode cX12_coil 1 = .ok (.invokestatic 131, 3) := by decide +kernel
theorem dX12_coil_4 : decode cX12_coil 4 = .ok (.ifCond .ne 6, 3) := by decide +kernel
theorem dX12_coil_7 : decode cX12_coil 7 = .ok (.bipush (-2), 2) := by decide +kernel
theorem dX12_coil_9 : decode cX12_coil 9 = .ok (.ireturn, 1) := by decide +kernel
theorem dX12_coil_10 : decode cX12_coil 10 = .ok (.iload_n 2, 1) := by decide +kernel
theorem dX12_coil_11 : decode cX12_coil 11 = .ok (.invokestatic 146, 3) := by decide +kernel
theorem dX12_coil_14 : decode cX12_coil 14 = .ok (.ifCond .eq 14, 3) := by decide +kernel
theorem dX12_coil_17 : decode cX12_coil 17 = .ok (.iload_n 3, 1) := by decide +kernel
theorem dX12_coil_18 : decode cX12_coil 18 = .ok (.iconst 1, 1) := by decide +kernel
theorem dX12_coil_19 : decode cX12_coil 19 = .ok (.sipush 1000, 3) := by decide +kernel
theorem dX12_coil_22 : decode cX12_coil 22 = .ok (.invokestatic 123, 3) := by decide +kernel
theorem dX12_coil_25 : decode cX12_coil 25 = .ok (.ifCond .ne 6, 3) := by decide +kernel
theorem dX12_coil_28 : decode cX12_coil 28 = .ok (.bipush (-3), 2) := by decide +kernel
theorem dX12_coil_30 : decode cX12_coil 30 = .ok (.ireturn, 1) := by decide +kernel
theorem dX12_coil_31 : decode cX12_coil 31 = .ok (.aload_n 0, 1) := by decide +kernel
theorem dX12_coil_32 : decode cX12_coil 32 = .ok (.getfield 127, 3) := by decide +kernel
theorem dX12_coil_35 : decode cX12_coil 35 = .ok (.bipush 16, 2) := by decide +kernel
theorem dX12_coil_37 : decode cX12_coil 37 = .ok (.if_icmp .ne 6, 3) := by decide +kernel
theorem dX12_coil_40 : decode cX12_coil 40 = .ok (.bipush (-8), 2) := by decide +kernel
theorem dX12_coil_42 : decode cX12_coil 42 = .ok (.ireturn, 1) := by decide +kernel
theorem dX12_coil_43 : decode cX12_coil 43 = .ok (.iload_n 2, 1) := by decide +kernel
theorem dX12_coil_44 : decode cX12_coil 44 = .ok (.i2l, 1) := by decide +kernel
theorem dX12_coil_45 : decode cX12_coil 45 = .ok (.iload_n 2, 1) := by decide +kernel
theorem dX12_coil_46 : decode cX12_coil 46 = .ok (.i2l, 1) := by decide +kernel
theorem dX12_coil_47 : decode cX12_coil 47 = .ok (.lmul, 1) := by decide +kernel
theorem dX12_coil_48 : decode cX12_coil 48 = .ok (.iload_n 3, 1) := by decide +kernel
theorem dX12_coil_49 : decode cX12_coil 49 = .ok (.i2l, 1) := by decide +kernel
theorem dX12_coil_50 : decode cX12_coil 50 = .ok (.lmul, 1) := by decide +kernel
theorem dX12_coil_51 : decode cX12_coil 51 = .ok (.lstore 5, 2) := by decide +kernel
theorem dX12_coil_53 : decode cX12_coil 53 = .ok (.aload_n 0, 1) := by decide +kernel
theorem dX12_coil_54 : decode cX12_coil 54 = .ok (.dup, 1) := by decide +kernel
theorem dX12_coil_55 : decode cX12_coil 55 = .ok (.getfield 159, 3) := by decide +kernel
theorem dX12_coil_58 : decode cX12_coil 58 = .ok (.lload 5, 2) := by decide +kernel
theorem dX12_coil_60 : decode cX12_coil 60 = .ok (.ladd, 1) := by decide +kernel
theorem dX12_coil_61 : decode cX12_coil 61 = .ok (.putfield 159, 3) := by decide +kernel
theorem dX12_coil_64 : decode cX12_coil 64 = .ok (.aload_n 0, 1) := by decide +kernel
theorem dX12_coil_65 : decode cX12_coil 65 = .ok (.iload_n 1, 1) := by decide +kernel
theorem dX12_coil_66 : decode cX12_coil 66 = .ok (.iload_n 2, 1) := by decide +kernel
theorem dX12_coil_67 : decode cX12_coil 67 = .ok (.lload 5, 2) := by decide +kernel
theorem dX12_coil_69 : decode cX12_coil 69 = .ok (.invokevirtual 163, 3) := by decide +kernel
theorem dX12_coil_72 : decode cX12_coil 72 = .ok (.istore 7, 2) := by decide +kernel
theorem dX12_coil_74 : decode cX12_coil 74 = .ok (.aload_n 0, 1) := by decide +kernel
theorem dX12_coil_75 : decode cX12_coil 75 = .ok (.getfield 68, 3) := by decide +kernel
theorem dX12_coil_78 : decode cX12_coil 78 = .ok (.iload 7, 2) := by decide +kernel
theorem dX12_coil_80 : decode cX12_coil 80 = .ok (.iload 4, 2) := by decide +kernel
theorem dX12_coil_82 : decode cX12_coil 82 = .ok (.bastore, 1) := by decide +kernel
theorem dX12_coil_83 : decode cX12_coil 83 = .ok (.iload 7, 2) := by decide +kernel
theorem dX12_coil_85 : decode cX12_coil 85 = .ok (.ireturn, 1) := by decide +kernel
theorem dX12_feetOf_0 : decode cX12_feetOf 0 = .ok (.aload_n 0, 1) := by decide +kernel
theorem dX12_feetOf_1 : decode cX12_feetOf 1 = .ok (.getfield 58, 3) := by decide +kernel
theorem dX12_feetOf_4 : decode cX12_feetOf 4 = .ok (.iload_n 1, 1) := by decide +kernel
theorem dX12_feetOf_5 : decode cX12_feetOf 5 = .ok (.laload, 1) := by decide +kernel
theorem dX12_feetOf_6 : decode cX12_feetOf 6 = .ok (.aload_n 0, 1) := by decide +kernel
theorem dX12_feetOf_7 : decode cX12_feetOf 7 = .ok (.getfield 52, 3) := by decide +kernel
theorem dX12_feetOf_10 : decode cX12_feetOf 10 = .ok (.iload_n 1, 1) := by decide +kernel
theorem dX12_feetOf_11 : decode cX12_feetOf 11 = .ok (.iaload, 1) := by decide +kernel
theorem dX12_feetOf_12 : decode cX12_feetOf 12 = .ok (.i2l, 1) := by decide +kernel
theorem dX12_feetOf_13 : decode cX12_feetOf 13 = .ok (.aload_n 0, 1) := by decide +kernel
theorem dX12_feetOf_14 : decode cX12_feetOf 14 = .ok (.getfield 52, 3) := by decide +kernel
theorem dX12_feetOf_17 : decode cX12_feetOf 17 = .ok (.iload_n 1, 1) := by decide +kernel
theorem dX12_feetOf_18 : decode cX12_feetOf 18 = .ok (.iaload, 1) := by decide +kernel
theorem dX12_feetOf_19 : decode cX12_feetOf 19 = .ok (.i2l, 1) := by decide +kernel
theorem dX12_feetOf_20 : decode cX12_feetOf 20 = .ok (.lmul, 1) := by decide +kernel
theorem dX12_feetOf_21 : decode cX12_feetOf 21 = .ok (.ldiv, 1) := by decide +kernel
theorem dX12_feetOf_22 : decode cX12_feetOf 22 = .ok (.l2i, 1) := by decide +kernel
theorem dX12_feetOf_23 : decode cX12_feetOf 23 = .ok (.ireturn, 1) := by decide +kernel
theorem dX12_tidy_0 : decode cX12_tidy 0 = .ok (.aload_n 0, 1) := by decide +kernel
theorem dX12_tidy_1 : decode cX12_tidy 1 = .ok (.iload_n 1, 1) := by decide +kernel
theorem dX12_tidy_2 : decode cX12_tidy 2 = .ok (.invokevirtual 167, 3) := by decide +kernel
theorem dX12_tidy_5 : decode cX12_tidy 5 = .ok (.ifCond .ne 25, 3) := by decide +kernel
theorem dX12_tidy_8 : decode cX12_tidy 8 = .ok (.aload_n 0, 1) := by decide +kernel
theorem dX12_tidy_9 : decode cX12_tidy 9 = .ok (.dup, 1) := by decide +kernel
theorem dX12_tidy_10 : decode cX12_tidy 10 = .ok (.getfield 170, 3) := by decide +kernel
theorem dX12_tidy_13 : decode cX12_tidy 13 = .ok (.aload_n 0, 1) := by decide +kernel
theorem dX12_tidy_14 : decode cX12_tidy 14 = .ok (.getfield 58, 3) := by decide +kernel
theorem dX12_tidy_17 : decode cX12_tidy 17 = .ok (.iload_n 1, 1) := by decide +kernel
theorem dX12_tidy_18 : decode cX12_tidy 18 = .ok (.laload, 1) := by decide +kernel
theorem dX12_tidy_19 : decode cX12_tidy 19 = .ok (.ladd, 1) := by decide +kernel
theorem dX12_tidy_20 : decode cX12_tidy 20 = .ok (.putfield 170, 3) := by decide +kernel
theorem dX12_tidy_23 : decode cX12_tidy 23 = .ok (.aload_n 0, 1) := by decide +kernel
theorem dX12_tidy_24 : decode cX12_tidy 24 = .ok (.getfield 58, 3) := by decide +kernel
theorem dX12_tidy_27 : decode cX12_tidy 27 = .ok (.iload_n 1, 1) := by decide +kernel
theorem dX12_tidy_28 : decode cX12_tidy 28 = .ok (.lconst 0, 1) := by decide +kernel
theorem dX12_tidy_29 : decode cX12_tidy 29 = .ok (.lastore, 1) := by decide +kernel
theorem dX12_tidy_30 : decode cX12_tidy 30 = .ok (.return_, 1) := by decide +kernel
theorem dX12_at_0 : decode cX12_at 0 = .ok (.aload_n 0, 1) := by decide +kernel
theorem dX12_at_1 : decode cX12_at 1 = .ok (.iload_n 1, 1) := by decide +kernel
theorem dX12_at_2 : decode cX12_at 2 = .ok (.invokevirtual 173, 3) := by decide +kernel
theorem dX12_at_5 : decode cX12_at 5 = .ok (.ifCond .ne 6, 3) := by decide +kernel
theorem dX12_at_8 : decode cX12_at 8 = .ok (.bipush (-2), 2) := by decide +kernel
theorem dX12_at_10 : decode cX12_at 10 = .ok (.ireturn, 1) := by decide +kernel
theorem dX12_at_11 : decode cX12_at 11 = .ok (.iload_n 2, 1) := by decide +kernel
theorem dX12_at_12 : decode cX12_at 12 = .ok (.tableswitch 100 0 6 #[44, 51, 58, 65, 71, 78, 85], 44) := by decide +kernel
theorem dX12_at_56 : decode cX12_at 56 = .ok (.aload_n 0, 1) := by decide +kernel
theorem dX12_at_57 : decode cX12_at 57 = .ok (.getfield 49, 3) := by decide +kernel
theorem dX12_at_60 : decode cX12_at 60 = .ok (.iload_n 1, 1) := by decide +kernel
theorem dX12_at_61 : decode cX12_at 61 = .ok (.iaload, 1) := by decide +kernel
theorem dX12_at_62 : decode cX12_at 62 = .ok (.ireturn, 1) := by decide +kernel
theorem dX12_at_63 : decode cX12_at 63 = .ok (.aload_n 0, 1) := by decide +kernel
theorem dX12_at_64 : decode cX12_at 64 = .ok (.getfield 52, 3) := by decide +kernel
theorem dX12_at_67 : decode cX12_at 67 = .ok (.iload_n 1, 1) := by decide +kernel
theorem dX12_at_68 : decode cX12_at 68 = .ok (.iaload, 1) := by decide +kernel
theorem dX12_at_69 : decode cX12_at 69 = .ok (.ireturn, 1) := by decide +kernel
theorem dX12_at_70 : decode cX12_at 70 = .ok (.aload_n 0, 1) := by decide +kernel
theorem dX12_at_71 : decode cX12_at 71 = .ok (.getfield 55, 3) := by decide +kernel
theorem dX12_at_74 : decode cX12_at 74 = .ok (.iload_n 1, 1) := by decide +kernel
theorem dX12_at_75 : decode cX12_at 75 = .ok (.iaload, 1) := by decide +kernel
theorem dX12_at_76 : decode cX12_at 76 = .ok (.ireturn, 1) := by decide +kernel
theorem dX12_at_77 : decode cX12_at 77 = .ok (.aload_n 0, 1) := by decide +kernel
theorem dX12_at_78 : decode cX12_at 78 = .ok (.iload_n 1, 1) := by decide +kernel
theorem dX12_at_79 : decode cX12_at 79 = .ok (.invokevirtual 167, 3) := by decide +kernel
theorem dX12_at_82 : decode cX12_at 82 = .ok (.ireturn, 1) := by decide +kernel
theorem dX12_at_83 : decode cX12_at 83 = .ok (.aload_n 0, 1) := by decide +kernel
theorem dX12_at_84 : decode cX12_at 84 = .ok (.getfield 62, 3) := by decide +kernel
theorem dX12_at_87 : decode cX12_at 87 = .ok (.iload_n 1, 1) := by decide +kernel
theorem dX12_at_88 : decode cX12_at 88 = .ok (.iaload, 1) := by decide +kernel
theorem dX12_at_89 : decode cX12_at 89 = .ok (.ireturn, 1) := by decide +kernel
theorem dX12_at_90 : decode cX12_at 90 = .ok (.aload_n 0, 1) := by decide +kernel
theorem dX12_at_91 : decode cX12_at 91 = .ok (.getfield 65, 3) := by decide +kernel
theorem dX12_at_94 : decode cX12_at 94 = .ok (.iload_n 1, 1) := by decide +kernel
theorem dX12_at_95 : decode cX12_at 95 = .ok (.iaload, 1) := by decide +kernel
theorem dX12_at_96 : decode cX12_at 96 = .ok (.ireturn, 1) := by decide +kernel
theorem dX12_at_97 : decode cX12_at 97 = .ok (.aload_n 0, 1) := by decide +kernel
theorem dX12_at_98 : decode cX12_at 98 = .ok (.getfield 68, 3) := by decide +kernel
theorem dX12_at_101 : decode cX12_at 101 = .ok (.iload_n 1, 1) := by decide +kernel
theorem dX12_at_102 : decode cX12_at 102 = .ok (.baload, 1) := by decide +kernel
theorem dX12_at_103 : decode cX12_at 103 = .ok (.ifCond .eq 7, 3) := by decide +kernel
theorem dX12_at_106 : decode cX12_at 106 = .ok (.iconst 1, 1) := by decide +kernel
theorem dX12_at_107 : decode cX12_at 107 = .ok (.goto 4, 3) := by decide +kernel
theorem dX12_at_110 : decode cX12_at 110 = .ok (.iconst 0, 1) := by decide +kernel
theorem dX12_at_111 : decode cX12_at 111 = .ok (.ireturn, 1) := by decide +kernel
theorem dX12_at_112 : decode cX12_at 112 = .ok (.bipush (-3), 2) := by decide +kernel
theorem dX12_at_114 : decode cX12_at 114 = .ok (.ireturn, 1) := by decide +kernel
theorem dX12_stuff_0 : decode cX12_stuff 0 = .ok (.aload_n 0, 1) := by decide +kernel
theorem dX12_stuff_1 : decode cX12_stuff 1 = .ok (.iload_n 1, 1) := by decide +kernel
theorem dX12_stuff_2 : decode cX12_stuff 2 = .ok (.invokevirtual 173, 3) := by decide +kernel
theorem dX12_stuff_5 : decode cX12_stuff 5 = .ok (.ifCond .eq 12, 3) := by decide +kernel
theorem dX12_stuff_8 : decode cX12_stuff 8 = .ok (.aload_n 0, 1) := by decide +kernel
theorem dX12_stuff_9 : decode cX12_stuff 9 = .ok (.getfield 58, 3) := by decide +kernel
theorem dX12_stuff_12 : decode cX12_stuff 12 = .ok (.iload_n 1, 1) := by decide +kernel
theorem dX12_stuff_13 : decode cX12_stuff 13 = .ok (.laload, 1) := by decide +kernel
theorem dX12_stuff_14 : decode cX12_stuff 14 = .ok (.goto 6, 3) := by decide +kernel
theorem dX12_stuff_17 : decode cX12_stuff 17 = .ok (.ldc2_w 176, 3) := by decide +kernel
theorem dX12_stuff_20 : decode cX12_stuff 20 = .ok (.lreturn, 1) := by decide +kernel
theorem dX12_thinner_0 : decode cX12_thinner 0 = .ok (.sipush 1000, 3) := by decide +kernel
theorem dX12_thinner_3 : decode cX12_thinner 3 = .ok (.ldc2_w 178, 3) := by decide +kernel
theorem dX12_thinner_6 : decode cX12_thinner 6 = .ok (.iload_n 1, 1) := by decide +kernel
theorem dX12_thinner_7 : decode cX12_thinner 7 = .ok (.i2l, 1) := by decide +kernel
theorem dX12_thinner_8 : decode cX12_thinner 8 = .ok (.lmul, 1) := by decide +kernel
theorem dX12_thinner_9 : decode cX12_thinner 9 = .ok (.iload_n 1, 1) := by decide +kernel
theorem dX12_thinner_10 : decode cX12_thinner 10 = .ok (.i2l, 1) := by decide +kernel
theorem dX12_thinner_11 : decode cX12_thinner 11 = .ok (.lmul, 1) := by decide +kernel
theorem dX12_thinner_12 : decode cX12_thinner 12 = .ok (.iload_n 0, 1) := by decide +kernel
theorem dX12_thinner_13 : decode cX12_thinner 13 = .ok (.i2l, 1) := by decide +kernel
theorem dX12_thinner_14 : decode cX12_thinner 14 = .ok (.iload_n 0, 1) := by decide +kernel
theorem dX12_thinner_15 : decode cX12_thinner 15 = .ok (.i2l, 1) := by decide +kernel
theorem dX12_thinner_16 : decode cX12_thinner 16 = .ok (.lmul, 1) := by decide +kernel
theorem dX12_thinner_17 : decode cX12_thinner 17 = .ok (.ldiv, 1) := by decide +kernel
theorem dX12_thinner_18 : decode cX12_thinner 18 = .ok (.l2i, 1) := by decide +kernel
theorem dX12_thinner_19 : decode cX12_thinner 19 = .ok (.isub, 1) := by decide +kernel
theorem dX12_thinner_20 : decode cX12_thinner 20 = .ok (.ireturn, 1) := by decide +kernel
theorem dX12_harder_0 : decode cX12_harder 0 = .ok (.iload_n 3, 1) := by decide +kernel
theorem dX12_harder_1 : decode cX12_harder 1 = .ok (.aload_n 0, 1) := by decide +kernel
theorem dX12_harder_2 : decode cX12_harder 2 = .ok (.getfield 13, 3) := by decide +kernel
theorem dX12_harder_5 : decode cX12_harder 5 = .ok (.iload_n 1, 1) := by decide +kernel
theorem dX12_harder_6 : decode cX12_harder 6 = .ok (.iaload, 1) := by decide +kernel
theorem dX12_harder_7 : decode cX12_harder 7 = .ok (.iload_n 2, 1) := by decide +kernel
theorem dX12_harder_8 : decode cX12_harder 8 = .ok (.iload 4, 2) := by decide +kernel
theorem dX12_harder_10 : decode cX12_harder 10 = .ok (.invokestatic 180, 3) := by decide +kernel
theorem dX12_harder_13 : decode cX12_harder 13 = .ok (.imul, 1) := by decide +kernel
theorem dX12_harder_14 : decode cX12_harder 14 = .ok (.sipush 1000, 3) := by decide +kernel
theorem dX12_harder_17 : decode cX12_harder 17 = .ok (.idiv, 1) := by decide +kernel
theorem dX12_harder_18 : decode cX12_harder 18 = .ok (.iadd, 1) := by decide +kernel
theorem dX12_harder_19 : decode cX12_harder 19 = .ok (.ireturn, 1) := by decide +kernel
theorem dX12_asksOf_0 : decode cX12_asksOf 0 = .ok (.iload_n 2, 1) := by decide +kernel
theorem dX12_asksOf_1 : decode cX12_asksOf 1 = .ok (.i2l, 1) := by decide +kernel
theorem dX12_asksOf_2 : decode cX12_asksOf 2 = .ok (.iload_n 2, 1) := by decide +kernel
theorem dX12_asksOf_3 : decode cX12_asksOf 3 = .ok (.i2l, 1) := by decide +kernel
theorem dX12_asksOf_4 : decode cX12_asksOf 4 = .ok (.lmul, 1) := by decide +kernel
theorem dX12_asksOf_5 : decode cX12_asksOf 5 = .ok (.iload 4, 2) := by decide +kernel
theorem dX12_asksOf_7 : decode cX12_asksOf 7 = .ok (.i2l, 1) := by decide +kernel
theorem dX12_asksOf_8 : decode cX12_asksOf 8 = .ok (.iload 4, 2) := by decide +kernel
theorem dX12_asksOf_10 : decode cX12_asksOf 10 = .ok (.i2l, 1) := by decide +kernel
theorem dX12_asksOf_11 : decode cX12_asksOf 11 = .ok (.lmul, 1) := by decide +kernel
theorem dX12_asksOf_12 : decode cX12_asksOf 12 = .ok (.lsub, 1) := by decide +kernel
theorem dX12_asksOf_13 : decode cX12_asksOf 13 = .ok (.aload_n 0, 1) := by decide +kernel
theorem dX12_asksOf_14 : decode cX12_asksOf 14 = .ok (.getfield 7, 3) := by decide +kernel
theorem dX12_asksOf_17 : decode cX12_asksOf 17 = .ok (.iload_n 1, 1) := by decide +kernel
theorem dX12_asksOf_18 : decode cX12_asksOf 18 = .ok (.iaload, 1) := by decide +kernel
theorem dX12_asksOf_19 : decode cX12_asksOf 19 = .ok (.i2l, 1) := by decide +kernel
theorem dX12_asksOf_20 : decode cX12_asksOf 20 = .ok (.lmul, 1) := by decide +kernel
theorem dX12_asksOf_21 : decode cX12_asksOf 21 = .ok (.bipush 100, 2) := by decide +kernel
theorem dX12_asksOf_23 : decode cX12_asksOf 23 = .ok (.iload_n 3, 1) := by decide +kernel
theorem dX12_asksOf_24 : decode cX12_asksOf 24 = .ok (.iadd, 1) := by decide +kernel
theorem dX12_asksOf_25 : decode cX12_asksOf 25 = .ok (.i2l, 1) := by decide +kernel
theorem dX12_asksOf_26 : decode cX12_asksOf 26 = .ok (.lmul, 1) := by decide +kernel
theorem dX12_asksOf_27 : decode cX12_asksOf 27 = .ok (.ldc2_w 184, 3) := by decide +kernel
theorem dX12_asksOf_30 : decode cX12_asksOf 30 = .ok (.ldiv, 1) := by decide +kernel
theorem dX12_asksOf_31 : decode cX12_asksOf 31 = .ok (.lstore 5, 2) := by decide +kernel
theorem dX12_asksOf_33 : decode cX12_asksOf 33 = .ok (.lload 5, 2) := by decide +kernel
theorem dX12_asksOf_35 : decode cX12_asksOf 35 = .ok (.lload 5, 2) := by decide +kernel
theorem dX12_asksOf_37 : decode cX12_asksOf 37 = .ok (.aload_n 0, 1) := by decide +kernel
theorem dX12_asksOf_38 : decode cX12_asksOf 38 = .ok (.getfield 25, 3) := by decide +kernel
theorem dX12_asksOf_41 : decode cX12_asksOf 41 = .ok (.iconst 0, 1) := by decide +kernel
theorem dX12_asksOf_42 : decode cX12_asksOf 42 = .ok (.iaload, 1) := by decide +kernel
theorem dX12_asksOf_43 : decode cX12_asksOf 43 = .ok (.i2l, 1) := by decide +kernel
theorem dX12_asksOf_44 : decode cX12_asksOf 44 = .ok (.lmul, 1) := by decide +kernel
theorem dX12_asksOf_45 : decode cX12_asksOf 45 = .ok (.ldc2_w 184, 3) := by decide +kernel
theorem dX12_asksOf_48 : decode cX12_asksOf 48 = .ok (.ldiv, 1) := by decide +kernel
theorem dX12_asksOf_49 : decode cX12_asksOf 49 = .ok (.ladd, 1) := by decide +kernel
theorem dX12_asksOf_50 : decode cX12_asksOf 50 = .ok (.lreturn, 1) := by decide +kernel
theorem dX12_bearsOf_0 : decode cX12_bearsOf 0 = .ok (.iload 4, 2) := by decide +kernel
theorem dX12_bearsOf_2 : decode cX12_bearsOf 2 = .ok (.i2l, 1) := by decide +kernel
theorem dX12_bearsOf_3 : decode cX12_bearsOf 3 = .ok (.iload 4, 2) := by decide +kernel
theorem dX12_bearsOf_5 : decode cX12_bearsOf 5 = .ok (.i2l, 1) := by decide +kernel
theorem dX12_bearsOf_6 : decode cX12_bearsOf 6 = .ok (.lmul, 1) := by decide +kernel
theorem dX12_bearsOf_7 : decode cX12_bearsOf 7 = .ok (.aload_n 0, 1) := by decide +kernel
theorem dX12_bearsOf_8 : decode cX12_bearsOf 8 = .ok (.getfield 7, 3) := by decide +kernel
theorem dX12_bearsOf_11 : decode cX12_bearsOf 11 = .ok (.iload_n 1, 1) := by decide +kernel
theorem dX12_bearsOf_12 : decode cX12_bearsOf 12 = .ok (.iaload, 1) := by decide +kernel
theorem dX12_bearsOf_13 : decode cX12_bearsOf 13 = .ok (.i2l, 1) := by decide +kernel
theorem dX12_bearsOf_14 : decode cX12_bearsOf 14 = .ok (.lmul, 1) := by decide +kernel
theorem dX12_bearsOf_15 : decode cX12_bearsOf 15 = .ok (.bipush 100, 2) := by decide +kernel
theorem dX12_bearsOf_17 : decode cX12_bearsOf 17 = .ok (.aload_n 0, 1) := by decide +kernel
theorem dX12_bearsOf_18 : decode cX12_bearsOf 18 = .ok (.iload_n 1, 1) := by decide +kernel
theorem dX12_bearsOf_19 : decode cX12_bearsOf 19 = .ok (.iload_n 2, 1) := by decide +kernel
theorem dX12_bearsOf_20 : decode cX12_bearsOf 20 = .ok (.iload_n 3, 1) := by decide +kernel
theorem dX12_bearsOf_21 : decode cX12_bearsOf 21 = .ok (.iload 4, 2) := by decide +kernel
theorem dX12_bearsOf_23 : decode cX12_bearsOf 23 = .ok (.invokevirtual 186, 3) := by decide +kernel
theorem dX12_bearsOf_26 : decode cX12_bearsOf 26 = .ok (.iadd, 1) := by decide +kernel
theorem dX12_bearsOf_27 : decode cX12_bearsOf 27 = .ok (.i2l, 1) := by decide +kernel
theorem dX12_bearsOf_28 : decode cX12_bearsOf 28 = .ok (.lmul, 1) := by decide +kernel
theorem dX12_bearsOf_29 : decode cX12_bearsOf 29 = .ok (.ldc2_w 184, 3) := by decide +kernel
theorem dX12_bearsOf_32 : decode cX12_bearsOf 32 = .ok (.ldiv, 1) := by decide +kernel
theorem dX12_bearsOf_33 : decode cX12_bearsOf 33 = .ok (.lstore 6, 2) := by decide +kernel
theorem dX12_bearsOf_35 : decode cX12_bearsOf 35 = .ok (.iload 5, 2) := by decide +kernel
theorem dX12_bearsOf_37 : decode cX12_bearsOf 37 = .ok (.ifCond .le 16, 3) := by decide +kernel
theorem dX12_bearsOf_40 : decode cX12_bearsOf 40 = .ok (.lload 6, 2) := by decide +kernel
theorem dX12_bearsOf_42 : decode cX12_bearsOf 42 = .ok (.ldc2_w 190, 3) := by decide +kernel
theorem dX12_bearsOf_45 : decode cX12_bearsOf 45 = .ok (.lmul, 1) := by decide +kernel
theorem dX12_bearsOf_46 : decode cX12_bearsOf 46 = .ok (.ldc2_w 192, 3) := by decide +kernel
theorem dX12_bearsOf_49 : decode cX12_bearsOf 49 = .ok (.ldiv, 1) := by decide +kernel
theorem dX12_bearsOf_50 : decode cX12_bearsOf 50 = .ok (.goto 5, 3) := by decide +kernel
theorem dX12_bearsOf_53 : decode cX12_bearsOf 53 = .ok (.lload 6, 2) := by decide +kernel
theorem dX12_bearsOf_55 : decode cX12_bearsOf 55 = .ok (.lstore 6, 2) := by decide +kernel
theorem dX12_bearsOf_57 : decode cX12_bearsOf 57 = .ok (.lload 6, 2) := by decide +kernel
theorem dX12_bearsOf_59 : decode cX12_bearsOf 59 = .ok (.aload_n 0, 1) := by decide +kernel
theorem dX12_bearsOf_60 : decode cX12_bearsOf 60 = .ok (.getfield 25, 3) := by decide +kernel
theorem dX12_bearsOf_63 : decode cX12_bearsOf 63 = .ok (.iconst 1, 1) := by decide +kernel
theorem dX12_bearsOf_64 : decode cX12_bearsOf 64 = .ok (.iaload, 1) := by decide +kernel
theorem dX12_bearsOf_65 : decode cX12_bearsOf 65 = .ok (.i2l, 1) := by decide +kernel
theorem dX12_bearsOf_66 : decode cX12_bearsOf 66 = .ok (.lmul, 1) := by decide +kernel
theorem dX12_bearsOf_67 : decode cX12_bearsOf 67 = .ok (.ldc2_w 184, 3) := by decide +kernel
theorem dX12_bearsOf_70 : decode cX12_bearsOf 70 = .ok (.ldiv, 1) := by decide +kernel
theorem dX12_bearsOf_71 : decode cX12_bearsOf 71 = .ok (.lreturn, 1) := by decide +kernel
theorem dX12_asks_0 : decode cX12_asks 0 = .ok (.aload_n 0, 1) := by decide +kernel
theorem dX12_asks_1 : decode cX12_asks 1 = .ok (.iload_n 1, 1) := by decide +kernel
theorem dX12_asks_2 : decode cX12_asks 2 = .ok (.invokevirtual 173, 3) := by decide +kernel
theorem dX12_asks_5 : decode cX12_asks 5 = .ok (.ifCond .eq 12, 3) := by decide +kernel
theorem dX12_asks_8 : decode cX12_asks 8 = .ok (.aload_n 0, 1) := by decide +kernel
theorem dX12_asks_9 : decode cX12_asks 9 = .ok (.iload_n 2, 1) := by decide +kernel
theorem dX12_asks_10 : decode cX12_asks 10 = .ok (.iload_n 3, 1) := by decide +kernel
theorem dX12_asks_11 : decode cX12_asks 11 = .ok (.invokevirtual 152, 3) := by decide +kernel
theorem dX12_asks_14 : decode cX12_asks 14 = .ok (.ifCond .ne 6, 3) := by decide +kernel
theorem dX12_asks_17 : decode cX12_asks 17 = .ok (.bipush (-2), 2) := by decide +kernel
theorem dX12_asks_19 : decode cX12_asks 19 = .ok (.ireturn, 1) := by decide +kernel
theorem dX12_asks_20 : decode cX12_asks 20 = .ok (.iload 4, 2) := by decide +kernel
theorem dX12_asks_22 : decode cX12_asks 22 = .ok (.iconst 0, 1) := by decide +kernel
theorem dX12_asks_23 : decode cX12_asks 23 = .ok (.iconst 3, 1) := by decide +kernel
theorem dX12_asks_24 : decode cX12_asks 24 = .ok (.invokestatic 123, 3) := by decide +kernel
theorem dX12_asks_27 : decode cX12_asks 27 = .ok (.ifCond .ne 6, 3) := by decide +kernel
theorem dX12_asks_30 : decode cX12_asks 30 = .ok (.bipush (-3), 2) := by decide +kernel
theorem dX12_asks_32 : decode cX12_asks 32 = .ok (.ireturn, 1) := by decide +kernel
theorem dX12_asks_33 : decode cX12_asks 33 = .ok (.aload_n 0, 1) := by decide +kernel
theorem dX12_asks_34 : decode cX12_asks 34 = .ok (.bipush 8, 2) := by decide +kernel
theorem dX12_asks_36 : decode cX12_asks 36 = .ok (.iload_n 2, 1) := by decide +kernel
theorem dX12_asks_37 : decode cX12_asks 37 = .ok (.imul, 1) := by decide +kernel
theorem dX12_asks_38 : decode cX12_asks 38 = .ok (.iload_n 3, 1) := by decide +kernel
theorem dX12_asks_39 : decode cX12_asks 39 = .ok (.iadd, 1) := by decide +kernel
theorem dX12_asks_40 : decode cX12_asks 40 = .ok (.invokevirtual 149, 3) := by decide +kernel
theorem dX12_asks_43 : decode cX12_asks 43 = .ok (.istore 5, 2) := by decide +kernel
theorem dX12_asks_45 : decode cX12_asks 45 = .ok (.iload 5, 2) := by decide +kernel
theorem dX12_asks_47 : decode cX12_asks 47 = .ok (.aload_n 0, 1) := by decide +kernel
theorem dX12_asks_48 : decode cX12_asks 48 = .ok (.getfield 52, 3) := by decide +kernel
theorem dX12_asks_51 : decode cX12_asks 51 = .ok (.iload_n 1, 1) := by decide +kernel
theorem dX12_asks_52 : decode cX12_asks 52 = .ok (.iaload, 1) := by decide +kernel
theorem dX12_asks_53 : decode cX12_asks 53 = .ok (.if_icmp .lt 6, 3) := by decide +kernel
theorem dX12_asks_56 : decode cX12_asks 56 = .ok (.bipush (-4), 2) := by decide +kernel
theorem dX12_asks_58 : decode cX12_asks 58 = .ok (.ireturn, 1) := by decide +kernel
theorem dX12_asks_59 : decode cX12_asks 59 = .ok (.iload 4, 2) := by decide +kernel
theorem dX12_asks_61 : decode cX12_asks 61 = .ok (.ifCond .ne 31, 3) := by decide +kernel
theorem dX12_asks_64 : decode cX12_asks 64 = .ok (.aload_n 0, 1) := by decide +kernel
theorem dX12_asks_65 : decode cX12_asks 65 = .ok (.aload_n 0, 1) := by decide +kernel
theorem dX12_asks_66 : decode cX12_asks 66 = .ok (.getfield 49, 3) := by decide +kernel
theorem dX12_asks_69 : decode cX12_asks 69 = .ok (.iload_n 1, 1) := by decide +kernel
theorem dX12_asks_70 : decode cX12_asks 70 = .ok (.iaload, 1) := by decide +kernel
theorem dX12_asks_71 : decode cX12_asks 71 = .ok (.aload_n 0, 1) := by decide +kernel
theorem dX12_asks_72 : decode cX12_asks 72 = .ok (.getfield 52, 3) := by decide +kernel
theorem dX12_asks_75 : decode cX12_asks 75 = .ok (.iload_n 1, 1) := by decide +kernel
theorem dX12_asks_76 : decode cX12_asks 76 = .ok (.iaload, 1) := by decide +kernel
theorem dX12_asks_77 : decode cX12_asks 77 = .ok (.aload_n 0, 1) := by decide +kernel
theorem dX12_asks_78 : decode cX12_asks 78 = .ok (.getfield 55, 3) := by decide +kernel
theorem dX12_asks_81 : decode cX12_asks 81 = .ok (.iload_n 1, 1) := by decide +kernel
theorem dX12_asks_82 : decode cX12_asks 82 = .ok (.iaload, 1) := by decide +kernel
theorem dX12_asks_83 : decode cX12_asks 83 = .ok (.iload 5, 2) := by decide +kernel
theorem dX12_asks_85 : decode cX12_asks 85 = .ok (.invokevirtual 194, 3) := by decide +kernel
theorem dX12_asks_88 : decode cX12_asks 88 = .ok (.l2i, 1) := by decide +kernel
theorem dX12_asks_89 : decode cX12_asks 89 = .ok (.goto 87, 3) := by decide +kernel
theorem dX12_asks_92 : decode cX12_asks 92 = .ok (.iload 4, 2) := by decide +kernel
theorem dX12_asks_94 : decode cX12_asks 94 = .ok (.iconst 1, 1) := by decide +kernel
theorem dX12_asks_95 : decode cX12_asks 95 = .ok (.if_icmp .ne 37, 3) := by decide +kernel
theorem dX12_asks_98 : decode cX12_asks 98 = .ok (.aload_n 0, 1) := by decide +kernel
theorem dX12_asks_99 : decode cX12_asks 99 = .ok (.aload_n 0, 1) := by decide +kernel
theorem dX12_asks_100 : decode cX12_asks 100 = .ok (.getfield 49, 3) := by decide +kernel
theorem dX12_asks_103 : decode cX12_asks 103 = .ok (.iload_n 1, 1) := by decide +kernel
theorem dX12_asks_104 : decode cX12_asks 104 = .ok (.iaload, 1) := by decide +kernel
theorem dX12_asks_105 : decode cX12_asks 105 = .ok (.aload_n 0, 1) := by decide +kernel
theorem dX12_asks_106 : decode cX12_asks 106 = .ok (.getfield 52, 3) := by decide +kernel
theorem dX12_asks_109 : decode cX12_asks 109 = .ok (.iload_n 1, 1) := by decide +kernel
theorem dX12_asks_110 : decode cX12_asks 110 = .ok (.iaload, 1) := by decide +kernel
theorem dX12_asks_111 : decode cX12_asks 111 = .ok (.aload_n 0, 1) := by decide +kernel
theorem dX12_asks_112 : decode cX12_asks 112 = .ok (.getfield 55, 3) := by decide +kernel
theorem dX12_asks_115 : decode cX12_asks 115 = .ok (.iload_n 1, 1) := by decide +kernel
theorem dX12_asks_116 : decode cX12_asks 116 = .ok (.iaload, 1) := by decide +kernel
theorem dX12_asks_117 : decode cX12_asks 117 = .ok (.iload 5, 2) := by decide +kernel
theorem dX12_asks_119 : decode cX12_asks 119 = .ok (.aload_n 0, 1) := by decide +kernel
theorem dX12_asks_120 : decode cX12_asks 120 = .ok (.getfield 62, 3) := by decide +kernel
theorem dX12_asks_123 : decode cX12_asks 123 = .ok (.iload_n 1, 1) := by decide +kernel
theorem dX12_asks_124 : decode cX12_asks 124 = .ok (.iaload, 1) := by decide +kernel
theorem dX12_asks_125 : decode cX12_asks 125 = .ok (.invokevirtual 198, 3) := by decide +kernel
theorem dX12_asks_128 : decode cX12_asks 128 = .ok (.l2i, 1) := by decide +kernel
theorem dX12_asks_129 : decode cX12_asks 129 = .ok (.goto 47, 3) := by decide +kernel
theorem dX12_asks_132 : decode cX12_asks 132 = .ok (.iload 4, 2) := by decide +kernel
theorem dX12_asks_134 : decode cX12_asks 134 = .ok (.iconst 2, 1) := by decide +kernel
theorem dX12_asks_135 : decode cX12_asks 135 = .ok (.if_icmp .ne 30, 3) := by decide +kernel
theorem dX12_asks_138 : decode cX12_asks 138 = .ok (.aload_n 0, 1) := by decide +kernel
theorem dX12_asks_139 : decode cX12_asks 139 = .ok (.aload_n 0, 1) := by decide +kernel
theorem dX12_asks_140 : decode cX12_asks 140 = .ok (.getfield 49, 3) := by decide +kernel
theorem dX12_asks_143 : decode cX12_asks 143 = .ok (.iload_n 1, 1) := by decide +kernel
theorem dX12_asks_144 : decode cX12_asks 144 = .ok (.iaload, 1) := by decide +kernel
theorem dX12_asks_145 : decode cX12_asks 145 = .ok (.aload_n 0, 1) := by decide +kernel
theorem dX12_asks_146 : decode cX12_asks 146 = .ok (.getfield 52, 3) := by decide +kernel
theorem dX12_asks_149 : decode cX12_asks 149 = .ok (.iload_n 1, 1) := by decide +kernel
theorem dX12_asks_150 : decode cX12_asks 150 = .ok (.iaload, 1) := by decide +kernel
theorem dX12_asks_151 : decode cX12_asks 151 = .ok (.aload_n 0, 1) := by decide +kernel
theorem dX12_asks_152 : decode cX12_asks 152 = .ok (.getfield 55, 3) := by decide +kernel
theorem dX12_asks_155 : decode cX12_asks 155 = .ok (.iload_n 1, 1) := by decide +kernel
theorem dX12_asks_156 : decode cX12_asks 156 = .ok (.iaload, 1) := by decide +kernel
theorem dX12_asks_157 : decode cX12_asks 157 = .ok (.iload 5, 2) := by decide +kernel
theorem dX12_asks_159 : decode cX12_asks 159 = .ok (.invokevirtual 186, 3) := by decide +kernel
theorem dX12_asks_162 : decode cX12_asks 162 = .ok (.goto 14, 3) := by decide +kernel
theorem dX12_asks_165 : decode cX12_asks 165 = .ok (.aload_n 0, 1) := by decide +kernel
theorem dX12_asks_166 : decode cX12_asks 166 = .ok (.getfield 52, 3) := by decide +kernel
theorem dX12_asks_169 : decode cX12_asks 169 = .ok (.iload_n 1, 1) := by decide +kernel
theorem dX12_asks_170 : decode cX12_asks 170 = .ok (.iaload, 1) := by decide +kernel
theorem dX12_asks_171 : decode cX12_asks 171 = .ok (.iload 5, 2) := by decide +kernel
theorem dX12_asks_173 : decode cX12_asks 173 = .ok (.invokestatic 180, 3) := by decide +kernel
theorem dX12_asks_176 : decode cX12_asks 176 = .ok (.ireturn, 1) := by decide +kernel
theorem dX12_pullOf_0 : decode cX12_pullOf 0 = .ok (.iload_n 1, 1) := by decide +kernel
theorem dX12_pullOf_1 : decode cX12_pullOf 1 = .ok (.ifCond .ne 25, 3) := by decide +kernel
theorem dX12_pullOf_4 : decode cX12_pullOf 4 = .ok (.aload_n 0, 1) := by decide +kernel
theorem dX12_pullOf_5 : decode cX12_pullOf 5 = .ok (.getfield 28, 3) := by decide +kernel
theorem dX12_pullOf_8 : decode cX12_pullOf 8 = .ok (.iconst 0, 1) := by decide +kernel
theorem dX12_pullOf_9 : decode cX12_pullOf 9 = .ok (.iaload, 1) := by decide +kernel
theorem dX12_pullOf_10 : decode cX12_pullOf 10 = .ok (.i2l, 1) := by decide +kernel
theorem dX12_pullOf_11 : decode cX12_pullOf 11 = .ok (.aload_n 0, 1) := by decide +kernel
theorem dX12_pullOf_12 : decode cX12_pullOf 12 = .ok (.getfield 25, 3) := by decide +kernel
theorem dX12_pullOf_15 : decode cX12_pullOf 15 = .ok (.iconst 2, 1) := by decide +kernel
theorem dX12_pullOf_16 : decode cX12_pullOf 16 = .ok (.iaload, 1) := by decide +kernel
theorem dX12_pullOf_17 : decode cX12_pullOf 17 = .ok (.i2l, 1) := by decide +kernel
theorem dX12_pullOf_18 : decode cX12_pullOf 18 = .ok (.lmul, 1) := by decide +kernel
theorem dX12_pullOf_19 : decode cX12_pullOf 19 = .ok (.ldc2_w 192, 3) := by decide +kernel
theorem dX12_pullOf_22 : decode cX12_pullOf 22 = .ok (.ldiv, 1) := by decide +kernel
theorem dX12_pullOf_23 : decode cX12_pullOf 23 = .ok (.goto 10, 3) := by decide +kernel
theorem dX12_pullOf_26 : decode cX12_pullOf 26 = .ok (.aload_n 0, 1) := by decide +kernel
theorem dX12_pullOf_27 : decode cX12_pullOf 27 = .ok (.getfield 28, 3) := by decide +kernel
theorem dX12_pullOf_30 : decode cX12_pullOf 30 = .ok (.iload_n 1, 1) := by decide +kernel
theorem dX12_pullOf_31 : decode cX12_pullOf 31 = .ok (.iaload, 1) := by decide +kernel
theorem dX12_pullOf_32 : decode cX12_pullOf 32 = .ok (.i2l, 1) := by decide +kernel
theorem dX12_pullOf_33 : decode cX12_pullOf 33 = .ok (.lreturn, 1) := by decide +kernel
theorem dX12_against_0 : decode cX12_against 0 = .ok (.aload_n 0, 1) := by decide +kernel
theorem dX12_against_1 : decode cX12_against 1 = .ok (.iload 4, 2) := by decide +kernel
theorem dX12_against_3 : decode cX12_against 3 = .ok (.invokevirtual 149, 3) := by decide +kernel
theorem dX12_against_6 : decode cX12_against 6 = .ok (.istore 6, 2) := by decide +kernel
theorem dX12_against_8 : decode cX12_against 8 = .ok (.aload_n 0, 1) := by decide +kernel
theorem dX12_against_9 : decode cX12_against 9 = .ok (.getfield 49, 3) := by decide +kernel
theorem dX12_against_12 : decode cX12_against 12 = .ok (.iload_n 1, 1) := by decide +kernel
theorem dX12_against_13 : decode cX12_against 13 = .ok (.iaload, 1) := by decide +kernel
theorem dX12_against_14 : decode cX12_against 14 = .ok (.istore 7, 2) := by decide +kernel
theorem dX12_against_16 : decode cX12_against 16 = .ok (.aload_n 0, 1) := by decide +kernel
theorem dX12_against_17 : decode cX12_against 17 = .ok (.iload 4, 2) := by decide +kernel
theorem dX12_against_19 : decode cX12_against 19 = .ok (.invokevirtual 156, 3) := by decide +kernel
theorem dX12_against_22 : decode cX12_against 22 = .ok (.ifCond .ne 9, 3) := by decide +kernel
theorem dX12_against_25 : decode cX12_against 25 = .ok (.iload 6, 2) := by decide +kernel
theorem dX12_against_27 : decode cX12_against 27 = .ok (.iload_n 2, 1) := by decide +kernel
theorem dX12_against_28 : decode cX12_against 28 = .ok (.if_icmp .lt 6, 3) := by decide +kernel
theorem dX12_against_31 : decode cX12_against 31 = .ok (.bipush (-4), 2) := by decide +kernel
theorem dX12_against_33 : decode cX12_against 33 = .ok (.ireturn, 1) := by decide +kernel
theorem dX12_against_34 : decode cX12_against 34 = .ok (.aload_n 0, 1) := by decide +kernel
theorem dX12_against_35 : decode cX12_against 35 = .ok (.iload 7, 2) := by decide +kernel
theorem dX12_against_37 : decode cX12_against 37 = .ok (.iload_n 2, 1) := by decide +kernel
theorem dX12_against_38 : decode cX12_against 38 = .ok (.iload_n 3, 1) := by decide +kernel
theorem dX12_against_39 : decode cX12_against 39 = .ok (.iload 6, 2) := by decide +kernel
theorem dX12_against_41 : decode cX12_against 41 = .ok (.invokevirtual 186, 3) := by decide +kernel
theorem dX12_against_44 : decode cX12_against 44 = .ok (.aload_n 0, 1) := by decide +kernel
theorem dX12_against_45 : decode cX12_against 45 = .ok (.getfield 16, 3) := by decide +kernel
theorem dX12_against_48 : decode cX12_against 48 = .ok (.iload 7, 2) := by decide +kernel
theorem dX12_against_50 : decode cX12_against 50 = .ok (.iaload, 1) := by decide +kernel
theorem dX12_against_51 : decode cX12_against 51 = .ok (.if_icmp .le 6, 3) := by decide +kernel
theorem dX12_against_54 : decode cX12_against 54 = .ok (.bipush (-5), 2) := by decide +kernel
theorem dX12_against_56 : decode cX12_against 56 = .ok (.ireturn, 1) := by decide +kernel
theorem dX12_against_57 : decode cX12_against 57 = .ok (.aload_n 0, 1) := by decide +kernel
theorem dX12_against_58 : decode cX12_against 58 = .ok (.iload 7, 2) := by decide +kernel
theorem dX12_against_60 : decode cX12_against 60 = .ok (.iload_n 2, 1) := by decide +kernel
theorem dX12_against_61 : decode cX12_against 61 = .ok (.iload_n 3, 1) := by decide +kernel
theorem dX12_against_62 : decode cX12_against 62 = .ok (.iload 6, 2) := by decide +kernel
theorem dX12_against_64 : decode cX12_against 64 = .ok (.invokevirtual 194, 3) := by decide +kernel
theorem dX12_against_67 : decode cX12_against 67 = .ok (.aload_n 0, 1) := by decide +kernel
theorem dX12_against_68 : decode cX12_against 68 = .ok (.iload 7, 2) := by decide +kernel
theorem dX12_against_70 : decode cX12_against 70 = .ok (.iload_n 2, 1) := by decide +kernel
theorem dX12_against_71 : decode cX12_against 71 = .ok (.iload_n 3, 1) := by decide +kernel
theorem dX12_against_72 : decode cX12_against 72 = .ok (.iload 6, 2) := by decide +kernel
theorem dX12_against_74 : decode cX12_against 74 = .ok (.aload_n 0, 1) := by decide +kernel
theorem dX12_against_75 : decode cX12_against 75 = .ok (.getfield 62, 3) := by decide +kernel
theorem dX12_against_78 : decode cX12_against 78 = .ok (.iload_n 1, 1) := by decide +kernel
theorem dX12_against_79 : decode cX12_against 79 = .ok (.iaload, 1) := by decide +kernel
theorem dX12_against_80 : decode cX12_against 80 = .ok (.invokevirtual 198, 3) := by decide +kernel
theorem dX12_against_83 : decode cX12_against 83 = .ok (.lcmp, 1) := by decide +kernel
theorem dX12_against_84 : decode cX12_against 84 = .ok (.ifCond .le 6, 3) := by decide +kernel
theorem dX12_against_87 : decode cX12_against 87 = .ok (.bipush (-6), 2) := by decide +kernel
theorem dX12_against_89 : decode cX12_against 89 = .ok (.ireturn, 1) := by decide +kernel
theorem dX12_against_90 : decode cX12_against 90 = .ok (.aload_n 0, 1) := by decide +kernel
theorem dX12_against_91 : decode cX12_against 91 = .ok (.iload 7, 2) := by decide +kernel
theorem dX12_against_93 : decode cX12_against 93 = .ok (.iload_n 2, 1) := by decide +kernel
theorem dX12_against_94 : decode cX12_against 94 = .ok (.iload_n 3, 1) := by decide +kernel
theorem dX12_against_95 : decode cX12_against 95 = .ok (.iload 6, 2) := by decide +kernel
theorem dX12_against_97 : decode cX12_against 97 = .ok (.invokevirtual 194, 3) := by decide +kernel
theorem dX12_against_100 : decode cX12_against 100 = .ok (.aload_n 0, 1) := by decide +kernel
theorem dX12_against_101 : decode cX12_against 101 = .ok (.iload 5, 2) := by decide +kernel
theorem dX12_against_103 : decode cX12_against 103 = .ok (.invokevirtual 202, 3) := by decide +kernel
theorem dX12_against_106 : decode cX12_against 106 = .ok (.lcmp, 1) := by decide +kernel
theorem dX12_against_107 : decode cX12_against 107 = .ok (.ifCond .le 8, 3) := by decide +kernel
theorem dX12_against_110 : decode cX12_against 110 = .ok (.bipush (-7), 2) := by decide +kernel
theorem dX12_against_112 : decode cX12_against 112 = .ok (.goto 4, 3) := by decide +kernel
theorem dX12_against_115 : decode cX12_against 115 = .ok (.iconst 1, 1) := by decide +kernel
theorem dX12_against_116 : decode cX12_against 116 = .ok (.ireturn, 1) := by decide +kernel
theorem dX12_draw_0 : decode cX12_draw 0 = .ok (.aload_n 0, 1) := by decide +kernel
theorem dX12_draw_1 : decode cX12_draw 1 = .ok (.iload_n 1, 1) := by decide +kernel
theorem dX12_draw_2 : decode cX12_draw 2 = .ok (.invokevirtual 173, 3) := by decide +kernel
theorem dX12_draw_5 : decode cX12_draw 5 = .ok (.ifCond .eq 20, 3) := by decide +kernel
theorem dX12_draw_8 : decode cX12_draw 8 = .ok (.aload_n 0, 1) := by decide +kernel
theorem dX12_draw_9 : decode cX12_draw 9 = .ok (.iload_n 2, 1) := by decide +kernel
theorem dX12_draw_10 : decode cX12_draw 10 = .ok (.iload_n 3, 1) := by decide +kernel
theorem dX12_draw_11 : decode cX12_draw 11 = .ok (.invokevirtual 152, 3) := by decide +kernel
theorem dX12_draw_14 : decode cX12_draw 14 = .ok (.ifCond .eq 11, 3) := by decide +kernel
theorem dX12_draw_17 : decode cX12_draw 17 = .ok (.iload 4, 2) := by decide +kernel
theorem dX12_draw_19 : decode cX12_draw 19 = .ok (.invokestatic 142, 3) := by decide +kernel
theorem dX12_draw_22 : decode cX12_draw 22 = .ok (.ifCond .ne 6, 3) := by decide +kernel
theorem dX12_draw_25 : decode cX12_draw 25 = .ok (.bipush (-2), 2) := by decide +kernel
theorem dX12_draw_27 : decode cX12_draw 27 = .ok (.ireturn, 1) := by decide +kernel
theorem dX12_draw_28 : decode cX12_draw 28 = .ok (.bipush 8, 2) := by decide +kernel
theorem dX12_draw_30 : decode cX12_draw 30 = .ok (.iload_n 2, 1) := by decide +kernel
theorem dX12_draw_31 : decode cX12_draw 31 = .ok (.imul, 1) := by decide +kernel
theorem dX12_draw_32 : decode cX12_draw 32 = .ok (.iload_n 3, 1) := by decide +kernel
theorem dX12_draw_33 : decode cX12_draw 33 = .ok (.iadd, 1) := by decide +kernel
theorem dX12_draw_34 : decode cX12_draw 34 = .ok (.istore 5, 2) := by decide +kernel
theorem dX12_draw_36 : decode cX12_draw 36 = .ok (.aload_n 0, 1) := by decide +kernel
theorem dX12_draw_37 : decode cX12_draw 37 = .ok (.iload_n 1, 1) := by decide +kernel
theorem dX12_draw_38 : decode cX12_draw 38 = .ok (.aload_n 0, 1) := by decide +kernel
theorem dX12_draw_39 : decode cX12_draw 39 = .ok (.getfield 52, 3) := by decide +kernel
theorem dX12_draw_42 : decode cX12_draw 42 = .ok (.iload_n 1, 1) := by decide +kernel
theorem dX12_draw_43 : decode cX12_draw 43 = .ok (.iaload, 1) := by decide +kernel
theorem dX12_draw_44 : decode cX12_draw 44 = .ok (.aload_n 0, 1) := by decide +kernel
theorem dX12_draw_45 : decode cX12_draw 45 = .ok (.getfield 55, 3) := by decide +kernel
theorem dX12_draw_48 : decode cX12_draw 48 = .ok (.iload_n 1, 1) := by decide +kernel
theorem dX12_draw_49 : decode cX12_draw 49 = .ok (.iaload, 1) := by decide +kernel
theorem dX12_draw_50 : decode cX12_draw 50 = .ok (.iload 5, 2) := by decide +kernel
theorem dX12_draw_52 : decode cX12_draw 52 = .ok (.iload 4, 2) := by decide +kernel
theorem dX12_draw_54 : decode cX12_draw 54 = .ok (.invokevirtual 206, 3) := by decide +kernel
theorem dX12_draw_57 : decode cX12_draw 57 = .ok (.istore 6, 2) := by decide +kernel
theorem dX12_draw_59 : decode cX12_draw 59 = .ok (.iload 6, 2) := by decide +kernel
theorem dX12_draw_61 : decode cX12_draw 61 = .ok (.iconst 1, 1) := by decide +kernel
theorem dX12_draw_62 : decode cX12_draw 62 = .ok (.if_icmp .eq 6, 3) := by decide +kernel
theorem dX12_draw_65 : decode cX12_draw 65 = .ok (.iload 6, 2) := by decide +kernel
theorem dX12_draw_67 : decode cX12_draw 67 = .ok (.ireturn, 1) := by decide +kernel
theorem dX12_draw_68 : decode cX12_draw 68 = .ok (.aload_n 0, 1) := by decide +kernel
theorem dX12_draw_69 : decode cX12_draw 69 = .ok (.iload 5, 2) := by decide +kernel
theorem dX12_draw_71 : decode cX12_draw 71 = .ok (.invokevirtual 149, 3) := by decide +kernel
theorem dX12_draw_74 : decode cX12_draw 74 = .ok (.istore 7, 2) := by decide +kernel
theorem dX12_draw_76 : decode cX12_draw 76 = .ok (.aload_n 0, 1) := by decide +kernel
theorem dX12_draw_77 : decode cX12_draw 77 = .ok (.getfield 55, 3) := by decide +kernel
theorem dX12_draw_80 : decode cX12_draw 80 = .ok (.iload_n 1, 1) := by decide +kernel
theorem dX12_draw_81 : decode cX12_draw 81 = .ok (.iaload, 1) := by decide +kernel
theorem dX12_draw_82 : decode cX12_draw 82 = .ok (.istore 8, 2) := by decide +kernel
theorem dX12_draw_84 : decode cX12_draw 84 = .ok (.aload_n 0, 1) := by decide +kernel
theorem dX12_draw_85 : decode cX12_draw 85 = .ok (.getfield 55, 3) := by decide +kernel
theorem dX12_draw_88 : decode cX12_draw 88 = .ok (.iload_n 1, 1) := by decide +kernel
theorem dX12_draw_89 : decode cX12_draw 89 = .ok (.aload_n 0, 1) := by decide +kernel
theorem dX12_draw_90 : decode cX12_draw 90 = .ok (.aload_n 0, 1) := by decide +kernel
theorem dX12_draw_91 : decode cX12_draw 91 = .ok (.getfield 49, 3) := by decide +kernel
theorem dX12_draw_94 : decode cX12_draw 94 = .ok (.iload_n 1, 1) := by decide +kernel
theorem dX12_draw_95 : decode cX12_draw 95 = .ok (.iaload, 1) := by decide +kernel
theorem dX12_draw_96 : decode cX12_draw 96 = .ok (.aload_n 0, 1) := by decide +kernel
theorem dX12_draw_97 : decode cX12_draw 97 = .ok (.getfield 52, 3) := by decide +kernel
theorem dX12_draw_100 : decode cX12_draw 100 = .ok (.iload_n 1, 1) := by decide +kernel
theorem dX12_draw_101 : decode cX12_draw 101 = .ok (.iaload, 1) := by decide +kernel
theorem dX12_draw_102 : decode cX12_draw 102 = .ok (.iload 8, 2) := by decide +kernel
theorem dX12_draw_104 : decode cX12_draw 104 = .ok (.iload 7, 2) := by decide +kernel
theorem dX12_draw_106 : decode cX12_draw 106 = .ok (.invokevirtual 186, 3) := by decide +kernel
theorem dX12_draw_109 : decode cX12_draw 109 = .ok (.iastore, 1) := by decide +kernel
theorem dX12_draw_110 : decode cX12_draw 110 = .ok (.aload_n 0, 1) := by decide +kernel
theorem dX12_draw_111 : decode cX12_draw 111 = .ok (.getfield 52, 3) := by decide +kernel
theorem dX12_draw_114 : decode cX12_draw 114 = .ok (.iload_n 1, 1) := by decide +kernel
theorem dX12_draw_115 : decode cX12_draw 115 = .ok (.iload 7, 2) := by decide +kernel
theorem dX12_draw_117 : decode cX12_draw 117 = .ok (.iastore, 1) := by decide +kernel
theorem dX12_draw_118 : decode cX12_draw 118 = .ok (.aload_n 0, 1) := by decide +kernel
theorem dX12_draw_119 : decode cX12_draw 119 = .ok (.iload_n 1, 1) := by decide +kernel
theorem dX12_draw_120 : decode cX12_draw 120 = .ok (.invokevirtual 167, 3) := by decide +kernel
theorem dX12_draw_123 : decode cX12_draw 123 = .ok (.istore 9, 2) := by decide +kernel
theorem dX12_draw_125 : decode cX12_draw 125 = .ok (.aload_n 0, 1) := by decide +kernel
theorem dX12_draw_126 : decode cX12_draw 126 = .ok (.getfield 43, 3) := by decide +kernel
theorem dX12_draw_129 : decode cX12_draw 129 = .ok (.iload 5, 2) := by decide +kernel
theorem dX12_draw_131 : decode cX12_draw 131 = .ok (.dup2, 1) := by decide +kernel
theorem dX12_draw_132 : decode cX12_draw 132 = .ok (.iaload, 1) := by decide +kernel
theorem dX12_draw_133 : decode cX12_draw 133 = .ok (.iload 9, 2) := by decide +kernel
theorem dX12_draw_135 : decode cX12_draw 135 = .ok (.i2l, 1) := by decide +kernel
theorem dX12_draw_136 : decode cX12_draw 136 = .ok (.aload_n 0, 1) := by decide +kernel
theorem dX12_draw_137 : decode cX12_draw 137 = .ok (.getfield 19, 3) := by decide +kernel
theorem dX12_draw_140 : decode cX12_draw 140 = .ok (.aload_n 0, 1) := by decide +kernel
theorem dX12_draw_141 : decode cX12_draw 141 = .ok (.getfield 49, 3) := by decide +kernel
theorem dX12_draw_144 : decode cX12_draw 144 = .ok (.iload_n 1, 1) := by decide +kernel
theorem dX12_draw_145 : decode cX12_draw 145 = .ok (.iaload, 1) := by decide +kernel
theorem dX12_draw_146 : decode cX12_draw 146 = .ok (.iaload, 1) := by decide +kernel
theorem dX12_draw_147 : decode cX12_draw 147 = .ok (.i2l, 1) := by decide +kernel
theorem dX12_draw_148 : decode cX12_draw 148 = .ok (.lmul, 1) := by decide +kernel
theorem dX12_draw_149 : decode cX12_draw 149 = .ok (.bipush 100, 2) := by decide +kernel
theorem dX12_draw_151 : decode cX12_draw 151 = .ok (.iload 8, 2) := by decide +kernel
theorem dX12_draw_153 : decode cX12_draw 153 = .ok (.iadd, 1) := by decide +kernel
theorem dX12_draw_154 : decode cX12_draw 154 = .ok (.i2l, 1) := by decide +kernel
theorem dX12_draw_155 : decode cX12_draw 155 = .ok (.lmul, 1) := by decide +kernel
theorem dX12_draw_156 : decode cX12_draw 156 = .ok (.ldc2_w 210, 3) := by decide +kernel
theorem dX12_draw_159 : decode cX12_draw 159 = .ok (.ldiv, 1) := by decide +kernel
theorem dX12_draw_160 : decode cX12_draw 160 = .ok (.l2i, 1) := by decide +kernel
theorem dX12_draw_161 : decode cX12_draw 161 = .ok (.iadd, 1) := by decide +kernel
theorem dX12_draw_162 : decode cX12_draw 162 = .ok (.iastore, 1) := by decide +kernel
theorem dX12_draw_163 : decode cX12_draw 163 = .ok (.aload_n 0, 1) := by decide +kernel
theorem dX12_draw_164 : decode cX12_draw 164 = .ok (.getfield 65, 3) := by decide +kernel
theorem dX12_draw_167 : decode cX12_draw 167 = .ok (.iload_n 1, 1) := by decide +kernel
theorem dX12_draw_168 : decode cX12_draw 168 = .ok (.iaload, 1) := by decide +kernel
theorem dX12_draw_169 : decode cX12_draw 169 = .ok (.aload_n 0, 1) := by decide +kernel
theorem dX12_draw_170 : decode cX12_draw 170 = .ok (.getfield 34, 3) := by decide +kernel
theorem dX12_draw_173 : decode cX12_draw 173 = .ok (.iload 4, 2) := by decide +kernel
theorem dX12_draw_175 : decode cX12_draw 175 = .ok (.iaload, 1) := by decide +kernel
theorem dX12_draw_176 : decode cX12_draw 176 = .ok (.if_icmp .le 12, 3) := by decide +kernel
theorem dX12_draw_179 : decode cX12_draw 179 = .ok (.aload_n 0, 1) := by decide +kernel
theorem dX12_draw_180 : decode cX12_draw 180 = .ok (.getfield 65, 3) := by decide +kernel
theorem dX12_draw_183 : decode cX12_draw 183 = .ok (.iload_n 1, 1) := by decide +kernel
theorem dX12_draw_184 : decode cX12_draw 184 = .ok (.iaload, 1) := by decide +kernel
theorem dX12_draw_185 : decode cX12_draw 185 = .ok (.goto 10, 3) := by decide +kernel
theorem dX12_draw_188 : decode cX12_draw 188 = .ok (.aload_n 0, 1) := by decide +kernel
theorem dX12_draw_189 : decode cX12_draw 189 = .ok (.getfield 34, 3) := by decide +kernel
theorem dX12_draw_192 : decode cX12_draw 192 = .ok (.iload 4, 2) := by decide +kernel
theorem dX12_draw_194 : decode cX12_draw 194 = .ok (.iaload, 1) := by decide +kernel
theorem dX12_draw_195 : decode cX12_draw 195 = .ok (.istore 10, 2) := by decide +kernel
theorem dX12_draw_197 : decode cX12_draw 197 = .ok (.aload_n 0, 1) := by decide +kernel
theorem dX12_draw_198 : decode cX12_draw 198 = .ok (.getfield 34, 3) := by decide +kernel
theorem dX12_draw_201 : decode cX12_draw 201 = .ok (.iload 4, 2) := by decide +kernel
theorem dX12_draw_203 : decode cX12_draw 203 = .ok (.iload 10, 2) := by decide +kernel
theorem dX12_draw_205 : decode cX12_draw 205 = .ok (.iload 9, 2) := by decide +kernel
theorem dX12_draw_207 : decode cX12_draw 207 = .ok (.aload_n 0, 1) := by decide +kernel
theorem dX12_draw_208 : decode cX12_draw 208 = .ok (.getfield 31, 3) := by decide +kernel
theorem dX12_draw_211 : decode cX12_draw 211 = .ok (.iload 4, 2) := by decide +kernel
theorem dX12_draw_213 : decode cX12_draw 213 = .ok (.iaload, 1) := by decide +kernel
theorem dX12_draw_214 : decode cX12_draw 214 = .ok (.iadd, 1) := by decide +kernel
theorem dX12_draw_215 : decode cX12_draw 215 = .ok (.iconst 1, 1) := by decide +kernel
theorem dX12_draw_216 : decode cX12_draw 216 = .ok (.isub, 1) := by decide +kernel
theorem dX12_draw_217 : decode cX12_draw 217 = .ok (.aload_n 0, 1) := by decide +kernel
theorem dX12_draw_218 : decode cX12_draw 218 = .ok (.getfield 31, 3) := by decide +kernel
theorem dX12_draw_221 : decode cX12_draw 221 = .ok (.iload 4, 2) := by decide +kernel
theorem dX12_draw_223 : decode cX12_draw 223 = .ok (.iaload, 1) := by decide +kernel
theorem dX12_draw_224 : decode cX12_draw 224 = .ok (.idiv, 1) := by decide +kernel
theorem dX12_draw_225 : decode cX12_draw 225 = .ok (.iadd, 1) := by decide +kernel
theorem dX12_draw_226 : decode cX12_draw 226 = .ok (.iconst 1, 1) := by decide +kernel
theorem dX12_draw_227 : decode cX12_draw 227 = .ok (.iadd, 1) := by decide +kernel
theorem dX12_draw_228 : decode cX12_draw 228 = .ok (.iastore, 1) := by decide +kernel
theorem dX12_draw_229 : decode cX12_draw 229 = .ok (.aload_n 0, 1) := by decide +kernel
theorem dX12_draw_230 : decode cX12_draw 230 = .ok (.getfield 65, 3) := by decide +kernel
theorem dX12_draw_233 : decode cX12_draw 233 = .ok (.iload_n 1, 1) := by decide +kernel
theorem dX12_draw_234 : decode cX12_draw 234 = .ok (.aload_n 0, 1) := by decide +kernel
theorem dX12_draw_235 : decode cX12_draw 235 = .ok (.getfield 34, 3) := by decide +kernel
theorem dX12_draw_238 : decode cX12_draw 238 = .ok (.iload 4, 2) := by decide +kernel
theorem dX12_draw_240 : decode cX12_draw 240 = .ok (.iaload, 1) := by decide +kernel
theorem dX12_draw_241 : decode cX12_draw 241 = .ok (.iastore, 1) := by decide +kernel
theorem dX12_draw_242 : decode cX12_draw 242 = .ok (.aload_n 0, 1) := by decide +kernel
theorem dX12_draw_243 : decode cX12_draw 243 = .ok (.dup, 1) := by decide +kernel
theorem dX12_draw_244 : decode cX12_draw 244 = .ok (.getfield 212, 3) := by decide +kernel
theorem dX12_draw_247 : decode cX12_draw 247 = .ok (.iconst 1, 1) := by decide +kernel
theorem dX12_draw_248 : decode cX12_draw 248 = .ok (.iadd, 1) := by decide +kernel
theorem dX12_draw_249 : decode cX12_draw 249 = .ok (.putfield 212, 3) := by decide +kernel
theorem dX12_draw_252 : decode cX12_draw 252 = .ok (.iload 9, 2) := by decide +kernel
theorem dX12_draw_254 : decode cX12_draw 254 = .ok (.ireturn, 1) := by decide +kernel
theorem dX12_fire_0 : decode cX12_fire 0 = .ok (.aload_n 0, 1) := by decide +kernel
theorem dX12_fire_1 : decode cX12_fire 1 = .ok (.iload_n 1, 1) := by decide +kernel
theorem dX12_fire_2 : decode cX12_fire 2 = .ok (.invokevirtual 173, 3) := by decide +kernel
theorem dX12_fire_5 : decode cX12_fire 5 = .ok (.ifCond .ne 6, 3) := by decide +kernel
theorem dX12_fire_8 : decode cX12_fire 8 = .ok (.bipush (-2), 2) := by decide +kernel
theorem dX12_fire_10 : decode cX12_fire 10 = .ok (.ireturn, 1) := by decide +kernel
theorem dX12_fire_11 : decode cX12_fire 11 = .ok (.aload_n 0, 1) := by decide +kernel
theorem dX12_fire_12 : decode cX12_fire 12 = .ok (.getfield 55, 3) := by decide +kernel
theorem dX12_fire_15 : decode cX12_fire 15 = .ok (.iload_n 1, 1) := by decide +kernel
theorem dX12_fire_16 : decode cX12_fire 16 = .ok (.iaload, 1) := by decide +kernel
theorem dX12_fire_17 : decode cX12_fire 17 = .ok (.ifCond .ne 6, 3) := by decide +kernel
theorem dX12_fire_20 : decode cX12_fire 20 = .ok (.bipush (-4), 2) := by decide +kernel
theorem dX12_fire_22 : decode cX12_fire 22 = .ok (.ireturn, 1) := by decide +kernel
theorem dX12_fire_23 : decode cX12_fire 23 = .ok (.aload_n 0, 1) := by decide +kernel
theorem dX12_fire_24 : decode cX12_fire 24 = .ok (.getfield 55, 3) := by decide +kernel
theorem dX12_fire_27 : decode cX12_fire 27 = .ok (.iload_n 1, 1) := by decide +kernel
theorem dX12_fire_28 : decode cX12_fire 28 = .ok (.iconst 0, 1) := by decide +kernel
theorem dX12_fire_29 : decode cX12_fire 29 = .ok (.iastore, 1) := by decide +kernel
theorem dX12_fire_30 : decode cX12_fire 30 = .ok (.aload_n 0, 1) := by decide +kernel
theorem dX12_fire_31 : decode cX12_fire 31 = .ok (.getfield 58, 3) := by decide +kernel
theorem dX12_fire_34 : decode cX12_fire 34 = .ok (.iload_n 1, 1) := by decide +kernel
theorem dX12_fire_35 : decode cX12_fire 35 = .ok (.laload, 1) := by decide +kernel
theorem dX12_fire_36 : decode cX12_fire 36 = .ok (.aload_n 0, 1) := by decide +kernel
theorem dX12_fire_37 : decode cX12_fire 37 = .ok (.getfield 22, 3) := by decide +kernel
theorem dX12_fire_40 : decode cX12_fire 40 = .ok (.aload_n 0, 1) := by decide +kernel
theorem dX12_fire_41 : decode cX12_fire 41 = .ok (.getfield 49, 3) := by decide +kernel
theorem dX12_fire_44 : decode cX12_fire 44 = .ok (.iload_n 1, 1) := by decide +kernel
theorem dX12_fire_45 : decode cX12_fire 45 = .ok (.iaload, 1) := by decide +kernel
theorem dX12_fire_46 : decode cX12_fire 46 = .ok (.iaload, 1) := by decide +kernel
theorem dX12_fire_47 : decode cX12_fire 47 = .ok (.i2l, 1) := by decide +kernel
theorem dX12_fire_48 : decode cX12_fire 48 = .ok (.lmul, 1) := by decide +kernel
theorem dX12_fire_49 : decode cX12_fire 49 = .ok (.ldc2_w 178, 3) := by decide +kernel
theorem dX12_fire_52 : decode cX12_fire 52 = .ok (.ldiv, 1) := by decide +kernel
theorem dX12_fire_53 : decode cX12_fire 53 = .ok (.lstore_n 2, 1) := by decide +kernel
theorem dX12_fire_54 : decode cX12_fire 54 = .ok (.aload_n 0, 1) := by decide +kernel
theorem dX12_fire_55 : decode cX12_fire 55 = .ok (.getfield 58, 3) := by decide +kernel
theorem dX12_fire_58 : decode cX12_fire 58 = .ok (.iload_n 1, 1) := by decide +kernel
theorem dX12_fire_59 : decode cX12_fire 59 = .ok (.dup2, 1) := by decide +kernel
theorem dX12_fire_60 : decode cX12_fire 60 = .ok (.laload, 1) := by decide +kernel
theorem dX12_fire_61 : decode cX12_fire 61 = .ok (.lload_n 2, 1) := by decide +kernel
theorem dX12_fire_62 : decode cX12_fire 62 = .ok (.lsub, 1) := by decide +kernel
theorem dX12_fire_63 : decode cX12_fire 63 = .ok (.lastore, 1) := by decide +kernel
theorem dX12_fire_64 : decode cX12_fire 64 = .ok (.aload_n 0, 1) := by decide +kernel
theorem dX12_fire_65 : decode cX12_fire 65 = .ok (.dup, 1) := by decide +kernel
theorem dX12_fire_66 : decode cX12_fire 66 = .ok (.getfield 215, 3) := by decide +kernel
theorem dX12_fire_69 : decode cX12_fire 69 = .ok (.lload_n 2, 1) := by decide +kernel
theorem dX12_fire_70 : decode cX12_fire 70 = .ok (.ladd, 1) := by decide +kernel
theorem dX12_fire_71 : decode cX12_fire 71 = .ok (.putfield 215, 3) := by decide +kernel
theorem dX12_fire_74 : decode cX12_fire 74 = .ok (.aload_n 0, 1) := by decide +kernel
theorem dX12_fire_75 : decode cX12_fire 75 = .ok (.getfield 65, 3) := by decide +kernel
theorem dX12_fire_78 : decode cX12_fire 78 = .ok (.iload_n 1, 1) := by decide +kernel
theorem dX12_fire_79 : decode cX12_fire 79 = .ok (.iaload, 1) := by decide +kernel
theorem dX12_fire_80 : decode cX12_fire 80 = .ok (.aload_n 0, 1) := by decide +kernel
theorem dX12_fire_81 : decode cX12_fire 81 = .ok (.getfield 34, 3) := by decide +kernel
theorem dX12_fire_84 : decode cX12_fire 84 = .ok (.iconst 3, 1) := by decide +kernel
theorem dX12_fire_85 : decode cX12_fire 85 = .ok (.iaload, 1) := by decide +kernel
theorem dX12_fire_86 : decode cX12_fire 86 = .ok (.if_icmp .le 12, 3) := by decide +kernel
theorem dX12_fire_89 : decode cX12_fire 89 = .ok (.aload_n 0, 1) := by decide +kernel
theorem dX12_fire_90 : decode cX12_fire 90 = .ok (.getfield 65, 3) := by decide +kernel
theorem dX12_fire_93 : decode cX12_fire 93 = .ok (.iload_n 1, 1) := by decide +kernel
theorem dX12_fire_94 : decode cX12_fire 94 = .ok (.iaload, 1) := by decide +kernel
theorem dX12_fire_95 : decode cX12_fire 95 = .ok (.goto 9, 3) := by decide +kernel
theorem dX12_fire_98 : decode cX12_fire 98 = .ok (.aload_n 0, 1) := by decide +kernel
theorem dX12_fire_99 : decode cX12_fire 99 = .ok (.getfield 34, 3) := by decide +kernel
theorem dX12_fire_102 : decode cX12_fire 102 = .ok (.iconst 3, 1) := by decide +kernel
theorem dX12_fire_103 : decode cX12_fire 103 = .ok (.iaload, 1) := by decide +kernel
theorem dX12_fire_104 : decode cX12_fire 104 = .ok (.istore 4, 2) := by decide +kernel
theorem dX12_fire_106 : decode cX12_fire 106 = .ok (.aload_n 0, 1) := by decide +kernel
theorem dX12_fire_107 : decode cX12_fire 107 = .ok (.getfield 34, 3) := by decide +kernel
theorem dX12_fire_110 : decode cX12_fire 110 = .ok (.iconst 3, 1) := by decide +kernel
theorem dX12_fire_111 : decode cX12_fire 111 = .ok (.iload 4, 2) := by decide +kernel
theorem dX12_fire_113 : decode cX12_fire 113 = .ok (.aload_n 0, 1) := by decide +kernel
theorem dX12_fire_114 : decode cX12_fire 114 = .ok (.getfield 25, 3) := by decide +kernel
theorem dX12_fire_117 : decode cX12_fire 117 = .ok (.iconst 3, 1) := by decide +kernel
theorem dX12_fire_118 : decode cX12_fire 118 = .ok (.iaload, 1) := by decide +kernel
theorem dX12_fire_119 : decode cX12_fire 119 = .ok (.iadd, 1) := by decide +kernel
theorem dX12_fire_120 : decode cX12_fire 120 = .ok (.iastore, 1) := by decide +kernel
theorem dX12_fire_121 : decode cX12_fire 121 = .ok (.aload_n 0, 1) := by decide +kernel
theorem dX12_fire_122 : decode cX12_fire 122 = .ok (.getfield 65, 3) := by decide +kernel
theorem dX12_fire_125 : decode cX12_fire 125 = .ok (.iload_n 1, 1) := by decide +kernel
theorem dX12_fire_126 : decode cX12_fire 126 = .ok (.aload_n 0, 1) := by decide +kernel
theorem dX12_fire_127 : decode cX12_fire 127 = .ok (.getfield 34, 3) := by decide +kernel
theorem dX12_fire_130 : decode cX12_fire 130 = .ok (.iconst 3, 1) := by decide +kernel
theorem dX12_fire_131 : decode cX12_fire 131 = .ok (.iaload, 1) := by decide +kernel
theorem dX12_fire_132 : decode cX12_fire 132 = .ok (.iastore, 1) := by decide +kernel
theorem dX12_fire_133 : decode cX12_fire 133 = .ok (.aload_n 0, 1) := by decide +kernel
theorem dX12_fire_134 : decode cX12_fire 134 = .ok (.dup, 1) := by decide +kernel
theorem dX12_fire_135 : decode cX12_fire 135 = .ok (.getfield 218, 3) := by decide +kernel
theorem dX12_fire_138 : decode cX12_fire 138 = .ok (.iconst 1, 1) := by decide +kernel
theorem dX12_fire_139 : decode cX12_fire 139 = .ok (.iadd, 1) := by decide +kernel
theorem dX12_fire_140 : decode cX12_fire 140 = .ok (.putfield 218, 3) := by decide +kernel
theorem dX12_fire_143 : decode cX12_fire 143 = .ok (.aload_n 0, 1) := by decide +kernel
theorem dX12_fire_144 : decode cX12_fire 144 = .ok (.iload_n 1, 1) := by decide +kernel
theorem dX12_fire_145 : decode cX12_fire 145 = .ok (.invokevirtual 221, 3) := by decide +kernel
theorem dX12_fire_148 : decode cX12_fire 148 = .ok (.aload_n 0, 1) := by decide +kernel
theorem dX12_fire_149 : decode cX12_fire 149 = .ok (.getfield 34, 3) := by decide +kernel
theorem dX12_fire_152 : decode cX12_fire 152 = .ok (.iconst 3, 1) := by decide +kernel
theorem dX12_fire_153 : decode cX12_fire 153 = .ok (.iaload, 1) := by decide +kernel
theorem dX12_fire_154 : decode cX12_fire 154 = .ok (.ireturn, 1) := by decide +kernel
theorem dX12_part_0 : decode cX12_part 0 = .ok (.aload_n 0, 1) := by decide +kernel
theorem dX12_part_1 : decode cX12_part 1 = .ok (.iload_n 1, 1) := by decide +kernel
theorem dX12_part_2 : decode cX12_part 2 = .ok (.invokevirtual 173, 3) := by decide +kernel
theorem dX12_part_5 : decode cX12_part 5 = .ok (.ifCond .ne 6, 3) := by decide +kernel
theorem dX12_part_8 : decode cX12_part 8 = .ok (.bipush (-2), 2) := by decide +kernel
theorem dX12_part_10 : decode cX12_part 10 = .ok (.ireturn, 1) := by decide +kernel
theorem dX12_part_11 : decode cX12_part 11 = .ok (.iload_n 2, 1) := by decide +kernel
theorem dX12_part_12 : decode cX12_part 12 = .ok (.iconst 1, 1) := by decide +kernel
theorem dX12_part_13 : decode cX12_part 13 = .ok (.aload_n 0, 1) := by decide +kernel
theorem dX12_part_14 : decode cX12_part 14 = .ok (.iload_n 1, 1) := by decide +kernel
theorem dX12_part_15 : decode cX12_part 15 = .ok (.invokevirtual 167, 3) := by decide +kernel
theorem dX12_part_18 : decode cX12_part 18 = .ok (.iconst 1, 1) := by decide +kernel
theorem dX12_part_19 : decode cX12_part 19 = .ok (.isub, 1) := by decide +kernel
theorem dX12_part_20 : decode cX12_part 20 = .ok (.invokestatic 123, 3) := by decide +kernel
theorem dX12_part_23 : decode cX12_part 23 = .ok (.ifCond .ne 6, 3) := by decide +kernel
theorem dX12_part_26 : decode cX12_part 26 = .ok (.bipush (-3), 2) := by decide +kernel
theorem dX12_part_28 : decode cX12_part 28 = .ok (.ireturn, 1) := by decide +kernel
theorem dX12_part_29 : decode cX12_part 29 = .ok (.aload_n 0, 1) := by decide +kernel
theorem dX12_part_30 : decode cX12_part 30 = .ok (.getfield 127, 3) := by decide +kernel
theorem dX12_part_33 : decode cX12_part 33 = .ok (.bipush 16, 2) := by decide +kernel
theorem dX12_part_35 : decode cX12_part 35 = .ok (.if_icmp .ne 6, 3) := by decide +kernel
theorem dX12_part_38 : decode cX12_part 38 = .ok (.bipush (-8), 2) := by decide +kernel
theorem dX12_part_40 : decode cX12_part 40 = .ok (.ireturn, 1) := by decide +kernel
theorem dX12_part_41 : decode cX12_part 41 = .ok (.aload_n 0, 1) := by decide +kernel
theorem dX12_part_42 : decode cX12_part 42 = .ok (.getfield 52, 3) := by decide +kernel
theorem dX12_part_45 : decode cX12_part 45 = .ok (.iload_n 1, 1) := by decide +kernel
theorem dX12_part_46 : decode cX12_part 46 = .ok (.iaload, 1) := by decide +kernel
theorem dX12_part_47 : decode cX12_part 47 = .ok (.i2l, 1) := by decide +kernel
theorem dX12_part_48 : decode cX12_part 48 = .ok (.aload_n 0, 1) := by decide +kernel
theorem dX12_part_49 : decode cX12_part 49 = .ok (.getfield 52, 3) := by decide +kernel
theorem dX12_part_52 : decode cX12_part 52 = .ok (.iload_n 1, 1) := by decide +kernel
theorem dX12_part_53 : decode cX12_part 53 = .ok (.iaload, 1) := by decide +kernel
theorem dX12_part_54 : decode cX12_part 54 = .ok (.i2l, 1) := by decide +kernel
theorem dX12_part_55 : decode cX12_part 55 = .ok (.lmul, 1) := by decide +kernel
theorem dX12_part_56 : decode cX12_part 56 = .ok (.iload_n 2, 1) := by decide +kernel
theorem dX12_part_57 : decode cX12_part 57 = .ok (.i2l, 1) := by decide +kernel
theorem dX12_part_58 : decode cX12_part 58 = .ok (.lmul, 1) := by decide +kernel
theorem dX12_part_59 : decode cX12_part 59 = .ok (.lstore_n 3, 1) := by decide +kernel
theorem dX12_part_60 : decode cX12_part 60 = .ok (.aload_n 0, 1) := by decide +kernel
theorem dX12_part_61 : decode cX12_part 61 = .ok (.aload_n 0, 1) := by decide +kernel
theorem dX12_part_62 : decode cX12_part 62 = .ok (.getfield 49, 3) := by decide +kernel
theorem dX12_part_65 : decode cX12_part 65 = .ok (.iload_n 1, 1) := by decide +kernel
theorem dX12_part_66 : decode cX12_part 66 = .ok (.iaload, 1) := by decide +kernel
theorem dX12_part_67 : decode cX12_part 67 = .ok (.aload_n 0, 1) := by decide +kernel
theorem dX12_part_68 : decode cX12_part 68 = .ok (.getfield 52, 3) := by decide +kernel
theorem dX12_part_71 : decode cX12_part 71 = .ok (.iload_n 1, 1) := by decide +kernel
theorem dX12_part_72 : decode cX12_part 72 = .ok (.iaload, 1) := by decide +kernel
theorem dX12_part_73 : decode cX12_part 73 = .ok (.aload_n 0, 1) := by decide +kernel
theorem dX12_part_74 : decode cX12_part 74 = .ok (.getfield 58, 3) := by decide +kernel
theorem dX12_part_77 : decode cX12_part 77 = .ok (.iload_n 1, 1) := by decide +kernel
theorem dX12_part_78 : decode cX12_part 78 = .ok (.laload, 1) := by decide +kernel
theorem dX12_part_79 : decode cX12_part 79 = .ok (.lload_n 3, 1) := by decide +kernel
theorem dX12_part_80 : decode cX12_part 80 = .ok (.lsub, 1) := by decide +kernel
theorem dX12_part_81 : decode cX12_part 81 = .ok (.invokevirtual 163, 3) := by decide +kernel
theorem dX12_part_84 : decode cX12_part 84 = .ok (.istore 5, 2) := by decide +kernel
theorem dX12_part_86 : decode cX12_part 86 = .ok (.aload_n 0, 1) := by decide +kernel
theorem dX12_part_87 : decode cX12_part 87 = .ok (.getfield 55, 3) := by decide +kernel
theorem dX12_part_90 : decode cX12_part 90 = .ok (.iload 5, 2) := by decide +kernel
theorem dX12_part_92 : decode cX12_part 92 = .ok (.aload_n 0, 1) := by decide +kernel
theorem dX12_part_93 : decode cX12_part 93 = .ok (.getfield 55, 3) := by decide +kernel
theorem dX12_part_96 : decode cX12_part 96 = .ok (.iload_n 1, 1) := by decide +kernel
theorem dX12_part_97 : decode cX12_part 97 = .ok (.iaload, 1) := by decide +kernel
theorem dX12_part_98 : decode cX12_part 98 = .ok (.iastore, 1) := by decide +kernel
theorem dX12_part_99 : decode cX12_part 99 = .ok (.aload_n 0, 1) := by decide +kernel
theorem dX12_part_100 : decode cX12_part 100 = .ok (.getfield 62, 3) := by decide +kernel
theorem dX12_part_103 : decode cX12_part 103 = .ok (.iload 5, 2) := by decide +kernel
theorem dX12_part_105 : decode cX12_part 105 = .ok (.aload_n 0, 1) := by decide +kernel
theorem dX12_part_106 : decode cX12_part 106 = .ok (.getfield 62, 3) := by decide +kernel
theorem dX12_part_109 : decode cX12_part 109 = .ok (.iload_n 1, 1) := by decide +kernel
theorem dX12_part_110 : decode cX12_part 110 = .ok (.iaload, 1) := by decide +kernel
theorem dX12_part_111 : decode cX12_part 111 = .ok (.iastore, 1) := by decide +kernel
theorem dX12_part_112 : decode cX12_part 112 = .ok (.aload_n 0, 1) := by decide +kernel
theorem dX12_part_113 : decode cX12_part 113 = .ok (.getfield 65, 3) := by decide +kernel
theorem dX12_part_116 : decode cX12_part 116 = .ok (.iload 5, 2) := by decide +kernel
theorem dX12_part_118 : decode cX12_part 118 = .ok (.aload_n 0, 1) := by decide +kernel
theorem dX12_part_119 : decode cX12_part 119 = .ok (.getfield 65, 3) := by decide +kernel
theorem dX12_part_122 : decode cX12_part 122 = .ok (.iload_n 1, 1) := by decide +kernel
theorem dX12_part_123 : decode cX12_part 123 = .ok (.iaload, 1) := by decide +kernel
theorem dX12_part_124 : decode cX12_part 124 = .ok (.iastore, 1) := by decide +kernel
theorem dX12_part_125 : decode cX12_part 125 = .ok (.aload_n 0, 1) := by decide +kernel
theorem dX12_part_126 : decode cX12_part 126 = .ok (.getfield 68, 3) := by decide +kernel
theorem dX12_part_129 : decode cX12_part 129 = .ok (.iload 5, 2) := by decide +kernel
theorem dX12_part_131 : decode cX12_part 131 = .ok (.aload_n 0, 1) := by decide +kernel
theorem dX12_part_132 : decode cX12_part 132 = .ok (.getfield 68, 3) := by decide +kernel
theorem dX12_part_135 : decode cX12_part 135 = .ok (.iload_n 1, 1) := by decide +kernel
theorem dX12_part_136 : decode cX12_part 136 = .ok (.baload, 1) := by decide +kernel
theorem dX12_part_137 : decode cX12_part 137 = .ok (.bastore, 1) := by decide +kernel
theorem dX12_part_138 : decode cX12_part 138 = .ok (.aload_n 0, 1) := by decide +kernel
theorem dX12_part_139 : decode cX12_part 139 = .ok (.getfield 58, 3) := by decide +kernel
theorem dX12_part_142 : decode cX12_part 142 = .ok (.iload_n 1, 1) := by decide +kernel
theorem dX12_part_143 : decode cX12_part 143 = .ok (.lload_n 3, 1) := by decide +kernel
theorem dX12_part_144 : decode cX12_part 144 = .ok (.lastore, 1) := by decide +kernel
theorem dX12_part_145 : decode cX12_part 145 = .ok (.iload 5, 2) := by decide +kernel
theorem dX12_part_147 : decode cX12_part 147 = .ok (.ireturn, 1) := by decide +kernel
theorem dX12_join_0 : decode cX12_join 0 = .ok (.aload_n 0, 1) := by decide +kernel
theorem dX12_join_1 : decode cX12_join 1 = .ok (.iload_n 1, 1) := by decide +kernel
theorem dX12_join_2 : decode cX12_join 2 = .ok (.invokevirtual 173, 3) := by decide +kernel
theorem dX12_join_5 : decode cX12_join 5 = .ok (.ifCond .eq 11, 3) := by decide +kernel
theorem dX12_join_8 : decode cX12_join 8 = .ok (.aload_n 0, 1) := by decide +kernel
theorem dX12_join_9 : decode cX12_join 9 = .ok (.iload_n 2, 1) := by decide +kernel
theorem dX12_join_10 : decode cX12_join 10 = .ok (.invokevirtual 173, 3) := by decide +kernel
theorem dX12_join_13 : decode cX12_join 13 = .ok (.ifCond .ne 6, 3) := by decide +kernel
end
section
theorem dX12_join_16 : decode cX12_join 16 = .ok (.bipush (-2), 2) := by decide +kernel
theorem dX12_join_18 : decode cX12_join 18 = .ok (.ireturn, 1) := by decide +kernel
theorem dX12_join_19 : decode cX12_join 19 = .ok (.iload_n 1, 1) := by decide +kernel
theorem dX12_join_20 : decode cX12_join 20 = .ok (.iload_n 2, 1) := by decide +kernel
theorem dX12_join_21 : decode cX12_join 21 = .ok (.if_icmp .ne 6, 3) := by decide +kernel
theorem dX12_join_24 : decode cX12_join 24 = .ok (.bipush (-3), 2) := by decide +kernel
theorem dX12_join_26 : decode cX12_join 26 = .ok (.ireturn, 1) := by decide +kernel
theorem dX12_join_27 : decode cX12_join 27 = .ok (.aload_n 0, 1) := by decide +kernel
theorem dX12_join_28 : decode cX12_join 28 = .ok (.getfield 49, 3) := by decide +kernel
theorem dX12_join_31 : decode cX12_join 31 = .ok (.iload_n 1, 1) := by decide +kernel
theorem dX12_join_32 : decode cX12_join 32 = .ok (.iaload, 1) := by decide +kernel
theorem dX12_join_33 : decode cX12_join 33 = .ok (.aload_n 0, 1) := by decide +kernel
theorem dX12_join_34 : decode cX12_join 34 = .ok (.getfield 49, 3) := by decide +kernel
theorem dX12_join_37 : decode cX12_join 37 = .ok (.iload_n 2, 1) := by decide +kernel
theorem dX12_join_38 : decode cX12_join 38 = .ok (.iaload, 1) := by decide +kernel
theorem dX12_join_39 : decode cX12_join 39 = .ok (.if_icmp .ne 34, 3) := by decide +kernel
theorem dX12_join_42 : decode cX12_join 42 = .ok (.aload_n 0, 1) := by decide +kernel
theorem dX12_join_43 : decode cX12_join 43 = .ok (.getfield 52, 3) := by decide +kernel
theorem dX12_join_46 : decode cX12_join 46 = .ok (.iload_n 1, 1) := by decide +kernel
theorem dX12_join_47 : decode cX12_join 47 = .ok (.iaload, 1) := by decide +kernel
theorem dX12_join_48 : decode cX12_join 48 = .ok (.aload_n 0, 1) := by decide +kernel
theorem dX12_join_49 : decode cX12_join 49 = .ok (.getfield 52, 3) := by decide +kernel
theorem dX12_join_52 : decode cX12_join 52 = .ok (.iload_n 2, 1) := by decide +kernel
theorem dX12_join_53 : decode cX12_join 53 = .ok (.iaload, 1) := by decide +kernel
theorem dX12_join_54 : decode cX12_join 54 = .ok (.if_icmp .ne 19, 3) := by decide +kernel
theorem dX12_join_57 : decode cX12_join 57 = .ok (.aload_n 0, 1) := by decide +kernel
theorem dX12_join_58 : decode cX12_join 58 = .ok (.iload_n 2, 1) := by decide +kernel
theorem dX12_join_59 : decode cX12_join 59 = .ok (.invokevirtual 167, 3) := by decide +kernel
theorem dX12_join_62 : decode cX12_join 62 = .ok (.aload_n 0, 1) := by decide +kernel
theorem dX12_join_63 : decode cX12_join 63 = .ok (.getfield 25, 3) := by decide +kernel
theorem dX12_join_66 : decode cX12_join 66 = .ok (.iconst 4, 1) := by decide +kernel
theorem dX12_join_67 : decode cX12_join 67 = .ok (.iaload, 1) := by decide +kernel
theorem dX12_join_68 : decode cX12_join 68 = .ok (.iconst 1, 1) := by decide +kernel
theorem dX12_join_69 : decode cX12_join 69 = .ok (.iadd, 1) := by decide +kernel
theorem dX12_join_70 : decode cX12_join 70 = .ok (.if_icmp .ge 6, 3) := by decide +kernel
theorem dX12_join_73 : decode cX12_join 73 = .ok (.bipush (-4), 2) := by decide +kernel
theorem dX12_join_75 : decode cX12_join 75 = .ok (.ireturn, 1) := by decide +kernel
theorem dX12_join_76 : decode cX12_join 76 = .ok (.aload_n 0, 1) := by decide +kernel
theorem dX12_join_77 : decode cX12_join 77 = .ok (.getfield 52, 3) := by decide +kernel
theorem dX12_join_80 : decode cX12_join 80 = .ok (.iload_n 2, 1) := by decide +kernel
theorem dX12_join_81 : decode cX12_join 81 = .ok (.iaload, 1) := by decide +kernel
theorem dX12_join_82 : decode cX12_join 82 = .ok (.i2l, 1) := by decide +kernel
theorem dX12_join_83 : decode cX12_join 83 = .ok (.aload_n 0, 1) := by decide +kernel
theorem dX12_join_84 : decode cX12_join 84 = .ok (.getfield 52, 3) := by decide +kernel
theorem dX12_join_87 : decode cX12_join 87 = .ok (.iload_n 2, 1) := by decide +kernel
theorem dX12_join_88 : decode cX12_join 88 = .ok (.iaload, 1) := by decide +kernel
theorem dX12_join_89 : decode cX12_join 89 = .ok (.i2l, 1) := by decide +kernel
theorem dX12_join_90 : decode cX12_join 90 = .ok (.lmul, 1) := by decide +kernel
theorem dX12_join_91 : decode cX12_join 91 = .ok (.aload_n 0, 1) := by decide +kernel
theorem dX12_join_92 : decode cX12_join 92 = .ok (.getfield 25, 3) := by decide +kernel
theorem dX12_join_95 : decode cX12_join 95 = .ok (.iconst 4, 1) := by decide +kernel
theorem dX12_join_96 : decode cX12_join 96 = .ok (.iaload, 1) := by decide +kernel
theorem dX12_join_97 : decode cX12_join 97 = .ok (.i2l, 1) := by decide +kernel
theorem dX12_join_98 : decode cX12_join 98 = .ok (.lmul, 1) := by decide +kernel
theorem dX12_join_99 : decode cX12_join 99 = .ok (.lstore_n 3, 1) := by decide +kernel
theorem dX12_join_100 : decode cX12_join 100 = .ok (.aload_n 0, 1) := by decide +kernel
theorem dX12_join_101 : decode cX12_join 101 = .ok (.dup, 1) := by decide +kernel
theorem dX12_join_102 : decode cX12_join 102 = .ok (.getfield 170, 3) := by decide +kernel
theorem dX12_join_105 : decode cX12_join 105 = .ok (.lload_n 3, 1) := by decide +kernel
theorem dX12_join_106 : decode cX12_join 106 = .ok (.ladd, 1) := by decide +kernel
theorem dX12_join_107 : decode cX12_join 107 = .ok (.putfield 170, 3) := by decide +kernel
theorem dX12_join_110 : decode cX12_join 110 = .ok (.aload_n 0, 1) := by decide +kernel
theorem dX12_join_111 : decode cX12_join 111 = .ok (.getfield 58, 3) := by decide +kernel
theorem dX12_join_114 : decode cX12_join 114 = .ok (.iload_n 1, 1) := by decide +kernel
theorem dX12_join_115 : decode cX12_join 115 = .ok (.dup2, 1) := by decide +kernel
theorem dX12_join_116 : decode cX12_join 116 = .ok (.laload, 1) := by decide +kernel
theorem dX12_join_117 : decode cX12_join 117 = .ok (.aload_n 0, 1) := by decide +kernel
theorem dX12_join_118 : decode cX12_join 118 = .ok (.getfield 58, 3) := by decide +kernel
theorem dX12_join_121 : decode cX12_join 121 = .ok (.iload_n 2, 1) := by decide +kernel
theorem dX12_join_122 : decode cX12_join 122 = .ok (.laload, 1) := by decide +kernel
theorem dX12_join_123 : decode cX12_join 123 = .ok (.lload_n 3, 1) := by decide +kernel
theorem dX12_join_124 : decode cX12_join 124 = .ok (.lsub, 1) := by decide +kernel
theorem dX12_join_125 : decode cX12_join 125 = .ok (.ladd, 1) := by decide +kernel
theorem dX12_join_126 : decode cX12_join 126 = .ok (.lastore, 1) := by decide +kernel
theorem dX12_join_127 : decode cX12_join 127 = .ok (.aload_n 0, 1) := by decide +kernel
theorem dX12_join_128 : decode cX12_join 128 = .ok (.getfield 58, 3) := by decide +kernel
theorem dX12_join_131 : decode cX12_join 131 = .ok (.iload_n 2, 1) := by decide +kernel
theorem dX12_join_132 : decode cX12_join 132 = .ok (.lconst 0, 1) := by decide +kernel
theorem dX12_join_133 : decode cX12_join 133 = .ok (.lastore, 1) := by decide +kernel
theorem dX12_join_134 : decode cX12_join 134 = .ok (.aload_n 0, 1) := by decide +kernel
theorem dX12_join_135 : decode cX12_join 135 = .ok (.getfield 55, 3) := by decide +kernel
theorem dX12_join_138 : decode cX12_join 138 = .ok (.iload_n 1, 1) := by decide +kernel
theorem dX12_join_139 : decode cX12_join 139 = .ok (.aload_n 0, 1) := by decide +kernel
theorem dX12_join_140 : decode cX12_join 140 = .ok (.getfield 55, 3) := by decide +kernel
theorem dX12_join_143 : decode cX12_join 143 = .ok (.iload_n 2, 1) := by decide +kernel
theorem dX12_join_144 : decode cX12_join 144 = .ok (.iaload, 1) := by decide +kernel
theorem dX12_join_145 : decode cX12_join 145 = .ok (.aload_n 0, 1) := by decide +kernel
theorem dX12_join_146 : decode cX12_join 146 = .ok (.getfield 55, 3) := by decide +kernel
theorem dX12_join_149 : decode cX12_join 149 = .ok (.iload_n 1, 1) := by decide +kernel
theorem dX12_join_150 : decode cX12_join 150 = .ok (.iaload, 1) := by decide +kernel
theorem dX12_join_151 : decode cX12_join 151 = .ok (.if_icmp .le 12, 3) := by decide +kernel
theorem dX12_join_154 : decode cX12_join 154 = .ok (.aload_n 0, 1) := by decide +kernel
theorem dX12_join_155 : decode cX12_join 155 = .ok (.getfield 55, 3) := by decide +kernel
theorem dX12_join_158 : decode cX12_join 158 = .ok (.iload_n 2, 1) := by decide +kernel
theorem dX12_join_159 : decode cX12_join 159 = .ok (.iaload, 1) := by decide +kernel
theorem dX12_join_160 : decode cX12_join 160 = .ok (.goto 9, 3) := by decide +kernel
theorem dX12_join_163 : decode cX12_join 163 = .ok (.aload_n 0, 1) := by decide +kernel
theorem dX12_join_164 : decode cX12_join 164 = .ok (.getfield 55, 3) := by decide +kernel
theorem dX12_join_167 : decode cX12_join 167 = .ok (.iload_n 1, 1) := by decide +kernel
theorem dX12_join_168 : decode cX12_join 168 = .ok (.iaload, 1) := by decide +kernel
theorem dX12_join_169 : decode cX12_join 169 = .ok (.iastore, 1) := by decide +kernel
theorem dX12_join_170 : decode cX12_join 170 = .ok (.aload_n 0, 1) := by decide +kernel
theorem dX12_join_171 : decode cX12_join 171 = .ok (.getfield 62, 3) := by decide +kernel
theorem dX12_join_174 : decode cX12_join 174 = .ok (.iload_n 1, 1) := by decide +kernel
theorem dX12_join_175 : decode cX12_join 175 = .ok (.dup2, 1) := by decide +kernel
theorem dX12_join_176 : decode cX12_join 176 = .ok (.iaload, 1) := by decide +kernel
theorem dX12_join_177 : decode cX12_join 177 = .ok (.aload_n 0, 1) := by decide +kernel
theorem dX12_join_178 : decode cX12_join 178 = .ok (.getfield 62, 3) := by decide +kernel
theorem dX12_join_181 : decode cX12_join 181 = .ok (.iload_n 2, 1) := by decide +kernel
theorem dX12_join_182 : decode cX12_join 182 = .ok (.iaload, 1) := by decide +kernel
theorem dX12_join_183 : decode cX12_join 183 = .ok (.iconst 1, 1) := by decide +kernel
theorem dX12_join_184 : decode cX12_join 184 = .ok (.iadd, 1) := by decide +kernel
theorem dX12_join_185 : decode cX12_join 185 = .ok (.iadd, 1) := by decide +kernel
theorem dX12_join_186 : decode cX12_join 186 = .ok (.iastore, 1) := by decide +kernel
theorem dX12_join_187 : decode cX12_join 187 = .ok (.aload_n 0, 1) := by decide +kernel
theorem dX12_join_188 : decode cX12_join 188 = .ok (.getfield 65, 3) := by decide +kernel
theorem dX12_join_191 : decode cX12_join 191 = .ok (.iload_n 1, 1) := by decide +kernel
theorem dX12_join_192 : decode cX12_join 192 = .ok (.aload_n 0, 1) := by decide +kernel
theorem dX12_join_193 : decode cX12_join 193 = .ok (.getfield 65, 3) := by decide +kernel
theorem dX12_join_196 : decode cX12_join 196 = .ok (.iload_n 2, 1) := by decide +kernel
theorem dX12_join_197 : decode cX12_join 197 = .ok (.iaload, 1) := by decide +kernel
theorem dX12_join_198 : decode cX12_join 198 = .ok (.aload_n 0, 1) := by decide +kernel
theorem dX12_join_199 : decode cX12_join 199 = .ok (.getfield 65, 3) := by decide +kernel
theorem dX12_join_202 : decode cX12_join 202 = .ok (.iload_n 1, 1) := by decide +kernel
theorem dX12_join_203 : decode cX12_join 203 = .ok (.iaload, 1) := by decide +kernel
theorem dX12_join_204 : decode cX12_join 204 = .ok (.if_icmp .le 12, 3) := by decide +kernel
theorem dX12_join_207 : decode cX12_join 207 = .ok (.aload_n 0, 1) := by decide +kernel
theorem dX12_join_208 : decode cX12_join 208 = .ok (.getfield 65, 3) := by decide +kernel
theorem dX12_join_211 : decode cX12_join 211 = .ok (.iload_n 2, 1) := by decide +kernel
theorem dX12_join_212 : decode cX12_join 212 = .ok (.iaload, 1) := by decide +kernel
theorem dX12_join_213 : decode cX12_join 213 = .ok (.goto 9, 3) := by decide +kernel
theorem dX12_join_216 : decode cX12_join 216 = .ok (.aload_n 0, 1) := by decide +kernel
theorem dX12_join_217 : decode cX12_join 217 = .ok (.getfield 65, 3) := by decide +kernel
theorem dX12_join_220 : decode cX12_join 220 = .ok (.iload_n 1, 1) := by decide +kernel
theorem dX12_join_221 : decode cX12_join 221 = .ok (.iaload, 1) := by decide +kernel
theorem dX12_join_222 : decode cX12_join 222 = .ok (.iastore, 1) := by decide +kernel
theorem dX12_join_223 : decode cX12_join 223 = .ok (.aload_n 0, 1) := by decide +kernel
theorem dX12_join_224 : decode cX12_join 224 = .ok (.getfield 68, 3) := by decide +kernel
theorem dX12_join_227 : decode cX12_join 227 = .ok (.iload_n 1, 1) := by decide +kernel
theorem dX12_join_228 : decode cX12_join 228 = .ok (.aload_n 0, 1) := by decide +kernel
theorem dX12_join_229 : decode cX12_join 229 = .ok (.getfield 68, 3) := by decide +kernel
theorem dX12_join_232 : decode cX12_join 232 = .ok (.iload_n 1, 1) := by decide +kernel
theorem dX12_join_233 : decode cX12_join 233 = .ok (.baload, 1) := by decide +kernel
theorem dX12_join_234 : decode cX12_join 234 = .ok (.ifCond .ne 12, 3) := by decide +kernel
theorem dX12_join_237 : decode cX12_join 237 = .ok (.aload_n 0, 1) := by decide +kernel
theorem dX12_join_238 : decode cX12_join 238 = .ok (.getfield 68, 3) := by decide +kernel
theorem dX12_join_241 : decode cX12_join 241 = .ok (.iload_n 2, 1) := by decide +kernel
theorem dX12_join_242 : decode cX12_join 242 = .ok (.baload, 1) := by decide +kernel
theorem dX12_join_243 : decode cX12_join 243 = .ok (.ifCond .eq 7, 3) := by decide +kernel
theorem dX12_join_246 : decode cX12_join 246 = .ok (.iconst 1, 1) := by decide +kernel
theorem dX12_join_247 : decode cX12_join 247 = .ok (.goto 4, 3) := by decide +kernel
theorem dX12_join_250 : decode cX12_join 250 = .ok (.iconst 0, 1) := by decide +kernel
theorem dX12_join_251 : decode cX12_join 251 = .ok (.bastore, 1) := by decide +kernel
theorem dX12_join_252 : decode cX12_join 252 = .ok (.aload_n 0, 1) := by decide +kernel
theorem dX12_join_253 : decode cX12_join 253 = .ok (.iload_n 1, 1) := by decide +kernel
theorem dX12_join_254 : decode cX12_join 254 = .ok (.invokevirtual 167, 3) := by decide +kernel
theorem dX12_join_257 : decode cX12_join 257 = .ok (.ireturn, 1) := by decide +kernel
theorem dX12_scrap_0 : decode cX12_scrap 0 = .ok (.aload_n 0, 1) := by decide +kernel
theorem dX12_scrap_1 : decode cX12_scrap 1 = .ok (.iload_n 1, 1) := by decide +kernel
theorem dX12_scrap_2 : decode cX12_scrap 2 = .ok (.invokevirtual 173, 3) := by decide +kernel
theorem dX12_scrap_5 : decode cX12_scrap 5 = .ok (.ifCond .ne 6, 3) := by decide +kernel
theorem dX12_scrap_8 : decode cX12_scrap 8 = .ok (.bipush (-2), 2) := by decide +kernel
theorem dX12_scrap_10 : decode cX12_scrap 10 = .ok (.ireturn, 1) := by decide +kernel
theorem dX12_scrap_11 : decode cX12_scrap 11 = .ok (.aload_n 0, 1) := by decide +kernel
theorem dX12_scrap_12 : decode cX12_scrap 12 = .ok (.dup, 1) := by decide +kernel
theorem dX12_scrap_13 : decode cX12_scrap 13 = .ok (.getfield 170, 3) := by decide +kernel
theorem dX12_scrap_16 : decode cX12_scrap 16 = .ok (.aload_n 0, 1) := by decide +kernel
theorem dX12_scrap_17 : decode cX12_scrap 17 = .ok (.getfield 58, 3) := by decide +kernel
theorem dX12_scrap_20 : decode cX12_scrap 20 = .ok (.iload_n 1, 1) := by decide +kernel
theorem dX12_scrap_21 : decode cX12_scrap 21 = .ok (.laload, 1) := by decide +kernel
theorem dX12_scrap_22 : decode cX12_scrap 22 = .ok (.ladd, 1) := by decide +kernel
theorem dX12_scrap_23 : decode cX12_scrap 23 = .ok (.putfield 170, 3) := by decide +kernel
theorem dX12_scrap_26 : decode cX12_scrap 26 = .ok (.aload_n 0, 1) := by decide +kernel
theorem dX12_scrap_27 : decode cX12_scrap 27 = .ok (.getfield 58, 3) := by decide +kernel
theorem dX12_scrap_30 : decode cX12_scrap 30 = .ok (.iload_n 1, 1) := by decide +kernel
theorem dX12_scrap_31 : decode cX12_scrap 31 = .ok (.lconst 0, 1) := by decide +kernel
theorem dX12_scrap_32 : decode cX12_scrap 32 = .ok (.lastore, 1) := by decide +kernel
theorem dX12_scrap_33 : decode cX12_scrap 33 = .ok (.iconst 1, 1) := by decide +kernel
theorem dX12_scrap_34 : decode cX12_scrap 34 = .ok (.ireturn, 1) := by decide +kernel
theorem dX12_ready_0 : decode cX12_ready 0 = .ok (.iload_n 1, 1) := by decide +kernel
theorem dX12_ready_1 : decode cX12_ready 1 = .ok (.iconst 0, 1) := by decide +kernel
theorem dX12_ready_2 : decode cX12_ready 2 = .ok (.iconst 3, 1) := by decide +kernel
theorem dX12_ready_3 : decode cX12_ready 3 = .ok (.invokestatic 123, 3) := by decide +kernel
theorem dX12_ready_6 : decode cX12_ready 6 = .ok (.ifCond .eq 12, 3) := by decide +kernel
theorem dX12_ready_9 : decode cX12_ready 9 = .ok (.aload_n 0, 1) := by decide +kernel
theorem dX12_ready_10 : decode cX12_ready 10 = .ok (.getfield 34, 3) := by decide +kernel
theorem dX12_ready_13 : decode cX12_ready 13 = .ok (.iload_n 1, 1) := by decide +kernel
theorem dX12_ready_14 : decode cX12_ready 14 = .ok (.iaload, 1) := by decide +kernel
theorem dX12_ready_15 : decode cX12_ready 15 = .ok (.goto 5, 3) := by decide +kernel
theorem dX12_ready_18 : decode cX12_ready 18 = .ok (.bipush (-2), 2) := by decide +kernel
theorem dX12_ready_20 : decode cX12_ready 20 = .ok (.ireturn, 1) := by decide +kernel
theorem dX12_findCost_0 : decode cX12_findCost 0 = .ok (.aload_n 0, 1) := by decide +kernel
theorem dX12_findCost_1 : decode cX12_findCost 1 = .ok (.getfield 99, 3) := by decide +kernel
theorem dX12_findCost_4 : decode cX12_findCost 4 = .ok (.iload 4, 2) := by decide +kernel
theorem dX12_findCost_6 : decode cX12_findCost 6 = .ok (.iaload, 1) := by decide +kernel
theorem dX12_findCost_7 : decode cX12_findCost 7 = .ok (.iload 5, 2) := by decide +kernel
theorem dX12_findCost_9 : decode cX12_findCost 9 = .ok (.if_icmp .lt 19, 3) := by decide +kernel
theorem dX12_findCost_12 : decode cX12_findCost 12 = .ok (.aload_n 0, 1) := by decide +kernel
theorem dX12_findCost_13 : decode cX12_findCost 13 = .ok (.getfield 99, 3) := by decide +kernel
theorem dX12_findCost_16 : decode cX12_findCost 16 = .ok (.iload 4, 2) := by decide +kernel
theorem dX12_findCost_18 : decode cX12_findCost 18 = .ok (.iaload, 1) := by decide +kernel
theorem dX12_findCost_19 : decode cX12_findCost 19 = .ok (.iload 6, 2) := by decide +kernel
theorem dX12_findCost_21 : decode cX12_findCost 21 = .ok (.if_icmp .gt 7, 3) := by decide +kernel
theorem dX12_findCost_24 : decode cX12_findCost 24 = .ok (.iconst 1, 1) := by decide +kernel
theorem dX12_findCost_25 : decode cX12_findCost 25 = .ok (.goto 4, 3) := by decide +kernel
theorem dX12_findCost_28 : decode cX12_findCost 28 = .ok (.iconst 0, 1) := by decide +kernel
theorem dX12_findCost_29 : decode cX12_findCost 29 = .ok (.istore 7, 2) := by decide +kernel
theorem dX12_findCost_31 : decode cX12_findCost 31 = .ok (.iconst 0, 1) := by decide +kernel
theorem dX12_findCost_32 : decode cX12_findCost 32 = .ok (.istore 8, 2) := by decide +kernel
theorem dX12_findCost_34 : decode cX12_findCost 34 = .ok (.iload 8, 2) := by decide +kernel
theorem dX12_findCost_36 : decode cX12_findCost 36 = .ok (.bipush 100, 2) := by decide +kernel
theorem dX12_findCost_38 : decode cX12_findCost 38 = .ok (.if_icmp .gt 232, 3) := by decide +kernel
theorem dX12_findCost_41 : decode cX12_findCost 41 = .ok (.iload 7, 2) := by decide +kernel
theorem dX12_findCost_43 : decode cX12_findCost 43 = .ok (.ifCond .eq 7, 3) := by decide +kernel
theorem dX12_findCost_46 : decode cX12_findCost 46 = .ok (.iconst 0, 1) := by decide +kernel
theorem dX12_findCost_47 : decode cX12_findCost 47 = .ok (.goto 5, 3) := by decide +kernel
theorem dX12_findCost_50 : decode cX12_findCost 50 = .ok (.ldc 225, 2) := by decide +kernel
theorem dX12_findCost_52 : decode cX12_findCost 52 = .ok (.istore 9, 2) := by decide +kernel
theorem dX12_findCost_54 : decode cX12_findCost 54 = .ok (.iconst (-1), 1) := by decide +kernel
theorem dX12_findCost_55 : decode cX12_findCost 55 = .ok (.istore 10, 2) := by decide +kernel
theorem dX12_findCost_57 : decode cX12_findCost 57 = .ok (.iconst 0, 1) := by decide +kernel
theorem dX12_findCost_58 : decode cX12_findCost 58 = .ok (.istore 11, 2) := by decide +kernel
theorem dX12_findCost_60 : decode cX12_findCost 60 = .ok (.iload 11, 2) := by decide +kernel
theorem dX12_findCost_62 : decode cX12_findCost 62 = .ok (.aload_n 0, 1) := by decide +kernel
theorem dX12_findCost_63 : decode cX12_findCost 63 = .ok (.getfield 37, 3) := by decide +kernel
theorem dX12_findCost_66 : decode cX12_findCost 66 = .ok (.iload_n 2, 1) := by decide +kernel
theorem dX12_findCost_67 : decode cX12_findCost 67 = .ok (.iaload, 1) := by decide +kernel
theorem dX12_findCost_68 : decode cX12_findCost 68 = .ok (.if_icmp .ge 117, 3) := by decide +kernel
theorem dX12_findCost_71 : decode cX12_findCost 71 = .ok (.iload 7, 2) := by decide +kernel
theorem dX12_findCost_73 : decode cX12_findCost 73 = .ok (.ifCond .ne 112, 3) := by decide +kernel
theorem dX12_findCost_76 : decode cX12_findCost 76 = .ok (.bipush 8, 2) := by decide +kernel
theorem dX12_findCost_78 : decode cX12_findCost 78 = .ok (.iload_n 2, 1) := by decide +kernel
theorem dX12_findCost_79 : decode cX12_findCost 79 = .ok (.imul, 1) := by decide +kernel
theorem dX12_findCost_80 : decode cX12_findCost 80 = .ok (.iload 11, 2) := by decide +kernel
theorem dX12_findCost_82 : decode cX12_findCost 82 = .ok (.iadd, 1) := by decide +kernel
theorem dX12_findCost_83 : decode cX12_findCost 83 = .ok (.istore 12, 2) := by decide +kernel
theorem dX12_findCost_85 : decode cX12_findCost 85 = .ok (.aload_n 0, 1) := by decide +kernel
theorem dX12_findCost_86 : decode cX12_findCost 86 = .ok (.iload_n 1, 1) := by decide +kernel
theorem dX12_findCost_87 : decode cX12_findCost 87 = .ok (.aload_n 0, 1) := by decide +kernel
theorem dX12_findCost_88 : decode cX12_findCost 88 = .ok (.getfield 99, 3) := by decide +kernel
theorem dX12_findCost_91 : decode cX12_findCost 91 = .ok (.iload 4, 2) := by decide +kernel
theorem dX12_findCost_93 : decode cX12_findCost 93 = .ok (.iaload, 1) := by decide +kernel
theorem dX12_findCost_94 : decode cX12_findCost 94 = .ok (.iload 8, 2) := by decide +kernel
theorem dX12_findCost_96 : decode cX12_findCost 96 = .ok (.iload 12, 2) := by decide +kernel
theorem dX12_findCost_98 : decode cX12_findCost 98 = .ok (.iload_n 3, 1) := by decide +kernel
theorem dX12_findCost_99 : decode cX12_findCost 99 = .ok (.invokevirtual 206, 3) := by decide +kernel
theorem dX12_findCost_102 : decode cX12_findCost 102 = .ok (.iconst 1, 1) := by decide +kernel
theorem dX12_findCost_103 : decode cX12_findCost 103 = .ok (.if_icmp .ne 76, 3) := by decide +kernel
theorem dX12_findCost_106 : decode cX12_findCost 106 = .ok (.iconst 1, 1) := by decide +kernel
theorem dX12_findCost_107 : decode cX12_findCost 107 = .ok (.aload_n 0, 1) := by decide +kernel
theorem dX12_findCost_108 : decode cX12_findCost 108 = .ok (.getfield 93, 3) := by decide +kernel
theorem dX12_findCost_111 : decode cX12_findCost 111 = .ok (.bipush 101, 2) := by decide +kernel
theorem dX12_findCost_113 : decode cX12_findCost 113 = .ok (.iload 11, 2) := by decide +kernel
theorem dX12_findCost_115 : decode cX12_findCost 115 = .ok (.imul, 1) := by decide +kernel
theorem dX12_findCost_116 : decode cX12_findCost 116 = .ok (.aload_n 0, 1) := by decide +kernel
theorem dX12_findCost_117 : decode cX12_findCost 117 = .ok (.aload_n 0, 1) := by decide +kernel
theorem dX12_findCost_118 : decode cX12_findCost 118 = .ok (.getfield 49, 3) := by decide +kernel
theorem dX12_findCost_121 : decode cX12_findCost 121 = .ok (.iload_n 1, 1) := by decide +kernel
theorem dX12_findCost_122 : decode cX12_findCost 122 = .ok (.iaload, 1) := by decide +kernel
theorem dX12_findCost_123 : decode cX12_findCost 123 = .ok (.aload_n 0, 1) := by decide +kernel
theorem dX12_findCost_124 : decode cX12_findCost 124 = .ok (.getfield 99, 3) := by decide +kernel
theorem dX12_findCost_127 : decode cX12_findCost 127 = .ok (.iload 4, 2) := by decide +kernel
theorem dX12_findCost_129 : decode cX12_findCost 129 = .ok (.iaload, 1) := by decide +kernel
theorem dX12_findCost_130 : decode cX12_findCost 130 = .ok (.iload 8, 2) := by decide +kernel
theorem dX12_findCost_132 : decode cX12_findCost 132 = .ok (.aload_n 0, 1) := by decide +kernel
theorem dX12_findCost_133 : decode cX12_findCost 133 = .ok (.getfield 99, 3) := by decide +kernel
theorem dX12_findCost_136 : decode cX12_findCost 136 = .ok (.iload 11, 2) := by decide +kernel
theorem dX12_findCost_138 : decode cX12_findCost 138 = .ok (.iaload, 1) := by decide +kernel
theorem dX12_findCost_139 : decode cX12_findCost 139 = .ok (.invokevirtual 186, 3) := by decide +kernel
theorem dX12_findCost_142 : decode cX12_findCost 142 = .ok (.iadd, 1) := by decide +kernel
theorem dX12_findCost_143 : decode cX12_findCost 143 = .ok (.iaload, 1) := by decide +kernel
theorem dX12_findCost_144 : decode cX12_findCost 144 = .ok (.iadd, 1) := by decide +kernel
theorem dX12_findCost_145 : decode cX12_findCost 145 = .ok (.istore 13, 2) := by decide +kernel
theorem dX12_findCost_147 : decode cX12_findCost 147 = .ok (.iload 13, 2) := by decide +kernel
theorem dX12_findCost_149 : decode cX12_findCost 149 = .ok (.iload 9, 2) := by decide +kernel
theorem dX12_findCost_151 : decode cX12_findCost 151 = .ok (.if_icmp .ge 8, 3) := by decide +kernel
theorem dX12_findCost_154 : decode cX12_findCost 154 = .ok (.iload 11, 2) := by decide +kernel
theorem dX12_findCost_156 : decode cX12_findCost 156 = .ok (.goto 5, 3) := by decide +kernel
theorem dX12_findCost_159 : decode cX12_findCost 159 = .ok (.iload 10, 2) := by decide +kernel
theorem dX12_findCost_161 : decode cX12_findCost 161 = .ok (.istore 10, 2) := by decide +kernel
theorem dX12_findCost_163 : decode cX12_findCost 163 = .ok (.iload 13, 2) := by decide +kernel
theorem dX12_findCost_165 : decode cX12_findCost 165 = .ok (.iload 9, 2) := by decide +kernel
theorem dX12_findCost_167 : decode cX12_findCost 167 = .ok (.if_icmp .ge 8, 3) := by decide +kernel
theorem dX12_findCost_170 : decode cX12_findCost 170 = .ok (.iload 13, 2) := by decide +kernel
theorem dX12_findCost_172 : decode cX12_findCost 172 = .ok (.goto 5, 3) := by decide +kernel
theorem dX12_findCost_175 : decode cX12_findCost 175 = .ok (.iload 9, 2) := by decide +kernel
theorem dX12_findCost_177 : decode cX12_findCost 177 = .ok (.istore 9, 2) := by decide +kernel
theorem dX12_findCost_179 : decode cX12_findCost 179 = .ok (.iinc 11 1, 3) := by decide +kernel
theorem dX12_findCost_182 : decode cX12_findCost 182 = .ok (.goto (-122), 3) := by decide +kernel
theorem dX12_findCost_185 : decode cX12_findCost 185 = .ok (.iload 8, 2) := by decide +kernel
theorem dX12_findCost_187 : decode cX12_findCost 187 = .ok (.ifCond .le 47, 3) := by decide +kernel
theorem dX12_findCost_190 : decode cX12_findCost 190 = .ok (.iload 7, 2) := by decide +kernel
theorem dX12_findCost_192 : decode cX12_findCost 192 = .ok (.ifCond .ne 42, 3) := by decide +kernel
theorem dX12_findCost_195 : decode cX12_findCost 195 = .ok (.sipush 1000, 3) := by decide +kernel
theorem dX12_findCost_198 : decode cX12_findCost 198 = .ok (.aload_n 0, 1) := by decide +kernel
theorem dX12_findCost_199 : decode cX12_findCost 199 = .ok (.getfield 93, 3) := by decide +kernel
theorem dX12_findCost_202 : decode cX12_findCost 202 = .ok (.bipush 101, 2) := by decide +kernel
theorem dX12_findCost_204 : decode cX12_findCost 204 = .ok (.iload 4, 2) := by decide +kernel
theorem dX12_findCost_206 : decode cX12_findCost 206 = .ok (.imul, 1) := by decide +kernel
theorem dX12_findCost_207 : decode cX12_findCost 207 = .ok (.iaload, 1) := by decide +kernel
theorem dX12_findCost_208 : decode cX12_findCost 208 = .ok (.iadd, 1) := by decide +kernel
theorem dX12_findCost_209 : decode cX12_findCost 209 = .ok (.iload 9, 2) := by decide +kernel
theorem dX12_findCost_211 : decode cX12_findCost 211 = .ok (.if_icmp .ge 23, 3) := by decide +kernel
theorem dX12_findCost_214 : decode cX12_findCost 214 = .ok (.sipush 1000, 3) := by decide +kernel
theorem dX12_findCost_217 : decode cX12_findCost 217 = .ok (.aload_n 0, 1) := by decide +kernel
theorem dX12_findCost_218 : decode cX12_findCost 218 = .ok (.getfield 93, 3) := by decide +kernel
theorem dX12_findCost_221 : decode cX12_findCost 221 = .ok (.bipush 101, 2) := by decide +kernel
theorem dX12_findCost_223 : decode cX12_findCost 223 = .ok (.iload 4, 2) := by decide +kernel
theorem dX12_findCost_225 : decode cX12_findCost 225 = .ok (.imul, 1) := by decide +kernel
theorem dX12_findCost_226 : decode cX12_findCost 226 = .ok (.iaload, 1) := by decide +kernel
theorem dX12_findCost_227 : decode cX12_findCost 227 = .ok (.iadd, 1) := by decide +kernel
theorem dX12_findCost_228 : decode cX12_findCost 228 = .ok (.istore 9, 2) := by decide +kernel
theorem dX12_findCost_230 : decode cX12_findCost 230 = .ok (.bipush 8, 2) := by decide +kernel
theorem dX12_findCost_232 : decode cX12_findCost 232 = .ok (.istore 10, 2) := by decide +kernel
theorem dX12_findCost_234 : decode cX12_findCost 234 = .ok (.aload_n 0, 1) := by decide +kernel
theorem dX12_findCost_235 : decode cX12_findCost 235 = .ok (.getfield 93, 3) := by decide +kernel
theorem dX12_findCost_238 : decode cX12_findCost 238 = .ok (.bipush 101, 2) := by decide +kernel
theorem dX12_findCost_240 : decode cX12_findCost 240 = .ok (.iload 4, 2) := by decide +kernel
theorem dX12_findCost_242 : decode cX12_findCost 242 = .ok (.imul, 1) := by decide +kernel
theorem dX12_findCost_243 : decode cX12_findCost 243 = .ok (.iload 8, 2) := by decide +kernel
theorem dX12_findCost_245 : decode cX12_findCost 245 = .ok (.iadd, 1) := by decide +kernel
theorem dX12_findCost_246 : decode cX12_findCost 246 = .ok (.iload 9, 2) := by decide +kernel
theorem dX12_findCost_248 : decode cX12_findCost 248 = .ok (.iastore, 1) := by decide +kernel
theorem dX12_findCost_249 : decode cX12_findCost 249 = .ok (.aload_n 0, 1) := by decide +kernel
theorem dX12_findCost_250 : decode cX12_findCost 250 = .ok (.getfield 96, 3) := by decide +kernel
theorem dX12_findCost_253 : decode cX12_findCost 253 = .ok (.bipush 101, 2) := by decide +kernel
theorem dX12_findCost_255 : decode cX12_findCost 255 = .ok (.iload 4, 2) := by decide +kernel
theorem dX12_findCost_257 : decode cX12_findCost 257 = .ok (.imul, 1) := by decide +kernel
theorem dX12_findCost_258 : decode cX12_findCost 258 = .ok (.iload 8, 2) := by decide +kernel
theorem dX12_findCost_260 : decode cX12_findCost 260 = .ok (.iadd, 1) := by decide +kernel
theorem dX12_findCost_261 : decode cX12_findCost 261 = .ok (.iload 10, 2) := by decide +kernel
theorem dX12_findCost_263 : decode cX12_findCost 263 = .ok (.iastore, 1) := by decide +kernel
theorem dX12_findCost_264 : decode cX12_findCost 264 = .ok (.iinc 8 1, 3) := by decide +kernel
theorem dX12_findCost_267 : decode cX12_findCost 267 = .ok (.goto (-233), 3) := by decide +kernel
theorem dX12_findCost_270 : decode cX12_findCost 270 = .ok (.return_, 1) := by decide +kernel
theorem dX12_findWay_0 : decode cX12_findWay 0 = .ok (.aload_n 0, 1) := by decide +kernel
theorem dX12_findWay_1 : decode cX12_findWay 1 = .ok (.getfield 37, 3) := by decide +kernel
theorem dX12_findWay_4 : decode cX12_findWay 4 = .ok (.iload_n 2, 1) := by decide +kernel
theorem dX12_findWay_5 : decode cX12_findWay 5 = .ok (.iaload, 1) := by decide +kernel
theorem dX12_findWay_6 : decode cX12_findWay 6 = .ok (.istore 6, 2) := by decide +kernel
theorem dX12_findWay_8 : decode cX12_findWay 8 = .ok (.iconst 0, 1) := by decide +kernel
theorem dX12_findWay_9 : decode cX12_findWay 9 = .ok (.istore 7, 2) := by decide +kernel
theorem dX12_findWay_11 : decode cX12_findWay 11 = .ok (.iload 7, 2) := by decide +kernel
theorem dX12_findWay_13 : decode cX12_findWay 13 = .ok (.iload 6, 2) := by decide +kernel
theorem dX12_findWay_15 : decode cX12_findWay 15 = .ok (.if_icmp .ge 35, 3) := by decide +kernel
theorem dX12_findWay_18 : decode cX12_findWay 18 = .ok (.aload_n 0, 1) := by decide +kernel
theorem dX12_findWay_19 : decode cX12_findWay 19 = .ok (.getfield 99, 3) := by decide +kernel
theorem dX12_findWay_22 : decode cX12_findWay 22 = .ok (.iload 7, 2) := by decide +kernel
theorem dX12_findWay_24 : decode cX12_findWay 24 = .ok (.aload_n 0, 1) := by decide +kernel
theorem dX12_findWay_25 : decode cX12_findWay 25 = .ok (.bipush 8, 2) := by decide +kernel
theorem dX12_findWay_27 : decode cX12_findWay 27 = .ok (.iload_n 2, 1) := by decide +kernel
theorem dX12_findWay_28 : decode cX12_findWay 28 = .ok (.imul, 1) := by decide +kernel
theorem dX12_findWay_29 : decode cX12_findWay 29 = .ok (.iload 7, 2) := by decide +kernel
theorem dX12_findWay_31 : decode cX12_findWay 31 = .ok (.iadd, 1) := by decide +kernel
theorem dX12_findWay_32 : decode cX12_findWay 32 = .ok (.invokevirtual 149, 3) := by decide +kernel
theorem dX12_findWay_35 : decode cX12_findWay 35 = .ok (.iastore, 1) := by decide +kernel
theorem dX12_findWay_36 : decode cX12_findWay 36 = .ok (.aload_n 0, 1) := by decide +kernel
theorem dX12_findWay_37 : decode cX12_findWay 37 = .ok (.getfield 102, 3) := by decide +kernel
theorem dX12_findWay_40 : decode cX12_findWay 40 = .ok (.iload 7, 2) := by decide +kernel
theorem dX12_findWay_42 : decode cX12_findWay 42 = .ok (.iconst 0, 1) := by decide +kernel
theorem dX12_findWay_43 : decode cX12_findWay 43 = .ok (.bastore, 1) := by decide +kernel
theorem dX12_findWay_44 : decode cX12_findWay 44 = .ok (.iinc 7 1, 3) := by decide +kernel
theorem dX12_findWay_47 : decode cX12_findWay 47 = .ok (.goto (-36), 3) := by decide +kernel
theorem dX12_findWay_50 : decode cX12_findWay 50 = .ok (.iconst 0, 1) := by decide +kernel
theorem dX12_findWay_51 : decode cX12_findWay 51 = .ok (.istore 7, 2) := by decide +kernel
theorem dX12_findWay_53 : decode cX12_findWay 53 = .ok (.iload 7, 2) := by decide +kernel
theorem dX12_findWay_55 : decode cX12_findWay 55 = .ok (.iload 6, 2) := by decide +kernel
theorem dX12_findWay_57 : decode cX12_findWay 57 = .ok (.if_icmp .ge 91, 3) := by decide +kernel
theorem dX12_findWay_60 : decode cX12_findWay 60 = .ok (.iconst (-1), 1) := by decide +kernel
theorem dX12_findWay_61 : decode cX12_findWay 61 = .ok (.istore 8, 2) := by decide +kernel
theorem dX12_findWay_63 : decode cX12_findWay 63 = .ok (.iconst 0, 1) := by decide +kernel
theorem dX12_findWay_64 : decode cX12_findWay 64 = .ok (.istore 9, 2) := by decide +kernel
theorem dX12_findWay_66 : decode cX12_findWay 66 = .ok (.iload 9, 2) := by decide +kernel
theorem dX12_findWay_68 : decode cX12_findWay 68 = .ok (.iload 6, 2) := by decide +kernel
theorem dX12_findWay_70 : decode cX12_findWay 70 = .ok (.if_icmp .ge 51, 3) := by decide +kernel
theorem dX12_findWay_73 : decode cX12_findWay 73 = .ok (.aload_n 0, 1) := by decide +kernel
theorem dX12_findWay_74 : decode cX12_findWay 74 = .ok (.getfield 102, 3) := by decide +kernel
theorem dX12_findWay_77 : decode cX12_findWay 77 = .ok (.iload 9, 2) := by decide +kernel
theorem dX12_findWay_79 : decode cX12_findWay 79 = .ok (.baload, 1) := by decide +kernel
theorem dX12_findWay_80 : decode cX12_findWay 80 = .ok (.ifCond .ne 31, 3) := by decide +kernel
theorem dX12_findWay_83 : decode cX12_findWay 83 = .ok (.iload 8, 2) := by decide +kernel
theorem dX12_findWay_85 : decode cX12_findWay 85 = .ok (.iconst (-1), 1) := by decide +kernel
theorem dX12_findWay_86 : decode cX12_findWay 86 = .ok (.if_icmp .eq 20, 3) := by decide +kernel
theorem dX12_findWay_89 : decode cX12_findWay 89 = .ok (.aload_n 0, 1) := by decide +kernel
theorem dX12_findWay_90 : decode cX12_findWay 90 = .ok (.getfield 99, 3) := by decide +kernel
theorem dX12_findWay_93 : decode cX12_findWay 93 = .ok (.iload 9, 2) := by decide +kernel
theorem dX12_findWay_95 : decode cX12_findWay 95 = .ok (.iaload, 1) := by decide +kernel
theorem dX12_findWay_96 : decode cX12_findWay 96 = .ok (.aload_n 0, 1) := by decide +kernel
theorem dX12_findWay_97 : decode cX12_findWay 97 = .ok (.getfield 99, 3) := by decide +kernel
theorem dX12_findWay_100 : decode cX12_findWay 100 = .ok (.iload 8, 2) := by decide +kernel
theorem dX12_findWay_102 : decode cX12_findWay 102 = .ok (.iaload, 1) := by decide +kernel
theorem dX12_findWay_103 : decode cX12_findWay 103 = .ok (.if_icmp .ge 8, 3) := by decide +kernel
theorem dX12_findWay_106 : decode cX12_findWay 106 = .ok (.iload 9, 2) := by decide +kernel
theorem dX12_findWay_108 : decode cX12_findWay 108 = .ok (.goto 5, 3) := by decide +kernel
theorem dX12_findWay_111 : decode cX12_findWay 111 = .ok (.iload 8, 2) := by decide +kernel
theorem dX12_findWay_113 : decode cX12_findWay 113 = .ok (.istore 8, 2) := by decide +kernel
theorem dX12_findWay_115 : decode cX12_findWay 115 = .ok (.iinc 9 1, 3) := by decide +kernel
theorem dX12_findWay_118 : decode cX12_findWay 118 = .ok (.goto (-52), 3) := by decide +kernel
theorem dX12_findWay_121 : decode cX12_findWay 121 = .ok (.aload_n 0, 1) := by decide +kernel
theorem dX12_findWay_122 : decode cX12_findWay 122 = .ok (.iload_n 1, 1) := by decide +kernel
theorem dX12_findWay_123 : decode cX12_findWay 123 = .ok (.iload_n 2, 1) := by decide +kernel
theorem dX12_findWay_124 : decode cX12_findWay 124 = .ok (.iload_n 3, 1) := by decide +kernel
theorem dX12_findWay_125 : decode cX12_findWay 125 = .ok (.iload 8, 2) := by decide +kernel
theorem dX12_findWay_127 : decode cX12_findWay 127 = .ok (.iload 4, 2) := by decide +kernel
theorem dX12_findWay_129 : decode cX12_findWay 129 = .ok (.iload 5, 2) := by decide +kernel
theorem dX12_findWay_131 : decode cX12_findWay 131 = .ok (.invokevirtual 226, 3) := by decide +kernel
theorem dX12_findWay_134 : decode cX12_findWay 134 = .ok (.aload_n 0, 1) := by decide +kernel
theorem dX12_findWay_135 : decode cX12_findWay 135 = .ok (.getfield 102, 3) := by decide +kernel
theorem dX12_findWay_138 : decode cX12_findWay 138 = .ok (.iload 8, 2) := by decide +kernel
theorem dX12_findWay_140 : decode cX12_findWay 140 = .ok (.iconst 1, 1) := by decide +kernel
theorem dX12_findWay_141 : decode cX12_findWay 141 = .ok (.bastore, 1) := by decide +kernel
theorem dX12_findWay_142 : decode cX12_findWay 142 = .ok (.iinc 7 1, 3) := by decide +kernel
theorem dX12_findWay_145 : decode cX12_findWay 145 = .ok (.goto (-92), 3) := by decide +kernel
theorem dX12_findWay_148 : decode cX12_findWay 148 = .ok (.aload_n 0, 1) := by decide +kernel
theorem dX12_findWay_149 : decode cX12_findWay 149 = .ok (.getfield 99, 3) := by decide +kernel
theorem dX12_findWay_152 : decode cX12_findWay 152 = .ok (.bipush 8, 2) := by decide +kernel
theorem dX12_findWay_154 : decode cX12_findWay 154 = .ok (.aload_n 0, 1) := by decide +kernel
theorem dX12_findWay_155 : decode cX12_findWay 155 = .ok (.getfield 52, 3) := by decide +kernel
theorem dX12_findWay_158 : decode cX12_findWay 158 = .ok (.iload_n 1, 1) := by decide +kernel
theorem dX12_findWay_159 : decode cX12_findWay 159 = .ok (.iaload, 1) := by decide +kernel
theorem dX12_findWay_160 : decode cX12_findWay 160 = .ok (.iastore, 1) := by decide +kernel
theorem dX12_findWay_161 : decode cX12_findWay 161 = .ok (.aload_n 0, 1) := by decide +kernel
theorem dX12_findWay_162 : decode cX12_findWay 162 = .ok (.iload_n 1, 1) := by decide +kernel
theorem dX12_findWay_163 : decode cX12_findWay 163 = .ok (.iload_n 2, 1) := by decide +kernel
theorem dX12_findWay_164 : decode cX12_findWay 164 = .ok (.iload_n 3, 1) := by decide +kernel
theorem dX12_findWay_165 : decode cX12_findWay 165 = .ok (.bipush 8, 2) := by decide +kernel
theorem dX12_findWay_167 : decode cX12_findWay 167 = .ok (.iload 4, 2) := by decide +kernel
theorem dX12_findWay_169 : decode cX12_findWay 169 = .ok (.iload 5, 2) := by decide +kernel
theorem dX12_findWay_171 : decode cX12_findWay 171 = .ok (.invokevirtual 226, 3) := by decide +kernel
theorem dX12_findWay_174 : decode cX12_findWay 174 = .ok (.bipush 8, 2) := by decide +kernel
theorem dX12_findWay_176 : decode cX12_findWay 176 = .ok (.istore 7, 2) := by decide +kernel
theorem dX12_findWay_178 : decode cX12_findWay 178 = .ok (.aload_n 0, 1) := by decide +kernel
theorem dX12_findWay_179 : decode cX12_findWay 179 = .ok (.getfield 55, 3) := by decide +kernel
theorem dX12_findWay_182 : decode cX12_findWay 182 = .ok (.iload_n 1, 1) := by decide +kernel
theorem dX12_findWay_183 : decode cX12_findWay 183 = .ok (.iaload, 1) := by decide +kernel
theorem dX12_findWay_184 : decode cX12_findWay 184 = .ok (.istore 8, 2) := by decide +kernel
theorem dX12_findWay_186 : decode cX12_findWay 186 = .ok (.aload_n 0, 1) := by decide +kernel
theorem dX12_findWay_187 : decode cX12_findWay 187 = .ok (.iconst 0, 1) := by decide +kernel
theorem dX12_findWay_188 : decode cX12_findWay 188 = .ok (.putfield 230, 3) := by decide +kernel
theorem dX12_findWay_191 : decode cX12_findWay 191 = .ok (.aload_n 0, 1) := by decide +kernel
theorem dX12_findWay_192 : decode cX12_findWay 192 = .ok (.getfield 93, 3) := by decide +kernel
theorem dX12_findWay_195 : decode cX12_findWay 195 = .ok (.sipush 808, 3) := by decide +kernel
theorem dX12_findWay_198 : decode cX12_findWay 198 = .ok (.iload 8, 2) := by decide +kernel
theorem dX12_findWay_200 : decode cX12_findWay 200 = .ok (.iadd, 1) := by decide +kernel
theorem dX12_findWay_201 : decode cX12_findWay 201 = .ok (.iaload, 1) := by decide +kernel
theorem dX12_findWay_202 : decode cX12_findWay 202 = .ok (.ldc 225, 2) := by decide +kernel
theorem dX12_findWay_204 : decode cX12_findWay 204 = .ok (.if_icmp .lt 5, 3) := by decide +kernel
theorem dX12_findWay_207 : decode cX12_findWay 207 = .ok (.iconst 0, 1) := by decide +kernel
theorem dX12_findWay_208 : decode cX12_findWay 208 = .ok (.ireturn, 1) := by decide +kernel
theorem dX12_findWay_209 : decode cX12_findWay 209 = .ok (.aload_n 0, 1) := by decide +kernel
theorem dX12_findWay_210 : decode cX12_findWay 210 = .ok (.getfield 96, 3) := by decide +kernel
theorem dX12_findWay_213 : decode cX12_findWay 213 = .ok (.bipush 101, 2) := by decide +kernel
theorem dX12_findWay_215 : decode cX12_findWay 215 = .ok (.iload 7, 2) := by decide +kernel
theorem dX12_findWay_217 : decode cX12_findWay 217 = .ok (.imul, 1) := by decide +kernel
theorem dX12_findWay_218 : decode cX12_findWay 218 = .ok (.iload 8, 2) := by decide +kernel
theorem dX12_findWay_220 : decode cX12_findWay 220 = .ok (.iadd, 1) := by decide +kernel
theorem dX12_findWay_221 : decode cX12_findWay 221 = .ok (.iaload, 1) := by decide +kernel
theorem dX12_findWay_222 : decode cX12_findWay 222 = .ok (.iconst (-1), 1) := by decide +kernel
theorem dX12_findWay_223 : decode cX12_findWay 223 = .ok (.if_icmp .eq 97, 3) := by decide +kernel
theorem dX12_findWay_226 : decode cX12_findWay 226 = .ok (.aload_n 0, 1) := by decide +kernel
theorem dX12_findWay_227 : decode cX12_findWay 227 = .ok (.getfield 96, 3) := by decide +kernel
theorem dX12_findWay_230 : decode cX12_findWay 230 = .ok (.bipush 101, 2) := by decide +kernel
theorem dX12_findWay_232 : decode cX12_findWay 232 = .ok (.iload 7, 2) := by decide +kernel
theorem dX12_findWay_234 : decode cX12_findWay 234 = .ok (.imul, 1) := by decide +kernel
theorem dX12_findWay_235 : decode cX12_findWay 235 = .ok (.iload 8, 2) := by decide +kernel
theorem dX12_findWay_237 : decode cX12_findWay 237 = .ok (.iadd, 1) := by decide +kernel
theorem dX12_findWay_238 : decode cX12_findWay 238 = .ok (.iaload, 1) := by decide +kernel
theorem dX12_findWay_239 : decode cX12_findWay 239 = .ok (.istore 9, 2) := by decide +kernel
theorem dX12_findWay_241 : decode cX12_findWay 241 = .ok (.aload_n 0, 1) := by decide +kernel
theorem dX12_findWay_242 : decode cX12_findWay 242 = .ok (.getfield 105, 3) := by decide +kernel
theorem dX12_findWay_245 : decode cX12_findWay 245 = .ok (.aload_n 0, 1) := by decide +kernel
theorem dX12_findWay_246 : decode cX12_findWay 246 = .ok (.getfield 230, 3) := by decide +kernel
theorem dX12_findWay_249 : decode cX12_findWay 249 = .ok (.iload 9, 2) := by decide +kernel
theorem dX12_findWay_251 : decode cX12_findWay 251 = .ok (.iastore, 1) := by decide +kernel
theorem dX12_findWay_252 : decode cX12_findWay 252 = .ok (.aload_n 0, 1) := by decide +kernel
theorem dX12_findWay_253 : decode cX12_findWay 253 = .ok (.dup, 1) := by decide +kernel
theorem dX12_findWay_254 : decode cX12_findWay 254 = .ok (.getfield 230, 3) := by decide +kernel
theorem dX12_findWay_257 : decode cX12_findWay 257 = .ok (.iconst 1, 1) := by decide +kernel
theorem dX12_findWay_258 : decode cX12_findWay 258 = .ok (.iadd, 1) := by decide +kernel
theorem dX12_findWay_259 : decode cX12_findWay 259 = .ok (.putfield 230, 3) := by decide +kernel
theorem dX12_findWay_262 : decode cX12_findWay 262 = .ok (.iload 9, 2) := by decide +kernel
theorem dX12_findWay_264 : decode cX12_findWay 264 = .ok (.bipush 8, 2) := by decide +kernel
theorem dX12_findWay_266 : decode cX12_findWay 266 = .ok (.if_icmp .ne 7, 3) := by decide +kernel
theorem dX12_findWay_269 : decode cX12_findWay 269 = .ok (.iconst 0, 1) := by decide +kernel
theorem dX12_findWay_270 : decode cX12_findWay 270 = .ok (.goto 29, 3) := by decide +kernel
theorem dX12_findWay_273 : decode cX12_findWay 273 = .ok (.aload_n 0, 1) := by decide +kernel
theorem dX12_findWay_274 : decode cX12_findWay 274 = .ok (.aload_n 0, 1) := by decide +kernel
theorem dX12_findWay_275 : decode cX12_findWay 275 = .ok (.getfield 49, 3) := by decide +kernel
theorem dX12_findWay_278 : decode cX12_findWay 278 = .ok (.iload_n 1, 1) := by decide +kernel
theorem dX12_findWay_279 : decode cX12_findWay 279 = .ok (.iaload, 1) := by decide +kernel
theorem dX12_findWay_280 : decode cX12_findWay 280 = .ok (.aload_n 0, 1) := by decide +kernel
theorem dX12_findWay_281 : decode cX12_findWay 281 = .ok (.getfield 99, 3) := by decide +kernel
theorem dX12_findWay_284 : decode cX12_findWay 284 = .ok (.iload 7, 2) := by decide +kernel
theorem dX12_findWay_286 : decode cX12_findWay 286 = .ok (.iaload, 1) := by decide +kernel
theorem dX12_findWay_287 : decode cX12_findWay 287 = .ok (.iload 8, 2) := by decide +kernel
theorem dX12_findWay_289 : decode cX12_findWay 289 = .ok (.aload_n 0, 1) := by decide +kernel
theorem dX12_findWay_290 : decode cX12_findWay 290 = .ok (.getfield 99, 3) := by decide +kernel
theorem dX12_findWay_293 : decode cX12_findWay 293 = .ok (.iload 9, 2) := by decide +kernel
theorem dX12_findWay_295 : decode cX12_findWay 295 = .ok (.iaload, 1) := by decide +kernel
theorem dX12_findWay_296 : decode cX12_findWay 296 = .ok (.invokevirtual 186, 3) := by decide +kernel
theorem dX12_findWay_299 : decode cX12_findWay 299 = .ok (.istore 8, 2) := by decide +kernel
theorem dX12_findWay_301 : decode cX12_findWay 301 = .ok (.iload 9, 2) := by decide +kernel
theorem dX12_findWay_303 : decode cX12_findWay 303 = .ok (.bipush 8, 2) := by decide +kernel
theorem dX12_findWay_305 : decode cX12_findWay 305 = .ok (.if_icmp .ne 8, 3) := by decide +kernel
theorem dX12_findWay_308 : decode cX12_findWay 308 = .ok (.iload 7, 2) := by decide +kernel
theorem dX12_findWay_310 : decode cX12_findWay 310 = .ok (.goto 5, 3) := by decide +kernel
theorem dX12_findWay_313 : decode cX12_findWay 313 = .ok (.iload 9, 2) := by decide +kernel
theorem dX12_findWay_315 : decode cX12_findWay 315 = .ok (.istore 7, 2) := by decide +kernel
theorem dX12_findWay_317 : decode cX12_findWay 317 = .ok (.goto (-108), 3) := by decide +kernel
theorem dX12_findWay_320 : decode cX12_findWay 320 = .ok (.iconst 1, 1) := by decide +kernel
theorem dX12_findWay_321 : decode cX12_findWay 321 = .ok (.ireturn, 1) := by decide +kernel
theorem dX12_wrong_0 : decode cX12_wrong 0 = .ok (.aload_n 0, 1) := by decide +kernel
theorem dX12_wrong_1 : decode cX12_wrong 1 = .ok (.iload_n 1, 1) := by decide +kernel
theorem dX12_wrong_2 : decode cX12_wrong 2 = .ok (.invokevirtual 173, 3) := by decide +kernel
theorem dX12_wrong_5 : decode cX12_wrong 5 = .ok (.ifCond .eq 19, 3) := by decide +kernel
theorem dX12_wrong_8 : decode cX12_wrong 8 = .ok (.iload_n 2, 1) := by decide +kernel
theorem dX12_wrong_9 : decode cX12_wrong 9 = .ok (.iconst 0, 1) := by decide +kernel
theorem dX12_wrong_10 : decode cX12_wrong 10 = .ok (.iconst 3, 1) := by decide +kernel
theorem dX12_wrong_11 : decode cX12_wrong 11 = .ok (.invokestatic 123, 3) := by decide +kernel
theorem dX12_wrong_14 : decode cX12_wrong 14 = .ok (.ifCond .eq 10, 3) := by decide +kernel
theorem dX12_wrong_17 : decode cX12_wrong 17 = .ok (.iload_n 3, 1) := by decide +kernel
theorem dX12_wrong_18 : decode cX12_wrong 18 = .ok (.invokestatic 142, 3) := by decide +kernel
theorem dX12_wrong_21 : decode cX12_wrong 21 = .ok (.ifCond .ne 6, 3) := by decide +kernel
theorem dX12_wrong_24 : decode cX12_wrong 24 = .ok (.bipush (-2), 2) := by decide +kernel
theorem dX12_wrong_26 : decode cX12_wrong 26 = .ok (.ireturn, 1) := by decide +kernel
theorem dX12_wrong_27 : decode cX12_wrong 27 = .ok (.iload 4, 2) := by decide +kernel
theorem dX12_wrong_29 : decode cX12_wrong 29 = .ok (.invokestatic 146, 3) := by decide +kernel
theorem dX12_wrong_32 : decode cX12_wrong 32 = .ok (.ifCond .eq 22, 3) := by decide +kernel
theorem dX12_wrong_35 : decode cX12_wrong 35 = .ok (.iload 5, 2) := by decide +kernel
theorem dX12_wrong_37 : decode cX12_wrong 37 = .ok (.invokestatic 146, 3) := by decide +kernel
theorem dX12_wrong_40 : decode cX12_wrong 40 = .ok (.ifCond .eq 14, 3) := by decide +kernel
theorem dX12_wrong_43 : decode cX12_wrong 43 = .ok (.iload 4, 2) := by decide +kernel
theorem dX12_wrong_45 : decode cX12_wrong 45 = .ok (.iload 5, 2) := by decide +kernel
theorem dX12_wrong_47 : decode cX12_wrong 47 = .ok (.if_icmp .gt 7, 3) := by decide +kernel
theorem dX12_wrong_50 : decode cX12_wrong 50 = .ok (.iconst 1, 1) := by decide +kernel
theorem dX12_wrong_51 : decode cX12_wrong 51 = .ok (.goto 5, 3) := by decide +kernel
theorem dX12_wrong_54 : decode cX12_wrong 54 = .ok (.bipush (-3), 2) := by decide +kernel
theorem dX12_wrong_56 : decode cX12_wrong 56 = .ok (.ireturn, 1) := by decide +kernel
theorem dX12_way_0 : decode cX12_way 0 = .ok (.aload_n 0, 1) := by decide +kernel
theorem dX12_way_1 : decode cX12_way 1 = .ok (.iload_n 1, 1) := by decide +kernel
theorem dX12_way_2 : decode cX12_way 2 = .ok (.iload_n 2, 1) := by decide +kernel
theorem dX12_way_3 : decode cX12_way 3 = .ok (.iload_n 3, 1) := by decide +kernel
theorem dX12_way_4 : decode cX12_way 4 = .ok (.iload 4, 2) := by decide +kernel
theorem dX12_way_6 : decode cX12_way 6 = .ok (.iload 5, 2) := by decide +kernel
theorem dX12_way_8 : decode cX12_way 8 = .ok (.invokevirtual 233, 3) := by decide +kernel
theorem dX12_way_11 : decode cX12_way 11 = .ok (.istore 6, 2) := by decide +kernel
theorem dX12_way_13 : decode cX12_way 13 = .ok (.iload 6, 2) := by decide +kernel
theorem dX12_way_15 : decode cX12_way 15 = .ok (.iconst 1, 1) := by decide +kernel
theorem dX12_way_16 : decode cX12_way 16 = .ok (.if_icmp .eq 6, 3) := by decide +kernel
theorem dX12_way_19 : decode cX12_way 19 = .ok (.iload 6, 2) := by decide +kernel
theorem dX12_way_21 : decode cX12_way 21 = .ok (.ireturn, 1) := by decide +kernel
theorem dX12_way_22 : decode cX12_way 22 = .ok (.aload_n 0, 1) := by decide +kernel
theorem dX12_way_23 : decode cX12_way 23 = .ok (.iload_n 1, 1) := by decide +kernel
theorem dX12_way_24 : decode cX12_way 24 = .ok (.iload_n 2, 1) := by decide +kernel
theorem dX12_way_25 : decode cX12_way 25 = .ok (.iload_n 3, 1) := by decide +kernel
theorem dX12_way_26 : decode cX12_way 26 = .ok (.iload 4, 2) := by decide +kernel
theorem dX12_way_28 : decode cX12_way 28 = .ok (.iload 5, 2) := by decide +kernel
theorem dX12_way_30 : decode cX12_way 30 = .ok (.invokevirtual 236, 3) := by decide +kernel
theorem dX12_way_33 : decode cX12_way 33 = .ok (.ifCond .ne 5, 3) := by decide +kernel
theorem dX12_way_36 : decode cX12_way 36 = .ok (.iconst (-1), 1) := by decide +kernel
theorem dX12_way_37 : decode cX12_way 37 = .ok (.ireturn, 1) := by decide +kernel
theorem dX12_way_38 : decode cX12_way 38 = .ok (.aload_n 0, 1) := by decide +kernel
theorem dX12_way_39 : decode cX12_way 39 = .ok (.getfield 93, 3) := by decide +kernel
theorem dX12_way_42 : decode cX12_way 42 = .ok (.sipush 808, 3) := by decide +kernel
theorem dX12_way_45 : decode cX12_way 45 = .ok (.aload_n 0, 1) := by decide +kernel
theorem dX12_way_46 : decode cX12_way 46 = .ok (.getfield 55, 3) := by decide +kernel
theorem dX12_way_49 : decode cX12_way 49 = .ok (.iload_n 1, 1) := by decide +kernel
theorem dX12_way_50 : decode cX12_way 50 = .ok (.iaload, 1) := by decide +kernel
theorem dX12_way_51 : decode cX12_way 51 = .ok (.iadd, 1) := by decide +kernel
theorem dX12_way_52 : decode cX12_way 52 = .ok (.iaload, 1) := by decide +kernel
theorem dX12_way_53 : decode cX12_way 53 = .ok (.istore 7, 2) := by decide +kernel
theorem dX12_way_55 : decode cX12_way 55 = .ok (.iload 7, 2) := by decide +kernel
theorem dX12_way_57 : decode cX12_way 57 = .ok (.sipush 1000, 3) := by decide +kernel
theorem dX12_way_60 : decode cX12_way 60 = .ok (.idiv, 1) := by decide +kernel
theorem dX12_way_61 : decode cX12_way 61 = .ok (.bipush 100, 2) := by decide +kernel
theorem dX12_way_63 : decode cX12_way 63 = .ok (.imul, 1) := by decide +kernel
theorem dX12_way_64 : decode cX12_way 64 = .ok (.iload 7, 2) := by decide +kernel
theorem dX12_way_66 : decode cX12_way 66 = .ok (.sipush 1000, 3) := by decide +kernel
theorem dX12_way_69 : decode cX12_way 69 = .ok (.irem, 1) := by decide +kernel
theorem dX12_way_70 : decode cX12_way 70 = .ok (.iadd, 1) := by decide +kernel
theorem dX12_way_71 : decode cX12_way 71 = .ok (.ireturn, 1) := by decide +kernel
theorem dX12_step_0 : decode cX12_step 0 = .ok (.aload_n 0, 1) := by decide +kernel
theorem dX12_step_1 : decode cX12_step 1 = .ok (.iload_n 1, 1) := by decide +kernel
theorem dX12_step_2 : decode cX12_step 2 = .ok (.iload_n 2, 1) := by decide +kernel
theorem dX12_step_3 : decode cX12_step 3 = .ok (.iload_n 3, 1) := by decide +kernel
theorem dX12_step_4 : decode cX12_step 4 = .ok (.iload 4, 2) := by decide +kernel
theorem dX12_step_6 : decode cX12_step 6 = .ok (.iload 5, 2) := by decide +kernel
theorem dX12_step_8 : decode cX12_step 8 = .ok (.invokevirtual 233, 3) := by decide +kernel
theorem dX12_step_11 : decode cX12_step 11 = .ok (.istore 7, 2) := by decide +kernel
theorem dX12_step_13 : decode cX12_step 13 = .ok (.iload 7, 2) := by decide +kernel
theorem dX12_step_15 : decode cX12_step 15 = .ok (.iconst 1, 1) := by decide +kernel
theorem dX12_step_16 : decode cX12_step 16 = .ok (.if_icmp .eq 6, 3) := by decide +kernel
theorem dX12_step_19 : decode cX12_step 19 = .ok (.iload 7, 2) := by decide +kernel
theorem dX12_step_21 : decode cX12_step 21 = .ok (.ireturn, 1) := by decide +kernel
theorem dX12_step_22 : decode cX12_step 22 = .ok (.iload 6, 2) := by decide +kernel
theorem dX12_step_24 : decode cX12_step 24 = .ok (.ifCond .ge 6, 3) := by decide +kernel
theorem dX12_step_27 : decode cX12_step 27 = .ok (.bipush (-3), 2) := by decide +kernel
theorem dX12_step_29 : decode cX12_step 29 = .ok (.ireturn, 1) := by decide +kernel
theorem dX12_step_30 : decode cX12_step 30 = .ok (.aload_n 0, 1) := by decide +kernel
theorem dX12_step_31 : decode cX12_step 31 = .ok (.iload_n 1, 1) := by decide +kernel
theorem dX12_step_32 : decode cX12_step 32 = .ok (.iload_n 2, 1) := by decide +kernel
theorem dX12_step_33 : decode cX12_step 33 = .ok (.iload_n 3, 1) := by decide +kernel
theorem dX12_step_34 : decode cX12_step 34 = .ok (.iload 4, 2) := by decide +kernel
theorem dX12_step_36 : decode cX12_step 36 = .ok (.iload 5, 2) := by decide +kernel
theorem dX12_step_38 : decode cX12_step 38 = .ok (.invokevirtual 236, 3) := by decide +kernel
theorem dX12_step_41 : decode cX12_step 41 = .ok (.ifCond .eq 22, 3) := by decide +kernel
theorem dX12_step_44 : decode cX12_step 44 = .ok (.iload 6, 2) := by decide +kernel
theorem dX12_step_46 : decode cX12_step 46 = .ok (.aload_n 0, 1) := by decide +kernel
theorem dX12_step_47 : decode cX12_step 47 = .ok (.getfield 230, 3) := by decide +kernel
theorem dX12_step_50 : decode cX12_step 50 = .ok (.if_icmp .ge 13, 3) := by decide +kernel
theorem dX12_step_53 : decode cX12_step 53 = .ok (.aload_n 0, 1) := by decide +kernel
theorem dX12_step_54 : decode cX12_step 54 = .ok (.getfield 105, 3) := by decide +kernel
theorem dX12_step_57 : decode cX12_step 57 = .ok (.iload 6, 2) := by decide +kernel
theorem dX12_step_59 : decode cX12_step 59 = .ok (.iaload, 1) := by decide +kernel
theorem dX12_step_60 : decode cX12_step 60 = .ok (.goto 4, 3) := by decide +kernel
theorem dX12_step_63 : decode cX12_step 63 = .ok (.iconst (-1), 1) := by decide +kernel
theorem dX12_step_64 : decode cX12_step 64 = .ok (.ireturn, 1) := by decide +kernel
theorem dX12_go_0 : decode cX12_go 0 = .ok (.aload_n 0, 1) := by decide +kernel
theorem dX12_go_1 : decode cX12_go 1 = .ok (.iload_n 1, 1) := by decide +kernel
theorem dX12_go_2 : decode cX12_go 2 = .ok (.iload_n 2, 1) := by decide +kernel
theorem dX12_go_3 : decode cX12_go 3 = .ok (.iload_n 3, 1) := by decide +kernel
theorem dX12_go_4 : decode cX12_go 4 = .ok (.iload 4, 2) := by decide +kernel
theorem dX12_go_6 : decode cX12_go 6 = .ok (.iload 5, 2) := by decide +kernel
theorem dX12_go_8 : decode cX12_go 8 = .ok (.invokevirtual 233, 3) := by decide +kernel
theorem dX12_go_11 : decode cX12_go 11 = .ok (.istore 6, 2) := by decide +kernel
theorem dX12_go_13 : decode cX12_go 13 = .ok (.iload 6, 2) := by decide +kernel
theorem dX12_go_15 : decode cX12_go 15 = .ok (.iconst 1, 1) := by decide +kernel
theorem dX12_go_16 : decode cX12_go 16 = .ok (.if_icmp .eq 6, 3) := by decide +kernel
theorem dX12_go_19 : decode cX12_go 19 = .ok (.iload 6, 2) := by decide +kernel
theorem dX12_go_21 : decode cX12_go 21 = .ok (.ireturn, 1) := by decide +kernel
theorem dX12_go_22 : decode cX12_go 22 = .ok (.aload_n 0, 1) := by decide +kernel
theorem dX12_go_23 : decode cX12_go 23 = .ok (.iload_n 1, 1) := by decide +kernel
theorem dX12_go_24 : decode cX12_go 24 = .ok (.iload_n 2, 1) := by decide +kernel
theorem dX12_go_25 : decode cX12_go 25 = .ok (.iload_n 3, 1) := by decide +kernel
theorem dX12_go_26 : decode cX12_go 26 = .ok (.iload 4, 2) := by decide +kernel
theorem dX12_go_28 : decode cX12_go 28 = .ok (.iload 5, 2) := by decide +kernel
theorem dX12_go_30 : decode cX12_go 30 = .ok (.invokevirtual 236, 3) := by decide +kernel
theorem dX12_go_33 : decode cX12_go 33 = .ok (.ifCond .ne 6, 3) := by decide +kernel
theorem dX12_go_36 : decode cX12_go 36 = .ok (.bipush (-4), 2) := by decide +kernel
theorem dX12_go_38 : decode cX12_go 38 = .ok (.ireturn, 1) := by decide +kernel
theorem dX12_go_39 : decode cX12_go 39 = .ok (.iconst 0, 1) := by decide +kernel
theorem dX12_go_40 : decode cX12_go 40 = .ok (.istore 7, 2) := by decide +kernel
theorem dX12_go_42 : decode cX12_go 42 = .ok (.iconst 1, 1) := by decide +kernel
theorem dX12_go_43 : decode cX12_go 43 = .ok (.istore 8, 2) := by decide +kernel
theorem dX12_go_45 : decode cX12_go 45 = .ok (.iconst 0, 1) := by decide +kernel
theorem dX12_go_46 : decode cX12_go 46 = .ok (.istore 9, 2) := by decide +kernel
theorem dX12_go_48 : decode cX12_go 48 = .ok (.iload 9, 2) := by decide +kernel
theorem dX12_go_50 : decode cX12_go 50 = .ok (.aload_n 0, 1) := by decide +kernel
theorem dX12_go_51 : decode cX12_go 51 = .ok (.getfield 230, 3) := by decide +kernel
theorem dX12_go_54 : decode cX12_go 54 = .ok (.if_icmp .ge 81, 3) := by decide +kernel
theorem dX12_go_57 : decode cX12_go 57 = .ok (.iload 8, 2) := by decide +kernel
theorem dX12_go_59 : decode cX12_go 59 = .ok (.ifCond .eq 76, 3) := by decide +kernel
theorem dX12_go_62 : decode cX12_go 62 = .ok (.aload_n 0, 1) := by decide +kernel
theorem dX12_go_63 : decode cX12_go 63 = .ok (.getfield 105, 3) := by decide +kernel
theorem dX12_go_66 : decode cX12_go 66 = .ok (.iload 9, 2) := by decide +kernel
theorem dX12_go_68 : decode cX12_go 68 = .ok (.iaload, 1) := by decide +kernel
theorem dX12_go_69 : decode cX12_go 69 = .ok (.bipush 8, 2) := by decide +kernel
theorem dX12_go_71 : decode cX12_go 71 = .ok (.if_icmp .ne 19, 3) := by decide +kernel
theorem dX12_go_74 : decode cX12_go 74 = .ok (.aload_n 0, 1) := by decide +kernel
theorem dX12_go_75 : decode cX12_go 75 = .ok (.iload_n 1, 1) := by decide +kernel
theorem dX12_go_76 : decode cX12_go 76 = .ok (.invokevirtual 240, 3) := by decide +kernel
theorem dX12_go_79 : decode cX12_go 79 = .ok (.ifCond .lt 7, 3) := by decide +kernel
theorem dX12_go_82 : decode cX12_go 82 = .ok (.iconst 1, 1) := by decide +kernel
theorem dX12_go_83 : decode cX12_go 83 = .ok (.goto 29, 3) := by decide +kernel
theorem dX12_go_86 : decode cX12_go 86 = .ok (.iconst 0, 1) := by decide +kernel
theorem dX12_go_87 : decode cX12_go 87 = .ok (.goto 25, 3) := by decide +kernel
theorem dX12_go_90 : decode cX12_go 90 = .ok (.aload_n 0, 1) := by decide +kernel
theorem dX12_go_91 : decode cX12_go 91 = .ok (.iload_n 1, 1) := by decide +kernel
theorem dX12_go_92 : decode cX12_go 92 = .ok (.iload_n 2, 1) := by decide +kernel
theorem dX12_go_93 : decode cX12_go 93 = .ok (.aload_n 0, 1) := by decide +kernel
theorem dX12_go_94 : decode cX12_go 94 = .ok (.getfield 105, 3) := by decide +kernel
theorem dX12_go_97 : decode cX12_go 97 = .ok (.iload 9, 2) := by decide +kernel
theorem dX12_go_99 : decode cX12_go 99 = .ok (.iaload, 1) := by decide +kernel
theorem dX12_go_100 : decode cX12_go 100 = .ok (.iload_n 3, 1) := by decide +kernel
theorem dX12_go_101 : decode cX12_go 101 = .ok (.invokevirtual 243, 3) := by decide +kernel
theorem dX12_go_104 : decode cX12_go 104 = .ok (.ifCond .lt 7, 3) := by decide +kernel
theorem dX12_go_107 : decode cX12_go 107 = .ok (.iconst 1, 1) := by decide +kernel
theorem dX12_go_108 : decode cX12_go 108 = .ok (.goto 4, 3) := by decide +kernel
theorem dX12_go_111 : decode cX12_go 111 = .ok (.iconst 0, 1) := by decide +kernel
theorem dX12_go_112 : decode cX12_go 112 = .ok (.istore 8, 2) := by decide +kernel
theorem dX12_go_114 : decode cX12_go 114 = .ok (.iload 7, 2) := by decide +kernel
theorem dX12_go_116 : decode cX12_go 116 = .ok (.iload 8, 2) := by decide +kernel
theorem dX12_go_118 : decode cX12_go 118 = .ok (.ifCond .eq 7, 3) := by decide +kernel
theorem dX12_go_121 : decode cX12_go 121 = .ok (.iconst 1, 1) := by decide +kernel
theorem dX12_go_122 : decode cX12_go 122 = .ok (.goto 4, 3) := by decide +kernel
theorem dX12_go_125 : decode cX12_go 125 = .ok (.iconst 0, 1) := by decide +kernel
theorem dX12_go_126 : decode cX12_go 126 = .ok (.iadd, 1) := by decide +kernel
theorem dX12_go_127 : decode cX12_go 127 = .ok (.istore 7, 2) := by decide +kernel
theorem dX12_go_129 : decode cX12_go 129 = .ok (.iinc 9 1, 3) := by decide +kernel
theorem dX12_go_132 : decode cX12_go 132 = .ok (.goto (-84), 3) := by decide +kernel
theorem dX12_go_135 : decode cX12_go 135 = .ok (.iload 7, 2) := by decide +kernel
theorem dX12_go_137 : decode cX12_go 137 = .ok (.ireturn, 1) := by decide +kernel
theorem dX12_order_0 : decode cX12_order 0 = .ok (.iload_n 1, 1) := by decide +kernel
theorem dX12_order_1 : decode cX12_order 1 = .ok (.invokestatic 131, 3) := by decide +kernel
theorem dX12_order_4 : decode cX12_order 4 = .ok (.ifCond .ne 6, 3) := by decide +kernel
theorem dX12_order_7 : decode cX12_order 7 = .ok (.bipush (-2), 2) := by decide +kernel
theorem dX12_order_9 : decode cX12_order 9 = .ok (.ireturn, 1) := by decide +kernel
theorem dX12_order_10 : decode cX12_order 10 = .ok (.iload_n 2, 1) := by decide +kernel
theorem dX12_order_11 : decode cX12_order 11 = .ok (.invokestatic 146, 3) := by decide +kernel
theorem dX12_order_14 : decode cX12_order 14 = .ok (.ifCond .eq 27, 3) := by decide +kernel
theorem dX12_order_17 : decode cX12_order 17 = .ok (.iload_n 3, 1) := by decide +kernel
theorem dX12_order_18 : decode cX12_order 18 = .ok (.invokestatic 146, 3) := by decide +kernel
theorem dX12_order_21 : decode cX12_order 21 = .ok (.ifCond .eq 20, 3) := by decide +kernel
theorem dX12_order_24 : decode cX12_order 24 = .ok (.iload_n 2, 1) := by decide +kernel
theorem dX12_order_25 : decode cX12_order 25 = .ok (.iload_n 3, 1) := by decide +kernel
theorem dX12_order_26 : decode cX12_order 26 = .ok (.if_icmp .gt 15, 3) := by decide +kernel
theorem dX12_order_29 : decode cX12_order 29 = .ok (.iload 4, 2) := by decide +kernel
theorem dX12_order_31 : decode cX12_order 31 = .ok (.iconst 1, 1) := by decide +kernel
theorem dX12_order_32 : decode cX12_order 32 = .ok (.sipush 10000, 3) := by decide +kernel
theorem dX12_order_35 : decode cX12_order 35 = .ok (.invokestatic 123, 3) := by decide +kernel
theorem dX12_order_38 : decode cX12_order 38 = .ok (.ifCond .ne 6, 3) := by decide +kernel
theorem dX12_order_41 : decode cX12_order 41 = .ok (.bipush (-3), 2) := by decide +kernel
theorem dX12_order_43 : decode cX12_order 43 = .ok (.ireturn, 1) := by decide +kernel
theorem dX12_order_44 : decode cX12_order 44 = .ok (.aload_n 0, 1) := by decide +kernel
theorem dX12_order_45 : decode cX12_order 45 = .ok (.getfield 246, 3) := by decide +kernel
theorem dX12_order_48 : decode cX12_order 48 = .ok (.bipush 6, 2) := by decide +kernel
theorem dX12_order_50 : decode cX12_order 50 = .ok (.if_icmp .ne 6, 3) := by decide +kernel
theorem dX12_order_53 : decode cX12_order 53 = .ok (.bipush (-8), 2) := by decide +kernel
theorem dX12_order_55 : decode cX12_order 55 = .ok (.ireturn, 1) := by decide +kernel
theorem dX12_order_56 : decode cX12_order 56 = .ok (.aload_n 0, 1) := by decide +kernel
theorem dX12_order_57 : decode cX12_order 57 = .ok (.getfield 72, 3) := by decide +kernel
theorem dX12_order_60 : decode cX12_order 60 = .ok (.aload_n 0, 1) := by decide +kernel
theorem dX12_order_61 : decode cX12_order 61 = .ok (.getfield 246, 3) := by decide +kernel
theorem dX12_order_64 : decode cX12_order 64 = .ok (.iload_n 1, 1) := by decide +kernel
theorem dX12_order_65 : decode cX12_order 65 = .ok (.iastore, 1) := by decide +kernel
theorem dX12_order_66 : decode cX12_order 66 = .ok (.aload_n 0, 1) := by decide +kernel
theorem dX12_order_67 : decode cX12_order 67 = .ok (.getfield 75, 3) := by decide +kernel
theorem dX12_order_70 : decode cX12_order 70 = .ok (.aload_n 0, 1) := by decide +kernel
theorem dX12_order_71 : decode cX12_order 71 = .ok (.getfield 246, 3) := by decide +kernel
theorem dX12_order_74 : decode cX12_order 74 = .ok (.iload_n 2, 1) := by decide +kernel
theorem dX12_order_75 : decode cX12_order 75 = .ok (.iastore, 1) := by decide +kernel
theorem dX12_order_76 : decode cX12_order 76 = .ok (.aload_n 0, 1) := by decide +kernel
theorem dX12_order_77 : decode cX12_order 77 = .ok (.getfield 78, 3) := by decide +kernel
theorem dX12_order_80 : decode cX12_order 80 = .ok (.aload_n 0, 1) := by decide +kernel
theorem dX12_order_81 : decode cX12_order 81 = .ok (.getfield 246, 3) := by decide +kernel
theorem dX12_order_84 : decode cX12_order 84 = .ok (.iload_n 3, 1) := by decide +kernel
theorem dX12_order_85 : decode cX12_order 85 = .ok (.iastore, 1) := by decide +kernel
theorem dX12_order_86 : decode cX12_order 86 = .ok (.aload_n 0, 1) := by decide +kernel
theorem dX12_order_87 : decode cX12_order 87 = .ok (.getfield 81, 3) := by decide +kernel
theorem dX12_order_90 : decode cX12_order 90 = .ok (.aload_n 0, 1) := by decide +kernel
theorem dX12_order_91 : decode cX12_order 91 = .ok (.getfield 246, 3) := by decide +kernel
theorem dX12_order_94 : decode cX12_order 94 = .ok (.iload 4, 2) := by decide +kernel
theorem dX12_order_96 : decode cX12_order 96 = .ok (.iastore, 1) := by decide +kernel
theorem dX12_order_97 : decode cX12_order 97 = .ok (.aload_n 0, 1) := by decide +kernel
theorem dX12_order_98 : decode cX12_order 98 = .ok (.getfield 84, 3) := by decide +kernel
theorem dX12_order_101 : decode cX12_order 101 = .ok (.aload_n 0, 1) := by decide +kernel
theorem dX12_order_102 : decode cX12_order 102 = .ok (.getfield 246, 3) := by decide +kernel
theorem dX12_order_105 : decode cX12_order 105 = .ok (.iconst 0, 1) := by decide +kernel
theorem dX12_order_106 : decode cX12_order 106 = .ok (.bastore, 1) := by decide +kernel
theorem dX12_order_107 : decode cX12_order 107 = .ok (.aload_n 0, 1) := by decide +kernel
theorem dX12_order_108 : decode cX12_order 108 = .ok (.dup, 1) := by decide +kernel
theorem dX12_order_109 : decode cX12_order 109 = .ok (.getfield 246, 3) := by decide +kernel
theorem dX12_order_112 : decode cX12_order 112 = .ok (.iconst 1, 1) := by decide +kernel
theorem dX12_order_113 : decode cX12_order 113 = .ok (.iadd, 1) := by decide +kernel
theorem dX12_order_114 : decode cX12_order 114 = .ok (.putfield 246, 3) := by decide +kernel
theorem dX12_order_117 : decode cX12_order 117 = .ok (.aload_n 0, 1) := by decide +kernel
theorem dX12_order_118 : decode cX12_order 118 = .ok (.getfield 246, 3) := by decide +kernel
theorem dX12_order_121 : decode cX12_order 121 = .ok (.iconst 1, 1) := by decide +kernel
theorem dX12_order_122 : decode cX12_order 122 = .ok (.isub, 1) := by decide +kernel
theorem dX12_order_123 : decode cX12_order 123 = .ok (.ireturn, 1) := by decide +kernel
theorem dX12_mayCut_0 : decode cX12_mayCut 0 = .ok (.aload_n 0, 1) := by decide +kernel
theorem dX12_mayCut_1 : decode cX12_mayCut 1 = .ok (.iload_n 2, 1) := by decide +kernel
theorem dX12_mayCut_2 : decode cX12_mayCut 2 = .ok (.invokevirtual 173, 3) := by decide +kernel
theorem dX12_mayCut_5 : decode cX12_mayCut 5 = .ok (.ifCond .eq 76, 3) := by decide +kernel
theorem dX12_mayCut_8 : decode cX12_mayCut 8 = .ok (.aload_n 0, 1) := by decide +kernel
theorem dX12_mayCut_9 : decode cX12_mayCut 9 = .ok (.getfield 84, 3) := by decide +kernel
theorem dX12_mayCut_12 : decode cX12_mayCut 12 = .ok (.iload_n 1, 1) := by decide +kernel
theorem dX12_mayCut_13 : decode cX12_mayCut 13 = .ok (.baload, 1) := by decide +kernel
theorem dX12_mayCut_14 : decode cX12_mayCut 14 = .ok (.ifCond .ne 67, 3) := by decide +kernel
theorem dX12_mayCut_17 : decode cX12_mayCut 17 = .ok (.aload_n 0, 1) := by decide +kernel
theorem dX12_mayCut_18 : decode cX12_mayCut 18 = .ok (.getfield 49, 3) := by decide +kernel
theorem dX12_mayCut_21 : decode cX12_mayCut 21 = .ok (.iload_n 2, 1) := by decide +kernel
theorem dX12_mayCut_22 : decode cX12_mayCut 22 = .ok (.iaload, 1) := by decide +kernel
theorem dX12_mayCut_23 : decode cX12_mayCut 23 = .ok (.aload_n 0, 1) := by decide +kernel
theorem dX12_mayCut_24 : decode cX12_mayCut 24 = .ok (.getfield 72, 3) := by decide +kernel
theorem dX12_mayCut_27 : decode cX12_mayCut 27 = .ok (.iload_n 1, 1) := by decide +kernel
theorem dX12_mayCut_28 : decode cX12_mayCut 28 = .ok (.iaload, 1) := by decide +kernel
theorem dX12_mayCut_29 : decode cX12_mayCut 29 = .ok (.if_icmp .ne 52, 3) := by decide +kernel
theorem dX12_mayCut_32 : decode cX12_mayCut 32 = .ok (.aload_n 0, 1) := by decide +kernel
theorem dX12_mayCut_33 : decode cX12_mayCut 33 = .ok (.getfield 52, 3) := by decide +kernel
theorem dX12_mayCut_36 : decode cX12_mayCut 36 = .ok (.iload_n 2, 1) := by decide +kernel
theorem dX12_mayCut_37 : decode cX12_mayCut 37 = .ok (.iaload, 1) := by decide +kernel
theorem dX12_mayCut_38 : decode cX12_mayCut 38 = .ok (.aload_n 0, 1) := by decide +kernel
theorem dX12_mayCut_39 : decode cX12_mayCut 39 = .ok (.getfield 75, 3) := by decide +kernel
theorem dX12_mayCut_42 : decode cX12_mayCut 42 = .ok (.iload_n 1, 1) := by decide +kernel
theorem dX12_mayCut_43 : decode cX12_mayCut 43 = .ok (.iaload, 1) := by decide +kernel
theorem dX12_mayCut_44 : decode cX12_mayCut 44 = .ok (.if_icmp .lt 37, 3) := by decide +kernel
theorem dX12_mayCut_47 : decode cX12_mayCut 47 = .ok (.aload_n 0, 1) := by decide +kernel
theorem dX12_mayCut_48 : decode cX12_mayCut 48 = .ok (.getfield 52, 3) := by decide +kernel
theorem dX12_mayCut_51 : decode cX12_mayCut 51 = .ok (.iload_n 2, 1) := by decide +kernel
theorem dX12_mayCut_52 : decode cX12_mayCut 52 = .ok (.iaload, 1) := by decide +kernel
theorem dX12_mayCut_53 : decode cX12_mayCut 53 = .ok (.aload_n 0, 1) := by decide +kernel
theorem dX12_mayCut_54 : decode cX12_mayCut 54 = .ok (.getfield 78, 3) := by decide +kernel
theorem dX12_mayCut_57 : decode cX12_mayCut 57 = .ok (.iload_n 1, 1) := by decide +kernel
theorem dX12_mayCut_58 : decode cX12_mayCut 58 = .ok (.iaload, 1) := by decide +kernel
theorem dX12_mayCut_59 : decode cX12_mayCut 59 = .ok (.if_icmp .gt 22, 3) := by decide +kernel
theorem dX12_mayCut_62 : decode cX12_mayCut 62 = .ok (.aload_n 0, 1) := by decide +kernel
theorem dX12_mayCut_63 : decode cX12_mayCut 63 = .ok (.getfield 114, 3) := by decide +kernel
theorem dX12_mayCut_66 : decode cX12_mayCut 66 = .ok (.iload_n 2, 1) := by decide +kernel
theorem dX12_mayCut_67 : decode cX12_mayCut 67 = .ok (.iaload, 1) := by decide +kernel
theorem dX12_mayCut_68 : decode cX12_mayCut 68 = .ok (.aload_n 0, 1) := by decide +kernel
theorem dX12_mayCut_69 : decode cX12_mayCut 69 = .ok (.getfield 81, 3) := by decide +kernel
theorem dX12_mayCut_72 : decode cX12_mayCut 72 = .ok (.iload_n 1, 1) := by decide +kernel
theorem dX12_mayCut_73 : decode cX12_mayCut 73 = .ok (.iaload, 1) := by decide +kernel
theorem dX12_mayCut_74 : decode cX12_mayCut 74 = .ok (.if_icmp .lt 7, 3) := by decide +kernel
theorem dX12_mayCut_77 : decode cX12_mayCut 77 = .ok (.iconst 1, 1) := by decide +kernel
theorem dX12_mayCut_78 : decode cX12_mayCut 78 = .ok (.goto 4, 3) := by decide +kernel
theorem dX12_mayCut_81 : decode cX12_mayCut 81 = .ok (.iconst 0, 1) := by decide +kernel
theorem dX12_mayCut_82 : decode cX12_mayCut 82 = .ok (.ireturn, 1) := by decide +kernel
theorem dX12_findCutting_0 : decode cX12_findCutting 0 = .ok (.iconst 0, 1) := by decide +kernel
theorem dX12_findCutting_1 : decode cX12_findCutting 1 = .ok (.istore_n 1, 1) := by decide +kernel
theorem dX12_findCutting_2 : decode cX12_findCutting 2 = .ok (.iconst 0, 1) := by decide +kernel
theorem dX12_findCutting_3 : decode cX12_findCutting 3 = .ok (.istore_n 2, 1) := by decide +kernel
theorem dX12_findCutting_4 : decode cX12_findCutting 4 = .ok (.iload_n 2, 1) := by decide +kernel
theorem dX12_findCutting_5 : decode cX12_findCutting 5 = .ok (.aload_n 0, 1) := by decide +kernel
theorem dX12_findCutting_6 : decode cX12_findCutting 6 = .ok (.getfield 246, 3) := by decide +kernel
theorem dX12_findCutting_9 : decode cX12_findCutting 9 = .ok (.if_icmp .ge 45, 3) := by decide +kernel
theorem dX12_findCutting_12 : decode cX12_findCutting 12 = .ok (.aload_n 0, 1) := by decide +kernel
theorem dX12_findCutting_13 : decode cX12_findCutting 13 = .ok (.getfield 111, 3) := by decide +kernel
theorem dX12_findCutting_16 : decode cX12_findCutting 16 = .ok (.iload_n 2, 1) := by decide +kernel
theorem dX12_findCutting_17 : decode cX12_findCutting 17 = .ok (.iconst (-1), 1) := by decide +kernel
theorem dX12_findCutting_18 : decode cX12_findCutting 18 = .ok (.iastore, 1) := by decide +kernel
theorem dX12_findCutting_19 : decode cX12_findCutting 19 = .ok (.iload_n 1, 1) := by decide +kernel
theorem dX12_findCutting_20 : decode cX12_findCutting 20 = .ok (.aload_n 0, 1) := by decide +kernel
theorem dX12_findCutting_21 : decode cX12_findCutting 21 = .ok (.getfield 84, 3) := by decide +kernel
theorem dX12_findCutting_24 : decode cX12_findCutting 24 = .ok (.iload_n 2, 1) := by decide +kernel
theorem dX12_findCutting_25 : decode cX12_findCutting 25 = .ok (.baload, 1) := by decide +kernel
theorem dX12_findCutting_26 : decode cX12_findCutting 26 = .ok (.ifCond .eq 7, 3) := by decide +kernel
theorem dX12_findCutting_29 : decode cX12_findCutting 29 = .ok (.iconst 0, 1) := by decide +kernel
theorem dX12_findCutting_30 : decode cX12_findCutting 30 = .ok (.goto 9, 3) := by decide +kernel
theorem dX12_findCutting_33 : decode cX12_findCutting 33 = .ok (.aload_n 0, 1) := by decide +kernel
theorem dX12_findCutting_34 : decode cX12_findCutting 34 = .ok (.getfield 81, 3) := by decide +kernel
theorem dX12_findCutting_37 : decode cX12_findCutting 37 = .ok (.iload_n 2, 1) := by decide +kernel
theorem dX12_findCutting_38 : decode cX12_findCutting 38 = .ok (.iaload, 1) := by decide +kernel
theorem dX12_findCutting_39 : decode cX12_findCutting 39 = .ok (.iadd, 1) := by decide +kernel
theorem dX12_findCutting_40 : decode cX12_findCutting 40 = .ok (.istore_n 1, 1) := by decide +kernel
theorem dX12_findCutting_41 : decode cX12_findCutting 41 = .ok (.aload_n 0, 1) := by decide +kernel
theorem dX12_findCutting_42 : decode cX12_findCutting 42 = .ok (.getfield 108, 3) := by decide +kernel
theorem dX12_findCutting_45 : decode cX12_findCutting 45 = .ok (.iload_n 2, 1) := by decide +kernel
theorem dX12_findCutting_46 : decode cX12_findCutting 46 = .ok (.iconst (-1), 1) := by decide +kernel
theorem dX12_findCutting_47 : decode cX12_findCutting 47 = .ok (.iastore, 1) := by decide +kernel
theorem dX12_findCutting_48 : decode cX12_findCutting 48 = .ok (.iinc 2 1, 3) := by decide +kernel
theorem dX12_findCutting_51 : decode cX12_findCutting 51 = .ok (.goto (-47), 3) := by decide +kernel
theorem dX12_findCutting_54 : decode cX12_findCutting 54 = .ok (.iconst 0, 1) := by decide +kernel
theorem dX12_findCutting_55 : decode cX12_findCutting 55 = .ok (.istore_n 2, 1) := by decide +kernel
theorem dX12_findCutting_56 : decode cX12_findCutting 56 = .ok (.iload_n 2, 1) := by decide +kernel
theorem dX12_findCutting_57 : decode cX12_findCutting 57 = .ok (.bipush 16, 2) := by decide +kernel
theorem dX12_findCutting_59 : decode cX12_findCutting 59 = .ok (.if_icmp .ge 50, 3) := by decide +kernel
theorem dX12_findCutting_62 : decode cX12_findCutting 62 = .ok (.aload_n 0, 1) := by decide +kernel
theorem dX12_findCutting_63 : decode cX12_findCutting 63 = .ok (.getfield 114, 3) := by decide +kernel
theorem dX12_findCutting_66 : decode cX12_findCutting 66 = .ok (.iload_n 2, 1) := by decide +kernel
theorem dX12_findCutting_67 : decode cX12_findCutting 67 = .ok (.iload_n 2, 1) := by decide +kernel
theorem dX12_findCutting_68 : decode cX12_findCutting 68 = .ok (.aload_n 0, 1) := by decide +kernel
theorem dX12_findCutting_69 : decode cX12_findCutting 69 = .ok (.getfield 127, 3) := by decide +kernel
theorem dX12_findCutting_72 : decode cX12_findCutting 72 = .ok (.if_icmp .ge 22, 3) := by decide +kernel
theorem dX12_findCutting_75 : decode cX12_findCutting 75 = .ok (.aload_n 0, 1) := by decide +kernel
theorem dX12_findCutting_76 : decode cX12_findCutting 76 = .ok (.getfield 58, 3) := by decide +kernel
theorem dX12_findCutting_79 : decode cX12_findCutting 79 = .ok (.iload_n 2, 1) := by decide +kernel
theorem dX12_findCutting_80 : decode cX12_findCutting 80 = .ok (.laload, 1) := by decide +kernel
theorem dX12_findCutting_81 : decode cX12_findCutting 81 = .ok (.lconst 0, 1) := by decide +kernel
theorem dX12_findCutting_82 : decode cX12_findCutting 82 = .ok (.lcmp, 1) := by decide +kernel
theorem dX12_findCutting_83 : decode cX12_findCutting 83 = .ok (.ifCond .le 11, 3) := by decide +kernel
theorem dX12_findCutting_86 : decode cX12_findCutting 86 = .ok (.aload_n 0, 1) := by decide +kernel
theorem dX12_findCutting_87 : decode cX12_findCutting 87 = .ok (.iload_n 2, 1) := by decide +kernel
theorem dX12_findCutting_88 : decode cX12_findCutting 88 = .ok (.invokevirtual 167, 3) := by decide +kernel
theorem dX12_findCutting_91 : decode cX12_findCutting 91 = .ok (.goto 4, 3) := by decide +kernel
theorem dX12_findCutting_94 : decode cX12_findCutting 94 = .ok (.iconst 0, 1) := by decide +kernel
theorem dX12_findCutting_95 : decode cX12_findCutting 95 = .ok (.iastore, 1) := by decide +kernel
theorem dX12_findCutting_96 : decode cX12_findCutting 96 = .ok (.aload_n 0, 1) := by decide +kernel
theorem dX12_findCutting_97 : decode cX12_findCutting 97 = .ok (.getfield 117, 3) := by decide +kernel
theorem dX12_findCutting_100 : decode cX12_findCutting 100 = .ok (.iload_n 2, 1) := by decide +kernel
theorem dX12_findCutting_101 : decode cX12_findCutting 101 = .ok (.iconst 0, 1) := by decide +kernel
theorem dX12_findCutting_102 : decode cX12_findCutting 102 = .ok (.iastore, 1) := by decide +kernel
theorem dX12_findCutting_103 : decode cX12_findCutting 103 = .ok (.iinc 2 1, 3) := by decide +kernel
theorem dX12_findCutting_106 : decode cX12_findCutting 106 = .ok (.goto (-50), 3) := by decide +kernel
theorem dX12_findCutting_109 : decode cX12_findCutting 109 = .ok (.aload_n 0, 1) := by decide +kernel
theorem dX12_findCutting_110 : decode cX12_findCutting 110 = .ok (.iconst (-1), 1) := by decide +kernel
theorem dX12_findCutting_111 : decode cX12_findCutting 111 = .ok (.putfield 249, 3) := by decide +kernel
theorem dX12_findCutting_114 : decode cX12_findCutting 114 = .ok (.aload_n 0, 1) := by decide +kernel
theorem dX12_findCutting_115 : decode cX12_findCutting 115 = .ok (.iconst 0, 1) := by decide +kernel
theorem dX12_findCutting_116 : decode cX12_findCutting 116 = .ok (.putfield 252, 3) := by decide +kernel
theorem dX12_findCutting_119 : decode cX12_findCutting 119 = .ok (.iconst 0, 1) := by decide +kernel
theorem dX12_findCutting_120 : decode cX12_findCutting 120 = .ok (.istore_n 2, 1) := by decide +kernel
theorem dX12_findCutting_121 : decode cX12_findCutting 121 = .ok (.iconst 0, 1) := by decide +kernel
theorem dX12_findCutting_122 : decode cX12_findCutting 122 = .ok (.istore_n 3, 1) := by decide +kernel
theorem dX12_findCutting_123 : decode cX12_findCutting 123 = .ok (.iconst 0, 1) := by decide +kernel
theorem dX12_findCutting_124 : decode cX12_findCutting 124 = .ok (.istore 4, 2) := by decide +kernel
theorem dX12_findCutting_126 : decode cX12_findCutting 126 = .ok (.iload 4, 2) := by decide +kernel
theorem dX12_findCutting_128 : decode cX12_findCutting 128 = .ok (.ifCond .lt 449, 3) := by decide +kernel
theorem dX12_findCutting_131 : decode cX12_findCutting 131 = .ok (.iload 4, 2) := by decide +kernel
theorem dX12_findCutting_133 : decode cX12_findCutting 133 = .ok (.aload_n 0, 1) := by decide +kernel
theorem dX12_findCutting_134 : decode cX12_findCutting 134 = .ok (.getfield 246, 3) := by decide +kernel
theorem dX12_findCutting_137 : decode cX12_findCutting 137 = .ok (.if_icmp .ne 7, 3) := by decide +kernel
theorem dX12_findCutting_140 : decode cX12_findCutting 140 = .ok (.iconst 1, 1) := by decide +kernel
theorem dX12_findCutting_141 : decode cX12_findCutting 141 = .ok (.goto 4, 3) := by decide +kernel
theorem dX12_findCutting_144 : decode cX12_findCutting 144 = .ok (.iconst 0, 1) := by decide +kernel
theorem dX12_findCutting_145 : decode cX12_findCutting 145 = .ok (.istore 5, 2) := by decide +kernel
theorem dX12_findCutting_147 : decode cX12_findCutting 147 = .ok (.iload 5, 2) := by decide +kernel
theorem dX12_findCutting_149 : decode cX12_findCutting 149 = .ok (.ifCond .eq 88, 3) := by decide +kernel
theorem dX12_findCutting_152 : decode cX12_findCutting 152 = .ok (.iload_n 2, 1) := by decide +kernel
theorem dX12_findCutting_153 : decode cX12_findCutting 153 = .ok (.aload_n 0, 1) := by decide +kernel
theorem dX12_findCutting_154 : decode cX12_findCutting 154 = .ok (.getfield 249, 3) := by decide +kernel
theorem dX12_findCutting_157 : decode cX12_findCutting 157 = .ok (.if_icmp .gt 19, 3) := by decide +kernel
theorem dX12_findCutting_160 : decode cX12_findCutting 160 = .ok (.iload_n 2, 1) := by decide +kernel
theorem dX12_findCutting_161 : decode cX12_findCutting 161 = .ok (.aload_n 0, 1) := by decide +kernel
theorem dX12_findCutting_162 : decode cX12_findCutting 162 = .ok (.getfield 249, 3) := by decide +kernel
theorem dX12_findCutting_165 : decode cX12_findCutting 165 = .ok (.if_icmp .ne 394, 3) := by decide +kernel
theorem dX12_findCutting_168 : decode cX12_findCutting 168 = .ok (.iload_n 3, 1) := by decide +kernel
theorem dX12_findCutting_169 : decode cX12_findCutting 169 = .ok (.aload_n 0, 1) := by decide +kernel
theorem dX12_findCutting_170 : decode cX12_findCutting 170 = .ok (.getfield 252, 3) := by decide +kernel
theorem dX12_findCutting_173 : decode cX12_findCutting 173 = .ok (.if_icmp .ge 386, 3) := by decide +kernel
theorem dX12_findCutting_176 : decode cX12_findCutting 176 = .ok (.aload_n 0, 1) := by decide +kernel
theorem dX12_findCutting_177 : decode cX12_findCutting 177 = .ok (.iload_n 2, 1) := by decide +kernel
theorem dX12_findCutting_178 : decode cX12_findCutting 178 = .ok (.putfield 249, 3) := by decide +kernel
theorem dX12_findCutting_181 : decode cX12_findCutting 181 = .ok (.aload_n 0, 1) := by decide +kernel
theorem dX12_findCutting_182 : decode cX12_findCutting 182 = .ok (.iload_n 3, 1) := by decide +kernel
theorem dX12_findCutting_183 : decode cX12_findCutting 183 = .ok (.putfield 252, 3) := by decide +kernel
theorem dX12_findCutting_186 : decode cX12_findCutting 186 = .ok (.iconst 0, 1) := by decide +kernel
theorem dX12_findCutting_187 : decode cX12_findCutting 187 = .ok (.istore 6, 2) := by decide +kernel
theorem dX12_findCutting_189 : decode cX12_findCutting 189 = .ok (.iload 6, 2) := by decide +kernel
theorem dX12_findCutting_191 : decode cX12_findCutting 191 = .ok (.aload_n 0, 1) := by decide +kernel
theorem dX12_findCutting_192 : decode cX12_findCutting 192 = .ok (.getfield 246, 3) := by decide +kernel
theorem dX12_findCutting_195 : decode cX12_findCutting 195 = .ok (.if_icmp .ge 39, 3) := by decide +kernel
theorem dX12_findCutting_198 : decode cX12_findCutting 198 = .ok (.aload_n 0, 1) := by decide +kernel
theorem dX12_findCutting_199 : decode cX12_findCutting 199 = .ok (.getfield 111, 3) := by decide +kernel
theorem dX12_findCutting_202 : decode cX12_findCutting 202 = .ok (.iload 6, 2) := by decide +kernel
theorem dX12_findCutting_204 : decode cX12_findCutting 204 = .ok (.aload_n 0, 1) := by decide +kernel
theorem dX12_findCutting_205 : decode cX12_findCutting 205 = .ok (.getfield 108, 3) := by decide +kernel
theorem dX12_findCutting_208 : decode cX12_findCutting 208 = .ok (.iload 6, 2) := by decide +kernel
theorem dX12_findCutting_210 : decode cX12_findCutting 210 = .ok (.iaload, 1) := by decide +kernel
theorem dX12_findCutting_211 : decode cX12_findCutting 211 = .ok (.bipush 16, 2) := by decide +kernel
theorem dX12_findCutting_213 : decode cX12_findCutting 213 = .ok (.if_icmp .ne 7, 3) := by decide +kernel
theorem dX12_findCutting_216 : decode cX12_findCutting 216 = .ok (.iconst (-1), 1) := by decide +kernel
theorem dX12_findCutting_217 : decode cX12_findCutting 217 = .ok (.goto 10, 3) := by decide +kernel
theorem dX12_findCutting_220 : decode cX12_findCutting 220 = .ok (.aload_n 0, 1) := by decide +kernel
theorem dX12_findCutting_221 : decode cX12_findCutting 221 = .ok (.getfield 108, 3) := by decide +kernel
theorem dX12_findCutting_224 : decode cX12_findCutting 224 = .ok (.iload 6, 2) := by decide +kernel
theorem dX12_findCutting_226 : decode cX12_findCutting 226 = .ok (.iaload, 1) := by decide +kernel
theorem dX12_findCutting_227 : decode cX12_findCutting 227 = .ok (.iastore, 1) := by decide +kernel
theorem dX12_findCutting_228 : decode cX12_findCutting 228 = .ok (.iinc 6 1, 3) := by decide +kernel
theorem dX12_findCutting_231 : decode cX12_findCutting 231 = .ok (.goto (-42), 3) := by decide +kernel
theorem dX12_findCutting_234 : decode cX12_findCutting 234 = .ok (.goto 325, 3) := by decide +kernel
theorem dX12_findCutting_237 : decode cX12_findCutting 237 = .ok (.aload_n 0, 1) := by decide +kernel
theorem dX12_findCutting_238 : decode cX12_findCutting 238 = .ok (.getfield 108, 3) := by decide +kernel
theorem dX12_findCutting_241 : decode cX12_findCutting 241 = .ok (.iload 4, 2) := by decide +kernel
theorem dX12_findCutting_243 : decode cX12_findCutting 243 = .ok (.iaload, 1) := by decide +kernel
theorem dX12_findCutting_244 : decode cX12_findCutting 244 = .ok (.istore 6, 2) := by decide +kernel
theorem dX12_findCutting_246 : decode cX12_findCutting 246 = .ok (.iload 6, 2) := by decide +kernel
theorem dX12_findCutting_248 : decode cX12_findCutting 248 = .ok (.ifCond .lt 76, 3) := by decide +kernel
theorem dX12_findCutting_251 : decode cX12_findCutting 251 = .ok (.iload 6, 2) := by decide +kernel
theorem dX12_findCutting_253 : decode cX12_findCutting 253 = .ok (.bipush 16, 2) := by decide +kernel
theorem dX12_findCutting_255 : decode cX12_findCutting 255 = .ok (.if_icmp .ge 69, 3) := by decide +kernel
theorem dX12_findCutting_258 : decode cX12_findCutting 258 = .ok (.aload_n 0, 1) := by decide +kernel
theorem dX12_findCutting_259 : decode cX12_findCutting 259 = .ok (.getfield 114, 3) := by decide +kernel
theorem dX12_findCutting_262 : decode cX12_findCutting 262 = .ok (.iload 6, 2) := by decide +kernel
theorem dX12_findCutting_264 : decode cX12_findCutting 264 = .ok (.dup2, 1) := by decide +kernel
theorem dX12_findCutting_265 : decode cX12_findCutting 265 = .ok (.iaload, 1) := by decide +kernel
theorem dX12_findCutting_266 : decode cX12_findCutting 266 = .ok (.aload_n 0, 1) := by decide +kernel
theorem dX12_findCutting_267 : decode cX12_findCutting 267 = .ok (.getfield 81, 3) := by decide +kernel
theorem dX12_findCutting_270 : decode cX12_findCutting 270 = .ok (.iload 4, 2) := by decide +kernel
theorem dX12_findCutting_272 : decode cX12_findCutting 272 = .ok (.iaload, 1) := by decide +kernel
theorem dX12_findCutting_273 : decode cX12_findCutting 273 = .ok (.iadd, 1) := by decide +kernel
theorem dX12_findCutting_274 : decode cX12_findCutting 274 = .ok (.iastore, 1) := by decide +kernel
theorem dX12_findCutting_275 : decode cX12_findCutting 275 = .ok (.aload_n 0, 1) := by decide +kernel
theorem dX12_findCutting_276 : decode cX12_findCutting 276 = .ok (.getfield 117, 3) := by decide +kernel
theorem dX12_findCutting_279 : decode cX12_findCutting 279 = .ok (.iload 6, 2) := by decide +kernel
theorem dX12_findCutting_281 : decode cX12_findCutting 281 = .ok (.dup2, 1) := by decide +kernel
theorem dX12_findCutting_282 : decode cX12_findCutting 282 = .ok (.iaload, 1) := by decide +kernel
theorem dX12_findCutting_283 : decode cX12_findCutting 283 = .ok (.iconst 1, 1) := by decide +kernel
theorem dX12_findCutting_284 : decode cX12_findCutting 284 = .ok (.isub, 1) := by decide +kernel
theorem dX12_findCutting_285 : decode cX12_findCutting 285 = .ok (.iastore, 1) := by decide +kernel
theorem dX12_findCutting_286 : decode cX12_findCutting 286 = .ok (.iload_n 3, 1) := by decide +kernel
theorem dX12_findCutting_287 : decode cX12_findCutting 287 = .ok (.aload_n 0, 1) := by decide +kernel
theorem dX12_findCutting_288 : decode cX12_findCutting 288 = .ok (.getfield 117, 3) := by decide +kernel
theorem dX12_findCutting_291 : decode cX12_findCutting 291 = .ok (.iload 6, 2) := by decide +kernel
theorem dX12_findCutting_293 : decode cX12_findCutting 293 = .ok (.iaload, 1) := by decide +kernel
theorem dX12_findCutting_294 : decode cX12_findCutting 294 = .ok (.ifCond .ne 7, 3) := by decide +kernel
theorem dX12_findCutting_297 : decode cX12_findCutting 297 = .ok (.iconst 1, 1) := by decide +kernel
theorem dX12_findCutting_298 : decode cX12_findCutting 298 = .ok (.goto 4, 3) := by decide +kernel
theorem dX12_findCutting_301 : decode cX12_findCutting 301 = .ok (.iconst 0, 1) := by decide +kernel
theorem dX12_findCutting_302 : decode cX12_findCutting 302 = .ok (.isub, 1) := by decide +kernel
theorem dX12_findCutting_303 : decode cX12_findCutting 303 = .ok (.istore_n 3, 1) := by decide +kernel
theorem dX12_findCutting_304 : decode cX12_findCutting 304 = .ok (.iload_n 2, 1) := by decide +kernel
theorem dX12_findCutting_305 : decode cX12_findCutting 305 = .ok (.aload_n 0, 1) := by decide +kernel
theorem dX12_findCutting_306 : decode cX12_findCutting 306 = .ok (.getfield 81, 3) := by decide +kernel
theorem dX12_findCutting_309 : decode cX12_findCutting 309 = .ok (.iload 4, 2) := by decide +kernel
theorem dX12_findCutting_311 : decode cX12_findCutting 311 = .ok (.iaload, 1) := by decide +kernel
theorem dX12_findCutting_312 : decode cX12_findCutting 312 = .ok (.isub, 1) := by decide +kernel
theorem dX12_findCutting_313 : decode cX12_findCutting 313 = .ok (.istore_n 2, 1) := by decide +kernel
theorem dX12_findCutting_314 : decode cX12_findCutting 314 = .ok (.iload_n 1, 1) := by decide +kernel
theorem dX12_findCutting_315 : decode cX12_findCutting 315 = .ok (.aload_n 0, 1) := by decide +kernel
theorem dX12_findCutting_316 : decode cX12_findCutting 316 = .ok (.getfield 81, 3) := by decide +kernel
theorem dX12_findCutting_319 : decode cX12_findCutting 319 = .ok (.iload 4, 2) := by decide +kernel
theorem dX12_findCutting_321 : decode cX12_findCutting 321 = .ok (.iaload, 1) := by decide +kernel
theorem dX12_findCutting_322 : decode cX12_findCutting 322 = .ok (.iadd, 1) := by decide +kernel
theorem dX12_findCutting_323 : decode cX12_findCutting 323 = .ok (.istore_n 1, 1) := by decide +kernel
theorem dX12_findCutting_324 : decode cX12_findCutting 324 = .ok (.iload 6, 2) := by decide +kernel
theorem dX12_findCutting_326 : decode cX12_findCutting 326 = .ok (.bipush 16, 2) := by decide +kernel
theorem dX12_findCutting_328 : decode cX12_findCutting 328 = .ok (.if_icmp .ne 27, 3) := by decide +kernel
theorem dX12_findCutting_331 : decode cX12_findCutting 331 = .ok (.iload_n 1, 1) := by decide +kernel
theorem dX12_findCutting_332 : decode cX12_findCutting 332 = .ok (.aload_n 0, 1) := by decide +kernel
theorem dX12_findCutting_333 : decode cX12_findCutting 333 = .ok (.getfield 84, 3) := by decide +kernel
theorem dX12_findCutting_336 : decode cX12_findCutting 336 = .ok (.iload 4, 2) := by decide +kernel
theorem dX12_findCutting_338 : decode cX12_findCutting 338 = .ok (.baload, 1) := by decide +kernel
theorem dX12_findCutting_339 : decode cX12_findCutting 339 = .ok (.ifCond .eq 7, 3) := by decide +kernel
theorem dX12_findCutting_342 : decode cX12_findCutting 342 = .ok (.iconst 0, 1) := by decide +kernel
theorem dX12_findCutting_343 : decode cX12_findCutting 343 = .ok (.goto 10, 3) := by decide +kernel
theorem dX12_findCutting_346 : decode cX12_findCutting 346 = .ok (.aload_n 0, 1) := by decide +kernel
theorem dX12_findCutting_347 : decode cX12_findCutting 347 = .ok (.getfield 81, 3) := by decide +kernel
theorem dX12_findCutting_350 : decode cX12_findCutting 350 = .ok (.iload 4, 2) := by decide +kernel
theorem dX12_findCutting_352 : decode cX12_findCutting 352 = .ok (.iaload, 1) := by decide +kernel
theorem dX12_findCutting_353 : decode cX12_findCutting 353 = .ok (.iadd, 1) := by decide +kernel
theorem dX12_findCutting_354 : decode cX12_findCutting 354 = .ok (.istore_n 1, 1) := by decide +kernel
theorem dX12_findCutting_355 : decode cX12_findCutting 355 = .ok (.iload 6, 2) := by decide +kernel
theorem dX12_findCutting_357 : decode cX12_findCutting 357 = .ok (.iconst 1, 1) := by decide +kernel
theorem dX12_findCutting_358 : decode cX12_findCutting 358 = .ok (.iadd, 1) := by decide +kernel
theorem dX12_findCutting_359 : decode cX12_findCutting 359 = .ok (.istore 7, 2) := by decide +kernel
theorem dX12_findCutting_361 : decode cX12_findCutting 361 = .ok (.iload 7, 2) := by decide +kernel
theorem dX12_findCutting_363 : decode cX12_findCutting 363 = .ok (.bipush 16, 2) := by decide +kernel
theorem dX12_findCutting_365 : decode cX12_findCutting 365 = .ok (.if_icmp .ge 20, 3) := by decide +kernel
theorem dX12_findCutting_368 : decode cX12_findCutting 368 = .ok (.aload_n 0, 1) := by decide +kernel
theorem dX12_findCutting_369 : decode cX12_findCutting 369 = .ok (.iload 4, 2) := by decide +kernel
theorem dX12_findCutting_371 : decode cX12_findCutting 371 = .ok (.iload 7, 2) := by decide +kernel
theorem dX12_findCutting_373 : decode cX12_findCutting 373 = .ok (.invokevirtual 255, 3) := by decide +kernel
theorem dX12_findCutting_376 : decode cX12_findCutting 376 = .ok (.ifCond .ne 9, 3) := by decide +kernel
theorem dX12_findCutting_379 : decode cX12_findCutting 379 = .ok (.iinc 7 1, 3) := by decide +kernel
theorem dX12_findCutting_382 : decode cX12_findCutting 382 = .ok (.goto (-21), 3) := by decide +kernel
theorem dX12_findCutting_385 : decode cX12_findCutting 385 = .ok (.iload_n 2, 1) := by decide +kernel
theorem dX12_findCutting_386 : decode cX12_findCutting 386 = .ok (.iload_n 1, 1) := by decide +kernel
theorem dX12_findCutting_387 : decode cX12_findCutting 387 = .ok (.iadd, 1) := by decide +kernel
theorem dX12_findCutting_388 : decode cX12_findCutting 388 = .ok (.aload_n 0, 1) := by decide +kernel
theorem dX12_findCutting_389 : decode cX12_findCutting 389 = .ok (.getfield 249, 3) := by decide +kernel
theorem dX12_findCutting_392 : decode cX12_findCutting 392 = .ok (.if_icmp .lt 28, 3) := by decide +kernel
theorem dX12_findCutting_395 : decode cX12_findCutting 395 = .ok (.iload_n 2, 1) := by decide +kernel
theorem dX12_findCutting_396 : decode cX12_findCutting 396 = .ok (.iload_n 1, 1) := by decide +kernel
theorem dX12_findCutting_397 : decode cX12_findCutting 397 = .ok (.iadd, 1) := by decide +kernel
theorem dX12_findCutting_398 : decode cX12_findCutting 398 = .ok (.aload_n 0, 1) := by decide +kernel
theorem dX12_findCutting_399 : decode cX12_findCutting 399 = .ok (.getfield 249, 3) := by decide +kernel
theorem dX12_findCutting_402 : decode cX12_findCutting 402 = .ok (.if_icmp .ne 22, 3) := by decide +kernel
theorem dX12_findCutting_405 : decode cX12_findCutting 405 = .ok (.iload_n 3, 1) := by decide +kernel
theorem dX12_findCutting_406 : decode cX12_findCutting 406 = .ok (.aload_n 0, 1) := by decide +kernel
theorem dX12_findCutting_407 : decode cX12_findCutting 407 = .ok (.getfield 252, 3) := by decide +kernel
theorem dX12_findCutting_410 : decode cX12_findCutting 410 = .ok (.if_icmp .lt 14, 3) := by decide +kernel
theorem dX12_findCutting_413 : decode cX12_findCutting 413 = .ok (.aload_n 0, 1) := by decide +kernel
theorem dX12_findCutting_414 : decode cX12_findCutting 414 = .ok (.getfield 249, 3) := by decide +kernel
theorem dX12_findCutting_417 : decode cX12_findCutting 417 = .ok (.ifCond .lt 7, 3) := by decide +kernel
theorem dX12_findCutting_420 : decode cX12_findCutting 420 = .ok (.iconst 1, 1) := by decide +kernel
theorem dX12_findCutting_421 : decode cX12_findCutting 421 = .ok (.goto 4, 3) := by decide +kernel
theorem dX12_findCutting_424 : decode cX12_findCutting 424 = .ok (.iconst 0, 1) := by decide +kernel
theorem dX12_findCutting_425 : decode cX12_findCutting 425 = .ok (.istore 8, 2) := by decide +kernel
theorem dX12_findCutting_427 : decode cX12_findCutting 427 = .ok (.iload 7, 2) := by decide +kernel
theorem dX12_findCutting_429 : decode cX12_findCutting 429 = .ok (.bipush 16, 2) := by decide +kernel
theorem dX12_findCutting_431 : decode cX12_findCutting 431 = .ok (.if_icmp .gt 8, 3) := by decide +kernel
theorem dX12_findCutting_434 : decode cX12_findCutting 434 = .ok (.iload 8, 2) := by decide +kernel
theorem dX12_findCutting_436 : decode cX12_findCutting 436 = .ok (.ifCond .eq 7, 3) := by decide +kernel
theorem dX12_findCutting_439 : decode cX12_findCutting 439 = .ok (.iconst 1, 1) := by decide +kernel
theorem dX12_findCutting_440 : decode cX12_findCutting 440 = .ok (.goto 4, 3) := by decide +kernel
theorem dX12_findCutting_443 : decode cX12_findCutting 443 = .ok (.iconst 0, 1) := by decide +kernel
theorem dX12_findCutting_444 : decode cX12_findCutting 444 = .ok (.istore 5, 2) := by decide +kernel
theorem dX12_findCutting_446 : decode cX12_findCutting 446 = .ok (.aload_n 0, 1) := by decide +kernel
theorem dX12_findCutting_447 : decode cX12_findCutting 447 = .ok (.getfield 108, 3) := by decide +kernel
theorem dX12_findCutting_450 : decode cX12_findCutting 450 = .ok (.iload 4, 2) := by decide +kernel
theorem dX12_findCutting_452 : decode cX12_findCutting 452 = .ok (.iload 5, 2) := by decide +kernel
theorem dX12_findCutting_454 : decode cX12_findCutting 454 = .ok (.ifCond .eq 7, 3) := by decide +kernel
theorem dX12_findCutting_457 : decode cX12_findCutting 457 = .ok (.iconst (-1), 1) := by decide +kernel
theorem dX12_findCutting_458 : decode cX12_findCutting 458 = .ok (.goto 5, 3) := by decide +kernel
theorem dX12_findCutting_461 : decode cX12_findCutting 461 = .ok (.iload 7, 2) := by decide +kernel
theorem dX12_findCutting_463 : decode cX12_findCutting 463 = .ok (.iastore, 1) := by decide +kernel
theorem dX12_findCutting_464 : decode cX12_findCutting 464 = .ok (.iload 5, 2) := by decide +kernel
theorem dX12_findCutting_466 : decode cX12_findCutting 466 = .ok (.ifCond .ne 93, 3) := by decide +kernel
theorem dX12_findCutting_469 : decode cX12_findCutting 469 = .ok (.iload_n 1, 1) := by decide +kernel
theorem dX12_findCutting_470 : decode cX12_findCutting 470 = .ok (.aload_n 0, 1) := by decide +kernel
theorem dX12_findCutting_471 : decode cX12_findCutting 471 = .ok (.getfield 84, 3) := by decide +kernel
theorem dX12_findCutting_474 : decode cX12_findCutting 474 = .ok (.iload 4, 2) := by decide +kernel
theorem dX12_findCutting_476 : decode cX12_findCutting 476 = .ok (.baload, 1) := by decide +kernel
theorem dX12_findCutting_477 : decode cX12_findCutting 477 = .ok (.ifCond .eq 7, 3) := by decide +kernel
theorem dX12_findCutting_480 : decode cX12_findCutting 480 = .ok (.iconst 0, 1) := by decide +kernel
theorem dX12_findCutting_481 : decode cX12_findCutting 481 = .ok (.goto 10, 3) := by decide +kernel
theorem dX12_findCutting_484 : decode cX12_findCutting 484 = .ok (.aload_n 0, 1) := by decide +kernel
theorem dX12_findCutting_485 : decode cX12_findCutting 485 = .ok (.getfield 81, 3) := by decide +kernel
theorem dX12_findCutting_488 : decode cX12_findCutting 488 = .ok (.iload 4, 2) := by decide +kernel
theorem dX12_findCutting_490 : decode cX12_findCutting 490 = .ok (.iaload, 1) := by decide +kernel
theorem dX12_findCutting_491 : decode cX12_findCutting 491 = .ok (.isub, 1) := by decide +kernel
theorem dX12_findCutting_492 : decode cX12_findCutting 492 = .ok (.istore_n 1, 1) := by decide +kernel
theorem dX12_findCutting_493 : decode cX12_findCutting 493 = .ok (.iload 7, 2) := by decide +kernel
theorem dX12_findCutting_495 : decode cX12_findCutting 495 = .ok (.bipush 16, 2) := by decide +kernel
theorem dX12_findCutting_497 : decode cX12_findCutting 497 = .ok (.if_icmp .ge 59, 3) := by decide +kernel
theorem dX12_findCutting_500 : decode cX12_findCutting 500 = .ok (.aload_n 0, 1) := by decide +kernel
theorem dX12_findCutting_501 : decode cX12_findCutting 501 = .ok (.getfield 114, 3) := by decide +kernel
theorem dX12_findCutting_504 : decode cX12_findCutting 504 = .ok (.iload 7, 2) := by decide +kernel
theorem dX12_findCutting_506 : decode cX12_findCutting 506 = .ok (.dup2, 1) := by decide +kernel
theorem dX12_findCutting_507 : decode cX12_findCutting 507 = .ok (.iaload, 1) := by decide +kernel
theorem dX12_findCutting_508 : decode cX12_findCutting 508 = .ok (.aload_n 0, 1) := by decide +kernel
theorem dX12_findCutting_509 : decode cX12_findCutting 509 = .ok (.getfield 81, 3) := by decide +kernel
theorem dX12_findCutting_512 : decode cX12_findCutting 512 = .ok (.iload 4, 2) := by decide +kernel
theorem dX12_findCutting_514 : decode cX12_findCutting 514 = .ok (.iaload, 1) := by decide +kernel
theorem dX12_findCutting_515 : decode cX12_findCutting 515 = .ok (.isub, 1) := by decide +kernel
theorem dX12_findCutting_516 : decode cX12_findCutting 516 = .ok (.iastore, 1) := by decide +kernel
theorem dX12_findCutting_517 : decode cX12_findCutting 517 = .ok (.iload_n 3, 1) := by decide +kernel
theorem dX12_findCutting_518 : decode cX12_findCutting 518 = .ok (.aload_n 0, 1) := by decide +kernel
theorem dX12_findCutting_519 : decode cX12_findCutting 519 = .ok (.getfield 117, 3) := by decide +kernel
theorem dX12_findCutting_522 : decode cX12_findCutting 522 = .ok (.iload 7, 2) := by decide +kernel
theorem dX12_findCutting_524 : decode cX12_findCutting 524 = .ok (.iaload, 1) := by decide +kernel
theorem dX12_findCutting_525 : decode cX12_findCutting 525 = .ok (.ifCond .ne 7, 3) := by decide +kernel
theorem dX12_findCutting_528 : decode cX12_findCutting 528 = .ok (.iconst 1, 1) := by decide +kernel
theorem dX12_findCutting_529 : decode cX12_findCutting 529 = .ok (.goto 4, 3) := by decide +kernel
theorem dX12_findCutting_532 : decode cX12_findCutting 532 = .ok (.iconst 0, 1) := by decide +kernel
theorem dX12_findCutting_533 : decode cX12_findCutting 533 = .ok (.iadd, 1) := by decide +kernel
theorem dX12_findCutting_534 : decode cX12_findCutting 534 = .ok (.istore_n 3, 1) := by decide +kernel
theorem dX12_findCutting_535 : decode cX12_findCutting 535 = .ok (.aload_n 0, 1) := by decide +kernel
theorem dX12_findCutting_536 : decode cX12_findCutting 536 = .ok (.getfield 117, 3) := by decide +kernel
theorem dX12_findCutting_539 : decode cX12_findCutting 539 = .ok (.iload 7, 2) := by decide +kernel
theorem dX12_findCutting_541 : decode cX12_findCutting 541 = .ok (.dup2, 1) := by decide +kernel
theorem dX12_findCutting_542 : decode cX12_findCutting 542 = .ok (.iaload, 1) := by decide +kernel
theorem dX12_findCutting_543 : decode cX12_findCutting 543 = .ok (.iconst 1, 1) := by decide +kernel
theorem dX12_findCutting_544 : decode cX12_findCutting 544 = .ok (.iadd, 1) := by decide +kernel
theorem dX12_findCutting_545 : decode cX12_findCutting 545 = .ok (.iastore, 1) := by decide +kernel
theorem dX12_findCutting_546 : decode cX12_findCutting 546 = .ok (.iload_n 2, 1) := by decide +kernel
theorem dX12_findCutting_547 : decode cX12_findCutting 547 = .ok (.aload_n 0, 1) := by decide +kernel
theorem dX12_findCutting_548 : decode cX12_findCutting 548 = .ok (.getfield 81, 3) := by decide +kernel
theorem dX12_findCutting_551 : decode cX12_findCutting 551 = .ok (.iload 4, 2) := by decide +kernel
theorem dX12_findCutting_553 : decode cX12_findCutting 553 = .ok (.iaload, 1) := by decide +kernel
theorem dX12_findCutting_554 : decode cX12_findCutting 554 = .ok (.iadd, 1) := by decide +kernel
theorem dX12_findCutting_555 : decode cX12_findCutting 555 = .ok (.istore_n 2, 1) := by decide +kernel
theorem dX12_findCutting_556 : decode cX12_findCutting 556 = .ok (.iinc 4 1, 3) := by decide +kernel
theorem dX12_findCutting_559 : decode cX12_findCutting 559 = .ok (.iload 4, 2) := by decide +kernel
theorem dX12_findCutting_561 : decode cX12_findCutting 561 = .ok (.iload 5, 2) := by decide +kernel
theorem dX12_findCutting_563 : decode cX12_findCutting 563 = .ok (.ifCond .eq 7, 3) := by decide +kernel
theorem dX12_findCutting_566 : decode cX12_findCutting 566 = .ok (.iconst 1, 1) := by decide +kernel
theorem dX12_findCutting_567 : decode cX12_findCutting 567 = .ok (.goto 4, 3) := by decide +kernel
theorem dX12_findCutting_570 : decode cX12_findCutting 570 = .ok (.iconst 0, 1) := by decide +kernel
theorem dX12_findCutting_571 : decode cX12_findCutting 571 = .ok (.isub, 1) := by decide +kernel
theorem dX12_findCutting_572 : decode cX12_findCutting 572 = .ok (.istore 4, 2) := by decide +kernel
theorem dX12_findCutting_574 : decode cX12_findCutting 574 = .ok (.goto (-448), 3) := by decide +kernel
theorem dX12_findCutting_577 : decode cX12_findCutting 577 = .ok (.return_, 1) := by decide +kernel
theorem dX12_cutting_0 : decode cX12_cutting 0 = .ok (.aload_n 0, 1) := by decide +kernel
theorem dX12_cutting_1 : decode cX12_cutting 1 = .ok (.invokevirtual 258, 3) := by decide +kernel
theorem dX12_cutting_4 : decode cX12_cutting 4 = .ok (.aload_n 0, 1) := by decide +kernel
theorem dX12_cutting_5 : decode cX12_cutting 5 = .ok (.getfield 249, 3) := by decide +kernel
theorem dX12_cutting_8 : decode cX12_cutting 8 = .ok (.ireturn, 1) := by decide +kernel
theorem dX12_from_0 : decode cX12_from 0 = .ok (.iload_n 1, 1) := by decide +kernel
theorem dX12_from_1 : decode cX12_from 1 = .ok (.iconst 0, 1) := by decide +kernel
theorem dX12_from_2 : decode cX12_from 2 = .ok (.aload_n 0, 1) := by decide +kernel
theorem dX12_from_3 : decode cX12_from 3 = .ok (.getfield 246, 3) := by decide +kernel
theorem dX12_from_6 : decode cX12_from 6 = .ok (.iconst 1, 1) := by decide +kernel
theorem dX12_from_7 : decode cX12_from 7 = .ok (.isub, 1) := by decide +kernel
theorem dX12_from_8 : decode cX12_from 8 = .ok (.invokestatic 123, 3) := by decide +kernel
theorem dX12_from_11 : decode cX12_from 11 = .ok (.ifCond .ne 6, 3) := by decide +kernel
theorem dX12_from_14 : decode cX12_from 14 = .ok (.bipush (-2), 2) := by decide +kernel
theorem dX12_from_16 : decode cX12_from 16 = .ok (.ireturn, 1) := by decide +kernel
theorem dX12_from_17 : decode cX12_from 17 = .ok (.aload_n 0, 1) := by decide +kernel
theorem dX12_from_18 : decode cX12_from 18 = .ok (.invokevirtual 258, 3) := by decide +kernel
theorem dX12_from_21 : decode cX12_from 21 = .ok (.aload_n 0, 1) := by decide +kernel
theorem dX12_from_22 : decode cX12_from 22 = .ok (.getfield 111, 3) := by decide +kernel
theorem dX12_from_25 : decode cX12_from 25 = .ok (.iload_n 1, 1) := by decide +kernel
theorem dX12_from_26 : decode cX12_from 26 = .ok (.iaload, 1) := by decide +kernel
theorem dX12_from_27 : decode cX12_from 27 = .ok (.ireturn, 1) := by decide +kernel
theorem dX12_cut_0 : decode cX12_cut 0 = .ok (.aload_n 0, 1) := by decide +kernel
theorem dX12_cut_1 : decode cX12_cut 1 = .ok (.invokevirtual 258, 3) := by decide +kernel
theorem dX12_cut_4 : decode cX12_cut 4 = .ok (.iconst 0, 1) := by decide +kernel
theorem dX12_cut_5 : decode cX12_cut 5 = .ok (.istore_n 1, 1) := by decide +kernel
theorem dX12_cut_6 : decode cX12_cut 6 = .ok (.iconst 0, 1) := by decide +kernel
theorem dX12_cut_7 : decode cX12_cut 7 = .ok (.istore_n 2, 1) := by decide +kernel
theorem dX12_cut_8 : decode cX12_cut 8 = .ok (.iload_n 2, 1) := by decide +kernel
theorem dX12_cut_9 : decode cX12_cut 9 = .ok (.aload_n 0, 1) := by decide +kernel
theorem dX12_cut_10 : decode cX12_cut 10 = .ok (.getfield 246, 3) := by decide +kernel
theorem dX12_cut_13 : decode cX12_cut 13 = .ok (.if_icmp .ge 78, 3) := by decide +kernel
theorem dX12_cut_16 : decode cX12_cut 16 = .ok (.aload_n 0, 1) := by decide +kernel
theorem dX12_cut_17 : decode cX12_cut 17 = .ok (.getfield 111, 3) := by decide +kernel
theorem dX12_cut_20 : decode cX12_cut 20 = .ok (.iload_n 2, 1) := by decide +kernel
theorem dX12_cut_21 : decode cX12_cut 21 = .ok (.iaload, 1) := by decide +kernel
theorem dX12_cut_22 : decode cX12_cut 22 = .ok (.istore_n 3, 1) := by decide +kernel
theorem dX12_cut_23 : decode cX12_cut 23 = .ok (.iload_n 3, 1) := by decide +kernel
theorem dX12_cut_24 : decode cX12_cut 24 = .ok (.iconst (-1), 1) := by decide +kernel
theorem dX12_cut_25 : decode cX12_cut 25 = .ok (.if_icmp .eq 60, 3) := by decide +kernel
theorem dX12_cut_28 : decode cX12_cut 28 = .ok (.aload_n 0, 1) := by decide +kernel
theorem dX12_cut_29 : decode cX12_cut 29 = .ok (.getfield 52, 3) := by decide +kernel
theorem dX12_cut_32 : decode cX12_cut 32 = .ok (.iload_n 3, 1) := by decide +kernel
theorem dX12_cut_33 : decode cX12_cut 33 = .ok (.iaload, 1) := by decide +kernel
theorem dX12_cut_34 : decode cX12_cut 34 = .ok (.i2l, 1) := by decide +kernel
theorem dX12_cut_35 : decode cX12_cut 35 = .ok (.aload_n 0, 1) := by decide +kernel
theorem dX12_cut_36 : decode cX12_cut 36 = .ok (.getfield 52, 3) := by decide +kernel
theorem dX12_cut_39 : decode cX12_cut 39 = .ok (.iload_n 3, 1) := by decide +kernel
theorem dX12_cut_40 : decode cX12_cut 40 = .ok (.iaload, 1) := by decide +kernel
theorem dX12_cut_41 : decode cX12_cut 41 = .ok (.i2l, 1) := by decide +kernel
theorem dX12_cut_42 : decode cX12_cut 42 = .ok (.lmul, 1) := by decide +kernel
theorem dX12_cut_43 : decode cX12_cut 43 = .ok (.aload_n 0, 1) := by decide +kernel
theorem dX12_cut_44 : decode cX12_cut 44 = .ok (.getfield 81, 3) := by decide +kernel
theorem dX12_cut_47 : decode cX12_cut 47 = .ok (.iload_n 2, 1) := by decide +kernel
theorem dX12_cut_48 : decode cX12_cut 48 = .ok (.iaload, 1) := by decide +kernel
theorem dX12_cut_49 : decode cX12_cut 49 = .ok (.i2l, 1) := by decide +kernel
theorem dX12_cut_50 : decode cX12_cut 50 = .ok (.lmul, 1) := by decide +kernel
theorem dX12_cut_51 : decode cX12_cut 51 = .ok (.lstore 4, 2) := by decide +kernel
theorem dX12_cut_53 : decode cX12_cut 53 = .ok (.aload_n 0, 1) := by decide +kernel
theorem dX12_cut_54 : decode cX12_cut 54 = .ok (.getfield 58, 3) := by decide +kernel
theorem dX12_cut_57 : decode cX12_cut 57 = .ok (.iload_n 3, 1) := by decide +kernel
theorem dX12_cut_58 : decode cX12_cut 58 = .ok (.dup2, 1) := by decide +kernel
theorem dX12_cut_59 : decode cX12_cut 59 = .ok (.laload, 1) := by decide +kernel
theorem dX12_cut_60 : decode cX12_cut 60 = .ok (.lload 4, 2) := by decide +kernel
theorem dX12_cut_62 : decode cX12_cut 62 = .ok (.lsub, 1) := by decide +kernel
theorem dX12_cut_63 : decode cX12_cut 63 = .ok (.lastore, 1) := by decide +kernel
theorem dX12_cut_64 : decode cX12_cut 64 = .ok (.aload_n 0, 1) := by decide +kernel
theorem dX12_cut_65 : decode cX12_cut 65 = .ok (.dup, 1) := by decide +kernel
theorem dX12_cut_66 : decode cX12_cut 66 = .ok (.getfield 261, 3) := by decide +kernel
theorem dX12_cut_69 : decode cX12_cut 69 = .ok (.lload 4, 2) := by decide +kernel
theorem dX12_cut_71 : decode cX12_cut 71 = .ok (.ladd, 1) := by decide +kernel
theorem dX12_cut_72 : decode cX12_cut 72 = .ok (.putfield 261, 3) := by decide +kernel
theorem dX12_cut_75 : decode cX12_cut 75 = .ok (.aload_n 0, 1) := by decide +kernel
theorem dX12_cut_76 : decode cX12_cut 76 = .ok (.getfield 84, 3) := by decide +kernel
theorem dX12_cut_79 : decode cX12_cut 79 = .ok (.iload_n 2, 1) := by decide +kernel
theorem dX12_cut_80 : decode cX12_cut 80 = .ok (.iconst 1, 1) := by decide +kernel
theorem dX12_cut_81 : decode cX12_cut 81 = .ok (.bastore, 1) := by decide +kernel
theorem dX12_cut_82 : decode cX12_cut 82 = .ok (.iinc 1 1, 3) := by decide +kernel
theorem dX12_cut_85 : decode cX12_cut 85 = .ok (.iinc 2 1, 3) := by decide +kernel
theorem dX12_cut_88 : decode cX12_cut 88 = .ok (.goto (-80), 3) := by decide +kernel
theorem dX12_cut_91 : decode cX12_cut 91 = .ok (.iconst 0, 1) := by decide +kernel
theorem dX12_cut_92 : decode cX12_cut 92 = .ok (.istore_n 2, 1) := by decide +kernel
theorem dX12_cut_93 : decode cX12_cut 93 = .ok (.iload_n 2, 1) := by decide +kernel
theorem dX12_cut_94 : decode cX12_cut 94 = .ok (.aload_n 0, 1) := by decide +kernel
theorem dX12_cut_95 : decode cX12_cut 95 = .ok (.getfield 246, 3) := by decide +kernel
theorem dX12_cut_98 : decode cX12_cut 98 = .ok (.if_icmp .ge 68, 3) := by decide +kernel
theorem dX12_cut_101 : decode cX12_cut 101 = .ok (.aload_n 0, 1) := by decide +kernel
theorem dX12_cut_102 : decode cX12_cut 102 = .ok (.getfield 111, 3) := by decide +kernel
theorem dX12_cut_105 : decode cX12_cut 105 = .ok (.iload_n 2, 1) := by decide +kernel
theorem dX12_cut_106 : decode cX12_cut 106 = .ok (.iaload, 1) := by decide +kernel
theorem dX12_cut_107 : decode cX12_cut 107 = .ok (.istore_n 3, 1) := by decide +kernel
theorem dX12_cut_108 : decode cX12_cut 108 = .ok (.iload_n 3, 1) := by decide +kernel
theorem dX12_cut_109 : decode cX12_cut 109 = .ok (.iconst (-1), 1) := by decide +kernel
theorem dX12_cut_110 : decode cX12_cut 110 = .ok (.if_icmp .eq 50, 3) := by decide +kernel
theorem dX12_cut_113 : decode cX12_cut 113 = .ok (.aload_n 0, 1) := by decide +kernel
theorem dX12_cut_114 : decode cX12_cut 114 = .ok (.getfield 58, 3) := by decide +kernel
theorem dX12_cut_117 : decode cX12_cut 117 = .ok (.iload_n 3, 1) := by decide +kernel
theorem dX12_cut_118 : decode cX12_cut 118 = .ok (.laload, 1) := by decide +kernel
theorem dX12_cut_119 : decode cX12_cut 119 = .ok (.lconst 0, 1) := by decide +kernel
theorem dX12_cut_120 : decode cX12_cut 120 = .ok (.lcmp, 1) := by decide +kernel
theorem dX12_cut_121 : decode cX12_cut 121 = .ok (.ifCond .le 39, 3) := by decide +kernel
theorem dX12_cut_124 : decode cX12_cut 124 = .ok (.aload_n 0, 1) := by decide +kernel
theorem dX12_cut_125 : decode cX12_cut 125 = .ok (.iload_n 3, 1) := by decide +kernel
theorem dX12_cut_126 : decode cX12_cut 126 = .ok (.invokevirtual 167, 3) := by decide +kernel
theorem dX12_cut_129 : decode cX12_cut 129 = .ok (.aload_n 0, 1) := by decide +kernel
theorem dX12_cut_130 : decode cX12_cut 130 = .ok (.getfield 25, 3) := by decide +kernel
theorem dX12_cut_133 : decode cX12_cut 133 = .ok (.iconst 5, 1) := by decide +kernel
theorem dX12_cut_134 : decode cX12_cut 134 = .ok (.iaload, 1) := by decide +kernel
theorem dX12_cut_135 : decode cX12_cut 135 = .ok (.if_icmp .ge 25, 3) := by decide +kernel
theorem dX12_cut_138 : decode cX12_cut 138 = .ok (.aload_n 0, 1) := by decide +kernel
theorem dX12_cut_139 : decode cX12_cut 139 = .ok (.dup, 1) := by decide +kernel
theorem dX12_cut_140 : decode cX12_cut 140 = .ok (.getfield 170, 3) := by decide +kernel
theorem dX12_cut_143 : decode cX12_cut 143 = .ok (.aload_n 0, 1) := by decide +kernel
theorem dX12_cut_144 : decode cX12_cut 144 = .ok (.getfield 58, 3) := by decide +kernel
theorem dX12_cut_147 : decode cX12_cut 147 = .ok (.iload_n 3, 1) := by decide +kernel
theorem dX12_cut_148 : decode cX12_cut 148 = .ok (.laload, 1) := by decide +kernel
theorem dX12_cut_149 : decode cX12_cut 149 = .ok (.ladd, 1) := by decide +kernel
theorem dX12_cut_150 : decode cX12_cut 150 = .ok (.putfield 170, 3) := by decide +kernel
theorem dX12_cut_153 : decode cX12_cut 153 = .ok (.aload_n 0, 1) := by decide +kernel
theorem dX12_cut_154 : decode cX12_cut 154 = .ok (.getfield 58, 3) := by decide +kernel
theorem dX12_cut_157 : decode cX12_cut 157 = .ok (.iload_n 3, 1) := by decide +kernel
theorem dX12_cut_158 : decode cX12_cut 158 = .ok (.lconst 0, 1) := by decide +kernel
theorem dX12_cut_159 : decode cX12_cut 159 = .ok (.lastore, 1) := by decide +kernel
theorem dX12_cut_160 : decode cX12_cut 160 = .ok (.iinc 2 1, 3) := by decide +kernel
theorem dX12_cut_163 : decode cX12_cut 163 = .ok (.goto (-70), 3) := by decide +kernel
theorem dX12_cut_166 : decode cX12_cut 166 = .ok (.iload_n 1, 1) := by decide +kernel
theorem dX12_cut_167 : decode cX12_cut 167 = .ok (.ireturn, 1) := by decide +kernel
theorem dX12_filled_0 : decode cX12_filled 0 = .ok (.iload_n 1, 1) := by decide +kernel
theorem dX12_filled_1 : decode cX12_filled 1 = .ok (.iconst 0, 1) := by decide +kernel
theorem dX12_filled_2 : decode cX12_filled 2 = .ok (.aload_n 0, 1) := by decide +kernel
theorem dX12_filled_3 : decode cX12_filled 3 = .ok (.getfield 246, 3) := by decide +kernel
theorem dX12_filled_6 : decode cX12_filled 6 = .ok (.iconst 1, 1) := by decide +kernel
theorem dX12_filled_7 : decode cX12_filled 7 = .ok (.isub, 1) := by decide +kernel
theorem dX12_filled_8 : decode cX12_filled 8 = .ok (.invokestatic 123, 3) := by decide +kernel
theorem dX12_filled_11 : decode cX12_filled 11 = .ok (.ifCond .ne 8, 3) := by decide +kernel
theorem dX12_filled_14 : decode cX12_filled 14 = .ok (.bipush (-2), 2) := by decide +kernel
theorem dX12_filled_16 : decode cX12_filled 16 = .ok (.goto 17, 3) := by decide +kernel
theorem dX12_filled_19 : decode cX12_filled 19 = .ok (.aload_n 0, 1) := by decide +kernel
theorem dX12_filled_20 : decode cX12_filled 20 = .ok (.getfield 84, 3) := by decide +kernel
theorem dX12_filled_23 : decode cX12_filled 23 = .ok (.iload_n 1, 1) := by decide +kernel
theorem dX12_filled_24 : decode cX12_filled 24 = .ok (.baload, 1) := by decide +kernel
theorem dX12_filled_25 : decode cX12_filled 25 = .ok (.ifCond .eq 7, 3) := by decide +kernel
theorem dX12_filled_28 : decode cX12_filled 28 = .ok (.iconst 1, 1) := by decide +kernel
theorem dX12_filled_29 : decode cX12_filled 29 = .ok (.goto 4, 3) := by decide +kernel
theorem dX12_filled_32 : decode cX12_filled 32 = .ok (.iconst 0, 1) := by decide +kernel
theorem dX12_filled_33 : decode cX12_filled 33 = .ok (.ireturn, 1) := by decide +kernel
theorem dX12_note_0 : decode cX12_note 0 = .ok (.iload_n 1, 1) := by decide +kernel
theorem dX12_note_1 : decode cX12_note 1 = .ok (.iconst 0, 1) := by decide +kernel
theorem dX12_note_2 : decode cX12_note 2 = .ok (.bipush 7, 2) := by decide +kernel
theorem dX12_note_4 : decode cX12_note 4 = .ok (.invokestatic 123, 3) := by decide +kernel
theorem dX12_note_7 : decode cX12_note 7 = .ok (.ifCond .ne 6, 3) := by decide +kernel
theorem dX12_note_10 : decode cX12_note 10 = .ok (.bipush (-3), 2) := by decide +kernel
theorem dX12_note_12 : decode cX12_note 12 = .ok (.ireturn, 1) := by decide +kernel
theorem dX12_note_13 : decode cX12_note 13 = .ok (.aload_n 0, 1) := by decide +kernel
theorem dX12_note_14 : decode cX12_note 14 = .ok (.getfield 264, 3) := by decide +kernel
theorem dX12_note_17 : decode cX12_note 17 = .ok (.bipush 60, 2) := by decide +kernel
theorem dX12_note_19 : decode cX12_note 19 = .ok (.if_icmp .ne 6, 3) := by decide +kernel
theorem dX12_note_22 : decode cX12_note 22 = .ok (.bipush (-8), 2) := by decide +kernel
theorem dX12_note_24 : decode cX12_note 24 = .ok (.ireturn, 1) := by decide +kernel
theorem dX12_note_25 : decode cX12_note 25 = .ok (.aload_n 0, 1) := by decide +kernel
theorem dX12_note_26 : decode cX12_note 26 = .ok (.getfield 87, 3) := by decide +kernel
theorem dX12_note_29 : decode cX12_note 29 = .ok (.aload_n 0, 1) := by decide +kernel
theorem dX12_note_30 : decode cX12_note 30 = .ok (.getfield 264, 3) := by decide +kernel
theorem dX12_note_33 : decode cX12_note 33 = .ok (.iload_n 1, 1) := by decide +kernel
theorem dX12_note_34 : decode cX12_note 34 = .ok (.iastore, 1) := by decide +kernel
theorem dX12_note_35 : decode cX12_note 35 = .ok (.aload_n 0, 1) := by decide +kernel
theorem dX12_note_36 : decode cX12_note 36 = .ok (.getfield 90, 3) := by decide +kernel
theorem dX12_note_39 : decode cX12_note 39 = .ok (.aload_n 0, 1) := by decide +kernel
theorem dX12_note_40 : decode cX12_note 40 = .ok (.getfield 264, 3) := by decide +kernel
theorem dX12_note_43 : decode cX12_note 43 = .ok (.iload_n 2, 1) := by decide +kernel
theorem dX12_note_44 : decode cX12_note 44 = .ok (.bastore, 1) := by decide +kernel
theorem dX12_note_45 : decode cX12_note 45 = .ok (.aload_n 0, 1) := by decide +kernel
theorem dX12_note_46 : decode cX12_note 46 = .ok (.dup, 1) := by decide +kernel
theorem dX12_note_47 : decode cX12_note 47 = .ok (.getfield 264, 3) := by decide +kernel
theorem dX12_note_50 : decode cX12_note 50 = .ok (.iconst 1, 1) := by decide +kernel
theorem dX12_note_51 : decode cX12_note 51 = .ok (.iadd, 1) := by decide +kernel
theorem dX12_note_52 : decode cX12_note 52 = .ok (.putfield 264, 3) := by decide +kernel
theorem dX12_note_55 : decode cX12_note 55 = .ok (.aload_n 0, 1) := by decide +kernel
theorem dX12_note_56 : decode cX12_note 56 = .ok (.getfield 264, 3) := by decide +kernel
theorem dX12_note_59 : decode cX12_note 59 = .ok (.ireturn, 1) := by decide +kernel
theorem dX12_tallyOf_0 : decode cX12_tallyOf 0 = .ok (.iconst 0, 1) := by decide +kernel
theorem dX12_tallyOf_1 : decode cX12_tallyOf 1 = .ok (.istore_n 3, 1) := by decide +kernel
theorem dX12_tallyOf_2 : decode cX12_tallyOf 2 = .ok (.iconst 0, 1) := by decide +kernel
theorem dX12_tallyOf_3 : decode cX12_tallyOf 3 = .ok (.istore 4, 2) := by decide +kernel
theorem dX12_tallyOf_5 : decode cX12_tallyOf 5 = .ok (.iload 4, 2) := by decide +kernel
theorem dX12_tallyOf_7 : decode cX12_tallyOf 7 = .ok (.aload_n 0, 1) := by decide +kernel
theorem dX12_tallyOf_8 : decode cX12_tallyOf 8 = .ok (.getfield 264, 3) := by decide +kernel
theorem dX12_tallyOf_11 : decode cX12_tallyOf 11 = .ok (.if_icmp .ge 69, 3) := by decide +kernel
theorem dX12_tallyOf_14 : decode cX12_tallyOf 14 = .ok (.aload_n 0, 1) := by decide +kernel
theorem dX12_tallyOf_15 : decode cX12_tallyOf 15 = .ok (.getfield 87, 3) := by decide +kernel
theorem dX12_tallyOf_18 : decode cX12_tallyOf 18 = .ok (.iload 4, 2) := by decide +kernel
theorem dX12_tallyOf_20 : decode cX12_tallyOf 20 = .ok (.iaload, 1) := by decide +kernel
theorem dX12_tallyOf_21 : decode cX12_tallyOf 21 = .ok (.iload_n 1, 1) := by decide +kernel
theorem dX12_tallyOf_22 : decode cX12_tallyOf 22 = .ok (.ishr, 1) := by decide +kernel
theorem dX12_tallyOf_23 : decode cX12_tallyOf 23 = .ok (.iconst 1, 1) := by decide +kernel
theorem dX12_tallyOf_24 : decode cX12_tallyOf 24 = .ok (.iand, 1) := by decide +kernel
theorem dX12_tallyOf_25 : decode cX12_tallyOf 25 = .ok (.iconst 1, 1) := by decide +kernel
theorem dX12_tallyOf_26 : decode cX12_tallyOf 26 = .ok (.if_icmp .ne 7, 3) := by decide +kernel
theorem dX12_tallyOf_29 : decode cX12_tallyOf 29 = .ok (.iconst 1, 1) := by decide +kernel
theorem dX12_tallyOf_30 : decode cX12_tallyOf 30 = .ok (.goto 4, 3) := by decide +kernel
theorem dX12_tallyOf_33 : decode cX12_tallyOf 33 = .ok (.iconst 0, 1) := by decide +kernel
theorem dX12_tallyOf_34 : decode cX12_tallyOf 34 = .ok (.istore 5, 2) := by decide +kernel
theorem dX12_tallyOf_36 : decode cX12_tallyOf 36 = .ok (.iload_n 3, 1) := by decide +kernel
theorem dX12_tallyOf_37 : decode cX12_tallyOf 37 = .ok (.aload_n 0, 1) := by decide +kernel
theorem dX12_tallyOf_38 : decode cX12_tallyOf 38 = .ok (.getfield 90, 3) := by decide +kernel
theorem dX12_tallyOf_41 : decode cX12_tallyOf 41 = .ok (.iload 4, 2) := by decide +kernel
theorem dX12_tallyOf_43 : decode cX12_tallyOf 43 = .ok (.baload, 1) := by decide +kernel
theorem dX12_tallyOf_44 : decode cX12_tallyOf 44 = .ok (.ifCond .eq 7, 3) := by decide +kernel
theorem dX12_tallyOf_47 : decode cX12_tallyOf 47 = .ok (.iconst 0, 1) := by decide +kernel
theorem dX12_tallyOf_48 : decode cX12_tallyOf 48 = .ok (.goto 4, 3) := by decide +kernel
theorem dX12_tallyOf_51 : decode cX12_tallyOf 51 = .ok (.iconst 1, 1) := by decide +kernel
theorem dX12_tallyOf_52 : decode cX12_tallyOf 52 = .ok (.iload 5, 2) := by decide +kernel
theorem dX12_tallyOf_54 : decode cX12_tallyOf 54 = .ok (.ifCond .eq 7, 3) := by decide +kernel
theorem dX12_tallyOf_57 : decode cX12_tallyOf 57 = .ok (.iconst 0, 1) := by decide +kernel
theorem dX12_tallyOf_58 : decode cX12_tallyOf 58 = .ok (.goto 4, 3) := by decide +kernel
theorem dX12_tallyOf_61 : decode cX12_tallyOf 61 = .ok (.iconst 2, 1) := by decide +kernel
theorem dX12_tallyOf_62 : decode cX12_tallyOf 62 = .ok (.iadd, 1) := by decide +kernel
theorem dX12_tallyOf_63 : decode cX12_tallyOf 63 = .ok (.iload_n 2, 1) := by decide +kernel
theorem dX12_tallyOf_64 : decode cX12_tallyOf 64 = .ok (.if_icmp .ne 7, 3) := by decide +kernel
theorem dX12_tallyOf_67 : decode cX12_tallyOf 67 = .ok (.iconst 1, 1) := by decide +kernel
theorem dX12_tallyOf_68 : decode cX12_tallyOf 68 = .ok (.goto 4, 3) := by decide +kernel
theorem dX12_tallyOf_71 : decode cX12_tallyOf 71 = .ok (.iconst 0, 1) := by decide +kernel
theorem dX12_tallyOf_72 : decode cX12_tallyOf 72 = .ok (.iadd, 1) := by decide +kernel
theorem dX12_tallyOf_73 : decode cX12_tallyOf 73 = .ok (.istore_n 3, 1) := by decide +kernel
theorem dX12_tallyOf_74 : decode cX12_tallyOf 74 = .ok (.iinc 4 1, 3) := by decide +kernel
theorem dX12_tallyOf_77 : decode cX12_tallyOf 77 = .ok (.goto (-72), 3) := by decide +kernel
theorem dX12_tallyOf_80 : decode cX12_tallyOf 80 = .ok (.iload_n 3, 1) := by decide +kernel
theorem dX12_tallyOf_81 : decode cX12_tallyOf 81 = .ok (.ireturn, 1) := by decide +kernel
theorem dX12_tally_0 : decode cX12_tally 0 = .ok (.iload_n 1, 1) := by decide +kernel
theorem dX12_tally_1 : decode cX12_tally 1 = .ok (.iconst 0, 1) := by decide +kernel
theorem dX12_tally_2 : decode cX12_tally 2 = .ok (.iconst 2, 1) := by decide +kernel
theorem dX12_tally_3 : decode cX12_tally 3 = .ok (.invokestatic 123, 3) := by decide +kernel
theorem dX12_tally_6 : decode cX12_tally 6 = .ok (.ifCond .ne 6, 3) := by decide +kernel
theorem dX12_tally_9 : decode cX12_tally 9 = .ok (.bipush (-2), 2) := by decide +kernel
theorem dX12_tally_11 : decode cX12_tally 11 = .ok (.ireturn, 1) := by decide +kernel
theorem dX12_tally_12 : decode cX12_tally 12 = .ok (.iload_n 2, 1) := by decide +kernel
theorem dX12_tally_13 : decode cX12_tally 13 = .ok (.iconst 0, 1) := by decide +kernel
theorem dX12_tally_14 : decode cX12_tally 14 = .ok (.iconst 3, 1) := by decide +kernel
theorem dX12_tally_15 : decode cX12_tally 15 = .ok (.invokestatic 123, 3) := by decide +kernel
theorem dX12_tally_18 : decode cX12_tally 18 = .ok (.ifCond .eq 12, 3) := by decide +kernel
theorem dX12_tally_21 : decode cX12_tally 21 = .ok (.aload_n 0, 1) := by decide +kernel
theorem dX12_tally_22 : decode cX12_tally 22 = .ok (.iload_n 1, 1) := by decide +kernel
theorem dX12_tally_23 : decode cX12_tally 23 = .ok (.iload_n 2, 1) := by decide +kernel
theorem dX12_tally_24 : decode cX12_tally 24 = .ok (.invokevirtual 267, 3) := by decide +kernel
theorem dX12_tally_27 : decode cX12_tally 27 = .ok (.goto 5, 3) := by decide +kernel
theorem dX12_tally_30 : decode cX12_tally 30 = .ok (.bipush (-3), 2) := by decide +kernel
theorem dX12_tally_32 : decode cX12_tally 32 = .ok (.ireturn, 1) := by decide +kernel
theorem dX12_common_0 : decode cX12_common 0 = .ok (.iload_n 0, 1) := by decide +kernel
theorem dX12_common_1 : decode cX12_common 1 = .ok (.ifCond .ge 8, 3) := by decide +kernel
theorem dX12_common_4 : decode cX12_common 4 = .ok (.iload_n 0, 1) := by decide +kernel
theorem dX12_common_5 : decode cX12_common 5 = .ok (.ineg, 1) := by decide +kernel
theorem dX12_common_6 : decode cX12_common 6 = .ok (.goto 4, 3) := by decide +kernel
theorem dX12_common_9 : decode cX12_common 9 = .ok (.iload_n 0, 1) := by decide +kernel
theorem dX12_common_10 : decode cX12_common 10 = .ok (.istore_n 2, 1) := by decide +kernel
theorem dX12_common_11 : decode cX12_common 11 = .ok (.iload_n 1, 1) := by decide +kernel
theorem dX12_common_12 : decode cX12_common 12 = .ok (.istore_n 3, 1) := by decide +kernel
theorem dX12_common_13 : decode cX12_common 13 = .ok (.iload_n 3, 1) := by decide +kernel
theorem dX12_common_14 : decode cX12_common 14 = .ok (.ifCond .eq 16, 3) := by decide +kernel
theorem dX12_common_17 : decode cX12_common 17 = .ok (.iload_n 2, 1) := by decide +kernel
theorem dX12_common_18 : decode cX12_common 18 = .ok (.iload_n 3, 1) := by decide +kernel
theorem dX12_common_19 : decode cX12_common 19 = .ok (.irem, 1) := by decide +kernel
theorem dX12_common_20 : decode cX12_common 20 = .ok (.istore 4, 2) := by decide +kernel
theorem dX12_common_22 : decode cX12_common 22 = .ok (.iload_n 3, 1) := by decide +kernel
theorem dX12_common_23 : decode cX12_common 23 = .ok (.istore_n 2, 1) := by decide +kernel
theorem dX12_common_24 : decode cX12_common 24 = .ok (.iload 4, 2) := by decide +kernel
theorem dX12_common_26 : decode cX12_common 26 = .ok (.istore_n 3, 1) := by decide +kernel
theorem dX12_common_27 : decode cX12_common 27 = .ok (.goto (-14), 3) := by decide +kernel
theorem dX12_common_30 : decode cX12_common 30 = .ok (.iload_n 2, 1) := by decide +kernel
theorem dX12_common_31 : decode cX12_common 31 = .ok (.ireturn, 1) := by decide +kernel
theorem dX12_aboveOf_0 : decode cX12_aboveOf 0 = .ok (.aload_n 0, 1) := by decide +kernel
theorem dX12_aboveOf_1 : decode cX12_aboveOf 1 = .ok (.iload_n 1, 1) := by decide +kernel
theorem dX12_aboveOf_2 : decode cX12_aboveOf 2 = .ok (.iconst 0, 1) := by decide +kernel
theorem dX12_aboveOf_3 : decode cX12_aboveOf 3 = .ok (.invokevirtual 267, 3) := by decide +kernel
theorem dX12_aboveOf_6 : decode cX12_aboveOf 6 = .ok (.aload_n 0, 1) := by decide +kernel
theorem dX12_aboveOf_7 : decode cX12_aboveOf 7 = .ok (.iload_n 1, 1) := by decide +kernel
theorem dX12_aboveOf_8 : decode cX12_aboveOf 8 = .ok (.iconst 1, 1) := by decide +kernel
theorem dX12_aboveOf_9 : decode cX12_aboveOf 9 = .ok (.invokevirtual 267, 3) := by decide +kernel
theorem dX12_aboveOf_12 : decode cX12_aboveOf 12 = .ok (.iadd, 1) := by decide +kernel
theorem dX12_aboveOf_13 : decode cX12_aboveOf 13 = .ok (.istore_n 2, 1) := by decide +kernel
theorem dX12_aboveOf_14 : decode cX12_aboveOf 14 = .ok (.aload_n 0, 1) := by decide +kernel
theorem dX12_aboveOf_15 : decode cX12_aboveOf 15 = .ok (.iload_n 1, 1) := by decide +kernel
theorem dX12_aboveOf_16 : decode cX12_aboveOf 16 = .ok (.iconst 2, 1) := by decide +kernel
theorem dX12_aboveOf_17 : decode cX12_aboveOf 17 = .ok (.invokevirtual 267, 3) := by decide +kernel
theorem dX12_aboveOf_20 : decode cX12_aboveOf 20 = .ok (.aload_n 0, 1) := by decide +kernel
theorem dX12_aboveOf_21 : decode cX12_aboveOf 21 = .ok (.iload_n 1, 1) := by decide +kernel
theorem dX12_aboveOf_22 : decode cX12_aboveOf 22 = .ok (.iconst 3, 1) := by decide +kernel
theorem dX12_aboveOf_23 : decode cX12_aboveOf 23 = .ok (.invokevirtual 267, 3) := by decide +kernel
theorem dX12_aboveOf_26 : decode cX12_aboveOf 26 = .ok (.iadd, 1) := by decide +kernel
theorem dX12_aboveOf_27 : decode cX12_aboveOf 27 = .ok (.istore_n 3, 1) := by decide +kernel
theorem dX12_aboveOf_28 : decode cX12_aboveOf 28 = .ok (.aload_n 0, 1) := by decide +kernel
theorem dX12_aboveOf_29 : decode cX12_aboveOf 29 = .ok (.iload_n 1, 1) := by decide +kernel
theorem dX12_aboveOf_30 : decode cX12_aboveOf 30 = .ok (.iconst 0, 1) := by decide +kernel
theorem dX12_aboveOf_31 : decode cX12_aboveOf 31 = .ok (.invokevirtual 267, 3) := by decide +kernel
theorem dX12_aboveOf_34 : decode cX12_aboveOf 34 = .ok (.iload_n 3, 1) := by decide +kernel
theorem dX12_aboveOf_35 : decode cX12_aboveOf 35 = .ok (.imul, 1) := by decide +kernel
theorem dX12_aboveOf_36 : decode cX12_aboveOf 36 = .ok (.aload_n 0, 1) := by decide +kernel
theorem dX12_aboveOf_37 : decode cX12_aboveOf 37 = .ok (.iload_n 1, 1) := by decide +kernel
theorem dX12_aboveOf_38 : decode cX12_aboveOf 38 = .ok (.iconst 2, 1) := by decide +kernel
theorem dX12_aboveOf_39 : decode cX12_aboveOf 39 = .ok (.invokevirtual 267, 3) := by decide +kernel
theorem dX12_aboveOf_42 : decode cX12_aboveOf 42 = .ok (.iload_n 2, 1) := by decide +kernel
theorem dX12_aboveOf_43 : decode cX12_aboveOf 43 = .ok (.imul, 1) := by decide +kernel
theorem dX12_aboveOf_44 : decode cX12_aboveOf 44 = .ok (.isub, 1) := by decide +kernel
theorem dX12_aboveOf_45 : decode cX12_aboveOf 45 = .ok (.ireturn, 1) := by decide +kernel
theorem dX12_belowOf_0 : decode cX12_belowOf 0 = .ok (.aload_n 0, 1) := by decide +kernel
theorem dX12_belowOf_1 : decode cX12_belowOf 1 = .ok (.iload_n 1, 1) := by decide +kernel
theorem dX12_belowOf_2 : decode cX12_belowOf 2 = .ok (.iconst 0, 1) := by decide +kernel
theorem dX12_belowOf_3 : decode cX12_belowOf 3 = .ok (.invokevirtual 267, 3) := by decide +kernel
theorem dX12_belowOf_6 : decode cX12_belowOf 6 = .ok (.aload_n 0, 1) := by decide +kernel
theorem dX12_belowOf_7 : decode cX12_belowOf 7 = .ok (.iload_n 1, 1) := by decide +kernel
theorem dX12_belowOf_8 : decode cX12_belowOf 8 = .ok (.iconst 1, 1) := by decide +kernel
theorem dX12_belowOf_9 : decode cX12_belowOf 9 = .ok (.invokevirtual 267, 3) := by decide +kernel
theorem dX12_belowOf_12 : decode cX12_belowOf 12 = .ok (.iadd, 1) := by decide +kernel
theorem dX12_belowOf_13 : decode cX12_belowOf 13 = .ok (.aload_n 0, 1) := by decide +kernel
theorem dX12_belowOf_14 : decode cX12_belowOf 14 = .ok (.iload_n 1, 1) := by decide +kernel
theorem dX12_belowOf_15 : decode cX12_belowOf 15 = .ok (.iconst 2, 1) := by decide +kernel
theorem dX12_belowOf_16 : decode cX12_belowOf 16 = .ok (.invokevirtual 267, 3) := by decide +kernel
theorem dX12_belowOf_19 : decode cX12_belowOf 19 = .ok (.aload_n 0, 1) := by decide +kernel
theorem dX12_belowOf_20 : decode cX12_belowOf 20 = .ok (.iload_n 1, 1) := by decide +kernel
theorem dX12_belowOf_21 : decode cX12_belowOf 21 = .ok (.iconst 3, 1) := by decide +kernel
theorem dX12_belowOf_22 : decode cX12_belowOf 22 = .ok (.invokevirtual 267, 3) := by decide +kernel
theorem dX12_belowOf_25 : decode cX12_belowOf 25 = .ok (.iadd, 1) := by decide +kernel
theorem dX12_belowOf_26 : decode cX12_belowOf 26 = .ok (.imul, 1) := by decide +kernel
theorem dX12_belowOf_27 : decode cX12_belowOf 27 = .ok (.ireturn, 1) := by decide +kernel
theorem dX12_by_0 : decode cX12_by 0 = .ok (.iload_n 1, 1) := by decide +kernel
theorem dX12_by_1 : decode cX12_by 1 = .ok (.iconst 0, 1) := by decide +kernel
theorem dX12_by_2 : decode cX12_by 2 = .ok (.iconst 2, 1) := by decide +kernel
theorem dX12_by_3 : decode cX12_by 3 = .ok (.invokestatic 123, 3) := by decide +kernel
theorem dX12_by_6 : decode cX12_by 6 = .ok (.ifCond .eq 20, 3) := by decide +kernel
theorem dX12_by_9 : decode cX12_by 9 = .ok (.iload_n 2, 1) := by decide +kernel
theorem dX12_by_10 : decode cX12_by 10 = .ok (.iconst 0, 1) := by decide +kernel
theorem dX12_by_11 : decode cX12_by 11 = .ok (.iconst 1, 1) := by decide +kernel
theorem dX12_by_12 : decode cX12_by 12 = .ok (.invokestatic 123, 3) := by decide +kernel
theorem dX12_by_15 : decode cX12_by 15 = .ok (.ifCond .eq 11, 3) := by decide +kernel
theorem dX12_by_18 : decode cX12_by 18 = .ok (.aload_n 0, 1) := by decide +kernel
theorem dX12_by_19 : decode cX12_by 19 = .ok (.iload_n 1, 1) := by decide +kernel
theorem dX12_by_20 : decode cX12_by 20 = .ok (.invokevirtual 270, 3) := by decide +kernel
theorem dX12_by_23 : decode cX12_by 23 = .ok (.ifCond .ne 7, 3) := by decide +kernel
theorem dX12_by_26 : decode cX12_by 26 = .ok (.ldc_w 273, 3) := by decide +kernel
theorem dX12_by_29 : decode cX12_by 29 = .ok (.ireturn, 1) := by decide +kernel
theorem dX12_by_30 : decode cX12_by 30 = .ok (.aload_n 0, 1) := by decide +kernel
theorem dX12_by_31 : decode cX12_by 31 = .ok (.iload_n 1, 1) := by decide +kernel
theorem dX12_by_32 : decode cX12_by 32 = .ok (.invokevirtual 274, 3) := by decide +kernel
theorem dX12_by_35 : decode cX12_by 35 = .ok (.aload_n 0, 1) := by decide +kernel
theorem dX12_by_36 : decode cX12_by 36 = .ok (.iload_n 1, 1) := by decide +kernel
theorem dX12_by_37 : decode cX12_by 37 = .ok (.invokevirtual 270, 3) := by decide +kernel
theorem dX12_by_40 : decode cX12_by 40 = .ok (.invokestatic 277, 3) := by decide +kernel
theorem dX12_by_43 : decode cX12_by 43 = .ok (.istore_n 3, 1) := by decide +kernel
theorem dX12_by_44 : decode cX12_by 44 = .ok (.iload_n 2, 1) := by decide +kernel
theorem dX12_by_45 : decode cX12_by 45 = .ok (.ifCond .ne 13, 3) := by decide +kernel
theorem dX12_by_48 : decode cX12_by 48 = .ok (.aload_n 0, 1) := by decide +kernel
theorem dX12_by_49 : decode cX12_by 49 = .ok (.iload_n 1, 1) := by decide +kernel
theorem dX12_by_50 : decode cX12_by 50 = .ok (.invokevirtual 274, 3) := by decide +kernel
theorem dX12_by_53 : decode cX12_by 53 = .ok (.iload_n 3, 1) := by decide +kernel
theorem dX12_by_54 : decode cX12_by 54 = .ok (.idiv, 1) := by decide +kernel
theorem dX12_by_55 : decode cX12_by 55 = .ok (.goto 10, 3) := by decide +kernel
theorem dX12_by_58 : decode cX12_by 58 = .ok (.aload_n 0, 1) := by decide +kernel
theorem dX12_by_59 : decode cX12_by 59 = .ok (.iload_n 1, 1) := by decide +kernel
theorem dX12_by_60 : decode cX12_by 60 = .ok (.invokevirtual 270, 3) := by decide +kernel
theorem dX12_by_63 : decode cX12_by 63 = .ok (.iload_n 3, 1) := by decide +kernel
theorem dX12_by_64 : decode cX12_by 64 = .ok (.idiv, 1) := by decide +kernel
theorem dX12_by_65 : decode cX12_by 65 = .ok (.ireturn, 1) := by decide +kernel
theorem dX12_choose_0 : decode cX12_choose 0 = .ok (.iload_n 2, 1) := by decide +kernel
theorem dX12_choose_1 : decode cX12_choose 1 = .ok (.ifCond .lt 8, 3) := by decide +kernel
theorem dX12_choose_4 : decode cX12_choose 4 = .ok (.iload_n 2, 1) := by decide +kernel
theorem dX12_choose_5 : decode cX12_choose 5 = .ok (.iload_n 1, 1) := by decide +kernel
end
section
theorem dX12_choose_6 : decode cX12_choose 6 = .ok (.if_icmp .le 5, 3) := by decide +kernel
theorem dX12_choose_9 : decode cX12_choose 9 = .ok (.lconst 0, 1) := by decide +kernel
theorem dX12_choose_10 : decode cX12_choose 10 = .ok (.lreturn, 1) := by decide +kernel
theorem dX12_choose_11 : decode cX12_choose 11 = .ok (.iconst 0, 1) := by decide +kernel
theorem dX12_choose_12 : decode cX12_choose 12 = .ok (.istore_n 3, 1) := by decide +kernel
theorem dX12_choose_13 : decode cX12_choose 13 = .ok (.iload_n 3, 1) := by decide +kernel
theorem dX12_choose_14 : decode cX12_choose 14 = .ok (.iload_n 2, 1) := by decide +kernel
theorem dX12_choose_15 : decode cX12_choose 15 = .ok (.if_icmp .gt 24, 3) := by decide +kernel
theorem dX12_choose_18 : decode cX12_choose 18 = .ok (.aload_n 0, 1) := by decide +kernel
theorem dX12_choose_19 : decode cX12_choose 19 = .ok (.getfield 120, 3) := by decide +kernel
theorem dX12_choose_22 : decode cX12_choose 22 = .ok (.iload_n 3, 1) := by decide +kernel
theorem dX12_choose_23 : decode cX12_choose 23 = .ok (.iload_n 3, 1) := by decide +kernel
theorem dX12_choose_24 : decode cX12_choose 24 = .ok (.ifCond .ne 7, 3) := by decide +kernel
theorem dX12_choose_27 : decode cX12_choose 27 = .ok (.lconst 1, 1) := by decide +kernel
theorem dX12_choose_28 : decode cX12_choose 28 = .ok (.goto 4, 3) := by decide +kernel
theorem dX12_choose_31 : decode cX12_choose 31 = .ok (.lconst 0, 1) := by decide +kernel
theorem dX12_choose_32 : decode cX12_choose 32 = .ok (.lastore, 1) := by decide +kernel
theorem dX12_choose_33 : decode cX12_choose 33 = .ok (.iinc 3 1, 3) := by decide +kernel
theorem dX12_choose_36 : decode cX12_choose 36 = .ok (.goto (-23), 3) := by decide +kernel
theorem dX12_choose_39 : decode cX12_choose 39 = .ok (.iconst 1, 1) := by decide +kernel
theorem dX12_choose_40 : decode cX12_choose 40 = .ok (.istore_n 3, 1) := by decide +kernel
theorem dX12_choose_41 : decode cX12_choose 41 = .ok (.iload_n 3, 1) := by decide +kernel
theorem dX12_choose_42 : decode cX12_choose 42 = .ok (.iload_n 1, 1) := by decide +kernel
theorem dX12_choose_43 : decode cX12_choose 43 = .ok (.if_icmp .gt 51, 3) := by decide +kernel
theorem dX12_choose_46 : decode cX12_choose 46 = .ok (.iload_n 3, 1) := by decide +kernel
theorem dX12_choose_47 : decode cX12_choose 47 = .ok (.iload_n 2, 1) := by decide +kernel
theorem dX12_choose_48 : decode cX12_choose 48 = .ok (.if_icmp .ge 7, 3) := by decide +kernel
theorem dX12_choose_51 : decode cX12_choose 51 = .ok (.iload_n 3, 1) := by decide +kernel
theorem dX12_choose_52 : decode cX12_choose 52 = .ok (.goto 4, 3) := by decide +kernel
theorem dX12_choose_55 : decode cX12_choose 55 = .ok (.iload_n 2, 1) := by decide +kernel
theorem dX12_choose_56 : decode cX12_choose 56 = .ok (.istore 4, 2) := by decide +kernel
theorem dX12_choose_58 : decode cX12_choose 58 = .ok (.iload 4, 2) := by decide +kernel
theorem dX12_choose_60 : decode cX12_choose 60 = .ok (.ifCond .le 28, 3) := by decide +kernel
theorem dX12_choose_63 : decode cX12_choose 63 = .ok (.aload_n 0, 1) := by decide +kernel
theorem dX12_choose_64 : decode cX12_choose 64 = .ok (.getfield 120, 3) := by decide +kernel
theorem dX12_choose_67 : decode cX12_choose 67 = .ok (.iload 4, 2) := by decide +kernel
theorem dX12_choose_69 : decode cX12_choose 69 = .ok (.dup2, 1) := by decide +kernel
theorem dX12_choose_70 : decode cX12_choose 70 = .ok (.laload, 1) := by decide +kernel
theorem dX12_choose_71 : decode cX12_choose 71 = .ok (.aload_n 0, 1) := by decide +kernel
theorem dX12_choose_72 : decode cX12_choose 72 = .ok (.getfield 120, 3) := by decide +kernel
theorem dX12_choose_75 : decode cX12_choose 75 = .ok (.iload 4, 2) := by decide +kernel
theorem dX12_choose_77 : decode cX12_choose 77 = .ok (.iconst 1, 1) := by decide +kernel
theorem dX12_choose_78 : decode cX12_choose 78 = .ok (.isub, 1) := by decide +kernel
theorem dX12_choose_79 : decode cX12_choose 79 = .ok (.laload, 1) := by decide +kernel
theorem dX12_choose_80 : decode cX12_choose 80 = .ok (.ladd, 1) := by decide +kernel
theorem dX12_choose_81 : decode cX12_choose 81 = .ok (.lastore, 1) := by decide +kernel
theorem dX12_choose_82 : decode cX12_choose 82 = .ok (.iinc 4 (-1), 3) := by decide +kernel
theorem dX12_choose_85 : decode cX12_choose 85 = .ok (.goto (-27), 3) := by decide +kernel
theorem dX12_choose_88 : decode cX12_choose 88 = .ok (.iinc 3 1, 3) := by decide +kernel
theorem dX12_choose_91 : decode cX12_choose 91 = .ok (.goto (-50), 3) := by decide +kernel
theorem dX12_choose_94 : decode cX12_choose 94 = .ok (.aload_n 0, 1) := by decide +kernel
theorem dX12_choose_95 : decode cX12_choose 95 = .ok (.getfield 120, 3) := by decide +kernel
theorem dX12_choose_98 : decode cX12_choose 98 = .ok (.iload_n 2, 1) := by decide +kernel
theorem dX12_choose_99 : decode cX12_choose 99 = .ok (.laload, 1) := by decide +kernel
theorem dX12_choose_100 : decode cX12_choose 100 = .ok (.lreturn, 1) := by decide +kernel
theorem dX12_isMore_0 : decode cX12_isMore 0 = .ok (.aload_n 0, 1) := by decide +kernel
theorem dX12_isMore_1 : decode cX12_isMore 1 = .ok (.iload_n 1, 1) := by decide +kernel
theorem dX12_isMore_2 : decode cX12_isMore 2 = .ok (.iconst 0, 1) := by decide +kernel
theorem dX12_isMore_3 : decode cX12_isMore 3 = .ok (.invokevirtual 267, 3) := by decide +kernel
theorem dX12_isMore_6 : decode cX12_isMore 6 = .ok (.istore_n 2, 1) := by decide +kernel
theorem dX12_isMore_7 : decode cX12_isMore 7 = .ok (.iload_n 2, 1) := by decide +kernel
theorem dX12_isMore_8 : decode cX12_isMore 8 = .ok (.aload_n 0, 1) := by decide +kernel
theorem dX12_isMore_9 : decode cX12_isMore 9 = .ok (.iload_n 1, 1) := by decide +kernel
theorem dX12_isMore_10 : decode cX12_isMore 10 = .ok (.iconst 1, 1) := by decide +kernel
theorem dX12_isMore_11 : decode cX12_isMore 11 = .ok (.invokevirtual 267, 3) := by decide +kernel
theorem dX12_isMore_14 : decode cX12_isMore 14 = .ok (.iadd, 1) := by decide +kernel
theorem dX12_isMore_15 : decode cX12_isMore 15 = .ok (.istore_n 3, 1) := by decide +kernel
theorem dX12_isMore_16 : decode cX12_isMore 16 = .ok (.aload_n 0, 1) := by decide +kernel
theorem dX12_isMore_17 : decode cX12_isMore 17 = .ok (.iload_n 1, 1) := by decide +kernel
theorem dX12_isMore_18 : decode cX12_isMore 18 = .ok (.iconst 2, 1) := by decide +kernel
theorem dX12_isMore_19 : decode cX12_isMore 19 = .ok (.invokevirtual 267, 3) := by decide +kernel
theorem dX12_isMore_22 : decode cX12_isMore 22 = .ok (.aload_n 0, 1) := by decide +kernel
theorem dX12_isMore_23 : decode cX12_isMore 23 = .ok (.iload_n 1, 1) := by decide +kernel
theorem dX12_isMore_24 : decode cX12_isMore 24 = .ok (.iconst 3, 1) := by decide +kernel
theorem dX12_isMore_25 : decode cX12_isMore 25 = .ok (.invokevirtual 267, 3) := by decide +kernel
theorem dX12_isMore_28 : decode cX12_isMore 28 = .ok (.iadd, 1) := by decide +kernel
theorem dX12_isMore_29 : decode cX12_isMore 29 = .ok (.istore 4, 2) := by decide +kernel
theorem dX12_isMore_31 : decode cX12_isMore 31 = .ok (.iload_n 2, 1) := by decide +kernel
theorem dX12_isMore_32 : decode cX12_isMore 32 = .ok (.aload_n 0, 1) := by decide +kernel
theorem dX12_isMore_33 : decode cX12_isMore 33 = .ok (.iload_n 1, 1) := by decide +kernel
theorem dX12_isMore_34 : decode cX12_isMore 34 = .ok (.iconst 2, 1) := by decide +kernel
theorem dX12_isMore_35 : decode cX12_isMore 35 = .ok (.invokevirtual 267, 3) := by decide +kernel
theorem dX12_isMore_38 : decode cX12_isMore 38 = .ok (.iadd, 1) := by decide +kernel
theorem dX12_isMore_39 : decode cX12_isMore 39 = .ok (.istore 5, 2) := by decide +kernel
theorem dX12_isMore_41 : decode cX12_isMore 41 = .ok (.lconst 0, 1) := by decide +kernel
theorem dX12_isMore_42 : decode cX12_isMore 42 = .ok (.lstore 6, 2) := by decide +kernel
theorem dX12_isMore_44 : decode cX12_isMore 44 = .ok (.iload_n 2, 1) := by decide +kernel
theorem dX12_isMore_45 : decode cX12_isMore 45 = .ok (.istore 8, 2) := by decide +kernel
theorem dX12_isMore_47 : decode cX12_isMore 47 = .ok (.iload 8, 2) := by decide +kernel
theorem dX12_isMore_49 : decode cX12_isMore 49 = .ok (.iload_n 3, 1) := by decide +kernel
theorem dX12_isMore_50 : decode cX12_isMore 50 = .ok (.if_icmp .gt 33, 3) := by decide +kernel
theorem dX12_isMore_53 : decode cX12_isMore 53 = .ok (.lload 6, 2) := by decide +kernel
theorem dX12_isMore_55 : decode cX12_isMore 55 = .ok (.aload_n 0, 1) := by decide +kernel
theorem dX12_isMore_56 : decode cX12_isMore 56 = .ok (.iload_n 3, 1) := by decide +kernel
theorem dX12_isMore_57 : decode cX12_isMore 57 = .ok (.iload 8, 2) := by decide +kernel
theorem dX12_isMore_59 : decode cX12_isMore 59 = .ok (.invokevirtual 280, 3) := by decide +kernel
theorem dX12_isMore_62 : decode cX12_isMore 62 = .ok (.aload_n 0, 1) := by decide +kernel
theorem dX12_isMore_63 : decode cX12_isMore 63 = .ok (.iload 4, 2) := by decide +kernel
theorem dX12_isMore_65 : decode cX12_isMore 65 = .ok (.iload 5, 2) := by decide +kernel
theorem dX12_isMore_67 : decode cX12_isMore 67 = .ok (.iload 8, 2) := by decide +kernel
theorem dX12_isMore_69 : decode cX12_isMore 69 = .ok (.isub, 1) := by decide +kernel
theorem dX12_isMore_70 : decode cX12_isMore 70 = .ok (.invokevirtual 280, 3) := by decide +kernel
theorem dX12_isMore_73 : decode cX12_isMore 73 = .ok (.lmul, 1) := by decide +kernel
theorem dX12_isMore_74 : decode cX12_isMore 74 = .ok (.ladd, 1) := by decide +kernel
theorem dX12_isMore_75 : decode cX12_isMore 75 = .ok (.lstore 6, 2) := by decide +kernel
theorem dX12_isMore_77 : decode cX12_isMore 77 = .ok (.iinc 8 1, 3) := by decide +kernel
theorem dX12_isMore_80 : decode cX12_isMore 80 = .ok (.goto (-33), 3) := by decide +kernel
theorem dX12_isMore_83 : decode cX12_isMore 83 = .ok (.lload 6, 2) := by decide +kernel
theorem dX12_isMore_85 : decode cX12_isMore 85 = .ok (.aload_n 0, 1) := by decide +kernel
theorem dX12_isMore_86 : decode cX12_isMore 86 = .ok (.aload_n 0, 1) := by decide +kernel
theorem dX12_isMore_87 : decode cX12_isMore 87 = .ok (.getfield 264, 3) := by decide +kernel
theorem dX12_isMore_90 : decode cX12_isMore 90 = .ok (.iload 5, 2) := by decide +kernel
theorem dX12_isMore_92 : decode cX12_isMore 92 = .ok (.invokevirtual 280, 3) := by decide +kernel
theorem dX12_isMore_95 : decode cX12_isMore 95 = .ok (.ldc2_w 284, 3) := by decide +kernel
theorem dX12_isMore_98 : decode cX12_isMore 98 = .ok (.ldiv, 1) := by decide +kernel
theorem dX12_isMore_99 : decode cX12_isMore 99 = .ok (.lcmp, 1) := by decide +kernel
theorem dX12_isMore_100 : decode cX12_isMore 100 = .ok (.ifCond .gt 7, 3) := by decide +kernel
theorem dX12_isMore_103 : decode cX12_isMore 103 = .ok (.iconst 1, 1) := by decide +kernel
theorem dX12_isMore_104 : decode cX12_isMore 104 = .ok (.goto 4, 3) := by decide +kernel
theorem dX12_isMore_107 : decode cX12_isMore 107 = .ok (.iconst 0, 1) := by decide +kernel
theorem dX12_isMore_108 : decode cX12_isMore 108 = .ok (.ireturn, 1) := by decide +kernel
theorem dX12_chance_0 : decode cX12_chance 0 = .ok (.iload_n 1, 1) := by decide +kernel
theorem dX12_chance_1 : decode cX12_chance 1 = .ok (.iconst 0, 1) := by decide +kernel
theorem dX12_chance_2 : decode cX12_chance 2 = .ok (.iconst 2, 1) := by decide +kernel
theorem dX12_chance_3 : decode cX12_chance 3 = .ok (.invokestatic 123, 3) := by decide +kernel
theorem dX12_chance_6 : decode cX12_chance 6 = .ok (.ifCond .ne 8, 3) := by decide +kernel
theorem dX12_chance_9 : decode cX12_chance 9 = .ok (.bipush (-2), 2) := by decide +kernel
theorem dX12_chance_11 : decode cX12_chance 11 = .ok (.goto 16, 3) := by decide +kernel
theorem dX12_chance_14 : decode cX12_chance 14 = .ok (.aload_n 0, 1) := by decide +kernel
theorem dX12_chance_15 : decode cX12_chance 15 = .ok (.iload_n 1, 1) := by decide +kernel
theorem dX12_chance_16 : decode cX12_chance 16 = .ok (.invokevirtual 286, 3) := by decide +kernel
theorem dX12_chance_19 : decode cX12_chance 19 = .ok (.ifCond .eq 7, 3) := by decide +kernel
theorem dX12_chance_22 : decode cX12_chance 22 = .ok (.iconst 1, 1) := by decide +kernel
theorem dX12_chance_23 : decode cX12_chance 23 = .ok (.goto 4, 3) := by decide +kernel
theorem dX12_chance_26 : decode cX12_chance 26 = .ok (.iconst 0, 1) := by decide +kernel
theorem dX12_chance_27 : decode cX12_chance 27 = .ok (.ireturn, 1) := by decide +kernel
theorem dX12_cause_0 : decode cX12_cause 0 = .ok (.iconst (-1), 1) := by decide +kernel
theorem dX12_cause_1 : decode cX12_cause 1 = .ok (.istore_n 1, 1) := by decide +kernel
theorem dX12_cause_2 : decode cX12_cause 2 = .ok (.iconst 0, 1) := by decide +kernel
theorem dX12_cause_3 : decode cX12_cause 3 = .ok (.istore_n 2, 1) := by decide +kernel
theorem dX12_cause_4 : decode cX12_cause 4 = .ok (.iload_n 2, 1) := by decide +kernel
theorem dX12_cause_5 : decode cX12_cause 5 = .ok (.iconst 3, 1) := by decide +kernel
theorem dX12_cause_6 : decode cX12_cause 6 = .ok (.if_icmp .ge 61, 3) := by decide +kernel
theorem dX12_cause_9 : decode cX12_cause 9 = .ok (.aload_n 0, 1) := by decide +kernel
theorem dX12_cause_10 : decode cX12_cause 10 = .ok (.iload_n 2, 1) := by decide +kernel
theorem dX12_cause_11 : decode cX12_cause 11 = .ok (.invokevirtual 286, 3) := by decide +kernel
theorem dX12_cause_14 : decode cX12_cause 14 = .ok (.ifCond .eq 47, 3) := by decide +kernel
theorem dX12_cause_17 : decode cX12_cause 17 = .ok (.aload_n 0, 1) := by decide +kernel
theorem dX12_cause_18 : decode cX12_cause 18 = .ok (.iload_n 2, 1) := by decide +kernel
theorem dX12_cause_19 : decode cX12_cause 19 = .ok (.invokevirtual 270, 3) := by decide +kernel
theorem dX12_cause_22 : decode cX12_cause 22 = .ok (.ifCond .le 39, 3) := by decide +kernel
theorem dX12_cause_25 : decode cX12_cause 25 = .ok (.iload_n 1, 1) := by decide +kernel
theorem dX12_cause_26 : decode cX12_cause 26 = .ok (.iconst (-1), 1) := by decide +kernel
theorem dX12_cause_27 : decode cX12_cause 27 = .ok (.if_icmp .eq 28, 3) := by decide +kernel
theorem dX12_cause_30 : decode cX12_cause 30 = .ok (.aload_n 0, 1) := by decide +kernel
theorem dX12_cause_31 : decode cX12_cause 31 = .ok (.iload_n 2, 1) := by decide +kernel
theorem dX12_cause_32 : decode cX12_cause 32 = .ok (.invokevirtual 274, 3) := by decide +kernel
theorem dX12_cause_35 : decode cX12_cause 35 = .ok (.aload_n 0, 1) := by decide +kernel
theorem dX12_cause_36 : decode cX12_cause 36 = .ok (.iload_n 1, 1) := by decide +kernel
theorem dX12_cause_37 : decode cX12_cause 37 = .ok (.invokevirtual 270, 3) := by decide +kernel
theorem dX12_cause_40 : decode cX12_cause 40 = .ok (.imul, 1) := by decide +kernel
theorem dX12_cause_41 : decode cX12_cause 41 = .ok (.aload_n 0, 1) := by decide +kernel
theorem dX12_cause_42 : decode cX12_cause 42 = .ok (.iload_n 1, 1) := by decide +kernel
theorem dX12_cause_43 : decode cX12_cause 43 = .ok (.invokevirtual 274, 3) := by decide +kernel
theorem dX12_cause_46 : decode cX12_cause 46 = .ok (.aload_n 0, 1) := by decide +kernel
theorem dX12_cause_47 : decode cX12_cause 47 = .ok (.iload_n 2, 1) := by decide +kernel
theorem dX12_cause_48 : decode cX12_cause 48 = .ok (.invokevirtual 270, 3) := by decide +kernel
theorem dX12_cause_51 : decode cX12_cause 51 = .ok (.imul, 1) := by decide +kernel
theorem dX12_cause_52 : decode cX12_cause 52 = .ok (.if_icmp .le 7, 3) := by decide +kernel
theorem dX12_cause_55 : decode cX12_cause 55 = .ok (.iload_n 2, 1) := by decide +kernel
theorem dX12_cause_56 : decode cX12_cause 56 = .ok (.goto 4, 3) := by decide +kernel
theorem dX12_cause_59 : decode cX12_cause 59 = .ok (.iload_n 1, 1) := by decide +kernel
theorem dX12_cause_60 : decode cX12_cause 60 = .ok (.istore_n 1, 1) := by decide +kernel
theorem dX12_cause_61 : decode cX12_cause 61 = .ok (.iinc 2 1, 3) := by decide +kernel
theorem dX12_cause_64 : decode cX12_cause 64 = .ok (.goto (-60), 3) := by decide +kernel
theorem dX12_cause_67 : decode cX12_cause 67 = .ok (.iload_n 1, 1) := by decide +kernel
theorem dX12_cause_68 : decode cX12_cause 68 = .ok (.ireturn, 1) := by decide +kernel
theorem dX12_account_0 : decode cX12_account 0 = .ok (.lconst 0, 1) := by decide +kernel
theorem dX12_account_1 : decode cX12_account 1 = .ok (.lstore_n 2, 1) := by decide +kernel
theorem dX12_account_2 : decode cX12_account 2 = .ok (.iconst 0, 1) := by decide +kernel
theorem dX12_account_3 : decode cX12_account 3 = .ok (.istore 4, 2) := by decide +kernel
theorem dX12_account_5 : decode cX12_account 5 = .ok (.iload 4, 2) := by decide +kernel
theorem dX12_account_7 : decode cX12_account 7 = .ok (.aload_n 0, 1) := by decide +kernel
theorem dX12_account_8 : decode cX12_account 8 = .ok (.getfield 127, 3) := by decide +kernel
theorem dX12_account_11 : decode cX12_account 11 = .ok (.if_icmp .ge 19, 3) := by decide +kernel
theorem dX12_account_14 : decode cX12_account 14 = .ok (.lload_n 2, 1) := by decide +kernel
theorem dX12_account_15 : decode cX12_account 15 = .ok (.aload_n 0, 1) := by decide +kernel
theorem dX12_account_16 : decode cX12_account 16 = .ok (.getfield 58, 3) := by decide +kernel
theorem dX12_account_19 : decode cX12_account 19 = .ok (.iload 4, 2) := by decide +kernel
theorem dX12_account_21 : decode cX12_account 21 = .ok (.laload, 1) := by decide +kernel
theorem dX12_account_22 : decode cX12_account 22 = .ok (.ladd, 1) := by decide +kernel
theorem dX12_account_23 : decode cX12_account 23 = .ok (.lstore_n 2, 1) := by decide +kernel
theorem dX12_account_24 : decode cX12_account 24 = .ok (.iinc 4 1, 3) := by decide +kernel
theorem dX12_account_27 : decode cX12_account 27 = .ok (.goto (-22), 3) := by decide +kernel
theorem dX12_account_30 : decode cX12_account 30 = .ok (.iload_n 1, 1) := by decide +kernel
theorem dX12_account_31 : decode cX12_account 31 = .ok (.ifCond .ne 10, 3) := by decide +kernel
theorem dX12_account_34 : decode cX12_account 34 = .ok (.aload_n 0, 1) := by decide +kernel
theorem dX12_account_35 : decode cX12_account 35 = .ok (.getfield 159, 3) := by decide +kernel
theorem dX12_account_38 : decode cX12_account 38 = .ok (.goto 51, 3) := by decide +kernel
theorem dX12_account_41 : decode cX12_account 41 = .ok (.iload_n 1, 1) := by decide +kernel
theorem dX12_account_42 : decode cX12_account 42 = .ok (.iconst 1, 1) := by decide +kernel
theorem dX12_account_43 : decode cX12_account 43 = .ok (.if_icmp .ne 7, 3) := by decide +kernel
theorem dX12_account_46 : decode cX12_account 46 = .ok (.lload_n 2, 1) := by decide +kernel
theorem dX12_account_47 : decode cX12_account 47 = .ok (.goto 42, 3) := by decide +kernel
theorem dX12_account_50 : decode cX12_account 50 = .ok (.iload_n 1, 1) := by decide +kernel
theorem dX12_account_51 : decode cX12_account 51 = .ok (.iconst 2, 1) := by decide +kernel
theorem dX12_account_52 : decode cX12_account 52 = .ok (.if_icmp .ne 10, 3) := by decide +kernel
theorem dX12_account_55 : decode cX12_account 55 = .ok (.aload_n 0, 1) := by decide +kernel
theorem dX12_account_56 : decode cX12_account 56 = .ok (.getfield 261, 3) := by decide +kernel
theorem dX12_account_59 : decode cX12_account 59 = .ok (.goto 30, 3) := by decide +kernel
theorem dX12_account_62 : decode cX12_account 62 = .ok (.iload_n 1, 1) := by decide +kernel
theorem dX12_account_63 : decode cX12_account 63 = .ok (.iconst 3, 1) := by decide +kernel
theorem dX12_account_64 : decode cX12_account 64 = .ok (.if_icmp .ne 10, 3) := by decide +kernel
theorem dX12_account_67 : decode cX12_account 67 = .ok (.aload_n 0, 1) := by decide +kernel
theorem dX12_account_68 : decode cX12_account 68 = .ok (.getfield 170, 3) := by decide +kernel
theorem dX12_account_71 : decode cX12_account 71 = .ok (.goto 18, 3) := by decide +kernel
theorem dX12_account_74 : decode cX12_account 74 = .ok (.iload_n 1, 1) := by decide +kernel
theorem dX12_account_75 : decode cX12_account 75 = .ok (.iconst 4, 1) := by decide +kernel
theorem dX12_account_76 : decode cX12_account 76 = .ok (.if_icmp .ne 10, 3) := by decide +kernel
theorem dX12_account_79 : decode cX12_account 79 = .ok (.aload_n 0, 1) := by decide +kernel
theorem dX12_account_80 : decode cX12_account 80 = .ok (.getfield 215, 3) := by decide +kernel
theorem dX12_account_83 : decode cX12_account 83 = .ok (.goto 6, 3) := by decide +kernel
theorem dX12_account_86 : decode cX12_account 86 = .ok (.ldc2_w 289, 3) := by decide +kernel
theorem dX12_account_89 : decode cX12_account 89 = .ok (.lreturn, 1) := by decide +kernel
theorem dX12_count_0 : decode cX12_count 0 = .ok (.iconst 0, 1) := by decide +kernel
theorem dX12_count_1 : decode cX12_count 1 = .ok (.istore_n 2, 1) := by decide +kernel
theorem dX12_count_2 : decode cX12_count 2 = .ok (.iload_n 1, 1) := by decide +kernel
theorem dX12_count_3 : decode cX12_count 3 = .ok (.tableswitch 138 0 6 #[41, 46, 83, 88, 123, 128, 133], 41) := by decide +kernel
theorem dX12_count_44 : decode cX12_count 44 = .ok (.aload_n 0, 1) := by decide +kernel
theorem dX12_count_45 : decode cX12_count 45 = .ok (.getfield 127, 3) := by decide +kernel
theorem dX12_count_48 : decode cX12_count 48 = .ok (.ireturn, 1) := by decide +kernel
theorem dX12_count_49 : decode cX12_count 49 = .ok (.iconst 0, 1) := by decide +kernel
theorem dX12_count_50 : decode cX12_count 50 = .ok (.istore_n 3, 1) := by decide +kernel
theorem dX12_count_51 : decode cX12_count 51 = .ok (.iload_n 3, 1) := by decide +kernel
theorem dX12_count_52 : decode cX12_count 52 = .ok (.aload_n 0, 1) := by decide +kernel
theorem dX12_count_53 : decode cX12_count 53 = .ok (.getfield 127, 3) := by decide +kernel
theorem dX12_count_56 : decode cX12_count 56 = .ok (.if_icmp .ge 28, 3) := by decide +kernel
theorem dX12_count_59 : decode cX12_count 59 = .ok (.iload_n 2, 1) := by decide +kernel
theorem dX12_count_60 : decode cX12_count 60 = .ok (.aload_n 0, 1) := by decide +kernel
theorem dX12_count_61 : decode cX12_count 61 = .ok (.getfield 58, 3) := by decide +kernel
theorem dX12_count_64 : decode cX12_count 64 = .ok (.iload_n 3, 1) := by decide +kernel
theorem dX12_count_65 : decode cX12_count 65 = .ok (.laload, 1) := by decide +kernel
theorem dX12_count_66 : decode cX12_count 66 = .ok (.lconst 0, 1) := by decide +kernel
theorem dX12_count_67 : decode cX12_count 67 = .ok (.lcmp, 1) := by decide +kernel
theorem dX12_count_68 : decode cX12_count 68 = .ok (.ifCond .le 7, 3) := by decide +kernel
theorem dX12_count_71 : decode cX12_count 71 = .ok (.iconst 1, 1) := by decide +kernel
theorem dX12_count_72 : decode cX12_count 72 = .ok (.goto 4, 3) := by decide +kernel
theorem dX12_count_75 : decode cX12_count 75 = .ok (.iconst 0, 1) := by decide +kernel
theorem dX12_count_76 : decode cX12_count 76 = .ok (.iadd, 1) := by decide +kernel
theorem dX12_count_77 : decode cX12_count 77 = .ok (.istore_n 2, 1) := by decide +kernel
theorem dX12_count_78 : decode cX12_count 78 = .ok (.iinc 3 1, 3) := by decide +kernel
theorem dX12_count_81 : decode cX12_count 81 = .ok (.goto (-30), 3) := by decide +kernel
theorem dX12_count_84 : decode cX12_count 84 = .ok (.iload_n 2, 1) := by decide +kernel
theorem dX12_count_85 : decode cX12_count 85 = .ok (.ireturn, 1) := by decide +kernel
theorem dX12_count_86 : decode cX12_count 86 = .ok (.aload_n 0, 1) := by decide +kernel
theorem dX12_count_87 : decode cX12_count 87 = .ok (.getfield 246, 3) := by decide +kernel
theorem dX12_count_90 : decode cX12_count 90 = .ok (.ireturn, 1) := by decide +kernel
theorem dX12_count_91 : decode cX12_count 91 = .ok (.iconst 0, 1) := by decide +kernel
theorem dX12_count_92 : decode cX12_count 92 = .ok (.istore_n 3, 1) := by decide +kernel
theorem dX12_count_93 : decode cX12_count 93 = .ok (.iload_n 3, 1) := by decide +kernel
theorem dX12_count_94 : decode cX12_count 94 = .ok (.aload_n 0, 1) := by decide +kernel
theorem dX12_count_95 : decode cX12_count 95 = .ok (.getfield 246, 3) := by decide +kernel
theorem dX12_count_98 : decode cX12_count 98 = .ok (.if_icmp .ge 26, 3) := by decide +kernel
theorem dX12_count_101 : decode cX12_count 101 = .ok (.iload_n 2, 1) := by decide +kernel
theorem dX12_count_102 : decode cX12_count 102 = .ok (.aload_n 0, 1) := by decide +kernel
theorem dX12_count_103 : decode cX12_count 103 = .ok (.getfield 84, 3) := by decide +kernel
theorem dX12_count_106 : decode cX12_count 106 = .ok (.iload_n 3, 1) := by decide +kernel
theorem dX12_count_107 : decode cX12_count 107 = .ok (.baload, 1) := by decide +kernel
theorem dX12_count_108 : decode cX12_count 108 = .ok (.ifCond .eq 7, 3) := by decide +kernel
theorem dX12_count_111 : decode cX12_count 111 = .ok (.iconst 1, 1) := by decide +kernel
theorem dX12_count_112 : decode cX12_count 112 = .ok (.goto 4, 3) := by decide +kernel
theorem dX12_count_115 : decode cX12_count 115 = .ok (.iconst 0, 1) := by decide +kernel
theorem dX12_count_116 : decode cX12_count 116 = .ok (.iadd, 1) := by decide +kernel
theorem dX12_count_117 : decode cX12_count 117 = .ok (.istore_n 2, 1) := by decide +kernel
theorem dX12_count_118 : decode cX12_count 118 = .ok (.iinc 3 1, 3) := by decide +kernel
theorem dX12_count_121 : decode cX12_count 121 = .ok (.goto (-28), 3) := by decide +kernel
theorem dX12_count_124 : decode cX12_count 124 = .ok (.iload_n 2, 1) := by decide +kernel
theorem dX12_count_125 : decode cX12_count 125 = .ok (.ireturn, 1) := by decide +kernel
theorem dX12_count_126 : decode cX12_count 126 = .ok (.aload_n 0, 1) := by decide +kernel
theorem dX12_count_127 : decode cX12_count 127 = .ok (.getfield 264, 3) := by decide +kernel
theorem dX12_count_130 : decode cX12_count 130 = .ok (.ireturn, 1) := by decide +kernel
theorem dX12_count_131 : decode cX12_count 131 = .ok (.aload_n 0, 1) := by decide +kernel
theorem dX12_count_132 : decode cX12_count 132 = .ok (.getfield 212, 3) := by decide +kernel
theorem dX12_count_135 : decode cX12_count 135 = .ok (.ireturn, 1) := by decide +kernel
theorem dX12_count_136 : decode cX12_count 136 = .ok (.aload_n 0, 1) := by decide +kernel
theorem dX12_count_137 : decode cX12_count 137 = .ok (.getfield 218, 3) := by decide +kernel
theorem dX12_count_140 : decode cX12_count 140 = .ok (.ireturn, 1) := by decide +kernel
theorem dX12_count_141 : decode cX12_count 141 = .ok (.bipush (-3), 2) := by decide +kernel
theorem dX12_count_143 : decode cX12_count 143 = .ok (.ireturn, 1) := by decide +kernel
theorem dL_law_0 : decode cL_law 0 = .ok (.new 7, 3) := by decide +kernel
theorem dL_law_3 : decode cL_law 3 = .ok (.dup, 1) := by decide +kernel
theorem dL_law_4 : decode cL_law 4 = .ok (.invokespecial 9, 3) := by decide +kernel
theorem dL_law_7 : decode cL_law 7 = .ok (.astore_n 1, 1) := by decide +kernel
theorem dL_law_8 : decode cL_law 8 = .ok (.new 10, 3) := by decide +kernel
theorem dL_law_11 : decode cL_law 11 = .ok (.dup, 1) := by decide +kernel
theorem dL_law_12 : decode cL_law 12 = .ok (.invokespecial 12, 3) := by decide +kernel
theorem dL_law_15 : decode cL_law 15 = .ok (.astore_n 2, 1) := by decide +kernel
theorem dL_law_16 : decode cL_law 16 = .ok (.iconst 0, 1) := by decide +kernel
theorem dL_law_17 : decode cL_law 17 = .ok (.istore_n 3, 1) := by decide +kernel
theorem dL_law_18 : decode cL_law 18 = .ok (.iload_n 3, 1) := by decide +kernel
theorem dL_law_19 : decode cL_law 19 = .ok (.aload_n 0, 1) := by decide +kernel
theorem dL_law_20 : decode cL_law 20 = .ok (.arraylength, 1) := by decide +kernel
theorem dL_law_21 : decode cL_law 21 = .ok (.bipush 7, 2) := by decide +kernel
theorem dL_law_23 : decode cL_law 23 = .ok (.isub, 1) := by decide +kernel
theorem dL_law_24 : decode cL_law 24 = .ok (.if_icmp .gt 1352, 3) := by decide +kernel
theorem dL_law_27 : decode cL_law 27 = .ok (.aload_n 0, 1) := by decide +kernel
theorem dL_law_28 : decode cL_law 28 = .ok (.iload_n 3, 1) := by decide +kernel
theorem dL_law_29 : decode cL_law 29 = .ok (.iaload, 1) := by decide +kernel
theorem dL_law_30 : decode cL_law 30 = .ok (.bipush 31, 2) := by decide +kernel
theorem dL_law_32 : decode cL_law 32 = .ok (.iand, 1) := by decide +kernel
theorem dL_law_33 : decode cL_law 33 = .ok (.tableswitch 1337 0 31 #[143, 218, 251, 294, 327, 370, 403, 446, 515, 548, 572, 625, 678, 701, 734, 767, 790, 813, 876, 951, 1014, 1067, 1080, 1103, 1116, 1139, 1188, 1221, 1254, 1277, 1290, 1314], 143) := by decide +kernel
theorem dL_law_176 : decode cL_law 176 = .ok (.aload_n 1, 1) := by decide +kernel
theorem dL_law_177 : decode cL_law 177 = .ok (.aload_n 0, 1) := by decide +kernel
theorem dL_law_178 : decode cL_law 178 = .ok (.iload_n 3, 1) := by decide +kernel
theorem dL_law_179 : decode cL_law 179 = .ok (.iconst 1, 1) := by decide +kernel
theorem dL_law_180 : decode cL_law 180 = .ok (.iadd, 1) := by decide +kernel
theorem dL_law_181 : decode cL_law 181 = .ok (.iaload, 1) := by decide +kernel
theorem dL_law_182 : decode cL_law 182 = .ok (.aload_n 0, 1) := by decide +kernel
theorem dL_law_183 : decode cL_law 183 = .ok (.iload_n 3, 1) := by decide +kernel
theorem dL_law_184 : decode cL_law 184 = .ok (.iconst 2, 1) := by decide +kernel
theorem dL_law_185 : decode cL_law 185 = .ok (.iadd, 1) := by decide +kernel
theorem dL_law_186 : decode cL_law 186 = .ok (.iaload, 1) := by decide +kernel
theorem dL_law_187 : decode cL_law 187 = .ok (.aload_n 0, 1) := by decide +kernel
theorem dL_law_188 : decode cL_law 188 = .ok (.iload_n 3, 1) := by decide +kernel
theorem dL_law_189 : decode cL_law 189 = .ok (.iconst 3, 1) := by decide +kernel
theorem dL_law_190 : decode cL_law 190 = .ok (.iadd, 1) := by decide +kernel
theorem dL_law_191 : decode cL_law 191 = .ok (.iaload, 1) := by decide +kernel
theorem dL_law_192 : decode cL_law 192 = .ok (.aload_n 0, 1) := by decide +kernel
theorem dL_law_193 : decode cL_law 193 = .ok (.iload_n 3, 1) := by decide +kernel
theorem dL_law_194 : decode cL_law 194 = .ok (.iconst 4, 1) := by decide +kernel
theorem dL_law_195 : decode cL_law 195 = .ok (.iadd, 1) := by decide +kernel
theorem dL_law_196 : decode cL_law 196 = .ok (.iaload, 1) := by decide +kernel
theorem dL_law_197 : decode cL_law 197 = .ok (.aload_n 0, 1) := by decide +kernel
theorem dL_law_198 : decode cL_law 198 = .ok (.iload_n 3, 1) := by decide +kernel
theorem dL_law_199 : decode cL_law 199 = .ok (.iconst 5, 1) := by decide +kernel
theorem dL_law_200 : decode cL_law 200 = .ok (.iadd, 1) := by decide +kernel
theorem dL_law_201 : decode cL_law 201 = .ok (.iaload, 1) := by decide +kernel
theorem dL_law_202 : decode cL_law 202 = .ok (.aload_n 0, 1) := by decide +kernel
theorem dL_law_203 : decode cL_law 203 = .ok (.iload_n 3, 1) := by decide +kernel
theorem dL_law_204 : decode cL_law 204 = .ok (.bipush 6, 2) := by decide +kernel
theorem dL_law_206 : decode cL_law 206 = .ok (.iadd, 1) := by decide +kernel
theorem dL_law_207 : decode cL_law 207 = .ok (.iaload, 1) := by decide +kernel
theorem dL_law_208 : decode cL_law 208 = .ok (.invokevirtual 13, 3) := by decide +kernel
theorem dL_law_211 : decode cL_law 211 = .ok (.aload_n 2, 1) := by decide +kernel
theorem dL_law_212 : decode cL_law 212 = .ok (.aload_n 0, 1) := by decide +kernel
theorem dL_law_213 : decode cL_law 213 = .ok (.iload_n 3, 1) := by decide +kernel
theorem dL_law_214 : decode cL_law 214 = .ok (.iconst 1, 1) := by decide +kernel
theorem dL_law_215 : decode cL_law 215 = .ok (.iadd, 1) := by decide +kernel
theorem dL_law_216 : decode cL_law 216 = .ok (.iaload, 1) := by decide +kernel
theorem dL_law_217 : decode cL_law 217 = .ok (.aload_n 0, 1) := by decide +kernel
theorem dL_law_218 : decode cL_law 218 = .ok (.iload_n 3, 1) := by decide +kernel
theorem dL_law_219 : decode cL_law 219 = .ok (.iconst 2, 1) := by decide +kernel
theorem dL_law_220 : decode cL_law 220 = .ok (.iadd, 1) := by decide +kernel
theorem dL_law_221 : decode cL_law 221 = .ok (.iaload, 1) := by decide +kernel
theorem dL_law_222 : decode cL_law 222 = .ok (.aload_n 0, 1) := by decide +kernel
theorem dL_law_223 : decode cL_law 223 = .ok (.iload_n 3, 1) := by decide +kernel
theorem dL_law_224 : decode cL_law 224 = .ok (.iconst 3, 1) := by decide +kernel
theorem dL_law_225 : decode cL_law 225 = .ok (.iadd, 1) := by decide +kernel
theorem dL_law_226 : decode cL_law 226 = .ok (.iaload, 1) := by decide +kernel
theorem dL_law_227 : decode cL_law 227 = .ok (.aload_n 0, 1) := by decide +kernel
theorem dL_law_228 : decode cL_law 228 = .ok (.iload_n 3, 1) := by decide +kernel
theorem dL_law_229 : decode cL_law 229 = .ok (.iconst 4, 1) := by decide +kernel
theorem dL_law_230 : decode cL_law 230 = .ok (.iadd, 1) := by decide +kernel
theorem dL_law_231 : decode cL_law 231 = .ok (.iaload, 1) := by decide +kernel
theorem dL_law_232 : decode cL_law 232 = .ok (.aload_n 0, 1) := by decide +kernel
theorem dL_law_233 : decode cL_law 233 = .ok (.iload_n 3, 1) := by decide +kernel
theorem dL_law_234 : decode cL_law 234 = .ok (.iconst 5, 1) := by decide +kernel
theorem dL_law_235 : decode cL_law 235 = .ok (.iadd, 1) := by decide +kernel
theorem dL_law_236 : decode cL_law 236 = .ok (.iaload, 1) := by decide +kernel
theorem dL_law_237 : decode cL_law 237 = .ok (.aload_n 0, 1) := by decide +kernel
theorem dL_law_238 : decode cL_law 238 = .ok (.iload_n 3, 1) := by decide +kernel
theorem dL_law_239 : decode cL_law 239 = .ok (.bipush 6, 2) := by decide +kernel
theorem dL_law_241 : decode cL_law 241 = .ok (.iadd, 1) := by decide +kernel
theorem dL_law_242 : decode cL_law 242 = .ok (.iaload, 1) := by decide +kernel
theorem dL_law_243 : decode cL_law 243 = .ok (.invokevirtual 17, 3) := by decide +kernel
theorem dL_law_246 : decode cL_law 246 = .ok (.if_icmp .eq 1124, 3) := by decide +kernel
theorem dL_law_249 : decode cL_law 249 = .ok (.iconst 0, 1) := by decide +kernel
theorem dL_law_250 : decode cL_law 250 = .ok (.ireturn, 1) := by decide +kernel
theorem dL_law_251 : decode cL_law 251 = .ok (.aload_n 1, 1) := by decide +kernel
theorem dL_law_252 : decode cL_law 252 = .ok (.aload_n 0, 1) := by decide +kernel
theorem dL_law_253 : decode cL_law 253 = .ok (.iload_n 3, 1) := by decide +kernel
theorem dL_law_254 : decode cL_law 254 = .ok (.iconst 1, 1) := by decide +kernel
theorem dL_law_255 : decode cL_law 255 = .ok (.iadd, 1) := by decide +kernel
theorem dL_law_256 : decode cL_law 256 = .ok (.iaload, 1) := by decide +kernel
theorem dL_law_257 : decode cL_law 257 = .ok (.aload_n 0, 1) := by decide +kernel
theorem dL_law_258 : decode cL_law 258 = .ok (.iload_n 3, 1) := by decide +kernel
theorem dL_law_259 : decode cL_law 259 = .ok (.iconst 2, 1) := by decide +kernel
theorem dL_law_260 : decode cL_law 260 = .ok (.iadd, 1) := by decide +kernel
theorem dL_law_261 : decode cL_law 261 = .ok (.iaload, 1) := by decide +kernel
theorem dL_law_262 : decode cL_law 262 = .ok (.invokevirtual 18, 3) := by decide +kernel
theorem dL_law_265 : decode cL_law 265 = .ok (.aload_n 2, 1) := by decide +kernel
theorem dL_law_266 : decode cL_law 266 = .ok (.aload_n 0, 1) := by decide +kernel
theorem dL_law_267 : decode cL_law 267 = .ok (.iload_n 3, 1) := by decide +kernel
theorem dL_law_268 : decode cL_law 268 = .ok (.iconst 1, 1) := by decide +kernel
theorem dL_law_269 : decode cL_law 269 = .ok (.iadd, 1) := by decide +kernel
theorem dL_law_270 : decode cL_law 270 = .ok (.iaload, 1) := by decide +kernel
theorem dL_law_271 : decode cL_law 271 = .ok (.aload_n 0, 1) := by decide +kernel
theorem dL_law_272 : decode cL_law 272 = .ok (.iload_n 3, 1) := by decide +kernel
theorem dL_law_273 : decode cL_law 273 = .ok (.iconst 2, 1) := by decide +kernel
theorem dL_law_274 : decode cL_law 274 = .ok (.iadd, 1) := by decide +kernel
theorem dL_law_275 : decode cL_law 275 = .ok (.iaload, 1) := by decide +kernel
theorem dL_law_276 : decode cL_law 276 = .ok (.invokevirtual 22, 3) := by decide +kernel
theorem dL_law_279 : decode cL_law 279 = .ok (.if_icmp .eq 1091, 3) := by decide +kernel
theorem dL_law_282 : decode cL_law 282 = .ok (.iconst 0, 1) := by decide +kernel
theorem dL_law_283 : decode cL_law 283 = .ok (.ireturn, 1) := by decide +kernel
theorem dL_law_284 : decode cL_law 284 = .ok (.aload_n 1, 1) := by decide +kernel
theorem dL_law_285 : decode cL_law 285 = .ok (.aload_n 0, 1) := by decide +kernel
theorem dL_law_286 : decode cL_law 286 = .ok (.iload_n 3, 1) := by decide +kernel
theorem dL_law_287 : decode cL_law 287 = .ok (.iconst 1, 1) := by decide +kernel
theorem dL_law_288 : decode cL_law 288 = .ok (.iadd, 1) := by decide +kernel
theorem dL_law_289 : decode cL_law 289 = .ok (.iaload, 1) := by decide +kernel
theorem dL_law_290 : decode cL_law 290 = .ok (.aload_n 0, 1) := by decide +kernel
theorem dL_law_291 : decode cL_law 291 = .ok (.iload_n 3, 1) := by decide +kernel
theorem dL_law_292 : decode cL_law 292 = .ok (.iconst 2, 1) := by decide +kernel
theorem dL_law_293 : decode cL_law 293 = .ok (.iadd, 1) := by decide +kernel
theorem dL_law_294 : decode cL_law 294 = .ok (.iaload, 1) := by decide +kernel
theorem dL_law_295 : decode cL_law 295 = .ok (.aload_n 0, 1) := by decide +kernel
theorem dL_law_296 : decode cL_law 296 = .ok (.iload_n 3, 1) := by decide +kernel
theorem dL_law_297 : decode cL_law 297 = .ok (.iconst 3, 1) := by decide +kernel
theorem dL_law_298 : decode cL_law 298 = .ok (.iadd, 1) := by decide +kernel
theorem dL_law_299 : decode cL_law 299 = .ok (.iaload, 1) := by decide +kernel
theorem dL_law_300 : decode cL_law 300 = .ok (.invokevirtual 23, 3) := by decide +kernel
theorem dL_law_303 : decode cL_law 303 = .ok (.aload_n 2, 1) := by decide +kernel
theorem dL_law_304 : decode cL_law 304 = .ok (.aload_n 0, 1) := by decide +kernel
theorem dL_law_305 : decode cL_law 305 = .ok (.iload_n 3, 1) := by decide +kernel
theorem dL_law_306 : decode cL_law 306 = .ok (.iconst 1, 1) := by decide +kernel
theorem dL_law_307 : decode cL_law 307 = .ok (.iadd, 1) := by decide +kernel
theorem dL_law_308 : decode cL_law 308 = .ok (.iaload, 1) := by decide +kernel
theorem dL_law_309 : decode cL_law 309 = .ok (.aload_n 0, 1) := by decide +kernel
theorem dL_law_310 : decode cL_law 310 = .ok (.iload_n 3, 1) := by decide +kernel
theorem dL_law_311 : decode cL_law 311 = .ok (.iconst 2, 1) := by decide +kernel
theorem dL_law_312 : decode cL_law 312 = .ok (.iadd, 1) := by decide +kernel
theorem dL_law_313 : decode cL_law 313 = .ok (.iaload, 1) := by decide +kernel
theorem dL_law_314 : decode cL_law 314 = .ok (.aload_n 0, 1) := by decide +kernel
theorem dL_law_315 : decode cL_law 315 = .ok (.iload_n 3, 1) := by decide +kernel
theorem dL_law_316 : decode cL_law 316 = .ok (.iconst 3, 1) := by decide +kernel
theorem dL_law_317 : decode cL_law 317 = .ok (.iadd, 1) := by decide +kernel
theorem dL_law_318 : decode cL_law 318 = .ok (.iaload, 1) := by decide +kernel
theorem dL_law_319 : decode cL_law 319 = .ok (.invokevirtual 27, 3) := by decide +kernel
theorem dL_law_322 : decode cL_law 322 = .ok (.if_icmp .eq 1048, 3) := by decide +kernel
theorem dL_law_325 : decode cL_law 325 = .ok (.iconst 0, 1) := by decide +kernel
theorem dL_law_326 : decode cL_law 326 = .ok (.ireturn, 1) := by decide +kernel
theorem dL_law_327 : decode cL_law 327 = .ok (.aload_n 1, 1) := by decide +kernel
theorem dL_law_328 : decode cL_law 328 = .ok (.aload_n 0, 1) := by decide +kernel
theorem dL_law_329 : decode cL_law 329 = .ok (.iload_n 3, 1) := by decide +kernel
theorem dL_law_330 : decode cL_law 330 = .ok (.iconst 1, 1) := by decide +kernel
theorem dL_law_331 : decode cL_law 331 = .ok (.iadd, 1) := by decide +kernel
theorem dL_law_332 : decode cL_law 332 = .ok (.iaload, 1) := by decide +kernel
theorem dL_law_333 : decode cL_law 333 = .ok (.aload_n 0, 1) := by decide +kernel
theorem dL_law_334 : decode cL_law 334 = .ok (.iload_n 3, 1) := by decide +kernel
theorem dL_law_335 : decode cL_law 335 = .ok (.iconst 2, 1) := by decide +kernel
theorem dL_law_336 : decode cL_law 336 = .ok (.iadd, 1) := by decide +kernel
theorem dL_law_337 : decode cL_law 337 = .ok (.iaload, 1) := by decide +kernel
theorem dL_law_338 : decode cL_law 338 = .ok (.invokevirtual 28, 3) := by decide +kernel
theorem dL_law_341 : decode cL_law 341 = .ok (.aload_n 2, 1) := by decide +kernel
theorem dL_law_342 : decode cL_law 342 = .ok (.aload_n 0, 1) := by decide +kernel
theorem dL_law_343 : decode cL_law 343 = .ok (.iload_n 3, 1) := by decide +kernel
theorem dL_law_344 : decode cL_law 344 = .ok (.iconst 1, 1) := by decide +kernel
theorem dL_law_345 : decode cL_law 345 = .ok (.iadd, 1) := by decide +kernel
theorem dL_law_346 : decode cL_law 346 = .ok (.iaload, 1) := by decide +kernel
theorem dL_law_347 : decode cL_law 347 = .ok (.aload_n 0, 1) := by decide +kernel
theorem dL_law_348 : decode cL_law 348 = .ok (.iload_n 3, 1) := by decide +kernel
theorem dL_law_349 : decode cL_law 349 = .ok (.iconst 2, 1) := by decide +kernel
theorem dL_law_350 : decode cL_law 350 = .ok (.iadd, 1) := by decide +kernel
theorem dL_law_351 : decode cL_law 351 = .ok (.iaload, 1) := by decide +kernel
theorem dL_law_352 : decode cL_law 352 = .ok (.invokevirtual 31, 3) := by decide +kernel
theorem dL_law_355 : decode cL_law 355 = .ok (.if_icmp .eq 1015, 3) := by decide +kernel
theorem dL_law_358 : decode cL_law 358 = .ok (.iconst 0, 1) := by decide +kernel
theorem dL_law_359 : decode cL_law 359 = .ok (.ireturn, 1) := by decide +kernel
theorem dL_law_360 : decode cL_law 360 = .ok (.aload_n 1, 1) := by decide +kernel
theorem dL_law_361 : decode cL_law 361 = .ok (.aload_n 0, 1) := by decide +kernel
theorem dL_law_362 : decode cL_law 362 = .ok (.iload_n 3, 1) := by decide +kernel
theorem dL_law_363 : decode cL_law 363 = .ok (.iconst 1, 1) := by decide +kernel
theorem dL_law_364 : decode cL_law 364 = .ok (.iadd, 1) := by decide +kernel
theorem dL_law_365 : decode cL_law 365 = .ok (.iaload, 1) := by decide +kernel
theorem dL_law_366 : decode cL_law 366 = .ok (.aload_n 0, 1) := by decide +kernel
theorem dL_law_367 : decode cL_law 367 = .ok (.iload_n 3, 1) := by decide +kernel
theorem dL_law_368 : decode cL_law 368 = .ok (.iconst 2, 1) := by decide +kernel
theorem dL_law_369 : decode cL_law 369 = .ok (.iadd, 1) := by decide +kernel
theorem dL_law_370 : decode cL_law 370 = .ok (.iaload, 1) := by decide +kernel
theorem dL_law_371 : decode cL_law 371 = .ok (.aload_n 0, 1) := by decide +kernel
theorem dL_law_372 : decode cL_law 372 = .ok (.iload_n 3, 1) := by decide +kernel
theorem dL_law_373 : decode cL_law 373 = .ok (.iconst 3, 1) := by decide +kernel
theorem dL_law_374 : decode cL_law 374 = .ok (.iadd, 1) := by decide +kernel
theorem dL_law_375 : decode cL_law 375 = .ok (.iaload, 1) := by decide +kernel
theorem dL_law_376 : decode cL_law 376 = .ok (.invokevirtual 32, 3) := by decide +kernel
theorem dL_law_379 : decode cL_law 379 = .ok (.aload_n 2, 1) := by decide +kernel
theorem dL_law_380 : decode cL_law 380 = .ok (.aload_n 0, 1) := by decide +kernel
theorem dL_law_381 : decode cL_law 381 = .ok (.iload_n 3, 1) := by decide +kernel
theorem dL_law_382 : decode cL_law 382 = .ok (.iconst 1, 1) := by decide +kernel
theorem dL_law_383 : decode cL_law 383 = .ok (.iadd, 1) := by decide +kernel
theorem dL_law_384 : decode cL_law 384 = .ok (.iaload, 1) := by decide +kernel
theorem dL_law_385 : decode cL_law 385 = .ok (.aload_n 0, 1) := by decide +kernel
theorem dL_law_386 : decode cL_law 386 = .ok (.iload_n 3, 1) := by decide +kernel
theorem dL_law_387 : decode cL_law 387 = .ok (.iconst 2, 1) := by decide +kernel
theorem dL_law_388 : decode cL_law 388 = .ok (.iadd, 1) := by decide +kernel
theorem dL_law_389 : decode cL_law 389 = .ok (.iaload, 1) := by decide +kernel
theorem dL_law_390 : decode cL_law 390 = .ok (.aload_n 0, 1) := by decide +kernel
theorem dL_law_391 : decode cL_law 391 = .ok (.iload_n 3, 1) := by decide +kernel
theorem dL_law_392 : decode cL_law 392 = .ok (.iconst 3, 1) := by decide +kernel
theorem dL_law_393 : decode cL_law 393 = .ok (.iadd, 1) := by decide +kernel
theorem dL_law_394 : decode cL_law 394 = .ok (.iaload, 1) := by decide +kernel
theorem dL_law_395 : decode cL_law 395 = .ok (.invokevirtual 35, 3) := by decide +kernel
theorem dL_law_398 : decode cL_law 398 = .ok (.if_icmp .eq 972, 3) := by decide +kernel
theorem dL_law_401 : decode cL_law 401 = .ok (.iconst 0, 1) := by decide +kernel
theorem dL_law_402 : decode cL_law 402 = .ok (.ireturn, 1) := by decide +kernel
theorem dL_law_403 : decode cL_law 403 = .ok (.aload_n 1, 1) := by decide +kernel
theorem dL_law_404 : decode cL_law 404 = .ok (.aload_n 0, 1) := by decide +kernel
theorem dL_law_405 : decode cL_law 405 = .ok (.iload_n 3, 1) := by decide +kernel
theorem dL_law_406 : decode cL_law 406 = .ok (.iconst 1, 1) := by decide +kernel
theorem dL_law_407 : decode cL_law 407 = .ok (.iadd, 1) := by decide +kernel
theorem dL_law_408 : decode cL_law 408 = .ok (.iaload, 1) := by decide +kernel
theorem dL_law_409 : decode cL_law 409 = .ok (.aload_n 0, 1) := by decide +kernel
theorem dL_law_410 : decode cL_law 410 = .ok (.iload_n 3, 1) := by decide +kernel
theorem dL_law_411 : decode cL_law 411 = .ok (.iconst 2, 1) := by decide +kernel
theorem dL_law_412 : decode cL_law 412 = .ok (.iadd, 1) := by decide +kernel
theorem dL_law_413 : decode cL_law 413 = .ok (.iaload, 1) := by decide +kernel
theorem dL_law_414 : decode cL_law 414 = .ok (.invokevirtual 36, 3) := by decide +kernel
theorem dL_law_417 : decode cL_law 417 = .ok (.aload_n 2, 1) := by decide +kernel
theorem dL_law_418 : decode cL_law 418 = .ok (.aload_n 0, 1) := by decide +kernel
theorem dL_law_419 : decode cL_law 419 = .ok (.iload_n 3, 1) := by decide +kernel
theorem dL_law_420 : decode cL_law 420 = .ok (.iconst 1, 1) := by decide +kernel
theorem dL_law_421 : decode cL_law 421 = .ok (.iadd, 1) := by decide +kernel
theorem dL_law_422 : decode cL_law 422 = .ok (.iaload, 1) := by decide +kernel
theorem dL_law_423 : decode cL_law 423 = .ok (.aload_n 0, 1) := by decide +kernel
theorem dL_law_424 : decode cL_law 424 = .ok (.iload_n 3, 1) := by decide +kernel
theorem dL_law_425 : decode cL_law 425 = .ok (.iconst 2, 1) := by decide +kernel
theorem dL_law_426 : decode cL_law 426 = .ok (.iadd, 1) := by decide +kernel
theorem dL_law_427 : decode cL_law 427 = .ok (.iaload, 1) := by decide +kernel
theorem dL_law_428 : decode cL_law 428 = .ok (.invokevirtual 39, 3) := by decide +kernel
theorem dL_law_431 : decode cL_law 431 = .ok (.if_icmp .eq 939, 3) := by decide +kernel
theorem dL_law_434 : decode cL_law 434 = .ok (.iconst 0, 1) := by decide +kernel
theorem dL_law_435 : decode cL_law 435 = .ok (.ireturn, 1) := by decide +kernel
theorem dL_law_436 : decode cL_law 436 = .ok (.aload_n 1, 1) := by decide +kernel
theorem dL_law_437 : decode cL_law 437 = .ok (.aload_n 0, 1) := by decide +kernel
theorem dL_law_438 : decode cL_law 438 = .ok (.iload_n 3, 1) := by decide +kernel
theorem dL_law_439 : decode cL_law 439 = .ok (.iconst 1, 1) := by decide +kernel
theorem dL_law_440 : decode cL_law 440 = .ok (.iadd, 1) := by decide +kernel
theorem dL_law_441 : decode cL_law 441 = .ok (.iaload, 1) := by decide +kernel
theorem dL_law_442 : decode cL_law 442 = .ok (.aload_n 0, 1) := by decide +kernel
theorem dL_law_443 : decode cL_law 443 = .ok (.iload_n 3, 1) := by decide +kernel
theorem dL_law_444 : decode cL_law 444 = .ok (.iconst 2, 1) := by decide +kernel
theorem dL_law_445 : decode cL_law 445 = .ok (.iadd, 1) := by decide +kernel
theorem dL_law_446 : decode cL_law 446 = .ok (.iaload, 1) := by decide +kernel
theorem dL_law_447 : decode cL_law 447 = .ok (.aload_n 0, 1) := by decide +kernel
theorem dL_law_448 : decode cL_law 448 = .ok (.iload_n 3, 1) := by decide +kernel
theorem dL_law_449 : decode cL_law 449 = .ok (.iconst 3, 1) := by decide +kernel
theorem dL_law_450 : decode cL_law 450 = .ok (.iadd, 1) := by decide +kernel
theorem dL_law_451 : decode cL_law 451 = .ok (.iaload, 1) := by decide +kernel
theorem dL_law_452 : decode cL_law 452 = .ok (.invokevirtual 40, 3) := by decide +kernel
theorem dL_law_455 : decode cL_law 455 = .ok (.aload_n 2, 1) := by decide +kernel
theorem dL_law_456 : decode cL_law 456 = .ok (.aload_n 0, 1) := by decide +kernel
theorem dL_law_457 : decode cL_law 457 = .ok (.iload_n 3, 1) := by decide +kernel
theorem dL_law_458 : decode cL_law 458 = .ok (.iconst 1, 1) := by decide +kernel
theorem dL_law_459 : decode cL_law 459 = .ok (.iadd, 1) := by decide +kernel
theorem dL_law_460 : decode cL_law 460 = .ok (.iaload, 1) := by decide +kernel
theorem dL_law_461 : decode cL_law 461 = .ok (.aload_n 0, 1) := by decide +kernel
theorem dL_law_462 : decode cL_law 462 = .ok (.iload_n 3, 1) := by decide +kernel
theorem dL_law_463 : decode cL_law 463 = .ok (.iconst 2, 1) := by decide +kernel
theorem dL_law_464 : decode cL_law 464 = .ok (.iadd, 1) := by decide +kernel
theorem dL_law_465 : decode cL_law 465 = .ok (.iaload, 1) := by decide +kernel
theorem dL_law_466 : decode cL_law 466 = .ok (.aload_n 0, 1) := by decide +kernel
theorem dL_law_467 : decode cL_law 467 = .ok (.iload_n 3, 1) := by decide +kernel
theorem dL_law_468 : decode cL_law 468 = .ok (.iconst 3, 1) := by decide +kernel
theorem dL_law_469 : decode cL_law 469 = .ok (.iadd, 1) := by decide +kernel
theorem dL_law_470 : decode cL_law 470 = .ok (.iaload, 1) := by decide +kernel
theorem dL_law_471 : decode cL_law 471 = .ok (.invokevirtual 43, 3) := by decide +kernel
theorem dL_law_474 : decode cL_law 474 = .ok (.if_icmp .eq 896, 3) := by decide +kernel
theorem dL_law_477 : decode cL_law 477 = .ok (.iconst 0, 1) := by decide +kernel
theorem dL_law_478 : decode cL_law 478 = .ok (.ireturn, 1) := by decide +kernel
theorem dL_law_479 : decode cL_law 479 = .ok (.aload_n 1, 1) := by decide +kernel
theorem dL_law_480 : decode cL_law 480 = .ok (.aload_n 0, 1) := by decide +kernel
theorem dL_law_481 : decode cL_law 481 = .ok (.iload_n 3, 1) := by decide +kernel
theorem dL_law_482 : decode cL_law 482 = .ok (.iconst 1, 1) := by decide +kernel
theorem dL_law_483 : decode cL_law 483 = .ok (.iadd, 1) := by decide +kernel
theorem dL_law_484 : decode cL_law 484 = .ok (.iaload, 1) := by decide +kernel
theorem dL_law_485 : decode cL_law 485 = .ok (.aload_n 0, 1) := by decide +kernel
theorem dL_law_486 : decode cL_law 486 = .ok (.iload_n 3, 1) := by decide +kernel
theorem dL_law_487 : decode cL_law 487 = .ok (.iconst 2, 1) := by decide +kernel
theorem dL_law_488 : decode cL_law 488 = .ok (.iadd, 1) := by decide +kernel
theorem dL_law_489 : decode cL_law 489 = .ok (.iaload, 1) := by decide +kernel
theorem dL_law_490 : decode cL_law 490 = .ok (.aload_n 0, 1) := by decide +kernel
theorem dL_law_491 : decode cL_law 491 = .ok (.iload_n 3, 1) := by decide +kernel
theorem dL_law_492 : decode cL_law 492 = .ok (.iconst 3, 1) := by decide +kernel
theorem dL_law_493 : decode cL_law 493 = .ok (.iadd, 1) := by decide +kernel
theorem dL_law_494 : decode cL_law 494 = .ok (.iaload, 1) := by decide +kernel
theorem dL_law_495 : decode cL_law 495 = .ok (.aload_n 0, 1) := by decide +kernel
theorem dL_law_496 : decode cL_law 496 = .ok (.iload_n 3, 1) := by decide +kernel
theorem dL_law_497 : decode cL_law 497 = .ok (.iconst 4, 1) := by decide +kernel
theorem dL_law_498 : decode cL_law 498 = .ok (.iadd, 1) := by decide +kernel
theorem dL_law_499 : decode cL_law 499 = .ok (.iaload, 1) := by decide +kernel
theorem dL_law_500 : decode cL_law 500 = .ok (.ifCond .eq 7, 3) := by decide +kernel
theorem dL_law_503 : decode cL_law 503 = .ok (.iconst 1, 1) := by decide +kernel
theorem dL_law_504 : decode cL_law 504 = .ok (.goto 4, 3) := by decide +kernel
theorem dL_law_507 : decode cL_law 507 = .ok (.iconst 0, 1) := by decide +kernel
theorem dL_law_508 : decode cL_law 508 = .ok (.invokevirtual 44, 3) := by decide +kernel
theorem dL_law_511 : decode cL_law 511 = .ok (.aload_n 2, 1) := by decide +kernel
theorem dL_law_512 : decode cL_law 512 = .ok (.aload_n 0, 1) := by decide +kernel
theorem dL_law_513 : decode cL_law 513 = .ok (.iload_n 3, 1) := by decide +kernel
theorem dL_law_514 : decode cL_law 514 = .ok (.iconst 1, 1) := by decide +kernel
theorem dL_law_515 : decode cL_law 515 = .ok (.iadd, 1) := by decide +kernel
theorem dL_law_516 : decode cL_law 516 = .ok (.iaload, 1) := by decide +kernel
theorem dL_law_517 : decode cL_law 517 = .ok (.aload_n 0, 1) := by decide +kernel
theorem dL_law_518 : decode cL_law 518 = .ok (.iload_n 3, 1) := by decide +kernel
theorem dL_law_519 : decode cL_law 519 = .ok (.iconst 2, 1) := by decide +kernel
theorem dL_law_520 : decode cL_law 520 = .ok (.iadd, 1) := by decide +kernel
theorem dL_law_521 : decode cL_law 521 = .ok (.iaload, 1) := by decide +kernel
theorem dL_law_522 : decode cL_law 522 = .ok (.aload_n 0, 1) := by decide +kernel
theorem dL_law_523 : decode cL_law 523 = .ok (.iload_n 3, 1) := by decide +kernel
theorem dL_law_524 : decode cL_law 524 = .ok (.iconst 3, 1) := by decide +kernel
theorem dL_law_525 : decode cL_law 525 = .ok (.iadd, 1) := by decide +kernel
theorem dL_law_526 : decode cL_law 526 = .ok (.iaload, 1) := by decide +kernel
theorem dL_law_527 : decode cL_law 527 = .ok (.aload_n 0, 1) := by decide +kernel
theorem dL_law_528 : decode cL_law 528 = .ok (.iload_n 3, 1) := by decide +kernel
theorem dL_law_529 : decode cL_law 529 = .ok (.iconst 4, 1) := by decide +kernel
theorem dL_law_530 : decode cL_law 530 = .ok (.iadd, 1) := by decide +kernel
theorem dL_law_531 : decode cL_law 531 = .ok (.iaload, 1) := by decide +kernel
theorem dL_law_532 : decode cL_law 532 = .ok (.ifCond .eq 7, 3) := by decide +kernel
theorem dL_law_535 : decode cL_law 535 = .ok (.iconst 1, 1) := by decide +kernel
theorem dL_law_536 : decode cL_law 536 = .ok (.goto 4, 3) := by decide +kernel
theorem dL_law_539 : decode cL_law 539 = .ok (.iconst 0, 1) := by decide +kernel
theorem dL_law_540 : decode cL_law 540 = .ok (.invokevirtual 48, 3) := by decide +kernel
theorem dL_law_543 : decode cL_law 543 = .ok (.if_icmp .eq 827, 3) := by decide +kernel
theorem dL_law_546 : decode cL_law 546 = .ok (.iconst 0, 1) := by decide +kernel
theorem dL_law_547 : decode cL_law 547 = .ok (.ireturn, 1) := by decide +kernel
theorem dL_law_548 : decode cL_law 548 = .ok (.aload_n 1, 1) := by decide +kernel
theorem dL_law_549 : decode cL_law 549 = .ok (.aload_n 0, 1) := by decide +kernel
theorem dL_law_550 : decode cL_law 550 = .ok (.iload_n 3, 1) := by decide +kernel
theorem dL_law_551 : decode cL_law 551 = .ok (.iconst 1, 1) := by decide +kernel
theorem dL_law_552 : decode cL_law 552 = .ok (.iadd, 1) := by decide +kernel
theorem dL_law_553 : decode cL_law 553 = .ok (.iaload, 1) := by decide +kernel
theorem dL_law_554 : decode cL_law 554 = .ok (.aload_n 0, 1) := by decide +kernel
theorem dL_law_555 : decode cL_law 555 = .ok (.iload_n 3, 1) := by decide +kernel
theorem dL_law_556 : decode cL_law 556 = .ok (.iconst 2, 1) := by decide +kernel
theorem dL_law_557 : decode cL_law 557 = .ok (.iadd, 1) := by decide +kernel
theorem dL_law_558 : decode cL_law 558 = .ok (.iaload, 1) := by decide +kernel
theorem dL_law_559 : decode cL_law 559 = .ok (.invokevirtual 49, 3) := by decide +kernel
theorem dL_law_562 : decode cL_law 562 = .ok (.aload_n 2, 1) := by decide +kernel
theorem dL_law_563 : decode cL_law 563 = .ok (.aload_n 0, 1) := by decide +kernel
theorem dL_law_564 : decode cL_law 564 = .ok (.iload_n 3, 1) := by decide +kernel
theorem dL_law_565 : decode cL_law 565 = .ok (.iconst 1, 1) := by decide +kernel
theorem dL_law_566 : decode cL_law 566 = .ok (.iadd, 1) := by decide +kernel
theorem dL_law_567 : decode cL_law 567 = .ok (.iaload, 1) := by decide +kernel
theorem dL_law_568 : decode cL_law 568 = .ok (.aload_n 0, 1) := by decide +kernel
theorem dL_law_569 : decode cL_law 569 = .ok (.iload_n 3, 1) := by decide +kernel
theorem dL_law_570 : decode cL_law 570 = .ok (.iconst 2, 1) := by decide +kernel
theorem dL_law_571 : decode cL_law 571 = .ok (.iadd, 1) := by decide +kernel
theorem dL_law_572 : decode cL_law 572 = .ok (.iaload, 1) := by decide +kernel
theorem dL_law_573 : decode cL_law 573 = .ok (.invokevirtual 52, 3) := by decide +kernel
theorem dL_law_576 : decode cL_law 576 = .ok (.if_icmp .eq 794, 3) := by decide +kernel
theorem dL_law_579 : decode cL_law 579 = .ok (.iconst 0, 1) := by decide +kernel
theorem dL_law_580 : decode cL_law 580 = .ok (.ireturn, 1) := by decide +kernel
theorem dL_law_581 : decode cL_law 581 = .ok (.aload_n 1, 1) := by decide +kernel
theorem dL_law_582 : decode cL_law 582 = .ok (.aload_n 0, 1) := by decide +kernel
theorem dL_law_583 : decode cL_law 583 = .ok (.iload_n 3, 1) := by decide +kernel
theorem dL_law_584 : decode cL_law 584 = .ok (.iconst 1, 1) := by decide +kernel
theorem dL_law_585 : decode cL_law 585 = .ok (.iadd, 1) := by decide +kernel
theorem dL_law_586 : decode cL_law 586 = .ok (.iaload, 1) := by decide +kernel
theorem dL_law_587 : decode cL_law 587 = .ok (.invokevirtual 53, 3) := by decide +kernel
theorem dL_law_590 : decode cL_law 590 = .ok (.aload_n 2, 1) := by decide +kernel
theorem dL_law_591 : decode cL_law 591 = .ok (.aload_n 0, 1) := by decide +kernel
theorem dL_law_592 : decode cL_law 592 = .ok (.iload_n 3, 1) := by decide +kernel
theorem dL_law_593 : decode cL_law 593 = .ok (.iconst 1, 1) := by decide +kernel
theorem dL_law_594 : decode cL_law 594 = .ok (.iadd, 1) := by decide +kernel
theorem dL_law_595 : decode cL_law 595 = .ok (.iaload, 1) := by decide +kernel
theorem dL_law_596 : decode cL_law 596 = .ok (.invokevirtual 57, 3) := by decide +kernel
theorem dL_law_599 : decode cL_law 599 = .ok (.lcmp, 1) := by decide +kernel
theorem dL_law_600 : decode cL_law 600 = .ok (.ifCond .eq 770, 3) := by decide +kernel
theorem dL_law_603 : decode cL_law 603 = .ok (.iconst 0, 1) := by decide +kernel
theorem dL_law_604 : decode cL_law 604 = .ok (.ireturn, 1) := by decide +kernel
theorem dL_law_605 : decode cL_law 605 = .ok (.aload_n 1, 1) := by decide +kernel
theorem dL_law_606 : decode cL_law 606 = .ok (.aload_n 0, 1) := by decide +kernel
theorem dL_law_607 : decode cL_law 607 = .ok (.iload_n 3, 1) := by decide +kernel
theorem dL_law_608 : decode cL_law 608 = .ok (.iconst 1, 1) := by decide +kernel
theorem dL_law_609 : decode cL_law 609 = .ok (.iadd, 1) := by decide +kernel
theorem dL_law_610 : decode cL_law 610 = .ok (.iaload, 1) := by decide +kernel
theorem dL_law_611 : decode cL_law 611 = .ok (.aload_n 0, 1) := by decide +kernel
theorem dL_law_612 : decode cL_law 612 = .ok (.iload_n 3, 1) := by decide +kernel
theorem dL_law_613 : decode cL_law 613 = .ok (.iconst 2, 1) := by decide +kernel
theorem dL_law_614 : decode cL_law 614 = .ok (.iadd, 1) := by decide +kernel
theorem dL_law_615 : decode cL_law 615 = .ok (.iaload, 1) := by decide +kernel
theorem dL_law_616 : decode cL_law 616 = .ok (.aload_n 0, 1) := by decide +kernel
theorem dL_law_617 : decode cL_law 617 = .ok (.iload_n 3, 1) := by decide +kernel
theorem dL_law_618 : decode cL_law 618 = .ok (.iconst 3, 1) := by decide +kernel
theorem dL_law_619 : decode cL_law 619 = .ok (.iadd, 1) := by decide +kernel
theorem dL_law_620 : decode cL_law 620 = .ok (.iaload, 1) := by decide +kernel
theorem dL_law_621 : decode cL_law 621 = .ok (.aload_n 0, 1) := by decide +kernel
theorem dL_law_622 : decode cL_law 622 = .ok (.iload_n 3, 1) := by decide +kernel
theorem dL_law_623 : decode cL_law 623 = .ok (.iconst 4, 1) := by decide +kernel
theorem dL_law_624 : decode cL_law 624 = .ok (.iadd, 1) := by decide +kernel
theorem dL_law_625 : decode cL_law 625 = .ok (.iaload, 1) := by decide +kernel
theorem dL_law_626 : decode cL_law 626 = .ok (.invokevirtual 58, 3) := by decide +kernel
theorem dL_law_629 : decode cL_law 629 = .ok (.aload_n 2, 1) := by decide +kernel
theorem dL_law_630 : decode cL_law 630 = .ok (.aload_n 0, 1) := by decide +kernel
theorem dL_law_631 : decode cL_law 631 = .ok (.iload_n 3, 1) := by decide +kernel
theorem dL_law_632 : decode cL_law 632 = .ok (.iconst 1, 1) := by decide +kernel
theorem dL_law_633 : decode cL_law 633 = .ok (.iadd, 1) := by decide +kernel
theorem dL_law_634 : decode cL_law 634 = .ok (.iaload, 1) := by decide +kernel
theorem dL_law_635 : decode cL_law 635 = .ok (.aload_n 0, 1) := by decide +kernel
theorem dL_law_636 : decode cL_law 636 = .ok (.iload_n 3, 1) := by decide +kernel
theorem dL_law_637 : decode cL_law 637 = .ok (.iconst 2, 1) := by decide +kernel
theorem dL_law_638 : decode cL_law 638 = .ok (.iadd, 1) := by decide +kernel
theorem dL_law_639 : decode cL_law 639 = .ok (.iaload, 1) := by decide +kernel
theorem dL_law_640 : decode cL_law 640 = .ok (.aload_n 0, 1) := by decide +kernel
theorem dL_law_641 : decode cL_law 641 = .ok (.iload_n 3, 1) := by decide +kernel
theorem dL_law_642 : decode cL_law 642 = .ok (.iconst 3, 1) := by decide +kernel
theorem dL_law_643 : decode cL_law 643 = .ok (.iadd, 1) := by decide +kernel
theorem dL_law_644 : decode cL_law 644 = .ok (.iaload, 1) := by decide +kernel
theorem dL_law_645 : decode cL_law 645 = .ok (.aload_n 0, 1) := by decide +kernel
theorem dL_law_646 : decode cL_law 646 = .ok (.iload_n 3, 1) := by decide +kernel
theorem dL_law_647 : decode cL_law 647 = .ok (.iconst 4, 1) := by decide +kernel
theorem dL_law_648 : decode cL_law 648 = .ok (.iadd, 1) := by decide +kernel
theorem dL_law_649 : decode cL_law 649 = .ok (.iaload, 1) := by decide +kernel
theorem dL_law_650 : decode cL_law 650 = .ok (.invokevirtual 62, 3) := by decide +kernel
theorem dL_law_653 : decode cL_law 653 = .ok (.if_icmp .eq 717, 3) := by decide +kernel
theorem dL_law_656 : decode cL_law 656 = .ok (.iconst 0, 1) := by decide +kernel
theorem dL_law_657 : decode cL_law 657 = .ok (.ireturn, 1) := by decide +kernel
theorem dL_law_658 : decode cL_law 658 = .ok (.aload_n 1, 1) := by decide +kernel
theorem dL_law_659 : decode cL_law 659 = .ok (.aload_n 0, 1) := by decide +kernel
theorem dL_law_660 : decode cL_law 660 = .ok (.iload_n 3, 1) := by decide +kernel
theorem dL_law_661 : decode cL_law 661 = .ok (.iconst 1, 1) := by decide +kernel
theorem dL_law_662 : decode cL_law 662 = .ok (.iadd, 1) := by decide +kernel
theorem dL_law_663 : decode cL_law 663 = .ok (.iaload, 1) := by decide +kernel
theorem dL_law_664 : decode cL_law 664 = .ok (.aload_n 0, 1) := by decide +kernel
theorem dL_law_665 : decode cL_law 665 = .ok (.iload_n 3, 1) := by decide +kernel
theorem dL_law_666 : decode cL_law 666 = .ok (.iconst 2, 1) := by decide +kernel
theorem dL_law_667 : decode cL_law 667 = .ok (.iadd, 1) := by decide +kernel
theorem dL_law_668 : decode cL_law 668 = .ok (.iaload, 1) := by decide +kernel
theorem dL_law_669 : decode cL_law 669 = .ok (.aload_n 0, 1) := by decide +kernel
theorem dL_law_670 : decode cL_law 670 = .ok (.iload_n 3, 1) := by decide +kernel
theorem dL_law_671 : decode cL_law 671 = .ok (.iconst 3, 1) := by decide +kernel
theorem dL_law_672 : decode cL_law 672 = .ok (.iadd, 1) := by decide +kernel
theorem dL_law_673 : decode cL_law 673 = .ok (.iaload, 1) := by decide +kernel
theorem dL_law_674 : decode cL_law 674 = .ok (.aload_n 0, 1) := by decide +kernel
theorem dL_law_675 : decode cL_law 675 = .ok (.iload_n 3, 1) := by decide +kernel
theorem dL_law_676 : decode cL_law 676 = .ok (.iconst 4, 1) := by decide +kernel
theorem dL_law_677 : decode cL_law 677 = .ok (.iadd, 1) := by decide +kernel
theorem dL_law_678 : decode cL_law 678 = .ok (.iaload, 1) := by decide +kernel
theorem dL_law_679 : decode cL_law 679 = .ok (.invokevirtual 63, 3) := by decide +kernel
theorem dL_law_682 : decode cL_law 682 = .ok (.aload_n 2, 1) := by decide +kernel
theorem dL_law_683 : decode cL_law 683 = .ok (.aload_n 0, 1) := by decide +kernel
theorem dL_law_684 : decode cL_law 684 = .ok (.iload_n 3, 1) := by decide +kernel
theorem dL_law_685 : decode cL_law 685 = .ok (.iconst 1, 1) := by decide +kernel
theorem dL_law_686 : decode cL_law 686 = .ok (.iadd, 1) := by decide +kernel
theorem dL_law_687 : decode cL_law 687 = .ok (.iaload, 1) := by decide +kernel
theorem dL_law_688 : decode cL_law 688 = .ok (.aload_n 0, 1) := by decide +kernel
theorem dL_law_689 : decode cL_law 689 = .ok (.iload_n 3, 1) := by decide +kernel
theorem dL_law_690 : decode cL_law 690 = .ok (.iconst 2, 1) := by decide +kernel
theorem dL_law_691 : decode cL_law 691 = .ok (.iadd, 1) := by decide +kernel
theorem dL_law_692 : decode cL_law 692 = .ok (.iaload, 1) := by decide +kernel
theorem dL_law_693 : decode cL_law 693 = .ok (.aload_n 0, 1) := by decide +kernel
theorem dL_law_694 : decode cL_law 694 = .ok (.iload_n 3, 1) := by decide +kernel
theorem dL_law_695 : decode cL_law 695 = .ok (.iconst 3, 1) := by decide +kernel
theorem dL_law_696 : decode cL_law 696 = .ok (.iadd, 1) := by decide +kernel
theorem dL_law_697 : decode cL_law 697 = .ok (.iaload, 1) := by decide +kernel
theorem dL_law_698 : decode cL_law 698 = .ok (.aload_n 0, 1) := by decide +kernel
theorem dL_law_699 : decode cL_law 699 = .ok (.iload_n 3, 1) := by decide +kernel
theorem dL_law_700 : decode cL_law 700 = .ok (.iconst 4, 1) := by decide +kernel
theorem dL_law_701 : decode cL_law 701 = .ok (.iadd, 1) := by decide +kernel
theorem dL_law_702 : decode cL_law 702 = .ok (.iaload, 1) := by decide +kernel
theorem dL_law_703 : decode cL_law 703 = .ok (.invokevirtual 66, 3) := by decide +kernel
theorem dL_law_706 : decode cL_law 706 = .ok (.if_icmp .eq 664, 3) := by decide +kernel
theorem dL_law_709 : decode cL_law 709 = .ok (.iconst 0, 1) := by decide +kernel
theorem dL_law_710 : decode cL_law 710 = .ok (.ireturn, 1) := by decide +kernel
theorem dL_law_711 : decode cL_law 711 = .ok (.aload_n 1, 1) := by decide +kernel
theorem dL_law_712 : decode cL_law 712 = .ok (.aload_n 0, 1) := by decide +kernel
theorem dL_law_713 : decode cL_law 713 = .ok (.iload_n 3, 1) := by decide +kernel
theorem dL_law_714 : decode cL_law 714 = .ok (.iconst 1, 1) := by decide +kernel
theorem dL_law_715 : decode cL_law 715 = .ok (.iadd, 1) := by decide +kernel
theorem dL_law_716 : decode cL_law 716 = .ok (.iaload, 1) := by decide +kernel
theorem dL_law_717 : decode cL_law 717 = .ok (.invokevirtual 67, 3) := by decide +kernel
theorem dL_law_720 : decode cL_law 720 = .ok (.aload_n 2, 1) := by decide +kernel
theorem dL_law_721 : decode cL_law 721 = .ok (.aload_n 0, 1) := by decide +kernel
theorem dL_law_722 : decode cL_law 722 = .ok (.iload_n 3, 1) := by decide +kernel
theorem dL_law_723 : decode cL_law 723 = .ok (.iconst 1, 1) := by decide +kernel
theorem dL_law_724 : decode cL_law 724 = .ok (.iadd, 1) := by decide +kernel
theorem dL_law_725 : decode cL_law 725 = .ok (.iaload, 1) := by decide +kernel
theorem dL_law_726 : decode cL_law 726 = .ok (.invokevirtual 71, 3) := by decide +kernel
theorem dL_law_729 : decode cL_law 729 = .ok (.if_icmp .eq 641, 3) := by decide +kernel
theorem dL_law_732 : decode cL_law 732 = .ok (.iconst 0, 1) := by decide +kernel
theorem dL_law_733 : decode cL_law 733 = .ok (.ireturn, 1) := by decide +kernel
theorem dL_law_734 : decode cL_law 734 = .ok (.aload_n 1, 1) := by decide +kernel
theorem dL_law_735 : decode cL_law 735 = .ok (.aload_n 0, 1) := by decide +kernel
theorem dL_law_736 : decode cL_law 736 = .ok (.iload_n 3, 1) := by decide +kernel
theorem dL_law_737 : decode cL_law 737 = .ok (.iconst 1, 1) := by decide +kernel
theorem dL_law_738 : decode cL_law 738 = .ok (.iadd, 1) := by decide +kernel
theorem dL_law_739 : decode cL_law 739 = .ok (.iaload, 1) := by decide +kernel
theorem dL_law_740 : decode cL_law 740 = .ok (.aload_n 0, 1) := by decide +kernel
theorem dL_law_741 : decode cL_law 741 = .ok (.iload_n 3, 1) := by decide +kernel
theorem dL_law_742 : decode cL_law 742 = .ok (.iconst 2, 1) := by decide +kernel
theorem dL_law_743 : decode cL_law 743 = .ok (.iadd, 1) := by decide +kernel
theorem dL_law_744 : decode cL_law 744 = .ok (.iaload, 1) := by decide +kernel
theorem dL_law_745 : decode cL_law 745 = .ok (.invokevirtual 72, 3) := by decide +kernel
theorem dL_law_748 : decode cL_law 748 = .ok (.aload_n 2, 1) := by decide +kernel
theorem dL_law_749 : decode cL_law 749 = .ok (.aload_n 0, 1) := by decide +kernel
theorem dL_law_750 : decode cL_law 750 = .ok (.iload_n 3, 1) := by decide +kernel
theorem dL_law_751 : decode cL_law 751 = .ok (.iconst 1, 1) := by decide +kernel
theorem dL_law_752 : decode cL_law 752 = .ok (.iadd, 1) := by decide +kernel
theorem dL_law_753 : decode cL_law 753 = .ok (.iaload, 1) := by decide +kernel
theorem dL_law_754 : decode cL_law 754 = .ok (.aload_n 0, 1) := by decide +kernel
theorem dL_law_755 : decode cL_law 755 = .ok (.iload_n 3, 1) := by decide +kernel
theorem dL_law_756 : decode cL_law 756 = .ok (.iconst 2, 1) := by decide +kernel
theorem dL_law_757 : decode cL_law 757 = .ok (.iadd, 1) := by decide +kernel
theorem dL_law_758 : decode cL_law 758 = .ok (.iaload, 1) := by decide +kernel
theorem dL_law_759 : decode cL_law 759 = .ok (.invokevirtual 75, 3) := by decide +kernel
theorem dL_law_762 : decode cL_law 762 = .ok (.if_icmp .eq 608, 3) := by decide +kernel
theorem dL_law_765 : decode cL_law 765 = .ok (.iconst 0, 1) := by decide +kernel
theorem dL_law_766 : decode cL_law 766 = .ok (.ireturn, 1) := by decide +kernel
theorem dL_law_767 : decode cL_law 767 = .ok (.aload_n 1, 1) := by decide +kernel
theorem dL_law_768 : decode cL_law 768 = .ok (.aload_n 0, 1) := by decide +kernel
theorem dL_law_769 : decode cL_law 769 = .ok (.iload_n 3, 1) := by decide +kernel
theorem dL_law_770 : decode cL_law 770 = .ok (.iconst 1, 1) := by decide +kernel
theorem dL_law_771 : decode cL_law 771 = .ok (.iadd, 1) := by decide +kernel
theorem dL_law_772 : decode cL_law 772 = .ok (.iaload, 1) := by decide +kernel
theorem dL_law_773 : decode cL_law 773 = .ok (.aload_n 0, 1) := by decide +kernel
theorem dL_law_774 : decode cL_law 774 = .ok (.iload_n 3, 1) := by decide +kernel
theorem dL_law_775 : decode cL_law 775 = .ok (.iconst 2, 1) := by decide +kernel
theorem dL_law_776 : decode cL_law 776 = .ok (.iadd, 1) := by decide +kernel
theorem dL_law_777 : decode cL_law 777 = .ok (.iaload, 1) := by decide +kernel
theorem dL_law_778 : decode cL_law 778 = .ok (.invokevirtual 76, 3) := by decide +kernel
theorem dL_law_781 : decode cL_law 781 = .ok (.aload_n 2, 1) := by decide +kernel
theorem dL_law_782 : decode cL_law 782 = .ok (.aload_n 0, 1) := by decide +kernel
theorem dL_law_783 : decode cL_law 783 = .ok (.iload_n 3, 1) := by decide +kernel
theorem dL_law_784 : decode cL_law 784 = .ok (.iconst 1, 1) := by decide +kernel
theorem dL_law_785 : decode cL_law 785 = .ok (.iadd, 1) := by decide +kernel
theorem dL_law_786 : decode cL_law 786 = .ok (.iaload, 1) := by decide +kernel
theorem dL_law_787 : decode cL_law 787 = .ok (.aload_n 0, 1) := by decide +kernel
theorem dL_law_788 : decode cL_law 788 = .ok (.iload_n 3, 1) := by decide +kernel
theorem dL_law_789 : decode cL_law 789 = .ok (.iconst 2, 1) := by decide +kernel
theorem dL_law_790 : decode cL_law 790 = .ok (.iadd, 1) := by decide +kernel
theorem dL_law_791 : decode cL_law 791 = .ok (.iaload, 1) := by decide +kernel
theorem dL_law_792 : decode cL_law 792 = .ok (.invokevirtual 79, 3) := by decide +kernel
theorem dL_law_795 : decode cL_law 795 = .ok (.if_icmp .eq 575, 3) := by decide +kernel
theorem dL_law_798 : decode cL_law 798 = .ok (.iconst 0, 1) := by decide +kernel
theorem dL_law_799 : decode cL_law 799 = .ok (.ireturn, 1) := by decide +kernel
theorem dL_law_800 : decode cL_law 800 = .ok (.aload_n 1, 1) := by decide +kernel
theorem dL_law_801 : decode cL_law 801 = .ok (.aload_n 0, 1) := by decide +kernel
theorem dL_law_802 : decode cL_law 802 = .ok (.iload_n 3, 1) := by decide +kernel
theorem dL_law_803 : decode cL_law 803 = .ok (.iconst 1, 1) := by decide +kernel
theorem dL_law_804 : decode cL_law 804 = .ok (.iadd, 1) := by decide +kernel
theorem dL_law_805 : decode cL_law 805 = .ok (.iaload, 1) := by decide +kernel
theorem dL_law_806 : decode cL_law 806 = .ok (.invokevirtual 80, 3) := by decide +kernel
theorem dL_law_809 : decode cL_law 809 = .ok (.aload_n 2, 1) := by decide +kernel
theorem dL_law_810 : decode cL_law 810 = .ok (.aload_n 0, 1) := by decide +kernel
theorem dL_law_811 : decode cL_law 811 = .ok (.iload_n 3, 1) := by decide +kernel
theorem dL_law_812 : decode cL_law 812 = .ok (.iconst 1, 1) := by decide +kernel
theorem dL_law_813 : decode cL_law 813 = .ok (.iadd, 1) := by decide +kernel
theorem dL_law_814 : decode cL_law 814 = .ok (.iaload, 1) := by decide +kernel
theorem dL_law_815 : decode cL_law 815 = .ok (.invokevirtual 83, 3) := by decide +kernel
theorem dL_law_818 : decode cL_law 818 = .ok (.if_icmp .eq 552, 3) := by decide +kernel
theorem dL_law_821 : decode cL_law 821 = .ok (.iconst 0, 1) := by decide +kernel
theorem dL_law_822 : decode cL_law 822 = .ok (.ireturn, 1) := by decide +kernel
theorem dL_law_823 : decode cL_law 823 = .ok (.aload_n 1, 1) := by decide +kernel
theorem dL_law_824 : decode cL_law 824 = .ok (.aload_n 0, 1) := by decide +kernel
theorem dL_law_825 : decode cL_law 825 = .ok (.iload_n 3, 1) := by decide +kernel
theorem dL_law_826 : decode cL_law 826 = .ok (.iconst 1, 1) := by decide +kernel
theorem dL_law_827 : decode cL_law 827 = .ok (.iadd, 1) := by decide +kernel
theorem dL_law_828 : decode cL_law 828 = .ok (.iaload, 1) := by decide +kernel
theorem dL_law_829 : decode cL_law 829 = .ok (.invokevirtual 84, 3) := by decide +kernel
theorem dL_law_832 : decode cL_law 832 = .ok (.aload_n 2, 1) := by decide +kernel
theorem dL_law_833 : decode cL_law 833 = .ok (.aload_n 0, 1) := by decide +kernel
theorem dL_law_834 : decode cL_law 834 = .ok (.iload_n 3, 1) := by decide +kernel
theorem dL_law_835 : decode cL_law 835 = .ok (.iconst 1, 1) := by decide +kernel
theorem dL_law_836 : decode cL_law 836 = .ok (.iadd, 1) := by decide +kernel
theorem dL_law_837 : decode cL_law 837 = .ok (.iaload, 1) := by decide +kernel
theorem dL_law_838 : decode cL_law 838 = .ok (.invokevirtual 87, 3) := by decide +kernel
theorem dL_law_841 : decode cL_law 841 = .ok (.if_icmp .eq 529, 3) := by decide +kernel
theorem dL_law_844 : decode cL_law 844 = .ok (.iconst 0, 1) := by decide +kernel
theorem dL_law_845 : decode cL_law 845 = .ok (.ireturn, 1) := by decide +kernel
theorem dL_law_846 : decode cL_law 846 = .ok (.aload_n 1, 1) := by decide +kernel
theorem dL_law_847 : decode cL_law 847 = .ok (.aload_n 0, 1) := by decide +kernel
theorem dL_law_848 : decode cL_law 848 = .ok (.iload_n 3, 1) := by decide +kernel
theorem dL_law_849 : decode cL_law 849 = .ok (.iconst 1, 1) := by decide +kernel
theorem dL_law_850 : decode cL_law 850 = .ok (.iadd, 1) := by decide +kernel
theorem dL_law_851 : decode cL_law 851 = .ok (.iaload, 1) := by decide +kernel
theorem dL_law_852 : decode cL_law 852 = .ok (.aload_n 0, 1) := by decide +kernel
theorem dL_law_853 : decode cL_law 853 = .ok (.iload_n 3, 1) := by decide +kernel
theorem dL_law_854 : decode cL_law 854 = .ok (.iconst 2, 1) := by decide +kernel
theorem dL_law_855 : decode cL_law 855 = .ok (.iadd, 1) := by decide +kernel
theorem dL_law_856 : decode cL_law 856 = .ok (.iaload, 1) := by decide +kernel
theorem dL_law_857 : decode cL_law 857 = .ok (.aload_n 0, 1) := by decide +kernel
theorem dL_law_858 : decode cL_law 858 = .ok (.iload_n 3, 1) := by decide +kernel
theorem dL_law_859 : decode cL_law 859 = .ok (.iconst 3, 1) := by decide +kernel
theorem dL_law_860 : decode cL_law 860 = .ok (.iadd, 1) := by decide +kernel
theorem dL_law_861 : decode cL_law 861 = .ok (.iaload, 1) := by decide +kernel
theorem dL_law_862 : decode cL_law 862 = .ok (.aload_n 0, 1) := by decide +kernel
theorem dL_law_863 : decode cL_law 863 = .ok (.iload_n 3, 1) := by decide +kernel
theorem dL_law_864 : decode cL_law 864 = .ok (.iconst 4, 1) := by decide +kernel
theorem dL_law_865 : decode cL_law 865 = .ok (.iadd, 1) := by decide +kernel
theorem dL_law_866 : decode cL_law 866 = .ok (.iaload, 1) := by decide +kernel
theorem dL_law_867 : decode cL_law 867 = .ok (.aload_n 0, 1) := by decide +kernel
theorem dL_law_868 : decode cL_law 868 = .ok (.iload_n 3, 1) := by decide +kernel
theorem dL_law_869 : decode cL_law 869 = .ok (.iconst 5, 1) := by decide +kernel
theorem dL_law_870 : decode cL_law 870 = .ok (.iadd, 1) := by decide +kernel
theorem dL_law_871 : decode cL_law 871 = .ok (.iaload, 1) := by decide +kernel
theorem dL_law_872 : decode cL_law 872 = .ok (.invokevirtual 88, 3) := by decide +kernel
theorem dL_law_875 : decode cL_law 875 = .ok (.aload_n 2, 1) := by decide +kernel
theorem dL_law_876 : decode cL_law 876 = .ok (.aload_n 0, 1) := by decide +kernel
theorem dL_law_877 : decode cL_law 877 = .ok (.iload_n 3, 1) := by decide +kernel
theorem dL_law_878 : decode cL_law 878 = .ok (.iconst 1, 1) := by decide +kernel
theorem dL_law_879 : decode cL_law 879 = .ok (.iadd, 1) := by decide +kernel
theorem dL_law_880 : decode cL_law 880 = .ok (.iaload, 1) := by decide +kernel
theorem dL_law_881 : decode cL_law 881 = .ok (.aload_n 0, 1) := by decide +kernel
theorem dL_law_882 : decode cL_law 882 = .ok (.iload_n 3, 1) := by decide +kernel
theorem dL_law_883 : decode cL_law 883 = .ok (.iconst 2, 1) := by decide +kernel
theorem dL_law_884 : decode cL_law 884 = .ok (.iadd, 1) := by decide +kernel
theorem dL_law_885 : decode cL_law 885 = .ok (.iaload, 1) := by decide +kernel
theorem dL_law_886 : decode cL_law 886 = .ok (.aload_n 0, 1) := by decide +kernel
theorem dL_law_887 : decode cL_law 887 = .ok (.iload_n 3, 1) := by decide +kernel
theorem dL_law_888 : decode cL_law 888 = .ok (.iconst 3, 1) := by decide +kernel
theorem dL_law_889 : decode cL_law 889 = .ok (.iadd, 1) := by decide +kernel
theorem dL_law_890 : decode cL_law 890 = .ok (.iaload, 1) := by decide +kernel
theorem dL_law_891 : decode cL_law 891 = .ok (.aload_n 0, 1) := by decide +kernel
theorem dL_law_892 : decode cL_law 892 = .ok (.iload_n 3, 1) := by decide +kernel
theorem dL_law_893 : decode cL_law 893 = .ok (.iconst 4, 1) := by decide +kernel
theorem dL_law_894 : decode cL_law 894 = .ok (.iadd, 1) := by decide +kernel
theorem dL_law_895 : decode cL_law 895 = .ok (.iaload, 1) := by decide +kernel
theorem dL_law_896 : decode cL_law 896 = .ok (.aload_n 0, 1) := by decide +kernel
theorem dL_law_897 : decode cL_law 897 = .ok (.iload_n 3, 1) := by decide +kernel
theorem dL_law_898 : decode cL_law 898 = .ok (.iconst 5, 1) := by decide +kernel
theorem dL_law_899 : decode cL_law 899 = .ok (.iadd, 1) := by decide +kernel
theorem dL_law_900 : decode cL_law 900 = .ok (.iaload, 1) := by decide +kernel
theorem dL_law_901 : decode cL_law 901 = .ok (.invokevirtual 92, 3) := by decide +kernel
theorem dL_law_904 : decode cL_law 904 = .ok (.if_icmp .eq 466, 3) := by decide +kernel
theorem dL_law_907 : decode cL_law 907 = .ok (.iconst 0, 1) := by decide +kernel
theorem dL_law_908 : decode cL_law 908 = .ok (.ireturn, 1) := by decide +kernel
theorem dL_law_909 : decode cL_law 909 = .ok (.aload_n 1, 1) := by decide +kernel
theorem dL_law_910 : decode cL_law 910 = .ok (.aload_n 0, 1) := by decide +kernel
theorem dL_law_911 : decode cL_law 911 = .ok (.iload_n 3, 1) := by decide +kernel
theorem dL_law_912 : decode cL_law 912 = .ok (.iconst 1, 1) := by decide +kernel
theorem dL_law_913 : decode cL_law 913 = .ok (.iadd, 1) := by decide +kernel
theorem dL_law_914 : decode cL_law 914 = .ok (.iaload, 1) := by decide +kernel
theorem dL_law_915 : decode cL_law 915 = .ok (.aload_n 0, 1) := by decide +kernel
theorem dL_law_916 : decode cL_law 916 = .ok (.iload_n 3, 1) := by decide +kernel
theorem dL_law_917 : decode cL_law 917 = .ok (.iconst 2, 1) := by decide +kernel
theorem dL_law_918 : decode cL_law 918 = .ok (.iadd, 1) := by decide +kernel
theorem dL_law_919 : decode cL_law 919 = .ok (.iaload, 1) := by decide +kernel
theorem dL_law_920 : decode cL_law 920 = .ok (.aload_n 0, 1) := by decide +kernel
theorem dL_law_921 : decode cL_law 921 = .ok (.iload_n 3, 1) := by decide +kernel
theorem dL_law_922 : decode cL_law 922 = .ok (.iconst 3, 1) := by decide +kernel
theorem dL_law_923 : decode cL_law 923 = .ok (.iadd, 1) := by decide +kernel
theorem dL_law_924 : decode cL_law 924 = .ok (.iaload, 1) := by decide +kernel
theorem dL_law_925 : decode cL_law 925 = .ok (.aload_n 0, 1) := by decide +kernel
theorem dL_law_926 : decode cL_law 926 = .ok (.iload_n 3, 1) := by decide +kernel
theorem dL_law_927 : decode cL_law 927 = .ok (.iconst 4, 1) := by decide +kernel
theorem dL_law_928 : decode cL_law 928 = .ok (.iadd, 1) := by decide +kernel
theorem dL_law_929 : decode cL_law 929 = .ok (.iaload, 1) := by decide +kernel
theorem dL_law_930 : decode cL_law 930 = .ok (.aload_n 0, 1) := by decide +kernel
theorem dL_law_931 : decode cL_law 931 = .ok (.iload_n 3, 1) := by decide +kernel
theorem dL_law_932 : decode cL_law 932 = .ok (.iconst 5, 1) := by decide +kernel
theorem dL_law_933 : decode cL_law 933 = .ok (.iadd, 1) := by decide +kernel
theorem dL_law_934 : decode cL_law 934 = .ok (.iaload, 1) := by decide +kernel
theorem dL_law_935 : decode cL_law 935 = .ok (.aload_n 0, 1) := by decide +kernel
theorem dL_law_936 : decode cL_law 936 = .ok (.iload_n 3, 1) := by decide +kernel
theorem dL_law_937 : decode cL_law 937 = .ok (.bipush 6, 2) := by decide +kernel
theorem dL_law_939 : decode cL_law 939 = .ok (.iadd, 1) := by decide +kernel
theorem dL_law_940 : decode cL_law 940 = .ok (.iaload, 1) := by decide +kernel
theorem dL_law_941 : decode cL_law 941 = .ok (.invokevirtual 93, 3) := by decide +kernel
theorem dL_law_944 : decode cL_law 944 = .ok (.aload_n 2, 1) := by decide +kernel
theorem dL_law_945 : decode cL_law 945 = .ok (.aload_n 0, 1) := by decide +kernel
theorem dL_law_946 : decode cL_law 946 = .ok (.iload_n 3, 1) := by decide +kernel
theorem dL_law_947 : decode cL_law 947 = .ok (.iconst 1, 1) := by decide +kernel
theorem dL_law_948 : decode cL_law 948 = .ok (.iadd, 1) := by decide +kernel
theorem dL_law_949 : decode cL_law 949 = .ok (.iaload, 1) := by decide +kernel
theorem dL_law_950 : decode cL_law 950 = .ok (.aload_n 0, 1) := by decide +kernel
theorem dL_law_951 : decode cL_law 951 = .ok (.iload_n 3, 1) := by decide +kernel
theorem dL_law_952 : decode cL_law 952 = .ok (.iconst 2, 1) := by decide +kernel
theorem dL_law_953 : decode cL_law 953 = .ok (.iadd, 1) := by decide +kernel
theorem dL_law_954 : decode cL_law 954 = .ok (.iaload, 1) := by decide +kernel
theorem dL_law_955 : decode cL_law 955 = .ok (.aload_n 0, 1) := by decide +kernel
theorem dL_law_956 : decode cL_law 956 = .ok (.iload_n 3, 1) := by decide +kernel
theorem dL_law_957 : decode cL_law 957 = .ok (.iconst 3, 1) := by decide +kernel
theorem dL_law_958 : decode cL_law 958 = .ok (.iadd, 1) := by decide +kernel
theorem dL_law_959 : decode cL_law 959 = .ok (.iaload, 1) := by decide +kernel
theorem dL_law_960 : decode cL_law 960 = .ok (.aload_n 0, 1) := by decide +kernel
theorem dL_law_961 : decode cL_law 961 = .ok (.iload_n 3, 1) := by decide +kernel
theorem dL_law_962 : decode cL_law 962 = .ok (.iconst 4, 1) := by decide +kernel
theorem dL_law_963 : decode cL_law 963 = .ok (.iadd, 1) := by decide +kernel
theorem dL_law_964 : decode cL_law 964 = .ok (.iaload, 1) := by decide +kernel
theorem dL_law_965 : decode cL_law 965 = .ok (.aload_n 0, 1) := by decide +kernel
theorem dL_law_966 : decode cL_law 966 = .ok (.iload_n 3, 1) := by decide +kernel
theorem dL_law_967 : decode cL_law 967 = .ok (.iconst 5, 1) := by decide +kernel
theorem dL_law_968 : decode cL_law 968 = .ok (.iadd, 1) := by decide +kernel
theorem dL_law_969 : decode cL_law 969 = .ok (.iaload, 1) := by decide +kernel
theorem dL_law_970 : decode cL_law 970 = .ok (.aload_n 0, 1) := by decide +kernel
theorem dL_law_971 : decode cL_law 971 = .ok (.iload_n 3, 1) := by decide +kernel
theorem dL_law_972 : decode cL_law 972 = .ok (.bipush 6, 2) := by decide +kernel
theorem dL_law_974 : decode cL_law 974 = .ok (.iadd, 1) := by decide +kernel
theorem dL_law_975 : decode cL_law 975 = .ok (.iaload, 1) := by decide +kernel
theorem dL_law_976 : decode cL_law 976 = .ok (.invokevirtual 96, 3) := by decide +kernel
theorem dL_law_979 : decode cL_law 979 = .ok (.if_icmp .eq 391, 3) := by decide +kernel
theorem dL_law_982 : decode cL_law 982 = .ok (.iconst 0, 1) := by decide +kernel
theorem dL_law_983 : decode cL_law 983 = .ok (.ireturn, 1) := by decide +kernel
theorem dL_law_984 : decode cL_law 984 = .ok (.aload_n 1, 1) := by decide +kernel
theorem dL_law_985 : decode cL_law 985 = .ok (.aload_n 0, 1) := by decide +kernel
theorem dL_law_986 : decode cL_law 986 = .ok (.iload_n 3, 1) := by decide +kernel
theorem dL_law_987 : decode cL_law 987 = .ok (.iconst 1, 1) := by decide +kernel
theorem dL_law_988 : decode cL_law 988 = .ok (.iadd, 1) := by decide +kernel
theorem dL_law_989 : decode cL_law 989 = .ok (.iaload, 1) := by decide +kernel
theorem dL_law_990 : decode cL_law 990 = .ok (.aload_n 0, 1) := by decide +kernel
theorem dL_law_991 : decode cL_law 991 = .ok (.iload_n 3, 1) := by decide +kernel
theorem dL_law_992 : decode cL_law 992 = .ok (.iconst 2, 1) := by decide +kernel
theorem dL_law_993 : decode cL_law 993 = .ok (.iadd, 1) := by decide +kernel
theorem dL_law_994 : decode cL_law 994 = .ok (.iaload, 1) := by decide +kernel
theorem dL_law_995 : decode cL_law 995 = .ok (.aload_n 0, 1) := by decide +kernel
theorem dL_law_996 : decode cL_law 996 = .ok (.iload_n 3, 1) := by decide +kernel
theorem dL_law_997 : decode cL_law 997 = .ok (.iconst 3, 1) := by decide +kernel
theorem dL_law_998 : decode cL_law 998 = .ok (.iadd, 1) := by decide +kernel
theorem dL_law_999 : decode cL_law 999 = .ok (.iaload, 1) := by decide +kernel
theorem dL_law_1000 : decode cL_law 1000 = .ok (.aload_n 0, 1) := by decide +kernel
theorem dL_law_1001 : decode cL_law 1001 = .ok (.iload_n 3, 1) := by decide +kernel
theorem dL_law_1002 : decode cL_law 1002 = .ok (.iconst 4, 1) := by decide +kernel
theorem dL_law_1003 : decode cL_law 1003 = .ok (.iadd, 1) := by decide +kernel
theorem dL_law_1004 : decode cL_law 1004 = .ok (.iaload, 1) := by decide +kernel
theorem dL_law_1005 : decode cL_law 1005 = .ok (.aload_n 0, 1) := by decide +kernel
theorem dL_law_1006 : decode cL_law 1006 = .ok (.iload_n 3, 1) := by decide +kernel
theorem dL_law_1007 : decode cL_law 1007 = .ok (.iconst 5, 1) := by decide +kernel
theorem dL_law_1008 : decode cL_law 1008 = .ok (.iadd, 1) := by decide +kernel
theorem dL_law_1009 : decode cL_law 1009 = .ok (.iaload, 1) := by decide +kernel
theorem dL_law_1010 : decode cL_law 1010 = .ok (.invokevirtual 97, 3) := by decide +kernel
theorem dL_law_1013 : decode cL_law 1013 = .ok (.aload_n 2, 1) := by decide +kernel
theorem dL_law_1014 : decode cL_law 1014 = .ok (.aload_n 0, 1) := by decide +kernel
theorem dL_law_1015 : decode cL_law 1015 = .ok (.iload_n 3, 1) := by decide +kernel
theorem dL_law_1016 : decode cL_law 1016 = .ok (.iconst 1, 1) := by decide +kernel
theorem dL_law_1017 : decode cL_law 1017 = .ok (.iadd, 1) := by decide +kernel
theorem dL_law_1018 : decode cL_law 1018 = .ok (.iaload, 1) := by decide +kernel
theorem dL_law_1019 : decode cL_law 1019 = .ok (.aload_n 0, 1) := by decide +kernel
theorem dL_law_1020 : decode cL_law 1020 = .ok (.iload_n 3, 1) := by decide +kernel
theorem dL_law_1021 : decode cL_law 1021 = .ok (.iconst 2, 1) := by decide +kernel
theorem dL_law_1022 : decode cL_law 1022 = .ok (.iadd, 1) := by decide +kernel
theorem dL_law_1023 : decode cL_law 1023 = .ok (.iaload, 1) := by decide +kernel
theorem dL_law_1024 : decode cL_law 1024 = .ok (.aload_n 0, 1) := by decide +kernel
theorem dL_law_1025 : decode cL_law 1025 = .ok (.iload_n 3, 1) := by decide +kernel
theorem dL_law_1026 : decode cL_law 1026 = .ok (.iconst 3, 1) := by decide +kernel
theorem dL_law_1027 : decode cL_law 1027 = .ok (.iadd, 1) := by decide +kernel
theorem dL_law_1028 : decode cL_law 1028 = .ok (.iaload, 1) := by decide +kernel
theorem dL_law_1029 : decode cL_law 1029 = .ok (.aload_n 0, 1) := by decide +kernel
theorem dL_law_1030 : decode cL_law 1030 = .ok (.iload_n 3, 1) := by decide +kernel
theorem dL_law_1031 : decode cL_law 1031 = .ok (.iconst 4, 1) := by decide +kernel
theorem dL_law_1032 : decode cL_law 1032 = .ok (.iadd, 1) := by decide +kernel
theorem dL_law_1033 : decode cL_law 1033 = .ok (.iaload, 1) := by decide +kernel
theorem dL_law_1034 : decode cL_law 1034 = .ok (.aload_n 0, 1) := by decide +kernel
theorem dL_law_1035 : decode cL_law 1035 = .ok (.iload_n 3, 1) := by decide +kernel
theorem dL_law_1036 : decode cL_law 1036 = .ok (.iconst 5, 1) := by decide +kernel
theorem dL_law_1037 : decode cL_law 1037 = .ok (.iadd, 1) := by decide +kernel
theorem dL_law_1038 : decode cL_law 1038 = .ok (.iaload, 1) := by decide +kernel
theorem dL_law_1039 : decode cL_law 1039 = .ok (.invokevirtual 100, 3) := by decide +kernel
theorem dL_law_1042 : decode cL_law 1042 = .ok (.if_icmp .eq 328, 3) := by decide +kernel
theorem dL_law_1045 : decode cL_law 1045 = .ok (.iconst 0, 1) := by decide +kernel
theorem dL_law_1046 : decode cL_law 1046 = .ok (.ireturn, 1) := by decide +kernel
theorem dL_law_1047 : decode cL_law 1047 = .ok (.aload_n 1, 1) := by decide +kernel
theorem dL_law_1048 : decode cL_law 1048 = .ok (.aload_n 0, 1) := by decide +kernel
theorem dL_law_1049 : decode cL_law 1049 = .ok (.iload_n 3, 1) := by decide +kernel
theorem dL_law_1050 : decode cL_law 1050 = .ok (.iconst 1, 1) := by decide +kernel
theorem dL_law_1051 : decode cL_law 1051 = .ok (.iadd, 1) := by decide +kernel
theorem dL_law_1052 : decode cL_law 1052 = .ok (.iaload, 1) := by decide +kernel
theorem dL_law_1053 : decode cL_law 1053 = .ok (.aload_n 0, 1) := by decide +kernel
theorem dL_law_1054 : decode cL_law 1054 = .ok (.iload_n 3, 1) := by decide +kernel
theorem dL_law_1055 : decode cL_law 1055 = .ok (.iconst 2, 1) := by decide +kernel
theorem dL_law_1056 : decode cL_law 1056 = .ok (.iadd, 1) := by decide +kernel
theorem dL_law_1057 : decode cL_law 1057 = .ok (.iaload, 1) := by decide +kernel
theorem dL_law_1058 : decode cL_law 1058 = .ok (.aload_n 0, 1) := by decide +kernel
theorem dL_law_1059 : decode cL_law 1059 = .ok (.iload_n 3, 1) := by decide +kernel
theorem dL_law_1060 : decode cL_law 1060 = .ok (.iconst 3, 1) := by decide +kernel
theorem dL_law_1061 : decode cL_law 1061 = .ok (.iadd, 1) := by decide +kernel
theorem dL_law_1062 : decode cL_law 1062 = .ok (.iaload, 1) := by decide +kernel
theorem dL_law_1063 : decode cL_law 1063 = .ok (.aload_n 0, 1) := by decide +kernel
theorem dL_law_1064 : decode cL_law 1064 = .ok (.iload_n 3, 1) := by decide +kernel
theorem dL_law_1065 : decode cL_law 1065 = .ok (.iconst 4, 1) := by decide +kernel
theorem dL_law_1066 : decode cL_law 1066 = .ok (.iadd, 1) := by decide +kernel
theorem dL_law_1067 : decode cL_law 1067 = .ok (.iaload, 1) := by decide +kernel
theorem dL_law_1068 : decode cL_law 1068 = .ok (.invokevirtual 101, 3) := by decide +kernel
theorem dL_law_1071 : decode cL_law 1071 = .ok (.aload_n 2, 1) := by decide +kernel
theorem dL_law_1072 : decode cL_law 1072 = .ok (.aload_n 0, 1) := by decide +kernel
theorem dL_law_1073 : decode cL_law 1073 = .ok (.iload_n 3, 1) := by decide +kernel
theorem dL_law_1074 : decode cL_law 1074 = .ok (.iconst 1, 1) := by decide +kernel
theorem dL_law_1075 : decode cL_law 1075 = .ok (.iadd, 1) := by decide +kernel
theorem dL_law_1076 : decode cL_law 1076 = .ok (.iaload, 1) := by decide +kernel
theorem dL_law_1077 : decode cL_law 1077 = .ok (.aload_n 0, 1) := by decide +kernel
theorem dL_law_1078 : decode cL_law 1078 = .ok (.iload_n 3, 1) := by decide +kernel
theorem dL_law_1079 : decode cL_law 1079 = .ok (.iconst 2, 1) := by decide +kernel
theorem dL_law_1080 : decode cL_law 1080 = .ok (.iadd, 1) := by decide +kernel
theorem dL_law_1081 : decode cL_law 1081 = .ok (.iaload, 1) := by decide +kernel
theorem dL_law_1082 : decode cL_law 1082 = .ok (.aload_n 0, 1) := by decide +kernel
theorem dL_law_1083 : decode cL_law 1083 = .ok (.iload_n 3, 1) := by decide +kernel
theorem dL_law_1084 : decode cL_law 1084 = .ok (.iconst 3, 1) := by decide +kernel
theorem dL_law_1085 : decode cL_law 1085 = .ok (.iadd, 1) := by decide +kernel
theorem dL_law_1086 : decode cL_law 1086 = .ok (.iaload, 1) := by decide +kernel
theorem dL_law_1087 : decode cL_law 1087 = .ok (.aload_n 0, 1) := by decide +kernel
theorem dL_law_1088 : decode cL_law 1088 = .ok (.iload_n 3, 1) := by decide +kernel
theorem dL_law_1089 : decode cL_law 1089 = .ok (.iconst 4, 1) := by decide +kernel
theorem dL_law_1090 : decode cL_law 1090 = .ok (.iadd, 1) := by decide +kernel
theorem dL_law_1091 : decode cL_law 1091 = .ok (.iaload, 1) := by decide +kernel
theorem dL_law_1092 : decode cL_law 1092 = .ok (.invokevirtual 104, 3) := by decide +kernel
theorem dL_law_1095 : decode cL_law 1095 = .ok (.if_icmp .eq 275, 3) := by decide +kernel
theorem dL_law_1098 : decode cL_law 1098 = .ok (.iconst 0, 1) := by decide +kernel
theorem dL_law_1099 : decode cL_law 1099 = .ok (.ireturn, 1) := by decide +kernel
theorem dL_law_1100 : decode cL_law 1100 = .ok (.aload_n 1, 1) := by decide +kernel
theorem dL_law_1101 : decode cL_law 1101 = .ok (.invokevirtual 105, 3) := by decide +kernel
theorem dL_law_1104 : decode cL_law 1104 = .ok (.aload_n 2, 1) := by decide +kernel
theorem dL_law_1105 : decode cL_law 1105 = .ok (.invokevirtual 109, 3) := by decide +kernel
theorem dL_law_1108 : decode cL_law 1108 = .ok (.if_icmp .eq 262, 3) := by decide +kernel
theorem dL_law_1111 : decode cL_law 1111 = .ok (.iconst 0, 1) := by decide +kernel
theorem dL_law_1112 : decode cL_law 1112 = .ok (.ireturn, 1) := by decide +kernel
theorem dL_law_1113 : decode cL_law 1113 = .ok (.aload_n 1, 1) := by decide +kernel
theorem dL_law_1114 : decode cL_law 1114 = .ok (.aload_n 0, 1) := by decide +kernel
theorem dL_law_1115 : decode cL_law 1115 = .ok (.iload_n 3, 1) := by decide +kernel
theorem dL_law_1116 : decode cL_law 1116 = .ok (.iconst 1, 1) := by decide +kernel
theorem dL_law_1117 : decode cL_law 1117 = .ok (.iadd, 1) := by decide +kernel
theorem dL_law_1118 : decode cL_law 1118 = .ok (.iaload, 1) := by decide +kernel
theorem dL_law_1119 : decode cL_law 1119 = .ok (.invokevirtual 110, 3) := by decide +kernel
theorem dL_law_1122 : decode cL_law 1122 = .ok (.aload_n 2, 1) := by decide +kernel
theorem dL_law_1123 : decode cL_law 1123 = .ok (.aload_n 0, 1) := by decide +kernel
theorem dL_law_1124 : decode cL_law 1124 = .ok (.iload_n 3, 1) := by decide +kernel
theorem dL_law_1125 : decode cL_law 1125 = .ok (.iconst 1, 1) := by decide +kernel
theorem dL_law_1126 : decode cL_law 1126 = .ok (.iadd, 1) := by decide +kernel
theorem dL_law_1127 : decode cL_law 1127 = .ok (.iaload, 1) := by decide +kernel
theorem dL_law_1128 : decode cL_law 1128 = .ok (.invokevirtual 113, 3) := by decide +kernel
theorem dL_law_1131 : decode cL_law 1131 = .ok (.if_icmp .eq 239, 3) := by decide +kernel
theorem dL_law_1134 : decode cL_law 1134 = .ok (.iconst 0, 1) := by decide +kernel
theorem dL_law_1135 : decode cL_law 1135 = .ok (.ireturn, 1) := by decide +kernel
theorem dL_law_1136 : decode cL_law 1136 = .ok (.aload_n 1, 1) := by decide +kernel
theorem dL_law_1137 : decode cL_law 1137 = .ok (.invokevirtual 114, 3) := by decide +kernel
theorem dL_law_1140 : decode cL_law 1140 = .ok (.aload_n 2, 1) := by decide +kernel
theorem dL_law_1141 : decode cL_law 1141 = .ok (.invokevirtual 117, 3) := by decide +kernel
theorem dL_law_1144 : decode cL_law 1144 = .ok (.if_icmp .eq 226, 3) := by decide +kernel
theorem dL_law_1147 : decode cL_law 1147 = .ok (.iconst 0, 1) := by decide +kernel
theorem dL_law_1148 : decode cL_law 1148 = .ok (.ireturn, 1) := by decide +kernel
theorem dL_law_1149 : decode cL_law 1149 = .ok (.aload_n 1, 1) := by decide +kernel
theorem dL_law_1150 : decode cL_law 1150 = .ok (.aload_n 0, 1) := by decide +kernel
theorem dL_law_1151 : decode cL_law 1151 = .ok (.iload_n 3, 1) := by decide +kernel
theorem dL_law_1152 : decode cL_law 1152 = .ok (.iconst 1, 1) := by decide +kernel
theorem dL_law_1153 : decode cL_law 1153 = .ok (.iadd, 1) := by decide +kernel
theorem dL_law_1154 : decode cL_law 1154 = .ok (.iaload, 1) := by decide +kernel
theorem dL_law_1155 : decode cL_law 1155 = .ok (.invokevirtual 118, 3) := by decide +kernel
theorem dL_law_1158 : decode cL_law 1158 = .ok (.aload_n 2, 1) := by decide +kernel
theorem dL_law_1159 : decode cL_law 1159 = .ok (.aload_n 0, 1) := by decide +kernel
theorem dL_law_1160 : decode cL_law 1160 = .ok (.iload_n 3, 1) := by decide +kernel
theorem dL_law_1161 : decode cL_law 1161 = .ok (.iconst 1, 1) := by decide +kernel
theorem dL_law_1162 : decode cL_law 1162 = .ok (.iadd, 1) := by decide +kernel
theorem dL_law_1163 : decode cL_law 1163 = .ok (.iaload, 1) := by decide +kernel
theorem dL_law_1164 : decode cL_law 1164 = .ok (.invokevirtual 121, 3) := by decide +kernel
theorem dL_law_1167 : decode cL_law 1167 = .ok (.if_icmp .eq 203, 3) := by decide +kernel
theorem dL_law_1170 : decode cL_law 1170 = .ok (.iconst 0, 1) := by decide +kernel
theorem dL_law_1171 : decode cL_law 1171 = .ok (.ireturn, 1) := by decide +kernel
theorem dL_law_1172 : decode cL_law 1172 = .ok (.aload_n 1, 1) := by decide +kernel
theorem dL_law_1173 : decode cL_law 1173 = .ok (.aload_n 0, 1) := by decide +kernel
theorem dL_law_1174 : decode cL_law 1174 = .ok (.iload_n 3, 1) := by decide +kernel
theorem dL_law_1175 : decode cL_law 1175 = .ok (.iconst 1, 1) := by decide +kernel
theorem dL_law_1176 : decode cL_law 1176 = .ok (.iadd, 1) := by decide +kernel
theorem dL_law_1177 : decode cL_law 1177 = .ok (.iaload, 1) := by decide +kernel
theorem dL_law_1178 : decode cL_law 1178 = .ok (.aload_n 0, 1) := by decide +kernel
theorem dL_law_1179 : decode cL_law 1179 = .ok (.iload_n 3, 1) := by decide +kernel
theorem dL_law_1180 : decode cL_law 1180 = .ok (.iconst 2, 1) := by decide +kernel
theorem dL_law_1181 : decode cL_law 1181 = .ok (.iadd, 1) := by decide +kernel
theorem dL_law_1182 : decode cL_law 1182 = .ok (.iaload, 1) := by decide +kernel
theorem dL_law_1183 : decode cL_law 1183 = .ok (.ifCond .eq 7, 3) := by decide +kernel
theorem dL_law_1186 : decode cL_law 1186 = .ok (.iconst 1, 1) := by decide +kernel
theorem dL_law_1187 : decode cL_law 1187 = .ok (.goto 4, 3) := by decide +kernel
theorem dL_law_1190 : decode cL_law 1190 = .ok (.iconst 0, 1) := by decide +kernel
theorem dL_law_1191 : decode cL_law 1191 = .ok (.invokevirtual 122, 3) := by decide +kernel
theorem dL_law_1194 : decode cL_law 1194 = .ok (.aload_n 2, 1) := by decide +kernel
theorem dL_law_1195 : decode cL_law 1195 = .ok (.aload_n 0, 1) := by decide +kernel
theorem dL_law_1196 : decode cL_law 1196 = .ok (.iload_n 3, 1) := by decide +kernel
theorem dL_law_1197 : decode cL_law 1197 = .ok (.iconst 1, 1) := by decide +kernel
theorem dL_law_1198 : decode cL_law 1198 = .ok (.iadd, 1) := by decide +kernel
theorem dL_law_1199 : decode cL_law 1199 = .ok (.iaload, 1) := by decide +kernel
theorem dL_law_1200 : decode cL_law 1200 = .ok (.aload_n 0, 1) := by decide +kernel
theorem dL_law_1201 : decode cL_law 1201 = .ok (.iload_n 3, 1) := by decide +kernel
theorem dL_law_1202 : decode cL_law 1202 = .ok (.iconst 2, 1) := by decide +kernel
theorem dL_law_1203 : decode cL_law 1203 = .ok (.iadd, 1) := by decide +kernel
theorem dL_law_1204 : decode cL_law 1204 = .ok (.iaload, 1) := by decide +kernel
theorem dL_law_1205 : decode cL_law 1205 = .ok (.ifCond .eq 7, 3) := by decide +kernel
theorem dL_law_1208 : decode cL_law 1208 = .ok (.iconst 1, 1) := by decide +kernel
theorem dL_law_1209 : decode cL_law 1209 = .ok (.goto 4, 3) := by decide +kernel
theorem dL_law_1212 : decode cL_law 1212 = .ok (.iconst 0, 1) := by decide +kernel
theorem dL_law_1213 : decode cL_law 1213 = .ok (.invokevirtual 126, 3) := by decide +kernel
theorem dL_law_1216 : decode cL_law 1216 = .ok (.if_icmp .eq 154, 3) := by decide +kernel
theorem dL_law_1219 : decode cL_law 1219 = .ok (.iconst 0, 1) := by decide +kernel
theorem dL_law_1220 : decode cL_law 1220 = .ok (.ireturn, 1) := by decide +kernel
theorem dL_law_1221 : decode cL_law 1221 = .ok (.aload_n 1, 1) := by decide +kernel
theorem dL_law_1222 : decode cL_law 1222 = .ok (.aload_n 0, 1) := by decide +kernel
theorem dL_law_1223 : decode cL_law 1223 = .ok (.iload_n 3, 1) := by decide +kernel
theorem dL_law_1224 : decode cL_law 1224 = .ok (.iconst 1, 1) := by decide +kernel
theorem dL_law_1225 : decode cL_law 1225 = .ok (.iadd, 1) := by decide +kernel
theorem dL_law_1226 : decode cL_law 1226 = .ok (.iaload, 1) := by decide +kernel
theorem dL_law_1227 : decode cL_law 1227 = .ok (.aload_n 0, 1) := by decide +kernel
theorem dL_law_1228 : decode cL_law 1228 = .ok (.iload_n 3, 1) := by decide +kernel
theorem dL_law_1229 : decode cL_law 1229 = .ok (.iconst 2, 1) := by decide +kernel
theorem dL_law_1230 : decode cL_law 1230 = .ok (.iadd, 1) := by decide +kernel
theorem dL_law_1231 : decode cL_law 1231 = .ok (.iaload, 1) := by decide +kernel
theorem dL_law_1232 : decode cL_law 1232 = .ok (.invokevirtual 127, 3) := by decide +kernel
theorem dL_law_1235 : decode cL_law 1235 = .ok (.aload_n 2, 1) := by decide +kernel
theorem dL_law_1236 : decode cL_law 1236 = .ok (.aload_n 0, 1) := by decide +kernel
theorem dL_law_1237 : decode cL_law 1237 = .ok (.iload_n 3, 1) := by decide +kernel
theorem dL_law_1238 : decode cL_law 1238 = .ok (.iconst 1, 1) := by decide +kernel
theorem dL_law_1239 : decode cL_law 1239 = .ok (.iadd, 1) := by decide +kernel
theorem dL_law_1240 : decode cL_law 1240 = .ok (.iaload, 1) := by decide +kernel
theorem dL_law_1241 : decode cL_law 1241 = .ok (.aload_n 0, 1) := by decide +kernel
theorem dL_law_1242 : decode cL_law 1242 = .ok (.iload_n 3, 1) := by decide +kernel
theorem dL_law_1243 : decode cL_law 1243 = .ok (.iconst 2, 1) := by decide +kernel
theorem dL_law_1244 : decode cL_law 1244 = .ok (.iadd, 1) := by decide +kernel
theorem dL_law_1245 : decode cL_law 1245 = .ok (.iaload, 1) := by decide +kernel
theorem dL_law_1246 : decode cL_law 1246 = .ok (.invokevirtual 130, 3) := by decide +kernel
theorem dL_law_1249 : decode cL_law 1249 = .ok (.if_icmp .eq 121, 3) := by decide +kernel
theorem dL_law_1252 : decode cL_law 1252 = .ok (.iconst 0, 1) := by decide +kernel
theorem dL_law_1253 : decode cL_law 1253 = .ok (.ireturn, 1) := by decide +kernel
theorem dL_law_1254 : decode cL_law 1254 = .ok (.aload_n 1, 1) := by decide +kernel
theorem dL_law_1255 : decode cL_law 1255 = .ok (.aload_n 0, 1) := by decide +kernel
theorem dL_law_1256 : decode cL_law 1256 = .ok (.iload_n 3, 1) := by decide +kernel
theorem dL_law_1257 : decode cL_law 1257 = .ok (.iconst 1, 1) := by decide +kernel
theorem dL_law_1258 : decode cL_law 1258 = .ok (.iadd, 1) := by decide +kernel
theorem dL_law_1259 : decode cL_law 1259 = .ok (.iaload, 1) := by decide +kernel
theorem dL_law_1260 : decode cL_law 1260 = .ok (.aload_n 0, 1) := by decide +kernel
theorem dL_law_1261 : decode cL_law 1261 = .ok (.iload_n 3, 1) := by decide +kernel
theorem dL_law_1262 : decode cL_law 1262 = .ok (.iconst 2, 1) := by decide +kernel
theorem dL_law_1263 : decode cL_law 1263 = .ok (.iadd, 1) := by decide +kernel
theorem dL_law_1264 : decode cL_law 1264 = .ok (.iaload, 1) := by decide +kernel
theorem dL_law_1265 : decode cL_law 1265 = .ok (.invokevirtual 131, 3) := by decide +kernel
theorem dL_law_1268 : decode cL_law 1268 = .ok (.aload_n 2, 1) := by decide +kernel
theorem dL_law_1269 : decode cL_law 1269 = .ok (.aload_n 0, 1) := by decide +kernel
theorem dL_law_1270 : decode cL_law 1270 = .ok (.iload_n 3, 1) := by decide +kernel
theorem dL_law_1271 : decode cL_law 1271 = .ok (.iconst 1, 1) := by decide +kernel
theorem dL_law_1272 : decode cL_law 1272 = .ok (.iadd, 1) := by decide +kernel
theorem dL_law_1273 : decode cL_law 1273 = .ok (.iaload, 1) := by decide +kernel
theorem dL_law_1274 : decode cL_law 1274 = .ok (.aload_n 0, 1) := by decide +kernel
theorem dL_law_1275 : decode cL_law 1275 = .ok (.iload_n 3, 1) := by decide +kernel
theorem dL_law_1276 : decode cL_law 1276 = .ok (.iconst 2, 1) := by decide +kernel
theorem dL_law_1277 : decode cL_law 1277 = .ok (.iadd, 1) := by decide +kernel
theorem dL_law_1278 : decode cL_law 1278 = .ok (.iaload, 1) := by decide +kernel
theorem dL_law_1279 : decode cL_law 1279 = .ok (.invokevirtual 134, 3) := by decide +kernel
theorem dL_law_1282 : decode cL_law 1282 = .ok (.if_icmp .eq 88, 3) := by decide +kernel
theorem dL_law_1285 : decode cL_law 1285 = .ok (.iconst 0, 1) := by decide +kernel
theorem dL_law_1286 : decode cL_law 1286 = .ok (.ireturn, 1) := by decide +kernel
theorem dL_law_1287 : decode cL_law 1287 = .ok (.aload_n 1, 1) := by decide +kernel
theorem dL_law_1288 : decode cL_law 1288 = .ok (.aload_n 0, 1) := by decide +kernel
theorem dL_law_1289 : decode cL_law 1289 = .ok (.iload_n 3, 1) := by decide +kernel
theorem dL_law_1290 : decode cL_law 1290 = .ok (.iconst 1, 1) := by decide +kernel
theorem dL_law_1291 : decode cL_law 1291 = .ok (.iadd, 1) := by decide +kernel
theorem dL_law_1292 : decode cL_law 1292 = .ok (.iaload, 1) := by decide +kernel
theorem dL_law_1293 : decode cL_law 1293 = .ok (.invokevirtual 135, 3) := by decide +kernel
theorem dL_law_1296 : decode cL_law 1296 = .ok (.aload_n 2, 1) := by decide +kernel
theorem dL_law_1297 : decode cL_law 1297 = .ok (.aload_n 0, 1) := by decide +kernel
theorem dL_law_1298 : decode cL_law 1298 = .ok (.iload_n 3, 1) := by decide +kernel
theorem dL_law_1299 : decode cL_law 1299 = .ok (.iconst 1, 1) := by decide +kernel
theorem dL_law_1300 : decode cL_law 1300 = .ok (.iadd, 1) := by decide +kernel
theorem dL_law_1301 : decode cL_law 1301 = .ok (.iaload, 1) := by decide +kernel
theorem dL_law_1302 : decode cL_law 1302 = .ok (.invokevirtual 138, 3) := by decide +kernel
theorem dL_law_1305 : decode cL_law 1305 = .ok (.if_icmp .eq 65, 3) := by decide +kernel
theorem dL_law_1308 : decode cL_law 1308 = .ok (.iconst 0, 1) := by decide +kernel
theorem dL_law_1309 : decode cL_law 1309 = .ok (.ireturn, 1) := by decide +kernel
theorem dL_law_1310 : decode cL_law 1310 = .ok (.aload_n 1, 1) := by decide +kernel
theorem dL_law_1311 : decode cL_law 1311 = .ok (.invokevirtual 139, 3) := by decide +kernel
theorem dL_law_1314 : decode cL_law 1314 = .ok (.aload_n 2, 1) := by decide +kernel
theorem dL_law_1315 : decode cL_law 1315 = .ok (.invokevirtual 142, 3) := by decide +kernel
theorem dL_law_1318 : decode cL_law 1318 = .ok (.if_icmp .eq 52, 3) := by decide +kernel
theorem dL_law_1321 : decode cL_law 1321 = .ok (.iconst 0, 1) := by decide +kernel
theorem dL_law_1322 : decode cL_law 1322 = .ok (.ireturn, 1) := by decide +kernel
theorem dL_law_1323 : decode cL_law 1323 = .ok (.aload_n 1, 1) := by decide +kernel
theorem dL_law_1324 : decode cL_law 1324 = .ok (.aload_n 0, 1) := by decide +kernel
theorem dL_law_1325 : decode cL_law 1325 = .ok (.iload_n 3, 1) := by decide +kernel
theorem dL_law_1326 : decode cL_law 1326 = .ok (.iconst 1, 1) := by decide +kernel
theorem dL_law_1327 : decode cL_law 1327 = .ok (.iadd, 1) := by decide +kernel
theorem dL_law_1328 : decode cL_law 1328 = .ok (.iaload, 1) := by decide +kernel
theorem dL_law_1329 : decode cL_law 1329 = .ok (.invokevirtual 143, 3) := by decide +kernel
theorem dL_law_1332 : decode cL_law 1332 = .ok (.aload_n 2, 1) := by decide +kernel
theorem dL_law_1333 : decode cL_law 1333 = .ok (.aload_n 0, 1) := by decide +kernel
theorem dL_law_1334 : decode cL_law 1334 = .ok (.iload_n 3, 1) := by decide +kernel
theorem dL_law_1335 : decode cL_law 1335 = .ok (.iconst 1, 1) := by decide +kernel
theorem dL_law_1336 : decode cL_law 1336 = .ok (.iadd, 1) := by decide +kernel
theorem dL_law_1337 : decode cL_law 1337 = .ok (.iaload, 1) := by decide +kernel
theorem dL_law_1338 : decode cL_law 1338 = .ok (.invokevirtual 146, 3) := by decide +kernel
theorem dL_law_1341 : decode cL_law 1341 = .ok (.lcmp, 1) := by decide +kernel
theorem dL_law_1342 : decode cL_law 1342 = .ok (.ifCond .eq 28, 3) := by decide +kernel
theorem dL_law_1345 : decode cL_law 1345 = .ok (.iconst 0, 1) := by decide +kernel
theorem dL_law_1346 : decode cL_law 1346 = .ok (.ireturn, 1) := by decide +kernel
theorem dL_law_1347 : decode cL_law 1347 = .ok (.aload_n 1, 1) := by decide +kernel
theorem dL_law_1348 : decode cL_law 1348 = .ok (.aload_n 0, 1) := by decide +kernel
theorem dL_law_1349 : decode cL_law 1349 = .ok (.iload_n 3, 1) := by decide +kernel
theorem dL_law_1350 : decode cL_law 1350 = .ok (.iconst 1, 1) := by decide +kernel
theorem dL_law_1351 : decode cL_law 1351 = .ok (.iadd, 1) := by decide +kernel
theorem dL_law_1352 : decode cL_law 1352 = .ok (.iaload, 1) := by decide +kernel
theorem dL_law_1353 : decode cL_law 1353 = .ok (.invokevirtual 147, 3) := by decide +kernel
theorem dL_law_1356 : decode cL_law 1356 = .ok (.aload_n 2, 1) := by decide +kernel
theorem dL_law_1357 : decode cL_law 1357 = .ok (.aload_n 0, 1) := by decide +kernel
theorem dL_law_1358 : decode cL_law 1358 = .ok (.iload_n 3, 1) := by decide +kernel
theorem dL_law_1359 : decode cL_law 1359 = .ok (.iconst 1, 1) := by decide +kernel
theorem dL_law_1360 : decode cL_law 1360 = .ok (.iadd, 1) := by decide +kernel
theorem dL_law_1361 : decode cL_law 1361 = .ok (.iaload, 1) := by decide +kernel
theorem dL_law_1362 : decode cL_law 1362 = .ok (.invokevirtual 150, 3) := by decide +kernel
theorem dL_law_1365 : decode cL_law 1365 = .ok (.if_icmp .eq 5, 3) := by decide +kernel
theorem dL_law_1368 : decode cL_law 1368 = .ok (.iconst 0, 1) := by decide +kernel
theorem dL_law_1369 : decode cL_law 1369 = .ok (.ireturn, 1) := by decide +kernel
theorem dL_law_1370 : decode cL_law 1370 = .ok (.iinc 3 7, 3) := by decide +kernel
theorem dL_law_1373 : decode cL_law 1373 = .ok (.goto (-1355), 3) := by decide +kernel
theorem dL_law_1376 : decode cL_law 1376 = .ok (.iconst 1, 1) := by decide +kernel
theorem dL_law_1377 : decode cL_law 1377 = .ok (.ireturn, 1) := by decide +kernel
end
section
/-! THE WORLD: one list of cells by canonical places, an address book B, int parts F, long parts G, references P (places) -/
/-- the words of the tables that every method may use -/
def TT : List Cond := lw_tbl.filter goodWord
theorem TT_of {w : Cond} (i : Nat) (h : lw_tbl[i]? = some w) (g : goodWord w = true) : w ∈ TT := List.mem_filter.mpr ⟨List.mem_of_getElem? h, g⟩
theorem TT_sub {w : Cond} (h : w ∈ TT) : w ∈ lw_tbl := (List.mem_filter.mp h).1
theorem TT_good {y : MethodName} {cc : ByteArray} {n : Nat} {r : Option FieldType} (h : Cond.code y cc n r ∈ TT) : GoodIn TT (Cond.code y cc n r :: TT) := by
  intro w hw
  have h1 : w ∈ TT := by
    rcases List.mem_cons.mp hw with e | e
    · rw [e]; exact h
    · exact e
  exact ⟨h1, good_of_word (List.mem_filter.mp h1).2⟩
abbrev cE : Type := (Nat → ClassId) × (Nat → Nat → Nat) × (Nat → ClassId)
abbrev tD (E : cE) : va_G := (E.1, E.2.1)
def tyl (E : cE) : List (ClassId × FieldType) := [(E.2.2 0, .int), (E.2.2 1, .long), (E.2.2 2, .boolean), (E.2.2 3, .object RX0), (E.2.2 4, .object RX3), (E.2.2 5, .object RX4), (E.2.2 6, .object RX6), (E.2.2 7, .object RX7), (E.2.2 8, .object RX8)]
def lstV (j : Nat) : Int32 := ([0, 10, 0, 1, 0, 1] : List Int32).getD j 0
def mstV (j : Nat) : Int32 := ([100, 100, 10, 500, 20, 100] : List Int32).getD j 0
def digV (j : Nat) : Int32 := ([1419857, 83521, 4913, 289, 17, 1] : List Int32).getD j 0
/-- the three tables that are static -/
def Ex (tt : Nat × Nat × Nat) (A : Nat → Prop) (U : State) (H : Heap) : Prop := va_Z "WireMill$Settings" "LEAST" "[I" (.ref tt.1) A U H ∧ va_Z "WireMill$Settings" "MOST" "[I" (.ref tt.2.1) A U H ∧ va_Z "WireMill$Cutting" "DIGITS" "[I" (.ref tt.2.2) A U H ∧ va_T .int tt.1 6 (fun j => .int (lstV j)) A U H ∧ va_T .int tt.2.1 6 (fun j => .int (mstV j)) A U H ∧ va_T .int tt.2.2 6 (fun j => .int (digV j)) A U H
theorem Ex.move {tt : Nat × Nat × Nat} {A A1 : Nat → Prop} {s U : State} {H : Heap} {locs : List Loc} (h : Ex tt A s s.heap) (hS : va_S A s.heap H locs) (hA : ∀ q, A1 q → A q) (hvm : s.vm.Alike U.vm) : Ex tt A1 U H := by
  have hk : ∀ a : Nat, a < s.heap.size → ¬ A a → H[a]? = s.heap[a]? := fun a h1 h2 => hS.2.1 a h1 h2
  obtain ⟨h1, h2, h3, h4, h5, h6⟩ := h
  exact ⟨((h1.kept hk).narrow hA).moved hvm, ((h2.kept hk).narrow hA).moved hvm, ((h3.kept hk).narrow hA).moved hvm, ((h4.kept hk).narrow hA).moved hvm, ((h5.kept hk).narrow hA).moved hvm, ((h6.kept hk).narrow hA).moved hvm⟩
def nestW : List Cond := [.methodLinkNest RX11 9 yX10_init "WireMill", .methodLinkNest RX11 48 yX5_init "WireMill", .methodLinkNest RX11 73 yX1_init "WireMill", .methodLinkNest RX11 84 yX7_init "WireMill", .methodLinkNest RX10 35 yX11_isWithin "WireMill", .methodLinkNest RX0 29 yX11_quotient "WireMill", .methodLinkNest RX2 23 yX11_quotient "WireMill", .methodLinkNest RX8 17 yX11_quotient "WireMill", .methodLinkNest RX9 64 yX11_isWithin "WireMill", .methodLinkNest RX6 29 yX11_isWithin "WireMill", .methodLinkNest RX1 50 yX11_quotient "WireMill", .methodLinkNest RX5 33 yX11_choices "WireMill"]
def isNest : Cond → Bool
  | .methodLinkNest _ _ _ _ => true
  | _ => false
theorem nest_ok : nestW.all isNest = true := by decide +kernel
theorem nest_move {s U : State} (hW : s.WarmedH U.vm) (h : ∀ w ∈ nestW, va_Nw w s) : ∀ w ∈ nestW, va_Nw w U := by
  intro w hw
  have h1 := List.all_eq_true.mp nest_ok w hw
  have h2 := h w hw
  cases w <;> first | exact va_Nw.warmM hW h2 | cases h1
theorem nest_same {u U : State} (e : u.vm = U.vm) (h : ∀ w ∈ nestW, va_Nw w u) : ∀ w ∈ nestW, va_Nw w U := by
  intro w hw
  have h1 := List.all_eq_true.mp nest_ok w hw
  have h2 := h w hw
  cases w <;> first | exact va_Nw.same rfl e h2 | cases h1
def aoC : List String := [RX0, RX3, RX4, RX6, RX7, RX8]
/-- what the tables say of nest mates and of arrays over our classes -/
def NW (s : State) : Prop := (∀ w ∈ nestW, va_Nw w s) ∧ ∀ C ∈ aoC, va_AO C s
theorem NW.move {s U : State} (hW : s.WarmedH U.vm) (h : NW s) : NW U := ⟨nest_move hW h.1, fun C hC => (h.2 C hC).moved hW.alike⟩
theorem NW.same {s U : State} (e : s.vm = U.vm) (h : NW s) : NW U := ⟨nest_same e h.1, fun C hC => (h.2 C hC).moved (by rw [e]; exact Vm.Alike.refl U.vm)⟩
/-- the world inside a walk -/
def Wd (E : cE) (tt : Nat × Nat × Nat) (A : Nat → Prop) (s : State) (ws : va_W) (H : Heap) (locs : List Loc) : Prop := va_K (tD E) vwCl (tyl E) s ∧ va_P (tD E) vwCl ws H ∧ va_D A ws ∧ va_S A s.heap H locs ∧ (∀ q, s.heap.size ≤ q → A q) ∧ Ex tt A s s.heap ∧ NW s
/-- the world at a method's start -/
def PW (E : cE) (tt : Nat × Nat × Nat) (ws : va_W) (sz : Nat) (U : State) : Prop := U.heap.size = sz ∧ va_K (tD E) vwCl (tyl E) U ∧ va_P (tD E) vwCl ws U.heap ∧ va_D (fun _ => True) ws ∧ Ex tt (va_A ws sz) U U.heap ∧ NW U
/-- a method's end -/
def Fin0 (E : cE) (post : Option Value → va_W → Prop) (A : Nat → Prop) : Array Value → State → Outcome → State → Prop := fun _ st oc t => (∃ (v : Option Value) (ws' : va_W), oc = .returned v ∧ post v ws' ∧ va_P (tD E) vwCl ws' t.heap ∧ va_D A ws') ∧ va_F A st t
abbrev rmO (d mc ms : Nat) : Room := { frames := d, cells := mc, slots := ms, locals := 64 * d }
/-- a contract: from the world ws with these arguments, at most d frames deep, mc cells of ms slots new: an answer and a world with 'post' -/
def CT (E : cE) (tt : Nat × Nat × Nat) (y : MethodName) (cc : ByteArray) (nl : Nat) (ret : Option FieldType) (d mc ms : Nat) (av : List Value) (ws : va_W) (post : Option Value → va_W → Prop) : Prop := ∀ (l : Launch) (sz : Nat), Met l y (.code y cc nl ret :: TT) (rmO d mc ms) (va_Pc av (PW E tt ws sz)) (Fin0 E post (va_A ws sz)) mc ms (va_A ws sz)
theorem PW.blind {E : cE} {tt : Nat × Nat × Nat} {ws : va_W} {sz : Nat} {av : List Value} : FrameBlind (va_Pc av (PW E tt ws sz)) := by
  intro a U g mk q
  obtain ⟨q0, q1, q2, q3, q4, q5, q6⟩ := q
  exact ⟨q0, q1, va_K.moved (u := U) (U := U.calling g mk a) (Vm.Alike.refl U.vm) q2, q3, q4, ⟨q5.1.moved (Vm.Alike.refl U.vm), q5.2.1.moved (Vm.Alike.refl U.vm), q5.2.2.1.moved (Vm.Alike.refl U.vm), q5.2.2.2.1.moved (Vm.Alike.refl U.vm), q5.2.2.2.2.1.moved (Vm.Alike.refl U.vm), q5.2.2.2.2.2.moved (Vm.Alike.refl U.vm)⟩, NW.same (s := U) (U := U.calling g mk a) rfl q6⟩
/-- the world that a callee gets -/
theorem Wd.pre {E : cE} {tt : Nat × Nat × Nat} {A : Nat → Prop} {s : State} {ws : va_W} {H : Heap} {locs : List Loc} (hw : Wd E tt A s ws H locs) {U : State} (hU : U.heap = H) (hW : s.WarmedH U.vm) : PW E tt ws H.size U := by
  obtain ⟨hK, hP, hD, hS, hA, hE, hN⟩ := hw
  refine ⟨by rw [hU], va_K.moved hW.alike hK, by rw [hU]; exact hP, hD.weaken (fun _ _ _ _ => trivial), ?_, hN.move hW⟩
  rw [hU]
  refine hE.move hS ?_ hW.alike
  intro q h
  rcases h with ⟨k, e, h⟩ | h
  · exact hD.2 k (q, e) h
  · exact hA q (Nat.le_trans hS.1 h)
theorem Wd.inA {E : cE} {tt : Nat × Nat × Nat} {A : Nat → Prop} {s : State} {ws : va_W} {H : Heap} {locs : List Loc} (hw : Wd E tt A s ws H locs) : ∀ q, va_A ws H.size q → A q := by
  intro q h
  rcases h with ⟨k, e, h⟩ | h
  · exact hw.2.2.1.2 k (q, e) h
  · exact hw.2.2.2.2.1 q (Nat.le_trans hw.2.2.2.1.1 h)
section CTX
variable {p : Program} {l : Launch} {e : Env} {R : Room} {s : State} {m : MethodId} {args : Array Value} {below : List Frame} {meth : Method} {c : Code} {H : Heap} {locs : List Loc} {cells slots : Nat} {Q : State → Prop}
variable {cc cc' : ByteArray} {pc : Nat} {ls : Array Slot} {rest st : List Value} {E : cE} {tt : Nat × Nat × Nat} {A : Nat → Prop} {ws : va_W} {own : String} {nL : Nat}
/-- what stays the same in a walk: the machine, the code, the locals' number, the class, the tables -/
def Cx (p : Program) (s : State) (m : MethodId) (args : Array Value) (c : Code) (cc : ByteArray) (nL : Nat) (own : String) : Prop := p.tables.exec = Jvm.exec ∧ c.code = cc ∧ c.maxLocals = nL ∧ s.vm.findClass own = some m.cls ∧ ∀ w ∈ TT, w.before args s = true
/-- behind a call -/
theorem run_back {mc ms : Nat} {post : Option Value → va_W → Prop} {a : Array Value} {free : Addr → Prop} (hw : Wd E tt A s ws H locs) (hf : free = va_A ws H.size)
    (hr : va_Run p l e R s m args below meth c H locs cells slots mc ms (F0 m pc ls st) rest (Fin0 E post (va_A ws H.size) a) free)
    (kk : ∀ (v : Option Value) (ws' : va_W) (H1 : Heap) (locs1 : List Loc), post v ws' → Wd E tt A s ws' H1 locs1 → W p l e R s m args below meth c H1 locs1 (cells + mc) (slots + ms) Q (F0 m (pc + 3) ls (v.toList ++ rest))) : W p l e R s m args below meth c H locs cells slots Q (F0 m pc ls st) := by
  intro T hT X
  obtain ⟨v, st₀, t, T', L, h0, X', hL, e1, e2, ⟨⟨v', ws', hv, hp, hP', hD'⟩, hz, hk⟩, stp⟩ := hr T hT X
  cases hv
  rw [h0] at hz hk
  have hin := hw.inA
  obtain ⟨hK, hP, hD, hS, hA, hE, hN⟩ := hw
  have hS' : va_S A s.heap T'.heap (locs ++ L) := by
    refine ⟨Nat.le_trans hS.1 (by rw [e1]; exact hz), fun q h1 h2 => by rw [e1, hk q (Nat.lt_of_lt_of_le h1 hS.1) (fun z => h2 (hin q z))]; exact hS.2.1 q h1 h2, fun q hq => ?_⟩
    rcases List.mem_append.mp hq with h | h
    · exact hS.2.2 q h
    · have := hL q h
      rw [hf] at this
      exact hin _ this
  obtain ⟨t2, a1, b1⟩ := kk v ws' T'.heap (locs ++ L) hp ⟨hK, by rw [e1]; exact hP', hD'.weaken (fun _ q _ h => hin q.1 h), hS', hA, hE, hN⟩ T' rfl X'
  exact ⟨t2, stp t2 a1, b1⟩
/-- what the tables say of an instance method, of a static one, of a constructor -/
def VY (y : MethodName) (cc : ByteArray) (nl : Nat) (ret : Option FieldType) (n : Nat) : Prop := Cond.instanceMethod y ∈ TT ∧ Cond.selects y.cls y y ∈ TT ∧ Cond.initialized y.cls ∈ TT ∧ Cond.code y cc nl ret ∈ TT ∧ y.cls ≠ "java/lang/invoke/MethodHandle" ∧ y.cls ≠ "java/lang/invoke/VarHandle" ∧ (parseMethodDescriptor y.desc).map (fun d => d.parameters.length) = some n
def SY (y : MethodName) (cc : ByteArray) (nl : Nat) (ret : Option FieldType) (n : Nat) : Prop := Cond.static y ∈ TT ∧ Cond.initialized y.cls ∈ TT ∧ Cond.code y cc nl ret ∈ TT ∧ y.cls ≠ "java/lang/invoke/MethodHandle" ∧ y.cls ≠ "java/lang/invoke/VarHandle" ∧ (parseMethodDescriptor y.desc).map (fun d => d.parameters.length) = some n
def IY (y : MethodName) (cc : ByteArray) (nl : Nat) (n : Nat) : Prop := Cond.instanceMethod y ∈ TT ∧ y.name = "<init>" ∧ Cond.initialized y.cls ∈ TT ∧ Cond.code y cc nl none ∈ TT ∧ y.cls ≠ "java/lang/invoke/MethodHandle" ∧ y.cls ≠ "java/lang/invoke/VarHandle" ∧ (parseMethodDescriptor y.desc).map (fun d => d.parameters.length) = some n
variable {y : MethodName} {nl d mc ms n index : Nat} {ret : Option FieldType} {As : List Value} {b : Nat} {post : Option Value → va_W → Prop} {host : String}
theorem kV (C : Cx p s m args c cc nL own) (hw : Wd E tt A s ws H locs) (hC : CT E tt y cc' nl ret d mc ms (.ref b :: As) ws post) (hy : VY y cc' nl ret n) (hl : Cond.methodLink own index y ∈ TT)
    (hrec : ∃ cellB : Cell, H[b]? = some cellB ∧ cellB.vm.isStatics = false ∧ s.vm.findClass y.cls = some cellB.cls) (hn : As.length = n) (hsz : ls.size = nL) (hst : st = As.reverse ++ .ref b :: rest)
    (hdg : decode cc pc = .ok (.invokevirtual index, 3)) (hcat : (rest.map fun v => v.category).sum ≤ 8) (hR : d + 1 ≤ R.frames ∧ 8 + (nl + 11) + 64 * d ≤ R.locals) (hf : cells + mc ≤ R.cells ∧ slots + ms ≤ R.slots)
    (kk : ∀ (v : Option Value) (ws' : va_W) (H1 : Heap) (locs1 : List Loc), post v ws' → Wd E tt A s ws' H1 locs1 → W p l e R s m args below meth c H1 locs1 (cells + mc) (slots + ms) Q (F0 m (pc + 3) ls (v.toList ++ rest))) : W p l e R s m args below meth c H locs cells slots Q (F0 m pc ls st) := by
  obtain ⟨hx, hb, hml, hown, hts⟩ := C
  obtain ⟨y1, y2, y3, y4, y5, y6, y7⟩ := hy
  have cb : CallB R s args own index y cc' nl ret (.code y cc' nl ret :: TT) (rmO d mc ms) mc ms n := callB_of n hts (TT_good y4) rfl rfl rfl (hts _ y3) (hts _ hl) ⟨y5, y6, y7⟩ hR
  refine run_back hw rfl (va_runV (As := As) (rest := rest) ⟨hx, hb, hml, hown, hts⟩ (hC l H.size) ⟨cb, hts _ y1, hts _ y2⟩ ⟨PW.blind, hrec, fun U hU hW => ⟨rfl, hw.pre hU hW⟩⟩ rfl hn hsz hst (lv_room hcat) hdg hf) kk
theorem kS (C : Cx p s m args c cc nL own) (hw : Wd E tt A s ws H locs) (hC : CT E tt y cc' nl ret d mc ms As ws post) (hy : SY y cc' nl ret n) (hl : Cond.methodLink own index y ∈ TT)
    (hn : As.length = n) (hsz : ls.size = nL) (hst : st = As.reverse ++ rest)
    (hdg : decode cc pc = .ok (.invokestatic index, 3)) (hcat : (rest.map fun v => v.category).sum ≤ 8) (hR : d + 1 ≤ R.frames ∧ 8 + (nl + 11) + 64 * d ≤ R.locals) (hf : cells + mc ≤ R.cells ∧ slots + ms ≤ R.slots)
    (kk : ∀ (v : Option Value) (ws' : va_W) (H1 : Heap) (locs1 : List Loc), post v ws' → Wd E tt A s ws' H1 locs1 → W p l e R s m args below meth c H1 locs1 (cells + mc) (slots + ms) Q (F0 m (pc + 3) ls (v.toList ++ rest))) : W p l e R s m args below meth c H locs cells slots Q (F0 m pc ls st) := by
  obtain ⟨hx, hb, hml, hown, hts⟩ := C
  obtain ⟨y1, y3, y4, y5, y6, y7⟩ := hy
  have cb : CallB R s args own index y cc' nl ret (.code y cc' nl ret :: TT) (rmO d mc ms) mc ms n := callB_of n hts (TT_good y4) rfl rfl rfl (hts _ y3) (hts _ hl) ⟨y5, y6, y7⟩ hR
  refine run_back hw rfl (va_runS (As := As) (rest := rest) ⟨hx, hb, hml, hown, hts⟩ (hC l H.size) ⟨cb, hts _ y1⟩ ⟨PW.blind, fun U hU hW => ⟨rfl, hw.pre hU hW⟩⟩ rfl hn hsz hst (lv_room hcat) hdg hf) kk
theorem kSN (C : Cx p s m args c cc nL own) (hw : Wd E tt A s ws H locs) (hC : CT E tt y cc' nl ret d mc ms As ws post) (hy : SY y cc' nl ret n) (hl : Cond.methodLinkNest own index y host ∈ nestW)
    (hn : As.length = n) (hsz : ls.size = nL) (hst : st = As.reverse ++ rest)
    (hdg : decode cc pc = .ok (.invokestatic index, 3)) (hcat : (rest.map fun v => v.category).sum ≤ 8) (hR : d + 1 ≤ R.frames ∧ 8 + (nl + 11) + 64 * d ≤ R.locals) (hf : cells + mc ≤ R.cells ∧ slots + ms ≤ R.slots)
    (kk : ∀ (v : Option Value) (ws' : va_W) (H1 : Heap) (locs1 : List Loc), post v ws' → Wd E tt A s ws' H1 locs1 → W p l e R s m args below meth c H1 locs1 (cells + mc) (slots + ms) Q (F0 m (pc + 3) ls (v.toList ++ rest))) : W p l e R s m args below meth c H locs cells slots Q (F0 m pc ls st) := by
  obtain ⟨hx, hb, hml, hown, hts⟩ := C
  obtain ⟨y1, y3, y4, y5, y6, y7⟩ := hy
  have cb : va_CN R s args own index y host cc' nl ret (.code y cc' nl ret :: TT) (rmO d mc ms) mc ms n := va_cnB n hts (TT_good y4) rfl rfl rfl (hw.2.2.2.2.2.2.1 _ hl) (hts _ y3) ⟨y5, y6, y7⟩ hR
  refine run_back hw rfl (va_runSN (As := As) (rest := rest) ⟨hx, hb, hml, hown, hts⟩ (hC l H.size) ⟨cb, hts _ y1, trivial⟩ ⟨PW.blind, fun U hU hW => ⟨rfl, hw.pre hU hW⟩⟩ rfl hn hsz hst (lv_room hcat) hdg hf) kk
theorem kI (C : Cx p s m args c cc nL own) (hw : Wd E tt A s ws H locs) (hC : CT E tt y cc' nl none d mc ms (.ref b :: As) ws post) (hy : IY y cc' nl n) (hl : Cond.methodLink own index y ∈ TT)
    (hn : As.length = n) (hsz : ls.size = nL) (hst : st = As.reverse ++ .ref b :: rest)
    (hdg : decode cc pc = .ok (.invokespecial index, 3)) (hcat : (rest.map fun v => v.category).sum ≤ 8) (hR : d + 1 ≤ R.frames ∧ 8 + (nl + 11) + 64 * d ≤ R.locals) (hf : cells + mc ≤ R.cells ∧ slots + ms ≤ R.slots)
    (kk : ∀ (v : Option Value) (ws' : va_W) (H1 : Heap) (locs1 : List Loc), post v ws' → Wd E tt A s ws' H1 locs1 → W p l e R s m args below meth c H1 locs1 (cells + mc) (slots + ms) Q (F0 m (pc + 3) ls (v.toList ++ rest))) : W p l e R s m args below meth c H locs cells slots Q (F0 m pc ls st) := by
  obtain ⟨hx, hb, hml, hown, hts⟩ := C
  obtain ⟨y1, y2, y3, y4, y5, y6, y7⟩ := hy
  have cb : CallB R s args own index y cc' nl none (.code y cc' nl none :: TT) (rmO d mc ms) mc ms n := callB_of n hts (TT_good y4) rfl rfl rfl (hts _ y3) (hts _ hl) ⟨y5, y6, y7⟩ hR
  refine run_back hw rfl (va_runI (As := As) (rest := rest) ⟨hx, hb, hml, hown, hts⟩ (hC l H.size) ⟨cb, y2, hts _ y1⟩ ⟨PW.blind, fun U hU hW => ⟨rfl, hw.pre hU hW⟩⟩ rfl hn hsz hst (lv_room hcat) hdg hf) kk
theorem kIN (C : Cx p s m args c cc nL own) (hw : Wd E tt A s ws H locs) (hC : CT E tt y cc' nl none d mc ms (.ref b :: As) ws post) (hy : IY y cc' nl n) (hl : Cond.methodLinkNest own index y host ∈ nestW)
    (hn : As.length = n) (hsz : ls.size = nL) (hst : st = As.reverse ++ .ref b :: rest)
    (hdg : decode cc pc = .ok (.invokespecial index, 3)) (hcat : (rest.map fun v => v.category).sum ≤ 8) (hR : d + 1 ≤ R.frames ∧ 8 + (nl + 11) + 64 * d ≤ R.locals) (hf : cells + mc ≤ R.cells ∧ slots + ms ≤ R.slots)
    (kk : ∀ (v : Option Value) (ws' : va_W) (H1 : Heap) (locs1 : List Loc), post v ws' → Wd E tt A s ws' H1 locs1 → W p l e R s m args below meth c H1 locs1 (cells + mc) (slots + ms) Q (F0 m (pc + 3) ls (v.toList ++ rest))) : W p l e R s m args below meth c H locs cells slots Q (F0 m pc ls st) := by
  obtain ⟨hx, hb, hml, hown, hts⟩ := C
  obtain ⟨y1, y2, y3, y4, y5, y6, y7⟩ := hy
  have cb : va_CN R s args own index y host cc' nl none (.code y cc' nl none :: TT) (rmO d mc ms) mc ms n := va_cnB n hts (TT_good y4) rfl rfl rfl (hw.2.2.2.2.2.2.1 _ hl) (hts _ y3) ⟨y5, y6, y7⟩ hR
  refine run_back hw rfl (va_runIN (As := As) (rest := rest) ⟨hx, hb, hml, hown, hts⟩ (hC l H.size) ⟨cb, y2, hts _ y1⟩ ⟨PW.blind, fun U hU hW => ⟨rfl, hw.pre hU hW⟩⟩ rfl hn hsz hst (lv_room hcat) hdg hf) kk
/-- returns -/
theorem r_i {v : Int32} (C : Cx p s m args c cc nL own) (hr : meth.sig.returnType = some .int) (hlk : meth.locks = false) (hw : Wd E tt A s ws H locs) (hp : post (some (.int v)) ws) (hdg : decode cc pc = .ok (.ireturn, 1)) : W p l e R s m args below meth c H locs cells slots (MQ below (Fin0 E post A) args s cells slots A) (F0 m pc ls [.int v]) :=
  W.iret (v := v) C.1 C.2.1 hr (fun _ ht _ => ⟨⟨_, ws, rfl, hp, by rw [ht]; exact hw.2.1, hw.2.2.1⟩, hw.2.2.2.1.F ht⟩) hw.2.2.2.1.2.2 hdg hlk
theorem r_z {v : Int32} (C : Cx p s m args c cc nL own) (hr : meth.sig.returnType = some .boolean) (hlk : meth.locks = false) (hw : Wd E tt A s ws H locs) (hv : narrow .boolean (.int v) = .int v) (hp : post (some (.int v)) ws) (hdg : decode cc pc = .ok (.ireturn, 1)) : W p l e R s m args below meth c H locs cells slots (MQ below (Fin0 E post A) args s cells slots A) (F0 m pc ls [.int v]) :=
  W.zret (v := v) C.1 C.2.1 hr hv (fun _ ht _ => ⟨⟨_, ws, rfl, hp, by rw [ht]; exact hw.2.1, hw.2.2.1⟩, hw.2.2.2.1.F ht⟩) hw.2.2.2.1.2.2 hdg hlk
theorem r_l {v : Int64} (C : Cx p s m args c cc nL own) (hr : meth.sig.returnType = some .long) (hlk : meth.locks = false) (hw : Wd E tt A s ws H locs) (hp : post (some (.long v)) ws) (hdg : decode cc pc = .ok (.lreturn, 1)) : W p l e R s m args below meth c H locs cells slots (MQ below (Fin0 E post A) args s cells slots A) (F0 m pc ls [.long v]) :=
  W.lret (v := v) C.1 C.2.1 hr (fun _ ht _ => ⟨⟨_, ws, rfl, hp, by rw [ht]; exact hw.2.1, hw.2.2.1⟩, hw.2.2.2.1.F ht⟩) hw.2.2.2.1.2.2 hdg hlk
theorem r_v (C : Cx p s m args c cc nL own) (hr : meth.sig.returnType = none) (hlk : meth.locks = false) (hw : Wd E tt A s ws H locs) (hp : post none ws) (hdg : decode cc pc = .ok (.return_, 1)) : W p l e R s m args below meth c H locs cells slots (MQ below (Fin0 E post A) args s cells slots A) (F0 m pc ls []) :=
  W.vret C.1 C.2.1 hr (fun _ ht _ => ⟨⟨_, ws, rfl, hp, by rw [ht]; exact hw.2.1, hw.2.2.1⟩, hw.2.2.2.1.F ht⟩) hw.2.2.2.1.2.2 hdg hlk
theorem r_a {v : Option Nat} {cn : String} (C : Cx p s m args c cc nL own) (hr : meth.sig.returnType = some (.object cn)) (hlk : meth.locks = false) (hw : Wd E tt A s ws H locs) (hp : post (some (va_rf v)) ws) (hdg : decode cc pc = .ok (.areturn, 1)) : W p l e R s m args below meth c H locs cells slots (MQ below (Fin0 E post A) args s cells slots A) (F0 m pc ls [va_rf v]) :=
  W.aret (v := va_rf v) C.1 C.2.1 hr (Or.inl ⟨_, rfl⟩) (va_rf_or v) (fun _ ht _ => ⟨⟨_, ws, rfl, hp, by rw [ht]; exact hw.2.1, hw.2.2.1⟩, hw.2.2.2.1.F ht⟩) hw.2.2.2.1.2.2 hdg hlk
end CTX
/-- a contract out of its walk -/
theorem CT.mk {E : cE} {tt : Nat × Nat × Nat} {y : MethodName} {cc : ByteArray} {nl : Nat} {ret : Option FieldType} {d mc ms : Nat} {av : List Value} {ws : va_W} {post : Option Value → va_W → Prop} (hy : plainName y.cls = true) (hlen : (lg_sl av).length ≤ nl)
    (body : ∀ (l : Launch) (p : Program) (e : Env) (s : State) (m : MethodId) (below : List Frame) (meth : Method) (c : Code) (A : Nat → Prop) (ls : Array Slot), Cx p s m av.toArray c cc nl y.cls → meth.sig.returnType = ret → meth.locks = false → meth.name = y.name → Wd E tt A s ws s.heap [] → lv_has ls nl (lv_args 0 av) →
      W p l e (rmO d mc ms) s m av.toArray below meth c s.heap [] 0 0 (MQ below (Fin0 E post A) av.toArray s mc ms A) (F0 m 0 ls [])) : CT E tt y cc nl ret d mc ms av ws post := by
  intro l sz
  refine Met.ofW (cc := cc) (maxL := nl) (ret := ret) hy rfl ?_
  intro p e s m args below meth c s₁ B hml hv
  obtain ⟨rfl, hsz, hK, hP, hD0, hE, hN⟩ := hv
  subst hsz
  have hts := atoms_spec (ws := Cond.code y cc nl ret :: TT) B.pre
  have hown : s.vm.findClass y.cls = some m.cls := findClass_of_methodNamed B.named
  have hl := lv_entry av (n := nl) hlen
  rw [lg_entry_eq]
  exact body l p e s m below meth c (va_A ws s.heap.size) _ ⟨B.exec, B.bytes, hml, hown, fun w hw => hts w (List.mem_cons_of_mem _ hw)⟩ B.returns B.notSynchronized (name_of_methodNamed B.named B.method).1 ⟨hK, hP, hD0.self, va_S.rf, fun _ h => Or.inr h, hE, hN⟩ hl
end
section
/-! THE TYPED WORLD -/
/-- the kind of what stands at a place: 0 .. 12 an object of that class (vwCl), 13 int[], 14 long[], 15 boolean[], 16 .. 21 arrays of references -/
def kd (k : Nat) : Nat :=
  if k < 1 then 11 else if k < 2 then 10 else if k < 3 then 18 else if k < 7 then 4 else if k < 8 then 21 else if k < 11 then 8 else if k < 12 then 20 else if k < 16 then 7 else if k < 20 then 17 else if k < 52 then 3 else if k < 53 then 16 else if k < 69 then 0 else if k < 70 then 19 else if k < 76 then 6 else if k < 77 then 5 else if k < 79 then 13 else if k < 80 then 2 else if k < 81 then 9 else if k < 83 then 13 else if k < 84 then 1 else if k < 88 then 13
  else if k = 100 then 12 else if k = 118 then 14 else if k = 149 then 14 else if k = 121 then 15 else if k = 127 then 15 else if k = 130 then 15 else if k = 140 then 15 else 13
/-- lengths of arrays -/
def lnM : List Nat := [4, 4, 4, 4, 4, 6, 3, 3, 4, 4, 32, 32, 32, 0, 16, 16, 16, 16, 16, 16, 16, 0, 6, 6, 6, 6, 6, 0, 60, 60, 0, 0, 0, 0, 0, 0, 909, 909, 9, 9, 0, 400, 7, 6, 16, 17, 0, 0, 61]
def ln (k : Nat) : Nat :=
  if k < 3 then 4 else if k < 8 then 3 else if k < 12 then 4 else if k < 20 then 8 else if k < 53 then 16 else if k < 70 then 6 else if k < 79 then 8 else if k < 82 then 909 else if k < 83 then 17 else if k < 88 then 64 else lnM.getD (k - 101) 0
/-- the fields of a class by their types: 0 int or boolean, 1 long, 2 a reference -/
def ftc (c : Nat) : List Nat := match c with
  | 0 => [2, 0, 0, 1, 0, 0, 0]
  | 1 => [2, 2, 2, 2, 0, 0]
  | 2 => [2, 0, 0, 0, 0]
  | 3 => [0, 0, 0]
  | 4 => [0, 0, 0, 0, 0, 0]
  | 5 => [2, 2, 0]
  | 6 => [2, 0, 0, 0, 0]
  | 7 => [2, 0]
  | 8 => [0, 0, 0, 0]
  | 9 => [2, 2, 2, 0, 2, 2, 0, 0, 0]
  | 10 => [0, 0, 0, 0, 0, 0]
  | 11 => [2, 2, 2, 2, 2, 2, 2, 2, 2, 2, 0, 0, 0, 1, 1, 1, 1, 0, 0]
  | 12 => [2, 2, 2, 2, 2, 2, 2, 2, 2, 2, 2, 2, 2, 0, 2, 2, 2, 2, 2, 2, 2, 0, 2, 2, 2, 2, 2, 0, 2, 2, 1, 1, 1, 1, 0, 0, 2, 2, 2, 2, 0, 2, 2, 2, 2, 2, 0, 0, 2]
  | _ => []
abbrev tF : Type := Nat → Nat → Int32
abbrev tG : Type := Nat → Nat → Int64
abbrev tP : Type := Nat → Nat → Option Nat
def uF (F : tF) (k j : Nat) (v : Int32) : tF := fun k' => if k' = k then upd (F k) j v else F k'
def uG (G : tG) (k j : Nat) (v : Int64) : tG := fun k' => if k' = k then vp_updL (G k) j v else G k'
def uP (P : tP) (k j : Nat) (v : Option Nat) : tP := fun k' => if k' = k then va_up (P k) j v else P k'
theorem uF_s (F : tF) (k j : Nat) (v : Int32) : uF F k j v k j = v := by simp [uF, upd]
theorem uF_n (F : tF) {k j k' j' : Nat} (v : Int32) (h : k' ≠ k ∨ j' ≠ j) : uF F k j v k' j' = F k' j' := by
  unfold uF upd
  by_cases h1 : k' = k
  · subst h1
    rcases h with h | h
    · exact absurd rfl h
    · simp [h]
  · simp [h1]
theorem uG_s (F : tG) (k j : Nat) (v : Int64) : uG F k j v k j = v := by simp [uG, vp_updL]
theorem uG_n (F : tG) {k j k' j' : Nat} (v : Int64) (h : k' ≠ k ∨ j' ≠ j) : uG F k j v k' j' = F k' j' := by
  unfold uG vp_updL
  by_cases h1 : k' = k
  · subst h1
    rcases h with h | h
    · exact absurd rfl h
    · simp [h]
  · simp [h1]
theorem uP_s (F : tP) (k j : Nat) (v : Option Nat) : uP F k j v k j = v := by simp [uP, va_up]
theorem uP_n (F : tP) {k j k' j' : Nat} (v : Option Nat) (h : k' ≠ k ∨ j' ≠ j) : uP F k j v k' j' = F k' j' := by
  unfold uP va_up
  by_cases h1 : k' = k
  · subst h1
    rcases h with h | h
    · exact absurd rfl h
    · simp [h]
  · simp [h1]
/-- an object's fields -/
def fv (B : Nat → Nat) (F : tF) (G : tG) (P : tP) (k : Nat) (t j : Nat) : Value := if t = 0 then .int (F k j) else if t = 1 then .long (G k j) else va_rf ((P k j).map B)
def fvl (B : Nat → Nat) (F : tF) (G : tG) (P : tP) (k : Nat) : List Nat → Nat → List Value
  | [], _ => []
  | t :: ts, j => fv B F G P k t j :: fvl B F G P k ts (j + 1)
theorem fvl_get (B : Nat → Nat) (F : tF) (G : tG) (P : tP) (k : Nat) (ts : List Nat) : ∀ (j0 j t : Nat), ts[j]? = some t → (fvl B F G P k ts j0)[j]? = some (fv B F G P k t (j0 + j)) := by
  induction ts with
  | nil => intro j0 j t h; simp at h
  | cons a ts ih =>
    intro j0 j t h
    cases j with
    | zero => simp at h; subst h; rfl
    | succ j =>
      have := ih (j0 + 1) j t (by simpa using h)
      simp only [fvl, List.getElem?_cons_succ]
      rw [this]
      congr 2
      omega
theorem fvl_len (B : Nat → Nat) (F : tF) (G : tG) (P : tP) (k : Nat) (ts : List Nat) : ∀ j0, (fvl B F G P k ts j0).length = ts.length := by
  induction ts with
  | nil => intro j0; rfl
  | cons a ts ih => intro j0; simp [fvl, ih]
theorem fvl_congr {B : Nat → Nat} {F F' : tF} {G G' : tG} {P P' : tP} {k : Nat} (ts : List Nat) : ∀ j0, (∀ i t, ts[i]? = some t → fv B F G P k t (j0 + i) = fv B F' G' P' k t (j0 + i)) → fvl B F G P k ts j0 = fvl B F' G' P' k ts j0 := by
  induction ts with
  | nil => intro j0 _; rfl
  | cons a ts ih =>
    intro j0 h
    simp only [fvl]
    rw [ih (j0 + 1) (fun i t hi => by have := h (i + 1) t (by simpa using hi); rw [show j0 + 1 + i = j0 + (i + 1) by omega]; exact this)]
    congr 1
    exact h 0 a (by simp)
theorem fvl_set {B : Nat → Nat} {F F' : tF} {G G' : tG} {P P' : tP} {k : Nat} {v : Value} (ts : List Nat) : ∀ (j0 j t : Nat), ts[j]? = some t → fv B F' G' P' k t (j0 + j) = v → (∀ i u, i ≠ j → ts[i]? = some u → fv B F G P k u (j0 + i) = fv B F' G' P' k u (j0 + i)) → (fvl B F G P k ts j0).set j v = fvl B F' G' P' k ts j0 := by
  induction ts with
  | nil => intro j0 j t h; simp at h
  | cons a ts ih =>
    intro j0 j t h hv ho
    cases j with
    | zero =>
      simp at h
      subst h
      simp only [fvl, List.set_cons_zero]
      rw [fvl_congr (F' := F') (G' := G') (P' := P') ts (j0 + 1) (fun i u hi => by have := ho (i + 1) u (by omega) (by simpa using hi); rw [show j0 + 1 + i = j0 + (i + 1) by omega]; exact this)]
      congr 1
      exact hv.symm
    | succ j =>
      simp only [fvl, List.set_cons_succ]
      rw [ih (j0 + 1) j t (by simpa using h) (by rw [show j0 + 1 + j = j0 + (j + 1) by omega]; exact hv) (fun i u hij hi => by have := ho (i + 1) u (by omega) (by simpa using hi); rw [show j0 + 1 + i = j0 + (i + 1) by omega]; exact this)]
      congr 1
      exact ho 0 a (by omega) (by simp)
/-- what stands at a place -/
def cel (E : cE) (B : Nat → Nat) (F : tF) (G : tG) (P : tP) (k : Nat) : va_E :=
  if kd k < 13 then .inr (kd k, fvl B F G P k (ftc (kd k)) 0) else if kd k = 14 then .inl (E.2.2 1, ln k, .inr (.inl (G k))) else if kd k < 16 then .inl (E.2.2 (kd k - 13), ln k, .inl (F k)) else .inl (E.2.2 (kd k - 13), ln k, .inr (.inr (.inr (.inr (fun i => (P k i).map B)))))
/-- the world's list -/
def wl (E : cE) (X : List Nat) (B : Nat → Nat) (F : tF) (G : tG) (P : tP) : va_W := X.map (fun k => (B k, cel E B F G P k))
section TY
variable {E : cE} {X : List Nat} {B : Nat → Nat} {F F' : tF} {G G' : tG} {P P' : tP} {k : Nat}
theorem wl_at (hk : k ∈ X) : ∃ q : Nat, X[q]? = some k ∧ (wl E X B F G P)[q]? = some (B k, cel E B F G P k) := by
  obtain ⟨q, hq⟩ := List.getElem?_of_mem hk
  exact ⟨q, hq, by simp [wl, List.getElem?_map, hq]⟩
/-- a change at one place -/
theorem wl_set {A : Nat → Prop} {q : Nat} {e : va_E} (hD : va_D A (wl E X B F G P)) (hq : X[q]? = some k) (he : cel E B F' G' P' k = e) (ho : ∀ k', k' ∈ X → k' ≠ k → cel E B F G P k' = cel E B F' G' P' k') : (wl E X B F G P).set q (B k, e) = wl E X B F' G' P' := by
  apply List.ext_getElem?
  intro i
  have hl : q < (wl E X B F G P).length := by
    simp only [wl, List.length_map]
    exact (List.getElem?_eq_some_iff.mp hq).1
  by_cases hi : i = q
  · subst hi
    rw [List.getElem?_set_self hl]
    simp only [wl, List.getElem?_map, hq, Option.map_some]
    rw [he]
  · rw [List.getElem?_set_ne (Ne.symm hi)]
    simp only [wl, List.getElem?_map]
    cases hx : X[i]? with
    | none => rfl
    | some k' =>
      have hne : k' ≠ k := by
        intro e2
        subst e2
        have h1 : (wl E X B F G P)[i]? = some (B k', cel E B F G P k') := by simp [wl, List.getElem?_map, hx]
        have h2 : (wl E X B F G P)[q]? = some (B k', cel E B F G P k') := by simp [wl, List.getElem?_map, hq]
        exact hi (hD.1 _ _ _ _ h1 h2 rfl)
      simp only [Option.map_some]
      rw [ho k' (List.mem_of_getElem? hx) hne]
theorem cel_o {ci : Nat} (hK : kd k = ci) (hc : ci < 13) : cel E B F G P k = .inr (ci, fvl B F G P k (ftc ci) 0) := by
  subst hK
  simp [cel, hc]
theorem cel_i (hK : kd k = 13) : cel E B F G P k = .inl (E.2.2 0, ln k, .inl (F k)) := by simp [cel, hK]
theorem cel_z (hK : kd k = 15) : cel E B F G P k = .inl (E.2.2 2, ln k, .inl (F k)) := by simp [cel, hK]
theorem cel_l (hK : kd k = 14) : cel E B F G P k = .inl (E.2.2 1, ln k, .inr (.inl (G k))) := by simp [cel, hK]
theorem cel_q {r : Nat} (hK : kd k = r) (hr : 16 ≤ r) : cel E B F G P k = .inl (E.2.2 (r - 13), ln k, .inr (.inr (.inr (.inr (fun i => (P k i).map B))))) := by
  subst hK
  simp [cel, show ¬ kd k < 13 by omega, show ¬ kd k = 14 by omega, show ¬ kd k < 16 by omega]
theorem cel_congr (hF : F' k = F k) (hG : G' k = G k) (hP : P' k = P k) : cel E B F G P k = cel E B F' G' P' k := by
  have h1 : fvl B F G P k (ftc (kd k)) 0 = fvl B F' G' P' k (ftc (kd k)) 0 := fvl_congr _ _ (fun i t _ => by unfold fv; rw [hF, hG, hP])
  unfold cel
  rw [h1, hF, hG, hP]
end TY
/-- a field of a class as a class of ours links it: class, field, the words that tell of it -/
def FL (own : String) (index ci j : Nat) : Prop := ci < 13 ∧ ∃ q : vw_C, vwCl[ci]? = some q ∧ j < q.2.2 ∧ (∀ w ∈ u_ws q.1 q.2.1 q.2.2, w ∈ TT) ∧ Cond.fieldLink own index (q.2.1 j).1 (q.2.1 j).2.1 (q.2.1 j).2.2.1 ∈ TT
/-- a class that we may write into: its fields' names are apart, its fields' types -/
def FC (ci : Nat) (ty0 : Nat → FieldType) : Prop := ∃ q : vw_C, vwCl[ci]? = some q ∧ (∀ a, a < q.2.2 → ∀ b, b < q.2.2 → a ≠ b → (q.2.1 a).2.1 ≠ (q.2.1 b).2.1) ∧ (∀ k, k < q.2.2 → parseFieldDescriptor (q.2.1 k).2.2.1 = some (ty0 k)) ∧ (ftc ci).length = q.2.2
def FN (ci j : Nat) (fin : Bool) : Prop := ∃ q : vw_C, vwCl[ci]? = some q ∧ (q.2.1 j).2.2.2 = fin
section ROWS
variable {p : Program} {l : Launch} {e : Env} {R : Room} {s : State} {m : MethodId} {args : Array Value} {below : List Frame} {meth : Method} {c : Code} {H : Heap} {locs : List Loc} {cells slots : Nat} {Q : State → Prop}
variable {cc : ByteArray} {pc : Nat} {ls : Array Slot} {rest : List Value} {E : cE} {tt : Nat × Nat × Nat} {A : Nat → Prop} {own : String} {nL : Nat} {X : List Nat} {B : Nat → Nat} {F : tF} {G : tG} {P : tP} {k index ci : Nat}
theorem g_any (j t : Nat) (C : Cx p s m args c cc nL own) (hw : Wd E tt A s (wl E X B F G P) H locs) (hk : k ∈ X) (hK : kd k = ci) (hf : FL own index ci j) (ht : (ftc ci)[j]? = some t) (hdg : decode cc pc = .ok (.getfield index, 3))
    (kk : W p l e R s m args below meth c H locs cells slots Q (F0 m (pc + 3) ls (fv B F G P k t j :: rest))) : W p l e R s m args below meth c H locs cells slots Q (F0 m pc ls (.ref (B k) :: rest)) := by
  obtain ⟨hx, hb, hml, hown, hts⟩ := C
  obtain ⟨hc, ⟨C0, T0, N0⟩, h1, h2, h3, h4⟩ := hf
  obtain ⟨q, -, hq⟩ := wl_at (E := E) (B := B) (F := F) (G := G) (P := P) hk
  rw [cel_o hK hc] at hq
  refine va_get (C := C0) (T := T0) (N := N0) hx hb hts h3 hown hw.1 hw.2.1 q hq h1 j h2 (hts _ h4) (fun _ h9 => h9) (by rw [fvl_get _ _ _ _ _ _ 0 j t ht, Nat.zero_add]) hdg kk
theorem g_i (j : Nat) (C : Cx p s m args c cc nL own) (hw : Wd E tt A s (wl E X B F G P) H locs) (hk : k ∈ X) (hK : kd k = ci) (hf : FL own index ci j) (ht : (ftc ci)[j]? = some 0) (hdg : decode cc pc = .ok (.getfield index, 3))
    (kk : W p l e R s m args below meth c H locs cells slots Q (F0 m (pc + 3) ls (.int (F k j) :: rest))) : W p l e R s m args below meth c H locs cells slots Q (F0 m pc ls (.ref (B k) :: rest)) := g_any j 0 C hw hk hK hf ht hdg kk
theorem g_l (j : Nat) (C : Cx p s m args c cc nL own) (hw : Wd E tt A s (wl E X B F G P) H locs) (hk : k ∈ X) (hK : kd k = ci) (hf : FL own index ci j) (ht : (ftc ci)[j]? = some 1) (hdg : decode cc pc = .ok (.getfield index, 3))
    (kk : W p l e R s m args below meth c H locs cells slots Q (F0 m (pc + 3) ls (.long (G k j) :: rest))) : W p l e R s m args below meth c H locs cells slots Q (F0 m pc ls (.ref (B k) :: rest)) := g_any j 1 C hw hk hK hf ht hdg kk
theorem g_q (j : Nat) (C : Cx p s m args c cc nL own) (hw : Wd E tt A s (wl E X B F G P) H locs) (hk : k ∈ X) (hK : kd k = ci) (hf : FL own index ci j) (ht : (ftc ci)[j]? = some 2) (hdg : decode cc pc = .ok (.getfield index, 3))
    (kk : W p l e R s m args below meth c H locs cells slots Q (F0 m (pc + 3) ls (va_rf ((P k j).map B) :: rest))) : W p l e R s m args below meth c H locs cells slots Q (F0 m pc ls (.ref (B k) :: rest)) := g_any j 2 C hw hk hK hf ht hdg kk
theorem g_r (j : Nat) {k2 : Nat} (C : Cx p s m args c cc nL own) (hw : Wd E tt A s (wl E X B F G P) H locs) (hk : k ∈ X) (hK : kd k = ci) (hf : FL own index ci j) (ht : (ftc ci)[j]? = some 2) (hp : P k j = some k2) (hdg : decode cc pc = .ok (.getfield index, 3))
    (kk : W p l e R s m args below meth c H locs cells slots Q (F0 m (pc + 3) ls (.ref (B k2) :: rest))) : W p l e R s m args below meth c H locs cells slots Q (F0 m pc ls (.ref (B k) :: rest)) := by
  refine g_any j 2 C hw hk hK hf ht hdg ?_
  have h1 : fv B F G P k 2 j = .ref (B k2) := by simp [fv, hp, va_rf]
  rw [h1]
  exact kk
theorem Wd.set {F' : tF} {G' : tG} {P' : tP} {q : Nat} {e1 : va_E} {H1 : Heap} {locs1 : List Loc} (hw : Wd E tt A s (wl E X B F G P) H locs) (hq : X[q]? = some k) (he : cel E B F' G' P' k = e1) (ho : ∀ k', k' ≠ k → F' k' = F k' ∧ G' k' = G k' ∧ P' k' = P k')
    (h1 : va_P (tD E) vwCl ((wl E X B F G P).set q (B k, e1)) H1) (h2 : va_D A ((wl E X B F G P).set q (B k, e1))) (h3 : va_S A s.heap H1 locs1) : Wd E tt A s (wl E X B F' G' P') H1 locs1 := by
  have e3 := wl_set (F' := F') (G' := G') (P' := P') hw.2.2.1 hq he (fun k' _ hne => cel_congr (ho k' hne).1 (ho k' hne).2.1 (ho k' hne).2.2)
  rw [e3] at h1 h2
  exact ⟨hw.1, h1, h2, h3, hw.2.2.2.2⟩
/-- puts: any field, final ones in a constructor -/
theorem p_any (j t : Nat) {F' : tF} {G' : tG} {P' : tP} {v : Value} {ty0 : Nat → FieldType} {fin : Bool} (C : Cx p s m args c cc nL own) (hw : Wd E tt A s (wl E X B F G P) H locs) (hk : k ∈ X) (hK : kd k = ci) (hf : FL own index ci j) (hc : FC ci ty0) (hfn : FN ci j fin) (hfi : fin = true → meth.name = "<init>" ∧ ∃ q : vw_C, vwCl[ci]? = some q ∧ (q.2.1 j).1 = own) (ht : (ftc ci)[j]? = some t) (hn : narrow (ty0 j) v = v) (hfit : fits (ty0 j) v = true)
    (hv : fv B F' G' P' k t j = v) (ho : ∀ i u, i ≠ j → fv B F G P k u i = fv B F' G' P' k u i) (hoo : ∀ k', k' ≠ k → F' k' = F k' ∧ G' k' = G k' ∧ P' k' = P k') (hdg : decode cc pc = .ok (.putfield index, 3))
    (kk : ∀ (H1 : Heap) (locs1 : List Loc), Wd E tt A s (wl E X B F' G' P') H1 locs1 → W p l e R s m args below meth c H1 locs1 cells slots Q (F0 m (pc + 3) ls rest)) : W p l e R s m args below meth c H locs cells slots Q (F0 m pc ls (v :: .ref (B k) :: rest)) := by
  obtain ⟨hx, hb, hml, hown, hts⟩ := C
  obtain ⟨hc13, ⟨C0, T0, N0⟩, h1, h2, h3, h4⟩ := hf
  obtain ⟨q, hq1, hq⟩ := wl_at (E := E) (B := B) (F := F) (G := G) (P := P) hk
  rw [cel_o hK hc13] at hq
  obtain ⟨q2, e2, hnm, hty, hlen⟩ := hc
  cases h1.symm.trans e2
  obtain ⟨q3, e3, hfin⟩ := hfn
  cases h1.symm.trans e3
  have hset : (fvl B F G P k (ftc ci) 0).set j v = fvl B F' G' P' k (ftc ci) 0 := fvl_set _ 0 j t ht (by rw [Nat.zero_add]; exact hv) (fun i u hij _ => by rw [Nat.zero_add]; exact ho i u hij)
  have hl : j < (fvl B F G P k (ftc ci) 0).length := by rw [fvl_len]; exact (List.getElem?_eq_some_iff.mp ht).1
  have fin_ : ∀ (H1 : Heap) (locs1 : List Loc), va_P (tD E) vwCl ((wl E X B F G P).set q (B k, .inr (ci, (fvl B F G P k (ftc ci) 0).set j v))) H1 → va_D A ((wl E X B F G P).set q (B k, .inr (ci, (fvl B F G P k (ftc ci) 0).set j v))) → va_S A s.heap H1 locs1 → W p l e R s m args below meth c H1 locs1 cells slots Q (F0 m (pc + 3) ls rest) := by
    intro H1 locs1 a1 a2 a3
    rw [hset] at a1 a2
    exact kk H1 locs1 (hw.set hq1 (cel_o hK hc13) hoo a1 a2 a3)
  cases fin with
  | false => exact va_put (C := C0) (T := T0) (N := N0) hx hb hts h3 ty0 hty hnm hown hw.1 hw.2.1 hw.2.2.1 hw.2.2.2.1 q hq h1 j h2 (hts _ h4) (fun _ h9 => h9) hfin (hty j h2) hn hfit hl hdg fin_
  | true =>
    obtain ⟨hin, q4, e4, hdecl⟩ := hfi rfl
    cases h1.symm.trans e4
    exact va_putF (C := C0) (T := T0) (N := N0) hx hb hts h3 ty0 hty hnm hown hw.1 hw.2.1 hw.2.2.1 hw.2.2.2.1 q hq h1 j h2 (hts _ h4) (fun _ h9 => h9) hfin hin hdecl (hty j h2) hn hfit hl hdg fin_
theorem oF {F : tF} {G : tG} {P : tP} {k j : Nat} {v : Int32} : ∀ k', k' ≠ k → uF F k j v k' = F k' ∧ G k' = G k' ∧ P k' = P k' := fun k' h => ⟨by simp [uF, h], rfl, rfl⟩
theorem oG {F : tF} {G : tG} {P : tP} {k j : Nat} {v : Int64} : ∀ k', k' ≠ k → F k' = F k' ∧ uG G k j v k' = G k' ∧ P k' = P k' := fun k' h => ⟨rfl, by simp [uG, h], rfl⟩
theorem oP {F : tF} {G : tG} {P : tP} {k j : Nat} {v : Option Nat} : ∀ k', k' ≠ k → F k' = F k' ∧ G k' = G k' ∧ uP P k j v k' = P k' := fun k' h => ⟨rfl, rfl, by simp [uP, h]⟩
theorem p_i (j : Nat) {v : Int32} {ty0 : Nat → FieldType} {fin : Bool} (C : Cx p s m args c cc nL own) (hw : Wd E tt A s (wl E X B F G P) H locs) (hk : k ∈ X) (hK : kd k = ci) (hf : FL own index ci j) (hc : FC ci ty0) (hfn : FN ci j fin) (hfi : fin = true → meth.name = "<init>" ∧ ∃ q : vw_C, vwCl[ci]? = some q ∧ (q.2.1 j).1 = own) (ht : (ftc ci)[j]? = some 0) (hn : narrow (ty0 j) (.int v) = .int v) (hfit : fits (ty0 j) (.int v) = true) (hdg : decode cc pc = .ok (.putfield index, 3))
    (kk : ∀ (H1 : Heap) (locs1 : List Loc), Wd E tt A s (wl E X B (uF F k j v) G P) H1 locs1 → W p l e R s m args below meth c H1 locs1 cells slots Q (F0 m (pc + 3) ls rest)) : W p l e R s m args below meth c H locs cells slots Q (F0 m pc ls (.int v :: .ref (B k) :: rest)) :=
  p_any j 0 C hw hk hK hf hc hfn hfi ht hn hfit (by simp [fv, uF_s]) (fun i u h => by unfold fv; rw [uF_n F v (Or.inr h)]) oF hdg kk
theorem p_l (j : Nat) {v : Int64} {ty0 : Nat → FieldType} {fin : Bool} (C : Cx p s m args c cc nL own) (hw : Wd E tt A s (wl E X B F G P) H locs) (hk : k ∈ X) (hK : kd k = ci) (hf : FL own index ci j) (hc : FC ci ty0) (hfn : FN ci j fin) (hfi : fin = true → meth.name = "<init>" ∧ ∃ q : vw_C, vwCl[ci]? = some q ∧ (q.2.1 j).1 = own) (ht : (ftc ci)[j]? = some 1) (hn : narrow (ty0 j) (.long v) = .long v) (hfit : fits (ty0 j) (.long v) = true) (hdg : decode cc pc = .ok (.putfield index, 3))
    (kk : ∀ (H1 : Heap) (locs1 : List Loc), Wd E tt A s (wl E X B F (uG G k j v) P) H1 locs1 → W p l e R s m args below meth c H1 locs1 cells slots Q (F0 m (pc + 3) ls rest)) : W p l e R s m args below meth c H locs cells slots Q (F0 m pc ls (.long v :: .ref (B k) :: rest)) :=
  p_any j 1 C hw hk hK hf hc hfn hfi ht hn hfit (by simp [fv, uG_s]) (fun i u h => by unfold fv; rw [uG_n G v (Or.inr h)]) oG hdg kk
theorem p_r (j : Nat) {k2 : Nat} {ty0 : Nat → FieldType} {fin : Bool} (C : Cx p s m args c cc nL own) (hw : Wd E tt A s (wl E X B F G P) H locs) (hk : k ∈ X) (hK : kd k = ci) (hf : FL own index ci j) (hc : FC ci ty0) (hfn : FN ci j fin) (hfi : fin = true → meth.name = "<init>" ∧ ∃ q : vw_C, vwCl[ci]? = some q ∧ (q.2.1 j).1 = own) (ht : (ftc ci)[j]? = some 2) (hn : ∀ a, narrow (ty0 j) (.ref a) = .ref a) (hfit : ∀ a, fits (ty0 j) (.ref a) = true) (hdg : decode cc pc = .ok (.putfield index, 3))
    (kk : ∀ (H1 : Heap) (locs1 : List Loc), Wd E tt A s (wl E X B F G (uP P k j (some k2))) H1 locs1 → W p l e R s m args below meth c H1 locs1 cells slots Q (F0 m (pc + 3) ls rest)) : W p l e R s m args below meth c H locs cells slots Q (F0 m pc ls (.ref (B k2) :: .ref (B k) :: rest)) :=
  p_any j 2 C hw hk hK hf hc hfn hfi ht (hn _) (hfit _) (by simp [fv, uP_s, va_rf]) (fun i u h => by unfold fv; rw [uP_n P (some k2) (Or.inr h)]) oP hdg kk
/-- arrays -/
theorem a_i {i : Int32} (C : Cx p s m args c cc nL own) (hw : Wd E tt A s (wl E X B F G P) H locs) (hk : k ∈ X) (hK : kd k = 13) (hin : vp_in i (ln k)) (hdg : decode cc pc = .ok (.iaload, 1))
    (kk : W p l e R s m args below meth c H locs cells slots Q (F0 m (pc + 1) ls (.int (F k i.toNatClampNeg) :: rest))) : W p l e R s m args below meth c H locs cells slots Q (F0 m pc ls (.int i :: .ref (B k) :: rest)) := by
  obtain ⟨q, -, hq⟩ := wl_at (E := E) (B := B) (F := F) (G := G) (P := P) hk
  rw [cel_i hK] at hq
  exact va_iald C.1 C.2.1 hw.1 hw.2.1 q 0 hq rfl hin hdg kk
theorem a_z {i : Int32} (C : Cx p s m args c cc nL own) (hw : Wd E tt A s (wl E X B F G P) H locs) (hk : k ∈ X) (hK : kd k = 15) (hin : vp_in i (ln k)) (hdg : decode cc pc = .ok (.baload, 1))
    (kk : W p l e R s m args below meth c H locs cells slots Q (F0 m (pc + 1) ls (.int (F k i.toNatClampNeg) :: rest))) : W p l e R s m args below meth c H locs cells slots Q (F0 m pc ls (.int i :: .ref (B k) :: rest)) := by
  obtain ⟨q, -, hq⟩ := wl_at (E := E) (B := B) (F := F) (G := G) (P := P) hk
  rw [cel_z hK] at hq
  exact va_zald C.1 C.2.1 hw.1 hw.2.1 q 2 hq rfl hin hdg kk
theorem a_l {i : Int32} (C : Cx p s m args c cc nL own) (hw : Wd E tt A s (wl E X B F G P) H locs) (hk : k ∈ X) (hK : kd k = 14) (hin : vp_in i (ln k)) (hdg : decode cc pc = .ok (.laload, 1))
    (kk : W p l e R s m args below meth c H locs cells slots Q (F0 m (pc + 1) ls (.long (G k i.toNatClampNeg) :: rest))) : W p l e R s m args below meth c H locs cells slots Q (F0 m pc ls (.int i :: .ref (B k) :: rest)) := by
  obtain ⟨q, -, hq⟩ := wl_at (E := E) (B := B) (F := F) (G := G) (P := P) hk
  rw [cel_l hK] at hq
  exact va_lald C.1 C.2.1 hw.1 hw.2.1 q 1 hq rfl hin hdg kk
theorem a_q {i : Int32} {r : Nat} {cn : String} (C : Cx p s m args c cc nL own) (hw : Wd E tt A s (wl E X B F G P) H locs) (hk : k ∈ X) (hK : kd k = r) (hr : 16 ≤ r) (hcn : (tyl E)[r - 13]? = some (E.2.2 (r - 13), .object cn)) (hin : vp_in i (ln k)) (hdg : decode cc pc = .ok (.aaload, 1))
    (kk : W p l e R s m args below meth c H locs cells slots Q (F0 m (pc + 1) ls (va_rf ((P k i.toNatClampNeg).map B) :: rest))) : W p l e R s m args below meth c H locs cells slots Q (F0 m pc ls (.int i :: .ref (B k) :: rest)) := by
  obtain ⟨q, -, hq⟩ := wl_at (E := E) (B := B) (F := F) (G := G) (P := P) hk
  rw [cel_q hK hr] at hq
  exact va_aldq C.1 C.2.1 hw.1 hw.2.1 q (r - 13) hq hcn hin hdg kk
theorem s_i {i x : Int32} (C : Cx p s m args c cc nL own) (hw : Wd E tt A s (wl E X B F G P) H locs) (hk : k ∈ X) (hK : kd k = 13) (hin : vp_in i (ln k)) (hdg : decode cc pc = .ok (.iastore, 1))
    (kk : ∀ (H1 : Heap) (locs1 : List Loc), Wd E tt A s (wl E X B (uF F k i.toNatClampNeg x) G P) H1 locs1 → W p l e R s m args below meth c H1 locs1 cells slots Q (F0 m (pc + 1) ls rest)) : W p l e R s m args below meth c H locs cells slots Q (F0 m pc ls (.int x :: .int i :: .ref (B k) :: rest)) := by
  obtain ⟨q, hq1, hq⟩ := wl_at (E := E) (B := B) (F := F) (G := G) (P := P) hk
  rw [cel_i hK] at hq
  exact va_iast C.1 C.2.1 hw.1 hw.2.1 hw.2.2.1 hw.2.2.2.1 q 0 hq rfl hin hdg (fun H1 locs1 a1 a2 a3 => kk H1 locs1 (hw.set hq1 (by rw [cel_i hK]; simp [uF]) oF a1 a2 a3))
theorem s_z {i x : Int32} (C : Cx p s m args c cc nL own) (hw : Wd E tt A s (wl E X B F G P) H locs) (hk : k ∈ X) (hK : kd k = 15) (hin : vp_in i (ln k)) (hx : vp_nar .boolean x = x) (hdg : decode cc pc = .ok (.bastore, 1))
    (kk : ∀ (H1 : Heap) (locs1 : List Loc), Wd E tt A s (wl E X B (uF F k i.toNatClampNeg x) G P) H1 locs1 → W p l e R s m args below meth c H1 locs1 cells slots Q (F0 m (pc + 1) ls rest)) : W p l e R s m args below meth c H locs cells slots Q (F0 m pc ls (.int x :: .int i :: .ref (B k) :: rest)) := by
  obtain ⟨q, hq1, hq⟩ := wl_at (E := E) (B := B) (F := F) (G := G) (P := P) hk
  rw [cel_z hK] at hq
  exact va_zast C.1 C.2.1 hw.1 hw.2.1 hw.2.2.1 hw.2.2.2.1 q 2 hq rfl hin hdg (fun H1 locs1 a1 a2 a3 => kk H1 locs1 (hw.set hq1 (by rw [cel_z hK, hx]; simp [uF]) oF a1 a2 a3))
theorem s_l {i : Int32} {x : Int64} (C : Cx p s m args c cc nL own) (hw : Wd E tt A s (wl E X B F G P) H locs) (hk : k ∈ X) (hK : kd k = 14) (hin : vp_in i (ln k)) (hdg : decode cc pc = .ok (.lastore, 1))
    (kk : ∀ (H1 : Heap) (locs1 : List Loc), Wd E tt A s (wl E X B F (uG G k i.toNatClampNeg x) P) H1 locs1 → W p l e R s m args below meth c H1 locs1 cells slots Q (F0 m (pc + 1) ls rest)) : W p l e R s m args below meth c H locs cells slots Q (F0 m pc ls (.long x :: .int i :: .ref (B k) :: rest)) := by
  obtain ⟨q, hq1, hq⟩ := wl_at (E := E) (B := B) (F := F) (G := G) (P := P) hk
  rw [cel_l hK] at hq
  exact va_last C.1 C.2.1 hw.1 hw.2.1 hw.2.2.1 hw.2.2.2.1 q 1 hq rfl hin hdg (fun H1 locs1 a1 a2 a3 => kk H1 locs1 (hw.set hq1 (by rw [cel_l hK]; simp [uG]) oG a1 a2 a3))
theorem s_q {i : Int32} {r k2 ci2 : Nat} {q2 : vw_C} (C : Cx p s m args c cc nL own) (hw : Wd E tt A s (wl E X B F G P) H locs) (hk : k ∈ X) (hK : kd k = r) (hr : 16 ≤ r) (hk2 : k2 ∈ X) (hK2 : kd k2 = ci2) (hc2 : ci2 < 13) (hq2 : vwCl[ci2]? = some q2) (hcn : (tyl E)[r - 13]? = some (E.2.2 (r - 13), .object q2.1)) (hin : vp_in i (ln k)) (hdg : decode cc pc = .ok (.aastore, 1))
    (kk : ∀ (H1 : Heap) (locs1 : List Loc), Wd E tt A s (wl E X B F G (uP P k i.toNatClampNeg (some k2))) H1 locs1 → W p l e R s m args below meth c H1 locs1 cells slots Q (F0 m (pc + 1) ls rest)) : W p l e R s m args below meth c H locs cells slots Q (F0 m pc ls (.ref (B k2) :: .int i :: .ref (B k) :: rest)) := by
  obtain ⟨q, hq1, hq⟩ := wl_at (E := E) (B := B) (F := F) (G := G) (P := P) hk
  obtain ⟨q3, hq3, hq4⟩ := wl_at (E := E) (B := B) (F := F) (G := G) (P := P) hk2
  rw [cel_q hK hr] at hq
  rw [cel_o hK2 hc2] at hq4
  refine va_astq C.1 C.2.1 hw.1 hw.2.1 hw.2.2.1 hw.2.2.2.1 q (r - 13) q3 ci2 hq hcn hq4 hq2 hin hdg (fun H1 locs1 a1 a2 a3 => kk H1 locs1 (hw.set hq1 ?_ oP a1 a2 a3))
  rw [cel_q hK hr]
  congr 7
  funext j
  by_cases hj : j = i.toNatClampNeg
  · subst hj
    simp [uP, va_up]
  · simp [uP, va_up, hj]
/-- an array's length -/
theorem a_n {v : Int32} (C : Cx p s m args c cc nL own) (hw : Wd E tt A s (wl E X B F G P) H locs) (hk : k ∈ X) (hK : 13 ≤ kd k) (hK2 : kd k < 22) (hv : Int32.ofNat (ln k) = v) (hdg : decode cc pc = .ok (.arraylength, 1))
    (kk : W p l e R s m args below meth c H locs cells slots Q (F0 m (pc + 1) ls (.int v :: rest))) : W p l e R s m args below meth c H locs cells slots Q (F0 m pc ls (.ref (B k) :: rest)) := by
  obtain ⟨q, -, hq⟩ := wl_at (E := E) (B := B) (F := F) (G := G) (P := P) hk
  have ht : ∃ ty, (tyl E)[kd k - 13]? = some (E.2.2 (kd k - 13), ty) := by
    generalize kd k = r at hK hK2
    rcases (show r = 13 ∨ r = 14 ∨ r = 15 ∨ r = 16 ∨ r = 17 ∨ r = 18 ∨ r = 19 ∨ r = 20 ∨ r = 21 by omega) with h | h | h | h | h | h | h | h | h <;> subst h <;> exact ⟨_, rfl⟩
  obtain ⟨ty, ht⟩ := ht
  have hc : ∃ x, cel E B F G P k = .inl (E.2.2 (kd k - 13), ln k, x) := by
    by_cases h1 : kd k = 14
    · exact ⟨_, by rw [cel_l h1, h1]⟩
    · by_cases h2 : kd k < 16
      · exact ⟨.inl (F k), by simp only [cel, show ¬ kd k < 13 by omega, h1, h2, if_true, if_false]⟩
      · exact ⟨_, cel_q rfl (by omega)⟩
  obtain ⟨x, hc⟩ := hc
  rw [hc] at hq
  exact va_alen C.1 C.2.1 hw.1 hw.2.1 q (kd k - 13) hq ht hv hdg kk
/-- the receiver of a call -/
theorem rcv {q2 : vw_C} (hw : Wd E tt A s (wl E X B F G P) H locs) (hk : k ∈ X) (hK : kd k = ci) (hc : ci < 13) (hq2 : vwCl[ci]? = some q2) : ∃ cellB : Cell, H[B k]? = some cellB ∧ cellB.vm.isStatics = false ∧ s.vm.findClass q2.1 = some cellB.cls := by
  obtain ⟨q, -, hq⟩ := wl_at (E := E) (B := B) (F := F) (G := G) (P := P) hk
  rw [cel_o hK hc] at hq
  exact va_recv hw.1 hw.2.1 hq2 hq
end ROWS
end
section
/-! rows by natural indices; switches; comparing longs -/
theorem lnM_lt (i : Nat) : lnM.getD i 0 < 1000 := by
  by_cases h : i < 49
  · exact (by decide +kernel : ∀ j : Fin 49, lnM.getD j.val 0 < 1000) ⟨i, h⟩
  · have h1 : lnM[i]? = none := List.getElem?_eq_none (by show 49 ≤ i; omega)
    simp [List.getD, h1]
theorem ln_lt (k : Nat) : ln k < 1000 := by
  have := lnM_lt (k - 101)
  unfold ln
  repeat' split
  all_goals omega
section NROWS
variable {p : Program} {l : Launch} {e : Env} {R : Room} {s : State} {m : MethodId} {args : Array Value} {below : List Frame} {meth : Method} {c : Code} {H : Heap} {locs : List Loc} {cells slots : Nat} {Q : State → Prop}
variable {cc : ByteArray} {pc : Nat} {ls : Array Slot} {rest : List Value} {E : cE} {tt : Nat × Nat × Nat} {A : Nat → Prop} {own : String} {nL : Nat} {X : List Nat} {B : Nat → Nat} {F : tF} {G : tG} {P : tP} {k index ci : Nat}
theorem n_cl {n k : Nat} (h : n < ln k) : (nI n).toNatClampNeg = n := nI_clamp (by have := ln_lt k; omega)
theorem n_in {n k : Nat} (h : n < ln k) : vp_in (nI n) (ln k) := vp_in_nI h (by have := ln_lt k; omega)
theorem n_i (n : Nat) {i : Int32} (C : Cx p s m args c cc nL own) (hw : Wd E tt A s (wl E X B F G P) H locs) (hk : k ∈ X) (hK : kd k = 13) (hi : i = nI n) (hn : n < ln k) (hdg : decode cc pc = .ok (.iaload, 1))
    (kk : W p l e R s m args below meth c H locs cells slots Q (F0 m (pc + 1) ls (.int (F k n) :: rest))) : W p l e R s m args below meth c H locs cells slots Q (F0 m pc ls (.int i :: .ref (B k) :: rest)) := by
  subst hi
  exact a_i C hw hk hK (n_in hn) hdg (by rw [n_cl hn]; exact kk)
theorem n_z (n : Nat) {i : Int32} (C : Cx p s m args c cc nL own) (hw : Wd E tt A s (wl E X B F G P) H locs) (hk : k ∈ X) (hK : kd k = 15) (hi : i = nI n) (hn : n < ln k) (hdg : decode cc pc = .ok (.baload, 1))
    (kk : W p l e R s m args below meth c H locs cells slots Q (F0 m (pc + 1) ls (.int (F k n) :: rest))) : W p l e R s m args below meth c H locs cells slots Q (F0 m pc ls (.int i :: .ref (B k) :: rest)) := by
  subst hi
  exact a_z C hw hk hK (n_in hn) hdg (by rw [n_cl hn]; exact kk)
theorem n_l (n : Nat) {i : Int32} (C : Cx p s m args c cc nL own) (hw : Wd E tt A s (wl E X B F G P) H locs) (hk : k ∈ X) (hK : kd k = 14) (hi : i = nI n) (hn : n < ln k) (hdg : decode cc pc = .ok (.laload, 1))
    (kk : W p l e R s m args below meth c H locs cells slots Q (F0 m (pc + 1) ls (.long (G k n) :: rest))) : W p l e R s m args below meth c H locs cells slots Q (F0 m pc ls (.int i :: .ref (B k) :: rest)) := by
  subst hi
  exact a_l C hw hk hK (n_in hn) hdg (by rw [n_cl hn]; exact kk)
theorem n_q (n : Nat) {i : Int32} {r : Nat} {cn : String} (C : Cx p s m args c cc nL own) (hw : Wd E tt A s (wl E X B F G P) H locs) (hk : k ∈ X) (hK : kd k = r) (hr : 16 ≤ r) (hcn : (tyl E)[r - 13]? = some (E.2.2 (r - 13), .object cn)) (hi : i = nI n) (hn : n < ln k) (hdg : decode cc pc = .ok (.aaload, 1))
    (kk : W p l e R s m args below meth c H locs cells slots Q (F0 m (pc + 1) ls (va_rf ((P k n).map B) :: rest))) : W p l e R s m args below meth c H locs cells slots Q (F0 m pc ls (.int i :: .ref (B k) :: rest)) := by
  subst hi
  exact a_q C hw hk hK hr hcn (n_in hn) hdg (by rw [n_cl hn]; exact kk)
theorem n_r (n : Nat) {i : Int32} {r k2 : Nat} {cn : String} (C : Cx p s m args c cc nL own) (hw : Wd E tt A s (wl E X B F G P) H locs) (hk : k ∈ X) (hK : kd k = r) (hr : 16 ≤ r) (hcn : (tyl E)[r - 13]? = some (E.2.2 (r - 13), .object cn)) (hi : i = nI n) (hn : n < ln k) (hp : P k n = some k2) (hdg : decode cc pc = .ok (.aaload, 1))
    (kk : W p l e R s m args below meth c H locs cells slots Q (F0 m (pc + 1) ls (.ref (B k2) :: rest))) : W p l e R s m args below meth c H locs cells slots Q (F0 m pc ls (.int i :: .ref (B k) :: rest)) := by
  refine n_q n C hw hk hK hr hcn hi hn hdg ?_
  rw [hp]
  exact kk
theorem t_i (n : Nat) {i x : Int32} (C : Cx p s m args c cc nL own) (hw : Wd E tt A s (wl E X B F G P) H locs) (hk : k ∈ X) (hK : kd k = 13) (hi : i = nI n) (hn : n < ln k) (hdg : decode cc pc = .ok (.iastore, 1))
    (kk : ∀ (H1 : Heap) (locs1 : List Loc), Wd E tt A s (wl E X B (uF F k n x) G P) H1 locs1 → W p l e R s m args below meth c H1 locs1 cells slots Q (F0 m (pc + 1) ls rest)) : W p l e R s m args below meth c H locs cells slots Q (F0 m pc ls (.int x :: .int i :: .ref (B k) :: rest)) := by
  subst hi
  exact s_i C hw hk hK (n_in hn) hdg (by rw [n_cl hn]; exact kk)
theorem t_z (n : Nat) {i x : Int32} (C : Cx p s m args c cc nL own) (hw : Wd E tt A s (wl E X B F G P) H locs) (hk : k ∈ X) (hK : kd k = 15) (hi : i = nI n) (hn : n < ln k) (hx : vp_nar .boolean x = x) (hdg : decode cc pc = .ok (.bastore, 1))
    (kk : ∀ (H1 : Heap) (locs1 : List Loc), Wd E tt A s (wl E X B (uF F k n x) G P) H1 locs1 → W p l e R s m args below meth c H1 locs1 cells slots Q (F0 m (pc + 1) ls rest)) : W p l e R s m args below meth c H locs cells slots Q (F0 m pc ls (.int x :: .int i :: .ref (B k) :: rest)) := by
  subst hi
  exact s_z C hw hk hK (n_in hn) hx hdg (by rw [n_cl hn]; exact kk)
theorem t_l (n : Nat) {i : Int32} {x : Int64} (C : Cx p s m args c cc nL own) (hw : Wd E tt A s (wl E X B F G P) H locs) (hk : k ∈ X) (hK : kd k = 14) (hi : i = nI n) (hn : n < ln k) (hdg : decode cc pc = .ok (.lastore, 1))
    (kk : ∀ (H1 : Heap) (locs1 : List Loc), Wd E tt A s (wl E X B F (uG G k n x) P) H1 locs1 → W p l e R s m args below meth c H1 locs1 cells slots Q (F0 m (pc + 1) ls rest)) : W p l e R s m args below meth c H locs cells slots Q (F0 m pc ls (.long x :: .int i :: .ref (B k) :: rest)) := by
  subst hi
  exact s_l C hw hk hK (n_in hn) hdg (by rw [n_cl hn]; exact kk)
theorem t_q (n : Nat) {i : Int32} {r k2 ci2 : Nat} {q2 : vw_C} (C : Cx p s m args c cc nL own) (hw : Wd E tt A s (wl E X B F G P) H locs) (hk : k ∈ X) (hK : kd k = r) (hr : 16 ≤ r) (hk2 : k2 ∈ X) (hK2 : kd k2 = ci2) (hc2 : ci2 < 13) (hq2 : vwCl[ci2]? = some q2) (hcn : (tyl E)[r - 13]? = some (E.2.2 (r - 13), .object q2.1)) (hi : i = nI n) (hn : n < ln k) (hdg : decode cc pc = .ok (.aastore, 1))
    (kk : ∀ (H1 : Heap) (locs1 : List Loc), Wd E tt A s (wl E X B F G (uP P k n (some k2))) H1 locs1 → W p l e R s m args below meth c H1 locs1 cells slots Q (F0 m (pc + 1) ls rest)) : W p l e R s m args below meth c H locs cells slots Q (F0 m pc ls (.ref (B k2) :: .int i :: .ref (B k) :: rest)) := by
  subst hi
  exact s_q C hw hk hK hr hk2 hK2 hc2 hq2 hcn (n_in hn) hdg (by rw [n_cl hn]; exact kk)
theorem tp_i {x y : Int32} (h : x = y) (kk : W p l e R s m args below meth c H locs cells slots Q (F0 m pc ls (.int y :: rest))) : W p l e R s m args below meth c H locs cells slots Q (F0 m pc ls (.int x :: rest)) := by
  rw [h]
  exact kk
theorem tp_l {x y : Int64} (h : x = y) (kk : W p l e R s m args below meth c H locs cells slots Q (F0 m pc ls (.long y :: rest))) : W p l e R s m args below meth c H locs cells slots Q (F0 m pc ls (.long x :: rest)) := by
  rw [h]
  exact kk
end NROWS
theorem i_eq {x y : Int32} (h : x.toInt = y.toInt) : x = y := Int32.toInt_inj.mp h
theorem sw_3 (x : Int32) : x = 0 ∨ x = 1 ∨ x = 2 ∨ (x.toInt < 0 ∨ 2 < x.toInt) := by
  rcases (show x.toInt = 0 ∨ x.toInt = 1 ∨ x.toInt = 2 ∨ (x.toInt < 0 ∨ 2 < x.toInt) by omega) with h | h | h | h
  · exact Or.inl (i_eq h)
  · exact Or.inr (Or.inl (i_eq h))
  · exact Or.inr (Or.inr (Or.inl (i_eq h)))
  · exact Or.inr (Or.inr (Or.inr h))
theorem sw_5 (x : Int32) : x = 0 ∨ x = 1 ∨ x = 2 ∨ x = 3 ∨ x = 4 ∨ (x.toInt < 0 ∨ 4 < x.toInt) := by
  rcases (show x.toInt = 0 ∨ x.toInt = 1 ∨ x.toInt = 2 ∨ x.toInt = 3 ∨ x.toInt = 4 ∨ (x.toInt < 0 ∨ 4 < x.toInt) by omega) with h | h | h | h | h | h
  · exact Or.inl (i_eq h)
  · exact Or.inr (Or.inl (i_eq h))
  · exact Or.inr (Or.inr (Or.inl (i_eq h)))
  · exact Or.inr (Or.inr (Or.inr (Or.inl (i_eq h))))
  · exact Or.inr (Or.inr (Or.inr (Or.inr (Or.inl (i_eq h)))))
  · exact Or.inr (Or.inr (Or.inr (Or.inr (Or.inr h))))
theorem sw_7 (x : Int32) : x = 0 ∨ x = 1 ∨ x = 2 ∨ x = 3 ∨ x = 4 ∨ x = 5 ∨ x = 6 ∨ (x.toInt < 0 ∨ 6 < x.toInt) := by
  rcases (show x.toInt = 0 ∨ x.toInt = 1 ∨ x.toInt = 2 ∨ x.toInt = 3 ∨ x.toInt = 4 ∨ x.toInt = 5 ∨ x.toInt = 6 ∨ (x.toInt < 0 ∨ 6 < x.toInt) by omega) with h | h | h | h | h | h | h | h
  · exact Or.inl (i_eq h)
  · exact Or.inr (Or.inl (i_eq h))
  · exact Or.inr (Or.inr (Or.inl (i_eq h)))
  · exact Or.inr (Or.inr (Or.inr (Or.inl (i_eq h))))
  · exact Or.inr (Or.inr (Or.inr (Or.inr (Or.inl (i_eq h)))))
  · exact Or.inr (Or.inr (Or.inr (Or.inr (Or.inr (Or.inl (i_eq h))))))
  · exact Or.inr (Or.inr (Or.inr (Or.inr (Or.inr (Or.inr (Or.inl (i_eq h)))))))
  · exact Or.inr (Or.inr (Or.inr (Or.inr (Or.inr (Or.inr (Or.inr h))))))
theorem kd_metal {i : Nat} (h : i < 4) : kd (3 + i) = 4 := by
  rcases (show i = 0 ∨ i = 1 ∨ i = 2 ∨ i = 3 by omega) with h | h | h | h <;> subst h <;> rfl
theorem kd_puller {i : Nat} (h : i < 3) : kd (8 + i) = 8 := by
  rcases (show i = 0 ∨ i = 1 ∨ i = 2 by omega) with h | h | h <;> subst h <;> rfl
theorem kd_plate {i : Nat} (h : i < 4) : kd (12 + i) = 7 := by
  rcases (show i = 0 ∨ i = 1 ∨ i = 2 ∨ i = 3 by omega) with h | h | h | h <;> subst h <;> rfl
theorem kd_harr {i : Nat} (h : i < 4) : kd (16 + i) = 17 := by
  rcases (show i = 0 ∨ i = 1 ∨ i = 2 ∨ i = 3 by omega) with h | h | h | h <;> subst h <;> rfl
theorem ln_harr {i : Nat} (h : i < 4) : ln (16 + i) = 8 := by
  rcases (show i = 0 ∨ i = 1 ∨ i = 2 ∨ i = 3 by omega) with h | h | h | h <;> subst h <;> rfl
theorem kd_hole {i : Nat} (h : i < 32) : kd (20 + i) = 3 := (by decide +kernel : ∀ j : Fin 32, kd (20 + j.val) = 3) ⟨i, h⟩
theorem kd_coil {i : Nat} (h : i < 16) : kd (53 + i) = 0 := (by decide +kernel : ∀ j : Fin 16, kd (53 + j.val) = 0) ⟨i, h⟩
theorem kd_order {i : Nat} (h : i < 6) : kd (70 + i) = 6 := (by decide +kernel : ∀ j : Fin 6, kd (70 + j.val) = 6) ⟨i, h⟩
/-- an int between bounds is a small natural number -/
theorem n_of {x : Int32} {n : Nat} (h0 : 0 ≤ x) (h1 : x ≤ nI n) (hn : n < 2 ^ 31) : ∃ j : Nat, j ≤ n ∧ x = nI j := nI_of2 (M := nI n) (nI_toInt hn) (by rw [Int32.not_lt]; exact h0) h1
/-- what the reference's object holds: its arrays are there -/
def inM (k : Nat) : Bool := decide (k = 100) || (decide (101 ≤ k) && decide (k < 150) && decide ((ftc 12).getD (k - 101) 0 = 2))
def RM (X : List Nat) (P : tP) : Prop := (∀ k, inM k = true → k ∈ X) ∧ ∀ j, inM (101 + j) = true → P 100 j = some (101 + j)
theorem RM.m {X : List Nat} {P : tP} (h : RM X P) {k : Nat} (hk : inM k = true) : k ∈ X := h.1 k hk
theorem RM.p {X : List Nat} {P : tP} (h : RM X P) (j : Nat) (hk : inM (101 + j) = true) : P 100 j = some (101 + j) := h.2 j hk
end
section
theorem TT_list (ws : List Cond) (ps : List Nat) (hp : ws = ps.filterMap (fun i => lw_tbl[i]?)) (hg : ws.all goodWord = true) : ∀ w ∈ ws, w ∈ TT := by
  intro w hw
  have h1 := List.all_eq_true.mp hg w hw
  rw [hp] at hw
  obtain ⟨i, -, hi⟩ := List.mem_filterMap.mp hw
  exact TT_of i hi h1
theorem ux_0 : ∀ w ∈ u_ws RX0 TX0 7, w ∈ TT := TT_list _ [467, 469, 471, 473, 475, 477, 479] (by decide +kernel) (by decide +kernel)
theorem fc_0 : FC 0 tyX0 := ⟨(RX0, TX0, 7), rfl, nmX0, tyX0_ok, rfl⟩
theorem fn_0_0 : FN 0 0 true := ⟨(RX0, TX0, 7), rfl, rfl⟩
theorem fn_0_1 : FN 0 1 false := ⟨(RX0, TX0, 7), rfl, rfl⟩
theorem fn_0_2 : FN 0 2 false := ⟨(RX0, TX0, 7), rfl, rfl⟩
theorem fn_0_3 : FN 0 3 false := ⟨(RX0, TX0, 7), rfl, rfl⟩
theorem fn_0_4 : FN 0 4 false := ⟨(RX0, TX0, 7), rfl, rfl⟩
theorem fn_0_5 : FN 0 5 false := ⟨(RX0, TX0, 7), rfl, rfl⟩
theorem fn_0_6 : FN 0 6 false := ⟨(RX0, TX0, 7), rfl, rfl⟩
theorem ux_1 : ∀ w ∈ u_ws RX1 TX1 6, w ∈ TT := TT_list _ [202, 204, 206, 208, 210, 212] (by decide +kernel) (by decide +kernel)
theorem fc_1 : FC 1 tyX1 := ⟨(RX1, TX1, 6), rfl, nmX1, tyX1_ok, rfl⟩
theorem fn_1_0 : FN 1 0 true := ⟨(RX1, TX1, 6), rfl, rfl⟩
theorem fn_1_1 : FN 1 1 true := ⟨(RX1, TX1, 6), rfl, rfl⟩
theorem fn_1_2 : FN 1 2 true := ⟨(RX1, TX1, 6), rfl, rfl⟩
theorem fn_1_3 : FN 1 3 true := ⟨(RX1, TX1, 6), rfl, rfl⟩
theorem fn_1_4 : FN 1 4 false := ⟨(RX1, TX1, 6), rfl, rfl⟩
theorem fn_1_5 : FN 1 5 false := ⟨(RX1, TX1, 6), rfl, rfl⟩
theorem ux_2 : ∀ w ∈ u_ws RX2 TX2 5, w ∈ TT := TT_list _ [142, 144, 146, 148, 150] (by decide +kernel) (by decide +kernel)
theorem fc_2 : FC 2 tyX2 := ⟨(RX2, TX2, 5), rfl, nmX2, tyX2_ok, rfl⟩
theorem fn_2_0 : FN 2 0 true := ⟨(RX2, TX2, 5), rfl, rfl⟩
theorem fn_2_1 : FN 2 1 false := ⟨(RX2, TX2, 5), rfl, rfl⟩
theorem fn_2_2 : FN 2 2 false := ⟨(RX2, TX2, 5), rfl, rfl⟩
theorem fn_2_3 : FN 2 3 false := ⟨(RX2, TX2, 5), rfl, rfl⟩
theorem fn_2_4 : FN 2 4 false := ⟨(RX2, TX2, 5), rfl, rfl⟩
theorem ux_3 : ∀ w ∈ u_ws RX3 TX3 3, w ∈ TT := TT_list _ [405, 407, 409] (by decide +kernel) (by decide +kernel)
theorem fc_3 : FC 3 tyX3 := ⟨(RX3, TX3, 3), rfl, nmX3, tyX3_ok, rfl⟩
theorem fn_3_0 : FN 3 0 false := ⟨(RX3, TX3, 3), rfl, rfl⟩
theorem fn_3_1 : FN 3 1 false := ⟨(RX3, TX3, 3), rfl, rfl⟩
theorem fn_3_2 : FN 3 2 false := ⟨(RX3, TX3, 3), rfl, rfl⟩
theorem ux_4 : ∀ w ∈ u_ws RX4 TX4 6, w ∈ TT := TT_list _ [234, 236, 238, 240, 242, 244] (by decide +kernel) (by decide +kernel)
theorem fc_4 : FC 4 tyX4 := ⟨(RX4, TX4, 6), rfl, nmX4, tyX4_ok, rfl⟩
theorem fn_4_0 : FN 4 0 true := ⟨(RX4, TX4, 6), rfl, rfl⟩
theorem fn_4_1 : FN 4 1 false := ⟨(RX4, TX4, 6), rfl, rfl⟩
theorem fn_4_2 : FN 4 2 false := ⟨(RX4, TX4, 6), rfl, rfl⟩
theorem fn_4_3 : FN 4 3 false := ⟨(RX4, TX4, 6), rfl, rfl⟩
theorem fn_4_4 : FN 4 4 false := ⟨(RX4, TX4, 6), rfl, rfl⟩
theorem fn_4_5 : FN 4 5 false := ⟨(RX4, TX4, 6), rfl, rfl⟩
theorem ux_5 : ∀ w ∈ u_ws RX5 TX5 3, w ∈ TT := TT_list _ [118, 120, 122] (by decide +kernel) (by decide +kernel)
theorem fc_5 : FC 5 tyX5 := ⟨(RX5, TX5, 3), rfl, nmX5, tyX5_ok, rfl⟩
theorem fn_5_0 : FN 5 0 true := ⟨(RX5, TX5, 3), rfl, rfl⟩
theorem fn_5_1 : FN 5 1 true := ⟨(RX5, TX5, 3), rfl, rfl⟩
theorem fn_5_2 : FN 5 2 false := ⟨(RX5, TX5, 3), rfl, rfl⟩
theorem ux_6 : ∀ w ∈ u_ws RX6 TX6 5, w ∈ TT := TT_list _ [658, 660, 662, 664, 666] (by decide +kernel) (by decide +kernel)
theorem fc_6 : FC 6 tyX6 := ⟨(RX6, TX6, 5), rfl, nmX6, tyX6_ok, rfl⟩
theorem fn_6_0 : FN 6 0 true := ⟨(RX6, TX6, 5), rfl, rfl⟩
theorem fn_6_1 : FN 6 1 true := ⟨(RX6, TX6, 5), rfl, rfl⟩
theorem fn_6_2 : FN 6 2 true := ⟨(RX6, TX6, 5), rfl, rfl⟩
theorem fn_6_3 : FN 6 3 true := ⟨(RX6, TX6, 5), rfl, rfl⟩
theorem fn_6_4 : FN 6 4 false := ⟨(RX6, TX6, 5), rfl, rfl⟩
theorem ux_7 : ∀ w ∈ u_ws RX7 TX7 2, w ∈ TT := TT_list _ [276, 278] (by decide +kernel) (by decide +kernel)
theorem fc_7 : FC 7 tyX7 := ⟨(RX7, TX7, 2), rfl, nmX7, tyX7_ok, rfl⟩
theorem fn_7_0 : FN 7 0 true := ⟨(RX7, TX7, 2), rfl, rfl⟩
theorem fn_7_1 : FN 7 1 false := ⟨(RX7, TX7, 2), rfl, rfl⟩
theorem ux_8 : ∀ w ∈ u_ws RX8 TX8 4, w ∈ TT := TT_list _ [258, 260, 262, 264] (by decide +kernel) (by decide +kernel)
theorem fc_8 : FC 8 tyX8 := ⟨(RX8, TX8, 4), rfl, nmX8, tyX8_ok, rfl⟩
theorem fn_8_0 : FN 8 0 true := ⟨(RX8, TX8, 4), rfl, rfl⟩
theorem fn_8_1 : FN 8 1 false := ⟨(RX8, TX8, 4), rfl, rfl⟩
theorem fn_8_2 : FN 8 2 false := ⟨(RX8, TX8, 4), rfl, rfl⟩
theorem fn_8_3 : FN 8 3 false := ⟨(RX8, TX8, 4), rfl, rfl⟩
theorem ux_9 : ∀ w ∈ u_ws RX9 TX9 9, w ∈ TT := TT_list _ [169, 171, 173, 175, 177, 179, 181, 183, 185] (by decide +kernel) (by decide +kernel)
theorem fc_9 : FC 9 tyX9 := ⟨(RX9, TX9, 9), rfl, nmX9, tyX9_ok, rfl⟩
theorem fn_9_0 : FN 9 0 true := ⟨(RX9, TX9, 9), rfl, rfl⟩
theorem fn_9_1 : FN 9 1 true := ⟨(RX9, TX9, 9), rfl, rfl⟩
theorem fn_9_2 : FN 9 2 true := ⟨(RX9, TX9, 9), rfl, rfl⟩
theorem fn_9_3 : FN 9 3 false := ⟨(RX9, TX9, 9), rfl, rfl⟩
theorem fn_9_4 : FN 9 4 false := ⟨(RX9, TX9, 9), rfl, rfl⟩
theorem fn_9_5 : FN 9 5 false := ⟨(RX9, TX9, 9), rfl, rfl⟩
theorem fn_9_6 : FN 9 6 false := ⟨(RX9, TX9, 9), rfl, rfl⟩
theorem fn_9_7 : FN 9 7 false := ⟨(RX9, TX9, 9), rfl, rfl⟩
theorem fn_9_8 : FN 9 8 false := ⟨(RX9, TX9, 9), rfl, rfl⟩
theorem ux_10 : ∀ w ∈ u_ws RX10 TX10 6, w ∈ TT := TT_list _ [85, 87, 89, 91, 93, 95] (by decide +kernel) (by decide +kernel)
theorem fc_10 : FC 10 tyX10 := ⟨(RX10, TX10, 6), rfl, nmX10, tyX10_ok, rfl⟩
theorem fn_10_0 : FN 10 0 false := ⟨(RX10, TX10, 6), rfl, rfl⟩
theorem fn_10_1 : FN 10 1 false := ⟨(RX10, TX10, 6), rfl, rfl⟩
theorem fn_10_2 : FN 10 2 false := ⟨(RX10, TX10, 6), rfl, rfl⟩
theorem fn_10_3 : FN 10 3 false := ⟨(RX10, TX10, 6), rfl, rfl⟩
theorem fn_10_4 : FN 10 4 false := ⟨(RX10, TX10, 6), rfl, rfl⟩
theorem fn_10_5 : FN 10 5 false := ⟨(RX10, TX10, 6), rfl, rfl⟩
theorem ux_11 : ∀ w ∈ u_ws RX11 TX11 19, w ∈ TT := TT_list _ [300, 302, 304, 306, 308, 310, 312, 314, 316, 318, 320, 322, 324, 326, 328, 330, 332, 334, 336] (by decide +kernel) (by decide +kernel)
theorem fc_11 : FC 11 tyX11 := ⟨(RX11, TX11, 19), rfl, nmX11, tyX11_ok, rfl⟩
theorem fn_11_0 : FN 11 0 true := ⟨(RX11, TX11, 19), rfl, rfl⟩
theorem fn_11_1 : FN 11 1 true := ⟨(RX11, TX11, 19), rfl, rfl⟩
theorem fn_11_2 : FN 11 2 true := ⟨(RX11, TX11, 19), rfl, rfl⟩
theorem fn_11_3 : FN 11 3 true := ⟨(RX11, TX11, 19), rfl, rfl⟩
theorem fn_11_4 : FN 11 4 true := ⟨(RX11, TX11, 19), rfl, rfl⟩
theorem fn_11_5 : FN 11 5 true := ⟨(RX11, TX11, 19), rfl, rfl⟩
theorem fn_11_6 : FN 11 6 true := ⟨(RX11, TX11, 19), rfl, rfl⟩
theorem fn_11_7 : FN 11 7 true := ⟨(RX11, TX11, 19), rfl, rfl⟩
theorem fn_11_8 : FN 11 8 true := ⟨(RX11, TX11, 19), rfl, rfl⟩
theorem fn_11_9 : FN 11 9 true := ⟨(RX11, TX11, 19), rfl, rfl⟩
theorem fn_11_10 : FN 11 10 false := ⟨(RX11, TX11, 19), rfl, rfl⟩
theorem fn_11_11 : FN 11 11 false := ⟨(RX11, TX11, 19), rfl, rfl⟩
theorem fn_11_12 : FN 11 12 false := ⟨(RX11, TX11, 19), rfl, rfl⟩
theorem fn_11_13 : FN 11 13 false := ⟨(RX11, TX11, 19), rfl, rfl⟩
theorem fn_11_14 : FN 11 14 false := ⟨(RX11, TX11, 19), rfl, rfl⟩
theorem fn_11_15 : FN 11 15 false := ⟨(RX11, TX11, 19), rfl, rfl⟩
theorem fn_11_16 : FN 11 16 false := ⟨(RX11, TX11, 19), rfl, rfl⟩
theorem fn_11_17 : FN 11 17 false := ⟨(RX11, TX11, 19), rfl, rfl⟩
theorem fn_11_18 : FN 11 18 false := ⟨(RX11, TX11, 19), rfl, rfl⟩
theorem ux_12 : ∀ w ∈ u_ws RX12 TX12 49, w ∈ TT := TT_list _ [874, 876, 878, 880, 882, 884, 886, 888, 890, 892, 894, 896, 898, 900, 902, 904, 906, 908, 910, 912, 914, 916, 918, 920, 922, 924, 926, 928, 930, 932, 934, 936, 938, 940, 942, 944, 946, 948, 950, 952, 954, 956, 958, 960, 962, 964, 966, 968, 970] (by decide +kernel) (by decide +kernel)
theorem fc_12 : FC 12 tyX12 := ⟨(RX12, TX12, 49), rfl, nmX12, tyX12_ok, rfl⟩
theorem fn_12_0 : FN 12 0 true := ⟨(RX12, TX12, 49), rfl, rfl⟩
theorem fn_12_1 : FN 12 1 true := ⟨(RX12, TX12, 49), rfl, rfl⟩
theorem fn_12_2 : FN 12 2 true := ⟨(RX12, TX12, 49), rfl, rfl⟩
theorem fn_12_3 : FN 12 3 true := ⟨(RX12, TX12, 49), rfl, rfl⟩
theorem fn_12_4 : FN 12 4 true := ⟨(RX12, TX12, 49), rfl, rfl⟩
theorem fn_12_5 : FN 12 5 true := ⟨(RX12, TX12, 49), rfl, rfl⟩
theorem fn_12_6 : FN 12 6 true := ⟨(RX12, TX12, 49), rfl, rfl⟩
theorem fn_12_7 : FN 12 7 true := ⟨(RX12, TX12, 49), rfl, rfl⟩
theorem fn_12_8 : FN 12 8 true := ⟨(RX12, TX12, 49), rfl, rfl⟩
theorem fn_12_9 : FN 12 9 true := ⟨(RX12, TX12, 49), rfl, rfl⟩
theorem fn_12_10 : FN 12 10 true := ⟨(RX12, TX12, 49), rfl, rfl⟩
theorem fn_12_11 : FN 12 11 true := ⟨(RX12, TX12, 49), rfl, rfl⟩
theorem fn_12_12 : FN 12 12 true := ⟨(RX12, TX12, 49), rfl, rfl⟩
theorem fn_12_13 : FN 12 13 false := ⟨(RX12, TX12, 49), rfl, rfl⟩
theorem fn_12_14 : FN 12 14 true := ⟨(RX12, TX12, 49), rfl, rfl⟩
theorem fn_12_15 : FN 12 15 true := ⟨(RX12, TX12, 49), rfl, rfl⟩
theorem fn_12_16 : FN 12 16 true := ⟨(RX12, TX12, 49), rfl, rfl⟩
theorem fn_12_17 : FN 12 17 true := ⟨(RX12, TX12, 49), rfl, rfl⟩
theorem fn_12_18 : FN 12 18 true := ⟨(RX12, TX12, 49), rfl, rfl⟩
theorem fn_12_19 : FN 12 19 true := ⟨(RX12, TX12, 49), rfl, rfl⟩
theorem fn_12_20 : FN 12 20 true := ⟨(RX12, TX12, 49), rfl, rfl⟩
theorem fn_12_21 : FN 12 21 false := ⟨(RX12, TX12, 49), rfl, rfl⟩
theorem fn_12_22 : FN 12 22 true := ⟨(RX12, TX12, 49), rfl, rfl⟩
theorem fn_12_23 : FN 12 23 true := ⟨(RX12, TX12, 49), rfl, rfl⟩
theorem fn_12_24 : FN 12 24 true := ⟨(RX12, TX12, 49), rfl, rfl⟩
theorem fn_12_25 : FN 12 25 true := ⟨(RX12, TX12, 49), rfl, rfl⟩
theorem fn_12_26 : FN 12 26 true := ⟨(RX12, TX12, 49), rfl, rfl⟩
theorem fn_12_27 : FN 12 27 false := ⟨(RX12, TX12, 49), rfl, rfl⟩
theorem fn_12_28 : FN 12 28 true := ⟨(RX12, TX12, 49), rfl, rfl⟩
theorem fn_12_29 : FN 12 29 true := ⟨(RX12, TX12, 49), rfl, rfl⟩
theorem fn_12_30 : FN 12 30 false := ⟨(RX12, TX12, 49), rfl, rfl⟩
theorem fn_12_31 : FN 12 31 false := ⟨(RX12, TX12, 49), rfl, rfl⟩
theorem fn_12_32 : FN 12 32 false := ⟨(RX12, TX12, 49), rfl, rfl⟩
theorem fn_12_33 : FN 12 33 false := ⟨(RX12, TX12, 49), rfl, rfl⟩
theorem fn_12_34 : FN 12 34 false := ⟨(RX12, TX12, 49), rfl, rfl⟩
theorem fn_12_35 : FN 12 35 false := ⟨(RX12, TX12, 49), rfl, rfl⟩
theorem fn_12_36 : FN 12 36 true := ⟨(RX12, TX12, 49), rfl, rfl⟩
theorem fn_12_37 : FN 12 37 true := ⟨(RX12, TX12, 49), rfl, rfl⟩
theorem fn_12_38 : FN 12 38 true := ⟨(RX12, TX12, 49), rfl, rfl⟩
theorem fn_12_39 : FN 12 39 true := ⟨(RX12, TX12, 49), rfl, rfl⟩
theorem fn_12_40 : FN 12 40 false := ⟨(RX12, TX12, 49), rfl, rfl⟩
theorem fn_12_41 : FN 12 41 true := ⟨(RX12, TX12, 49), rfl, rfl⟩
theorem fn_12_42 : FN 12 42 true := ⟨(RX12, TX12, 49), rfl, rfl⟩
theorem fn_12_43 : FN 12 43 true := ⟨(RX12, TX12, 49), rfl, rfl⟩
theorem fn_12_44 : FN 12 44 true := ⟨(RX12, TX12, 49), rfl, rfl⟩
theorem fn_12_45 : FN 12 45 true := ⟨(RX12, TX12, 49), rfl, rfl⟩
theorem fn_12_46 : FN 12 46 false := ⟨(RX12, TX12, 49), rfl, rfl⟩
theorem fn_12_47 : FN 12 47 false := ⟨(RX12, TX12, 49), rfl, rfl⟩
theorem fn_12_48 : FN 12 48 true := ⟨(RX12, TX12, 49), rfl, rfl⟩
theorem in_L : Cond.initialized RL ∈ TT := TT_of 44 (by decide +kernel) (by decide +kernel)
theorem in_X11 : Cond.initialized RX11 ∈ TT := TT_of 45 (by decide +kernel) (by decide +kernel)
theorem in_X10 : Cond.initialized RX10 ∈ TT := TT_of 46 (by decide +kernel) (by decide +kernel)
theorem in_X5 : Cond.initialized RX5 ∈ TT := TT_of 47 (by decide +kernel) (by decide +kernel)
theorem in_X2 : Cond.initialized RX2 ∈ TT := TT_of 48 (by decide +kernel) (by decide +kernel)
theorem in_X9 : Cond.initialized RX9 ∈ TT := TT_of 49 (by decide +kernel) (by decide +kernel)
theorem in_X1 : Cond.initialized RX1 ∈ TT := TT_of 50 (by decide +kernel) (by decide +kernel)
theorem in_X4 : Cond.initialized RX4 ∈ TT := TT_of 51 (by decide +kernel) (by decide +kernel)
theorem in_X8 : Cond.initialized RX8 ∈ TT := TT_of 52 (by decide +kernel) (by decide +kernel)
theorem in_X7 : Cond.initialized RX7 ∈ TT := TT_of 53 (by decide +kernel) (by decide +kernel)
theorem in_X12 : Cond.initialized RX12 ∈ TT := TT_of 54 (by decide +kernel) (by decide +kernel)
theorem in_X3 : Cond.initialized RX3 ∈ TT := TT_of 55 (by decide +kernel) (by decide +kernel)
theorem in_X0 : Cond.initialized RX0 ∈ TT := TT_of 56 (by decide +kernel) (by decide +kernel)
theorem in_J9 : Cond.initialized RJ9 ∈ TT := TT_of 57 (by decide +kernel) (by decide +kernel)
theorem in_X6 : Cond.initialized RX6 ∈ TT := TT_of 58 (by decide +kernel) (by decide +kernel)
theorem cl_L_7 : Cond.classLink RL 7 RX11 ∈ TT := TT_of 59 (by decide +kernel) (by decide +kernel)
theorem it_X11 : Cond.instantiable RX11 19 ∈ TT := TT_of 60 (by decide +kernel) (by decide +kernel)
theorem ml_L_9 : Cond.methodLink RL 9 yX11_init ∈ TT := TT_of 61 (by decide +kernel) (by decide +kernel)
theorem ml_X11_1 : Cond.methodLink RX11 1 objectInit ∈ TT := TT_of 64 (by decide +kernel) (by decide +kernel)
theorem cl_X11_7 : Cond.classLink RX11 7 RX10 ∈ TT := TT_of 67 (by decide +kernel) (by decide +kernel)
theorem it_X10 : Cond.instantiable RX10 6 ∈ TT := TT_of 68 (by decide +kernel) (by decide +kernel)
theorem ml_X11_9 : Cond.methodLinkNest RX11 9 yX10_init "WireMill" ∈ nestW := by decide +kernel
theorem ml_X10_1 : Cond.methodLink RX10 1 objectInit ∈ TT := TT_of 72 (by decide +kernel) (by decide +kernel)
theorem fl_X10_7 : FL RX10 7 10 0 := ⟨by decide, (RX10, TX10, 6), rfl, by decide, ux_10, TT_of 73 (by decide +kernel) (by decide +kernel)⟩
theorem fl_X2_45 : FL RX2 45 10 0 := ⟨by decide, (RX10, TX10, 6), rfl, by decide, ux_10, TT_of 74 (by decide +kernel) (by decide +kernel)⟩
theorem fl_X10_13 : FL RX10 13 10 1 := ⟨by decide, (RX10, TX10, 6), rfl, by decide, ux_10, TT_of 75 (by decide +kernel) (by decide +kernel)⟩
theorem fl_X2_60 : FL RX2 60 10 1 := ⟨by decide, (RX10, TX10, 6), rfl, by decide, ux_10, TT_of 76 (by decide +kernel) (by decide +kernel)⟩
theorem fl_X10_16 : FL RX10 16 10 2 := ⟨by decide, (RX10, TX10, 6), rfl, by decide, ux_10, TT_of 77 (by decide +kernel) (by decide +kernel)⟩
theorem fl_X11_397 : FL RX11 397 10 2 := ⟨by decide, (RX10, TX10, 6), rfl, by decide, ux_10, TT_of 78 (by decide +kernel) (by decide +kernel)⟩
theorem fl_X10_19 : FL RX10 19 10 3 := ⟨by decide, (RX10, TX10, 6), rfl, by decide, ux_10, TT_of 79 (by decide +kernel) (by decide +kernel)⟩
theorem fl_X11_252 : FL RX11 252 10 3 := ⟨by decide, (RX10, TX10, 6), rfl, by decide, ux_10, TT_of 80 (by decide +kernel) (by decide +kernel)⟩
theorem fl_X10_22 : FL RX10 22 10 4 := ⟨by decide, (RX10, TX10, 6), rfl, by decide, ux_10, TT_of 81 (by decide +kernel) (by decide +kernel)⟩
theorem fl_X11_271 : FL RX11 271 10 4 := ⟨by decide, (RX10, TX10, 6), rfl, by decide, ux_10, TT_of 82 (by decide +kernel) (by decide +kernel)⟩
theorem fl_X10_25 : FL RX10 25 10 5 := ⟨by decide, (RX10, TX10, 6), rfl, by decide, ux_10, TT_of 83 (by decide +kernel) (by decide +kernel)⟩
theorem fl_X11_324 : FL RX11 324 10 5 := ⟨by decide, (RX10, TX10, 6), rfl, by decide, ux_10, TT_of 84 (by decide +kernel) (by decide +kernel)⟩
theorem cl_X11_16 : Cond.classLink RX11 16 RX4 ∈ TT := TT_of 98 (by decide +kernel) (by decide +kernel)
theorem cl_X11_22 : Cond.classLink RX11 22 RX8 ∈ TT := TT_of 100 (by decide +kernel) (by decide +kernel)
theorem cl_X11_28 : Cond.classLink RX11 28 RX7 ∈ TT := TT_of 102 (by decide +kernel) (by decide +kernel)
theorem cl_X11_34 : Cond.classLink RX11 34 RX0 ∈ TT := TT_of 104 (by decide +kernel) (by decide +kernel)
theorem cl_X11_40 : Cond.classLink RX11 40 RX6 ∈ TT := TT_of 106 (by decide +kernel) (by decide +kernel)
theorem cl_X11_46 : Cond.classLink RX11 46 RX5 ∈ TT := TT_of 108 (by decide +kernel) (by decide +kernel)
theorem it_X5 : Cond.instantiable RX5 3 ∈ TT := TT_of 109 (by decide +kernel) (by decide +kernel)
theorem ml_X11_48 : Cond.methodLinkNest RX11 48 yX5_init "WireMill" ∈ nestW := by decide +kernel
theorem ml_X5_3 : Cond.methodLink RX5 3 objectInit ∈ TT := TT_of 113 (by decide +kernel) (by decide +kernel)
theorem fl_X5_11 : FL RX5 11 5 0 := ⟨by decide, (RX5, TX5, 3), rfl, by decide, ux_5, TT_of 114 (by decide +kernel) (by decide +kernel)⟩
theorem fl_X5_15 : FL RX5 15 5 1 := ⟨by decide, (RX5, TX5, 3), rfl, by decide, ux_5, TT_of 115 (by decide +kernel) (by decide +kernel)⟩
theorem fl_X5_18 : FL RX5 18 5 2 := ⟨by decide, (RX5, TX5, 3), rfl, by decide, ux_5, TT_of 116 (by decide +kernel) (by decide +kernel)⟩
theorem fl_X11_378 : FL RX11 378 5 2 := ⟨by decide, (RX5, TX5, 3), rfl, by decide, ux_5, TT_of 117 (by decide +kernel) (by decide +kernel)⟩
theorem ac_int : Cond.arrayClass .int ∈ TT := TT_of 125 (by decide +kernel) (by decide +kernel)
theorem cl_X11_53 : Cond.classLink RX11 53 RX2 ∈ TT := TT_of 126 (by decide +kernel) (by decide +kernel)
theorem it_X2 : Cond.instantiable RX2 5 ∈ TT := TT_of 127 (by decide +kernel) (by decide +kernel)
theorem ml_X11_55 : Cond.methodLink RX11 55 yX2_init ∈ TT := TT_of 128 (by decide +kernel) (by decide +kernel)
theorem ml_X2_3 : Cond.methodLink RX2 3 objectInit ∈ TT := TT_of 131 (by decide +kernel) (by decide +kernel)
theorem fl_X2_9 : FL RX2 9 2 0 := ⟨by decide, (RX2, TX2, 5), rfl, by decide, ux_2, TT_of 132 (by decide +kernel) (by decide +kernel)⟩
theorem fl_X2_27 : FL RX2 27 2 1 := ⟨by decide, (RX2, TX2, 5), rfl, by decide, ux_2, TT_of 133 (by decide +kernel) (by decide +kernel)⟩
theorem fl_X11_228 : FL RX11 228 2 1 := ⟨by decide, (RX2, TX2, 5), rfl, by decide, ux_2, TT_of 134 (by decide +kernel) (by decide +kernel)⟩
theorem fl_X2_36 : FL RX2 36 2 2 := ⟨by decide, (RX2, TX2, 5), rfl, by decide, ux_2, TT_of 135 (by decide +kernel) (by decide +kernel)⟩
theorem fl_X9_96 : FL RX9 96 2 2 := ⟨by decide, (RX2, TX2, 5), rfl, by decide, ux_2, TT_of 136 (by decide +kernel) (by decide +kernel)⟩
theorem fl_X11_225 : FL RX11 225 2 2 := ⟨by decide, (RX2, TX2, 5), rfl, by decide, ux_2, TT_of 137 (by decide +kernel) (by decide +kernel)⟩
theorem fl_X2_50 : FL RX2 50 2 3 := ⟨by decide, (RX2, TX2, 5), rfl, by decide, ux_2, TT_of 138 (by decide +kernel) (by decide +kernel)⟩
theorem fl_X11_219 : FL RX11 219 2 3 := ⟨by decide, (RX2, TX2, 5), rfl, by decide, ux_2, TT_of 139 (by decide +kernel) (by decide +kernel)⟩
theorem fl_X2_63 : FL RX2 63 2 4 := ⟨by decide, (RX2, TX2, 5), rfl, by decide, ux_2, TT_of 140 (by decide +kernel) (by decide +kernel)⟩
theorem fl_X11_222 : FL RX11 222 2 4 := ⟨by decide, (RX2, TX2, 5), rfl, by decide, ux_2, TT_of 141 (by decide +kernel) (by decide +kernel)⟩
theorem cl_X11_62 : Cond.classLink RX11 62 RX9 ∈ TT := TT_of 153 (by decide +kernel) (by decide +kernel)
theorem it_X9 : Cond.instantiable RX9 9 ∈ TT := TT_of 154 (by decide +kernel) (by decide +kernel)
theorem ml_X11_64 : Cond.methodLink RX11 64 yX9_init ∈ TT := TT_of 155 (by decide +kernel) (by decide +kernel)
theorem ml_X9_3 : Cond.methodLink RX9 3 objectInit ∈ TT := TT_of 158 (by decide +kernel) (by decide +kernel)
theorem fl_X9_18 : FL RX9 18 9 0 := ⟨by decide, (RX9, TX9, 9), rfl, by decide, ux_9, TT_of 159 (by decide +kernel) (by decide +kernel)⟩
theorem fl_X9_11 : FL RX9 11 9 1 := ⟨by decide, (RX9, TX9, 9), rfl, by decide, ux_9, TT_of 160 (by decide +kernel) (by decide +kernel)⟩
theorem fl_X9_15 : FL RX9 15 9 2 := ⟨by decide, (RX9, TX9, 9), rfl, by decide, ux_9, TT_of 161 (by decide +kernel) (by decide +kernel)⟩
theorem fl_X9_22 : FL RX9 22 9 3 := ⟨by decide, (RX9, TX9, 9), rfl, by decide, ux_9, TT_of 162 (by decide +kernel) (by decide +kernel)⟩
theorem fl_X11_285 : FL RX11 285 9 3 := ⟨by decide, (RX9, TX9, 9), rfl, by decide, ux_9, TT_of 163 (by decide +kernel) (by decide +kernel)⟩
theorem fl_X9_26 : FL RX9 26 9 4 := ⟨by decide, (RX9, TX9, 9), rfl, by decide, ux_9, TT_of 164 (by decide +kernel) (by decide +kernel)⟩
theorem fl_X9_30 : FL RX9 30 9 5 := ⟨by decide, (RX9, TX9, 9), rfl, by decide, ux_9, TT_of 165 (by decide +kernel) (by decide +kernel)⟩
theorem fl_X9_34 : FL RX9 34 9 6 := ⟨by decide, (RX9, TX9, 9), rfl, by decide, ux_9, TT_of 166 (by decide +kernel) (by decide +kernel)⟩
theorem fl_X9_37 : FL RX9 37 9 7 := ⟨by decide, (RX9, TX9, 9), rfl, by decide, ux_9, TT_of 167 (by decide +kernel) (by decide +kernel)⟩
theorem fl_X9_40 : FL RX9 40 9 8 := ⟨by decide, (RX9, TX9, 9), rfl, by decide, ux_9, TT_of 168 (by decide +kernel) (by decide +kernel)⟩
theorem cl_X11_71 : Cond.classLink RX11 71 RX1 ∈ TT := TT_of 188 (by decide +kernel) (by decide +kernel)
theorem it_X1 : Cond.instantiable RX1 6 ∈ TT := TT_of 189 (by decide +kernel) (by decide +kernel)
theorem ml_X11_73 : Cond.methodLinkNest RX11 73 yX1_init "WireMill" ∈ nestW := by decide +kernel
theorem ml_X1_3 : Cond.methodLink RX1 3 objectInit ∈ TT := TT_of 193 (by decide +kernel) (by decide +kernel)
theorem kc_X1_24 : Cond.constant RX1 24 (24137568) ∈ TT := TT_of 194 (by decide +kernel) (by decide +kernel)
theorem fl_X1_11 : FL RX1 11 1 0 := ⟨by decide, (RX1, TX1, 6), rfl, by decide, ux_1, TT_of 195 (by decide +kernel) (by decide +kernel)⟩
theorem fl_X1_15 : FL RX1 15 1 1 := ⟨by decide, (RX1, TX1, 6), rfl, by decide, ux_1, TT_of 196 (by decide +kernel) (by decide +kernel)⟩
theorem fl_X1_18 : FL RX1 18 1 2 := ⟨by decide, (RX1, TX1, 6), rfl, by decide, ux_1, TT_of 197 (by decide +kernel) (by decide +kernel)⟩
theorem fl_X1_21 : FL RX1 21 1 3 := ⟨by decide, (RX1, TX1, 6), rfl, by decide, ux_1, TT_of 198 (by decide +kernel) (by decide +kernel)⟩
theorem fl_X1_44 : FL RX1 44 1 4 := ⟨by decide, (RX1, TX1, 6), rfl, by decide, ux_1, TT_of 199 (by decide +kernel) (by decide +kernel)⟩
theorem fl_X11_308 : FL RX11 308 1 4 := ⟨by decide, (RX1, TX1, 6), rfl, by decide, ux_1, TT_of 200 (by decide +kernel) (by decide +kernel)⟩
theorem fl_X1_25 : FL RX1 25 1 5 := ⟨by decide, (RX1, TX1, 6), rfl, by decide, ux_1, TT_of 201 (by decide +kernel) (by decide +kernel)⟩
theorem it_X4 : Cond.instantiable RX4 6 ∈ TT := TT_of 215 (by decide +kernel) (by decide +kernel)
theorem ml_X11_78 : Cond.methodLink RX11 78 yX4_init ∈ TT := TT_of 216 (by decide +kernel) (by decide +kernel)
theorem ml_X4_1 : Cond.methodLink RX4 1 objectInit ∈ TT := TT_of 219 (by decide +kernel) (by decide +kernel)
theorem fl_X4_25 : FL RX4 25 4 0 := ⟨by decide, (RX4, TX4, 6), rfl, by decide, ux_4, TT_of 220 (by decide +kernel) (by decide +kernel)⟩
theorem fl_X11_191 : FL RX11 191 4 0 := ⟨by decide, (RX4, TX4, 6), rfl, by decide, ux_4, TT_of 221 (by decide +kernel) (by decide +kernel)⟩
theorem fl_X4_7 : FL RX4 7 4 1 := ⟨by decide, (RX4, TX4, 6), rfl, by decide, ux_4, TT_of 222 (by decide +kernel) (by decide +kernel)⟩
theorem fl_X11_93 : FL RX11 93 4 1 := ⟨by decide, (RX4, TX4, 6), rfl, by decide, ux_4, TT_of 223 (by decide +kernel) (by decide +kernel)⟩
theorem fl_X4_13 : FL RX4 13 4 2 := ⟨by decide, (RX4, TX4, 6), rfl, by decide, ux_4, TT_of 224 (by decide +kernel) (by decide +kernel)⟩
theorem fl_X2_31 : FL RX2 31 4 2 := ⟨by decide, (RX4, TX4, 6), rfl, by decide, ux_4, TT_of 225 (by decide +kernel) (by decide +kernel)⟩
theorem fl_X11_97 : FL RX11 97 4 2 := ⟨by decide, (RX4, TX4, 6), rfl, by decide, ux_4, TT_of 226 (by decide +kernel) (by decide +kernel)⟩
theorem fl_X4_16 : FL RX4 16 4 3 := ⟨by decide, (RX4, TX4, 6), rfl, by decide, ux_4, TT_of 227 (by decide +kernel) (by decide +kernel)⟩
theorem fl_X11_100 : FL RX11 100 4 3 := ⟨by decide, (RX4, TX4, 6), rfl, by decide, ux_4, TT_of 228 (by decide +kernel) (by decide +kernel)⟩
theorem fl_X2_80 : FL RX2 80 4 3 := ⟨by decide, (RX4, TX4, 6), rfl, by decide, ux_4, TT_of 229 (by decide +kernel) (by decide +kernel)⟩
theorem fl_X4_19 : FL RX4 19 4 4 := ⟨by decide, (RX4, TX4, 6), rfl, by decide, ux_4, TT_of 230 (by decide +kernel) (by decide +kernel)⟩
theorem fl_X11_103 : FL RX11 103 4 4 := ⟨by decide, (RX4, TX4, 6), rfl, by decide, ux_4, TT_of 231 (by decide +kernel) (by decide +kernel)⟩
theorem fl_X4_22 : FL RX4 22 4 5 := ⟨by decide, (RX4, TX4, 6), rfl, by decide, ux_4, TT_of 232 (by decide +kernel) (by decide +kernel)⟩
theorem fl_X11_106 : FL RX11 106 4 5 := ⟨by decide, (RX4, TX4, 6), rfl, by decide, ux_4, TT_of 233 (by decide +kernel) (by decide +kernel)⟩
theorem it_X8 : Cond.instantiable RX8 4 ∈ TT := TT_of 247 (by decide +kernel) (by decide +kernel)
theorem ml_X11_81 : Cond.methodLink RX11 81 yX8_init ∈ TT := TT_of 248 (by decide +kernel) (by decide +kernel)
theorem ml_X8_1 : Cond.methodLink RX8 1 objectInit ∈ TT := TT_of 251 (by decide +kernel) (by decide +kernel)
theorem fl_X8_13 : FL RX8 13 8 0 := ⟨by decide, (RX8, TX8, 4), rfl, by decide, ux_8, TT_of 252 (by decide +kernel) (by decide +kernel)⟩
theorem fl_X11_394 : FL RX11 394 8 0 := ⟨by decide, (RX8, TX8, 4), rfl, by decide, ux_8, TT_of 253 (by decide +kernel) (by decide +kernel)⟩
theorem fl_X11_126 : FL RX11 126 8 1 := ⟨by decide, (RX8, TX8, 4), rfl, by decide, ux_8, TT_of 254 (by decide +kernel) (by decide +kernel)⟩
theorem fl_X8_7 : FL RX8 7 8 2 := ⟨by decide, (RX8, TX8, 4), rfl, by decide, ux_8, TT_of 255 (by decide +kernel) (by decide +kernel)⟩
theorem fl_X11_129 : FL RX11 129 8 2 := ⟨by decide, (RX8, TX8, 4), rfl, by decide, ux_8, TT_of 256 (by decide +kernel) (by decide +kernel)⟩
theorem fl_X11_277 : FL RX11 277 8 3 := ⟨by decide, (RX8, TX8, 4), rfl, by decide, ux_8, TT_of 257 (by decide +kernel) (by decide +kernel)⟩
theorem it_X7 : Cond.instantiable RX7 2 ∈ TT := TT_of 267 (by decide +kernel) (by decide +kernel)
theorem ml_X11_84 : Cond.methodLinkNest RX11 84 yX7_init "WireMill" ∈ nestW := by decide +kernel
theorem ml_X7_3 : Cond.methodLink RX7 3 objectInit ∈ TT := TT_of 271 (by decide +kernel) (by decide +kernel)
theorem cl_X7_9 : Cond.classLink RX7 9 RX3 ∈ TT := TT_of 272 (by decide +kernel) (by decide +kernel)
theorem fl_X7_11 : FL RX7 11 7 0 := ⟨by decide, (RX7, TX7, 2), rfl, by decide, ux_7, TT_of 274 (by decide +kernel) (by decide +kernel)⟩
theorem fl_X7_17 : FL RX7 17 7 1 := ⟨by decide, (RX7, TX7, 2), rfl, by decide, ux_7, TT_of 275 (by decide +kernel) (by decide +kernel)⟩
theorem fl_X11_10 : FL RX11 10 11 0 := ⟨by decide, (RX11, TX11, 19), rfl, by decide, ux_11, TT_of 281 (by decide +kernel) (by decide +kernel)⟩
theorem fl_X11_18 : FL RX11 18 11 1 := ⟨by decide, (RX11, TX11, 19), rfl, by decide, ux_11, TT_of 282 (by decide +kernel) (by decide +kernel)⟩
theorem fl_X11_24 : FL RX11 24 11 2 := ⟨by decide, (RX11, TX11, 19), rfl, by decide, ux_11, TT_of 283 (by decide +kernel) (by decide +kernel)⟩
theorem fl_X11_30 : FL RX11 30 11 3 := ⟨by decide, (RX11, TX11, 19), rfl, by decide, ux_11, TT_of 284 (by decide +kernel) (by decide +kernel)⟩
theorem fl_X11_36 : FL RX11 36 11 4 := ⟨by decide, (RX11, TX11, 19), rfl, by decide, ux_11, TT_of 285 (by decide +kernel) (by decide +kernel)⟩
theorem fl_X11_42 : FL RX11 42 11 5 := ⟨by decide, (RX11, TX11, 19), rfl, by decide, ux_11, TT_of 286 (by decide +kernel) (by decide +kernel)⟩
theorem fl_X11_49 : FL RX11 49 11 6 := ⟨by decide, (RX11, TX11, 19), rfl, by decide, ux_11, TT_of 287 (by decide +kernel) (by decide +kernel)⟩
theorem fl_X11_58 : FL RX11 58 11 7 := ⟨by decide, (RX11, TX11, 19), rfl, by decide, ux_11, TT_of 288 (by decide +kernel) (by decide +kernel)⟩
theorem fl_X11_67 : FL RX11 67 11 8 := ⟨by decide, (RX11, TX11, 19), rfl, by decide, ux_11, TT_of 289 (by decide +kernel) (by decide +kernel)⟩
theorem fl_X11_74 : FL RX11 74 11 9 := ⟨by decide, (RX11, TX11, 19), rfl, by decide, ux_11, TT_of 290 (by decide +kernel) (by decide +kernel)⟩
theorem fl_X11_166 : FL RX11 166 11 10 := ⟨by decide, (RX11, TX11, 19), rfl, by decide, ux_11, TT_of 291 (by decide +kernel) (by decide +kernel)⟩
theorem fl_X11_298 : FL RX11 298 11 11 := ⟨by decide, (RX11, TX11, 19), rfl, by decide, ux_11, TT_of 292 (by decide +kernel) (by decide +kernel)⟩
theorem fl_X11_243 : FL RX11 243 11 12 := ⟨by decide, (RX11, TX11, 19), rfl, by decide, ux_11, TT_of 293 (by decide +kernel) (by decide +kernel)⟩
theorem fl_X11_172 : FL RX11 172 11 13 := ⟨by decide, (RX11, TX11, 19), rfl, by decide, ux_11, TT_of 294 (by decide +kernel) (by decide +kernel)⟩
theorem fl_X11_367 : FL RX11 367 11 14 := ⟨by decide, (RX11, TX11, 19), rfl, by decide, ux_11, TT_of 295 (by decide +kernel) (by decide +kernel)⟩
theorem fl_X11_274 : FL RX11 274 11 15 := ⟨by decide, (RX11, TX11, 19), rfl, by decide, ux_11, TT_of 296 (by decide +kernel) (by decide +kernel)⟩
theorem fl_X11_257 : FL RX11 257 11 16 := ⟨by decide, (RX11, TX11, 19), rfl, by decide, ux_11, TT_of 297 (by decide +kernel) (by decide +kernel)⟩
theorem fl_X11_379 : FL RX11 379 11 17 := ⟨by decide, (RX11, TX11, 19), rfl, by decide, ux_11, TT_of 298 (by decide +kernel) (by decide +kernel)⟩
theorem fl_X11_260 : FL RX11 260 11 18 := ⟨by decide, (RX11, TX11, 19), rfl, by decide, ux_11, TT_of 299 (by decide +kernel) (by decide +kernel)⟩
theorem ml_L_13 : Cond.methodLink RL 13 yX11_metal ∈ TT := TT_of 339 (by decide +kernel) (by decide +kernel)
theorem ml_X11_85 : Cond.methodLink RX11 85 yX11_metalAt ∈ TT := TT_of 343 (by decide +kernel) (by decide +kernel)
theorem ml_X11_89 : Cond.methodLink RX11 89 yX11_isWithin ∈ TT := TT_of 347 (by decide +kernel) (by decide +kernel)
theorem ml_L_18 : Cond.methodLink RL 18 yX11_set ∈ TT := TT_of 350 (by decide +kernel) (by decide +kernel)
theorem ml_X11_109 : Cond.methodLink RX11 109 yX10_admits ∈ TT := TT_of 354 (by decide +kernel) (by decide +kernel)
theorem sl_X10_28 : Cond.fieldLink RX10 28 "WireMill$Settings" "LEAST" "[I" ∈ TT := TT_of 358 (by decide +kernel) (by decide +kernel)
theorem sl_X10_32 : Cond.fieldLink RX10 32 "WireMill$Settings" "MOST" "[I" ∈ TT := TT_of 360 (by decide +kernel) (by decide +kernel)
theorem ml_X10_35 : Cond.methodLinkNest RX10 35 yX11_isWithin "WireMill" ∈ nestW := by decide +kernel
theorem ml_X11_113 : Cond.methodLink RX11 113 yX10_value ∈ TT := TT_of 363 (by decide +kernel) (by decide +kernel)
theorem ml_X11_117 : Cond.methodLink RX11 117 yX10_change ∈ TT := TT_of 367 (by decide +kernel) (by decide +kernel)
theorem ml_L_23 : Cond.methodLink RL 23 yX11_puller ∈ TT := TT_of 371 (by decide +kernel) (by decide +kernel)
theorem ml_X11_121 : Cond.methodLink RX11 121 yX11_pullerAt ∈ TT := TT_of 375 (by decide +kernel) (by decide +kernel)
theorem kc_X11_125 : Cond.constant RX11 125 (100000000) ∈ TT := TT_of 379 (by decide +kernel) (by decide +kernel)
theorem ml_L_28 : Cond.methodLink RL 28 yX11_hole ∈ TT := TT_of 380 (by decide +kernel) (by decide +kernel)
theorem ml_X11_132 : Cond.methodLink RX11 132 yX11_plateAt ∈ TT := TT_of 384 (by decide +kernel) (by decide +kernel)
theorem ml_X11_136 : Cond.methodLink RX11 136 yX11_isSize ∈ TT := TT_of 388 (by decide +kernel) (by decide +kernel)
theorem ml_X11_140 : Cond.methodLink RX11 140 yX7_bore ∈ TT := TT_of 391 (by decide +kernel) (by decide +kernel)
theorem it_X3 : Cond.instantiable RX3 3 ∈ TT := TT_of 395 (by decide +kernel) (by decide +kernel)
theorem ml_X7_21 : Cond.methodLink RX7 21 yX3_init ∈ TT := TT_of 396 (by decide +kernel) (by decide +kernel)
theorem ml_X3_1 : Cond.methodLink RX3 1 objectInit ∈ TT := TT_of 399 (by decide +kernel) (by decide +kernel)
theorem fl_X3_7 : FL RX3 7 3 0 := ⟨by decide, (RX3, TX3, 3), rfl, by decide, ux_3, TT_of 400 (by decide +kernel) (by decide +kernel)⟩
theorem fl_X11_147 : FL RX11 147 3 0 := ⟨by decide, (RX3, TX3, 3), rfl, by decide, ux_3, TT_of 401 (by decide +kernel) (by decide +kernel)⟩
theorem fl_X3_13 : FL RX3 13 3 1 := ⟨by decide, (RX3, TX3, 3), rfl, by decide, ux_3, TT_of 402 (by decide +kernel) (by decide +kernel)⟩
theorem fl_X11_152 : FL RX11 152 3 1 := ⟨by decide, (RX3, TX3, 3), rfl, by decide, ux_3, TT_of 403 (by decide +kernel) (by decide +kernel)⟩
theorem fl_X11_159 : FL RX11 159 3 2 := ⟨by decide, (RX3, TX3, 3), rfl, by decide, ux_3, TT_of 404 (by decide +kernel) (by decide +kernel)⟩
theorem ml_L_32 : Cond.methodLink RL 32 yX11_told ∈ TT := TT_of 412 (by decide +kernel) (by decide +kernel)
theorem ml_X11_143 : Cond.methodLink RX11 143 yX11_holeAt ∈ TT := TT_of 416 (by decide +kernel) (by decide +kernel)
theorem ml_X11_382 : Cond.methodLink RX11 382 yX7_holeAt ∈ TT := TT_of 420 (by decide +kernel) (by decide +kernel)
theorem ml_X11_155 : Cond.methodLink RX11 155 yX3_wide ∈ TT := TT_of 424 (by decide +kernel) (by decide +kernel)
theorem ml_X11_162 : Cond.methodLink RX11 162 yX3_isSpent ∈ TT := TT_of 428 (by decide +kernel) (by decide +kernel)
theorem ml_X3_16 : Cond.methodLink RX3 16 yX3_wide ∈ TT := TT_of 432 (by decide +kernel) (by decide +kernel)
theorem ml_L_36 : Cond.methodLink RL 36 yX11_gauge ∈ TT := TT_of 433 (by decide +kernel) (by decide +kernel)
theorem ml_L_40 : Cond.methodLink RL 40 yX11_ream ∈ TT := TT_of 437 (by decide +kernel) (by decide +kernel)
theorem ml_L_44 : Cond.methodLink RL 44 yX11_coil ∈ TT := TT_of 441 (by decide +kernel) (by decide +kernel)
theorem it_X0 : Cond.instantiable RX0 7 ∈ TT := TT_of 445 (by decide +kernel) (by decide +kernel)
theorem ml_X11_169 : Cond.methodLink RX11 169 yX0_init ∈ TT := TT_of 446 (by decide +kernel) (by decide +kernel)
theorem ml_X0_1 : Cond.methodLink RX0 1 objectInit ∈ TT := TT_of 449 (by decide +kernel) (by decide +kernel)
theorem fl_X0_7 : FL RX0 7 0 0 := ⟨by decide, (RX0, TX0, 7), rfl, by decide, ux_0, TT_of 450 (by decide +kernel) (by decide +kernel)⟩
theorem fl_X2_15 : FL RX2 15 0 0 := ⟨by decide, (RX0, TX0, 7), rfl, by decide, ux_0, TT_of 451 (by decide +kernel) (by decide +kernel)⟩
theorem fl_X6_23 : FL RX6 23 0 0 := ⟨by decide, (RX0, TX0, 7), rfl, by decide, ux_0, TT_of 452 (by decide +kernel) (by decide +kernel)⟩
theorem fl_X11_187 : FL RX11 187 0 0 := ⟨by decide, (RX0, TX0, 7), rfl, by decide, ux_0, TT_of 453 (by decide +kernel) (by decide +kernel)⟩
theorem fl_X0_13 : FL RX0 13 0 1 := ⟨by decide, (RX0, TX0, 7), rfl, by decide, ux_0, TT_of 454 (by decide +kernel) (by decide +kernel)⟩
theorem fl_X6_26 : FL RX6 26 0 1 := ⟨by decide, (RX0, TX0, 7), rfl, by decide, ux_0, TT_of 455 (by decide +kernel) (by decide +kernel)⟩
theorem fl_X9_75 : FL RX9 75 0 1 := ⟨by decide, (RX0, TX0, 7), rfl, by decide, ux_0, TT_of 456 (by decide +kernel) (by decide +kernel)⟩
theorem fl_X11_194 : FL RX11 194 0 1 := ⟨by decide, (RX0, TX0, 7), rfl, by decide, ux_0, TT_of 457 (by decide +kernel) (by decide +kernel)⟩
theorem fl_X9_43 : FL RX9 43 0 2 := ⟨by decide, (RX0, TX0, 7), rfl, by decide, ux_0, TT_of 458 (by decide +kernel) (by decide +kernel)⟩
theorem fl_X11_197 : FL RX11 197 0 2 := ⟨by decide, (RX0, TX0, 7), rfl, by decide, ux_0, TT_of 459 (by decide +kernel) (by decide +kernel)⟩
theorem fl_X0_17 : FL RX0 17 0 3 := ⟨by decide, (RX0, TX0, 7), rfl, by decide, ux_0, TT_of 460 (by decide +kernel) (by decide +kernel)⟩
theorem fl_X11_176 : FL RX11 176 0 3 := ⟨by decide, (RX0, TX0, 7), rfl, by decide, ux_0, TT_of 461 (by decide +kernel) (by decide +kernel)⟩
theorem fl_X2_53 : FL RX2 53 0 4 := ⟨by decide, (RX0, TX0, 7), rfl, by decide, ux_0, TT_of 462 (by decide +kernel) (by decide +kernel)⟩
theorem fl_X11_203 : FL RX11 203 0 4 := ⟨by decide, (RX0, TX0, 7), rfl, by decide, ux_0, TT_of 463 (by decide +kernel) (by decide +kernel)⟩
theorem fl_X11_206 : FL RX11 206 0 5 := ⟨by decide, (RX0, TX0, 7), rfl, by decide, ux_0, TT_of 464 (by decide +kernel) (by decide +kernel)⟩
theorem fl_X0_21 : FL RX0 21 0 6 := ⟨by decide, (RX0, TX0, 7), rfl, by decide, ux_0, TT_of 465 (by decide +kernel) (by decide +kernel)⟩
theorem fl_X11_209 : FL RX11 209 0 6 := ⟨by decide, (RX0, TX0, 7), rfl, by decide, ux_0, TT_of 466 (by decide +kernel) (by decide +kernel)⟩
theorem ml_X11_179 : Cond.methodLink RX11 179 yX11_addCoil ∈ TT := TT_of 482 (by decide +kernel) (by decide +kernel)
theorem ml_L_49 : Cond.methodLink RL 49 yX11_at ∈ TT := TT_of 486 (by decide +kernel) (by decide +kernel)
theorem ml_X11_183 : Cond.methodLink RX11 183 yX11_coilAt ∈ TT := TT_of 490 (by decide +kernel) (by decide +kernel)
theorem ml_X11_385 : Cond.methodLink RX11 385 yX0_isGone ∈ TT := TT_of 494 (by decide +kernel) (by decide +kernel)
theorem ml_X0_35 : Cond.methodLink RX0 35 yX0_feet ∈ TT := TT_of 498 (by decide +kernel) (by decide +kernel)
theorem ml_X0_25 : Cond.methodLink RX0 25 yX0_stuffOf ∈ TT := TT_of 502 (by decide +kernel) (by decide +kernel)
theorem ml_X0_29 : Cond.methodLinkNest RX0 29 yX11_quotient "WireMill" ∈ nestW := by decide +kernel
theorem ml_X11_200 : Cond.methodLink RX11 200 yX0_feet ∈ TT := TT_of 509 (by decide +kernel) (by decide +kernel)
theorem ml_L_53 : Cond.methodLink RL 53 yX11_stuff ∈ TT := TT_of 510 (by decide +kernel) (by decide +kernel)
theorem kc_X11_213 : Cond.constantLong RX11 213 (-2) ∈ TT := TT_of 514 (by decide +kernel) (by decide +kernel)
theorem ml_L_58 : Cond.methodLink RL 58 yX11_asks ∈ TT := TT_of 515 (by decide +kernel) (by decide +kernel)
theorem ml_X11_215 : Cond.methodLink RX11 215 yX2_reckon ∈ TT := TT_of 519 (by decide +kernel) (by decide +kernel)
theorem kc_X2_21 : Cond.constantLong RX2 21 (1000) ∈ TT := TT_of 523 (by decide +kernel) (by decide +kernel)
theorem ml_X2_23 : Cond.methodLinkNest RX2 23 yX11_quotient "WireMill" ∈ nestW := by decide +kernel
theorem ml_X2_39 : Cond.methodLink RX2 39 yX4_strength ∈ TT := TT_of 525 (by decide +kernel) (by decide +kernel)
theorem kc_X2_43 : Cond.constantLong RX2 43 (100) ∈ TT := TT_of 529 (by decide +kernel) (by decide +kernel)
theorem kc_X2_56 : Cond.constantLong RX2 56 (8) ∈ TT := TT_of 530 (by decide +kernel) (by decide +kernel)
theorem kc_X2_58 : Cond.constantLong RX2 58 (10) ∈ TT := TT_of 531 (by decide +kernel) (by decide +kernel)
theorem ml_L_63 : Cond.methodLink RL 63 yX11_draw ∈ TT := TT_of 532 (by decide +kernel) (by decide +kernel)
theorem ml_X11_231 : Cond.methodLink RX11 231 yX11_pullOf ∈ TT := TT_of 536 (by decide +kernel) (by decide +kernel)
theorem kc_X11_400 : Cond.constantLong RX11 400 (10) ∈ TT := TT_of 540 (by decide +kernel) (by decide +kernel)
theorem ml_X11_235 : Cond.methodLink RX11 235 yX2_refusal ∈ TT := TT_of 541 (by decide +kernel) (by decide +kernel)
theorem ml_X2_66 : Cond.methodLink RX2 66 yX3_wide ∈ TT := TT_of 545 (by decide +kernel) (by decide +kernel)
theorem ml_X2_72 : Cond.methodLink RX2 72 yX3_isSpent ∈ TT := TT_of 546 (by decide +kernel) (by decide +kernel)
theorem ml_X2_76 : Cond.methodLink RX2 76 yX2_reckon ∈ TT := TT_of 547 (by decide +kernel) (by decide +kernel)
theorem ml_X11_239 : Cond.methodLink RX11 239 yX11_pullThrough ∈ TT := TT_of 548 (by decide +kernel) (by decide +kernel)
theorem kc_X11_388 : Cond.constantLong RX11 388 (10000) ∈ TT := TT_of 552 (by decide +kernel) (by decide +kernel)
theorem ml_X11_246 : Cond.methodLink RX11 246 Lib.Math.max.name ∈ TT := TT_of 553 (by decide +kernel) (by decide +kernel)
theorem ml_X11_390 : Cond.methodLink RX11 390 yX8_minutesFor ∈ TT := TT_of 556 (by decide +kernel) (by decide +kernel)
theorem ml_X8_17 : Cond.methodLinkNest RX8 17 yX11_quotient "WireMill" ∈ nestW := by decide +kernel
theorem ml_L_67 : Cond.methodLink RL 67 yX11_fire ∈ TT := TT_of 561 (by decide +kernel) (by decide +kernel)
theorem kc_X11_255 : Cond.constantLong RX11 255 (1000) ∈ TT := TT_of 565 (by decide +kernel) (by decide +kernel)
theorem ml_X11_263 : Cond.methodLink RX11 263 yX11_throwAway ∈ TT := TT_of 566 (by decide +kernel) (by decide +kernel)
theorem ml_L_72 : Cond.methodLink RL 72 yX11_part ∈ TT := TT_of 570 (by decide +kernel) (by decide +kernel)
theorem ml_X11_267 : Cond.methodLink RX11 267 yX0_stuffOf ∈ TT := TT_of 574 (by decide +kernel) (by decide +kernel)
theorem ml_L_76 : Cond.methodLink RL 76 yX11_join ∈ TT := TT_of 575 (by decide +kernel) (by decide +kernel)
theorem ml_L_80 : Cond.methodLink RL 80 yX11_scrap ∈ TT := TT_of 579 (by decide +kernel) (by decide +kernel)
theorem ml_L_84 : Cond.methodLink RL 84 yX11_ready ∈ TT := TT_of 583 (by decide +kernel) (by decide +kernel)
theorem ml_L_88 : Cond.methodLink RL 88 yX11_way ∈ TT := TT_of 587 (by decide +kernel) (by decide +kernel)
theorem ml_X11_278 : Cond.methodLink RX11 278 yX11_seekWay ∈ TT := TT_of 591 (by decide +kernel) (by decide +kernel)
theorem ml_X11_295 : Cond.methodLink RX11 295 yX11_isRange ∈ TT := TT_of 595 (by decide +kernel) (by decide +kernel)
theorem ml_X11_402 : Cond.methodLink RX11 402 yX9_seek ∈ TT := TT_of 598 (by decide +kernel) (by decide +kernel)
theorem ml_X9_48 : Cond.methodLink RX9 48 yX9_priceFrom ∈ TT := TT_of 602 (by decide +kernel) (by decide +kernel)
theorem kc_X9_52 : Cond.constant RX9 52 (100000) ∈ TT := TT_of 606 (by decide +kernel) (by decide +kernel)
theorem ml_X9_60 : Cond.methodLink RX9 60 yX9_sizeAt ∈ TT := TT_of 607 (by decide +kernel) (by decide +kernel)
theorem ml_X9_78 : Cond.methodLink RX9 78 yX7_holeAt ∈ TT := TT_of 611 (by decide +kernel) (by decide +kernel)
theorem ml_X9_84 : Cond.methodLink RX9 84 yX3_wide ∈ TT := TT_of 612 (by decide +kernel) (by decide +kernel)
theorem ml_X9_64 : Cond.methodLinkNest RX9 64 yX11_isWithin "WireMill" ∈ nestW := by decide +kernel
theorem kc_X9_68 : Cond.constant RX9 68 (900000) ∈ TT := TT_of 614 (by decide +kernel) (by decide +kernel)
theorem ml_X9_57 : Cond.methodLink RX9 57 yX9_hardnessBehind ∈ TT := TT_of 615 (by decide +kernel) (by decide +kernel)
theorem ml_X9_90 : Cond.methodLink RX9 90 yX2_refusal ∈ TT := TT_of 619 (by decide +kernel) (by decide +kernel)
theorem ml_X9_69 : Cond.methodLink RX9 69 Lib.Math.min.name ∈ TT := TT_of 620 (by decide +kernel) (by decide +kernel)
theorem ml_X9_53 : Cond.methodLink RX9 53 yX9_laySteps ∈ TT := TT_of 623 (by decide +kernel) (by decide +kernel)
theorem ml_L_93 : Cond.methodLink RL 93 yX11_step ∈ TT := TT_of 627 (by decide +kernel) (by decide +kernel)
theorem ml_X11_282 : Cond.methodLink RX11 282 yX9_stepAt ∈ TT := TT_of 631 (by decide +kernel) (by decide +kernel)
theorem ml_L_97 : Cond.methodLink RL 97 yX11_go ∈ TT := TT_of 635 (by decide +kernel) (by decide +kernel)
theorem ml_X11_288 : Cond.methodLink RX11 288 yX11_fire ∈ TT := TT_of 639 (by decide +kernel) (by decide +kernel)
theorem ml_X11_291 : Cond.methodLink RX11 291 yX11_draw ∈ TT := TT_of 640 (by decide +kernel) (by decide +kernel)
theorem ml_L_101 : Cond.methodLink RL 101 yX11_order ∈ TT := TT_of 641 (by decide +kernel) (by decide +kernel)
theorem it_X6 : Cond.instantiable RX6 5 ∈ TT := TT_of 645 (by decide +kernel) (by decide +kernel)
theorem ml_X11_301 : Cond.methodLink RX11 301 yX6_init ∈ TT := TT_of 646 (by decide +kernel) (by decide +kernel)
theorem ml_X6_1 : Cond.methodLink RX6 1 objectInit ∈ TT := TT_of 649 (by decide +kernel) (by decide +kernel)
theorem fl_X6_7 : FL RX6 7 6 0 := ⟨by decide, (RX6, TX6, 5), rfl, by decide, ux_6, TT_of 650 (by decide +kernel) (by decide +kernel)⟩
theorem fl_X6_13 : FL RX6 13 6 1 := ⟨by decide, (RX6, TX6, 5), rfl, by decide, ux_6, TT_of 651 (by decide +kernel) (by decide +kernel)⟩
theorem fl_X6_17 : FL RX6 17 6 2 := ⟨by decide, (RX6, TX6, 5), rfl, by decide, ux_6, TT_of 652 (by decide +kernel) (by decide +kernel)⟩
theorem fl_X6_20 : FL RX6 20 6 3 := ⟨by decide, (RX6, TX6, 5), rfl, by decide, ux_6, TT_of 653 (by decide +kernel) (by decide +kernel)⟩
theorem fl_X1_58 : FL RX1 58 6 3 := ⟨by decide, (RX6, TX6, 5), rfl, by decide, ux_6, TT_of 654 (by decide +kernel) (by decide +kernel)⟩
theorem fl_X11_393 : FL RX11 393 6 3 := ⟨by decide, (RX6, TX6, 5), rfl, by decide, ux_6, TT_of 655 (by decide +kernel) (by decide +kernel)⟩
theorem fl_X1_79 : FL RX1 79 6 4 := ⟨by decide, (RX6, TX6, 5), rfl, by decide, ux_6, TT_of 656 (by decide +kernel) (by decide +kernel)⟩
theorem fl_X11_327 : FL RX11 327 6 4 := ⟨by decide, (RX6, TX6, 5), rfl, by decide, ux_6, TT_of 657 (by decide +kernel) (by decide +kernel)⟩
theorem ml_L_105 : Cond.methodLink RL 105 yX11_cutting ∈ TT := TT_of 669 (by decide +kernel) (by decide +kernel)
theorem ml_X11_304 : Cond.methodLink RX11 304 yX1_seek ∈ TT := TT_of 673 (by decide +kernel) (by decide +kernel)
theorem ml_X1_29 : Cond.methodLink RX1 29 yX1_measureSets ∈ TT := TT_of 677 (by decide +kernel) (by decide +kernel)
theorem sl_X1_47 : Cond.fieldLink RX1 47 "WireMill$Cutting" "DIGITS" "[I" ∈ TT := TT_of 681 (by decide +kernel) (by decide +kernel)
theorem kc_X1_33 : Cond.constant RX1 33 (2147483647) ∈ TT := TT_of 683 (by decide +kernel) (by decide +kernel)
theorem ml_X1_34 : Cond.methodLink RX1 34 yX0_isGone ∈ TT := TT_of 684 (by decide +kernel) (by decide +kernel)
theorem ml_X1_40 : Cond.methodLink RX1 40 yX1_offer ∈ TT := TT_of 685 (by decide +kernel) (by decide +kernel)
theorem ml_X1_61 : Cond.methodLink RX1 61 yX1_openTo ∈ TT := TT_of 689 (by decide +kernel) (by decide +kernel)
theorem ml_X1_83 : Cond.methodLink RX1 83 yX6_canBeCutFrom ∈ TT := TT_of 692 (by decide +kernel) (by decide +kernel)
theorem ml_X6_29 : Cond.methodLinkNest RX6 29 yX11_isWithin "WireMill" ∈ nestW := by decide +kernel
theorem ml_X6_35 : Cond.methodLink RX6 35 yX0_feet ∈ TT := TT_of 697 (by decide +kernel) (by decide +kernel)
theorem ml_X1_65 : Cond.methodLink RX1 65 yX0_feet ∈ TT := TT_of 698 (by decide +kernel) (by decide +kernel)
theorem kc_X1_68 : Cond.constant RX1 68 (24137569) ∈ TT := TT_of 699 (by decide +kernel) (by decide +kernel)
theorem ml_X1_69 : Cond.methodLink RX1 69 yX1_giveTo ∈ TT := TT_of 700 (by decide +kernel) (by decide +kernel)
theorem ml_X1_73 : Cond.methodLink RX1 73 Lib.Math.min.name ∈ TT := TT_of 704 (by decide +kernel) (by decide +kernel)
theorem ml_L_110 : Cond.methodLink RL 110 yX11_from ∈ TT := TT_of 705 (by decide +kernel) (by decide +kernel)
theorem ml_X11_310 : Cond.methodLink RX11 310 yX11_orderAt ∈ TT := TT_of 709 (by decide +kernel) (by decide +kernel)
theorem ml_X11_314 : Cond.methodLink RX11 314 yX1_coilOf ∈ TT := TT_of 713 (by decide +kernel) (by decide +kernel)
theorem ml_X1_50 : Cond.methodLinkNest RX1 50 yX11_quotient "WireMill" ∈ nestW := by decide +kernel
theorem ml_L_114 : Cond.methodLink RL 114 yX11_cut ∈ TT := TT_of 718 (by decide +kernel) (by decide +kernel)
theorem ml_X11_317 : Cond.methodLink RX11 317 yX11_deliver ∈ TT := TT_of 722 (by decide +kernel) (by decide +kernel)
theorem ml_X11_321 : Cond.methodLink RX11 321 yX1_uses ∈ TT := TT_of 726 (by decide +kernel) (by decide +kernel)
theorem ml_X1_54 : Cond.methodLink RX1 54 yX1_coilOf ∈ TT := TT_of 730 (by decide +kernel) (by decide +kernel)
theorem ml_L_118 : Cond.methodLink RL 118 yX11_filled ∈ TT := TT_of 731 (by decide +kernel) (by decide +kernel)
theorem ml_L_122 : Cond.methodLink RL 122 yX11_note ∈ TT := TT_of 735 (by decide +kernel) (by decide +kernel)
theorem ml_X11_330 : Cond.methodLink RX11 330 yX5_add ∈ TT := TT_of 739 (by decide +kernel) (by decide +kernel)
theorem ml_L_127 : Cond.methodLink RL 127 yX11_tally ∈ TT := TT_of 743 (by decide +kernel) (by decide +kernel)
theorem ml_X11_334 : Cond.methodLink RX11 334 yX11_isCause ∈ TT := TT_of 747 (by decide +kernel) (by decide +kernel)
theorem ml_X11_337 : Cond.methodLink RX11 337 yX5_share ∈ TT := TT_of 750 (by decide +kernel) (by decide +kernel)
theorem ml_L_131 : Cond.methodLink RL 131 yX11_by ∈ TT := TT_of 754 (by decide +kernel) (by decide +kernel)
theorem kc_X11_340 : Cond.constant RX11 340 (-2147483648) ∈ TT := TT_of 758 (by decide +kernel) (by decide +kernel)
theorem ml_X11_341 : Cond.methodLink RX11 341 yX5_below ∈ TT := TT_of 759 (by decide +kernel) (by decide +kernel)
theorem ml_X5_22 : Cond.methodLink RX5 22 yX5_share ∈ TT := TT_of 763 (by decide +kernel) (by decide +kernel)
theorem ml_X11_344 : Cond.methodLink RX11 344 yX5_above ∈ TT := TT_of 764 (by decide +kernel) (by decide +kernel)
theorem ml_X11_347 : Cond.methodLink RX11 347 Lib.Math.abs.name ∈ TT := TT_of 768 (by decide +kernel) (by decide +kernel)
theorem ml_X11_350 : Cond.methodLink RX11 350 yX11_commonDivisor ∈ TT := TT_of 771 (by decide +kernel) (by decide +kernel)
theorem ml_X11_353 : Cond.methodLink RX11 353 yX11_quotient ∈ TT := TT_of 774 (by decide +kernel) (by decide +kernel)
theorem ml_L_135 : Cond.methodLink RL 135 yX11_chance ∈ TT := TT_of 775 (by decide +kernel) (by decide +kernel)
theorem ml_X11_357 : Cond.methodLink RX11 357 yX5_isMoreThanChance ∈ TT := TT_of 779 (by decide +kernel) (by decide +kernel)
theorem ml_X5_33 : Cond.methodLinkNest RX5 33 yX11_choices "WireMill" ∈ nestW := by decide +kernel
theorem ml_X11_405 : Cond.methodLink RX11 405 Lib.Math.min.name ∈ TT := TT_of 786 (by decide +kernel) (by decide +kernel)
theorem kc_X5_37 : Cond.constantLong RX5 37 (20) ∈ TT := TT_of 787 (by decide +kernel) (by decide +kernel)
theorem ml_L_139 : Cond.methodLink RL 139 yX11_cause ∈ TT := TT_of 788 (by decide +kernel) (by decide +kernel)
theorem ml_X11_360 : Cond.methodLink RX11 360 yX5_isGreater ∈ TT := TT_of 792 (by decide +kernel) (by decide +kernel)
theorem ml_X5_26 : Cond.methodLink RX5 26 yX5_above ∈ TT := TT_of 796 (by decide +kernel) (by decide +kernel)
theorem ml_X5_30 : Cond.methodLink RX5 30 yX5_below ∈ TT := TT_of 797 (by decide +kernel) (by decide +kernel)
theorem ml_L_143 : Cond.methodLink RL 143 yX11_account ∈ TT := TT_of 798 (by decide +kernel) (by decide +kernel)
theorem ml_X11_363 : Cond.methodLink RX11 363 yX11_stuffInCoils ∈ TT := TT_of 802 (by decide +kernel) (by decide +kernel)
theorem kc_X11_370 : Cond.constantLong RX11 370 (-3) ∈ TT := TT_of 806 (by decide +kernel) (by decide +kernel)
theorem ml_L_147 : Cond.methodLink RL 147 yX11_count ∈ TT := TT_of 807 (by decide +kernel) (by decide +kernel)
theorem ml_X11_372 : Cond.methodLink RX11 372 yX11_coilsLeft ∈ TT := TT_of 811 (by decide +kernel) (by decide +kernel)
theorem ml_X11_375 : Cond.methodLink RX11 375 yX11_ordersFilled ∈ TT := TT_of 815 (by decide +kernel) (by decide +kernel)
theorem cl_L_10 : Cond.classLink RL 10 RX12 ∈ TT := TT_of 819 (by decide +kernel) (by decide +kernel)
theorem it_X12 : Cond.instantiable RX12 49 ∈ TT := TT_of 820 (by decide +kernel) (by decide +kernel)
theorem ml_L_12 : Cond.methodLink RL 12 yX12_init ∈ TT := TT_of 821 (by decide +kernel) (by decide +kernel)
theorem ml_X12_1 : Cond.methodLink RX12 1 objectInit ∈ TT := TT_of 824 (by decide +kernel) (by decide +kernel)
theorem fl_X12_7 : FL RX12 7 12 0 := ⟨by decide, (RX12, TX12, 49), rfl, by decide, ux_12, TT_of 825 (by decide +kernel) (by decide +kernel)⟩
theorem fl_X12_13 : FL RX12 13 12 1 := ⟨by decide, (RX12, TX12, 49), rfl, by decide, ux_12, TT_of 826 (by decide +kernel) (by decide +kernel)⟩
theorem fl_X12_16 : FL RX12 16 12 2 := ⟨by decide, (RX12, TX12, 49), rfl, by decide, ux_12, TT_of 827 (by decide +kernel) (by decide +kernel)⟩
theorem fl_X12_19 : FL RX12 19 12 3 := ⟨by decide, (RX12, TX12, 49), rfl, by decide, ux_12, TT_of 828 (by decide +kernel) (by decide +kernel)⟩
theorem fl_X12_22 : FL RX12 22 12 4 := ⟨by decide, (RX12, TX12, 49), rfl, by decide, ux_12, TT_of 829 (by decide +kernel) (by decide +kernel)⟩
theorem fl_X12_25 : FL RX12 25 12 5 := ⟨by decide, (RX12, TX12, 49), rfl, by decide, ux_12, TT_of 830 (by decide +kernel) (by decide +kernel)⟩
theorem fl_X12_28 : FL RX12 28 12 6 := ⟨by decide, (RX12, TX12, 49), rfl, by decide, ux_12, TT_of 831 (by decide +kernel) (by decide +kernel)⟩
theorem fl_X12_31 : FL RX12 31 12 7 := ⟨by decide, (RX12, TX12, 49), rfl, by decide, ux_12, TT_of 832 (by decide +kernel) (by decide +kernel)⟩
theorem fl_X12_34 : FL RX12 34 12 8 := ⟨by decide, (RX12, TX12, 49), rfl, by decide, ux_12, TT_of 833 (by decide +kernel) (by decide +kernel)⟩
theorem fl_X12_37 : FL RX12 37 12 9 := ⟨by decide, (RX12, TX12, 49), rfl, by decide, ux_12, TT_of 834 (by decide +kernel) (by decide +kernel)⟩
theorem fl_X12_40 : FL RX12 40 12 10 := ⟨by decide, (RX12, TX12, 49), rfl, by decide, ux_12, TT_of 835 (by decide +kernel) (by decide +kernel)⟩
theorem fl_X12_43 : FL RX12 43 12 11 := ⟨by decide, (RX12, TX12, 49), rfl, by decide, ux_12, TT_of 836 (by decide +kernel) (by decide +kernel)⟩
theorem fl_X12_46 : FL RX12 46 12 12 := ⟨by decide, (RX12, TX12, 49), rfl, by decide, ux_12, TT_of 837 (by decide +kernel) (by decide +kernel)⟩
theorem fl_X12_127 : FL RX12 127 12 13 := ⟨by decide, (RX12, TX12, 49), rfl, by decide, ux_12, TT_of 838 (by decide +kernel) (by decide +kernel)⟩
theorem fl_X12_49 : FL RX12 49 12 14 := ⟨by decide, (RX12, TX12, 49), rfl, by decide, ux_12, TT_of 839 (by decide +kernel) (by decide +kernel)⟩
theorem fl_X12_52 : FL RX12 52 12 15 := ⟨by decide, (RX12, TX12, 49), rfl, by decide, ux_12, TT_of 840 (by decide +kernel) (by decide +kernel)⟩
theorem fl_X12_55 : FL RX12 55 12 16 := ⟨by decide, (RX12, TX12, 49), rfl, by decide, ux_12, TT_of 841 (by decide +kernel) (by decide +kernel)⟩
theorem fl_X12_58 : FL RX12 58 12 17 := ⟨by decide, (RX12, TX12, 49), rfl, by decide, ux_12, TT_of 842 (by decide +kernel) (by decide +kernel)⟩
theorem fl_X12_62 : FL RX12 62 12 18 := ⟨by decide, (RX12, TX12, 49), rfl, by decide, ux_12, TT_of 843 (by decide +kernel) (by decide +kernel)⟩
theorem fl_X12_65 : FL RX12 65 12 19 := ⟨by decide, (RX12, TX12, 49), rfl, by decide, ux_12, TT_of 844 (by decide +kernel) (by decide +kernel)⟩
theorem fl_X12_68 : FL RX12 68 12 20 := ⟨by decide, (RX12, TX12, 49), rfl, by decide, ux_12, TT_of 845 (by decide +kernel) (by decide +kernel)⟩
theorem fl_X12_246 : FL RX12 246 12 21 := ⟨by decide, (RX12, TX12, 49), rfl, by decide, ux_12, TT_of 846 (by decide +kernel) (by decide +kernel)⟩
theorem fl_X12_72 : FL RX12 72 12 22 := ⟨by decide, (RX12, TX12, 49), rfl, by decide, ux_12, TT_of 847 (by decide +kernel) (by decide +kernel)⟩
theorem fl_X12_75 : FL RX12 75 12 23 := ⟨by decide, (RX12, TX12, 49), rfl, by decide, ux_12, TT_of 848 (by decide +kernel) (by decide +kernel)⟩
theorem fl_X12_78 : FL RX12 78 12 24 := ⟨by decide, (RX12, TX12, 49), rfl, by decide, ux_12, TT_of 849 (by decide +kernel) (by decide +kernel)⟩
theorem fl_X12_81 : FL RX12 81 12 25 := ⟨by decide, (RX12, TX12, 49), rfl, by decide, ux_12, TT_of 850 (by decide +kernel) (by decide +kernel)⟩
theorem fl_X12_84 : FL RX12 84 12 26 := ⟨by decide, (RX12, TX12, 49), rfl, by decide, ux_12, TT_of 851 (by decide +kernel) (by decide +kernel)⟩
theorem fl_X12_264 : FL RX12 264 12 27 := ⟨by decide, (RX12, TX12, 49), rfl, by decide, ux_12, TT_of 852 (by decide +kernel) (by decide +kernel)⟩
theorem fl_X12_87 : FL RX12 87 12 28 := ⟨by decide, (RX12, TX12, 49), rfl, by decide, ux_12, TT_of 853 (by decide +kernel) (by decide +kernel)⟩
theorem fl_X12_90 : FL RX12 90 12 29 := ⟨by decide, (RX12, TX12, 49), rfl, by decide, ux_12, TT_of 854 (by decide +kernel) (by decide +kernel)⟩
theorem fl_X12_159 : FL RX12 159 12 30 := ⟨by decide, (RX12, TX12, 49), rfl, by decide, ux_12, TT_of 855 (by decide +kernel) (by decide +kernel)⟩
theorem fl_X12_261 : FL RX12 261 12 31 := ⟨by decide, (RX12, TX12, 49), rfl, by decide, ux_12, TT_of 856 (by decide +kernel) (by decide +kernel)⟩
theorem fl_X12_170 : FL RX12 170 12 32 := ⟨by decide, (RX12, TX12, 49), rfl, by decide, ux_12, TT_of 857 (by decide +kernel) (by decide +kernel)⟩
theorem fl_X12_215 : FL RX12 215 12 33 := ⟨by decide, (RX12, TX12, 49), rfl, by decide, ux_12, TT_of 858 (by decide +kernel) (by decide +kernel)⟩
theorem fl_X12_212 : FL RX12 212 12 34 := ⟨by decide, (RX12, TX12, 49), rfl, by decide, ux_12, TT_of 859 (by decide +kernel) (by decide +kernel)⟩
theorem fl_X12_218 : FL RX12 218 12 35 := ⟨by decide, (RX12, TX12, 49), rfl, by decide, ux_12, TT_of 860 (by decide +kernel) (by decide +kernel)⟩
theorem fl_X12_93 : FL RX12 93 12 36 := ⟨by decide, (RX12, TX12, 49), rfl, by decide, ux_12, TT_of 861 (by decide +kernel) (by decide +kernel)⟩
theorem fl_X12_96 : FL RX12 96 12 37 := ⟨by decide, (RX12, TX12, 49), rfl, by decide, ux_12, TT_of 862 (by decide +kernel) (by decide +kernel)⟩
theorem fl_X12_99 : FL RX12 99 12 38 := ⟨by decide, (RX12, TX12, 49), rfl, by decide, ux_12, TT_of 863 (by decide +kernel) (by decide +kernel)⟩
theorem fl_X12_102 : FL RX12 102 12 39 := ⟨by decide, (RX12, TX12, 49), rfl, by decide, ux_12, TT_of 864 (by decide +kernel) (by decide +kernel)⟩
theorem fl_X12_230 : FL RX12 230 12 40 := ⟨by decide, (RX12, TX12, 49), rfl, by decide, ux_12, TT_of 865 (by decide +kernel) (by decide +kernel)⟩
theorem fl_X12_105 : FL RX12 105 12 41 := ⟨by decide, (RX12, TX12, 49), rfl, by decide, ux_12, TT_of 866 (by decide +kernel) (by decide +kernel)⟩
theorem fl_X12_108 : FL RX12 108 12 42 := ⟨by decide, (RX12, TX12, 49), rfl, by decide, ux_12, TT_of 867 (by decide +kernel) (by decide +kernel)⟩
theorem fl_X12_111 : FL RX12 111 12 43 := ⟨by decide, (RX12, TX12, 49), rfl, by decide, ux_12, TT_of 868 (by decide +kernel) (by decide +kernel)⟩
theorem fl_X12_114 : FL RX12 114 12 44 := ⟨by decide, (RX12, TX12, 49), rfl, by decide, ux_12, TT_of 869 (by decide +kernel) (by decide +kernel)⟩
theorem fl_X12_117 : FL RX12 117 12 45 := ⟨by decide, (RX12, TX12, 49), rfl, by decide, ux_12, TT_of 870 (by decide +kernel) (by decide +kernel)⟩
theorem fl_X12_249 : FL RX12 249 12 46 := ⟨by decide, (RX12, TX12, 49), rfl, by decide, ux_12, TT_of 871 (by decide +kernel) (by decide +kernel)⟩
theorem fl_X12_252 : FL RX12 252 12 47 := ⟨by decide, (RX12, TX12, 49), rfl, by decide, ux_12, TT_of 872 (by decide +kernel) (by decide +kernel)⟩
theorem fl_X12_120 : FL RX12 120 12 48 := ⟨by decide, (RX12, TX12, 49), rfl, by decide, ux_12, TT_of 873 (by decide +kernel) (by decide +kernel)⟩
theorem ac_long : Cond.arrayClass .long ∈ TT := TT_of 973 (by decide +kernel) (by decide +kernel)
theorem ac_boolean : Cond.arrayClass .boolean ∈ TT := TT_of 974 (by decide +kernel) (by decide +kernel)
theorem ml_L_17 : Cond.methodLink RL 17 yX12_metal ∈ TT := TT_of 975 (by decide +kernel) (by decide +kernel)
theorem ml_X12_131 : Cond.methodLink RX12 131 yX12_isMetal ∈ TT := TT_of 979 (by decide +kernel) (by decide +kernel)
theorem ml_X12_123 : Cond.methodLink RX12 123 yX12_within ∈ TT := TT_of 982 (by decide +kernel) (by decide +kernel)
theorem ml_L_22 : Cond.methodLink RL 22 yX12_set ∈ TT := TT_of 985 (by decide +kernel) (by decide +kernel)
theorem ml_X12_135 : Cond.methodLink RX12 135 yX12_leastOf ∈ TT := TT_of 989 (by decide +kernel) (by decide +kernel)
theorem ml_X12_139 : Cond.methodLink RX12 139 yX12_mostOf ∈ TT := TT_of 992 (by decide +kernel) (by decide +kernel)
theorem ml_L_27 : Cond.methodLink RL 27 yX12_puller ∈ TT := TT_of 995 (by decide +kernel) (by decide +kernel)
theorem ml_X12_142 : Cond.methodLink RX12 142 yX12_isPuller ∈ TT := TT_of 999 (by decide +kernel) (by decide +kernel)
theorem kc_X12_145 : Cond.constant RX12 145 (100000000) ∈ TT := TT_of 1002 (by decide +kernel) (by decide +kernel)
theorem ml_L_31 : Cond.methodLink RL 31 yX12_hole ∈ TT := TT_of 1003 (by decide +kernel) (by decide +kernel)
theorem ml_X12_146 : Cond.methodLink RX12 146 yX12_isSize ∈ TT := TT_of 1007 (by decide +kernel) (by decide +kernel)
theorem ml_L_35 : Cond.methodLink RL 35 yX12_told ∈ TT := TT_of 1010 (by decide +kernel) (by decide +kernel)
theorem ml_X12_152 : Cond.methodLink RX12 152 yX12_isHole ∈ TT := TT_of 1014 (by decide +kernel) (by decide +kernel)
theorem ml_X12_149 : Cond.methodLink RX12 149 yX12_wide ∈ TT := TT_of 1018 (by decide +kernel) (by decide +kernel)
theorem ml_X12_156 : Cond.methodLink RX12 156 yX12_isSpent ∈ TT := TT_of 1022 (by decide +kernel) (by decide +kernel)
theorem ml_L_39 : Cond.methodLink RL 39 yX12_gauge ∈ TT := TT_of 1026 (by decide +kernel) (by decide +kernel)
theorem ml_L_43 : Cond.methodLink RL 43 yX12_ream ∈ TT := TT_of 1030 (by decide +kernel) (by decide +kernel)
theorem ml_L_48 : Cond.methodLink RL 48 yX12_coil ∈ TT := TT_of 1034 (by decide +kernel) (by decide +kernel)
theorem ml_X12_163 : Cond.methodLink RX12 163 yX12_newCoil ∈ TT := TT_of 1038 (by decide +kernel) (by decide +kernel)
theorem ml_L_52 : Cond.methodLink RL 52 yX12_at ∈ TT := TT_of 1042 (by decide +kernel) (by decide +kernel)
theorem ml_X12_173 : Cond.methodLink RX12 173 yX12_isCoil ∈ TT := TT_of 1046 (by decide +kernel) (by decide +kernel)
theorem ml_X12_167 : Cond.methodLink RX12 167 yX12_feetOf ∈ TT := TT_of 1050 (by decide +kernel) (by decide +kernel)
theorem ml_L_57 : Cond.methodLink RL 57 yX12_stuff ∈ TT := TT_of 1054 (by decide +kernel) (by decide +kernel)
theorem kc_X12_176 : Cond.constantLong RX12 176 (-2) ∈ TT := TT_of 1058 (by decide +kernel) (by decide +kernel)
theorem ml_L_62 : Cond.methodLink RL 62 yX12_asks ∈ TT := TT_of 1059 (by decide +kernel) (by decide +kernel)
theorem ml_X12_194 : Cond.methodLink RX12 194 yX12_asksOf ∈ TT := TT_of 1063 (by decide +kernel) (by decide +kernel)
theorem kc_X12_184 : Cond.constantLong RX12 184 (100) ∈ TT := TT_of 1067 (by decide +kernel) (by decide +kernel)
theorem ml_X12_198 : Cond.methodLink RX12 198 yX12_bearsOf ∈ TT := TT_of 1068 (by decide +kernel) (by decide +kernel)
theorem ml_X12_186 : Cond.methodLink RX12 186 yX12_harder ∈ TT := TT_of 1072 (by decide +kernel) (by decide +kernel)
theorem ml_X12_180 : Cond.methodLink RX12 180 yX12_thinner ∈ TT := TT_of 1076 (by decide +kernel) (by decide +kernel)
theorem kc_X12_178 : Cond.constantLong RX12 178 (1000) ∈ TT := TT_of 1079 (by decide +kernel) (by decide +kernel)
theorem kc_X12_190 : Cond.constantLong RX12 190 (8) ∈ TT := TT_of 1080 (by decide +kernel) (by decide +kernel)
theorem kc_X12_192 : Cond.constantLong RX12 192 (10) ∈ TT := TT_of 1081 (by decide +kernel) (by decide +kernel)
theorem ml_L_66 : Cond.methodLink RL 66 yX12_draw ∈ TT := TT_of 1082 (by decide +kernel) (by decide +kernel)
theorem ml_X12_206 : Cond.methodLink RX12 206 yX12_against ∈ TT := TT_of 1086 (by decide +kernel) (by decide +kernel)
theorem ml_X12_202 : Cond.methodLink RX12 202 yX12_pullOf ∈ TT := TT_of 1090 (by decide +kernel) (by decide +kernel)
theorem kc_X12_210 : Cond.constantLong RX12 210 (10000) ∈ TT := TT_of 1094 (by decide +kernel) (by decide +kernel)
theorem ml_L_71 : Cond.methodLink RL 71 yX12_fire ∈ TT := TT_of 1095 (by decide +kernel) (by decide +kernel)
theorem ml_X12_221 : Cond.methodLink RX12 221 yX12_tidy ∈ TT := TT_of 1099 (by decide +kernel) (by decide +kernel)
theorem ml_L_75 : Cond.methodLink RL 75 yX12_part ∈ TT := TT_of 1103 (by decide +kernel) (by decide +kernel)
theorem ml_L_79 : Cond.methodLink RL 79 yX12_join ∈ TT := TT_of 1107 (by decide +kernel) (by decide +kernel)
theorem ml_L_83 : Cond.methodLink RL 83 yX12_scrap ∈ TT := TT_of 1111 (by decide +kernel) (by decide +kernel)
theorem ml_L_87 : Cond.methodLink RL 87 yX12_ready ∈ TT := TT_of 1115 (by decide +kernel) (by decide +kernel)
theorem ml_L_92 : Cond.methodLink RL 92 yX12_way ∈ TT := TT_of 1119 (by decide +kernel) (by decide +kernel)
theorem ml_X12_233 : Cond.methodLink RX12 233 yX12_wrong ∈ TT := TT_of 1123 (by decide +kernel) (by decide +kernel)
theorem ml_X12_236 : Cond.methodLink RX12 236 yX12_findWay ∈ TT := TT_of 1127 (by decide +kernel) (by decide +kernel)
theorem ml_X12_226 : Cond.methodLink RX12 226 yX12_findCost ∈ TT := TT_of 1131 (by decide +kernel) (by decide +kernel)
theorem kc_X12_225 : Cond.constant RX12 225 (1000000) ∈ TT := TT_of 1135 (by decide +kernel) (by decide +kernel)
theorem ml_L_96 : Cond.methodLink RL 96 yX12_step ∈ TT := TT_of 1136 (by decide +kernel) (by decide +kernel)
theorem ml_L_100 : Cond.methodLink RL 100 yX12_go ∈ TT := TT_of 1140 (by decide +kernel) (by decide +kernel)
theorem ml_X12_240 : Cond.methodLink RX12 240 yX12_fire ∈ TT := TT_of 1144 (by decide +kernel) (by decide +kernel)
theorem ml_X12_243 : Cond.methodLink RX12 243 yX12_draw ∈ TT := TT_of 1145 (by decide +kernel) (by decide +kernel)
theorem ml_L_104 : Cond.methodLink RL 104 yX12_order ∈ TT := TT_of 1146 (by decide +kernel) (by decide +kernel)
theorem ml_L_109 : Cond.methodLink RL 109 yX12_cutting ∈ TT := TT_of 1150 (by decide +kernel) (by decide +kernel)
theorem ml_X12_258 : Cond.methodLink RX12 258 yX12_findCutting ∈ TT := TT_of 1154 (by decide +kernel) (by decide +kernel)
theorem ml_X12_255 : Cond.methodLink RX12 255 yX12_mayCut ∈ TT := TT_of 1158 (by decide +kernel) (by decide +kernel)
theorem ml_L_113 : Cond.methodLink RL 113 yX12_from ∈ TT := TT_of 1162 (by decide +kernel) (by decide +kernel)
theorem ml_L_117 : Cond.methodLink RL 117 yX12_cut ∈ TT := TT_of 1166 (by decide +kernel) (by decide +kernel)
theorem ml_L_121 : Cond.methodLink RL 121 yX12_filled ∈ TT := TT_of 1170 (by decide +kernel) (by decide +kernel)
theorem ml_L_126 : Cond.methodLink RL 126 yX12_note ∈ TT := TT_of 1174 (by decide +kernel) (by decide +kernel)
theorem ml_L_130 : Cond.methodLink RL 130 yX12_tally ∈ TT := TT_of 1178 (by decide +kernel) (by decide +kernel)
theorem ml_X12_267 : Cond.methodLink RX12 267 yX12_tallyOf ∈ TT := TT_of 1182 (by decide +kernel) (by decide +kernel)
theorem ml_L_134 : Cond.methodLink RL 134 yX12_by ∈ TT := TT_of 1186 (by decide +kernel) (by decide +kernel)
theorem ml_X12_270 : Cond.methodLink RX12 270 yX12_belowOf ∈ TT := TT_of 1190 (by decide +kernel) (by decide +kernel)
theorem kc_X12_273 : Cond.constant RX12 273 (-2147483648) ∈ TT := TT_of 1194 (by decide +kernel) (by decide +kernel)
theorem ml_X12_274 : Cond.methodLink RX12 274 yX12_aboveOf ∈ TT := TT_of 1195 (by decide +kernel) (by decide +kernel)
theorem ml_X12_277 : Cond.methodLink RX12 277 yX12_common ∈ TT := TT_of 1199 (by decide +kernel) (by decide +kernel)
theorem ml_L_138 : Cond.methodLink RL 138 yX12_chance ∈ TT := TT_of 1202 (by decide +kernel) (by decide +kernel)
theorem ml_X12_286 : Cond.methodLink RX12 286 yX12_isMore ∈ TT := TT_of 1206 (by decide +kernel) (by decide +kernel)
theorem ml_X12_280 : Cond.methodLink RX12 280 yX12_choose ∈ TT := TT_of 1210 (by decide +kernel) (by decide +kernel)
theorem kc_X12_284 : Cond.constantLong RX12 284 (20) ∈ TT := TT_of 1214 (by decide +kernel) (by decide +kernel)
theorem ml_L_142 : Cond.methodLink RL 142 yX12_cause ∈ TT := TT_of 1215 (by decide +kernel) (by decide +kernel)
theorem ml_L_146 : Cond.methodLink RL 146 yX12_account ∈ TT := TT_of 1219 (by decide +kernel) (by decide +kernel)
theorem kc_X12_289 : Cond.constantLong RX12 289 (-3) ∈ TT := TT_of 1223 (by decide +kernel) (by decide +kernel)
theorem ml_L_150 : Cond.methodLink RL 150 yX12_count ∈ TT := TT_of 1224 (by decide +kernel) (by decide +kernel)
theorem vy_X0_init : IY yX0_init cX0_init 6 4 := ⟨TT_of 447 (by decide +kernel) (by decide +kernel), rfl, TT_of 56 (by decide +kernel) (by decide +kernel), TT_of 448 (by decide +kernel) (by decide +kernel), by decide +kernel, by decide +kernel, by decide +kernel⟩
theorem vy_X0_stuffOf : VY yX0_stuffOf cX0_stuffOf 2 (some .long) 1 := ⟨TT_of 503 (by decide +kernel) (by decide +kernel), TT_of 504 (by decide +kernel) (by decide +kernel), TT_of 56 (by decide +kernel) (by decide +kernel), TT_of 505 (by decide +kernel) (by decide +kernel), by decide +kernel, by decide +kernel, by decide +kernel⟩
theorem vy_X0_feet : VY yX0_feet cX0_feet 1 (some .int) 0 := ⟨TT_of 499 (by decide +kernel) (by decide +kernel), TT_of 500 (by decide +kernel) (by decide +kernel), TT_of 56 (by decide +kernel) (by decide +kernel), TT_of 501 (by decide +kernel) (by decide +kernel), by decide +kernel, by decide +kernel, by decide +kernel⟩
theorem vy_X0_isGone : VY yX0_isGone cX0_isGone 1 (some .boolean) 0 := ⟨TT_of 495 (by decide +kernel) (by decide +kernel), TT_of 496 (by decide +kernel) (by decide +kernel), TT_of 56 (by decide +kernel) (by decide +kernel), TT_of 497 (by decide +kernel) (by decide +kernel), by decide +kernel, by decide +kernel, by decide +kernel⟩
theorem vy_X1_init : IY yX1_init cX1_init 1 0 := ⟨TT_of 191 (by decide +kernel) (by decide +kernel), rfl, TT_of 50 (by decide +kernel) (by decide +kernel), TT_of 192 (by decide +kernel) (by decide +kernel), by decide +kernel, by decide +kernel, by decide +kernel⟩
theorem vy_X1_seek : VY yX1_seek cX1_seek 4 none 2 := ⟨TT_of 674 (by decide +kernel) (by decide +kernel), TT_of 675 (by decide +kernel) (by decide +kernel), TT_of 50 (by decide +kernel) (by decide +kernel), TT_of 676 (by decide +kernel) (by decide +kernel), by decide +kernel, by decide +kernel, by decide +kernel⟩
theorem vy_X1_coilOf : VY yX1_coilOf cX1_coilOf 3 (some .int) 1 := ⟨TT_of 714 (by decide +kernel) (by decide +kernel), TT_of 715 (by decide +kernel) (by decide +kernel), TT_of 50 (by decide +kernel) (by decide +kernel), TT_of 716 (by decide +kernel) (by decide +kernel), by decide +kernel, by decide +kernel, by decide +kernel⟩
theorem vy_X1_uses : VY yX1_uses cX1_uses 3 (some .boolean) 1 := ⟨TT_of 727 (by decide +kernel) (by decide +kernel), TT_of 728 (by decide +kernel) (by decide +kernel), TT_of 50 (by decide +kernel) (by decide +kernel), TT_of 729 (by decide +kernel) (by decide +kernel), by decide +kernel, by decide +kernel, by decide +kernel⟩
theorem vy_X1_measureSets : VY yX1_measureSets cX1_measureSets 4 none 1 := ⟨TT_of 679 (by decide +kernel) (by decide +kernel), TT_of 14 (by decide +kernel) (by decide +kernel), TT_of 50 (by decide +kernel) (by decide +kernel), TT_of 680 (by decide +kernel) (by decide +kernel), by decide +kernel, by decide +kernel, by decide +kernel⟩
theorem vy_X1_offer : VY yX1_offer cX1_offer 7 none 3 := ⟨TT_of 687 (by decide +kernel) (by decide +kernel), TT_of 15 (by decide +kernel) (by decide +kernel), TT_of 50 (by decide +kernel) (by decide +kernel), TT_of 688 (by decide +kernel) (by decide +kernel), by decide +kernel, by decide +kernel, by decide +kernel⟩
theorem vy_X1_giveTo : VY yX1_giveTo cX1_giveTo 5 none 2 := ⟨TT_of 702 (by decide +kernel) (by decide +kernel), TT_of 16 (by decide +kernel) (by decide +kernel), TT_of 50 (by decide +kernel) (by decide +kernel), TT_of 703 (by decide +kernel) (by decide +kernel), by decide +kernel, by decide +kernel, by decide +kernel⟩
theorem vy_X1_openTo : SY yX1_openTo cX1_openTo 5 (some .int) 2 := ⟨TT_of 690 (by decide +kernel) (by decide +kernel), TT_of 50 (by decide +kernel) (by decide +kernel), TT_of 691 (by decide +kernel) (by decide +kernel), by decide +kernel, by decide +kernel, by decide +kernel⟩
theorem vy_X2_init : IY yX2_init cX2_init 2 1 := ⟨TT_of 129 (by decide +kernel) (by decide +kernel), rfl, TT_of 48 (by decide +kernel) (by decide +kernel), TT_of 130 (by decide +kernel) (by decide +kernel), by decide +kernel, by decide +kernel, by decide +kernel⟩
theorem vy_X2_reckon : VY yX2_reckon cX2_reckon 14 none 4 := ⟨TT_of 520 (by decide +kernel) (by decide +kernel), TT_of 521 (by decide +kernel) (by decide +kernel), TT_of 48 (by decide +kernel) (by decide +kernel), TT_of 522 (by decide +kernel) (by decide +kernel), by decide +kernel, by decide +kernel, by decide +kernel⟩
theorem vy_X2_refusal : VY yX2_refusal cX2_refusal 7 (some .int) 5 := ⟨TT_of 542 (by decide +kernel) (by decide +kernel), TT_of 543 (by decide +kernel) (by decide +kernel), TT_of 48 (by decide +kernel) (by decide +kernel), TT_of 544 (by decide +kernel) (by decide +kernel), by decide +kernel, by decide +kernel, by decide +kernel⟩
theorem vy_X3_init : IY yX3_init cX3_init 2 1 := ⟨TT_of 397 (by decide +kernel) (by decide +kernel), rfl, TT_of 55 (by decide +kernel) (by decide +kernel), TT_of 398 (by decide +kernel) (by decide +kernel), by decide +kernel, by decide +kernel, by decide +kernel⟩
theorem vy_X3_wide : VY yX3_wide cX3_wide 1 (some .int) 0 := ⟨TT_of 425 (by decide +kernel) (by decide +kernel), TT_of 426 (by decide +kernel) (by decide +kernel), TT_of 55 (by decide +kernel) (by decide +kernel), TT_of 427 (by decide +kernel) (by decide +kernel), by decide +kernel, by decide +kernel, by decide +kernel⟩
theorem vy_X3_isSpent : VY yX3_isSpent cX3_isSpent 1 (some .boolean) 0 := ⟨TT_of 429 (by decide +kernel) (by decide +kernel), TT_of 430 (by decide +kernel) (by decide +kernel), TT_of 55 (by decide +kernel) (by decide +kernel), TT_of 431 (by decide +kernel) (by decide +kernel), by decide +kernel, by decide +kernel, by decide +kernel⟩
theorem vy_X4_init : IY yX4_init cX4_init 2 1 := ⟨TT_of 217 (by decide +kernel) (by decide +kernel), rfl, TT_of 51 (by decide +kernel) (by decide +kernel), TT_of 218 (by decide +kernel) (by decide +kernel), by decide +kernel, by decide +kernel, by decide +kernel⟩
theorem vy_X4_strength : VY yX4_strength cX4_strength 2 (some .long) 1 := ⟨TT_of 526 (by decide +kernel) (by decide +kernel), TT_of 527 (by decide +kernel) (by decide +kernel), TT_of 51 (by decide +kernel) (by decide +kernel), TT_of 528 (by decide +kernel) (by decide +kernel), by decide +kernel, by decide +kernel, by decide +kernel⟩
theorem vy_X5_init : IY yX5_init cX5_init 1 0 := ⟨TT_of 111 (by decide +kernel) (by decide +kernel), rfl, TT_of 47 (by decide +kernel) (by decide +kernel), TT_of 112 (by decide +kernel) (by decide +kernel), by decide +kernel, by decide +kernel, by decide +kernel⟩
theorem vy_X5_add : VY yX5_add cX5_add 3 (some .int) 2 := ⟨TT_of 740 (by decide +kernel) (by decide +kernel), TT_of 741 (by decide +kernel) (by decide +kernel), TT_of 47 (by decide +kernel) (by decide +kernel), TT_of 742 (by decide +kernel) (by decide +kernel), by decide +kernel, by decide +kernel, by decide +kernel⟩
theorem vy_X5_share : VY yX5_share cX5_share 6 (some .int) 2 := ⟨TT_of 751 (by decide +kernel) (by decide +kernel), TT_of 752 (by decide +kernel) (by decide +kernel), TT_of 47 (by decide +kernel) (by decide +kernel), TT_of 753 (by decide +kernel) (by decide +kernel), by decide +kernel, by decide +kernel, by decide +kernel⟩
theorem vy_X5_above : VY yX5_above cX5_above 2 (some .int) 1 := ⟨TT_of 765 (by decide +kernel) (by decide +kernel), TT_of 766 (by decide +kernel) (by decide +kernel), TT_of 47 (by decide +kernel) (by decide +kernel), TT_of 767 (by decide +kernel) (by decide +kernel), by decide +kernel, by decide +kernel, by decide +kernel⟩
theorem vy_X5_below : VY yX5_below cX5_below 2 (some .int) 1 := ⟨TT_of 760 (by decide +kernel) (by decide +kernel), TT_of 761 (by decide +kernel) (by decide +kernel), TT_of 47 (by decide +kernel) (by decide +kernel), TT_of 762 (by decide +kernel) (by decide +kernel), by decide +kernel, by decide +kernel, by decide +kernel⟩
theorem vy_X5_isGreater : VY yX5_isGreater cX5_isGreater 3 (some .boolean) 2 := ⟨TT_of 793 (by decide +kernel) (by decide +kernel), TT_of 794 (by decide +kernel) (by decide +kernel), TT_of 47 (by decide +kernel) (by decide +kernel), TT_of 795 (by decide +kernel) (by decide +kernel), by decide +kernel, by decide +kernel, by decide +kernel⟩
theorem vy_X5_isMoreThanChance : VY yX5_isMoreThanChance cX5_isMoreThanChance 8 (some .boolean) 1 := ⟨TT_of 780 (by decide +kernel) (by decide +kernel), TT_of 781 (by decide +kernel) (by decide +kernel), TT_of 47 (by decide +kernel) (by decide +kernel), TT_of 782 (by decide +kernel) (by decide +kernel), by decide +kernel, by decide +kernel, by decide +kernel⟩
theorem vy_X6_init : IY yX6_init cX6_init 5 4 := ⟨TT_of 647 (by decide +kernel) (by decide +kernel), rfl, TT_of 58 (by decide +kernel) (by decide +kernel), TT_of 648 (by decide +kernel) (by decide +kernel), by decide +kernel, by decide +kernel, by decide +kernel⟩
theorem vy_X6_canBeCutFrom : VY yX6_canBeCutFrom cX6_canBeCutFrom 2 (some .boolean) 1 := ⟨TT_of 693 (by decide +kernel) (by decide +kernel), TT_of 694 (by decide +kernel) (by decide +kernel), TT_of 58 (by decide +kernel) (by decide +kernel), TT_of 695 (by decide +kernel) (by decide +kernel), by decide +kernel, by decide +kernel, by decide +kernel⟩
theorem vy_X7_init : IY yX7_init cX7_init 1 0 := ⟨TT_of 269 (by decide +kernel) (by decide +kernel), rfl, TT_of 53 (by decide +kernel) (by decide +kernel), TT_of 270 (by decide +kernel) (by decide +kernel), by decide +kernel, by decide +kernel, by decide +kernel⟩
theorem vy_X7_bore : VY yX7_bore cX7_bore 2 (some .int) 1 := ⟨TT_of 392 (by decide +kernel) (by decide +kernel), TT_of 393 (by decide +kernel) (by decide +kernel), TT_of 53 (by decide +kernel) (by decide +kernel), TT_of 394 (by decide +kernel) (by decide +kernel), by decide +kernel, by decide +kernel, by decide +kernel⟩
theorem vy_X7_holeAt : VY yX7_holeAt cX7_holeAt 2 (some (.object "WireMill$Hole")) 1 := ⟨TT_of 421 (by decide +kernel) (by decide +kernel), TT_of 422 (by decide +kernel) (by decide +kernel), TT_of 53 (by decide +kernel) (by decide +kernel), TT_of 423 (by decide +kernel) (by decide +kernel), by decide +kernel, by decide +kernel, by decide +kernel⟩
theorem vy_X8_init : IY yX8_init cX8_init 2 1 := ⟨TT_of 249 (by decide +kernel) (by decide +kernel), rfl, TT_of 52 (by decide +kernel) (by decide +kernel), TT_of 250 (by decide +kernel) (by decide +kernel), by decide +kernel, by decide +kernel, by decide +kernel⟩
theorem vy_X8_minutesFor : VY yX8_minutesFor cX8_minutesFor 2 (some .int) 1 := ⟨TT_of 557 (by decide +kernel) (by decide +kernel), TT_of 558 (by decide +kernel) (by decide +kernel), TT_of 52 (by decide +kernel) (by decide +kernel), TT_of 559 (by decide +kernel) (by decide +kernel), by decide +kernel, by decide +kernel, by decide +kernel⟩
theorem vy_X9_init : IY yX9_init cX9_init 2 1 := ⟨TT_of 156 (by decide +kernel) (by decide +kernel), rfl, TT_of 49 (by decide +kernel) (by decide +kernel), TT_of 157 (by decide +kernel) (by decide +kernel), by decide +kernel, by decide +kernel, by decide +kernel⟩
theorem vy_X9_stepAt : VY yX9_stepAt cX9_stepAt 2 (some .int) 1 := ⟨TT_of 632 (by decide +kernel) (by decide +kernel), TT_of 633 (by decide +kernel) (by decide +kernel), TT_of 49 (by decide +kernel) (by decide +kernel), TT_of 634 (by decide +kernel) (by decide +kernel), by decide +kernel, by decide +kernel, by decide +kernel⟩
theorem vy_X9_seek : VY yX9_seek cX9_seek 7 (some .int) 5 := ⟨TT_of 599 (by decide +kernel) (by decide +kernel), TT_of 600 (by decide +kernel) (by decide +kernel), TT_of 49 (by decide +kernel) (by decide +kernel), TT_of 601 (by decide +kernel) (by decide +kernel), by decide +kernel, by decide +kernel, by decide +kernel⟩
theorem vy_X9_laySteps : VY yX9_laySteps cX9_laySteps 8 none 2 := ⟨TT_of 625 (by decide +kernel) (by decide +kernel), TT_of 13 (by decide +kernel) (by decide +kernel), TT_of 49 (by decide +kernel) (by decide +kernel), TT_of 626 (by decide +kernel) (by decide +kernel), by decide +kernel, by decide +kernel, by decide +kernel⟩
theorem vy_X9_priceFrom : VY yX9_priceFrom cX9_priceFrom 9 (some .int) 3 := ⟨TT_of 604 (by decide +kernel) (by decide +kernel), TT_of 10 (by decide +kernel) (by decide +kernel), TT_of 49 (by decide +kernel) (by decide +kernel), TT_of 605 (by decide +kernel) (by decide +kernel), by decide +kernel, by decide +kernel, by decide +kernel⟩
theorem vy_X9_sizeAt : VY yX9_sizeAt cX9_sizeAt 3 (some .int) 1 := ⟨TT_of 609 (by decide +kernel) (by decide +kernel), TT_of 11 (by decide +kernel) (by decide +kernel), TT_of 49 (by decide +kernel) (by decide +kernel), TT_of 610 (by decide +kernel) (by decide +kernel), by decide +kernel, by decide +kernel, by decide +kernel⟩
theorem vy_X9_hardnessBehind : VY yX9_hardnessBehind cX9_hardnessBehind 5 (some .int) 3 := ⟨TT_of 617 (by decide +kernel) (by decide +kernel), TT_of 12 (by decide +kernel) (by decide +kernel), TT_of 49 (by decide +kernel) (by decide +kernel), TT_of 618 (by decide +kernel) (by decide +kernel), by decide +kernel, by decide +kernel, by decide +kernel⟩
theorem vy_X10_init : IY yX10_init cX10_init 1 0 := ⟨TT_of 70 (by decide +kernel) (by decide +kernel), rfl, TT_of 46 (by decide +kernel) (by decide +kernel), TT_of 71 (by decide +kernel) (by decide +kernel), by decide +kernel, by decide +kernel, by decide +kernel⟩
theorem vy_X10_admits : VY yX10_admits cX10_admits 3 (some .boolean) 2 := ⟨TT_of 355 (by decide +kernel) (by decide +kernel), TT_of 356 (by decide +kernel) (by decide +kernel), TT_of 46 (by decide +kernel) (by decide +kernel), TT_of 357 (by decide +kernel) (by decide +kernel), by decide +kernel, by decide +kernel, by decide +kernel⟩
theorem vy_X10_value : VY yX10_value cX10_value 2 (some .int) 1 := ⟨TT_of 364 (by decide +kernel) (by decide +kernel), TT_of 365 (by decide +kernel) (by decide +kernel), TT_of 46 (by decide +kernel) (by decide +kernel), TT_of 366 (by decide +kernel) (by decide +kernel), by decide +kernel, by decide +kernel, by decide +kernel⟩
theorem vy_X10_change : VY yX10_change cX10_change 3 none 2 := ⟨TT_of 368 (by decide +kernel) (by decide +kernel), TT_of 369 (by decide +kernel) (by decide +kernel), TT_of 46 (by decide +kernel) (by decide +kernel), TT_of 370 (by decide +kernel) (by decide +kernel), by decide +kernel, by decide +kernel, by decide +kernel⟩
theorem vy_X11_init : IY yX11_init cX11_init 2 0 := ⟨TT_of 62 (by decide +kernel) (by decide +kernel), rfl, TT_of 45 (by decide +kernel) (by decide +kernel), TT_of 63 (by decide +kernel) (by decide +kernel), by decide +kernel, by decide +kernel, by decide +kernel⟩
theorem vy_X11_metal : VY yX11_metal cX11_metal 8 (some .int) 6 := ⟨TT_of 340 (by decide +kernel) (by decide +kernel), TT_of 341 (by decide +kernel) (by decide +kernel), TT_of 45 (by decide +kernel) (by decide +kernel), TT_of 342 (by decide +kernel) (by decide +kernel), by decide +kernel, by decide +kernel, by decide +kernel⟩
theorem vy_X11_set : VY yX11_set cX11_set 4 (some .int) 2 := ⟨TT_of 351 (by decide +kernel) (by decide +kernel), TT_of 352 (by decide +kernel) (by decide +kernel), TT_of 45 (by decide +kernel) (by decide +kernel), TT_of 353 (by decide +kernel) (by decide +kernel), by decide +kernel, by decide +kernel, by decide +kernel⟩
theorem vy_X11_puller : VY yX11_puller cX11_puller 5 (some .int) 3 := ⟨TT_of 372 (by decide +kernel) (by decide +kernel), TT_of 373 (by decide +kernel) (by decide +kernel), TT_of 45 (by decide +kernel) (by decide +kernel), TT_of 374 (by decide +kernel) (by decide +kernel), by decide +kernel, by decide +kernel, by decide +kernel⟩
theorem vy_X11_hole : VY yX11_hole cX11_hole 4 (some .int) 2 := ⟨TT_of 381 (by decide +kernel) (by decide +kernel), TT_of 382 (by decide +kernel) (by decide +kernel), TT_of 45 (by decide +kernel) (by decide +kernel), TT_of 383 (by decide +kernel) (by decide +kernel), by decide +kernel, by decide +kernel, by decide +kernel⟩
theorem vy_X11_told : VY yX11_told cX11_told 5 (some .int) 3 := ⟨TT_of 413 (by decide +kernel) (by decide +kernel), TT_of 414 (by decide +kernel) (by decide +kernel), TT_of 45 (by decide +kernel) (by decide +kernel), TT_of 415 (by decide +kernel) (by decide +kernel), by decide +kernel, by decide +kernel, by decide +kernel⟩
theorem vy_X11_gauge : VY yX11_gauge cX11_gauge 4 (some .int) 2 := ⟨TT_of 434 (by decide +kernel) (by decide +kernel), TT_of 435 (by decide +kernel) (by decide +kernel), TT_of 45 (by decide +kernel) (by decide +kernel), TT_of 436 (by decide +kernel) (by decide +kernel), by decide +kernel, by decide +kernel, by decide +kernel⟩
theorem vy_X11_ream : VY yX11_ream cX11_ream 6 (some .int) 3 := ⟨TT_of 438 (by decide +kernel) (by decide +kernel), TT_of 439 (by decide +kernel) (by decide +kernel), TT_of 45 (by decide +kernel) (by decide +kernel), TT_of 440 (by decide +kernel) (by decide +kernel), by decide +kernel, by decide +kernel, by decide +kernel⟩
theorem vy_X11_coil : VY yX11_coil cX11_coil 7 (some .int) 4 := ⟨TT_of 442 (by decide +kernel) (by decide +kernel), TT_of 443 (by decide +kernel) (by decide +kernel), TT_of 45 (by decide +kernel) (by decide +kernel), TT_of 444 (by decide +kernel) (by decide +kernel), by decide +kernel, by decide +kernel, by decide +kernel⟩
theorem vy_X11_at : VY yX11_at cX11_at 4 (some .int) 2 := ⟨TT_of 487 (by decide +kernel) (by decide +kernel), TT_of 488 (by decide +kernel) (by decide +kernel), TT_of 45 (by decide +kernel) (by decide +kernel), TT_of 489 (by decide +kernel) (by decide +kernel), by decide +kernel, by decide +kernel, by decide +kernel⟩
theorem vy_X11_stuff : VY yX11_stuff cX11_stuff 3 (some .long) 1 := ⟨TT_of 511 (by decide +kernel) (by decide +kernel), TT_of 512 (by decide +kernel) (by decide +kernel), TT_of 45 (by decide +kernel) (by decide +kernel), TT_of 513 (by decide +kernel) (by decide +kernel), by decide +kernel, by decide +kernel, by decide +kernel⟩
theorem vy_X11_asks : VY yX11_asks cX11_asks 7 (some .int) 4 := ⟨TT_of 516 (by decide +kernel) (by decide +kernel), TT_of 517 (by decide +kernel) (by decide +kernel), TT_of 45 (by decide +kernel) (by decide +kernel), TT_of 518 (by decide +kernel) (by decide +kernel), by decide +kernel, by decide +kernel, by decide +kernel⟩
theorem vy_X11_draw : VY yX11_draw cX11_draw 9 (some .int) 4 := ⟨TT_of 533 (by decide +kernel) (by decide +kernel), TT_of 534 (by decide +kernel) (by decide +kernel), TT_of 45 (by decide +kernel) (by decide +kernel), TT_of 535 (by decide +kernel) (by decide +kernel), by decide +kernel, by decide +kernel, by decide +kernel⟩
theorem vy_X11_fire : VY yX11_fire cX11_fire 6 (some .int) 1 := ⟨TT_of 562 (by decide +kernel) (by decide +kernel), TT_of 563 (by decide +kernel) (by decide +kernel), TT_of 45 (by decide +kernel) (by decide +kernel), TT_of 564 (by decide +kernel) (by decide +kernel), by decide +kernel, by decide +kernel, by decide +kernel⟩
theorem vy_X11_part : VY yX11_part cX11_part 7 (some .int) 2 := ⟨TT_of 571 (by decide +kernel) (by decide +kernel), TT_of 572 (by decide +kernel) (by decide +kernel), TT_of 45 (by decide +kernel) (by decide +kernel), TT_of 573 (by decide +kernel) (by decide +kernel), by decide +kernel, by decide +kernel, by decide +kernel⟩
theorem vy_X11_join : VY yX11_join cX11_join 7 (some .int) 2 := ⟨TT_of 576 (by decide +kernel) (by decide +kernel), TT_of 577 (by decide +kernel) (by decide +kernel), TT_of 45 (by decide +kernel) (by decide +kernel), TT_of 578 (by decide +kernel) (by decide +kernel), by decide +kernel, by decide +kernel, by decide +kernel⟩
theorem vy_X11_scrap : VY yX11_scrap cX11_scrap 3 (some .int) 1 := ⟨TT_of 580 (by decide +kernel) (by decide +kernel), TT_of 581 (by decide +kernel) (by decide +kernel), TT_of 45 (by decide +kernel) (by decide +kernel), TT_of 582 (by decide +kernel) (by decide +kernel), by decide +kernel, by decide +kernel, by decide +kernel⟩
theorem vy_X11_ready : VY yX11_ready cX11_ready 3 (some .int) 1 := ⟨TT_of 584 (by decide +kernel) (by decide +kernel), TT_of 585 (by decide +kernel) (by decide +kernel), TT_of 45 (by decide +kernel) (by decide +kernel), TT_of 586 (by decide +kernel) (by decide +kernel), by decide +kernel, by decide +kernel, by decide +kernel⟩
theorem vy_X11_way : VY yX11_way cX11_way 6 (some .int) 5 := ⟨TT_of 588 (by decide +kernel) (by decide +kernel), TT_of 589 (by decide +kernel) (by decide +kernel), TT_of 45 (by decide +kernel) (by decide +kernel), TT_of 590 (by decide +kernel) (by decide +kernel), by decide +kernel, by decide +kernel, by decide +kernel⟩
theorem vy_X11_step : VY yX11_step cX11_step 8 (some .int) 6 := ⟨TT_of 628 (by decide +kernel) (by decide +kernel), TT_of 629 (by decide +kernel) (by decide +kernel), TT_of 45 (by decide +kernel) (by decide +kernel), TT_of 630 (by decide +kernel) (by decide +kernel), by decide +kernel, by decide +kernel, by decide +kernel⟩
theorem vy_X11_go : VY yX11_go cX11_go 11 (some .int) 5 := ⟨TT_of 636 (by decide +kernel) (by decide +kernel), TT_of 637 (by decide +kernel) (by decide +kernel), TT_of 45 (by decide +kernel) (by decide +kernel), TT_of 638 (by decide +kernel) (by decide +kernel), by decide +kernel, by decide +kernel, by decide +kernel⟩
theorem vy_X11_order : VY yX11_order cX11_order 6 (some .int) 4 := ⟨TT_of 642 (by decide +kernel) (by decide +kernel), TT_of 643 (by decide +kernel) (by decide +kernel), TT_of 45 (by decide +kernel) (by decide +kernel), TT_of 644 (by decide +kernel) (by decide +kernel), by decide +kernel, by decide +kernel, by decide +kernel⟩
theorem vy_X11_cutting : VY yX11_cutting cX11_cutting 1 (some .int) 0 := ⟨TT_of 670 (by decide +kernel) (by decide +kernel), TT_of 671 (by decide +kernel) (by decide +kernel), TT_of 45 (by decide +kernel) (by decide +kernel), TT_of 672 (by decide +kernel) (by decide +kernel), by decide +kernel, by decide +kernel, by decide +kernel⟩
theorem vy_X11_from : VY yX11_from cX11_from 2 (some .int) 1 := ⟨TT_of 706 (by decide +kernel) (by decide +kernel), TT_of 707 (by decide +kernel) (by decide +kernel), TT_of 45 (by decide +kernel) (by decide +kernel), TT_of 708 (by decide +kernel) (by decide +kernel), by decide +kernel, by decide +kernel, by decide +kernel⟩
theorem vy_X11_cut : VY yX11_cut cX11_cut 4 (some .int) 0 := ⟨TT_of 719 (by decide +kernel) (by decide +kernel), TT_of 720 (by decide +kernel) (by decide +kernel), TT_of 45 (by decide +kernel) (by decide +kernel), TT_of 721 (by decide +kernel) (by decide +kernel), by decide +kernel, by decide +kernel, by decide +kernel⟩
theorem vy_X11_filled : VY yX11_filled cX11_filled 3 (some .int) 1 := ⟨TT_of 732 (by decide +kernel) (by decide +kernel), TT_of 733 (by decide +kernel) (by decide +kernel), TT_of 45 (by decide +kernel) (by decide +kernel), TT_of 734 (by decide +kernel) (by decide +kernel), by decide +kernel, by decide +kernel, by decide +kernel⟩
theorem vy_X11_note : VY yX11_note cX11_note 3 (some .int) 2 := ⟨TT_of 736 (by decide +kernel) (by decide +kernel), TT_of 737 (by decide +kernel) (by decide +kernel), TT_of 45 (by decide +kernel) (by decide +kernel), TT_of 738 (by decide +kernel) (by decide +kernel), by decide +kernel, by decide +kernel, by decide +kernel⟩
theorem vy_X11_tally : VY yX11_tally cX11_tally 3 (some .int) 2 := ⟨TT_of 744 (by decide +kernel) (by decide +kernel), TT_of 745 (by decide +kernel) (by decide +kernel), TT_of 45 (by decide +kernel) (by decide +kernel), TT_of 746 (by decide +kernel) (by decide +kernel), by decide +kernel, by decide +kernel, by decide +kernel⟩
theorem vy_X11_by : VY yX11_by cX11_by 5 (some .int) 2 := ⟨TT_of 755 (by decide +kernel) (by decide +kernel), TT_of 756 (by decide +kernel) (by decide +kernel), TT_of 45 (by decide +kernel) (by decide +kernel), TT_of 757 (by decide +kernel) (by decide +kernel), by decide +kernel, by decide +kernel, by decide +kernel⟩
theorem vy_X11_chance : VY yX11_chance cX11_chance 2 (some .int) 1 := ⟨TT_of 776 (by decide +kernel) (by decide +kernel), TT_of 777 (by decide +kernel) (by decide +kernel), TT_of 45 (by decide +kernel) (by decide +kernel), TT_of 778 (by decide +kernel) (by decide +kernel), by decide +kernel, by decide +kernel, by decide +kernel⟩
theorem vy_X11_cause : VY yX11_cause cX11_cause 3 (some .int) 0 := ⟨TT_of 789 (by decide +kernel) (by decide +kernel), TT_of 790 (by decide +kernel) (by decide +kernel), TT_of 45 (by decide +kernel) (by decide +kernel), TT_of 791 (by decide +kernel) (by decide +kernel), by decide +kernel, by decide +kernel, by decide +kernel⟩
theorem vy_X11_account : VY yX11_account cX11_account 2 (some .long) 1 := ⟨TT_of 799 (by decide +kernel) (by decide +kernel), TT_of 800 (by decide +kernel) (by decide +kernel), TT_of 45 (by decide +kernel) (by decide +kernel), TT_of 801 (by decide +kernel) (by decide +kernel), by decide +kernel, by decide +kernel, by decide +kernel⟩
theorem vy_X11_count : VY yX11_count cX11_count 2 (some .int) 1 := ⟨TT_of 808 (by decide +kernel) (by decide +kernel), TT_of 809 (by decide +kernel) (by decide +kernel), TT_of 45 (by decide +kernel) (by decide +kernel), TT_of 810 (by decide +kernel) (by decide +kernel), by decide +kernel, by decide +kernel, by decide +kernel⟩
theorem vy_X11_metalAt : VY yX11_metalAt cX11_metalAt 2 (some (.object "WireMill$Metal")) 1 := ⟨TT_of 345 (by decide +kernel) (by decide +kernel), TT_of 0 (by decide +kernel) (by decide +kernel), TT_of 45 (by decide +kernel) (by decide +kernel), TT_of 346 (by decide +kernel) (by decide +kernel), by decide +kernel, by decide +kernel, by decide +kernel⟩
theorem vy_X11_pullerAt : VY yX11_pullerAt cX11_pullerAt 2 (some (.object "WireMill$Puller")) 1 := ⟨TT_of 377 (by decide +kernel) (by decide +kernel), TT_of 1 (by decide +kernel) (by decide +kernel), TT_of 45 (by decide +kernel) (by decide +kernel), TT_of 378 (by decide +kernel) (by decide +kernel), by decide +kernel, by decide +kernel, by decide +kernel⟩
theorem vy_X11_plateAt : VY yX11_plateAt cX11_plateAt 2 (some (.object "WireMill$Plate")) 1 := ⟨TT_of 386 (by decide +kernel) (by decide +kernel), TT_of 2 (by decide +kernel) (by decide +kernel), TT_of 45 (by decide +kernel) (by decide +kernel), TT_of 387 (by decide +kernel) (by decide +kernel), by decide +kernel, by decide +kernel, by decide +kernel⟩
theorem vy_X11_holeAt : VY yX11_holeAt cX11_holeAt 4 (some (.object "WireMill$Hole")) 2 := ⟨TT_of 418 (by decide +kernel) (by decide +kernel), TT_of 3 (by decide +kernel) (by decide +kernel), TT_of 45 (by decide +kernel) (by decide +kernel), TT_of 419 (by decide +kernel) (by decide +kernel), by decide +kernel, by decide +kernel, by decide +kernel⟩
theorem vy_X11_coilAt : VY yX11_coilAt cX11_coilAt 3 (some (.object "WireMill$Coil")) 1 := ⟨TT_of 492 (by decide +kernel) (by decide +kernel), TT_of 5 (by decide +kernel) (by decide +kernel), TT_of 45 (by decide +kernel) (by decide +kernel), TT_of 493 (by decide +kernel) (by decide +kernel), by decide +kernel, by decide +kernel, by decide +kernel⟩
theorem vy_X11_orderAt : VY yX11_orderAt cX11_orderAt 2 (some (.object "WireMill$Order")) 1 := ⟨TT_of 711 (by decide +kernel) (by decide +kernel), TT_of 17 (by decide +kernel) (by decide +kernel), TT_of 45 (by decide +kernel) (by decide +kernel), TT_of 712 (by decide +kernel) (by decide +kernel), by decide +kernel, by decide +kernel, by decide +kernel⟩
theorem vy_X11_addCoil : VY yX11_addCoil cX11_addCoil 2 (some .int) 1 := ⟨TT_of 484 (by decide +kernel) (by decide +kernel), TT_of 4 (by decide +kernel) (by decide +kernel), TT_of 45 (by decide +kernel) (by decide +kernel), TT_of 485 (by decide +kernel) (by decide +kernel), by decide +kernel, by decide +kernel, by decide +kernel⟩
theorem vy_X11_pullThrough : VY yX11_pullThrough cX11_pullThrough 7 (some .int) 3 := ⟨TT_of 550 (by decide +kernel) (by decide +kernel), TT_of 7 (by decide +kernel) (by decide +kernel), TT_of 45 (by decide +kernel) (by decide +kernel), TT_of 551 (by decide +kernel) (by decide +kernel), by decide +kernel, by decide +kernel, by decide +kernel⟩
theorem vy_X11_throwAway : VY yX11_throwAway cX11_throwAway 2 none 1 := ⟨TT_of 568 (by decide +kernel) (by decide +kernel), TT_of 8 (by decide +kernel) (by decide +kernel), TT_of 45 (by decide +kernel) (by decide +kernel), TT_of 569 (by decide +kernel) (by decide +kernel), by decide +kernel, by decide +kernel, by decide +kernel⟩
theorem vy_X11_deliver : VY yX11_deliver cX11_deliver 5 none 2 := ⟨TT_of 724 (by decide +kernel) (by decide +kernel), TT_of 18 (by decide +kernel) (by decide +kernel), TT_of 45 (by decide +kernel) (by decide +kernel), TT_of 725 (by decide +kernel) (by decide +kernel), by decide +kernel, by decide +kernel, by decide +kernel⟩
theorem vy_X11_pullOf : VY yX11_pullOf cX11_pullOf 2 (some .int) 1 := ⟨TT_of 538 (by decide +kernel) (by decide +kernel), TT_of 6 (by decide +kernel) (by decide +kernel), TT_of 45 (by decide +kernel) (by decide +kernel), TT_of 539 (by decide +kernel) (by decide +kernel), by decide +kernel, by decide +kernel, by decide +kernel⟩
theorem vy_X11_seekWay : VY yX11_seekWay cX11_seekWay 9 (some .int) 5 := ⟨TT_of 593 (by decide +kernel) (by decide +kernel), TT_of 9 (by decide +kernel) (by decide +kernel), TT_of 45 (by decide +kernel) (by decide +kernel), TT_of 594 (by decide +kernel) (by decide +kernel), by decide +kernel, by decide +kernel, by decide +kernel⟩
theorem vy_X11_stuffInCoils : VY yX11_stuffInCoils cX11_stuffInCoils 4 (some .long) 0 := ⟨TT_of 804 (by decide +kernel) (by decide +kernel), TT_of 19 (by decide +kernel) (by decide +kernel), TT_of 45 (by decide +kernel) (by decide +kernel), TT_of 805 (by decide +kernel) (by decide +kernel), by decide +kernel, by decide +kernel, by decide +kernel⟩
theorem vy_X11_coilsLeft : VY yX11_coilsLeft cX11_coilsLeft 3 (some .int) 0 := ⟨TT_of 813 (by decide +kernel) (by decide +kernel), TT_of 20 (by decide +kernel) (by decide +kernel), TT_of 45 (by decide +kernel) (by decide +kernel), TT_of 814 (by decide +kernel) (by decide +kernel), by decide +kernel, by decide +kernel, by decide +kernel⟩
theorem vy_X11_ordersFilled : VY yX11_ordersFilled cX11_ordersFilled 3 (some .int) 0 := ⟨TT_of 817 (by decide +kernel) (by decide +kernel), TT_of 21 (by decide +kernel) (by decide +kernel), TT_of 45 (by decide +kernel) (by decide +kernel), TT_of 818 (by decide +kernel) (by decide +kernel), by decide +kernel, by decide +kernel, by decide +kernel⟩
theorem vy_X11_isWithin : SY yX11_isWithin cX11_isWithin 3 (some .boolean) 3 := ⟨TT_of 348 (by decide +kernel) (by decide +kernel), TT_of 45 (by decide +kernel) (by decide +kernel), TT_of 349 (by decide +kernel) (by decide +kernel), by decide +kernel, by decide +kernel, by decide +kernel⟩
theorem vy_X11_isSize : SY yX11_isSize cX11_isSize 1 (some .boolean) 1 := ⟨TT_of 389 (by decide +kernel) (by decide +kernel), TT_of 45 (by decide +kernel) (by decide +kernel), TT_of 390 (by decide +kernel) (by decide +kernel), by decide +kernel, by decide +kernel, by decide +kernel⟩
theorem vy_X11_isRange : SY yX11_isRange cX11_isRange 2 (some .boolean) 2 := ⟨TT_of 596 (by decide +kernel) (by decide +kernel), TT_of 45 (by decide +kernel) (by decide +kernel), TT_of 597 (by decide +kernel) (by decide +kernel), by decide +kernel, by decide +kernel, by decide +kernel⟩
theorem vy_X11_isCause : SY yX11_isCause cX11_isCause 1 (some .boolean) 1 := ⟨TT_of 748 (by decide +kernel) (by decide +kernel), TT_of 45 (by decide +kernel) (by decide +kernel), TT_of 749 (by decide +kernel) (by decide +kernel), by decide +kernel, by decide +kernel, by decide +kernel⟩
theorem vy_X11_quotient : SY yX11_quotient cX11_quotient 4 (some .long) 2 := ⟨TT_of 507 (by decide +kernel) (by decide +kernel), TT_of 45 (by decide +kernel) (by decide +kernel), TT_of 508 (by decide +kernel) (by decide +kernel), by decide +kernel, by decide +kernel, by decide +kernel⟩
theorem vy_X11_commonDivisor : SY yX11_commonDivisor cX11_commonDivisor 6 (some .int) 2 := ⟨TT_of 772 (by decide +kernel) (by decide +kernel), TT_of 45 (by decide +kernel) (by decide +kernel), TT_of 773 (by decide +kernel) (by decide +kernel), by decide +kernel, by decide +kernel, by decide +kernel⟩
theorem vy_X11_choices : SY yX11_choices cX11_choices 6 (some .long) 2 := ⟨TT_of 784 (by decide +kernel) (by decide +kernel), TT_of 45 (by decide +kernel) (by decide +kernel), TT_of 785 (by decide +kernel) (by decide +kernel), by decide +kernel, by decide +kernel, by decide +kernel⟩
theorem vy_X12_init : IY yX12_init cX12_init 2 0 := ⟨TT_of 822 (by decide +kernel) (by decide +kernel), rfl, TT_of 54 (by decide +kernel) (by decide +kernel), TT_of 823 (by decide +kernel) (by decide +kernel), by decide +kernel, by decide +kernel, by decide +kernel⟩
theorem vy_X12_within : SY yX12_within cX12_within 3 (some .boolean) 3 := ⟨TT_of 983 (by decide +kernel) (by decide +kernel), TT_of 54 (by decide +kernel) (by decide +kernel), TT_of 984 (by decide +kernel) (by decide +kernel), by decide +kernel, by decide +kernel, by decide +kernel⟩
theorem vy_X12_isMetal : SY yX12_isMetal cX12_isMetal 1 (some .boolean) 1 := ⟨TT_of 980 (by decide +kernel) (by decide +kernel), TT_of 54 (by decide +kernel) (by decide +kernel), TT_of 981 (by decide +kernel) (by decide +kernel), by decide +kernel, by decide +kernel, by decide +kernel⟩
theorem vy_X12_isCoil : VY yX12_isCoil cX12_isCoil 2 (some .boolean) 1 := ⟨TT_of 1048 (by decide +kernel) (by decide +kernel), TT_of 26 (by decide +kernel) (by decide +kernel), TT_of 54 (by decide +kernel) (by decide +kernel), TT_of 1049 (by decide +kernel) (by decide +kernel), by decide +kernel, by decide +kernel, by decide +kernel⟩
theorem vy_X12_isHole : VY yX12_isHole cX12_isHole 3 (some .boolean) 2 := ⟨TT_of 1016 (by decide +kernel) (by decide +kernel), TT_of 22 (by decide +kernel) (by decide +kernel), TT_of 54 (by decide +kernel) (by decide +kernel), TT_of 1017 (by decide +kernel) (by decide +kernel), by decide +kernel, by decide +kernel, by decide +kernel⟩
theorem vy_X12_isPuller : SY yX12_isPuller cX12_isPuller 1 (some .boolean) 1 := ⟨TT_of 1000 (by decide +kernel) (by decide +kernel), TT_of 54 (by decide +kernel) (by decide +kernel), TT_of 1001 (by decide +kernel) (by decide +kernel), by decide +kernel, by decide +kernel, by decide +kernel⟩
theorem vy_X12_isSize : SY yX12_isSize cX12_isSize 1 (some .boolean) 1 := ⟨TT_of 1008 (by decide +kernel) (by decide +kernel), TT_of 54 (by decide +kernel) (by decide +kernel), TT_of 1009 (by decide +kernel) (by decide +kernel), by decide +kernel, by decide +kernel, by decide +kernel⟩
theorem vy_X12_metal : VY yX12_metal cX12_metal 7 (some .int) 6 := ⟨TT_of 976 (by decide +kernel) (by decide +kernel), TT_of 977 (by decide +kernel) (by decide +kernel), TT_of 54 (by decide +kernel) (by decide +kernel), TT_of 978 (by decide +kernel) (by decide +kernel), by decide +kernel, by decide +kernel, by decide +kernel⟩
theorem vy_X12_leastOf : SY yX12_leastOf cX12_leastOf 1 (some .int) 1 := ⟨TT_of 990 (by decide +kernel) (by decide +kernel), TT_of 54 (by decide +kernel) (by decide +kernel), TT_of 991 (by decide +kernel) (by decide +kernel), by decide +kernel, by decide +kernel, by decide +kernel⟩
theorem vy_X12_mostOf : SY yX12_mostOf cX12_mostOf 1 (some .int) 1 := ⟨TT_of 993 (by decide +kernel) (by decide +kernel), TT_of 54 (by decide +kernel) (by decide +kernel), TT_of 994 (by decide +kernel) (by decide +kernel), by decide +kernel, by decide +kernel, by decide +kernel⟩
theorem vy_X12_set : VY yX12_set cX12_set 4 (some .int) 2 := ⟨TT_of 986 (by decide +kernel) (by decide +kernel), TT_of 987 (by decide +kernel) (by decide +kernel), TT_of 54 (by decide +kernel) (by decide +kernel), TT_of 988 (by decide +kernel) (by decide +kernel), by decide +kernel, by decide +kernel, by decide +kernel⟩
theorem vy_X12_puller : VY yX12_puller cX12_puller 4 (some .int) 3 := ⟨TT_of 996 (by decide +kernel) (by decide +kernel), TT_of 997 (by decide +kernel) (by decide +kernel), TT_of 54 (by decide +kernel) (by decide +kernel), TT_of 998 (by decide +kernel) (by decide +kernel), by decide +kernel, by decide +kernel, by decide +kernel⟩
theorem vy_X12_hole : VY yX12_hole cX12_hole 4 (some .int) 2 := ⟨TT_of 1004 (by decide +kernel) (by decide +kernel), TT_of 1005 (by decide +kernel) (by decide +kernel), TT_of 54 (by decide +kernel) (by decide +kernel), TT_of 1006 (by decide +kernel) (by decide +kernel), by decide +kernel, by decide +kernel, by decide +kernel⟩
theorem vy_X12_wide : VY yX12_wide cX12_wide 2 (some .int) 1 := ⟨TT_of 1020 (by decide +kernel) (by decide +kernel), TT_of 23 (by decide +kernel) (by decide +kernel), TT_of 54 (by decide +kernel) (by decide +kernel), TT_of 1021 (by decide +kernel) (by decide +kernel), by decide +kernel, by decide +kernel, by decide +kernel⟩
theorem vy_X12_isSpent : VY yX12_isSpent cX12_isSpent 2 (some .boolean) 1 := ⟨TT_of 1024 (by decide +kernel) (by decide +kernel), TT_of 24 (by decide +kernel) (by decide +kernel), TT_of 54 (by decide +kernel) (by decide +kernel), TT_of 1025 (by decide +kernel) (by decide +kernel), by decide +kernel, by decide +kernel, by decide +kernel⟩
theorem vy_X12_told : VY yX12_told cX12_told 5 (some .int) 3 := ⟨TT_of 1011 (by decide +kernel) (by decide +kernel), TT_of 1012 (by decide +kernel) (by decide +kernel), TT_of 54 (by decide +kernel) (by decide +kernel), TT_of 1013 (by decide +kernel) (by decide +kernel), by decide +kernel, by decide +kernel, by decide +kernel⟩
theorem vy_X12_gauge : VY yX12_gauge cX12_gauge 3 (some .int) 2 := ⟨TT_of 1027 (by decide +kernel) (by decide +kernel), TT_of 1028 (by decide +kernel) (by decide +kernel), TT_of 54 (by decide +kernel) (by decide +kernel), TT_of 1029 (by decide +kernel) (by decide +kernel), by decide +kernel, by decide +kernel, by decide +kernel⟩
theorem vy_X12_ream : VY yX12_ream cX12_ream 5 (some .int) 3 := ⟨TT_of 1031 (by decide +kernel) (by decide +kernel), TT_of 1032 (by decide +kernel) (by decide +kernel), TT_of 54 (by decide +kernel) (by decide +kernel), TT_of 1033 (by decide +kernel) (by decide +kernel), by decide +kernel, by decide +kernel, by decide +kernel⟩
theorem vy_X12_newCoil : VY yX12_newCoil cX12_newCoil 5 (some .int) 3 := ⟨TT_of 1040 (by decide +kernel) (by decide +kernel), TT_of 25 (by decide +kernel) (by decide +kernel), TT_of 54 (by decide +kernel) (by decide +kernel), TT_of 1041 (by decide +kernel) (by decide +kernel), by decide +kernel, by decide +kernel, by decide +kernel⟩
theorem vy_X12_coil : VY yX12_coil cX12_coil 8 (some .int) 4 := ⟨TT_of 1035 (by decide +kernel) (by decide +kernel), TT_of 1036 (by decide +kernel) (by decide +kernel), TT_of 54 (by decide +kernel) (by decide +kernel), TT_of 1037 (by decide +kernel) (by decide +kernel), by decide +kernel, by decide +kernel, by decide +kernel⟩
theorem vy_X12_feetOf : VY yX12_feetOf cX12_feetOf 2 (some .int) 1 := ⟨TT_of 1052 (by decide +kernel) (by decide +kernel), TT_of 27 (by decide +kernel) (by decide +kernel), TT_of 54 (by decide +kernel) (by decide +kernel), TT_of 1053 (by decide +kernel) (by decide +kernel), by decide +kernel, by decide +kernel, by decide +kernel⟩
theorem vy_X12_tidy : VY yX12_tidy cX12_tidy 2 none 1 := ⟨TT_of 1101 (by decide +kernel) (by decide +kernel), TT_of 33 (by decide +kernel) (by decide +kernel), TT_of 54 (by decide +kernel) (by decide +kernel), TT_of 1102 (by decide +kernel) (by decide +kernel), by decide +kernel, by decide +kernel, by decide +kernel⟩
theorem vy_X12_at : VY yX12_at cX12_at 3 (some .int) 2 := ⟨TT_of 1043 (by decide +kernel) (by decide +kernel), TT_of 1044 (by decide +kernel) (by decide +kernel), TT_of 54 (by decide +kernel) (by decide +kernel), TT_of 1045 (by decide +kernel) (by decide +kernel), by decide +kernel, by decide +kernel, by decide +kernel⟩
theorem vy_X12_stuff : VY yX12_stuff cX12_stuff 2 (some .long) 1 := ⟨TT_of 1055 (by decide +kernel) (by decide +kernel), TT_of 1056 (by decide +kernel) (by decide +kernel), TT_of 54 (by decide +kernel) (by decide +kernel), TT_of 1057 (by decide +kernel) (by decide +kernel), by decide +kernel, by decide +kernel, by decide +kernel⟩
theorem vy_X12_thinner : SY yX12_thinner cX12_thinner 2 (some .int) 2 := ⟨TT_of 1077 (by decide +kernel) (by decide +kernel), TT_of 54 (by decide +kernel) (by decide +kernel), TT_of 1078 (by decide +kernel) (by decide +kernel), by decide +kernel, by decide +kernel, by decide +kernel⟩
theorem vy_X12_harder : VY yX12_harder cX12_harder 5 (some .int) 4 := ⟨TT_of 1074 (by decide +kernel) (by decide +kernel), TT_of 30 (by decide +kernel) (by decide +kernel), TT_of 54 (by decide +kernel) (by decide +kernel), TT_of 1075 (by decide +kernel) (by decide +kernel), by decide +kernel, by decide +kernel, by decide +kernel⟩
theorem vy_X12_asksOf : VY yX12_asksOf cX12_asksOf 7 (some .long) 4 := ⟨TT_of 1065 (by decide +kernel) (by decide +kernel), TT_of 28 (by decide +kernel) (by decide +kernel), TT_of 54 (by decide +kernel) (by decide +kernel), TT_of 1066 (by decide +kernel) (by decide +kernel), by decide +kernel, by decide +kernel, by decide +kernel⟩
theorem vy_X12_bearsOf : VY yX12_bearsOf cX12_bearsOf 8 (some .long) 5 := ⟨TT_of 1070 (by decide +kernel) (by decide +kernel), TT_of 29 (by decide +kernel) (by decide +kernel), TT_of 54 (by decide +kernel) (by decide +kernel), TT_of 1071 (by decide +kernel) (by decide +kernel), by decide +kernel, by decide +kernel, by decide +kernel⟩
theorem vy_X12_asks : VY yX12_asks cX12_asks 6 (some .int) 4 := ⟨TT_of 1060 (by decide +kernel) (by decide +kernel), TT_of 1061 (by decide +kernel) (by decide +kernel), TT_of 54 (by decide +kernel) (by decide +kernel), TT_of 1062 (by decide +kernel) (by decide +kernel), by decide +kernel, by decide +kernel, by decide +kernel⟩
theorem vy_X12_pullOf : VY yX12_pullOf cX12_pullOf 2 (some .long) 1 := ⟨TT_of 1092 (by decide +kernel) (by decide +kernel), TT_of 32 (by decide +kernel) (by decide +kernel), TT_of 54 (by decide +kernel) (by decide +kernel), TT_of 1093 (by decide +kernel) (by decide +kernel), by decide +kernel, by decide +kernel, by decide +kernel⟩
theorem vy_X12_against : VY yX12_against cX12_against 8 (some .int) 5 := ⟨TT_of 1088 (by decide +kernel) (by decide +kernel), TT_of 31 (by decide +kernel) (by decide +kernel), TT_of 54 (by decide +kernel) (by decide +kernel), TT_of 1089 (by decide +kernel) (by decide +kernel), by decide +kernel, by decide +kernel, by decide +kernel⟩
theorem vy_X12_draw : VY yX12_draw cX12_draw 11 (some .int) 4 := ⟨TT_of 1083 (by decide +kernel) (by decide +kernel), TT_of 1084 (by decide +kernel) (by decide +kernel), TT_of 54 (by decide +kernel) (by decide +kernel), TT_of 1085 (by decide +kernel) (by decide +kernel), by decide +kernel, by decide +kernel, by decide +kernel⟩
theorem vy_X12_fire : VY yX12_fire cX12_fire 5 (some .int) 1 := ⟨TT_of 1096 (by decide +kernel) (by decide +kernel), TT_of 1097 (by decide +kernel) (by decide +kernel), TT_of 54 (by decide +kernel) (by decide +kernel), TT_of 1098 (by decide +kernel) (by decide +kernel), by decide +kernel, by decide +kernel, by decide +kernel⟩
theorem vy_X12_part : VY yX12_part cX12_part 6 (some .int) 2 := ⟨TT_of 1104 (by decide +kernel) (by decide +kernel), TT_of 1105 (by decide +kernel) (by decide +kernel), TT_of 54 (by decide +kernel) (by decide +kernel), TT_of 1106 (by decide +kernel) (by decide +kernel), by decide +kernel, by decide +kernel, by decide +kernel⟩
theorem vy_X12_join : VY yX12_join cX12_join 5 (some .int) 2 := ⟨TT_of 1108 (by decide +kernel) (by decide +kernel), TT_of 1109 (by decide +kernel) (by decide +kernel), TT_of 54 (by decide +kernel) (by decide +kernel), TT_of 1110 (by decide +kernel) (by decide +kernel), by decide +kernel, by decide +kernel, by decide +kernel⟩
theorem vy_X12_scrap : VY yX12_scrap cX12_scrap 2 (some .int) 1 := ⟨TT_of 1112 (by decide +kernel) (by decide +kernel), TT_of 1113 (by decide +kernel) (by decide +kernel), TT_of 54 (by decide +kernel) (by decide +kernel), TT_of 1114 (by decide +kernel) (by decide +kernel), by decide +kernel, by decide +kernel, by decide +kernel⟩
theorem vy_X12_ready : VY yX12_ready cX12_ready 2 (some .int) 1 := ⟨TT_of 1116 (by decide +kernel) (by decide +kernel), TT_of 1117 (by decide +kernel) (by decide +kernel), TT_of 54 (by decide +kernel) (by decide +kernel), TT_of 1118 (by decide +kernel) (by decide +kernel), by decide +kernel, by decide +kernel, by decide +kernel⟩
theorem vy_X12_findCost : VY yX12_findCost cX12_findCost 14 none 6 := ⟨TT_of 1133 (by decide +kernel) (by decide +kernel), TT_of 36 (by decide +kernel) (by decide +kernel), TT_of 54 (by decide +kernel) (by decide +kernel), TT_of 1134 (by decide +kernel) (by decide +kernel), by decide +kernel, by decide +kernel, by decide +kernel⟩
theorem vy_X12_findWay : VY yX12_findWay cX12_findWay 10 (some .boolean) 5 := ⟨TT_of 1129 (by decide +kernel) (by decide +kernel), TT_of 35 (by decide +kernel) (by decide +kernel), TT_of 54 (by decide +kernel) (by decide +kernel), TT_of 1130 (by decide +kernel) (by decide +kernel), by decide +kernel, by decide +kernel, by decide +kernel⟩
theorem vy_X12_wrong : VY yX12_wrong cX12_wrong 6 (some .int) 5 := ⟨TT_of 1125 (by decide +kernel) (by decide +kernel), TT_of 34 (by decide +kernel) (by decide +kernel), TT_of 54 (by decide +kernel) (by decide +kernel), TT_of 1126 (by decide +kernel) (by decide +kernel), by decide +kernel, by decide +kernel, by decide +kernel⟩
theorem vy_X12_way : VY yX12_way cX12_way 8 (some .int) 5 := ⟨TT_of 1120 (by decide +kernel) (by decide +kernel), TT_of 1121 (by decide +kernel) (by decide +kernel), TT_of 54 (by decide +kernel) (by decide +kernel), TT_of 1122 (by decide +kernel) (by decide +kernel), by decide +kernel, by decide +kernel, by decide +kernel⟩
theorem vy_X12_step : VY yX12_step cX12_step 8 (some .int) 6 := ⟨TT_of 1137 (by decide +kernel) (by decide +kernel), TT_of 1138 (by decide +kernel) (by decide +kernel), TT_of 54 (by decide +kernel) (by decide +kernel), TT_of 1139 (by decide +kernel) (by decide +kernel), by decide +kernel, by decide +kernel, by decide +kernel⟩
theorem vy_X12_go : VY yX12_go cX12_go 10 (some .int) 5 := ⟨TT_of 1141 (by decide +kernel) (by decide +kernel), TT_of 1142 (by decide +kernel) (by decide +kernel), TT_of 54 (by decide +kernel) (by decide +kernel), TT_of 1143 (by decide +kernel) (by decide +kernel), by decide +kernel, by decide +kernel, by decide +kernel⟩
theorem vy_X12_order : VY yX12_order cX12_order 5 (some .int) 4 := ⟨TT_of 1147 (by decide +kernel) (by decide +kernel), TT_of 1148 (by decide +kernel) (by decide +kernel), TT_of 54 (by decide +kernel) (by decide +kernel), TT_of 1149 (by decide +kernel) (by decide +kernel), by decide +kernel, by decide +kernel, by decide +kernel⟩
theorem vy_X12_mayCut : VY yX12_mayCut cX12_mayCut 3 (some .boolean) 2 := ⟨TT_of 1160 (by decide +kernel) (by decide +kernel), TT_of 38 (by decide +kernel) (by decide +kernel), TT_of 54 (by decide +kernel) (by decide +kernel), TT_of 1161 (by decide +kernel) (by decide +kernel), by decide +kernel, by decide +kernel, by decide +kernel⟩
theorem vy_X12_findCutting : VY yX12_findCutting cX12_findCutting 9 none 0 := ⟨TT_of 1156 (by decide +kernel) (by decide +kernel), TT_of 37 (by decide +kernel) (by decide +kernel), TT_of 54 (by decide +kernel) (by decide +kernel), TT_of 1157 (by decide +kernel) (by decide +kernel), by decide +kernel, by decide +kernel, by decide +kernel⟩
theorem vy_X12_cutting : VY yX12_cutting cX12_cutting 1 (some .int) 0 := ⟨TT_of 1151 (by decide +kernel) (by decide +kernel), TT_of 1152 (by decide +kernel) (by decide +kernel), TT_of 54 (by decide +kernel) (by decide +kernel), TT_of 1153 (by decide +kernel) (by decide +kernel), by decide +kernel, by decide +kernel, by decide +kernel⟩
theorem vy_X12_from : VY yX12_from cX12_from 2 (some .int) 1 := ⟨TT_of 1163 (by decide +kernel) (by decide +kernel), TT_of 1164 (by decide +kernel) (by decide +kernel), TT_of 54 (by decide +kernel) (by decide +kernel), TT_of 1165 (by decide +kernel) (by decide +kernel), by decide +kernel, by decide +kernel, by decide +kernel⟩
theorem vy_X12_cut : VY yX12_cut cX12_cut 6 (some .int) 0 := ⟨TT_of 1167 (by decide +kernel) (by decide +kernel), TT_of 1168 (by decide +kernel) (by decide +kernel), TT_of 54 (by decide +kernel) (by decide +kernel), TT_of 1169 (by decide +kernel) (by decide +kernel), by decide +kernel, by decide +kernel, by decide +kernel⟩
theorem vy_X12_filled : VY yX12_filled cX12_filled 2 (some .int) 1 := ⟨TT_of 1171 (by decide +kernel) (by decide +kernel), TT_of 1172 (by decide +kernel) (by decide +kernel), TT_of 54 (by decide +kernel) (by decide +kernel), TT_of 1173 (by decide +kernel) (by decide +kernel), by decide +kernel, by decide +kernel, by decide +kernel⟩
theorem vy_X12_note : VY yX12_note cX12_note 3 (some .int) 2 := ⟨TT_of 1175 (by decide +kernel) (by decide +kernel), TT_of 1176 (by decide +kernel) (by decide +kernel), TT_of 54 (by decide +kernel) (by decide +kernel), TT_of 1177 (by decide +kernel) (by decide +kernel), by decide +kernel, by decide +kernel, by decide +kernel⟩
theorem vy_X12_tallyOf : VY yX12_tallyOf cX12_tallyOf 6 (some .int) 2 := ⟨TT_of 1184 (by decide +kernel) (by decide +kernel), TT_of 39 (by decide +kernel) (by decide +kernel), TT_of 54 (by decide +kernel) (by decide +kernel), TT_of 1185 (by decide +kernel) (by decide +kernel), by decide +kernel, by decide +kernel, by decide +kernel⟩
theorem vy_X12_tally : VY yX12_tally cX12_tally 3 (some .int) 2 := ⟨TT_of 1179 (by decide +kernel) (by decide +kernel), TT_of 1180 (by decide +kernel) (by decide +kernel), TT_of 54 (by decide +kernel) (by decide +kernel), TT_of 1181 (by decide +kernel) (by decide +kernel), by decide +kernel, by decide +kernel, by decide +kernel⟩
theorem vy_X12_common : SY yX12_common cX12_common 5 (some .int) 2 := ⟨TT_of 1200 (by decide +kernel) (by decide +kernel), TT_of 54 (by decide +kernel) (by decide +kernel), TT_of 1201 (by decide +kernel) (by decide +kernel), by decide +kernel, by decide +kernel, by decide +kernel⟩
theorem vy_X12_aboveOf : VY yX12_aboveOf cX12_aboveOf 4 (some .int) 1 := ⟨TT_of 1197 (by decide +kernel) (by decide +kernel), TT_of 41 (by decide +kernel) (by decide +kernel), TT_of 54 (by decide +kernel) (by decide +kernel), TT_of 1198 (by decide +kernel) (by decide +kernel), by decide +kernel, by decide +kernel, by decide +kernel⟩
theorem vy_X12_belowOf : VY yX12_belowOf cX12_belowOf 2 (some .int) 1 := ⟨TT_of 1192 (by decide +kernel) (by decide +kernel), TT_of 40 (by decide +kernel) (by decide +kernel), TT_of 54 (by decide +kernel) (by decide +kernel), TT_of 1193 (by decide +kernel) (by decide +kernel), by decide +kernel, by decide +kernel, by decide +kernel⟩
theorem vy_X12_by : VY yX12_by cX12_by 4 (some .int) 2 := ⟨TT_of 1187 (by decide +kernel) (by decide +kernel), TT_of 1188 (by decide +kernel) (by decide +kernel), TT_of 54 (by decide +kernel) (by decide +kernel), TT_of 1189 (by decide +kernel) (by decide +kernel), by decide +kernel, by decide +kernel, by decide +kernel⟩
theorem vy_X12_choose : VY yX12_choose cX12_choose 5 (some .long) 2 := ⟨TT_of 1212 (by decide +kernel) (by decide +kernel), TT_of 43 (by decide +kernel) (by decide +kernel), TT_of 54 (by decide +kernel) (by decide +kernel), TT_of 1213 (by decide +kernel) (by decide +kernel), by decide +kernel, by decide +kernel, by decide +kernel⟩
theorem vy_X12_isMore : VY yX12_isMore cX12_isMore 9 (some .boolean) 1 := ⟨TT_of 1208 (by decide +kernel) (by decide +kernel), TT_of 42 (by decide +kernel) (by decide +kernel), TT_of 54 (by decide +kernel) (by decide +kernel), TT_of 1209 (by decide +kernel) (by decide +kernel), by decide +kernel, by decide +kernel, by decide +kernel⟩
theorem vy_X12_chance : VY yX12_chance cX12_chance 2 (some .int) 1 := ⟨TT_of 1203 (by decide +kernel) (by decide +kernel), TT_of 1204 (by decide +kernel) (by decide +kernel), TT_of 54 (by decide +kernel) (by decide +kernel), TT_of 1205 (by decide +kernel) (by decide +kernel), by decide +kernel, by decide +kernel, by decide +kernel⟩
theorem vy_X12_cause : VY yX12_cause cX12_cause 3 (some .int) 0 := ⟨TT_of 1216 (by decide +kernel) (by decide +kernel), TT_of 1217 (by decide +kernel) (by decide +kernel), TT_of 54 (by decide +kernel) (by decide +kernel), TT_of 1218 (by decide +kernel) (by decide +kernel), by decide +kernel, by decide +kernel, by decide +kernel⟩
theorem vy_X12_account : VY yX12_account cX12_account 5 (some .long) 1 := ⟨TT_of 1220 (by decide +kernel) (by decide +kernel), TT_of 1221 (by decide +kernel) (by decide +kernel), TT_of 54 (by decide +kernel) (by decide +kernel), TT_of 1222 (by decide +kernel) (by decide +kernel), by decide +kernel, by decide +kernel, by decide +kernel⟩
theorem vy_X12_count : VY yX12_count cX12_count 4 (some .int) 1 := ⟨TT_of 1225 (by decide +kernel) (by decide +kernel), TT_of 1226 (by decide +kernel) (by decide +kernel), TT_of 54 (by decide +kernel) (by decide +kernel), TT_of 1227 (by decide +kernel) (by decide +kernel), by decide +kernel, by decide +kernel, by decide +kernel⟩
theorem ob_i : Cond.instanceMethod objectInit ∈ TT := TT_of 65 (by decide +kernel) (by decide +kernel)
theorem ob_c : Cond.code objectInit ⟨#[0xb1]⟩ 1 none ∈ TT := TT_of 66 (by decide +kernel) (by decide +kernel)
theorem mh_max_s : Cond.static Lib.Math.max.name ∈ TT := TT_of 554 (by decide +kernel) (by decide +kernel)
theorem mh_max_c : Cond.code Lib.Math.max.name Lib.Math.max.code 2 (some .int) ∈ TT := TT_of 555 (by decide +kernel) (by decide +kernel)
theorem mh_min_s : Cond.static Lib.Math.min.name ∈ TT := TT_of 621 (by decide +kernel) (by decide +kernel)
theorem mh_min_c : Cond.code Lib.Math.min.name Lib.Math.min.code 2 (some .int) ∈ TT := TT_of 622 (by decide +kernel) (by decide +kernel)
theorem mh_abs_s : Cond.static Lib.Math.abs.name ∈ TT := TT_of 769 (by decide +kernel) (by decide +kernel)
theorem mh_abs_c : Cond.code Lib.Math.abs.name Lib.Math.abs.code 1 (some .int) ∈ TT := TT_of 770 (by decide +kernel) (by decide +kernel)
end
section
set_option maxHeartbeats 4000000 in
set_option maxRecDepth 100000 in
/-- least to most -/
theorem c_X12_within (E : cE) (tt : Nat × Nat × Nat) (ws : va_W) (v a b : Int32)  : CT E tt yX12_within cX12_within 3 (some .boolean) 0 0 0 [.int (v), .int (a), .int (b)] ws (fun r w => ((a ≤ v ∧ v ≤ b) ∧ r = some (.int 1) ∧ w = ws) ∨ (¬ (a ≤ v ∧ v ≤ b) ∧ r = some (.int 0) ∧ w = ws)) := by
  refine CT.mk (by decide +kernel) (Nat.le_of_ble_eq_true rfl) ?_
  intro l p e s m below meth c A ls C hr hlk hnm hw hl
  have hx := C.1
  have hb := C.2.1
  have hts := C.2.2.2.2
  have hown : s.vm.findClass RX12 = some m.cls := C.2.2.2.1
  have hl : lv_has ls 3 [(0, .int (v)), (1, .int (a)), (2, .int (b))] := hl
  refine lv_iload_n hx hb dX12_within_0 rfl (lv_at hl 0 rfl) ?_
  refine lv_iload_n hx hb dX12_within_1 rfl (lv_at hl 1 rfl) ?_
  refine lv_icmp_lt (tgt := 14) hx hb dX12_within_2 (by decide) (fun c_2 => ?_) (fun c_2 => ?_)
  · refine lv_iconst (v := 0) hx hb dX12_within_14 (by decide) ?_
    exact r_z C hr hlk hw rfl (Or.inr ⟨(by simp only [gt_iff_lt, ge_iff_le, Int32.lt_iff_toInt_lt, Int32.le_iff_toInt_le, ← Int32.toInt_inj, Int32.reduceToInt] at c_2 ⊢; omega), rfl, rfl⟩) dX12_within_15
  · refine lv_iload_n hx hb dX12_within_5 rfl (lv_at hl 0 rfl) ?_
    refine lv_iload_n hx hb dX12_within_6 rfl (lv_at hl 2 rfl) ?_
    refine lv_icmp_gt (tgt := 14) hx hb dX12_within_7 (by decide) (fun c_7 => ?_) (fun c_7 => ?_)
    · refine lv_iconst (v := 0) hx hb dX12_within_14 (by decide) ?_
      exact r_z C hr hlk hw rfl (Or.inr ⟨(by simp only [gt_iff_lt, ge_iff_le, Int32.lt_iff_toInt_lt, Int32.le_iff_toInt_le, ← Int32.toInt_inj, Int32.reduceToInt] at c_2 c_7 ⊢; omega), rfl, rfl⟩) dX12_within_15
    · refine lv_iconst (v := 1) hx hb dX12_within_10 (by decide) ?_
      refine lv_goto (tgt := 15) hx hb dX12_within_11 (by decide) ?_
      exact r_z C hr hlk hw rfl (Or.inl ⟨(by simp only [gt_iff_lt, ge_iff_le, Int32.lt_iff_toInt_lt, Int32.le_iff_toInt_le, ← Int32.toInt_inj, Int32.reduceToInt] at c_2 c_7 ⊢; omega), rfl, rfl⟩) dX12_within_15

set_option maxHeartbeats 4000000 in
set_option maxRecDepth 100000 in
/-- least to most -/
theorem c_X11_isWithin (E : cE) (tt : Nat × Nat × Nat) (ws : va_W) (v a b : Int32)  : CT E tt yX11_isWithin cX11_isWithin 3 (some .boolean) 0 0 0 [.int (v), .int (a), .int (b)] ws (fun r w => ((a ≤ v ∧ v ≤ b) ∧ r = some (.int 1) ∧ w = ws) ∨ (¬ (a ≤ v ∧ v ≤ b) ∧ r = some (.int 0) ∧ w = ws)) := by
  refine CT.mk (by decide +kernel) (Nat.le_of_ble_eq_true rfl) ?_
  intro l p e s m below meth c A ls C hr hlk hnm hw hl
  have hx := C.1
  have hb := C.2.1
  have hts := C.2.2.2.2
  have hown : s.vm.findClass RX11 = some m.cls := C.2.2.2.1
  have hl : lv_has ls 3 [(0, .int (v)), (1, .int (a)), (2, .int (b))] := hl
  refine lv_iload_n hx hb dX11_isWithin_0 rfl (lv_at hl 0 rfl) ?_
  refine lv_iload_n hx hb dX11_isWithin_1 rfl (lv_at hl 1 rfl) ?_
  refine lv_icmp_lt (tgt := 14) hx hb dX11_isWithin_2 (by decide) (fun c_2 => ?_) (fun c_2 => ?_)
  · refine lv_iconst (v := 0) hx hb dX11_isWithin_14 (by decide) ?_
    exact r_z C hr hlk hw rfl (Or.inr ⟨(by simp only [gt_iff_lt, ge_iff_le, Int32.lt_iff_toInt_lt, Int32.le_iff_toInt_le, ← Int32.toInt_inj, Int32.reduceToInt] at c_2 ⊢; omega), rfl, rfl⟩) dX11_isWithin_15
  · refine lv_iload_n hx hb dX11_isWithin_5 rfl (lv_at hl 0 rfl) ?_
    refine lv_iload_n hx hb dX11_isWithin_6 rfl (lv_at hl 2 rfl) ?_
    refine lv_icmp_gt (tgt := 14) hx hb dX11_isWithin_7 (by decide) (fun c_7 => ?_) (fun c_7 => ?_)
    · refine lv_iconst (v := 0) hx hb dX11_isWithin_14 (by decide) ?_
      exact r_z C hr hlk hw rfl (Or.inr ⟨(by simp only [gt_iff_lt, ge_iff_le, Int32.lt_iff_toInt_lt, Int32.le_iff_toInt_le, ← Int32.toInt_inj, Int32.reduceToInt] at c_2 c_7 ⊢; omega), rfl, rfl⟩) dX11_isWithin_15
    · refine lv_iconst (v := 1) hx hb dX11_isWithin_10 (by decide) ?_
      refine lv_goto (tgt := 15) hx hb dX11_isWithin_11 (by decide) ?_
      exact r_z C hr hlk hw rfl (Or.inl ⟨(by simp only [gt_iff_lt, ge_iff_le, Int32.lt_iff_toInt_lt, Int32.le_iff_toInt_le, ← Int32.toInt_inj, Int32.reduceToInt] at c_2 c_7 ⊢; omega), rfl, rfl⟩) dX11_isWithin_15

set_option maxHeartbeats 4000000 in
set_option maxRecDepth 100000 in
theorem c_X12_isMetal (E : cE) (tt : Nat × Nat × Nat) (ws : va_W) (v : Int32)  : CT E tt yX12_isMetal cX12_isMetal 1 (some .boolean) 1 0 0 [.int (v)] ws (fun r w => ((0 ≤ v ∧ v ≤ 3) ∧ r = some (.int 1) ∧ w = ws) ∨ (¬ (0 ≤ v ∧ v ≤ 3) ∧ r = some (.int 0) ∧ w = ws)) := by
  refine CT.mk (by decide +kernel) (Nat.le_of_ble_eq_true rfl) ?_
  intro l p e s m below meth c A ls C hr hlk hnm hw hl
  have hx := C.1
  have hb := C.2.1
  have hts := C.2.2.2.2
  have hown : s.vm.findClass RX12 = some m.cls := C.2.2.2.1
  have hl : lv_has ls 1 [(0, .int (v))] := hl
  refine lv_iload_n hx hb dX12_isMetal_0 rfl (lv_at hl 0 rfl) ?_
  refine lv_iconst (v := 0) hx hb dX12_isMetal_1 (by decide) ?_
  refine lv_iconst (v := 3) hx hb dX12_isMetal_2 (by decide) ?_
  refine kS C hw (c_X12_within E tt _ (v) (0) (3)) vy_X12_within ml_X12_123 rfl hl.1 (rest := []) rfl dX12_isMetal_3 (Nat.le_of_ble_eq_true rfl) ⟨by decide, by decide⟩ ⟨Nat.le_of_ble_eq_true rfl, Nat.le_of_ble_eq_true rfl⟩ (fun v_3 ws_3 H locs hp_3 hq_3 => ?_)
  clear hw
  rcases hp_3 with ⟨h_3, rfl, rfl⟩ | ⟨h_3, rfl, rfl⟩
  · have hw := hq_3
    refine W.eq (g2 := F0 m 6 ls [.int (1)]) rfl ?_
    exact r_z C hr hlk hw rfl (Or.inl ⟨h_3, rfl, rfl⟩) dX12_isMetal_6
  · have hw := hq_3
    refine W.eq (g2 := F0 m 6 ls [.int (0)]) rfl ?_
    exact r_z C hr hlk hw rfl (Or.inr ⟨h_3, rfl, rfl⟩) dX12_isMetal_6

set_option maxHeartbeats 4000000 in
set_option maxRecDepth 100000 in
theorem c_X12_isPuller (E : cE) (tt : Nat × Nat × Nat) (ws : va_W) (v : Int32)  : CT E tt yX12_isPuller cX12_isPuller 1 (some .boolean) 1 0 0 [.int (v)] ws (fun r w => ((0 ≤ v ∧ v ≤ 2) ∧ r = some (.int 1) ∧ w = ws) ∨ (¬ (0 ≤ v ∧ v ≤ 2) ∧ r = some (.int 0) ∧ w = ws)) := by
  refine CT.mk (by decide +kernel) (Nat.le_of_ble_eq_true rfl) ?_
  intro l p e s m below meth c A ls C hr hlk hnm hw hl
  have hx := C.1
  have hb := C.2.1
  have hts := C.2.2.2.2
  have hown : s.vm.findClass RX12 = some m.cls := C.2.2.2.1
  have hl : lv_has ls 1 [(0, .int (v))] := hl
  refine lv_iload_n hx hb dX12_isPuller_0 rfl (lv_at hl 0 rfl) ?_
  refine lv_iconst (v := 0) hx hb dX12_isPuller_1 (by decide) ?_
  refine lv_iconst (v := 2) hx hb dX12_isPuller_2 (by decide) ?_
  refine kS C hw (c_X12_within E tt _ (v) (0) (2)) vy_X12_within ml_X12_123 rfl hl.1 (rest := []) rfl dX12_isPuller_3 (Nat.le_of_ble_eq_true rfl) ⟨by decide, by decide⟩ ⟨Nat.le_of_ble_eq_true rfl, Nat.le_of_ble_eq_true rfl⟩ (fun v_3 ws_3 H locs hp_3 hq_3 => ?_)
  clear hw
  rcases hp_3 with ⟨h_3, rfl, rfl⟩ | ⟨h_3, rfl, rfl⟩
  · have hw := hq_3
    refine W.eq (g2 := F0 m 6 ls [.int (1)]) rfl ?_
    exact r_z C hr hlk hw rfl (Or.inl ⟨h_3, rfl, rfl⟩) dX12_isPuller_6
  · have hw := hq_3
    refine W.eq (g2 := F0 m 6 ls [.int (0)]) rfl ?_
    exact r_z C hr hlk hw rfl (Or.inr ⟨h_3, rfl, rfl⟩) dX12_isPuller_6

set_option maxHeartbeats 4000000 in
set_option maxRecDepth 100000 in
theorem c_X12_isSize (E : cE) (tt : Nat × Nat × Nat) (ws : va_W) (v : Int32)  : CT E tt yX12_isSize cX12_isSize 1 (some .boolean) 1 0 0 [.int (v)] ws (fun r w => ((20 ≤ v ∧ v ≤ 1000) ∧ r = some (.int 1) ∧ w = ws) ∨ (¬ (20 ≤ v ∧ v ≤ 1000) ∧ r = some (.int 0) ∧ w = ws)) := by
  refine CT.mk (by decide +kernel) (Nat.le_of_ble_eq_true rfl) ?_
  intro l p e s m below meth c A ls C hr hlk hnm hw hl
  have hx := C.1
  have hb := C.2.1
  have hts := C.2.2.2.2
  have hown : s.vm.findClass RX12 = some m.cls := C.2.2.2.1
  have hl : lv_has ls 1 [(0, .int (v))] := hl
  refine lv_iload_n hx hb dX12_isSize_0 rfl (lv_at hl 0 rfl) ?_
  refine lv_bipush (v := 20) hx hb dX12_isSize_1 (by decide) ?_
  refine lv_sipush (v := 1000) hx hb dX12_isSize_3 (by decide) ?_
  refine kS C hw (c_X12_within E tt _ (v) (20) (1000)) vy_X12_within ml_X12_123 rfl hl.1 (rest := []) rfl dX12_isSize_6 (Nat.le_of_ble_eq_true rfl) ⟨by decide, by decide⟩ ⟨Nat.le_of_ble_eq_true rfl, Nat.le_of_ble_eq_true rfl⟩ (fun v_6 ws_6 H locs hp_6 hq_6 => ?_)
  clear hw
  rcases hp_6 with ⟨h_6, rfl, rfl⟩ | ⟨h_6, rfl, rfl⟩
  · have hw := hq_6
    refine W.eq (g2 := F0 m 9 ls [.int (1)]) rfl ?_
    exact r_z C hr hlk hw rfl (Or.inl ⟨h_6, rfl, rfl⟩) dX12_isSize_9
  · have hw := hq_6
    refine W.eq (g2 := F0 m 9 ls [.int (0)]) rfl ?_
    exact r_z C hr hlk hw rfl (Or.inr ⟨h_6, rfl, rfl⟩) dX12_isSize_9

set_option maxHeartbeats 4000000 in
set_option maxRecDepth 100000 in
theorem c_X11_isSize (E : cE) (tt : Nat × Nat × Nat) (ws : va_W) (v : Int32)  : CT E tt yX11_isSize cX11_isSize 1 (some .boolean) 1 0 0 [.int (v)] ws (fun r w => ((20 ≤ v ∧ v ≤ 1000) ∧ r = some (.int 1) ∧ w = ws) ∨ (¬ (20 ≤ v ∧ v ≤ 1000) ∧ r = some (.int 0) ∧ w = ws)) := by
  refine CT.mk (by decide +kernel) (Nat.le_of_ble_eq_true rfl) ?_
  intro l p e s m below meth c A ls C hr hlk hnm hw hl
  have hx := C.1
  have hb := C.2.1
  have hts := C.2.2.2.2
  have hown : s.vm.findClass RX11 = some m.cls := C.2.2.2.1
  have hl : lv_has ls 1 [(0, .int (v))] := hl
  refine lv_iload_n hx hb dX11_isSize_0 rfl (lv_at hl 0 rfl) ?_
  refine lv_bipush (v := 20) hx hb dX11_isSize_1 (by decide) ?_
  refine lv_sipush (v := 1000) hx hb dX11_isSize_3 (by decide) ?_
  refine kS C hw (c_X11_isWithin E tt _ (v) (20) (1000)) vy_X11_isWithin ml_X11_89 rfl hl.1 (rest := []) rfl dX11_isSize_6 (Nat.le_of_ble_eq_true rfl) ⟨by decide, by decide⟩ ⟨Nat.le_of_ble_eq_true rfl, Nat.le_of_ble_eq_true rfl⟩ (fun v_6 ws_6 H locs hp_6 hq_6 => ?_)
  clear hw
  rcases hp_6 with ⟨h_6, rfl, rfl⟩ | ⟨h_6, rfl, rfl⟩
  · have hw := hq_6
    refine W.eq (g2 := F0 m 9 ls [.int (1)]) rfl ?_
    exact r_z C hr hlk hw rfl (Or.inl ⟨h_6, rfl, rfl⟩) dX11_isSize_9
  · have hw := hq_6
    refine W.eq (g2 := F0 m 9 ls [.int (0)]) rfl ?_
    exact r_z C hr hlk hw rfl (Or.inr ⟨h_6, rfl, rfl⟩) dX11_isSize_9

set_option maxHeartbeats 4000000 in
set_option maxRecDepth 100000 in
theorem c_X11_isCause (E : cE) (tt : Nat × Nat × Nat) (ws : va_W) (v : Int32)  : CT E tt yX11_isCause cX11_isCause 1 (some .boolean) 1 0 0 [.int (v)] ws (fun r w => ((0 ≤ v ∧ v ≤ 2) ∧ r = some (.int 1) ∧ w = ws) ∨ (¬ (0 ≤ v ∧ v ≤ 2) ∧ r = some (.int 0) ∧ w = ws)) := by
  refine CT.mk (by decide +kernel) (Nat.le_of_ble_eq_true rfl) ?_
  intro l p e s m below meth c A ls C hr hlk hnm hw hl
  have hx := C.1
  have hb := C.2.1
  have hts := C.2.2.2.2
  have hown : s.vm.findClass RX11 = some m.cls := C.2.2.2.1
  have hl : lv_has ls 1 [(0, .int (v))] := hl
  refine lv_iload_n hx hb dX11_isCause_0 rfl (lv_at hl 0 rfl) ?_
  refine lv_iconst (v := 0) hx hb dX11_isCause_1 (by decide) ?_
  refine lv_iconst (v := 2) hx hb dX11_isCause_2 (by decide) ?_
  refine kS C hw (c_X11_isWithin E tt _ (v) (0) (2)) vy_X11_isWithin ml_X11_89 rfl hl.1 (rest := []) rfl dX11_isCause_3 (Nat.le_of_ble_eq_true rfl) ⟨by decide, by decide⟩ ⟨Nat.le_of_ble_eq_true rfl, Nat.le_of_ble_eq_true rfl⟩ (fun v_3 ws_3 H locs hp_3 hq_3 => ?_)
  clear hw
  rcases hp_3 with ⟨h_3, rfl, rfl⟩ | ⟨h_3, rfl, rfl⟩
  · have hw := hq_3
    refine W.eq (g2 := F0 m 6 ls [.int (1)]) rfl ?_
    exact r_z C hr hlk hw rfl (Or.inl ⟨h_3, rfl, rfl⟩) dX11_isCause_6
  · have hw := hq_3
    refine W.eq (g2 := F0 m 6 ls [.int (0)]) rfl ?_
    exact r_z C hr hlk hw rfl (Or.inr ⟨h_3, rfl, rfl⟩) dX11_isCause_6
end
