section
-- ===== PART A: goes FIRST, ahead of the names: the tables' words, and 'selects' of the private methods out of them =====
/-- a private method of a class that the tables say can be made, by its rows of tables_1 -/
def lw_okq (q : MethodName × Nat) : Prop := (q.1.cls ≠ "java/lang/invoke/MethodHandle" ∧ q.1.cls ≠ "java/lang/invoke/VarHandle") ∧ Cond.instantiable q.1.cls q.2 ∈ tables_1 ∧ Cond.privateMethod q.1 ∈ tables_1 ∧ Cond.instanceMethod q.1 ∈ tables_1
theorem lw_p0 : lw_okq (⟨"ConvoyRoom", "isShip", "(I)Z"⟩, 12) := ⟨⟨by decide +kernel, by decide +kernel⟩, List.mem_of_getElem? (i := 15) (by decide +kernel), List.mem_of_getElem? (i := 424) (by decide +kernel), List.mem_of_getElem? (i := 425) (by decide +kernel)⟩
theorem lw_p1 : lw_okq (⟨"ConvoyRoom$Ship", "heading", "(LConvoyRoom$Plan;I)I"⟩, 7) := ⟨⟨by decide +kernel, by decide +kernel⟩, List.mem_of_getElem? (i := 47) (by decide +kernel), List.mem_of_getElem? (i := 448) (by decide +kernel), List.mem_of_getElem? (i := 449) (by decide +kernel)⟩
theorem lw_p2 : lw_okq (⟨"ConvoyRoom$Fleet", "beginAll", "()V"⟩, 9) := ⟨⟨by decide +kernel, by decide +kernel⟩, List.mem_of_getElem? (i := 40) (by decide +kernel), List.mem_of_getElem? (i := 464) (by decide +kernel), List.mem_of_getElem? (i := 465) (by decide +kernel)⟩
theorem lw_p3 : lw_okq (⟨"ConvoyRoom$Fleet", "squareOfPair", "()J"⟩, 9) := ⟨⟨by decide +kernel, by decide +kernel⟩, List.mem_of_getElem? (i := 40) (by decide +kernel), List.mem_of_getElem? (i := 469) (by decide +kernel), List.mem_of_getElem? (i := 470) (by decide +kernel)⟩
theorem lw_p4 : lw_okq (⟨"ConvoyRoom$Fleet", "moveAll", "(LConvoyRoom$Plan;LConvoyRoom$Fog;I)V"⟩, 9) := ⟨⟨by decide +kernel, by decide +kernel⟩, List.mem_of_getElem? (i := 40) (by decide +kernel), List.mem_of_getElem? (i := 476) (by decide +kernel), List.mem_of_getElem? (i := 477) (by decide +kernel)⟩
theorem lw_p5 : lw_okq (⟨"ConvoyRoom$Lurker", "plansInReach", "(I)I"⟩, 11) := ⟨⟨by decide +kernel, by decide +kernel⟩, List.mem_of_getElem? (i := 120) (by decide +kernel), List.mem_of_getElem? (i := 521) (by decide +kernel), List.mem_of_getElem? (i := 522) (by decide +kernel)⟩
theorem lw_p6 : lw_okq (⟨"ConvoyRoom$Lurker", "considerMix", "(IIII)V"⟩, 11) := ⟨⟨by decide +kernel, by decide +kernel⟩, List.mem_of_getElem? (i := 120) (by decide +kernel), List.mem_of_getElem? (i := 545) (by decide +kernel), List.mem_of_getElem? (i := 546) (by decide +kernel)⟩
theorem lw_p7 : lw_okq (⟨"ConvoyRoom$Screen", "watchPoint", "(II)V"⟩, 6) := ⟨⟨by decide +kernel, by decide +kernel⟩, List.mem_of_getElem? (i := 171) (by decide +kernel), List.mem_of_getElem? (i := 566) (by decide +kernel), List.mem_of_getElem? (i := 567) (by decide +kernel)⟩
theorem lw_p8 : lw_okq (⟨"ConvoyRoom", "readyPilot", "()LConvoyRoom$Pilot;"⟩, 12) := ⟨⟨by decide +kernel, by decide +kernel⟩, List.mem_of_getElem? (i := 15) (by decide +kernel), List.mem_of_getElem? (i := 604) (by decide +kernel), List.mem_of_getElem? (i := 605) (by decide +kernel)⟩
theorem lw_p9 : lw_okq (⟨"ConvoyRoom$Pilot", "search", "(II)V"⟩, 11) := ⟨⟨by decide +kernel, by decide +kernel⟩, List.mem_of_getElem? (i := 608) (by decide +kernel), List.mem_of_getElem? (i := 654) (by decide +kernel), List.mem_of_getElem? (i := 655) (by decide +kernel)⟩
theorem lw_p10 : lw_okq (⟨"ConvoyRoom$Pilot", "weighRow", "(II)V"⟩, 11) := ⟨⟨by decide +kernel, by decide +kernel⟩, List.mem_of_getElem? (i := 608) (by decide +kernel), List.mem_of_getElem? (i := 659) (by decide +kernel), List.mem_of_getElem? (i := 660) (by decide +kernel)⟩
theorem lw_p11 : lw_okq (⟨"ConvoyRoom$Pilot", "weigh", "(IIII)I"⟩, 11) := ⟨⟨by decide +kernel, by decide +kernel⟩, List.mem_of_getElem? (i := 608) (by decide +kernel), List.mem_of_getElem? (i := 663) (by decide +kernel), List.mem_of_getElem? (i := 664) (by decide +kernel)⟩
theorem lw_p12 : lw_okq (⟨"ConvoyRoom$Pilot", "dayOf", "(II)I"⟩, 11) := ⟨⟨by decide +kernel, by decide +kernel⟩, List.mem_of_getElem? (i := 608) (by decide +kernel), List.mem_of_getElem? (i := 667) (by decide +kernel), List.mem_of_getElem? (i := 668) (by decide +kernel)⟩
theorem lw_p13 : lw_okq (⟨"ConvoyRoom$Pilot", "isApart", "(II)Z"⟩, 11) := ⟨⟨by decide +kernel, by decide +kernel⟩, List.mem_of_getElem? (i := 608) (by decide +kernel), List.mem_of_getElem? (i := 671) (by decide +kernel), List.mem_of_getElem? (i := 672) (by decide +kernel)⟩
theorem lw_p14 : lw_okq (⟨"ConvoyRoom$Pilot", "isBeyondGap", "(II)Z"⟩, 11) := ⟨⟨by decide +kernel, by decide +kernel⟩, List.mem_of_getElem? (i := 608) (by decide +kernel), List.mem_of_getElem? (i := 679) (by decide +kernel), List.mem_of_getElem? (i := 680) (by decide +kernel)⟩
theorem lw_p15 : lw_okq (⟨"ConvoyRoom$Pilot", "endsAt", "(II)Z"⟩, 11) := ⟨⟨by decide +kernel, by decide +kernel⟩, List.mem_of_getElem? (i := 608) (by decide +kernel), List.mem_of_getElem? (i := 683) (by decide +kernel), List.mem_of_getElem? (i := 684) (by decide +kernel)⟩
def lw_privs_1 : List (MethodName × Nat) := [(⟨"ConvoyRoom", "isShip", "(I)Z"⟩, 12), (⟨"ConvoyRoom$Ship", "heading", "(LConvoyRoom$Plan;I)I"⟩, 7), (⟨"ConvoyRoom$Fleet", "beginAll", "()V"⟩, 9), (⟨"ConvoyRoom$Fleet", "squareOfPair", "()J"⟩, 9), (⟨"ConvoyRoom$Fleet", "moveAll", "(LConvoyRoom$Plan;LConvoyRoom$Fog;I)V"⟩, 9), (⟨"ConvoyRoom$Lurker", "plansInReach", "(I)I"⟩, 11), (⟨"ConvoyRoom$Lurker", "considerMix", "(IIII)V"⟩, 11), (⟨"ConvoyRoom$Screen", "watchPoint", "(II)V"⟩, 6), (⟨"ConvoyRoom", "readyPilot", "()LConvoyRoom$Pilot;"⟩, 12), (⟨"ConvoyRoom$Pilot", "search", "(II)V"⟩, 11), (⟨"ConvoyRoom$Pilot", "weighRow", "(II)V"⟩, 11), (⟨"ConvoyRoom$Pilot", "weigh", "(IIII)I"⟩, 11), (⟨"ConvoyRoom$Pilot", "dayOf", "(II)I"⟩, 11), (⟨"ConvoyRoom$Pilot", "isApart", "(II)Z"⟩, 11), (⟨"ConvoyRoom$Pilot", "isBeyondGap", "(II)Z"⟩, 11), (⟨"ConvoyRoom$Pilot", "endsAt", "(II)Z"⟩, 11)]
theorem lw_r1 : ∀ q ∈ lw_privs_1, lw_okq q := List.forall_mem_cons.mpr ⟨lw_p0, List.forall_mem_cons.mpr ⟨lw_p1, List.forall_mem_cons.mpr ⟨lw_p2, List.forall_mem_cons.mpr ⟨lw_p3, List.forall_mem_cons.mpr ⟨lw_p4, List.forall_mem_cons.mpr ⟨lw_p5, List.forall_mem_cons.mpr ⟨lw_p6, List.forall_mem_cons.mpr ⟨lw_p7, List.forall_mem_cons.mpr ⟨lw_p8, List.forall_mem_cons.mpr ⟨lw_p9, List.forall_mem_cons.mpr ⟨lw_p10, List.forall_mem_cons.mpr ⟨lw_p11, List.forall_mem_cons.mpr ⟨lw_p12, List.forall_mem_cons.mpr ⟨lw_p13, List.forall_mem_cons.mpr ⟨lw_p14, List.forall_mem_cons.mpr ⟨lw_p15, fun _ h => absurd h List.not_mem_nil⟩⟩⟩⟩⟩⟩⟩⟩⟩⟩⟩⟩⟩⟩⟩⟩
theorem lw_p16 : lw_okq (⟨"ConvoyRoom$Pilot", "worthOfStaying", "(III)I"⟩, 11) := ⟨⟨by decide +kernel, by decide +kernel⟩, List.mem_of_getElem? (i := 608) (by decide +kernel), List.mem_of_getElem? (i := 687) (by decide +kernel), List.mem_of_getElem? (i := 688) (by decide +kernel)⟩
theorem lw_p17 : lw_okq (⟨"ConvoyRoom$Pilot", "worthOfGoing", "(III)I"⟩, 11) := ⟨⟨by decide +kernel, by decide +kernel⟩, List.mem_of_getElem? (i := 608) (by decide +kernel), List.mem_of_getElem? (i := 695) (by decide +kernel), List.mem_of_getElem? (i := 696) (by decide +kernel)⟩
theorem lw_p18 : lw_okq (⟨"ConvoyRoom$Pilot", "keepMove", "(IIII)V"⟩, 11) := ⟨⟨by decide +kernel, by decide +kernel⟩, List.mem_of_getElem? (i := 608) (by decide +kernel), List.mem_of_getElem? (i := 699) (by decide +kernel), List.mem_of_getElem? (i := 700) (by decide +kernel)⟩
theorem lw_p19 : lw_okq (⟨"ConvoyRoom$Pilot", "longOf", "(III)I"⟩, 11) := ⟨⟨by decide +kernel, by decide +kernel⟩, List.mem_of_getElem? (i := 608) (by decide +kernel), List.mem_of_getElem? (i := 703) (by decide +kernel), List.mem_of_getElem? (i := 704) (by decide +kernel)⟩
theorem lw_p20 : lw_okq (⟨"ConvoyRoom$Pilot", "keptMove", "(III)I"⟩, 11) := ⟨⟨by decide +kernel, by decide +kernel⟩, List.mem_of_getElem? (i := 608) (by decide +kernel), List.mem_of_getElem? (i := 716) (by decide +kernel), List.mem_of_getElem? (i := 717) (by decide +kernel)⟩
theorem lw_p21 : lw_okq (⟨"ConvoyRoom$Pilot", "foundFuel", "()I"⟩, 11) := ⟨⟨by decide +kernel, by decide +kernel⟩, List.mem_of_getElem? (i := 608) (by decide +kernel), List.mem_of_getElem? (i := 720) (by decide +kernel), List.mem_of_getElem? (i := 721) (by decide +kernel)⟩
theorem lw_p22 : lw_okq (⟨"ConvoyRoom$Log", "goTheWay", "(LConvoyRoom$Plan;LConvoyRoom$Fog;)V"⟩, 11) := ⟨⟨by decide +kernel, by decide +kernel⟩, List.mem_of_getElem? (i := 231) (by decide +kernel), List.mem_of_getElem? (i := 774) (by decide +kernel), List.mem_of_getElem? (i := 775) (by decide +kernel)⟩
theorem lw_p23 : lw_okq (⟨"ConvoyRoom$Log", "misfitLess", "(LConvoyRoom$Fog;IIII)J"⟩, 11) := ⟨⟨by decide +kernel, by decide +kernel⟩, List.mem_of_getElem? (i := 231) (by decide +kernel), List.mem_of_getElem? (i := 780) (by decide +kernel), List.mem_of_getElem? (i := 781) (by decide +kernel)⟩
theorem lw_p24 : lw_okq (⟨"ConvoyRoom$Log", "consider", "(JII)V"⟩, 11) := ⟨⟨by decide +kernel, by decide +kernel⟩, List.mem_of_getElem? (i := 231) (by decide +kernel), List.mem_of_getElem? (i := 794) (by decide +kernel), List.mem_of_getElem? (i := 795) (by decide +kernel)⟩
theorem lw_p25 : lw_okq (⟨"ConvoyRoom$Log", "considerMisses", "(LConvoyRoom$Plan;LConvoyRoom$Fog;I)V"⟩, 11) := ⟨⟨by decide +kernel, by decide +kernel⟩, List.mem_of_getElem? (i := 231) (by decide +kernel), List.mem_of_getElem? (i := 798) (by decide +kernel), List.mem_of_getElem? (i := 799) (by decide +kernel)⟩
theorem lw_p26 : lw_okq (⟨"ConvoyRoom", "landCells", "()I"⟩, 12) := ⟨⟨by decide +kernel, by decide +kernel⟩, List.mem_of_getElem? (i := 15) (by decide +kernel), List.mem_of_getElem? (i := 813) (by decide +kernel), List.mem_of_getElem? (i := 814) (by decide +kernel)⟩
theorem lw_p27 : lw_okq (⟨"ConvoyRoomModel", "missNone", "()V"⟩, 52) := ⟨⟨by decide +kernel, by decide +kernel⟩, List.mem_of_getElem? (i := 818) (by decide +kernel), List.mem_of_getElem? (i := 1011) (by decide +kernel), List.mem_of_getElem? (i := 1012) (by decide +kernel)⟩
theorem lw_p28 : lw_okq (⟨"ConvoyRoomModel", "courseAt", "(II)I"⟩, 52) := ⟨⟨by decide +kernel, by decide +kernel⟩, List.mem_of_getElem? (i := 818) (by decide +kernel), List.mem_of_getElem? (i := 1015) (by decide +kernel), List.mem_of_getElem? (i := 1016) (by decide +kernel)⟩
theorem lw_p29 : lw_okq (⟨"ConvoyRoomModel", "runPlan", "(III)V"⟩, 52) := ⟨⟨by decide +kernel, by decide +kernel⟩, List.mem_of_getElem? (i := 818) (by decide +kernel), List.mem_of_getElem? (i := 1025) (by decide +kernel), List.mem_of_getElem? (i := 1026) (by decide +kernel)⟩
theorem lw_p30 : lw_okq (⟨"ConvoyRoomModel", "go", "(II)V"⟩, 52) := ⟨⟨by decide +kernel, by decide +kernel⟩, List.mem_of_getElem? (i := 818) (by decide +kernel), List.mem_of_getElem? (i := 1029) (by decide +kernel), List.mem_of_getElem? (i := 1030) (by decide +kernel)⟩
theorem lw_p31 : lw_okq (⟨"ConvoyRoomModel", "layMisses", "(I)V"⟩, 52) := ⟨⟨by decide +kernel, by decide +kernel⟩, List.mem_of_getElem? (i := 818) (by decide +kernel), List.mem_of_getElem? (i := 1075) (by decide +kernel), List.mem_of_getElem? (i := 1076) (by decide +kernel)⟩
def lw_privs_2 : List (MethodName × Nat) := [(⟨"ConvoyRoom$Pilot", "worthOfStaying", "(III)I"⟩, 11), (⟨"ConvoyRoom$Pilot", "worthOfGoing", "(III)I"⟩, 11), (⟨"ConvoyRoom$Pilot", "keepMove", "(IIII)V"⟩, 11), (⟨"ConvoyRoom$Pilot", "longOf", "(III)I"⟩, 11), (⟨"ConvoyRoom$Pilot", "keptMove", "(III)I"⟩, 11), (⟨"ConvoyRoom$Pilot", "foundFuel", "()I"⟩, 11), (⟨"ConvoyRoom$Log", "goTheWay", "(LConvoyRoom$Plan;LConvoyRoom$Fog;)V"⟩, 11), (⟨"ConvoyRoom$Log", "misfitLess", "(LConvoyRoom$Fog;IIII)J"⟩, 11), (⟨"ConvoyRoom$Log", "consider", "(JII)V"⟩, 11), (⟨"ConvoyRoom$Log", "considerMisses", "(LConvoyRoom$Plan;LConvoyRoom$Fog;I)V"⟩, 11), (⟨"ConvoyRoom", "landCells", "()I"⟩, 12), (⟨"ConvoyRoomModel", "missNone", "()V"⟩, 52), (⟨"ConvoyRoomModel", "courseAt", "(II)I"⟩, 52), (⟨"ConvoyRoomModel", "runPlan", "(III)V"⟩, 52), (⟨"ConvoyRoomModel", "go", "(II)V"⟩, 52), (⟨"ConvoyRoomModel", "layMisses", "(I)V"⟩, 52)]
theorem lw_r2 : ∀ q ∈ lw_privs_2, lw_okq q := List.forall_mem_cons.mpr ⟨lw_p16, List.forall_mem_cons.mpr ⟨lw_p17, List.forall_mem_cons.mpr ⟨lw_p18, List.forall_mem_cons.mpr ⟨lw_p19, List.forall_mem_cons.mpr ⟨lw_p20, List.forall_mem_cons.mpr ⟨lw_p21, List.forall_mem_cons.mpr ⟨lw_p22, List.forall_mem_cons.mpr ⟨lw_p23, List.forall_mem_cons.mpr ⟨lw_p24, List.forall_mem_cons.mpr ⟨lw_p25, List.forall_mem_cons.mpr ⟨lw_p26, List.forall_mem_cons.mpr ⟨lw_p27, List.forall_mem_cons.mpr ⟨lw_p28, List.forall_mem_cons.mpr ⟨lw_p29, List.forall_mem_cons.mpr ⟨lw_p30, List.forall_mem_cons.mpr ⟨lw_p31, fun _ h => absurd h List.not_mem_nil⟩⟩⟩⟩⟩⟩⟩⟩⟩⟩⟩⟩⟩⟩⟩⟩
theorem lw_p32 : lw_okq (⟨"ConvoyRoomModel", "step", "(III)V"⟩, 52) := ⟨⟨by decide +kernel, by decide +kernel⟩, List.mem_of_getElem? (i := 818) (by decide +kernel), List.mem_of_getElem? (i := 1079) (by decide +kernel), List.mem_of_getElem? (i := 1080) (by decide +kernel)⟩
theorem lw_p33 : lw_okq (⟨"ConvoyRoomModel", "begin", "()V"⟩, 52) := ⟨⟨by decide +kernel, by decide +kernel⟩, List.mem_of_getElem? (i := 818) (by decide +kernel), List.mem_of_getElem? (i := 1089) (by decide +kernel), List.mem_of_getElem? (i := 1090) (by decide +kernel)⟩
theorem lw_p34 : lw_okq (⟨"ConvoyRoomModel", "apartOf", "(II)J"⟩, 52) := ⟨⟨by decide +kernel, by decide +kernel⟩, List.mem_of_getElem? (i := 818) (by decide +kernel), List.mem_of_getElem? (i := 1093) (by decide +kernel), List.mem_of_getElem? (i := 1094) (by decide +kernel)⟩
theorem lw_p35 : lw_okq (⟨"ConvoyRoomModel", "stepAll", "(I)V"⟩, 52) := ⟨⟨by decide +kernel, by decide +kernel⟩, List.mem_of_getElem? (i := 818) (by decide +kernel), List.mem_of_getElem? (i := 1097) (by decide +kernel), List.mem_of_getElem? (i := 1098) (by decide +kernel)⟩
theorem lw_p36 : lw_okq (⟨"ConvoyRoomModel", "layPlans", "(I)V"⟩, 52) := ⟨⟨by decide +kernel, by decide +kernel⟩, List.mem_of_getElem? (i := 818) (by decide +kernel), List.mem_of_getElem? (i := 1129) (by decide +kernel), List.mem_of_getElem? (i := 1130) (by decide +kernel)⟩
theorem lw_p37 : lw_okq (⟨"ConvoyRoomModel", "getsAt", "(II)I"⟩, 52) := ⟨⟨by decide +kernel, by decide +kernel⟩, List.mem_of_getElem? (i := 818) (by decide +kernel), List.mem_of_getElem? (i := 1133) (by decide +kernel), List.mem_of_getElem? (i := 1134) (by decide +kernel)⟩
theorem lw_p38 : lw_okq (⟨"ConvoyRoomModel", "canBe", "(II)Z"⟩, 52) := ⟨⟨by decide +kernel, by decide +kernel⟩, List.mem_of_getElem? (i := 818) (by decide +kernel), List.mem_of_getElem? (i := 1137) (by decide +kernel), List.mem_of_getElem? (i := 1138) (by decide +kernel)⟩
theorem lw_p39 : lw_okq (⟨"ConvoyRoomModel", "layCaught", "(I)V"⟩, 52) := ⟨⟨by decide +kernel, by decide +kernel⟩, List.mem_of_getElem? (i := 818) (by decide +kernel), List.mem_of_getElem? (i := 1145) (by decide +kernel), List.mem_of_getElem? (i := 1146) (by decide +kernel)⟩
theorem lw_p40 : lw_okq (⟨"ConvoyRoomModel", "worstOf", "()I"⟩, 52) := ⟨⟨by decide +kernel, by decide +kernel⟩, List.mem_of_getElem? (i := 818) (by decide +kernel), List.mem_of_getElem? (i := 1149) (by decide +kernel), List.mem_of_getElem? (i := 1150) (by decide +kernel)⟩
theorem lw_p41 : lw_okq (⟨"ConvoyRoomModel", "findSeers", "(I)V"⟩, 52) := ⟨⟨by decide +kernel, by decide +kernel⟩, List.mem_of_getElem? (i := 818) (by decide +kernel), List.mem_of_getElem? (i := 1169) (by decide +kernel), List.mem_of_getElem? (i := 1170) (by decide +kernel)⟩
theorem lw_p42 : lw_okq (⟨"ConvoyRoomModel", "seenBy", "(II)I"⟩, 52) := ⟨⟨by decide +kernel, by decide +kernel⟩, List.mem_of_getElem? (i := 818) (by decide +kernel), List.mem_of_getElem? (i := 1173) (by decide +kernel), List.mem_of_getElem? (i := 1174) (by decide +kernel)⟩
theorem lw_p43 : lw_okq (⟨"ConvoyRoomModel", "find", "(IIIIII)I"⟩, 52) := ⟨⟨by decide +kernel, by decide +kernel⟩, List.mem_of_getElem? (i := 818) (by decide +kernel), List.mem_of_getElem? (i := 1200) (by decide +kernel), List.mem_of_getElem? (i := 1201) (by decide +kernel)⟩
theorem lw_p44 : lw_okq (⟨"ConvoyRoomModel", "isFree", "(II)Z"⟩, 52) := ⟨⟨by decide +kernel, by decide +kernel⟩, List.mem_of_getElem? (i := 818) (by decide +kernel), List.mem_of_getElem? (i := 1204) (by decide +kernel), List.mem_of_getElem? (i := 1205) (by decide +kernel)⟩
theorem lw_p45 : lw_okq (⟨"ConvoyRoomModel", "isNear", "(II)Z"⟩, 52) := ⟨⟨by decide +kernel, by decide +kernel⟩, List.mem_of_getElem? (i := 818) (by decide +kernel), List.mem_of_getElem? (i := 1208) (by decide +kernel), List.mem_of_getElem? (i := 1209) (by decide +kernel)⟩
theorem lw_p46 : lw_okq (⟨"ConvoyRoomModel", "cellOf", "(II)I"⟩, 52) := ⟨⟨by decide +kernel, by decide +kernel⟩, List.mem_of_getElem? (i := 818) (by decide +kernel), List.mem_of_getElem? (i := 1212) (by decide +kernel), List.mem_of_getElem? (i := 1213) (by decide +kernel)⟩
theorem lw_p47 : lw_okq (⟨"ConvoyRoomModel", "findCosts", "(III)V"⟩, 52) := ⟨⟨by decide +kernel, by decide +kernel⟩, List.mem_of_getElem? (i := 818) (by decide +kernel), List.mem_of_getElem? (i := 1217) (by decide +kernel), List.mem_of_getElem? (i := 1218) (by decide +kernel)⟩
def lw_privs_3 : List (MethodName × Nat) := [(⟨"ConvoyRoomModel", "step", "(III)V"⟩, 52), (⟨"ConvoyRoomModel", "begin", "()V"⟩, 52), (⟨"ConvoyRoomModel", "apartOf", "(II)J"⟩, 52), (⟨"ConvoyRoomModel", "stepAll", "(I)V"⟩, 52), (⟨"ConvoyRoomModel", "layPlans", "(I)V"⟩, 52), (⟨"ConvoyRoomModel", "getsAt", "(II)I"⟩, 52), (⟨"ConvoyRoomModel", "canBe", "(II)Z"⟩, 52), (⟨"ConvoyRoomModel", "layCaught", "(I)V"⟩, 52), (⟨"ConvoyRoomModel", "worstOf", "()I"⟩, 52), (⟨"ConvoyRoomModel", "findSeers", "(I)V"⟩, 52), (⟨"ConvoyRoomModel", "seenBy", "(II)I"⟩, 52), (⟨"ConvoyRoomModel", "find", "(IIIIII)I"⟩, 52), (⟨"ConvoyRoomModel", "isFree", "(II)Z"⟩, 52), (⟨"ConvoyRoomModel", "isNear", "(II)Z"⟩, 52), (⟨"ConvoyRoomModel", "cellOf", "(II)I"⟩, 52), (⟨"ConvoyRoomModel", "findCosts", "(III)V"⟩, 52)]
theorem lw_r3 : ∀ q ∈ lw_privs_3, lw_okq q := List.forall_mem_cons.mpr ⟨lw_p32, List.forall_mem_cons.mpr ⟨lw_p33, List.forall_mem_cons.mpr ⟨lw_p34, List.forall_mem_cons.mpr ⟨lw_p35, List.forall_mem_cons.mpr ⟨lw_p36, List.forall_mem_cons.mpr ⟨lw_p37, List.forall_mem_cons.mpr ⟨lw_p38, List.forall_mem_cons.mpr ⟨lw_p39, List.forall_mem_cons.mpr ⟨lw_p40, List.forall_mem_cons.mpr ⟨lw_p41, List.forall_mem_cons.mpr ⟨lw_p42, List.forall_mem_cons.mpr ⟨lw_p43, List.forall_mem_cons.mpr ⟨lw_p44, List.forall_mem_cons.mpr ⟨lw_p45, List.forall_mem_cons.mpr ⟨lw_p46, List.forall_mem_cons.mpr ⟨lw_p47, fun _ h => absurd h List.not_mem_nil⟩⟩⟩⟩⟩⟩⟩⟩⟩⟩⟩⟩⟩⟩⟩⟩
theorem lw_p48 : lw_okq (⟨"ConvoyRoomModel", "canStay", "(II)Z"⟩, 52) := ⟨⟨by decide +kernel, by decide +kernel⟩, List.mem_of_getElem? (i := 818) (by decide +kernel), List.mem_of_getElem? (i := 1224) (by decide +kernel), List.mem_of_getElem? (i := 1225) (by decide +kernel)⟩
theorem lw_p49 : lw_okq (⟨"ConvoyRoomModel", "cheapest", "(III)I"⟩, 52) := ⟨⟨by decide +kernel, by decide +kernel⟩, List.mem_of_getElem? (i := 818) (by decide +kernel), List.mem_of_getElem? (i := 1228) (by decide +kernel), List.mem_of_getElem? (i := 1229) (by decide +kernel)⟩
theorem lw_p50 : lw_okq (⟨"ConvoyRoomModel", "byMove", "(IIII)I"⟩, 52) := ⟨⟨by decide +kernel, by decide +kernel⟩, List.mem_of_getElem? (i := 818) (by decide +kernel), List.mem_of_getElem? (i := 1232) (by decide +kernel), List.mem_of_getElem? (i := 1233) (by decide +kernel)⟩
theorem lw_p51 : lw_okq (⟨"ConvoyRoomModel", "firstMove", "(III)I"⟩, 52) := ⟨⟨by decide +kernel, by decide +kernel⟩, List.mem_of_getElem? (i := 818) (by decide +kernel), List.mem_of_getElem? (i := 1236) (by decide +kernel), List.mem_of_getElem? (i := 1237) (by decide +kernel)⟩
theorem lw_p52 : lw_okq (⟨"ConvoyRoomModel", "fuelTill", "(II)I"⟩, 52) := ⟨⟨by decide +kernel, by decide +kernel⟩, List.mem_of_getElem? (i := 818) (by decide +kernel), List.mem_of_getElem? (i := 1252) (by decide +kernel), List.mem_of_getElem? (i := 1253) (by decide +kernel)⟩
theorem lw_p53 : lw_okq (⟨"ConvoyRoomModel", "tryFit", "(IIIIII)V"⟩, 52) := ⟨⟨by decide +kernel, by decide +kernel⟩, List.mem_of_getElem? (i := 818) (by decide +kernel), List.mem_of_getElem? (i := 1274) (by decide +kernel), List.mem_of_getElem? (i := 1275) (by decide +kernel)⟩
theorem lw_p54 : lw_okq (⟨"ConvoyRoomModel", "misfit", "(IIII)J"⟩, 52) := ⟨⟨by decide +kernel, by decide +kernel⟩, List.mem_of_getElem? (i := 818) (by decide +kernel), List.mem_of_getElem? (i := 1278) (by decide +kernel), List.mem_of_getElem? (i := 1279) (by decide +kernel)⟩
def lw_privs_4 : List (MethodName × Nat) := [(⟨"ConvoyRoomModel", "canStay", "(II)Z"⟩, 52), (⟨"ConvoyRoomModel", "cheapest", "(III)I"⟩, 52), (⟨"ConvoyRoomModel", "byMove", "(IIII)I"⟩, 52), (⟨"ConvoyRoomModel", "firstMove", "(III)I"⟩, 52), (⟨"ConvoyRoomModel", "fuelTill", "(II)I"⟩, 52), (⟨"ConvoyRoomModel", "tryFit", "(IIIIII)V"⟩, 52), (⟨"ConvoyRoomModel", "misfit", "(IIII)J"⟩, 52)]
theorem lw_r4 : ∀ q ∈ lw_privs_4, lw_okq q := List.forall_mem_cons.mpr ⟨lw_p48, List.forall_mem_cons.mpr ⟨lw_p49, List.forall_mem_cons.mpr ⟨lw_p50, List.forall_mem_cons.mpr ⟨lw_p51, List.forall_mem_cons.mpr ⟨lw_p52, List.forall_mem_cons.mpr ⟨lw_p53, List.forall_mem_cons.mpr ⟨lw_p54, fun _ h => absurd h List.not_mem_nil⟩⟩⟩⟩⟩⟩⟩
def lw_privs : List (MethodName × Nat) := lw_privs_1 ++ (lw_privs_2 ++ (lw_privs_3 ++ (lw_privs_4)))
def lw_tbl : List Cond := k2_sels lw_privs ++ tables_1
theorem lw_privs_ok : ∀ q ∈ lw_privs, lw_okq q := by
  show ∀ q ∈ lw_privs_1 ++ (lw_privs_2 ++ (lw_privs_3 ++ (lw_privs_4))), lw_okq q
  exact List.forall_mem_append.mpr ⟨lw_r1, List.forall_mem_append.mpr ⟨lw_r2, List.forall_mem_append.mpr ⟨lw_r3, lw_r4⟩⟩⟩
end
section
/-! ===== BEGIN words of one list among another's, by their places ===== -/
theorem goodIn_r {big : List Cond} (ws : List Cond) (ps : List Nat) (hp : ws = ps.filterMap (fun i => big[i]?)) (h : ws.all goodWord = true) : GoodIn big ws := by
  intro w hw
  have h1 := List.all_eq_true.mp h w hw
  rw [hp] at hw
  obtain ⟨i, -, hi⟩ := List.mem_filterMap.mp hw
  have hm : w ∈ big := by first | exact List.mem_of_getElem? hi | exact List.getElem?_mem hi
  exact ⟨hm, good_of_word h1⟩
theorem goodIn_app {big a b : List Cond} (ha : GoodIn big a) (hb : GoodIn big b) : GoodIn big (a ++ b) := fun w h => (List.mem_append.mp h).elim (ha w) (hb w)
theorem goodIn_ca {big a b : List Cond} {c : Cond} (ha : GoodIn big (c :: a)) (hb : GoodIn big b) : GoodIn big (c :: (a ++ b)) := fun w h => (List.mem_cons.mp h).elim (fun e => ha w (List.mem_cons.mpr (Or.inl e))) (fun h => (List.mem_append.mp h).elim (fun h => ha w (List.mem_cons.mpr (Or.inr h))) (hb w))
theorem goodIn_sub {big ws : List Cond} (hm : ∀ w ∈ ws, w ∈ big) (h : ws.all goodWord = true) : GoodIn big ws := fun w hw => ⟨hm w hw, good_of_word (List.all_eq_true.mp h w hw)⟩
/-! ===== END ===== -/

/-! ===== BEGIN printed: names, fields, word lists, decode rows ===== -/
def RX0 : String := "ConvoyRoom$Fleet"
def TX0 : u_T := fun k => match k with
  | 0 => ("ConvoyRoom$Fleet", "ships", "[LConvoyRoom$Ship;", true)
  | 1 => ("ConvoyRoom$Fleet", "count", "I", false)
  | 2 => ("ConvoyRoom$Fleet", "misses", "I", false)
  | 3 => ("ConvoyRoom$Fleet", "pairFirst", "I", false)
  | 4 => ("ConvoyRoom$Fleet", "pairSecond", "I", false)
  | 5 => ("ConvoyRoom$Fleet", "leastSquare", "J", false)
  | 6 => ("ConvoyRoom$Fleet", "leastMinute", "I", false)
  | 7 => ("ConvoyRoom$Fleet", "leastFirst", "I", false)
  | _ => ("ConvoyRoom$Fleet", "leastSecond", "I", false)
def tyX0 : Nat → FieldType := fun k => match k with
  | 0 => .array (.object "ConvoyRoom$Ship")
  | 1 => .int
  | 2 => .int
  | 3 => .int
  | 4 => .int
  | 5 => .long
  | 6 => .int
  | 7 => .int
  | _ => .int
abbrev wsX00 : List Cond := u_ws RX0 TX0 9
theorem nmX0 : ∀ a, a < 9 → ∀ b, b < 9 → a ≠ b → (TX0 a).2.1 ≠ (TX0 b).2.1 := by decide +kernel
theorem tyX0_ok : ∀ k, k < 9 → parseFieldDescriptor (TX0 k).2.2.1 = some (tyX0 k) := by decide +kernel
abbrev cX0_init : ByteArray := prog_2_method_1_code
def yX0_init : MethodName := ⟨RX0, "<init>", "()V"⟩
abbrev cX0_findNearest : ByteArray := prog_2_method_2_code
def yX0_findNearest : MethodName := ⟨RX0, "findNearest", "(LConvoyRoom$Plan;LConvoyRoom$Fog;I)V"⟩
abbrev cX0_minutesNearer : ByteArray := prog_2_method_3_code
def yX0_minutesNearer : MethodName := ⟨RX0, "minutesNearer", "(LConvoyRoom$Plan;LConvoyRoom$Fog;II)I"⟩
abbrev cX0_beginAll : ByteArray := prog_2_method_4_code
def yX0_beginAll : MethodName := ⟨RX0, "beginAll", "()V"⟩
abbrev cX0_moveAll : ByteArray := prog_2_method_5_code
def yX0_moveAll : MethodName := ⟨RX0, "moveAll", "(LConvoyRoom$Plan;LConvoyRoom$Fog;I)V"⟩
abbrev cX0_squareOfPair : ByteArray := prog_2_method_6_code
def yX0_squareOfPair : MethodName := ⟨RX0, "squareOfPair", "()J"⟩
def RX1 : String := "ConvoyRoom$Fog"
def TX1 : u_T := fun k => match k with
  | 0 => ("ConvoyRoom$Fog", "from", "I", false)
  | _ => ("ConvoyRoom$Fog", "to", "I", false)
def tyX1 : Nat → FieldType := fun k => match k with
  | 0 => .int
  | _ => .int
abbrev wsX10 : List Cond := u_ws RX1 TX1 2
theorem nmX1 : ∀ a, a < 2 → ∀ b, b < 2 → a ≠ b → (TX1 a).2.1 ≠ (TX1 b).2.1 := by decide +kernel
theorem tyX1_ok : ∀ k, k < 2 → parseFieldDescriptor (TX1 k).2.2.1 = some (tyX1 k) := by decide +kernel
abbrev cX1_init : ByteArray := prog_3_method_1_code
def yX1_init : MethodName := ⟨RX1, "<init>", "()V"⟩
abbrev cX1_hides : ByteArray := prog_3_method_2_code
def yX1_hides : MethodName := ⟨RX1, "hides", "(I)Z"⟩
abbrev cX1_clearMinutes : ByteArray := prog_3_method_3_code
def yX1_clearMinutes : MethodName := ⟨RX1, "clearMinutes", "(II)I"⟩
def RX2 : String := "ConvoyRoom$Log"
def TX2 : u_T := fun k => match k with
  | 0 => ("ConvoyRoom$Log", "minutes", "[I", true)
  | 1 => ("ConvoyRoom$Log", "xs", "[I", true)
  | 2 => ("ConvoyRoom$Log", "ys", "[I", true)
  | 3 => ("ConvoyRoom$Log", "count", "I", false)
  | 4 => ("ConvoyRoom$Log", "ghost", "LConvoyRoom$Ship;", true)
  | 5 => ("ConvoyRoom$Log", "wayX", "[J", true)
  | 6 => ("ConvoyRoom$Log", "wayY", "[J", true)
  | 7 => ("ConvoyRoom$Log", "misfit", "J", false)
  | 8 => ("ConvoyRoom$Log", "clock", "I", false)
  | 9 => ("ConvoyRoom$Log", "hour", "I", false)
  | _ => ("ConvoyRoom$Log", "turn", "I", false)
def tyX2 : Nat → FieldType := fun k => match k with
  | 0 => .array .int
  | 1 => .array .int
  | 2 => .array .int
  | 3 => .int
  | 4 => .object "ConvoyRoom$Ship"
  | 5 => .array .long
  | 6 => .array .long
  | 7 => .long
  | 8 => .int
  | 9 => .int
  | _ => .int
abbrev wsX20 : List Cond := u_ws RX2 TX2 11
theorem nmX2 : ∀ a, a < 11 → ∀ b, b < 11 → a ≠ b → (TX2 a).2.1 ≠ (TX2 b).2.1 := by decide +kernel
theorem tyX2_ok : ∀ k, k < 11 → parseFieldDescriptor (TX2 k).2.2.1 = some (tyX2 k) := by decide +kernel
abbrev cX2_init : ByteArray := prog_4_method_1_code
def yX2_init : MethodName := ⟨RX2, "<init>", "()V"⟩
abbrev cX2_add : ByteArray := prog_4_method_2_code
def yX2_add : MethodName := ⟨RX2, "add", "(III)V"⟩
abbrev cX2_explain : ByteArray := prog_4_method_3_code
def yX2_explain : MethodName := ⟨RX2, "explain", "(LConvoyRoom$Plan;LConvoyRoom$Fog;)V"⟩
abbrev cX2_goTheWay : ByteArray := prog_4_method_4_code
def yX2_goTheWay : MethodName := ⟨RX2, "goTheWay", "(LConvoyRoom$Plan;LConvoyRoom$Fog;)V"⟩
abbrev cX2_considerMisses : ByteArray := prog_4_method_5_code
def yX2_considerMisses : MethodName := ⟨RX2, "considerMisses", "(LConvoyRoom$Plan;LConvoyRoom$Fog;I)V"⟩
abbrev cX2_misfitLess : ByteArray := prog_4_method_6_code
def yX2_misfitLess : MethodName := ⟨RX2, "misfitLess", "(LConvoyRoom$Fog;IIII)J"⟩
abbrev cX2_consider : ByteArray := prog_4_method_7_code
def yX2_consider : MethodName := ⟨RX2, "consider", "(JII)V"⟩
def RX3 : String := "ConvoyRoom$Lurker"
def TX3 : u_T := fun k => match k with
  | 0 => ("ConvoyRoom$Lurker", "x", "I", false)
  | 1 => ("ConvoyRoom$Lurker", "y", "I", false)
  | 2 => ("ConvoyRoom$Lurker", "speed", "I", false)
  | 3 => ("ConvoyRoom$Lurker", "reach", "I", false)
  | 4 => ("ConvoyRoom$Lurker", "centreX", "[J", true)
  | 5 => ("ConvoyRoom$Lurker", "centreY", "[J", true)
  | 6 => ("ConvoyRoom$Lurker", "taken", "[I", true)
  | 7 => ("ConvoyRoom$Lurker", "chosenSum", "I", false)
  | 8 => ("ConvoyRoom$Lurker", "chosenPlan", "I", false)
  | 9 => ("ConvoyRoom$Lurker", "mixed", "[I", true)
  | _ => ("ConvoyRoom$Lurker", "mixedSum", "I", false)
def tyX3 : Nat → FieldType := fun k => match k with
  | 0 => .int
  | 1 => .int
  | 2 => .int
  | 3 => .int
  | 4 => .array .long
  | 5 => .array .long
  | 6 => .array .int
  | 7 => .int
  | 8 => .int
  | 9 => .array .int
  | _ => .int
abbrev wsX30 : List Cond := u_ws RX3 TX3 11
theorem nmX3 : ∀ a, a < 11 → ∀ b, b < 11 → a ≠ b → (TX3 a).2.1 ≠ (TX3 b).2.1 := by decide +kernel
theorem tyX3_ok : ∀ k, k < 11 → parseFieldDescriptor (TX3 k).2.2.1 = some (tyX3 k) := by decide +kernel
abbrev cX3_init : ByteArray := prog_5_method_1_code
def yX3_init : MethodName := ⟨RX3, "<init>", "()V"⟩
abbrev cX3_canBeWithin : ByteArray := prog_5_method_2_code
def yX3_canBeWithin : MethodName := ⟨RX3, "canBeWithin", "(JJII)Z"⟩
abbrev cX3_waitAt : ByteArray := prog_5_method_3_code
def yX3_waitAt : MethodName := ⟨RX3, "waitAt", "([LConvoyRoom$Plan;II)V"⟩
abbrev cX3_plansInReach : ByteArray := prog_5_method_4_code
def yX3_plansInReach : MethodName := ⟨RX3, "plansInReach", "(I)I"⟩
abbrev cX3_choose : ByteArray := prog_5_method_5_code
def yX3_choose : MethodName := ⟨RX3, "choose", "(IIII)V"⟩
abbrev cX3_findMix : ByteArray := prog_5_method_6_code
def yX3_findMix : MethodName := ⟨RX3, "findMix", "(I)V"⟩
abbrev cX3_considerMix : ByteArray := prog_5_method_7_code
def yX3_considerMix : MethodName := ⟨RX3, "considerMix", "(IIII)V"⟩
def RX4 : String := "ConvoyRoom$Pilot"
def TX4 : u_T := fun k => match k with
  | 0 => ("ConvoyRoom$Pilot", "dangers", "[I", true)
  | 1 => ("ConvoyRoom$Pilot", "other", "LConvoyRoom$Voyage;", true)
  | 2 => ("ConvoyRoom$Pilot", "worths", "[I", true)
  | 3 => ("ConvoyRoom$Pilot", "moves", "[J", true)
  | 4 => ("ConvoyRoom$Pilot", "from", "I", false)
  | 5 => ("ConvoyRoom$Pilot", "to", "I", false)
  | 6 => ("ConvoyRoom$Pilot", "going", "I", false)
  | 7 => ("ConvoyRoom$Pilot", "idle", "I", false)
  | 8 => ("ConvoyRoom$Pilot", "gap", "I", false)
  | 9 => ("ConvoyRoom$Pilot", "safeFrom", "I", false)
  | _ => ("ConvoyRoom$Pilot", "found", "I", false)
def tyX4 : Nat → FieldType := fun k => match k with
  | 0 => .array .int
  | 1 => .object "ConvoyRoom$Voyage"
  | 2 => .array .int
  | 3 => .array .long
  | 4 => .int
  | 5 => .int
  | 6 => .int
  | 7 => .int
  | 8 => .int
  | 9 => .int
  | _ => .int
abbrev wsX40 : List Cond := u_ws RX4 TX4 11
theorem nmX4 : ∀ a, a < 11 → ∀ b, b < 11 → a ≠ b → (TX4 a).2.1 ≠ (TX4 b).2.1 := by decide +kernel
theorem tyX4_ok : ∀ k, k < 11 → parseFieldDescriptor (TX4 k).2.2.1 = some (tyX4 k) := by decide +kernel
abbrev cX4_init : ByteArray := prog_6_method_1_code
def yX4_init : MethodName := ⟨RX4, "<init>", "([ILConvoyRoom$Voyage;)V"⟩
abbrev cX4_foundDanger : ByteArray := prog_6_method_2_code
def yX4_foundDanger : MethodName := ⟨RX4, "foundDanger", "()I"⟩
abbrev cX4_foundFuel : ByteArray := prog_6_method_3_code
def yX4_foundFuel : MethodName := ⟨RX4, "foundFuel", "()I"⟩
abbrev cX4_findAlone : ByteArray := prog_6_method_4_code
def yX4_findAlone : MethodName := ⟨RX4, "findAlone", "(IIII)Z"⟩
abbrev cX4_findApart : ByteArray := prog_6_method_5_code
def yX4_findApart : MethodName := ⟨RX4, "findApart", "(IIIII)Z"⟩
abbrev cX4_search : ByteArray := prog_6_method_6_code
def yX4_search : MethodName := ⟨RX4, "search", "(II)V"⟩
abbrev cX4_weighRow : ByteArray := prog_6_method_7_code
def yX4_weighRow : MethodName := ⟨RX4, "weighRow", "(II)V"⟩
abbrev cX4_weigh : ByteArray := prog_6_method_8_code
def yX4_weigh : MethodName := ⟨RX4, "weigh", "(IIII)I"⟩
abbrev cX4_worthOfStaying : ByteArray := prog_6_method_9_code
def yX4_worthOfStaying : MethodName := ⟨RX4, "worthOfStaying", "(III)I"⟩
abbrev cX4_worthOfGoing : ByteArray := prog_6_method_10_code
def yX4_worthOfGoing : MethodName := ⟨RX4, "worthOfGoing", "(III)I"⟩
abbrev cX4_dayOf : ByteArray := prog_6_method_11_code
def yX4_dayOf : MethodName := ⟨RX4, "dayOf", "(II)I"⟩
abbrev cX4_endsAt : ByteArray := prog_6_method_12_code
def yX4_endsAt : MethodName := ⟨RX4, "endsAt", "(II)Z"⟩
abbrev cX4_isApart : ByteArray := prog_6_method_13_code
def yX4_isApart : MethodName := ⟨RX4, "isApart", "(II)Z"⟩
abbrev cX4_isBeyondGap : ByteArray := prog_6_method_14_code
def yX4_isBeyondGap : MethodName := ⟨RX4, "isBeyondGap", "(II)Z"⟩
abbrev cX4_longOf : ByteArray := prog_6_method_15_code
def yX4_longOf : MethodName := ⟨RX4, "longOf", "(III)I"⟩
abbrev cX4_shiftOf : ByteArray := prog_6_method_16_code
def yX4_shiftOf : MethodName := ⟨RX4, "shiftOf", "(I)I"⟩
abbrev cX4_keepMove : ByteArray := prog_6_method_17_code
def yX4_keepMove : MethodName := ⟨RX4, "keepMove", "(IIII)V"⟩
abbrev cX4_keptMove : ByteArray := prog_6_method_18_code
def yX4_keptMove : MethodName := ⟨RX4, "keptMove", "(III)I"⟩
abbrev cX4_write : ByteArray := prog_6_method_19_code
def yX4_write : MethodName := ⟨RX4, "write", "(LConvoyRoom$Voyage;II)V"⟩
def RX5 : String := "ConvoyRoom$Plan"
def TX5 : u_T := fun k => match k with
  | 0 => ("ConvoyRoom$Plan", "minutes", "[I", true)
  | 1 => ("ConvoyRoom$Plan", "courses", "[I", true)
  | _ => ("ConvoyRoom$Plan", "count", "I", false)
def tyX5 : Nat → FieldType := fun k => match k with
  | 0 => .array .int
  | 1 => .array .int
  | _ => .int
abbrev wsX50 : List Cond := u_ws RX5 TX5 3
theorem nmX5 : ∀ a, a < 3 → ∀ b, b < 3 → a ≠ b → (TX5 a).2.1 ≠ (TX5 b).2.1 := by decide +kernel
theorem tyX5_ok : ∀ k, k < 3 → parseFieldDescriptor (TX5 k).2.2.1 = some (tyX5 k) := by decide +kernel
abbrev cX5_init : ByteArray := prog_7_method_1_code
def yX5_init : MethodName := ⟨RX5, "<init>", "()V"⟩
abbrev cX5_turnsAt : ByteArray := prog_7_method_2_code
def yX5_turnsAt : MethodName := ⟨RX5, "turnsAt", "(I)Z"⟩
abbrev cX5_insert : ByteArray := prog_7_method_3_code
def yX5_insert : MethodName := ⟨RX5, "insert", "(II)V"⟩
abbrev cX5_heading : ByteArray := prog_7_method_4_code
def yX5_heading : MethodName := ⟨RX5, "heading", "(II)I"⟩
abbrev cX5_legEnd : ByteArray := prog_7_method_5_code
def yX5_legEnd : MethodName := ⟨RX5, "legEnd", "(I)I"⟩
abbrev cX5_courseAhead : ByteArray := prog_7_method_6_code
def yX5_courseAhead : MethodName := ⟨RX5, "courseAhead", "(I)I"⟩
abbrev cX5_gain : ByteArray := prog_7_method_7_code
def yX5_gain : MethodName := ⟨RX5, "gain", "(II)J"⟩
def RX6 : String := "ConvoyRoom$Screen"
def TX6 : u_T := fun k => match k with
  | 0 => ("ConvoyRoom$Screen", "xs", "[I", true)
  | 1 => ("ConvoyRoom$Screen", "ys", "[I", true)
  | 2 => ("ConvoyRoom$Screen", "ranges", "[I", true)
  | 3 => ("ConvoyRoom$Screen", "count", "I", false)
  | 4 => ("ConvoyRoom$Screen", "watchers", "[I", true)
  | _ => ("ConvoyRoom$Screen", "points", "I", false)
def tyX6 : Nat → FieldType := fun k => match k with
  | 0 => .array .int
  | 1 => .array .int
  | 2 => .array .int
  | 3 => .int
  | 4 => .array .int
  | _ => .int
abbrev wsX60 : List Cond := u_ws RX6 TX6 6
theorem nmX6 : ∀ a, a < 6 → ∀ b, b < 6 → a ≠ b → (TX6 a).2.1 ≠ (TX6 b).2.1 := by decide +kernel
theorem tyX6_ok : ∀ k, k < 6 → parseFieldDescriptor (TX6 k).2.2.1 = some (tyX6 k) := by decide +kernel
abbrev cX6_init : ByteArray := prog_8_method_1_code
def yX6_init : MethodName := ⟨RX6, "<init>", "()V"⟩
abbrev cX6_add : ByteArray := prog_8_method_2_code
def yX6_add : MethodName := ⟨RX6, "add", "(III)V"⟩
abbrev cX6_watchRing : ByteArray := prog_8_method_3_code
def yX6_watchRing : MethodName := ⟨RX6, "watchRing", "(I)V"⟩
abbrev cX6_watchPoint : ByteArray := prog_8_method_4_code
def yX6_watchPoint : MethodName := ⟨RX6, "watchPoint", "(II)V"⟩
abbrev cX6_pointsSeen : ByteArray := prog_8_method_5_code
def yX6_pointsSeen : MethodName := ⟨RX6, "pointsSeen", "(I)I"⟩
abbrev cX6_bestPosts : ByteArray := prog_8_method_6_code
def yX6_bestPosts : MethodName := ⟨RX6, "bestPosts", "(I)I"⟩
def RX7 : String := "ConvoyRoom$Ship"
def TX7 : u_T := fun k => match k with
  | 0 => ("ConvoyRoom$Ship", "x", "I", false)
  | 1 => ("ConvoyRoom$Ship", "y", "I", false)
  | 2 => ("ConvoyRoom$Ship", "speed", "I", false)
  | 3 => ("ConvoyRoom$Ship", "clock", "I", false)
  | 4 => ("ConvoyRoom$Ship", "missed", "[I", true)
  | 5 => ("ConvoyRoom$Ship", "nowX", "J", false)
  | _ => ("ConvoyRoom$Ship", "nowY", "J", false)
def tyX7 : Nat → FieldType := fun k => match k with
  | 0 => .int
  | 1 => .int
  | 2 => .int
  | 3 => .int
  | 4 => .array .int
  | 5 => .long
  | _ => .long
abbrev wsX70 : List Cond := u_ws RX7 TX7 7
theorem nmX7 : ∀ a, a < 7 → ∀ b, b < 7 → a ≠ b → (TX7 a).2.1 ≠ (TX7 b).2.1 := by decide +kernel
theorem tyX7_ok : ∀ k, k < 7 → parseFieldDescriptor (TX7 k).2.2.1 = some (tyX7 k) := by decide +kernel
abbrev cX7_init : ByteArray := prog_9_method_1_code
def yX7_init : MethodName := ⟨RX7, "<init>", "()V"⟩
abbrev cX7_set : ByteArray := prog_9_method_2_code
def yX7_set : MethodName := ⟨RX7, "set", "(IIII)V"⟩
abbrev cX7_begin : ByteArray := prog_9_method_3_code
def yX7_begin : MethodName := ⟨RX7, "begin", "()V"⟩
abbrev cX7_move : ByteArray := prog_9_method_4_code
def yX7_move : MethodName := ⟨RX7, "move", "(LConvoyRoom$Plan;LConvoyRoom$Fog;I)V"⟩
abbrev cX7_heading : ByteArray := prog_9_method_5_code
def yX7_heading : MethodName := ⟨RX7, "heading", "(LConvoyRoom$Plan;I)I"⟩
def RX8 : String := "ConvoyRoom$Voyage"
def TX8 : u_T := fun k => match k with
  | 0 => ("ConvoyRoom$Voyage", "found", "Z", false)
  | 1 => ("ConvoyRoom$Voyage", "cells", "[I", true)
  | 2 => ("ConvoyRoom$Voyage", "days", "I", false)
  | 3 => ("ConvoyRoom$Voyage", "fuel", "I", false)
  | 4 => ("ConvoyRoom$Voyage", "dayLimit", "I", false)
  | _ => ("ConvoyRoom$Voyage", "fuelLimit", "I", false)
def tyX8 : Nat → FieldType := fun k => match k with
  | 0 => .boolean
  | 1 => .array .int
  | 2 => .int
  | 3 => .int
  | 4 => .int
  | _ => .int
abbrev wsX80 : List Cond := u_ws RX8 TX8 6
theorem nmX8 : ∀ a, a < 6 → ∀ b, b < 6 → a ≠ b → (TX8 a).2.1 ≠ (TX8 b).2.1 := by decide +kernel
theorem tyX8_ok : ∀ k, k < 6 → parseFieldDescriptor (TX8 k).2.2.1 = some (tyX8 k) := by decide +kernel
abbrev cX8_init : ByteArray := prog_10_method_1_code
def yX8_init : MethodName := ⟨RX8, "<init>", "()V"⟩
abbrev cX8_cellOn : ByteArray := prog_10_method_2_code
def yX8_cellOn : MethodName := ⟨RX8, "cellOn", "(I)I"⟩
abbrev cX8_fuelTill : ByteArray := prog_10_method_3_code
def yX8_fuelTill : MethodName := ⟨RX8, "fuelTill", "(I)I"⟩
def RX9 : String := "ConvoyRoom"
def TX9 : u_T := fun k => match k with
  | 0 => ("ConvoyRoom", "plans", "[LConvoyRoom$Plan;", true)
  | 1 => ("ConvoyRoom", "steered", "I", false)
  | 2 => ("ConvoyRoom", "weather", "LConvoyRoom$Fog;", true)
  | 3 => ("ConvoyRoom", "fleet", "LConvoyRoom$Fleet;", true)
  | 4 => ("ConvoyRoom", "centreSpeed", "I", false)
  | 5 => ("ConvoyRoom", "lurker", "LConvoyRoom$Lurker;", true)
  | 6 => ("ConvoyRoom", "screen", "LConvoyRoom$Screen;", true)
  | 7 => ("ConvoyRoom", "dangers", "[I", true)
  | 8 => ("ConvoyRoom", "routeA", "LConvoyRoom$Voyage;", true)
  | 9 => ("ConvoyRoom", "routeB", "LConvoyRoom$Voyage;", true)
  | 10 => ("ConvoyRoom", "pilot", "LConvoyRoom$Pilot;", false)
  | _ => ("ConvoyRoom", "log", "LConvoyRoom$Log;", true)
def tyX9 : Nat → FieldType := fun k => match k with
  | 0 => .array (.object "ConvoyRoom$Plan")
  | 1 => .int
  | 2 => .object "ConvoyRoom$Fog"
  | 3 => .object "ConvoyRoom$Fleet"
  | 4 => .int
  | 5 => .object "ConvoyRoom$Lurker"
  | 6 => .object "ConvoyRoom$Screen"
  | 7 => .array .int
  | 8 => .object "ConvoyRoom$Voyage"
  | 9 => .object "ConvoyRoom$Voyage"
  | 10 => .object "ConvoyRoom$Pilot"
  | _ => .object "ConvoyRoom$Log"
abbrev wsX90 : List Cond := u_ws RX9 TX9 12
theorem nmX9 : ∀ a, a < 12 → ∀ b, b < 12 → a ≠ b → (TX9 a).2.1 ≠ (TX9 b).2.1 := by decide +kernel
theorem tyX9_ok : ∀ k, k < 12 → parseFieldDescriptor (TX9 k).2.2.1 = some (tyX9 k) := by decide +kernel
abbrev cX9_init : ByteArray := prog_1_method_1_code
def yX9_init : MethodName := ⟨RX9, "<init>", "()V"⟩
abbrev cX9_turn : ByteArray := prog_1_method_2_code
def yX9_turn : MethodName := ⟨RX9, "turn", "(III)I"⟩
abbrev cX9_clear : ByteArray := prog_1_method_3_code
def yX9_clear : MethodName := ⟨RX9, "clear", "(I)I"⟩
abbrev cX9_ofTurn : ByteArray := prog_1_method_4_code
def yX9_ofTurn : MethodName := ⟨RX9, "ofTurn", "(III)I"⟩
abbrev cX9_course : ByteArray := prog_1_method_5_code
def yX9_course : MethodName := ⟨RX9, "course", "(II)I"⟩
abbrev cX9_ground : ByteArray := prog_1_method_6_code
def yX9_ground : MethodName := ⟨RX9, "ground", "(III)J"⟩
abbrev cX9_steer : ByteArray := prog_1_method_7_code
def yX9_steer : MethodName := ⟨RX9, "steer", "(I)I"⟩
abbrev cX9_ship : ByteArray := prog_1_method_8_code
def yX9_ship : MethodName := ⟨RX9, "ship", "(IIII)I"⟩
abbrev cX9_miss : ByteArray := prog_1_method_9_code
def yX9_miss : MethodName := ⟨RX9, "miss", "(III)I"⟩
abbrev cX9_fog : ByteArray := prog_1_method_10_code
def yX9_fog : MethodName := ⟨RX9, "fog", "(II)I"⟩
abbrev cX9_place : ByteArray := prog_1_method_11_code
def yX9_place : MethodName := ⟨RX9, "place", "(III)J"⟩
abbrev cX9_nearest : ByteArray := prog_1_method_12_code
def yX9_nearest : MethodName := ⟨RX9, "nearest", "(II)J"⟩
abbrev cX9_close : ByteArray := prog_1_method_13_code
def yX9_close : MethodName := ⟨RX9, "close", "(II)I"⟩
abbrev cX9_centre : ByteArray := prog_1_method_14_code
def yX9_centre : MethodName := ⟨RX9, "centre", "(I)I"⟩
abbrev cX9_lurk : ByteArray := prog_1_method_15_code
def yX9_lurk : MethodName := ⟨RX9, "lurk", "(IIII)I"⟩
abbrev cX9_comes : ByteArray := prog_1_method_16_code
def yX9_comes : MethodName := ⟨RX9, "comes", "(I)I"⟩
abbrev cX9_gets : ByteArray := prog_1_method_17_code
def yX9_gets : MethodName := ⟨RX9, "gets", "(II)I"⟩
abbrev cX9_worst : ByteArray := prog_1_method_18_code
def yX9_worst : MethodName := ⟨RX9, "worst", "(IIIIII)I"⟩
abbrev cX9_mix : ByteArray := prog_1_method_19_code
def yX9_mix : MethodName := ⟨RX9, "mix", "(III)I"⟩
abbrev cX9_post : ByteArray := prog_1_method_20_code
def yX9_post : MethodName := ⟨RX9, "post", "(III)I"⟩
abbrev cX9_seen : ByteArray := prog_1_method_21_code
def yX9_seen : MethodName := ⟨RX9, "seen", "(II)I"⟩
abbrev cX9_best : ByteArray := prog_1_method_22_code
def yX9_best : MethodName := ⟨RX9, "best", "(II)I"⟩
abbrev cX9_danger : ByteArray := prog_1_method_23_code
def yX9_danger : MethodName := ⟨RX9, "danger", "(III)I"⟩
abbrev cX9_route : ByteArray := prog_1_method_24_code
def yX9_route : MethodName := ⟨RX9, "route", "(IIII)I"⟩
abbrev cX9_apart : ByteArray := prog_1_method_25_code
def yX9_apart : MethodName := ⟨RX9, "apart", "(IIIII)I"⟩
abbrev cX9_cell : ByteArray := prog_1_method_26_code
def yX9_cell : MethodName := ⟨RX9, "cell", "(II)I"⟩
abbrev cX9_word : ByteArray := prog_1_method_27_code
def yX9_word : MethodName := ⟨RX9, "word", "(II)I"⟩
abbrev cX9_sight : ByteArray := prog_1_method_28_code
def yX9_sight : MethodName := ⟨RX9, "sight", "(III)I"⟩
abbrev cX9_forget : ByteArray := prog_1_method_29_code
def yX9_forget : MethodName := ⟨RX9, "forget", "()I"⟩
abbrev cX9_told : ByteArray := prog_1_method_30_code
def yX9_told : MethodName := ⟨RX9, "told", "(IIII)J"⟩
abbrev cX9_about : ByteArray := prog_1_method_31_code
def yX9_about : MethodName := ⟨RX9, "about", "(I)I"⟩
abbrev cX9_within : ByteArray := prog_1_method_32_code
def yX9_within : MethodName := ⟨RX9, "within", "(III)Z"⟩
abbrev cX9_isPlan : ByteArray := prog_1_method_33_code
def yX9_isPlan : MethodName := ⟨RX9, "isPlan", "(J)Z"⟩
abbrev cX9_isShip : ByteArray := prog_1_method_34_code
def yX9_isShip : MethodName := ⟨RX9, "isShip", "(I)Z"⟩
abbrev cX9_isStart : ByteArray := prog_1_method_35_code
def yX9_isStart : MethodName := ⟨RX9, "isStart", "(III)Z"⟩
abbrev cX9_isWeight : ByteArray := prog_1_method_36_code
def yX9_isWeight : MethodName := ⟨RX9, "isWeight", "(I)Z"⟩
abbrev cX9_isCell : ByteArray := prog_1_method_37_code
def yX9_isCell : MethodName := ⟨RX9, "isCell", "(I)Z"⟩
abbrev cX9_isVoyage : ByteArray := prog_1_method_38_code
def yX9_isVoyage : MethodName := ⟨RX9, "isVoyage", "(II)Z"⟩
abbrev cX9_landCells : ByteArray := prog_1_method_39_code
def yX9_landCells : MethodName := ⟨RX9, "landCells", "()I"⟩
abbrev cX9_readyPilot : ByteArray := prog_1_method_40_code
def yX9_readyPilot : MethodName := ⟨RX9, "readyPilot", "()LConvoyRoom$Pilot;"⟩
abbrev cX9_pace : ByteArray := prog_1_method_41_code
def yX9_pace : MethodName := ⟨RX9, "pace", "(II)I"⟩
abbrev cX9_squareOf : ByteArray := prog_1_method_42_code
def yX9_squareOf : MethodName := ⟨RX9, "squareOf", "(JJ)J"⟩
def RX10 : String := "ConvoyRoomModel"
def TX10 : u_T := fun k => match k with
  | 0 => ("ConvoyRoomModel", "turnMinute", "[I", true)
  | 1 => ("ConvoyRoomModel", "turnCourse", "[I", true)
  | 2 => ("ConvoyRoomModel", "turnMany", "[I", true)
  | 3 => ("ConvoyRoomModel", "thePlan", "I", false)
  | 4 => ("ConvoyRoomModel", "missed", "[I", true)
  | 5 => ("ConvoyRoomModel", "nowX", "J", false)
  | 6 => ("ConvoyRoomModel", "nowY", "J", false)
  | 7 => ("ConvoyRoomModel", "shipX", "[I", true)
  | 8 => ("ConvoyRoomModel", "shipY", "[I", true)
  | 9 => ("ConvoyRoomModel", "shipSpeed", "[I", true)
  | 10 => ("ConvoyRoomModel", "shipClock", "[I", true)
  | 11 => ("ConvoyRoomModel", "ships", "I", false)
  | 12 => ("ConvoyRoomModel", "missShip", "[I", true)
  | 13 => ("ConvoyRoomModel", "missHour", "[I", true)
  | 14 => ("ConvoyRoomModel", "missTurn", "[I", true)
  | 15 => ("ConvoyRoomModel", "misses", "I", false)
  | 16 => ("ConvoyRoomModel", "fogFrom", "I", false)
  | 17 => ("ConvoyRoomModel", "fogTo", "I", false)
  | 18 => ("ConvoyRoomModel", "atX", "[J", true)
  | 19 => ("ConvoyRoomModel", "atY", "[J", true)
  | 20 => ("ConvoyRoomModel", "centreSpeed", "I", false)
  | 21 => ("ConvoyRoomModel", "lurkX", "I", false)
  | 22 => ("ConvoyRoomModel", "lurkY", "I", false)
  | 23 => ("ConvoyRoomModel", "lurkSpeed", "I", false)
  | 24 => ("ConvoyRoomModel", "lurkReach", "I", false)
  | 25 => ("ConvoyRoomModel", "planX", "[J", true)
  | 26 => ("ConvoyRoomModel", "planY", "[J", true)
  | 27 => ("ConvoyRoomModel", "weight", "[I", true)
  | 28 => ("ConvoyRoomModel", "worstPlan", "I", false)
  | 29 => ("ConvoyRoomModel", "caught", "[I", true)
  | 30 => ("ConvoyRoomModel", "mixed", "[I", true)
  | 31 => ("ConvoyRoomModel", "postX", "[I", true)
  | 32 => ("ConvoyRoomModel", "postY", "[I", true)
  | 33 => ("ConvoyRoomModel", "postRange", "[I", true)
  | 34 => ("ConvoyRoomModel", "posts", "I", false)
  | 35 => ("ConvoyRoomModel", "seers", "[I", true)
  | 36 => ("ConvoyRoomModel", "dangers", "[I", true)
  | 37 => ("ConvoyRoomModel", "path", "[I", true)
  | 38 => ("ConvoyRoomModel", "pathDays", "[I", true)
  | 39 => ("ConvoyRoomModel", "hasPath", "[Z", true)
  | 40 => ("ConvoyRoomModel", "toldDays", "I", false)
  | 41 => ("ConvoyRoomModel", "toldFuel", "I", false)
  | 42 => ("ConvoyRoomModel", "off", "I", false)
  | 43 => ("ConvoyRoomModel", "costs", "[I", true)
  | 44 => ("ConvoyRoomModel", "sightMinute", "[I", true)
  | 45 => ("ConvoyRoomModel", "sightX", "[I", true)
  | 46 => ("ConvoyRoomModel", "sightY", "[I", true)
  | 47 => ("ConvoyRoomModel", "sights", "I", false)
  | 48 => ("ConvoyRoomModel", "bestFit", "J", false)
  | 49 => ("ConvoyRoomModel", "bestClock", "I", false)
  | 50 => ("ConvoyRoomModel", "bestHour", "I", false)
  | _ => ("ConvoyRoomModel", "bestTurn", "I", false)
def tyX10 : Nat → FieldType := fun k => match k with
  | 0 => .array .int
  | 1 => .array .int
  | 2 => .array .int
  | 3 => .int
  | 4 => .array .int
  | 5 => .long
  | 6 => .long
  | 7 => .array .int
  | 8 => .array .int
  | 9 => .array .int
  | 10 => .array .int
  | 11 => .int
  | 12 => .array .int
  | 13 => .array .int
  | 14 => .array .int
  | 15 => .int
  | 16 => .int
  | 17 => .int
  | 18 => .array .long
  | 19 => .array .long
  | 20 => .int
  | 21 => .int
  | 22 => .int
  | 23 => .int
  | 24 => .int
  | 25 => .array .long
  | 26 => .array .long
  | 27 => .array .int
  | 28 => .int
  | 29 => .array .int
  | 30 => .array .int
  | 31 => .array .int
  | 32 => .array .int
  | 33 => .array .int
  | 34 => .int
  | 35 => .array .int
  | 36 => .array .int
  | 37 => .array .int
  | 38 => .array .int
  | 39 => .array .boolean
  | 40 => .int
  | 41 => .int
  | 42 => .int
  | 43 => .array .int
  | 44 => .array .int
  | 45 => .array .int
  | 46 => .array .int
  | 47 => .int
  | 48 => .long
  | 49 => .int
  | 50 => .int
  | _ => .int
abbrev wsX100 : List Cond := u_ws RX10 TX10 52
theorem nmX10 : ∀ a, a < 52 → ∀ b, b < 52 → a ≠ b → (TX10 a).2.1 ≠ (TX10 b).2.1 := by decide +kernel
theorem tyX10_ok : ∀ k, k < 52 → parseFieldDescriptor (TX10 k).2.2.1 = some (tyX10 k) := by decide +kernel
abbrev cX10_init : ByteArray := prog_12_method_1_code
def yX10_init : MethodName := ⟨RX10, "<init>", "()V"⟩
abbrev cX10_in : ByteArray := prog_12_method_3_code
def yX10_in : MethodName := ⟨RX10, "in", "(JJJ)Z"⟩
abbrev cX10_size : ByteArray := prog_12_method_4_code
def yX10_size : MethodName := ⟨RX10, "size", "(I)I"⟩
abbrev cX10_isPlan : ByteArray := prog_12_method_5_code
def yX10_isPlan : MethodName := ⟨RX10, "isPlan", "(I)Z"⟩
abbrev cX10_turn : ByteArray := prog_12_method_6_code
def yX10_turn : MethodName := ⟨RX10, "turn", "(III)I"⟩
abbrev cX10_clear : ByteArray := prog_12_method_7_code
def yX10_clear : MethodName := ⟨RX10, "clear", "(I)I"⟩
abbrev cX10_ofTurn : ByteArray := prog_12_method_8_code
def yX10_ofTurn : MethodName := ⟨RX10, "ofTurn", "(III)I"⟩
abbrev cX10_missNone : ByteArray := prog_12_method_9_code
def yX10_missNone : MethodName := ⟨RX10, "missNone", "()V"⟩
abbrev cX10_courseAt : ByteArray := prog_12_method_10_code
def yX10_courseAt : MethodName := ⟨RX10, "courseAt", "(II)I"⟩
abbrev cX10_course : ByteArray := prog_12_method_11_code
def yX10_course : MethodName := ⟨RX10, "course", "(II)I"⟩
abbrev cX10_part : ByteArray := prog_12_method_12_code
def yX10_part : MethodName := ⟨RX10, "part", "(I)I"⟩
abbrev cX10_alongOf : ByteArray := prog_12_method_13_code
def yX10_alongOf : MethodName := ⟨RX10, "alongOf", "(I)I"⟩
abbrev cX10_acrossOf : ByteArray := prog_12_method_14_code
def yX10_acrossOf : MethodName := ⟨RX10, "acrossOf", "(I)I"⟩
abbrev cX10_go : ByteArray := prog_12_method_15_code
def yX10_go : MethodName := ⟨RX10, "go", "(II)V"⟩
abbrev cX10_runPlan : ByteArray := prog_12_method_16_code
def yX10_runPlan : MethodName := ⟨RX10, "runPlan", "(III)V"⟩
abbrev cX10_ground : ByteArray := prog_12_method_17_code
def yX10_ground : MethodName := ⟨RX10, "ground", "(III)J"⟩
abbrev cX10_steer : ByteArray := prog_12_method_18_code
def yX10_steer : MethodName := ⟨RX10, "steer", "(I)I"⟩
abbrev cX10_isStart : ByteArray := prog_12_method_19_code
def yX10_isStart : MethodName := ⟨RX10, "isStart", "(III)Z"⟩
abbrev cX10_ship : ByteArray := prog_12_method_20_code
def yX10_ship : MethodName := ⟨RX10, "ship", "(IIII)I"⟩
abbrev cX10_miss : ByteArray := prog_12_method_21_code
def yX10_miss : MethodName := ⟨RX10, "miss", "(III)I"⟩
abbrev cX10_fog : ByteArray := prog_12_method_22_code
def yX10_fog : MethodName := ⟨RX10, "fog", "(II)I"⟩
abbrev cX10_step : ByteArray := prog_12_method_23_code
def yX10_step : MethodName := ⟨RX10, "step", "(III)V"⟩
abbrev cX10_layMisses : ByteArray := prog_12_method_24_code
def yX10_layMisses : MethodName := ⟨RX10, "layMisses", "(I)V"⟩
abbrev cX10_place : ByteArray := prog_12_method_25_code
def yX10_place : MethodName := ⟨RX10, "place", "(III)J"⟩
abbrev cX10_begin : ByteArray := prog_12_method_26_code
def yX10_begin : MethodName := ⟨RX10, "begin", "()V"⟩
abbrev cX10_stepAll : ByteArray := prog_12_method_27_code
def yX10_stepAll : MethodName := ⟨RX10, "stepAll", "(I)V"⟩
abbrev cX10_apartOf : ByteArray := prog_12_method_28_code
def yX10_apartOf : MethodName := ⟨RX10, "apartOf", "(II)J"⟩
abbrev cX10_nearest : ByteArray := prog_12_method_29_code
def yX10_nearest : MethodName := ⟨RX10, "nearest", "(II)J"⟩
abbrev cX10_close : ByteArray := prog_12_method_30_code
def yX10_close : MethodName := ⟨RX10, "close", "(II)I"⟩
abbrev cX10_centre : ByteArray := prog_12_method_31_code
def yX10_centre : MethodName := ⟨RX10, "centre", "(I)I"⟩
abbrev cX10_lurk : ByteArray := prog_12_method_32_code
def yX10_lurk : MethodName := ⟨RX10, "lurk", "(IIII)I"⟩
abbrev cX10_isWithin : ByteArray := prog_12_method_33_code
def yX10_isWithin : MethodName := ⟨RX10, "isWithin", "(JJJ)Z"⟩
abbrev cX10_comes : ByteArray := prog_12_method_34_code
def yX10_comes : MethodName := ⟨RX10, "comes", "(I)I"⟩
abbrev cX10_layPlans : ByteArray := prog_12_method_35_code
def yX10_layPlans : MethodName := ⟨RX10, "layPlans", "(I)V"⟩
abbrev cX10_canBe : ByteArray := prog_12_method_36_code
def yX10_canBe : MethodName := ⟨RX10, "canBe", "(II)Z"⟩
abbrev cX10_getsAt : ByteArray := prog_12_method_37_code
def yX10_getsAt : MethodName := ⟨RX10, "getsAt", "(II)I"⟩
abbrev cX10_gets : ByteArray := prog_12_method_38_code
def yX10_gets : MethodName := ⟨RX10, "gets", "(II)I"⟩
abbrev cX10_layCaught : ByteArray := prog_12_method_39_code
def yX10_layCaught : MethodName := ⟨RX10, "layCaught", "(I)V"⟩
abbrev cX10_worstOf : ByteArray := prog_12_method_40_code
def yX10_worstOf : MethodName := ⟨RX10, "worstOf", "()I"⟩
abbrev cX10_worst : ByteArray := prog_12_method_41_code
def yX10_worst : MethodName := ⟨RX10, "worst", "(IIIIII)I"⟩
abbrev cX10_mix : ByteArray := prog_12_method_42_code
def yX10_mix : MethodName := ⟨RX10, "mix", "(III)I"⟩
abbrev cX10_post : ByteArray := prog_12_method_43_code
def yX10_post : MethodName := ⟨RX10, "post", "(III)I"⟩
abbrev cX10_findSeers : ByteArray := prog_12_method_44_code
def yX10_findSeers : MethodName := ⟨RX10, "findSeers", "(I)V"⟩
abbrev cX10_seenBy : ByteArray := prog_12_method_45_code
def yX10_seenBy : MethodName := ⟨RX10, "seenBy", "(II)I"⟩
abbrev cX10_seen : ByteArray := prog_12_method_46_code
def yX10_seen : MethodName := ⟨RX10, "seen", "(II)I"⟩
abbrev cX10_ones : ByteArray := prog_12_method_47_code
def yX10_ones : MethodName := ⟨RX10, "ones", "(I)I"⟩
abbrev cX10_best : ByteArray := prog_12_method_48_code
def yX10_best : MethodName := ⟨RX10, "best", "(II)I"⟩
abbrev cX10_danger : ByteArray := prog_12_method_49_code
def yX10_danger : MethodName := ⟨RX10, "danger", "(III)I"⟩
abbrev cX10_isCell : ByteArray := prog_12_method_50_code
def yX10_isCell : MethodName := ⟨RX10, "isCell", "(I)Z"⟩
abbrev cX10_areBeside : ByteArray := prog_12_method_51_code
def yX10_areBeside : MethodName := ⟨RX10, "areBeside", "(II)Z"⟩
abbrev cX10_cellOf : ByteArray := prog_12_method_52_code
def yX10_cellOf : MethodName := ⟨RX10, "cellOf", "(II)I"⟩
abbrev cX10_isNear : ByteArray := prog_12_method_53_code
def yX10_isNear : MethodName := ⟨RX10, "isNear", "(II)Z"⟩
abbrev cX10_isFree : ByteArray := prog_12_method_54_code
def yX10_isFree : MethodName := ⟨RX10, "isFree", "(II)Z"⟩
abbrev cX10_canStay : ByteArray := prog_12_method_55_code
def yX10_canStay : MethodName := ⟨RX10, "canStay", "(II)Z"⟩
abbrev cX10_placeOf : ByteArray := prog_12_method_56_code
def yX10_placeOf : MethodName := ⟨RX10, "placeOf", "(III)I"⟩
abbrev cX10_byMove : ByteArray := prog_12_method_57_code
def yX10_byMove : MethodName := ⟨RX10, "byMove", "(IIII)I"⟩
abbrev cX10_findCosts : ByteArray := prog_12_method_58_code
def yX10_findCosts : MethodName := ⟨RX10, "findCosts", "(III)V"⟩
abbrev cX10_cheapest : ByteArray := prog_12_method_59_code
def yX10_cheapest : MethodName := ⟨RX10, "cheapest", "(III)I"⟩
abbrev cX10_firstMove : ByteArray := prog_12_method_60_code
def yX10_firstMove : MethodName := ⟨RX10, "firstMove", "(III)I"⟩
abbrev cX10_find : ByteArray := prog_12_method_61_code
def yX10_find : MethodName := ⟨RX10, "find", "(IIIIII)I"⟩
abbrev cX10_isAllowed : ByteArray := prog_12_method_62_code
def yX10_isAllowed : MethodName := ⟨RX10, "isAllowed", "(II)Z"⟩
abbrev cX10_route : ByteArray := prog_12_method_63_code
def yX10_route : MethodName := ⟨RX10, "route", "(IIII)I"⟩
abbrev cX10_apart : ByteArray := prog_12_method_64_code
def yX10_apart : MethodName := ⟨RX10, "apart", "(IIIII)I"⟩
abbrev cX10_fuelTill : ByteArray := prog_12_method_65_code
def yX10_fuelTill : MethodName := ⟨RX10, "fuelTill", "(II)I"⟩
abbrev cX10_cell : ByteArray := prog_12_method_66_code
def yX10_cell : MethodName := ⟨RX10, "cell", "(II)I"⟩
abbrev cX10_word : ByteArray := prog_12_method_67_code
def yX10_word : MethodName := ⟨RX10, "word", "(II)I"⟩
abbrev cX10_sight : ByteArray := prog_12_method_68_code
def yX10_sight : MethodName := ⟨RX10, "sight", "(III)I"⟩
abbrev cX10_forget : ByteArray := prog_12_method_69_code
def yX10_forget : MethodName := ⟨RX10, "forget", "()I"⟩
abbrev cX10_far : ByteArray := prog_12_method_70_code
def yX10_far : MethodName := ⟨RX10, "far", "(JJ)J"⟩
abbrev cX10_misfit : ByteArray := prog_12_method_71_code
def yX10_misfit : MethodName := ⟨RX10, "misfit", "(IIII)J"⟩
abbrev cX10_tryFit : ByteArray := prog_12_method_72_code
def yX10_tryFit : MethodName := ⟨RX10, "tryFit", "(IIIIII)V"⟩
abbrev cX10_told : ByteArray := prog_12_method_73_code
def yX10_told : MethodName := ⟨RX10, "told", "(IIII)J"⟩
abbrev cX10_about : ByteArray := prog_12_method_74_code
def yX10_about : MethodName := ⟨RX10, "about", "(I)I"⟩
def RJ6 : String := "java/lang/Integer"
def TJ6 : u_T := fun k => match k with
  | _ => ("", "", "", false)
def tyJ6 : Nat → FieldType := fun k => match k with
  | _ => .int
abbrev wsJ60 : List Cond := u_ws RJ6 TJ6 0
theorem nmJ6 : ∀ a, a < 0 → ∀ b, b < 0 → a ≠ b → (TJ6 a).2.1 ≠ (TJ6 b).2.1 := by decide +kernel
theorem tyJ6_ok : ∀ k, k < 0 → parseFieldDescriptor (TJ6 k).2.2.1 = some (tyJ6 k) := by decide +kernel
abbrev cJ6_bitCount_0f7a4 : ByteArray := prog_13_method_49_code
def yJ6_bitCount_0f7a4 : MethodName := ⟨RJ6, "bitCount", "(I)I"⟩
def RJ9 : String := "java/lang/Math"
def TJ9 : u_T := fun k => match k with
  | _ => ("", "", "", false)
def tyJ9 : Nat → FieldType := fun k => match k with
  | _ => .int
abbrev wsJ90 : List Cond := u_ws RJ9 TJ9 0
theorem nmJ9 : ∀ a, a < 0 → ∀ b, b < 0 → a ≠ b → (TJ9 a).2.1 ≠ (TJ9 b).2.1 := by decide +kernel
theorem tyJ9_ok : ∀ k, k < 0 → parseFieldDescriptor (TJ9 k).2.2.1 = some (tyJ9 k) := by decide +kernel
abbrev cJ9_abs_0f7a4 : ByteArray := prog_14_method_59_code
def yJ9_abs_0f7a4 : MethodName := ⟨RJ9, "abs", "(I)I"⟩
abbrev cJ9_abs_067f4 : ByteArray := prog_14_method_61_code
def yJ9_abs_067f4 : MethodName := ⟨RJ9, "abs", "(J)J"⟩
abbrev cJ9_max_7cf53 : ByteArray := prog_14_method_65_code
def yJ9_max_7cf53 : MethodName := ⟨RJ9, "max", "(II)I"⟩
abbrev cJ9_min_7cf53 : ByteArray := prog_14_method_69_code
def yJ9_min_7cf53 : MethodName := ⟨RJ9, "min", "(II)I"⟩
def RL : String := "ConvoyRoomLaw"
abbrev cL_law : ByteArray := code
def yL_law : MethodName := ⟨RL, "law", "([I)Z"⟩
abbrev vwCl : List vw_C := [(RX0, TX0, 9), (RX1, TX1, 2), (RX2, TX2, 11), (RX3, TX3, 11), (RX4, TX4, 11), (RX5, TX5, 3), (RX6, TX6, 6), (RX7, TX7, 7), (RX8, TX8, 6), (RX9, TX9, 12), (RX10, TX10, 52)]
/-- the words that hold through calls: all good ones of the tables -/
def q_WS : List Cond := lw_tbl.filter goodWord
theorem q_WS_in {w : Cond} (h : w ∈ lw_tbl) (hg : goodWord w = true) : w ∈ q_WS := List.mem_filter.mpr ⟨h, hg⟩
theorem q_w0 {w : Cond} (i : Nat) (h : (k2_sels lw_privs)[i]? = some w) (hg : goodWord w = true) : w ∈ q_WS := q_WS_in (List.mem_append_left _ (List.mem_of_getElem? h)) hg
theorem q_w1 {w : Cond} (i : Nat) (h : tables_1_1[i]? = some w) (hg : goodWord w = true) : w ∈ q_WS := q_WS_in (List.mem_append_right _ (List.mem_append_left _ (List.mem_of_getElem? h))) hg
theorem q_w2 {w : Cond} (i : Nat) (h : tables_1_2[i]? = some w) (hg : goodWord w = true) : w ∈ q_WS := q_WS_in (List.mem_append_right _ (List.mem_append_right _ (List.mem_append_left _ (List.mem_of_getElem? h)))) hg
theorem q_w3 {w : Cond} (i : Nat) (h : tables_1_3[i]? = some w) (hg : goodWord w = true) : w ∈ q_WS := q_WS_in (List.mem_append_right _ (List.mem_append_right _ (List.mem_append_right _ (List.mem_append_left _ (List.mem_of_getElem? h))))) hg
theorem q_w4 {w : Cond} (i : Nat) (h : tables_1_4[i]? = some w) (hg : goodWord w = true) : w ∈ q_WS := q_WS_in (List.mem_append_right _ (List.mem_append_right _ (List.mem_append_right _ (List.mem_append_right _ (List.mem_append_left _ (List.mem_of_getElem? h)))))) hg
theorem q_w5 {w : Cond} (i : Nat) (h : tables_1_5[i]? = some w) (hg : goodWord w = true) : w ∈ q_WS := q_WS_in (List.mem_append_right _ (List.mem_append_right _ (List.mem_append_right _ (List.mem_append_right _ (List.mem_append_right _ (List.mem_append_left _ (List.mem_of_getElem? h))))))) hg
theorem q_w6 {w : Cond} (i : Nat) (h : tables_1_6[i]? = some w) (hg : goodWord w = true) : w ∈ q_WS := q_WS_in (List.mem_append_right _ (List.mem_append_right _ (List.mem_append_right _ (List.mem_append_right _ (List.mem_append_right _ (List.mem_append_right _ (List.mem_of_getElem? h))))))) hg
end
section
theorem dX0_init_0 : decode cX0_init 0 = .ok (.aload_n 0, 1) := by decide +kernel
theorem dX0_init_1 : decode cX0_init 1 = .ok (.invokespecial 3, 3) := by decide +kernel
theorem dX0_init_4 : decode cX0_init 4 = .ok (.aload_n 0, 1) := by decide +kernel
theorem dX0_init_5 : decode cX0_init 5 = .ok (.bipush 9, 2) := by decide +kernel
theorem dX0_init_7 : decode cX0_init 7 = .ok (.anewarray 9, 3) := by decide +kernel
theorem dX0_init_10 : decode cX0_init 10 = .ok (.putfield 11, 3) := by decide +kernel
theorem dX0_init_13 : decode cX0_init 13 = .ok (.aload_n 0, 1) := by decide +kernel
theorem dX0_init_14 : decode cX0_init 14 = .ok (.iconst 0, 1) := by decide +kernel
theorem dX0_init_15 : decode cX0_init 15 = .ok (.putfield 17, 3) := by decide +kernel
theorem dX0_init_18 : decode cX0_init 18 = .ok (.aload_n 0, 1) := by decide +kernel
theorem dX0_init_19 : decode cX0_init 19 = .ok (.iconst 0, 1) := by decide +kernel
theorem dX0_init_20 : decode cX0_init 20 = .ok (.putfield 21, 3) := by decide +kernel
theorem dX0_init_23 : decode cX0_init 23 = .ok (.aload_n 0, 1) := by decide +kernel
theorem dX0_init_24 : decode cX0_init 24 = .ok (.iconst 0, 1) := by decide +kernel
theorem dX0_init_25 : decode cX0_init 25 = .ok (.putfield 24, 3) := by decide +kernel
theorem dX0_init_28 : decode cX0_init 28 = .ok (.aload_n 0, 1) := by decide +kernel
theorem dX0_init_29 : decode cX0_init 29 = .ok (.iconst 0, 1) := by decide +kernel
theorem dX0_init_30 : decode cX0_init 30 = .ok (.putfield 27, 3) := by decide +kernel
theorem dX0_init_33 : decode cX0_init 33 = .ok (.aload_n 0, 1) := by decide +kernel
theorem dX0_init_34 : decode cX0_init 34 = .ok (.lconst 0, 1) := by decide +kernel
theorem dX0_init_35 : decode cX0_init 35 = .ok (.putfield 30, 3) := by decide +kernel
theorem dX0_init_38 : decode cX0_init 38 = .ok (.aload_n 0, 1) := by decide +kernel
theorem dX0_init_39 : decode cX0_init 39 = .ok (.iconst 0, 1) := by decide +kernel
theorem dX0_init_40 : decode cX0_init 40 = .ok (.putfield 34, 3) := by decide +kernel
theorem dX0_init_43 : decode cX0_init 43 = .ok (.aload_n 0, 1) := by decide +kernel
theorem dX0_init_44 : decode cX0_init 44 = .ok (.iconst 0, 1) := by decide +kernel
theorem dX0_init_45 : decode cX0_init 45 = .ok (.putfield 37, 3) := by decide +kernel
theorem dX0_init_48 : decode cX0_init 48 = .ok (.aload_n 0, 1) := by decide +kernel
theorem dX0_init_49 : decode cX0_init 49 = .ok (.iconst 0, 1) := by decide +kernel
theorem dX0_init_50 : decode cX0_init 50 = .ok (.putfield 40, 3) := by decide +kernel
theorem dX0_init_53 : decode cX0_init 53 = .ok (.iconst 0, 1) := by decide +kernel
theorem dX0_init_54 : decode cX0_init 54 = .ok (.istore_n 1, 1) := by decide +kernel
theorem dX0_init_55 : decode cX0_init 55 = .ok (.iload_n 1, 1) := by decide +kernel
theorem dX0_init_56 : decode cX0_init 56 = .ok (.bipush 9, 2) := by decide +kernel
theorem dX0_init_58 : decode cX0_init 58 = .ok (.if_icmp .ge 22, 3) := by decide +kernel
theorem dX0_init_61 : decode cX0_init 61 = .ok (.aload_n 0, 1) := by decide +kernel
theorem dX0_init_62 : decode cX0_init 62 = .ok (.getfield 11, 3) := by decide +kernel
theorem dX0_init_65 : decode cX0_init 65 = .ok (.iload_n 1, 1) := by decide +kernel
theorem dX0_init_66 : decode cX0_init 66 = .ok (.new 9, 3) := by decide +kernel
theorem dX0_init_69 : decode cX0_init 69 = .ok (.dup, 1) := by decide +kernel
theorem dX0_init_70 : decode cX0_init 70 = .ok (.invokespecial 43, 3) := by decide +kernel
theorem dX0_init_73 : decode cX0_init 73 = .ok (.aastore, 1) := by decide +kernel
theorem dX0_init_74 : decode cX0_init 74 = .ok (.iinc 1 1, 3) := by decide +kernel
theorem dX0_init_77 : decode cX0_init 77 = .ok (.goto (-22), 3) := by decide +kernel
theorem dX0_init_80 : decode cX0_init 80 = .ok (.return_, 1) := by decide +kernel
theorem dX0_findNearest_0 : decode cX0_findNearest 0 = .ok (.aload_n 0, 1) := by decide +kernel
theorem dX0_findNearest_1 : decode cX0_findNearest 1 = .ok (.ldc2_w 46, 3) := by decide +kernel
theorem dX0_findNearest_4 : decode cX0_findNearest 4 = .ok (.putfield 30, 3) := by decide +kernel
theorem dX0_findNearest_7 : decode cX0_findNearest 7 = .ok (.aload_n 0, 1) := by decide +kernel
theorem dX0_findNearest_8 : decode cX0_findNearest 8 = .ok (.invokevirtual 48, 3) := by decide +kernel
theorem dX0_findNearest_11 : decode cX0_findNearest 11 = .ok (.iconst 0, 1) := by decide +kernel
theorem dX0_findNearest_12 : decode cX0_findNearest 12 = .ok (.istore 4, 2) := by decide +kernel
theorem dX0_findNearest_14 : decode cX0_findNearest 14 = .ok (.iload 4, 2) := by decide +kernel
theorem dX0_findNearest_16 : decode cX0_findNearest 16 = .ok (.iload_n 3, 1) := by decide +kernel
theorem dX0_findNearest_17 : decode cX0_findNearest 17 = .ok (.if_icmp .gt 61, 3) := by decide +kernel
theorem dX0_findNearest_20 : decode cX0_findNearest 20 = .ok (.aload_n 0, 1) := by decide +kernel
theorem dX0_findNearest_21 : decode cX0_findNearest 21 = .ok (.invokevirtual 51, 3) := by decide +kernel
theorem dX0_findNearest_24 : decode cX0_findNearest 24 = .ok (.lstore 5, 2) := by decide +kernel
theorem dX0_findNearest_26 : decode cX0_findNearest 26 = .ok (.lload 5, 2) := by decide +kernel
theorem dX0_findNearest_28 : decode cX0_findNearest 28 = .ok (.aload_n 0, 1) := by decide +kernel
theorem dX0_findNearest_29 : decode cX0_findNearest 29 = .ok (.getfield 30, 3) := by decide +kernel
theorem dX0_findNearest_32 : decode cX0_findNearest 32 = .ok (.lcmp, 1) := by decide +kernel
theorem dX0_findNearest_33 : decode cX0_findNearest 33 = .ok (.ifCond .ge 31, 3) := by decide +kernel
theorem dX0_findNearest_36 : decode cX0_findNearest 36 = .ok (.aload_n 0, 1) := by decide +kernel
theorem dX0_findNearest_37 : decode cX0_findNearest 37 = .ok (.lload 5, 2) := by decide +kernel
theorem dX0_findNearest_39 : decode cX0_findNearest 39 = .ok (.putfield 30, 3) := by decide +kernel
theorem dX0_findNearest_42 : decode cX0_findNearest 42 = .ok (.aload_n 0, 1) := by decide +kernel
theorem dX0_findNearest_43 : decode cX0_findNearest 43 = .ok (.iload 4, 2) := by decide +kernel
theorem dX0_findNearest_45 : decode cX0_findNearest 45 = .ok (.putfield 34, 3) := by decide +kernel
theorem dX0_findNearest_48 : decode cX0_findNearest 48 = .ok (.aload_n 0, 1) := by decide +kernel
theorem dX0_findNearest_49 : decode cX0_findNearest 49 = .ok (.aload_n 0, 1) := by decide +kernel
theorem dX0_findNearest_50 : decode cX0_findNearest 50 = .ok (.getfield 24, 3) := by decide +kernel
theorem dX0_findNearest_53 : decode cX0_findNearest 53 = .ok (.putfield 37, 3) := by decide +kernel
theorem dX0_findNearest_56 : decode cX0_findNearest 56 = .ok (.aload_n 0, 1) := by decide +kernel
theorem dX0_findNearest_57 : decode cX0_findNearest 57 = .ok (.aload_n 0, 1) := by decide +kernel
theorem dX0_findNearest_58 : decode cX0_findNearest 58 = .ok (.getfield 27, 3) := by decide +kernel
theorem dX0_findNearest_61 : decode cX0_findNearest 61 = .ok (.putfield 40, 3) := by decide +kernel
theorem dX0_findNearest_64 : decode cX0_findNearest 64 = .ok (.aload_n 0, 1) := by decide +kernel
theorem dX0_findNearest_65 : decode cX0_findNearest 65 = .ok (.aload_n 1, 1) := by decide +kernel
theorem dX0_findNearest_66 : decode cX0_findNearest 66 = .ok (.aload_n 2, 1) := by decide +kernel
theorem dX0_findNearest_67 : decode cX0_findNearest 67 = .ok (.iload 4, 2) := by decide +kernel
theorem dX0_findNearest_69 : decode cX0_findNearest 69 = .ok (.invokevirtual 55, 3) := by decide +kernel
theorem dX0_findNearest_72 : decode cX0_findNearest 72 = .ok (.iinc 4 1, 3) := by decide +kernel
theorem dX0_findNearest_75 : decode cX0_findNearest 75 = .ok (.goto (-61), 3) := by decide +kernel
theorem dX0_findNearest_78 : decode cX0_findNearest 78 = .ok (.return_, 1) := by decide +kernel
theorem dX0_minutesNearer_0 : decode cX0_minutesNearer 0 = .ok (.iload 4, 2) := by decide +kernel
theorem dX0_minutesNearer_2 : decode cX0_minutesNearer 2 = .ok (.i2l, 1) := by decide +kernel
theorem dX0_minutesNearer_3 : decode cX0_minutesNearer 3 = .ok (.iload 4, 2) := by decide +kernel
theorem dX0_minutesNearer_5 : decode cX0_minutesNearer 5 = .ok (.i2l, 1) := by decide +kernel
theorem dX0_minutesNearer_6 : decode cX0_minutesNearer 6 = .ok (.lmul, 1) := by decide +kernel
theorem dX0_minutesNearer_7 : decode cX0_minutesNearer 7 = .ok (.lstore 5, 2) := by decide +kernel
theorem dX0_minutesNearer_9 : decode cX0_minutesNearer 9 = .ok (.iconst 0, 1) := by decide +kernel
theorem dX0_minutesNearer_10 : decode cX0_minutesNearer 10 = .ok (.istore 7, 2) := by decide +kernel
theorem dX0_minutesNearer_12 : decode cX0_minutesNearer 12 = .ok (.aload_n 0, 1) := by decide +kernel
theorem dX0_minutesNearer_13 : decode cX0_minutesNearer 13 = .ok (.invokevirtual 48, 3) := by decide +kernel
theorem dX0_minutesNearer_16 : decode cX0_minutesNearer 16 = .ok (.iconst 0, 1) := by decide +kernel
theorem dX0_minutesNearer_17 : decode cX0_minutesNearer 17 = .ok (.istore 8, 2) := by decide +kernel
theorem dX0_minutesNearer_19 : decode cX0_minutesNearer 19 = .ok (.iload 8, 2) := by decide +kernel
theorem dX0_minutesNearer_21 : decode cX0_minutesNearer 21 = .ok (.iload_n 3, 1) := by decide +kernel
theorem dX0_minutesNearer_22 : decode cX0_minutesNearer 22 = .ok (.if_icmp .gt 30, 3) := by decide +kernel
theorem dX0_minutesNearer_25 : decode cX0_minutesNearer 25 = .ok (.aload_n 0, 1) := by decide +kernel
theorem dX0_minutesNearer_26 : decode cX0_minutesNearer 26 = .ok (.invokevirtual 51, 3) := by decide +kernel
theorem dX0_minutesNearer_29 : decode cX0_minutesNearer 29 = .ok (.lload 5, 2) := by decide +kernel
theorem dX0_minutesNearer_31 : decode cX0_minutesNearer 31 = .ok (.lcmp, 1) := by decide +kernel
theorem dX0_minutesNearer_32 : decode cX0_minutesNearer 32 = .ok (.ifCond .ge 6, 3) := by decide +kernel
theorem dX0_minutesNearer_35 : decode cX0_minutesNearer 35 = .ok (.iinc 7 1, 3) := by decide +kernel
theorem dX0_minutesNearer_38 : decode cX0_minutesNearer 38 = .ok (.aload_n 0, 1) := by decide +kernel
theorem dX0_minutesNearer_39 : decode cX0_minutesNearer 39 = .ok (.aload_n 1, 1) := by decide +kernel
theorem dX0_minutesNearer_40 : decode cX0_minutesNearer 40 = .ok (.aload_n 2, 1) := by decide +kernel
theorem dX0_minutesNearer_41 : decode cX0_minutesNearer 41 = .ok (.iload 8, 2) := by decide +kernel
theorem dX0_minutesNearer_43 : decode cX0_minutesNearer 43 = .ok (.invokevirtual 55, 3) := by decide +kernel
theorem dX0_minutesNearer_46 : decode cX0_minutesNearer 46 = .ok (.iinc 8 1, 3) := by decide +kernel
theorem dX0_minutesNearer_49 : decode cX0_minutesNearer 49 = .ok (.goto (-30), 3) := by decide +kernel
theorem dX0_minutesNearer_52 : decode cX0_minutesNearer 52 = .ok (.iload 7, 2) := by decide +kernel
theorem dX0_minutesNearer_54 : decode cX0_minutesNearer 54 = .ok (.ireturn, 1) := by decide +kernel
theorem dX0_beginAll_0 : decode cX0_beginAll 0 = .ok (.iconst 0, 1) := by decide +kernel
theorem dX0_beginAll_1 : decode cX0_beginAll 1 = .ok (.istore_n 1, 1) := by decide +kernel
theorem dX0_beginAll_2 : decode cX0_beginAll 2 = .ok (.iload_n 1, 1) := by decide +kernel
theorem dX0_beginAll_3 : decode cX0_beginAll 3 = .ok (.aload_n 0, 1) := by decide +kernel
theorem dX0_beginAll_4 : decode cX0_beginAll 4 = .ok (.getfield 17, 3) := by decide +kernel
theorem dX0_beginAll_7 : decode cX0_beginAll 7 = .ok (.if_icmp .ge 18, 3) := by decide +kernel
theorem dX0_beginAll_10 : decode cX0_beginAll 10 = .ok (.aload_n 0, 1) := by decide +kernel
theorem dX0_beginAll_11 : decode cX0_beginAll 11 = .ok (.getfield 11, 3) := by decide +kernel
theorem dX0_beginAll_14 : decode cX0_beginAll 14 = .ok (.iload_n 1, 1) := by decide +kernel
theorem dX0_beginAll_15 : decode cX0_beginAll 15 = .ok (.aaload, 1) := by decide +kernel
theorem dX0_beginAll_16 : decode cX0_beginAll 16 = .ok (.invokevirtual 59, 3) := by decide +kernel
theorem dX0_beginAll_19 : decode cX0_beginAll 19 = .ok (.iinc 1 1, 3) := by decide +kernel
theorem dX0_beginAll_22 : decode cX0_beginAll 22 = .ok (.goto (-20), 3) := by decide +kernel
theorem dX0_beginAll_25 : decode cX0_beginAll 25 = .ok (.return_, 1) := by decide +kernel
theorem dX0_moveAll_0 : decode cX0_moveAll 0 = .ok (.iconst 0, 1) := by decide +kernel
theorem dX0_moveAll_1 : decode cX0_moveAll 1 = .ok (.istore 4, 2) := by decide +kernel
theorem dX0_moveAll_3 : decode cX0_moveAll 3 = .ok (.iload 4, 2) := by decide +kernel
theorem dX0_moveAll_5 : decode cX0_moveAll 5 = .ok (.aload_n 0, 1) := by decide +kernel
theorem dX0_moveAll_6 : decode cX0_moveAll 6 = .ok (.getfield 17, 3) := by decide +kernel
theorem dX0_moveAll_9 : decode cX0_moveAll 9 = .ok (.if_icmp .ge 22, 3) := by decide +kernel
theorem dX0_moveAll_12 : decode cX0_moveAll 12 = .ok (.aload_n 0, 1) := by decide +kernel
theorem dX0_moveAll_13 : decode cX0_moveAll 13 = .ok (.getfield 11, 3) := by decide +kernel
theorem dX0_moveAll_16 : decode cX0_moveAll 16 = .ok (.iload 4, 2) := by decide +kernel
theorem dX0_moveAll_18 : decode cX0_moveAll 18 = .ok (.aaload, 1) := by decide +kernel
theorem dX0_moveAll_19 : decode cX0_moveAll 19 = .ok (.aload_n 1, 1) := by decide +kernel
theorem dX0_moveAll_20 : decode cX0_moveAll 20 = .ok (.aload_n 2, 1) := by decide +kernel
theorem dX0_moveAll_21 : decode cX0_moveAll 21 = .ok (.iload_n 3, 1) := by decide +kernel
theorem dX0_moveAll_22 : decode cX0_moveAll 22 = .ok (.invokevirtual 62, 3) := by decide +kernel
theorem dX0_moveAll_25 : decode cX0_moveAll 25 = .ok (.iinc 4 1, 3) := by decide +kernel
theorem dX0_moveAll_28 : decode cX0_moveAll 28 = .ok (.goto (-25), 3) := by decide +kernel
theorem dX0_moveAll_31 : decode cX0_moveAll 31 = .ok (.return_, 1) := by decide +kernel
theorem dX0_squareOfPair_0 : decode cX0_squareOfPair 0 = .ok (.ldc2_w 46, 3) := by decide +kernel
theorem dX0_squareOfPair_3 : decode cX0_squareOfPair 3 = .ok (.lstore_n 1, 1) := by decide +kernel
theorem dX0_squareOfPair_4 : decode cX0_squareOfPair 4 = .ok (.iconst 0, 1) := by decide +kernel
theorem dX0_squareOfPair_5 : decode cX0_squareOfPair 5 = .ok (.istore_n 3, 1) := by decide +kernel
theorem dX0_squareOfPair_6 : decode cX0_squareOfPair 6 = .ok (.iload_n 3, 1) := by decide +kernel
theorem dX0_squareOfPair_7 : decode cX0_squareOfPair 7 = .ok (.aload_n 0, 1) := by decide +kernel
theorem dX0_squareOfPair_8 : decode cX0_squareOfPair 8 = .ok (.getfield 17, 3) := by decide +kernel
theorem dX0_squareOfPair_11 : decode cX0_squareOfPair 11 = .ok (.if_icmp .ge 95, 3) := by decide +kernel
theorem dX0_squareOfPair_14 : decode cX0_squareOfPair 14 = .ok (.iload_n 3, 1) := by decide +kernel
theorem dX0_squareOfPair_15 : decode cX0_squareOfPair 15 = .ok (.iconst 1, 1) := by decide +kernel
theorem dX0_squareOfPair_16 : decode cX0_squareOfPair 16 = .ok (.iadd, 1) := by decide +kernel
theorem dX0_squareOfPair_17 : decode cX0_squareOfPair 17 = .ok (.istore 4, 2) := by decide +kernel
theorem dX0_squareOfPair_19 : decode cX0_squareOfPair 19 = .ok (.iload 4, 2) := by decide +kernel
theorem dX0_squareOfPair_21 : decode cX0_squareOfPair 21 = .ok (.aload_n 0, 1) := by decide +kernel
theorem dX0_squareOfPair_22 : decode cX0_squareOfPair 22 = .ok (.getfield 17, 3) := by decide +kernel
theorem dX0_squareOfPair_25 : decode cX0_squareOfPair 25 = .ok (.if_icmp .ge 75, 3) := by decide +kernel
theorem dX0_squareOfPair_28 : decode cX0_squareOfPair 28 = .ok (.aload_n 0, 1) := by decide +kernel
theorem dX0_squareOfPair_29 : decode cX0_squareOfPair 29 = .ok (.getfield 11, 3) := by decide +kernel
theorem dX0_squareOfPair_32 : decode cX0_squareOfPair 32 = .ok (.iload_n 3, 1) := by decide +kernel
theorem dX0_squareOfPair_33 : decode cX0_squareOfPair 33 = .ok (.aaload, 1) := by decide +kernel
theorem dX0_squareOfPair_34 : decode cX0_squareOfPair 34 = .ok (.getfield 65, 3) := by decide +kernel
theorem dX0_squareOfPair_37 : decode cX0_squareOfPair 37 = .ok (.aload_n 0, 1) := by decide +kernel
theorem dX0_squareOfPair_38 : decode cX0_squareOfPair 38 = .ok (.getfield 11, 3) := by decide +kernel
theorem dX0_squareOfPair_41 : decode cX0_squareOfPair 41 = .ok (.iload 4, 2) := by decide +kernel
theorem dX0_squareOfPair_43 : decode cX0_squareOfPair 43 = .ok (.aaload, 1) := by decide +kernel
theorem dX0_squareOfPair_44 : decode cX0_squareOfPair 44 = .ok (.getfield 65, 3) := by decide +kernel
theorem dX0_squareOfPair_47 : decode cX0_squareOfPair 47 = .ok (.lsub, 1) := by decide +kernel
theorem dX0_squareOfPair_48 : decode cX0_squareOfPair 48 = .ok (.aload_n 0, 1) := by decide +kernel
theorem dX0_squareOfPair_49 : decode cX0_squareOfPair 49 = .ok (.getfield 11, 3) := by decide +kernel
theorem dX0_squareOfPair_52 : decode cX0_squareOfPair 52 = .ok (.iload_n 3, 1) := by decide +kernel
theorem dX0_squareOfPair_53 : decode cX0_squareOfPair 53 = .ok (.aaload, 1) := by decide +kernel
theorem dX0_squareOfPair_54 : decode cX0_squareOfPair 54 = .ok (.getfield 68, 3) := by decide +kernel
theorem dX0_squareOfPair_57 : decode cX0_squareOfPair 57 = .ok (.aload_n 0, 1) := by decide +kernel
theorem dX0_squareOfPair_58 : decode cX0_squareOfPair 58 = .ok (.getfield 11, 3) := by decide +kernel
theorem dX0_squareOfPair_61 : decode cX0_squareOfPair 61 = .ok (.iload 4, 2) := by decide +kernel
theorem dX0_squareOfPair_63 : decode cX0_squareOfPair 63 = .ok (.aaload, 1) := by decide +kernel
theorem dX0_squareOfPair_64 : decode cX0_squareOfPair 64 = .ok (.getfield 68, 3) := by decide +kernel
theorem dX0_squareOfPair_67 : decode cX0_squareOfPair 67 = .ok (.lsub, 1) := by decide +kernel
theorem dX0_squareOfPair_68 : decode cX0_squareOfPair 68 = .ok (.invokestatic 71, 3) := by decide +kernel
theorem dX0_squareOfPair_71 : decode cX0_squareOfPair 71 = .ok (.lstore 5, 2) := by decide +kernel
theorem dX0_squareOfPair_73 : decode cX0_squareOfPair 73 = .ok (.lload 5, 2) := by decide +kernel
theorem dX0_squareOfPair_75 : decode cX0_squareOfPair 75 = .ok (.lload_n 1, 1) := by decide +kernel
theorem dX0_squareOfPair_76 : decode cX0_squareOfPair 76 = .ok (.lcmp, 1) := by decide +kernel
theorem dX0_squareOfPair_77 : decode cX0_squareOfPair 77 = .ok (.ifCond .ge 17, 3) := by decide +kernel
theorem dX0_squareOfPair_80 : decode cX0_squareOfPair 80 = .ok (.lload 5, 2) := by decide +kernel
theorem dX0_squareOfPair_82 : decode cX0_squareOfPair 82 = .ok (.lstore_n 1, 1) := by decide +kernel
theorem dX0_squareOfPair_83 : decode cX0_squareOfPair 83 = .ok (.aload_n 0, 1) := by decide +kernel
theorem dX0_squareOfPair_84 : decode cX0_squareOfPair 84 = .ok (.iload_n 3, 1) := by decide +kernel
theorem dX0_squareOfPair_85 : decode cX0_squareOfPair 85 = .ok (.putfield 24, 3) := by decide +kernel
theorem dX0_squareOfPair_88 : decode cX0_squareOfPair 88 = .ok (.aload_n 0, 1) := by decide +kernel
theorem dX0_squareOfPair_89 : decode cX0_squareOfPair 89 = .ok (.iload 4, 2) := by decide +kernel
theorem dX0_squareOfPair_91 : decode cX0_squareOfPair 91 = .ok (.putfield 27, 3) := by decide +kernel
theorem dX0_squareOfPair_94 : decode cX0_squareOfPair 94 = .ok (.iinc 4 1, 3) := by decide +kernel
theorem dX0_squareOfPair_97 : decode cX0_squareOfPair 97 = .ok (.goto (-78), 3) := by decide +kernel
theorem dX0_squareOfPair_100 : decode cX0_squareOfPair 100 = .ok (.iinc 3 1, 3) := by decide +kernel
theorem dX0_squareOfPair_103 : decode cX0_squareOfPair 103 = .ok (.goto (-97), 3) := by decide +kernel
theorem dX0_squareOfPair_106 : decode cX0_squareOfPair 106 = .ok (.lload_n 1, 1) := by decide +kernel
theorem dX0_squareOfPair_107 : decode cX0_squareOfPair 107 = .ok (.lreturn, 1) := by decide +kernel
theorem dX1_init_0 : decode cX1_init 0 = .ok (.aload_n 0, 1) := by decide +kernel
theorem dX1_init_1 : decode cX1_init 1 = .ok (.invokespecial 1, 3) := by decide +kernel
theorem dX1_init_4 : decode cX1_init 4 = .ok (.aload_n 0, 1) := by decide +kernel
theorem dX1_init_5 : decode cX1_init 5 = .ok (.iconst 0, 1) := by decide +kernel
theorem dX1_init_6 : decode cX1_init 6 = .ok (.putfield 7, 3) := by decide +kernel
theorem dX1_init_9 : decode cX1_init 9 = .ok (.aload_n 0, 1) := by decide +kernel
theorem dX1_init_10 : decode cX1_init 10 = .ok (.iconst 0, 1) := by decide +kernel
theorem dX1_init_11 : decode cX1_init 11 = .ok (.putfield 13, 3) := by decide +kernel
theorem dX1_init_14 : decode cX1_init 14 = .ok (.return_, 1) := by decide +kernel
theorem dX1_hides_0 : decode cX1_hides 0 = .ok (.iload_n 1, 1) := by decide +kernel
theorem dX1_hides_1 : decode cX1_hides 1 = .ok (.aload_n 0, 1) := by decide +kernel
theorem dX1_hides_2 : decode cX1_hides 2 = .ok (.getfield 7, 3) := by decide +kernel
theorem dX1_hides_5 : decode cX1_hides 5 = .ok (.if_icmp .lt 15, 3) := by decide +kernel
theorem dX1_hides_8 : decode cX1_hides 8 = .ok (.iload_n 1, 1) := by decide +kernel
theorem dX1_hides_9 : decode cX1_hides 9 = .ok (.aload_n 0, 1) := by decide +kernel
theorem dX1_hides_10 : decode cX1_hides 10 = .ok (.getfield 13, 3) := by decide +kernel
theorem dX1_hides_13 : decode cX1_hides 13 = .ok (.if_icmp .ge 7, 3) := by decide +kernel
theorem dX1_hides_16 : decode cX1_hides 16 = .ok (.iconst 1, 1) := by decide +kernel
theorem dX1_hides_17 : decode cX1_hides 17 = .ok (.goto 4, 3) := by decide +kernel
theorem dX1_hides_20 : decode cX1_hides 20 = .ok (.iconst 0, 1) := by decide +kernel
theorem dX1_hides_21 : decode cX1_hides 21 = .ok (.ireturn, 1) := by decide +kernel
theorem dX1_clearMinutes_0 : decode cX1_clearMinutes 0 = .ok (.iconst 0, 1) := by decide +kernel
theorem dX1_clearMinutes_1 : decode cX1_clearMinutes 1 = .ok (.iload_n 2, 1) := by decide +kernel
theorem dX1_clearMinutes_2 : decode cX1_clearMinutes 2 = .ok (.iload_n 1, 1) := by decide +kernel
theorem dX1_clearMinutes_3 : decode cX1_clearMinutes 3 = .ok (.isub, 1) := by decide +kernel
theorem dX1_clearMinutes_4 : decode cX1_clearMinutes 4 = .ok (.invokestatic 16, 3) := by decide +kernel
theorem dX1_clearMinutes_7 : decode cX1_clearMinutes 7 = .ok (.istore_n 3, 1) := by decide +kernel
theorem dX1_clearMinutes_8 : decode cX1_clearMinutes 8 = .ok (.iload_n 3, 1) := by decide +kernel
theorem dX1_clearMinutes_9 : decode cX1_clearMinutes 9 = .ok (.iconst 0, 1) := by decide +kernel
theorem dX1_clearMinutes_10 : decode cX1_clearMinutes 10 = .ok (.iload_n 2, 1) := by decide +kernel
theorem dX1_clearMinutes_11 : decode cX1_clearMinutes 11 = .ok (.aload_n 0, 1) := by decide +kernel
theorem dX1_clearMinutes_12 : decode cX1_clearMinutes 12 = .ok (.getfield 13, 3) := by decide +kernel
theorem dX1_clearMinutes_15 : decode cX1_clearMinutes 15 = .ok (.invokestatic 22, 3) := by decide +kernel
theorem dX1_clearMinutes_18 : decode cX1_clearMinutes 18 = .ok (.iload_n 1, 1) := by decide +kernel
theorem dX1_clearMinutes_19 : decode cX1_clearMinutes 19 = .ok (.aload_n 0, 1) := by decide +kernel
theorem dX1_clearMinutes_20 : decode cX1_clearMinutes 20 = .ok (.getfield 7, 3) := by decide +kernel
theorem dX1_clearMinutes_23 : decode cX1_clearMinutes 23 = .ok (.invokestatic 16, 3) := by decide +kernel
theorem dX1_clearMinutes_26 : decode cX1_clearMinutes 26 = .ok (.isub, 1) := by decide +kernel
theorem dX1_clearMinutes_27 : decode cX1_clearMinutes 27 = .ok (.invokestatic 16, 3) := by decide +kernel
theorem dX1_clearMinutes_30 : decode cX1_clearMinutes 30 = .ok (.isub, 1) := by decide +kernel
theorem dX1_clearMinutes_31 : decode cX1_clearMinutes 31 = .ok (.ireturn, 1) := by decide +kernel
theorem dX2_init_0 : decode cX2_init 0 = .ok (.aload_n 0, 1) := by decide +kernel
theorem dX2_init_1 : decode cX2_init 1 = .ok (.invokespecial 3, 3) := by decide +kernel
theorem dX2_init_4 : decode cX2_init 4 = .ok (.aload_n 0, 1) := by decide +kernel
theorem dX2_init_5 : decode cX2_init 5 = .ok (.bipush 12, 2) := by decide +kernel
theorem dX2_init_7 : decode cX2_init 7 = .ok (.newarray .int, 2) := by decide +kernel
theorem dX2_init_9 : decode cX2_init 9 = .ok (.putfield 9, 3) := by decide +kernel
theorem dX2_init_12 : decode cX2_init 12 = .ok (.aload_n 0, 1) := by decide +kernel
theorem dX2_init_13 : decode cX2_init 13 = .ok (.bipush 12, 2) := by decide +kernel
theorem dX2_init_15 : decode cX2_init 15 = .ok (.newarray .int, 2) := by decide +kernel
theorem dX2_init_17 : decode cX2_init 17 = .ok (.putfield 15, 3) := by decide +kernel
theorem dX2_init_20 : decode cX2_init 20 = .ok (.aload_n 0, 1) := by decide +kernel
theorem dX2_init_21 : decode cX2_init 21 = .ok (.bipush 12, 2) := by decide +kernel
theorem dX2_init_23 : decode cX2_init 23 = .ok (.newarray .int, 2) := by decide +kernel
theorem dX2_init_25 : decode cX2_init 25 = .ok (.putfield 18, 3) := by decide +kernel
theorem dX2_init_28 : decode cX2_init 28 = .ok (.aload_n 0, 1) := by decide +kernel
theorem dX2_init_29 : decode cX2_init 29 = .ok (.iconst 0, 1) := by decide +kernel
theorem dX2_init_30 : decode cX2_init 30 = .ok (.putfield 21, 3) := by decide +kernel
theorem dX2_init_33 : decode cX2_init 33 = .ok (.aload_n 0, 1) := by decide +kernel
theorem dX2_init_34 : decode cX2_init 34 = .ok (.new 25, 3) := by decide +kernel
theorem dX2_init_37 : decode cX2_init 37 = .ok (.dup, 1) := by decide +kernel
theorem dX2_init_38 : decode cX2_init 38 = .ok (.invokespecial 27, 3) := by decide +kernel
theorem dX2_init_41 : decode cX2_init 41 = .ok (.putfield 28, 3) := by decide +kernel
theorem dX2_init_44 : decode cX2_init 44 = .ok (.aload_n 0, 1) := by decide +kernel
theorem dX2_init_45 : decode cX2_init 45 = .ok (.sipush 601, 3) := by decide +kernel
theorem dX2_init_48 : decode cX2_init 48 = .ok (.newarray .long, 2) := by decide +kernel
theorem dX2_init_50 : decode cX2_init 50 = .ok (.putfield 32, 3) := by decide +kernel
theorem dX2_init_53 : decode cX2_init 53 = .ok (.aload_n 0, 1) := by decide +kernel
theorem dX2_init_54 : decode cX2_init 54 = .ok (.sipush 601, 3) := by decide +kernel
theorem dX2_init_57 : decode cX2_init 57 = .ok (.newarray .long, 2) := by decide +kernel
theorem dX2_init_59 : decode cX2_init 59 = .ok (.putfield 36, 3) := by decide +kernel
theorem dX2_init_62 : decode cX2_init 62 = .ok (.aload_n 0, 1) := by decide +kernel
theorem dX2_init_63 : decode cX2_init 63 = .ok (.lconst 0, 1) := by decide +kernel
theorem dX2_init_64 : decode cX2_init 64 = .ok (.putfield 39, 3) := by decide +kernel
theorem dX2_init_67 : decode cX2_init 67 = .ok (.aload_n 0, 1) := by decide +kernel
theorem dX2_init_68 : decode cX2_init 68 = .ok (.iconst 0, 1) := by decide +kernel
theorem dX2_init_69 : decode cX2_init 69 = .ok (.putfield 43, 3) := by decide +kernel
theorem dX2_init_72 : decode cX2_init 72 = .ok (.aload_n 0, 1) := by decide +kernel
theorem dX2_init_73 : decode cX2_init 73 = .ok (.bipush (-6), 2) := by decide +kernel
theorem dX2_init_75 : decode cX2_init 75 = .ok (.putfield 46, 3) := by decide +kernel
theorem dX2_init_78 : decode cX2_init 78 = .ok (.aload_n 0, 1) := by decide +kernel
theorem dX2_init_79 : decode cX2_init 79 = .ok (.bipush (-6), 2) := by decide +kernel
theorem dX2_init_81 : decode cX2_init 81 = .ok (.putfield 49, 3) := by decide +kernel
theorem dX2_init_84 : decode cX2_init 84 = .ok (.return_, 1) := by decide +kernel
theorem dX2_add_0 : decode cX2_add 0 = .ok (.aload_n 0, 1) := by decide +kernel
theorem dX2_add_1 : decode cX2_add 1 = .ok (.getfield 9, 3) := by decide +kernel
theorem dX2_add_4 : decode cX2_add 4 = .ok (.aload_n 0, 1) := by decide +kernel
theorem dX2_add_5 : decode cX2_add 5 = .ok (.getfield 21, 3) := by decide +kernel
theorem dX2_add_8 : decode cX2_add 8 = .ok (.iload_n 1, 1) := by decide +kernel
theorem dX2_add_9 : decode cX2_add 9 = .ok (.iastore, 1) := by decide +kernel
theorem dX2_add_10 : decode cX2_add 10 = .ok (.aload_n 0, 1) := by decide +kernel
theorem dX2_add_11 : decode cX2_add 11 = .ok (.getfield 15, 3) := by decide +kernel
theorem dX2_add_14 : decode cX2_add 14 = .ok (.aload_n 0, 1) := by decide +kernel
theorem dX2_add_15 : decode cX2_add 15 = .ok (.getfield 21, 3) := by decide +kernel
theorem dX2_add_18 : decode cX2_add 18 = .ok (.iload_n 2, 1) := by decide +kernel
theorem dX2_add_19 : decode cX2_add 19 = .ok (.iastore, 1) := by decide +kernel
theorem dX2_add_20 : decode cX2_add 20 = .ok (.aload_n 0, 1) := by decide +kernel
theorem dX2_add_21 : decode cX2_add 21 = .ok (.getfield 18, 3) := by decide +kernel
theorem dX2_add_24 : decode cX2_add 24 = .ok (.aload_n 0, 1) := by decide +kernel
theorem dX2_add_25 : decode cX2_add 25 = .ok (.getfield 21, 3) := by decide +kernel
theorem dX2_add_28 : decode cX2_add 28 = .ok (.iload_n 3, 1) := by decide +kernel
theorem dX2_add_29 : decode cX2_add 29 = .ok (.iastore, 1) := by decide +kernel
theorem dX2_add_30 : decode cX2_add 30 = .ok (.aload_n 0, 1) := by decide +kernel
theorem dX2_add_31 : decode cX2_add 31 = .ok (.dup, 1) := by decide +kernel
theorem dX2_add_32 : decode cX2_add 32 = .ok (.getfield 21, 3) := by decide +kernel
theorem dX2_add_35 : decode cX2_add 35 = .ok (.iconst 1, 1) := by decide +kernel
theorem dX2_add_36 : decode cX2_add 36 = .ok (.iadd, 1) := by decide +kernel
theorem dX2_add_37 : decode cX2_add 37 = .ok (.putfield 21, 3) := by decide +kernel
theorem dX2_add_40 : decode cX2_add 40 = .ok (.return_, 1) := by decide +kernel
theorem dX2_explain_0 : decode cX2_explain 0 = .ok (.aload_n 0, 1) := by decide +kernel
theorem dX2_explain_1 : decode cX2_explain 1 = .ok (.ldc2_w 54, 3) := by decide +kernel
theorem dX2_explain_4 : decode cX2_explain 4 = .ok (.putfield 39, 3) := by decide +kernel
theorem dX2_explain_7 : decode cX2_explain 7 = .ok (.iconst 0, 1) := by decide +kernel
theorem dX2_explain_8 : decode cX2_explain 8 = .ok (.istore_n 3, 1) := by decide +kernel
theorem dX2_explain_9 : decode cX2_explain 9 = .ok (.iload_n 3, 1) := by decide +kernel
theorem dX2_explain_10 : decode cX2_explain 10 = .ok (.getstatic 56, 3) := by decide +kernel
theorem dX2_explain_13 : decode cX2_explain 13 = .ok (.arraylength, 1) := by decide +kernel
theorem dX2_explain_14 : decode cX2_explain 14 = .ok (.if_icmp .ge 68, 3) := by decide +kernel
theorem dX2_explain_17 : decode cX2_explain 17 = .ok (.aload_n 0, 1) := by decide +kernel
theorem dX2_explain_18 : decode cX2_explain 18 = .ok (.getfield 28, 3) := by decide +kernel
theorem dX2_explain_21 : decode cX2_explain 21 = .ok (.getstatic 56, 3) := by decide +kernel
theorem dX2_explain_24 : decode cX2_explain 24 = .ok (.iload_n 3, 1) := by decide +kernel
theorem dX2_explain_25 : decode cX2_explain 25 = .ok (.iaload, 1) := by decide +kernel
theorem dX2_explain_26 : decode cX2_explain 26 = .ok (.putfield 59, 3) := by decide +kernel
theorem dX2_explain_29 : decode cX2_explain 29 = .ok (.aload_n 0, 1) := by decide +kernel
theorem dX2_explain_30 : decode cX2_explain 30 = .ok (.aload_n 1, 1) := by decide +kernel
theorem dX2_explain_31 : decode cX2_explain 31 = .ok (.aload_n 2, 1) := by decide +kernel
theorem dX2_explain_32 : decode cX2_explain 32 = .ok (.invokevirtual 60, 3) := by decide +kernel
theorem dX2_explain_35 : decode cX2_explain 35 = .ok (.aload_n 0, 1) := by decide +kernel
theorem dX2_explain_36 : decode cX2_explain 36 = .ok (.aload_n 0, 1) := by decide +kernel
theorem dX2_explain_37 : decode cX2_explain 37 = .ok (.aload_n 2, 1) := by decide +kernel
theorem dX2_explain_38 : decode cX2_explain 38 = .ok (.iconst 0, 1) := by decide +kernel
theorem dX2_explain_39 : decode cX2_explain 39 = .ok (.iconst 0, 1) := by decide +kernel
theorem dX2_explain_40 : decode cX2_explain 40 = .ok (.iconst 0, 1) := by decide +kernel
theorem dX2_explain_41 : decode cX2_explain 41 = .ok (.iconst 0, 1) := by decide +kernel
theorem dX2_explain_42 : decode cX2_explain 42 = .ok (.invokevirtual 64, 3) := by decide +kernel
theorem dX2_explain_45 : decode cX2_explain 45 = .ok (.bipush (-6), 2) := by decide +kernel
theorem dX2_explain_47 : decode cX2_explain 47 = .ok (.bipush (-6), 2) := by decide +kernel
theorem dX2_explain_49 : decode cX2_explain 49 = .ok (.invokevirtual 68, 3) := by decide +kernel
theorem dX2_explain_52 : decode cX2_explain 52 = .ok (.iconst 0, 1) := by decide +kernel
theorem dX2_explain_53 : decode cX2_explain 53 = .ok (.istore 4, 2) := by decide +kernel
theorem dX2_explain_55 : decode cX2_explain 55 = .ok (.iload 4, 2) := by decide +kernel
theorem dX2_explain_57 : decode cX2_explain 57 = .ok (.bipush 10, 2) := by decide +kernel
theorem dX2_explain_59 : decode cX2_explain 59 = .ok (.if_icmp .ge 17, 3) := by decide +kernel
theorem dX2_explain_62 : decode cX2_explain 62 = .ok (.aload_n 0, 1) := by decide +kernel
theorem dX2_explain_63 : decode cX2_explain 63 = .ok (.aload_n 1, 1) := by decide +kernel
theorem dX2_explain_64 : decode cX2_explain 64 = .ok (.aload_n 2, 1) := by decide +kernel
theorem dX2_explain_65 : decode cX2_explain 65 = .ok (.iload 4, 2) := by decide +kernel
theorem dX2_explain_67 : decode cX2_explain 67 = .ok (.invokevirtual 72, 3) := by decide +kernel
theorem dX2_explain_70 : decode cX2_explain 70 = .ok (.iinc 4 1, 3) := by decide +kernel
theorem dX2_explain_73 : decode cX2_explain 73 = .ok (.goto (-18), 3) := by decide +kernel
theorem dX2_explain_76 : decode cX2_explain 76 = .ok (.iinc 3 1, 3) := by decide +kernel
theorem dX2_explain_79 : decode cX2_explain 79 = .ok (.goto (-70), 3) := by decide +kernel
theorem dX2_explain_82 : decode cX2_explain 82 = .ok (.return_, 1) := by decide +kernel
theorem dX2_goTheWay_0 : decode cX2_goTheWay 0 = .ok (.aload_n 0, 1) := by decide +kernel
theorem dX2_goTheWay_1 : decode cX2_goTheWay 1 = .ok (.getfield 28, 3) := by decide +kernel
theorem dX2_goTheWay_4 : decode cX2_goTheWay 4 = .ok (.invokevirtual 76, 3) := by decide +kernel
theorem dX2_goTheWay_7 : decode cX2_goTheWay 7 = .ok (.iconst 0, 1) := by decide +kernel
theorem dX2_goTheWay_8 : decode cX2_goTheWay 8 = .ok (.istore_n 3, 1) := by decide +kernel
theorem dX2_goTheWay_9 : decode cX2_goTheWay 9 = .ok (.iload_n 3, 1) := by decide +kernel
theorem dX2_goTheWay_10 : decode cX2_goTheWay 10 = .ok (.sipush 600, 3) := by decide +kernel
theorem dX2_goTheWay_13 : decode cX2_goTheWay 13 = .ok (.if_icmp .gt 45, 3) := by decide +kernel
theorem dX2_goTheWay_16 : decode cX2_goTheWay 16 = .ok (.aload_n 0, 1) := by decide +kernel
theorem dX2_goTheWay_17 : decode cX2_goTheWay 17 = .ok (.getfield 32, 3) := by decide +kernel
theorem dX2_goTheWay_20 : decode cX2_goTheWay 20 = .ok (.iload_n 3, 1) := by decide +kernel
theorem dX2_goTheWay_21 : decode cX2_goTheWay 21 = .ok (.aload_n 0, 1) := by decide +kernel
theorem dX2_goTheWay_22 : decode cX2_goTheWay 22 = .ok (.getfield 28, 3) := by decide +kernel
theorem dX2_goTheWay_25 : decode cX2_goTheWay 25 = .ok (.getfield 79, 3) := by decide +kernel
theorem dX2_goTheWay_28 : decode cX2_goTheWay 28 = .ok (.lastore, 1) := by decide +kernel
theorem dX2_goTheWay_29 : decode cX2_goTheWay 29 = .ok (.aload_n 0, 1) := by decide +kernel
theorem dX2_goTheWay_30 : decode cX2_goTheWay 30 = .ok (.getfield 36, 3) := by decide +kernel
theorem dX2_goTheWay_33 : decode cX2_goTheWay 33 = .ok (.iload_n 3, 1) := by decide +kernel
theorem dX2_goTheWay_34 : decode cX2_goTheWay 34 = .ok (.aload_n 0, 1) := by decide +kernel
theorem dX2_goTheWay_35 : decode cX2_goTheWay 35 = .ok (.getfield 28, 3) := by decide +kernel
theorem dX2_goTheWay_38 : decode cX2_goTheWay 38 = .ok (.getfield 82, 3) := by decide +kernel
theorem dX2_goTheWay_41 : decode cX2_goTheWay 41 = .ok (.lastore, 1) := by decide +kernel
theorem dX2_goTheWay_42 : decode cX2_goTheWay 42 = .ok (.aload_n 0, 1) := by decide +kernel
theorem dX2_goTheWay_43 : decode cX2_goTheWay 43 = .ok (.getfield 28, 3) := by decide +kernel
theorem dX2_goTheWay_46 : decode cX2_goTheWay 46 = .ok (.aload_n 1, 1) := by decide +kernel
theorem dX2_goTheWay_47 : decode cX2_goTheWay 47 = .ok (.aload_n 2, 1) := by decide +kernel
theorem dX2_goTheWay_48 : decode cX2_goTheWay 48 = .ok (.iload_n 3, 1) := by decide +kernel
theorem dX2_goTheWay_49 : decode cX2_goTheWay 49 = .ok (.invokevirtual 85, 3) := by decide +kernel
theorem dX2_goTheWay_52 : decode cX2_goTheWay 52 = .ok (.iinc 3 1, 3) := by decide +kernel
theorem dX2_goTheWay_55 : decode cX2_goTheWay 55 = .ok (.goto (-46), 3) := by decide +kernel
theorem dX2_goTheWay_58 : decode cX2_goTheWay 58 = .ok (.return_, 1) := by decide +kernel
theorem dX2_considerMisses_0 : decode cX2_considerMisses 0 = .ok (.bipush 60, 2) := by decide +kernel
theorem dX2_considerMisses_2 : decode cX2_considerMisses 2 = .ok (.iload_n 3, 1) := by decide +kernel
theorem dX2_considerMisses_3 : decode cX2_considerMisses 3 = .ok (.imul, 1) := by decide +kernel
theorem dX2_considerMisses_4 : decode cX2_considerMisses 4 = .ok (.aload_n 0, 1) := by decide +kernel
theorem dX2_considerMisses_5 : decode cX2_considerMisses 5 = .ok (.getfield 28, 3) := by decide +kernel
theorem dX2_considerMisses_8 : decode cX2_considerMisses 8 = .ok (.getfield 59, 3) := by decide +kernel
theorem dX2_considerMisses_11 : decode cX2_considerMisses 11 = .ok (.isub, 1) := by decide +kernel
theorem dX2_considerMisses_12 : decode cX2_considerMisses 12 = .ok (.istore 4, 2) := by decide +kernel
theorem dX2_considerMisses_14 : decode cX2_considerMisses 14 = .ok (.iconst 0, 1) := by decide +kernel
theorem dX2_considerMisses_15 : decode cX2_considerMisses 15 = .ok (.istore 5, 2) := by decide +kernel
theorem dX2_considerMisses_17 : decode cX2_considerMisses 17 = .ok (.iload 5, 2) := by decide +kernel
theorem dX2_considerMisses_19 : decode cX2_considerMisses 19 = .ok (.aload_n 1, 1) := by decide +kernel
theorem dX2_considerMisses_20 : decode cX2_considerMisses 20 = .ok (.getfield 88, 3) := by decide +kernel
theorem dX2_considerMisses_23 : decode cX2_considerMisses 23 = .ok (.if_icmp .ge 116, 3) := by decide +kernel
theorem dX2_considerMisses_26 : decode cX2_considerMisses 26 = .ok (.aload_n 1, 1) := by decide +kernel
theorem dX2_considerMisses_27 : decode cX2_considerMisses 27 = .ok (.iload 5, 2) := by decide +kernel
theorem dX2_considerMisses_29 : decode cX2_considerMisses 29 = .ok (.invokevirtual 91, 3) := by decide +kernel
theorem dX2_considerMisses_32 : decode cX2_considerMisses 32 = .ok (.istore 6, 2) := by decide +kernel
theorem dX2_considerMisses_34 : decode cX2_considerMisses 34 = .ok (.aload_n 0, 1) := by decide +kernel
theorem dX2_considerMisses_35 : decode cX2_considerMisses 35 = .ok (.getfield 28, 3) := by decide +kernel
theorem dX2_considerMisses_38 : decode cX2_considerMisses 38 = .ok (.getfield 95, 3) := by decide +kernel
theorem dX2_considerMisses_41 : decode cX2_considerMisses 41 = .ok (.iload 6, 2) := by decide +kernel
theorem dX2_considerMisses_43 : decode cX2_considerMisses 43 = .ok (.iconst 0, 1) := by decide +kernel
theorem dX2_considerMisses_44 : decode cX2_considerMisses 44 = .ok (.invokestatic 98, 3) := by decide +kernel
theorem dX2_considerMisses_47 : decode cX2_considerMisses 47 = .ok (.aload_n 1, 1) := by decide +kernel
theorem dX2_considerMisses_48 : decode cX2_considerMisses 48 = .ok (.getfield 102, 3) := by decide +kernel
theorem dX2_considerMisses_51 : decode cX2_considerMisses 51 = .ok (.iload 5, 2) := by decide +kernel
theorem dX2_considerMisses_53 : decode cX2_considerMisses 53 = .ok (.iaload, 1) := by decide +kernel
theorem dX2_considerMisses_54 : decode cX2_considerMisses 54 = .ok (.iconst 0, 1) := by decide +kernel
theorem dX2_considerMisses_55 : decode cX2_considerMisses 55 = .ok (.invokestatic 98, 3) := by decide +kernel
theorem dX2_considerMisses_58 : decode cX2_considerMisses 58 = .ok (.isub, 1) := by decide +kernel
theorem dX2_considerMisses_59 : decode cX2_considerMisses 59 = .ok (.imul, 1) := by decide +kernel
theorem dX2_considerMisses_60 : decode cX2_considerMisses 60 = .ok (.istore 7, 2) := by decide +kernel
theorem dX2_considerMisses_62 : decode cX2_considerMisses 62 = .ok (.aload_n 0, 1) := by decide +kernel
theorem dX2_considerMisses_63 : decode cX2_considerMisses 63 = .ok (.getfield 28, 3) := by decide +kernel
theorem dX2_considerMisses_66 : decode cX2_considerMisses 66 = .ok (.getfield 95, 3) := by decide +kernel
theorem dX2_considerMisses_69 : decode cX2_considerMisses 69 = .ok (.iload 6, 2) := by decide +kernel
theorem dX2_considerMisses_71 : decode cX2_considerMisses 71 = .ok (.iconst 1, 1) := by decide +kernel
theorem dX2_considerMisses_72 : decode cX2_considerMisses 72 = .ok (.invokestatic 98, 3) := by decide +kernel
theorem dX2_considerMisses_75 : decode cX2_considerMisses 75 = .ok (.aload_n 1, 1) := by decide +kernel
theorem dX2_considerMisses_76 : decode cX2_considerMisses 76 = .ok (.getfield 102, 3) := by decide +kernel
theorem dX2_considerMisses_79 : decode cX2_considerMisses 79 = .ok (.iload 5, 2) := by decide +kernel
theorem dX2_considerMisses_81 : decode cX2_considerMisses 81 = .ok (.iaload, 1) := by decide +kernel
theorem dX2_considerMisses_82 : decode cX2_considerMisses 82 = .ok (.iconst 1, 1) := by decide +kernel
theorem dX2_considerMisses_83 : decode cX2_considerMisses 83 = .ok (.invokestatic 98, 3) := by decide +kernel
theorem dX2_considerMisses_86 : decode cX2_considerMisses 86 = .ok (.isub, 1) := by decide +kernel
theorem dX2_considerMisses_87 : decode cX2_considerMisses 87 = .ok (.imul, 1) := by decide +kernel
theorem dX2_considerMisses_88 : decode cX2_considerMisses 88 = .ok (.istore 8, 2) := by decide +kernel
theorem dX2_considerMisses_90 : decode cX2_considerMisses 90 = .ok (.iconst 0, 1) := by decide +kernel
theorem dX2_considerMisses_91 : decode cX2_considerMisses 91 = .ok (.iload 4, 2) := by decide +kernel
theorem dX2_considerMisses_93 : decode cX2_considerMisses 93 = .ok (.aload_n 1, 1) := by decide +kernel
theorem dX2_considerMisses_94 : decode cX2_considerMisses 94 = .ok (.getfield 105, 3) := by decide +kernel
theorem dX2_considerMisses_97 : decode cX2_considerMisses 97 = .ok (.iload 5, 2) := by decide +kernel
theorem dX2_considerMisses_99 : decode cX2_considerMisses 99 = .ok (.iaload, 1) := by decide +kernel
theorem dX2_considerMisses_100 : decode cX2_considerMisses 100 = .ok (.iadd, 1) := by decide +kernel
theorem dX2_considerMisses_101 : decode cX2_considerMisses 101 = .ok (.invokestatic 106, 3) := by decide +kernel
theorem dX2_considerMisses_104 : decode cX2_considerMisses 104 = .ok (.istore 9, 2) := by decide +kernel
theorem dX2_considerMisses_106 : decode cX2_considerMisses 106 = .ok (.aload_n 0, 1) := by decide +kernel
theorem dX2_considerMisses_107 : decode cX2_considerMisses 107 = .ok (.aload_n 0, 1) := by decide +kernel
theorem dX2_considerMisses_108 : decode cX2_considerMisses 108 = .ok (.aload_n 2, 1) := by decide +kernel
theorem dX2_considerMisses_109 : decode cX2_considerMisses 109 = .ok (.iload 9, 2) := by decide +kernel
theorem dX2_considerMisses_111 : decode cX2_considerMisses 111 = .ok (.iload 4, 2) := by decide +kernel
theorem dX2_considerMisses_113 : decode cX2_considerMisses 113 = .ok (.aload_n 1, 1) := by decide +kernel
theorem dX2_considerMisses_114 : decode cX2_considerMisses 114 = .ok (.iload 5, 2) := by decide +kernel
theorem dX2_considerMisses_116 : decode cX2_considerMisses 116 = .ok (.invokevirtual 111, 3) := by decide +kernel
theorem dX2_considerMisses_119 : decode cX2_considerMisses 119 = .ok (.iadd, 1) := by decide +kernel
theorem dX2_considerMisses_120 : decode cX2_considerMisses 120 = .ok (.iload 7, 2) := by decide +kernel
theorem dX2_considerMisses_122 : decode cX2_considerMisses 122 = .ok (.iload 8, 2) := by decide +kernel
theorem dX2_considerMisses_124 : decode cX2_considerMisses 124 = .ok (.invokevirtual 64, 3) := by decide +kernel
theorem dX2_considerMisses_127 : decode cX2_considerMisses 127 = .ok (.iload_n 3, 1) := by decide +kernel
theorem dX2_considerMisses_128 : decode cX2_considerMisses 128 = .ok (.iload 5, 2) := by decide +kernel
theorem dX2_considerMisses_130 : decode cX2_considerMisses 130 = .ok (.invokevirtual 68, 3) := by decide +kernel
theorem dX2_considerMisses_133 : decode cX2_considerMisses 133 = .ok (.iinc 5 1, 3) := by decide +kernel
theorem dX2_considerMisses_136 : decode cX2_considerMisses 136 = .ok (.goto (-119), 3) := by decide +kernel
theorem dX2_considerMisses_139 : decode cX2_considerMisses 139 = .ok (.return_, 1) := by decide +kernel
theorem dX2_misfitLess_0 : decode cX2_misfitLess 0 = .ok (.lconst 0, 1) := by decide +kernel
theorem dX2_misfitLess_1 : decode cX2_misfitLess 1 = .ok (.lstore 6, 2) := by decide +kernel
theorem dX2_misfitLess_3 : decode cX2_misfitLess 3 = .ok (.iconst 0, 1) := by decide +kernel
theorem dX2_misfitLess_4 : decode cX2_misfitLess 4 = .ok (.istore 8, 2) := by decide +kernel
theorem dX2_misfitLess_6 : decode cX2_misfitLess 6 = .ok (.iload 8, 2) := by decide +kernel
theorem dX2_misfitLess_8 : decode cX2_misfitLess 8 = .ok (.aload_n 0, 1) := by decide +kernel
theorem dX2_misfitLess_9 : decode cX2_misfitLess 9 = .ok (.getfield 21, 3) := by decide +kernel
theorem dX2_misfitLess_12 : decode cX2_misfitLess 12 = .ok (.if_icmp .ge 94, 3) := by decide +kernel
theorem dX2_misfitLess_15 : decode cX2_misfitLess 15 = .ok (.aload_n 0, 1) := by decide +kernel
theorem dX2_misfitLess_16 : decode cX2_misfitLess 16 = .ok (.getfield 9, 3) := by decide +kernel
theorem dX2_misfitLess_19 : decode cX2_misfitLess 19 = .ok (.iload 8, 2) := by decide +kernel
theorem dX2_misfitLess_21 : decode cX2_misfitLess 21 = .ok (.iaload, 1) := by decide +kernel
theorem dX2_misfitLess_22 : decode cX2_misfitLess 22 = .ok (.istore 9, 2) := by decide +kernel
theorem dX2_misfitLess_24 : decode cX2_misfitLess 24 = .ok (.aload_n 1, 1) := by decide +kernel
theorem dX2_misfitLess_25 : decode cX2_misfitLess 25 = .ok (.iload_n 2, 1) := by decide +kernel
theorem dX2_misfitLess_26 : decode cX2_misfitLess 26 = .ok (.iload_n 3, 1) := by decide +kernel
theorem dX2_misfitLess_27 : decode cX2_misfitLess 27 = .ok (.iload 9, 2) := by decide +kernel
theorem dX2_misfitLess_29 : decode cX2_misfitLess 29 = .ok (.invokestatic 114, 3) := by decide +kernel
theorem dX2_misfitLess_32 : decode cX2_misfitLess 32 = .ok (.invokevirtual 117, 3) := by decide +kernel
theorem dX2_misfitLess_35 : decode cX2_misfitLess 35 = .ok (.i2l, 1) := by decide +kernel
theorem dX2_misfitLess_36 : decode cX2_misfitLess 36 = .ok (.lstore 10, 2) := by decide +kernel
theorem dX2_misfitLess_38 : decode cX2_misfitLess 38 = .ok (.lload 6, 2) := by decide +kernel
theorem dX2_misfitLess_40 : decode cX2_misfitLess 40 = .ok (.aload_n 0, 1) := by decide +kernel
theorem dX2_misfitLess_41 : decode cX2_misfitLess 41 = .ok (.getfield 32, 3) := by decide +kernel
theorem dX2_misfitLess_44 : decode cX2_misfitLess 44 = .ok (.iload 9, 2) := by decide +kernel
theorem dX2_misfitLess_46 : decode cX2_misfitLess 46 = .ok (.laload, 1) := by decide +kernel
theorem dX2_misfitLess_47 : decode cX2_misfitLess 47 = .ok (.lload 10, 2) := by decide +kernel
theorem dX2_misfitLess_49 : decode cX2_misfitLess 49 = .ok (.iload 4, 2) := by decide +kernel
theorem dX2_misfitLess_51 : decode cX2_misfitLess 51 = .ok (.i2l, 1) := by decide +kernel
theorem dX2_misfitLess_52 : decode cX2_misfitLess 52 = .ok (.lmul, 1) := by decide +kernel
theorem dX2_misfitLess_53 : decode cX2_misfitLess 53 = .ok (.ladd, 1) := by decide +kernel
theorem dX2_misfitLess_54 : decode cX2_misfitLess 54 = .ok (.aload_n 0, 1) := by decide +kernel
theorem dX2_misfitLess_55 : decode cX2_misfitLess 55 = .ok (.getfield 15, 3) := by decide +kernel
theorem dX2_misfitLess_58 : decode cX2_misfitLess 58 = .ok (.iload 8, 2) := by decide +kernel
theorem dX2_misfitLess_60 : decode cX2_misfitLess 60 = .ok (.iaload, 1) := by decide +kernel
theorem dX2_misfitLess_61 : decode cX2_misfitLess 61 = .ok (.i2l, 1) := by decide +kernel
theorem dX2_misfitLess_62 : decode cX2_misfitLess 62 = .ok (.lsub, 1) := by decide +kernel
theorem dX2_misfitLess_63 : decode cX2_misfitLess 63 = .ok (.invokestatic 122, 3) := by decide +kernel
theorem dX2_misfitLess_66 : decode cX2_misfitLess 66 = .ok (.ladd, 1) := by decide +kernel
theorem dX2_misfitLess_67 : decode cX2_misfitLess 67 = .ok (.lstore 6, 2) := by decide +kernel
theorem dX2_misfitLess_69 : decode cX2_misfitLess 69 = .ok (.lload 6, 2) := by decide +kernel
theorem dX2_misfitLess_71 : decode cX2_misfitLess 71 = .ok (.aload_n 0, 1) := by decide +kernel
theorem dX2_misfitLess_72 : decode cX2_misfitLess 72 = .ok (.getfield 36, 3) := by decide +kernel
theorem dX2_misfitLess_75 : decode cX2_misfitLess 75 = .ok (.iload 9, 2) := by decide +kernel
theorem dX2_misfitLess_77 : decode cX2_misfitLess 77 = .ok (.laload, 1) := by decide +kernel
theorem dX2_misfitLess_78 : decode cX2_misfitLess 78 = .ok (.lload 10, 2) := by decide +kernel
theorem dX2_misfitLess_80 : decode cX2_misfitLess 80 = .ok (.iload 5, 2) := by decide +kernel
theorem dX2_misfitLess_82 : decode cX2_misfitLess 82 = .ok (.i2l, 1) := by decide +kernel
theorem dX2_misfitLess_83 : decode cX2_misfitLess 83 = .ok (.lmul, 1) := by decide +kernel
theorem dX2_misfitLess_84 : decode cX2_misfitLess 84 = .ok (.ladd, 1) := by decide +kernel
theorem dX2_misfitLess_85 : decode cX2_misfitLess 85 = .ok (.aload_n 0, 1) := by decide +kernel
theorem dX2_misfitLess_86 : decode cX2_misfitLess 86 = .ok (.getfield 18, 3) := by decide +kernel
theorem dX2_misfitLess_89 : decode cX2_misfitLess 89 = .ok (.iload 8, 2) := by decide +kernel
theorem dX2_misfitLess_91 : decode cX2_misfitLess 91 = .ok (.iaload, 1) := by decide +kernel
theorem dX2_misfitLess_92 : decode cX2_misfitLess 92 = .ok (.i2l, 1) := by decide +kernel
theorem dX2_misfitLess_93 : decode cX2_misfitLess 93 = .ok (.lsub, 1) := by decide +kernel
theorem dX2_misfitLess_94 : decode cX2_misfitLess 94 = .ok (.invokestatic 122, 3) := by decide +kernel
theorem dX2_misfitLess_97 : decode cX2_misfitLess 97 = .ok (.ladd, 1) := by decide +kernel
theorem dX2_misfitLess_98 : decode cX2_misfitLess 98 = .ok (.lstore 6, 2) := by decide +kernel
theorem dX2_misfitLess_100 : decode cX2_misfitLess 100 = .ok (.iinc 8 1, 3) := by decide +kernel
theorem dX2_misfitLess_103 : decode cX2_misfitLess 103 = .ok (.goto (-97), 3) := by decide +kernel
theorem dX2_misfitLess_106 : decode cX2_misfitLess 106 = .ok (.lload 6, 2) := by decide +kernel
theorem dX2_misfitLess_108 : decode cX2_misfitLess 108 = .ok (.lreturn, 1) := by decide +kernel
theorem dX2_consider_0 : decode cX2_consider 0 = .ok (.lload_n 1, 1) := by decide +kernel
theorem dX2_consider_1 : decode cX2_consider 1 = .ok (.aload_n 0, 1) := by decide +kernel
theorem dX2_consider_2 : decode cX2_consider 2 = .ok (.getfield 39, 3) := by decide +kernel
theorem dX2_consider_5 : decode cX2_consider 5 = .ok (.lcmp, 1) := by decide +kernel
theorem dX2_consider_6 : decode cX2_consider 6 = .ok (.ifCond .ge 30, 3) := by decide +kernel
theorem dX2_consider_9 : decode cX2_consider 9 = .ok (.aload_n 0, 1) := by decide +kernel
theorem dX2_consider_10 : decode cX2_consider 10 = .ok (.lload_n 1, 1) := by decide +kernel
theorem dX2_consider_11 : decode cX2_consider 11 = .ok (.putfield 39, 3) := by decide +kernel
theorem dX2_consider_14 : decode cX2_consider 14 = .ok (.aload_n 0, 1) := by decide +kernel
theorem dX2_consider_15 : decode cX2_consider 15 = .ok (.aload_n 0, 1) := by decide +kernel
theorem dX2_consider_16 : decode cX2_consider 16 = .ok (.getfield 28, 3) := by decide +kernel
theorem dX2_consider_19 : decode cX2_consider 19 = .ok (.getfield 59, 3) := by decide +kernel
theorem dX2_consider_22 : decode cX2_consider 22 = .ok (.putfield 43, 3) := by decide +kernel
theorem dX2_consider_25 : decode cX2_consider 25 = .ok (.aload_n 0, 1) := by decide +kernel
theorem dX2_consider_26 : decode cX2_consider 26 = .ok (.iload_n 3, 1) := by decide +kernel
theorem dX2_consider_27 : decode cX2_consider 27 = .ok (.putfield 46, 3) := by decide +kernel
theorem dX2_consider_30 : decode cX2_consider 30 = .ok (.aload_n 0, 1) := by decide +kernel
theorem dX2_consider_31 : decode cX2_consider 31 = .ok (.iload 4, 2) := by decide +kernel
theorem dX2_consider_33 : decode cX2_consider 33 = .ok (.putfield 49, 3) := by decide +kernel
theorem dX2_consider_36 : decode cX2_consider 36 = .ok (.return_, 1) := by decide +kernel
theorem dX3_init_0 : decode cX3_init 0 = .ok (.aload_n 0, 1) := by decide +kernel
theorem dX3_init_1 : decode cX3_init 1 = .ok (.invokespecial 3, 3) := by decide +kernel
theorem dX3_init_4 : decode cX3_init 4 = .ok (.aload_n 0, 1) := by decide +kernel
theorem dX3_init_5 : decode cX3_init 5 = .ok (.ldc 9, 2) := by decide +kernel
theorem dX3_init_7 : decode cX3_init 7 = .ok (.putfield 10, 3) := by decide +kernel
theorem dX3_init_10 : decode cX3_init 10 = .ok (.aload_n 0, 1) := by decide +kernel
theorem dX3_init_11 : decode cX3_init 11 = .ok (.iconst 0, 1) := by decide +kernel
theorem dX3_init_12 : decode cX3_init 12 = .ok (.putfield 16, 3) := by decide +kernel
theorem dX3_init_15 : decode cX3_init 15 = .ok (.aload_n 0, 1) := by decide +kernel
theorem dX3_init_16 : decode cX3_init 16 = .ok (.iconst 5, 1) := by decide +kernel
theorem dX3_init_17 : decode cX3_init 17 = .ok (.putfield 19, 3) := by decide +kernel
theorem dX3_init_20 : decode cX3_init 20 = .ok (.aload_n 0, 1) := by decide +kernel
theorem dX3_init_21 : decode cX3_init 21 = .ok (.sipush 20000, 3) := by decide +kernel
theorem dX3_init_24 : decode cX3_init 24 = .ok (.putfield 22, 3) := by decide +kernel
theorem dX3_init_27 : decode cX3_init 27 = .ok (.aload_n 0, 1) := by decide +kernel
theorem dX3_init_28 : decode cX3_init 28 = .ok (.iconst 4, 1) := by decide +kernel
theorem dX3_init_29 : decode cX3_init 29 = .ok (.newarray .long, 2) := by decide +kernel
theorem dX3_init_31 : decode cX3_init 31 = .ok (.putfield 25, 3) := by decide +kernel
theorem dX3_init_34 : decode cX3_init 34 = .ok (.aload_n 0, 1) := by decide +kernel
theorem dX3_init_35 : decode cX3_init 35 = .ok (.iconst 4, 1) := by decide +kernel
theorem dX3_init_36 : decode cX3_init 36 = .ok (.newarray .long, 2) := by decide +kernel
theorem dX3_init_38 : decode cX3_init 38 = .ok (.putfield 29, 3) := by decide +kernel
theorem dX3_init_41 : decode cX3_init 41 = .ok (.aload_n 0, 1) := by decide +kernel
theorem dX3_init_42 : decode cX3_init 42 = .ok (.iconst 4, 1) := by decide +kernel
theorem dX3_init_43 : decode cX3_init 43 = .ok (.newarray .int, 2) := by decide +kernel
theorem dX3_init_45 : decode cX3_init 45 = .ok (.putfield 32, 3) := by decide +kernel
theorem dX3_init_48 : decode cX3_init 48 = .ok (.aload_n 0, 1) := by decide +kernel
theorem dX3_init_49 : decode cX3_init 49 = .ok (.iconst 0, 1) := by decide +kernel
theorem dX3_init_50 : decode cX3_init 50 = .ok (.putfield 36, 3) := by decide +kernel
theorem dX3_init_53 : decode cX3_init 53 = .ok (.aload_n 0, 1) := by decide +kernel
theorem dX3_init_54 : decode cX3_init 54 = .ok (.bipush (-6), 2) := by decide +kernel
theorem dX3_init_56 : decode cX3_init 56 = .ok (.putfield 39, 3) := by decide +kernel
theorem dX3_init_59 : decode cX3_init 59 = .ok (.aload_n 0, 1) := by decide +kernel
theorem dX3_init_60 : decode cX3_init 60 = .ok (.iconst 4, 1) := by decide +kernel
theorem dX3_init_61 : decode cX3_init 61 = .ok (.newarray .int, 2) := by decide +kernel
theorem dX3_init_63 : decode cX3_init 63 = .ok (.putfield 42, 3) := by decide +kernel
theorem dX3_init_66 : decode cX3_init 66 = .ok (.aload_n 0, 1) := by decide +kernel
theorem dX3_init_67 : decode cX3_init 67 = .ok (.iconst 0, 1) := by decide +kernel
theorem dX3_init_68 : decode cX3_init 68 = .ok (.putfield 45, 3) := by decide +kernel
theorem dX3_init_71 : decode cX3_init 71 = .ok (.return_, 1) := by decide +kernel
theorem dX3_canBeWithin_0 : decode cX3_canBeWithin 0 = .ok (.ldc2_w 48, 3) := by decide +kernel
theorem dX3_canBeWithin_3 : decode cX3_canBeWithin 3 = .ok (.aload_n 0, 1) := by decide +kernel
theorem dX3_canBeWithin_4 : decode cX3_canBeWithin 4 = .ok (.getfield 19, 3) := by decide +kernel
theorem dX3_canBeWithin_7 : decode cX3_canBeWithin 7 = .ok (.i2l, 1) := by decide +kernel
theorem dX3_canBeWithin_8 : decode cX3_canBeWithin 8 = .ok (.lmul, 1) := by decide +kernel
theorem dX3_canBeWithin_9 : decode cX3_canBeWithin 9 = .ok (.iload 5, 2) := by decide +kernel
theorem dX3_canBeWithin_11 : decode cX3_canBeWithin 11 = .ok (.i2l, 1) := by decide +kernel
theorem dX3_canBeWithin_12 : decode cX3_canBeWithin 12 = .ok (.lmul, 1) := by decide +kernel
theorem dX3_canBeWithin_13 : decode cX3_canBeWithin 13 = .ok (.iload 6, 2) := by decide +kernel
theorem dX3_canBeWithin_15 : decode cX3_canBeWithin 15 = .ok (.i2l, 1) := by decide +kernel
theorem dX3_canBeWithin_16 : decode cX3_canBeWithin 16 = .ok (.ladd, 1) := by decide +kernel
theorem dX3_canBeWithin_17 : decode cX3_canBeWithin 17 = .ok (.lstore 7, 2) := by decide +kernel
theorem dX3_canBeWithin_19 : decode cX3_canBeWithin 19 = .ok (.lload_n 1, 1) := by decide +kernel
theorem dX3_canBeWithin_20 : decode cX3_canBeWithin 20 = .ok (.aload_n 0, 1) := by decide +kernel
theorem dX3_canBeWithin_21 : decode cX3_canBeWithin 21 = .ok (.getfield 10, 3) := by decide +kernel
theorem dX3_canBeWithin_24 : decode cX3_canBeWithin 24 = .ok (.i2l, 1) := by decide +kernel
theorem dX3_canBeWithin_25 : decode cX3_canBeWithin 25 = .ok (.lsub, 1) := by decide +kernel
theorem dX3_canBeWithin_26 : decode cX3_canBeWithin 26 = .ok (.lload_n 3, 1) := by decide +kernel
theorem dX3_canBeWithin_27 : decode cX3_canBeWithin 27 = .ok (.aload_n 0, 1) := by decide +kernel
theorem dX3_canBeWithin_28 : decode cX3_canBeWithin 28 = .ok (.getfield 16, 3) := by decide +kernel
theorem dX3_canBeWithin_31 : decode cX3_canBeWithin 31 = .ok (.i2l, 1) := by decide +kernel
theorem dX3_canBeWithin_32 : decode cX3_canBeWithin 32 = .ok (.lsub, 1) := by decide +kernel
theorem dX3_canBeWithin_33 : decode cX3_canBeWithin 33 = .ok (.invokestatic 50, 3) := by decide +kernel
theorem dX3_canBeWithin_36 : decode cX3_canBeWithin 36 = .ok (.lload 7, 2) := by decide +kernel
theorem dX3_canBeWithin_38 : decode cX3_canBeWithin 38 = .ok (.lload 7, 2) := by decide +kernel
theorem dX3_canBeWithin_40 : decode cX3_canBeWithin 40 = .ok (.lmul, 1) := by decide +kernel
theorem dX3_canBeWithin_41 : decode cX3_canBeWithin 41 = .ok (.lcmp, 1) := by decide +kernel
theorem dX3_canBeWithin_42 : decode cX3_canBeWithin 42 = .ok (.ifCond .gt 7, 3) := by decide +kernel
theorem dX3_canBeWithin_45 : decode cX3_canBeWithin 45 = .ok (.iconst 1, 1) := by decide +kernel
theorem dX3_canBeWithin_46 : decode cX3_canBeWithin 46 = .ok (.goto 4, 3) := by decide +kernel
theorem dX3_canBeWithin_49 : decode cX3_canBeWithin 49 = .ok (.iconst 0, 1) := by decide +kernel
theorem dX3_canBeWithin_50 : decode cX3_canBeWithin 50 = .ok (.ireturn, 1) := by decide +kernel
theorem dX3_waitAt_0 : decode cX3_waitAt 0 = .ok (.iconst 0, 1) := by decide +kernel
theorem dX3_waitAt_1 : decode cX3_waitAt 1 = .ok (.istore 4, 2) := by decide +kernel
theorem dX3_waitAt_3 : decode cX3_waitAt 3 = .ok (.iload 4, 2) := by decide +kernel
theorem dX3_waitAt_5 : decode cX3_waitAt 5 = .ok (.iconst 4, 1) := by decide +kernel
theorem dX3_waitAt_6 : decode cX3_waitAt 6 = .ok (.if_icmp .ge 47, 3) := by decide +kernel
theorem dX3_waitAt_9 : decode cX3_waitAt 9 = .ok (.aload_n 0, 1) := by decide +kernel
theorem dX3_waitAt_10 : decode cX3_waitAt 10 = .ok (.getfield 25, 3) := by decide +kernel
theorem dX3_waitAt_13 : decode cX3_waitAt 13 = .ok (.iload 4, 2) := by decide +kernel
theorem dX3_waitAt_15 : decode cX3_waitAt 15 = .ok (.iload_n 2, 1) := by decide +kernel
theorem dX3_waitAt_16 : decode cX3_waitAt 16 = .ok (.i2l, 1) := by decide +kernel
theorem dX3_waitAt_17 : decode cX3_waitAt 17 = .ok (.aload_n 1, 1) := by decide +kernel
theorem dX3_waitAt_18 : decode cX3_waitAt 18 = .ok (.iload 4, 2) := by decide +kernel
theorem dX3_waitAt_20 : decode cX3_waitAt 20 = .ok (.aaload, 1) := by decide +kernel
theorem dX3_waitAt_21 : decode cX3_waitAt 21 = .ok (.iload_n 3, 1) := by decide +kernel
theorem dX3_waitAt_22 : decode cX3_waitAt 22 = .ok (.iconst 0, 1) := by decide +kernel
theorem dX3_waitAt_23 : decode cX3_waitAt 23 = .ok (.invokevirtual 54, 3) := by decide +kernel
theorem dX3_waitAt_26 : decode cX3_waitAt 26 = .ok (.lmul, 1) := by decide +kernel
theorem dX3_waitAt_27 : decode cX3_waitAt 27 = .ok (.lastore, 1) := by decide +kernel
theorem dX3_waitAt_28 : decode cX3_waitAt 28 = .ok (.aload_n 0, 1) := by decide +kernel
theorem dX3_waitAt_29 : decode cX3_waitAt 29 = .ok (.getfield 29, 3) := by decide +kernel
theorem dX3_waitAt_32 : decode cX3_waitAt 32 = .ok (.iload 4, 2) := by decide +kernel
theorem dX3_waitAt_34 : decode cX3_waitAt 34 = .ok (.iload_n 2, 1) := by decide +kernel
theorem dX3_waitAt_35 : decode cX3_waitAt 35 = .ok (.i2l, 1) := by decide +kernel
theorem dX3_waitAt_36 : decode cX3_waitAt 36 = .ok (.aload_n 1, 1) := by decide +kernel
theorem dX3_waitAt_37 : decode cX3_waitAt 37 = .ok (.iload 4, 2) := by decide +kernel
theorem dX3_waitAt_39 : decode cX3_waitAt 39 = .ok (.aaload, 1) := by decide +kernel
theorem dX3_waitAt_40 : decode cX3_waitAt 40 = .ok (.iload_n 3, 1) := by decide +kernel
theorem dX3_waitAt_41 : decode cX3_waitAt 41 = .ok (.iconst 1, 1) := by decide +kernel
theorem dX3_waitAt_42 : decode cX3_waitAt 42 = .ok (.invokevirtual 54, 3) := by decide +kernel
theorem dX3_waitAt_45 : decode cX3_waitAt 45 = .ok (.lmul, 1) := by decide +kernel
theorem dX3_waitAt_46 : decode cX3_waitAt 46 = .ok (.lastore, 1) := by decide +kernel
theorem dX3_waitAt_47 : decode cX3_waitAt 47 = .ok (.iinc 4 1, 3) := by decide +kernel
theorem dX3_waitAt_50 : decode cX3_waitAt 50 = .ok (.goto (-47), 3) := by decide +kernel
theorem dX3_waitAt_53 : decode cX3_waitAt 53 = .ok (.iconst 0, 1) := by decide +kernel
theorem dX3_waitAt_54 : decode cX3_waitAt 54 = .ok (.istore 4, 2) := by decide +kernel
theorem dX3_waitAt_56 : decode cX3_waitAt 56 = .ok (.iload 4, 2) := by decide +kernel
theorem dX3_waitAt_58 : decode cX3_waitAt 58 = .ok (.iconst 4, 1) := by decide +kernel
theorem dX3_waitAt_59 : decode cX3_waitAt 59 = .ok (.if_icmp .ge 49, 3) := by decide +kernel
theorem dX3_waitAt_62 : decode cX3_waitAt 62 = .ok (.aload_n 0, 1) := by decide +kernel
theorem dX3_waitAt_63 : decode cX3_waitAt 63 = .ok (.getfield 32, 3) := by decide +kernel
theorem dX3_waitAt_66 : decode cX3_waitAt 66 = .ok (.iload 4, 2) := by decide +kernel
theorem dX3_waitAt_68 : decode cX3_waitAt 68 = .ok (.aload_n 0, 1) := by decide +kernel
theorem dX3_waitAt_69 : decode cX3_waitAt 69 = .ok (.aload_n 0, 1) := by decide +kernel
theorem dX3_waitAt_70 : decode cX3_waitAt 70 = .ok (.getfield 25, 3) := by decide +kernel
theorem dX3_waitAt_73 : decode cX3_waitAt 73 = .ok (.iload 4, 2) := by decide +kernel
theorem dX3_waitAt_75 : decode cX3_waitAt 75 = .ok (.laload, 1) := by decide +kernel
theorem dX3_waitAt_76 : decode cX3_waitAt 76 = .ok (.aload_n 0, 1) := by decide +kernel
theorem dX3_waitAt_77 : decode cX3_waitAt 77 = .ok (.getfield 29, 3) := by decide +kernel
theorem dX3_waitAt_80 : decode cX3_waitAt 80 = .ok (.iload 4, 2) := by decide +kernel
theorem dX3_waitAt_82 : decode cX3_waitAt 82 = .ok (.laload, 1) := by decide +kernel
theorem dX3_waitAt_83 : decode cX3_waitAt 83 = .ok (.iload_n 3, 1) := by decide +kernel
theorem dX3_waitAt_84 : decode cX3_waitAt 84 = .ok (.iconst 0, 1) := by decide +kernel
theorem dX3_waitAt_85 : decode cX3_waitAt 85 = .ok (.invokevirtual 60, 3) := by decide +kernel
theorem dX3_waitAt_88 : decode cX3_waitAt 88 = .ok (.ifCond .eq 12, 3) := by decide +kernel
theorem dX3_waitAt_91 : decode cX3_waitAt 91 = .ok (.aload_n 0, 1) := by decide +kernel
theorem dX3_waitAt_92 : decode cX3_waitAt 92 = .ok (.iload 4, 2) := by decide +kernel
theorem dX3_waitAt_94 : decode cX3_waitAt 94 = .ok (.invokevirtual 64, 3) := by decide +kernel
theorem dX3_waitAt_97 : decode cX3_waitAt 97 = .ok (.goto 4, 3) := by decide +kernel
theorem dX3_waitAt_100 : decode cX3_waitAt 100 = .ok (.iconst 0, 1) := by decide +kernel
theorem dX3_waitAt_101 : decode cX3_waitAt 101 = .ok (.iastore, 1) := by decide +kernel
theorem dX3_waitAt_102 : decode cX3_waitAt 102 = .ok (.iinc 4 1, 3) := by decide +kernel
theorem dX3_waitAt_105 : decode cX3_waitAt 105 = .ok (.goto (-49), 3) := by decide +kernel
theorem dX3_waitAt_108 : decode cX3_waitAt 108 = .ok (.return_, 1) := by decide +kernel
theorem dX3_plansInReach_0 : decode cX3_plansInReach 0 = .ok (.aload_n 0, 1) := by decide +kernel
theorem dX3_plansInReach_1 : decode cX3_plansInReach 1 = .ok (.getfield 22, 3) := by decide +kernel
theorem dX3_plansInReach_4 : decode cX3_plansInReach 4 = .ok (.i2l, 1) := by decide +kernel
theorem dX3_plansInReach_5 : decode cX3_plansInReach 5 = .ok (.aload_n 0, 1) := by decide +kernel
theorem dX3_plansInReach_6 : decode cX3_plansInReach 6 = .ok (.getfield 22, 3) := by decide +kernel
theorem dX3_plansInReach_9 : decode cX3_plansInReach 9 = .ok (.i2l, 1) := by decide +kernel
theorem dX3_plansInReach_10 : decode cX3_plansInReach 10 = .ok (.lmul, 1) := by decide +kernel
theorem dX3_plansInReach_11 : decode cX3_plansInReach 11 = .ok (.lstore_n 2, 1) := by decide +kernel
theorem dX3_plansInReach_12 : decode cX3_plansInReach 12 = .ok (.iconst 0, 1) := by decide +kernel
theorem dX3_plansInReach_13 : decode cX3_plansInReach 13 = .ok (.istore 4, 2) := by decide +kernel
theorem dX3_plansInReach_15 : decode cX3_plansInReach 15 = .ok (.iconst 0, 1) := by decide +kernel
theorem dX3_plansInReach_16 : decode cX3_plansInReach 16 = .ok (.istore 5, 2) := by decide +kernel
theorem dX3_plansInReach_18 : decode cX3_plansInReach 18 = .ok (.iload 5, 2) := by decide +kernel
theorem dX3_plansInReach_20 : decode cX3_plansInReach 20 = .ok (.iconst 4, 1) := by decide +kernel
theorem dX3_plansInReach_21 : decode cX3_plansInReach 21 = .ok (.if_icmp .ge 54, 3) := by decide +kernel
theorem dX3_plansInReach_24 : decode cX3_plansInReach 24 = .ok (.aload_n 0, 1) := by decide +kernel
theorem dX3_plansInReach_25 : decode cX3_plansInReach 25 = .ok (.getfield 25, 3) := by decide +kernel
theorem dX3_plansInReach_28 : decode cX3_plansInReach 28 = .ok (.iload 5, 2) := by decide +kernel
theorem dX3_plansInReach_30 : decode cX3_plansInReach 30 = .ok (.laload, 1) := by decide +kernel
theorem dX3_plansInReach_31 : decode cX3_plansInReach 31 = .ok (.aload_n 0, 1) := by decide +kernel
theorem dX3_plansInReach_32 : decode cX3_plansInReach 32 = .ok (.getfield 25, 3) := by decide +kernel
theorem dX3_plansInReach_35 : decode cX3_plansInReach 35 = .ok (.iload_n 1, 1) := by decide +kernel
theorem dX3_plansInReach_36 : decode cX3_plansInReach 36 = .ok (.laload, 1) := by decide +kernel
theorem dX3_plansInReach_37 : decode cX3_plansInReach 37 = .ok (.lsub, 1) := by decide +kernel
theorem dX3_plansInReach_38 : decode cX3_plansInReach 38 = .ok (.aload_n 0, 1) := by decide +kernel
theorem dX3_plansInReach_39 : decode cX3_plansInReach 39 = .ok (.getfield 29, 3) := by decide +kernel
theorem dX3_plansInReach_42 : decode cX3_plansInReach 42 = .ok (.iload 5, 2) := by decide +kernel
theorem dX3_plansInReach_44 : decode cX3_plansInReach 44 = .ok (.laload, 1) := by decide +kernel
theorem dX3_plansInReach_45 : decode cX3_plansInReach 45 = .ok (.aload_n 0, 1) := by decide +kernel
theorem dX3_plansInReach_46 : decode cX3_plansInReach 46 = .ok (.getfield 29, 3) := by decide +kernel
theorem dX3_plansInReach_49 : decode cX3_plansInReach 49 = .ok (.iload_n 1, 1) := by decide +kernel
theorem dX3_plansInReach_50 : decode cX3_plansInReach 50 = .ok (.laload, 1) := by decide +kernel
theorem dX3_plansInReach_51 : decode cX3_plansInReach 51 = .ok (.lsub, 1) := by decide +kernel
theorem dX3_plansInReach_52 : decode cX3_plansInReach 52 = .ok (.invokestatic 50, 3) := by decide +kernel
theorem dX3_plansInReach_55 : decode cX3_plansInReach 55 = .ok (.lload_n 2, 1) := by decide +kernel
theorem dX3_plansInReach_56 : decode cX3_plansInReach 56 = .ok (.lcmp, 1) := by decide +kernel
theorem dX3_plansInReach_57 : decode cX3_plansInReach 57 = .ok (.ifCond .gt 12, 3) := by decide +kernel
theorem dX3_plansInReach_60 : decode cX3_plansInReach 60 = .ok (.iload 4, 2) := by decide +kernel
theorem dX3_plansInReach_62 : decode cX3_plansInReach 62 = .ok (.iconst 1, 1) := by decide +kernel
theorem dX3_plansInReach_63 : decode cX3_plansInReach 63 = .ok (.iload 5, 2) := by decide +kernel
theorem dX3_plansInReach_65 : decode cX3_plansInReach 65 = .ok (.ishl, 1) := by decide +kernel
theorem dX3_plansInReach_66 : decode cX3_plansInReach 66 = .ok (.ior, 1) := by decide +kernel
theorem dX3_plansInReach_67 : decode cX3_plansInReach 67 = .ok (.istore 4, 2) := by decide +kernel
theorem dX3_plansInReach_69 : decode cX3_plansInReach 69 = .ok (.iinc 5 1, 3) := by decide +kernel
theorem dX3_plansInReach_72 : decode cX3_plansInReach 72 = .ok (.goto (-54), 3) := by decide +kernel
theorem dX3_plansInReach_75 : decode cX3_plansInReach 75 = .ok (.iload 4, 2) := by decide +kernel
theorem dX3_plansInReach_77 : decode cX3_plansInReach 77 = .ok (.ireturn, 1) := by decide +kernel
theorem dX3_choose_0 : decode cX3_choose 0 = .ok (.aload_n 0, 1) := by decide +kernel
theorem dX3_choose_1 : decode cX3_choose 1 = .ok (.iconst 0, 1) := by decide +kernel
theorem dX3_choose_2 : decode cX3_choose 2 = .ok (.putfield 36, 3) := by decide +kernel
theorem dX3_choose_5 : decode cX3_choose 5 = .ok (.aload_n 0, 1) := by decide +kernel
theorem dX3_choose_6 : decode cX3_choose 6 = .ok (.bipush (-6), 2) := by decide +kernel
theorem dX3_choose_8 : decode cX3_choose 8 = .ok (.putfield 39, 3) := by decide +kernel
theorem dX3_choose_11 : decode cX3_choose 11 = .ok (.iconst 0, 1) := by decide +kernel
theorem dX3_choose_12 : decode cX3_choose 12 = .ok (.istore 5, 2) := by decide +kernel
theorem dX3_choose_14 : decode cX3_choose 14 = .ok (.iload 5, 2) := by decide +kernel
theorem dX3_choose_16 : decode cX3_choose 16 = .ok (.iconst 4, 1) := by decide +kernel
theorem dX3_choose_17 : decode cX3_choose 17 = .ok (.if_icmp .ge 89, 3) := by decide +kernel
theorem dX3_choose_20 : decode cX3_choose 20 = .ok (.aload_n 0, 1) := by decide +kernel
theorem dX3_choose_21 : decode cX3_choose 21 = .ok (.getfield 32, 3) := by decide +kernel
theorem dX3_choose_24 : decode cX3_choose 24 = .ok (.iload 5, 2) := by decide +kernel
theorem dX3_choose_26 : decode cX3_choose 26 = .ok (.iaload, 1) := by decide +kernel
theorem dX3_choose_27 : decode cX3_choose 27 = .ok (.istore 6, 2) := by decide +kernel
theorem dX3_choose_29 : decode cX3_choose 29 = .ok (.iload_n 1, 1) := by decide +kernel
theorem dX3_choose_30 : decode cX3_choose 30 = .ok (.iload 6, 2) := by decide +kernel
theorem dX3_choose_32 : decode cX3_choose 32 = .ok (.iconst 1, 1) := by decide +kernel
theorem dX3_choose_33 : decode cX3_choose 33 = .ok (.iand, 1) := by decide +kernel
theorem dX3_choose_34 : decode cX3_choose 34 = .ok (.imul, 1) := by decide +kernel
theorem dX3_choose_35 : decode cX3_choose 35 = .ok (.iload_n 2, 1) := by decide +kernel
theorem dX3_choose_36 : decode cX3_choose 36 = .ok (.iload 6, 2) := by decide +kernel
theorem dX3_choose_38 : decode cX3_choose 38 = .ok (.iconst 1, 1) := by decide +kernel
theorem dX3_choose_39 : decode cX3_choose 39 = .ok (.ishr, 1) := by decide +kernel
theorem dX3_choose_40 : decode cX3_choose 40 = .ok (.iconst 1, 1) := by decide +kernel
theorem dX3_choose_41 : decode cX3_choose 41 = .ok (.iand, 1) := by decide +kernel
theorem dX3_choose_42 : decode cX3_choose 42 = .ok (.imul, 1) := by decide +kernel
theorem dX3_choose_43 : decode cX3_choose 43 = .ok (.iadd, 1) := by decide +kernel
theorem dX3_choose_44 : decode cX3_choose 44 = .ok (.iload_n 3, 1) := by decide +kernel
theorem dX3_choose_45 : decode cX3_choose 45 = .ok (.iload 6, 2) := by decide +kernel
theorem dX3_choose_47 : decode cX3_choose 47 = .ok (.iconst 2, 1) := by decide +kernel
theorem dX3_choose_48 : decode cX3_choose 48 = .ok (.ishr, 1) := by decide +kernel
theorem dX3_choose_49 : decode cX3_choose 49 = .ok (.iconst 1, 1) := by decide +kernel
theorem dX3_choose_50 : decode cX3_choose 50 = .ok (.iand, 1) := by decide +kernel
theorem dX3_choose_51 : decode cX3_choose 51 = .ok (.imul, 1) := by decide +kernel
theorem dX3_choose_52 : decode cX3_choose 52 = .ok (.iadd, 1) := by decide +kernel
theorem dX3_choose_53 : decode cX3_choose 53 = .ok (.iload 4, 2) := by decide +kernel
theorem dX3_choose_55 : decode cX3_choose 55 = .ok (.iload 6, 2) := by decide +kernel
theorem dX3_choose_57 : decode cX3_choose 57 = .ok (.iconst 3, 1) := by decide +kernel
theorem dX3_choose_58 : decode cX3_choose 58 = .ok (.ishr, 1) := by decide +kernel
theorem dX3_choose_59 : decode cX3_choose 59 = .ok (.iconst 1, 1) := by decide +kernel
theorem dX3_choose_60 : decode cX3_choose 60 = .ok (.iand, 1) := by decide +kernel
theorem dX3_choose_61 : decode cX3_choose 61 = .ok (.imul, 1) := by decide +kernel
theorem dX3_choose_62 : decode cX3_choose 62 = .ok (.iadd, 1) := by decide +kernel
theorem dX3_choose_63 : decode cX3_choose 63 = .ok (.istore 7, 2) := by decide +kernel
theorem dX3_choose_65 : decode cX3_choose 65 = .ok (.iload 6, 2) := by decide +kernel
theorem dX3_choose_67 : decode cX3_choose 67 = .ok (.ifCond .eq 33, 3) := by decide +kernel
theorem dX3_choose_70 : decode cX3_choose 70 = .ok (.aload_n 0, 1) := by decide +kernel
theorem dX3_choose_71 : decode cX3_choose 71 = .ok (.getfield 39, 3) := by decide +kernel
theorem dX3_choose_74 : decode cX3_choose 74 = .ok (.bipush (-6), 2) := by decide +kernel
theorem dX3_choose_76 : decode cX3_choose 76 = .ok (.if_icmp .eq 12, 3) := by decide +kernel
theorem dX3_choose_79 : decode cX3_choose 79 = .ok (.iload 7, 2) := by decide +kernel
theorem dX3_choose_81 : decode cX3_choose 81 = .ok (.aload_n 0, 1) := by decide +kernel
theorem dX3_choose_82 : decode cX3_choose 82 = .ok (.getfield 36, 3) := by decide +kernel
theorem dX3_choose_85 : decode cX3_choose 85 = .ok (.if_icmp .le 15, 3) := by decide +kernel
theorem dX3_choose_88 : decode cX3_choose 88 = .ok (.aload_n 0, 1) := by decide +kernel
theorem dX3_choose_89 : decode cX3_choose 89 = .ok (.iload 7, 2) := by decide +kernel
theorem dX3_choose_91 : decode cX3_choose 91 = .ok (.putfield 36, 3) := by decide +kernel
theorem dX3_choose_94 : decode cX3_choose 94 = .ok (.aload_n 0, 1) := by decide +kernel
theorem dX3_choose_95 : decode cX3_choose 95 = .ok (.iload 5, 2) := by decide +kernel
theorem dX3_choose_97 : decode cX3_choose 97 = .ok (.putfield 39, 3) := by decide +kernel
theorem dX3_choose_100 : decode cX3_choose 100 = .ok (.iinc 5 1, 3) := by decide +kernel
theorem dX3_choose_103 : decode cX3_choose 103 = .ok (.goto (-89), 3) := by decide +kernel
theorem dX3_choose_106 : decode cX3_choose 106 = .ok (.return_, 1) := by decide +kernel
theorem dX3_findMix_0 : decode cX3_findMix 0 = .ok (.aload_n 0, 1) := by decide +kernel
theorem dX3_findMix_1 : decode cX3_findMix 1 = .ok (.ldc 70, 2) := by decide +kernel
theorem dX3_findMix_3 : decode cX3_findMix 3 = .ok (.putfield 45, 3) := by decide +kernel
theorem dX3_findMix_6 : decode cX3_findMix 6 = .ok (.iconst 0, 1) := by decide +kernel
theorem dX3_findMix_7 : decode cX3_findMix 7 = .ok (.istore_n 2, 1) := by decide +kernel
theorem dX3_findMix_8 : decode cX3_findMix 8 = .ok (.iload_n 2, 1) := by decide +kernel
theorem dX3_findMix_9 : decode cX3_findMix 9 = .ok (.iload_n 1, 1) := by decide +kernel
theorem dX3_findMix_10 : decode cX3_findMix 10 = .ok (.if_icmp .gt 59, 3) := by decide +kernel
theorem dX3_findMix_13 : decode cX3_findMix 13 = .ok (.iconst 0, 1) := by decide +kernel
theorem dX3_findMix_14 : decode cX3_findMix 14 = .ok (.istore_n 3, 1) := by decide +kernel
theorem dX3_findMix_15 : decode cX3_findMix 15 = .ok (.iload_n 3, 1) := by decide +kernel
theorem dX3_findMix_16 : decode cX3_findMix 16 = .ok (.iload_n 1, 1) := by decide +kernel
theorem dX3_findMix_17 : decode cX3_findMix 17 = .ok (.iload_n 2, 1) := by decide +kernel
theorem dX3_findMix_18 : decode cX3_findMix 18 = .ok (.isub, 1) := by decide +kernel
theorem dX3_findMix_19 : decode cX3_findMix 19 = .ok (.if_icmp .gt 44, 3) := by decide +kernel
theorem dX3_findMix_22 : decode cX3_findMix 22 = .ok (.iconst 0, 1) := by decide +kernel
theorem dX3_findMix_23 : decode cX3_findMix 23 = .ok (.istore 4, 2) := by decide +kernel
theorem dX3_findMix_25 : decode cX3_findMix 25 = .ok (.iload 4, 2) := by decide +kernel
theorem dX3_findMix_27 : decode cX3_findMix 27 = .ok (.iload_n 1, 1) := by decide +kernel
theorem dX3_findMix_28 : decode cX3_findMix 28 = .ok (.iload_n 2, 1) := by decide +kernel
theorem dX3_findMix_29 : decode cX3_findMix 29 = .ok (.isub, 1) := by decide +kernel
theorem dX3_findMix_30 : decode cX3_findMix 30 = .ok (.iload_n 3, 1) := by decide +kernel
theorem dX3_findMix_31 : decode cX3_findMix 31 = .ok (.isub, 1) := by decide +kernel
theorem dX3_findMix_32 : decode cX3_findMix 32 = .ok (.if_icmp .gt 25, 3) := by decide +kernel
theorem dX3_findMix_35 : decode cX3_findMix 35 = .ok (.aload_n 0, 1) := by decide +kernel
theorem dX3_findMix_36 : decode cX3_findMix 36 = .ok (.iload_n 2, 1) := by decide +kernel
theorem dX3_findMix_37 : decode cX3_findMix 37 = .ok (.iload_n 3, 1) := by decide +kernel
theorem dX3_findMix_38 : decode cX3_findMix 38 = .ok (.iload 4, 2) := by decide +kernel
theorem dX3_findMix_40 : decode cX3_findMix 40 = .ok (.iload_n 1, 1) := by decide +kernel
theorem dX3_findMix_41 : decode cX3_findMix 41 = .ok (.iload_n 2, 1) := by decide +kernel
theorem dX3_findMix_42 : decode cX3_findMix 42 = .ok (.isub, 1) := by decide +kernel
theorem dX3_findMix_43 : decode cX3_findMix 43 = .ok (.iload_n 3, 1) := by decide +kernel
theorem dX3_findMix_44 : decode cX3_findMix 44 = .ok (.isub, 1) := by decide +kernel
theorem dX3_findMix_45 : decode cX3_findMix 45 = .ok (.iload 4, 2) := by decide +kernel
theorem dX3_findMix_47 : decode cX3_findMix 47 = .ok (.isub, 1) := by decide +kernel
theorem dX3_findMix_48 : decode cX3_findMix 48 = .ok (.invokevirtual 71, 3) := by decide +kernel
theorem dX3_findMix_51 : decode cX3_findMix 51 = .ok (.iinc 4 1, 3) := by decide +kernel
theorem dX3_findMix_54 : decode cX3_findMix 54 = .ok (.goto (-29), 3) := by decide +kernel
theorem dX3_findMix_57 : decode cX3_findMix 57 = .ok (.iinc 3 1, 3) := by decide +kernel
theorem dX3_findMix_60 : decode cX3_findMix 60 = .ok (.goto (-45), 3) := by decide +kernel
theorem dX3_findMix_63 : decode cX3_findMix 63 = .ok (.iinc 2 1, 3) := by decide +kernel
theorem dX3_findMix_66 : decode cX3_findMix 66 = .ok (.goto (-58), 3) := by decide +kernel
theorem dX3_findMix_69 : decode cX3_findMix 69 = .ok (.return_, 1) := by decide +kernel
theorem dX3_considerMix_0 : decode cX3_considerMix 0 = .ok (.aload_n 0, 1) := by decide +kernel
theorem dX3_considerMix_1 : decode cX3_considerMix 1 = .ok (.iload_n 1, 1) := by decide +kernel
theorem dX3_considerMix_2 : decode cX3_considerMix 2 = .ok (.iload_n 2, 1) := by decide +kernel
theorem dX3_considerMix_3 : decode cX3_considerMix 3 = .ok (.iload_n 3, 1) := by decide +kernel
theorem dX3_considerMix_4 : decode cX3_considerMix 4 = .ok (.iload 4, 2) := by decide +kernel
theorem dX3_considerMix_6 : decode cX3_considerMix 6 = .ok (.invokevirtual 75, 3) := by decide +kernel
theorem dX3_considerMix_9 : decode cX3_considerMix 9 = .ok (.aload_n 0, 1) := by decide +kernel
theorem dX3_considerMix_10 : decode cX3_considerMix 10 = .ok (.getfield 36, 3) := by decide +kernel
theorem dX3_considerMix_13 : decode cX3_considerMix 13 = .ok (.aload_n 0, 1) := by decide +kernel
theorem dX3_considerMix_14 : decode cX3_considerMix 14 = .ok (.getfield 45, 3) := by decide +kernel
theorem dX3_considerMix_17 : decode cX3_considerMix 17 = .ok (.if_icmp .ge 40, 3) := by decide +kernel
theorem dX3_considerMix_20 : decode cX3_considerMix 20 = .ok (.aload_n 0, 1) := by decide +kernel
theorem dX3_considerMix_21 : decode cX3_considerMix 21 = .ok (.aload_n 0, 1) := by decide +kernel
theorem dX3_considerMix_22 : decode cX3_considerMix 22 = .ok (.getfield 36, 3) := by decide +kernel
theorem dX3_considerMix_25 : decode cX3_considerMix 25 = .ok (.putfield 45, 3) := by decide +kernel
theorem dX3_considerMix_28 : decode cX3_considerMix 28 = .ok (.aload_n 0, 1) := by decide +kernel
theorem dX3_considerMix_29 : decode cX3_considerMix 29 = .ok (.getfield 42, 3) := by decide +kernel
theorem dX3_considerMix_32 : decode cX3_considerMix 32 = .ok (.iconst 0, 1) := by decide +kernel
theorem dX3_considerMix_33 : decode cX3_considerMix 33 = .ok (.iload_n 1, 1) := by decide +kernel
theorem dX3_considerMix_34 : decode cX3_considerMix 34 = .ok (.iastore, 1) := by decide +kernel
theorem dX3_considerMix_35 : decode cX3_considerMix 35 = .ok (.aload_n 0, 1) := by decide +kernel
theorem dX3_considerMix_36 : decode cX3_considerMix 36 = .ok (.getfield 42, 3) := by decide +kernel
theorem dX3_considerMix_39 : decode cX3_considerMix 39 = .ok (.iconst 1, 1) := by decide +kernel
theorem dX3_considerMix_40 : decode cX3_considerMix 40 = .ok (.iload_n 2, 1) := by decide +kernel
theorem dX3_considerMix_41 : decode cX3_considerMix 41 = .ok (.iastore, 1) := by decide +kernel
theorem dX3_considerMix_42 : decode cX3_considerMix 42 = .ok (.aload_n 0, 1) := by decide +kernel
theorem dX3_considerMix_43 : decode cX3_considerMix 43 = .ok (.getfield 42, 3) := by decide +kernel
theorem dX3_considerMix_46 : decode cX3_considerMix 46 = .ok (.iconst 2, 1) := by decide +kernel
theorem dX3_considerMix_47 : decode cX3_considerMix 47 = .ok (.iload_n 3, 1) := by decide +kernel
theorem dX3_considerMix_48 : decode cX3_considerMix 48 = .ok (.iastore, 1) := by decide +kernel
theorem dX3_considerMix_49 : decode cX3_considerMix 49 = .ok (.aload_n 0, 1) := by decide +kernel
theorem dX3_considerMix_50 : decode cX3_considerMix 50 = .ok (.getfield 42, 3) := by decide +kernel
theorem dX3_considerMix_53 : decode cX3_considerMix 53 = .ok (.iconst 3, 1) := by decide +kernel
theorem dX3_considerMix_54 : decode cX3_considerMix 54 = .ok (.iload 4, 2) := by decide +kernel
theorem dX3_considerMix_56 : decode cX3_considerMix 56 = .ok (.iastore, 1) := by decide +kernel
theorem dX3_considerMix_57 : decode cX3_considerMix 57 = .ok (.return_, 1) := by decide +kernel
theorem dX5_init_0 : decode cX5_init 0 = .ok (.aload_n 0, 1) := by decide +kernel
theorem dX5_init_1 : decode cX5_init 1 = .ok (.invokespecial 3, 3) := by decide +kernel
theorem dX5_init_4 : decode cX5_init 4 = .ok (.aload_n 0, 1) := by decide +kernel
theorem dX5_init_5 : decode cX5_init 5 = .ok (.bipush 12, 2) := by decide +kernel
theorem dX5_init_7 : decode cX5_init 7 = .ok (.newarray .int, 2) := by decide +kernel
theorem dX5_init_9 : decode cX5_init 9 = .ok (.putfield 9, 3) := by decide +kernel
theorem dX5_init_12 : decode cX5_init 12 = .ok (.aload_n 0, 1) := by decide +kernel
theorem dX5_init_13 : decode cX5_init 13 = .ok (.bipush 12, 2) := by decide +kernel
theorem dX5_init_15 : decode cX5_init 15 = .ok (.newarray .int, 2) := by decide +kernel
theorem dX5_init_17 : decode cX5_init 17 = .ok (.putfield 15, 3) := by decide +kernel
theorem dX5_init_20 : decode cX5_init 20 = .ok (.aload_n 0, 1) := by decide +kernel
theorem dX5_init_21 : decode cX5_init 21 = .ok (.iconst 0, 1) := by decide +kernel
theorem dX5_init_22 : decode cX5_init 22 = .ok (.putfield 18, 3) := by decide +kernel
theorem dX5_init_25 : decode cX5_init 25 = .ok (.return_, 1) := by decide +kernel
theorem dX5_turnsAt_0 : decode cX5_turnsAt 0 = .ok (.iconst 0, 1) := by decide +kernel
theorem dX5_turnsAt_1 : decode cX5_turnsAt 1 = .ok (.istore_n 2, 1) := by decide +kernel
theorem dX5_turnsAt_2 : decode cX5_turnsAt 2 = .ok (.iload_n 2, 1) := by decide +kernel
theorem dX5_turnsAt_3 : decode cX5_turnsAt 3 = .ok (.aload_n 0, 1) := by decide +kernel
theorem dX5_turnsAt_4 : decode cX5_turnsAt 4 = .ok (.getfield 18, 3) := by decide +kernel
theorem dX5_turnsAt_7 : decode cX5_turnsAt 7 = .ok (.if_icmp .ge 21, 3) := by decide +kernel
theorem dX5_turnsAt_10 : decode cX5_turnsAt 10 = .ok (.aload_n 0, 1) := by decide +kernel
theorem dX5_turnsAt_11 : decode cX5_turnsAt 11 = .ok (.getfield 9, 3) := by decide +kernel
theorem dX5_turnsAt_14 : decode cX5_turnsAt 14 = .ok (.iload_n 2, 1) := by decide +kernel
theorem dX5_turnsAt_15 : decode cX5_turnsAt 15 = .ok (.iaload, 1) := by decide +kernel
theorem dX5_turnsAt_16 : decode cX5_turnsAt 16 = .ok (.iload_n 1, 1) := by decide +kernel
theorem dX5_turnsAt_17 : decode cX5_turnsAt 17 = .ok (.if_icmp .ne 5, 3) := by decide +kernel
theorem dX5_turnsAt_20 : decode cX5_turnsAt 20 = .ok (.iconst 1, 1) := by decide +kernel
theorem dX5_turnsAt_21 : decode cX5_turnsAt 21 = .ok (.ireturn, 1) := by decide +kernel
theorem dX5_turnsAt_22 : decode cX5_turnsAt 22 = .ok (.iinc 2 1, 3) := by decide +kernel
theorem dX5_turnsAt_25 : decode cX5_turnsAt 25 = .ok (.goto (-23), 3) := by decide +kernel
theorem dX5_turnsAt_28 : decode cX5_turnsAt 28 = .ok (.iconst 0, 1) := by decide +kernel
theorem dX5_turnsAt_29 : decode cX5_turnsAt 29 = .ok (.ireturn, 1) := by decide +kernel
theorem dX5_insert_0 : decode cX5_insert 0 = .ok (.aload_n 0, 1) := by decide +kernel
theorem dX5_insert_1 : decode cX5_insert 1 = .ok (.getfield 18, 3) := by decide +kernel
theorem dX5_insert_4 : decode cX5_insert 4 = .ok (.istore_n 3, 1) := by decide +kernel
theorem dX5_insert_5 : decode cX5_insert 5 = .ok (.iload_n 3, 1) := by decide +kernel
theorem dX5_insert_6 : decode cX5_insert 6 = .ok (.ifCond .le 49, 3) := by decide +kernel
theorem dX5_insert_9 : decode cX5_insert 9 = .ok (.aload_n 0, 1) := by decide +kernel
theorem dX5_insert_10 : decode cX5_insert 10 = .ok (.getfield 9, 3) := by decide +kernel
theorem dX5_insert_13 : decode cX5_insert 13 = .ok (.iload_n 3, 1) := by decide +kernel
theorem dX5_insert_14 : decode cX5_insert 14 = .ok (.iconst 1, 1) := by decide +kernel
theorem dX5_insert_15 : decode cX5_insert 15 = .ok (.isub, 1) := by decide +kernel
theorem dX5_insert_16 : decode cX5_insert 16 = .ok (.iaload, 1) := by decide +kernel
theorem dX5_insert_17 : decode cX5_insert 17 = .ok (.iload_n 1, 1) := by decide +kernel
theorem dX5_insert_18 : decode cX5_insert 18 = .ok (.if_icmp .le 37, 3) := by decide +kernel
theorem dX5_insert_21 : decode cX5_insert 21 = .ok (.aload_n 0, 1) := by decide +kernel
theorem dX5_insert_22 : decode cX5_insert 22 = .ok (.getfield 9, 3) := by decide +kernel
theorem dX5_insert_25 : decode cX5_insert 25 = .ok (.iload_n 3, 1) := by decide +kernel
theorem dX5_insert_26 : decode cX5_insert 26 = .ok (.aload_n 0, 1) := by decide +kernel
theorem dX5_insert_27 : decode cX5_insert 27 = .ok (.getfield 9, 3) := by decide +kernel
theorem dX5_insert_30 : decode cX5_insert 30 = .ok (.iload_n 3, 1) := by decide +kernel
theorem dX5_insert_31 : decode cX5_insert 31 = .ok (.iconst 1, 1) := by decide +kernel
theorem dX5_insert_32 : decode cX5_insert 32 = .ok (.isub, 1) := by decide +kernel
theorem dX5_insert_33 : decode cX5_insert 33 = .ok (.iaload, 1) := by decide +kernel
theorem dX5_insert_34 : decode cX5_insert 34 = .ok (.iastore, 1) := by decide +kernel
theorem dX5_insert_35 : decode cX5_insert 35 = .ok (.aload_n 0, 1) := by decide +kernel
theorem dX5_insert_36 : decode cX5_insert 36 = .ok (.getfield 15, 3) := by decide +kernel
theorem dX5_insert_39 : decode cX5_insert 39 = .ok (.iload_n 3, 1) := by decide +kernel
theorem dX5_insert_40 : decode cX5_insert 40 = .ok (.aload_n 0, 1) := by decide +kernel
theorem dX5_insert_41 : decode cX5_insert 41 = .ok (.getfield 15, 3) := by decide +kernel
theorem dX5_insert_44 : decode cX5_insert 44 = .ok (.iload_n 3, 1) := by decide +kernel
theorem dX5_insert_45 : decode cX5_insert 45 = .ok (.iconst 1, 1) := by decide +kernel
theorem dX5_insert_46 : decode cX5_insert 46 = .ok (.isub, 1) := by decide +kernel
theorem dX5_insert_47 : decode cX5_insert 47 = .ok (.iaload, 1) := by decide +kernel
theorem dX5_insert_48 : decode cX5_insert 48 = .ok (.iastore, 1) := by decide +kernel
theorem dX5_insert_49 : decode cX5_insert 49 = .ok (.iinc 3 (-1), 3) := by decide +kernel
theorem dX5_insert_52 : decode cX5_insert 52 = .ok (.goto (-47), 3) := by decide +kernel
theorem dX5_insert_55 : decode cX5_insert 55 = .ok (.aload_n 0, 1) := by decide +kernel
theorem dX5_insert_56 : decode cX5_insert 56 = .ok (.getfield 9, 3) := by decide +kernel
theorem dX5_insert_59 : decode cX5_insert 59 = .ok (.iload_n 3, 1) := by decide +kernel
theorem dX5_insert_60 : decode cX5_insert 60 = .ok (.iload_n 1, 1) := by decide +kernel
theorem dX5_insert_61 : decode cX5_insert 61 = .ok (.iastore, 1) := by decide +kernel
theorem dX5_insert_62 : decode cX5_insert 62 = .ok (.aload_n 0, 1) := by decide +kernel
theorem dX5_insert_63 : decode cX5_insert 63 = .ok (.getfield 15, 3) := by decide +kernel
theorem dX5_insert_66 : decode cX5_insert 66 = .ok (.iload_n 3, 1) := by decide +kernel
theorem dX5_insert_67 : decode cX5_insert 67 = .ok (.iload_n 2, 1) := by decide +kernel
theorem dX5_insert_68 : decode cX5_insert 68 = .ok (.iastore, 1) := by decide +kernel
theorem dX5_insert_69 : decode cX5_insert 69 = .ok (.aload_n 0, 1) := by decide +kernel
theorem dX5_insert_70 : decode cX5_insert 70 = .ok (.dup, 1) := by decide +kernel
theorem dX5_insert_71 : decode cX5_insert 71 = .ok (.getfield 18, 3) := by decide +kernel
theorem dX5_insert_74 : decode cX5_insert 74 = .ok (.iconst 1, 1) := by decide +kernel
theorem dX5_insert_75 : decode cX5_insert 75 = .ok (.iadd, 1) := by decide +kernel
theorem dX5_insert_76 : decode cX5_insert 76 = .ok (.putfield 18, 3) := by decide +kernel
theorem dX5_insert_79 : decode cX5_insert 79 = .ok (.return_, 1) := by decide +kernel
theorem dX5_heading_0 : decode cX5_heading 0 = .ok (.iconst 0, 1) := by decide +kernel
theorem dX5_heading_1 : decode cX5_heading 1 = .ok (.istore_n 3, 1) := by decide +kernel
theorem dX5_heading_2 : decode cX5_heading 2 = .ok (.iconst 0, 1) := by decide +kernel
theorem dX5_heading_3 : decode cX5_heading 3 = .ok (.istore 4, 2) := by decide +kernel
theorem dX5_heading_5 : decode cX5_heading 5 = .ok (.iload 4, 2) := by decide +kernel
theorem dX5_heading_7 : decode cX5_heading 7 = .ok (.aload_n 0, 1) := by decide +kernel
theorem dX5_heading_8 : decode cX5_heading 8 = .ok (.getfield 18, 3) := by decide +kernel
theorem dX5_heading_11 : decode cX5_heading 11 = .ok (.if_icmp .ge 37, 3) := by decide +kernel
theorem dX5_heading_14 : decode cX5_heading 14 = .ok (.aload_n 0, 1) := by decide +kernel
theorem dX5_heading_15 : decode cX5_heading 15 = .ok (.getfield 9, 3) := by decide +kernel
theorem dX5_heading_18 : decode cX5_heading 18 = .ok (.iload 4, 2) := by decide +kernel
theorem dX5_heading_20 : decode cX5_heading 20 = .ok (.iaload, 1) := by decide +kernel
theorem dX5_heading_21 : decode cX5_heading 21 = .ok (.iload_n 1, 1) := by decide +kernel
theorem dX5_heading_22 : decode cX5_heading 22 = .ok (.if_icmp .gt 26, 3) := by decide +kernel
theorem dX5_heading_25 : decode cX5_heading 25 = .ok (.iload_n 2, 1) := by decide +kernel
theorem dX5_heading_26 : decode cX5_heading 26 = .ok (.iload 4, 2) := by decide +kernel
theorem dX5_heading_28 : decode cX5_heading 28 = .ok (.ishr, 1) := by decide +kernel
theorem dX5_heading_29 : decode cX5_heading 29 = .ok (.iconst 1, 1) := by decide +kernel
theorem dX5_heading_30 : decode cX5_heading 30 = .ok (.iand, 1) := by decide +kernel
theorem dX5_heading_31 : decode cX5_heading 31 = .ok (.ifCond .ne 11, 3) := by decide +kernel
theorem dX5_heading_34 : decode cX5_heading 34 = .ok (.aload_n 0, 1) := by decide +kernel
theorem dX5_heading_35 : decode cX5_heading 35 = .ok (.getfield 15, 3) := by decide +kernel
theorem dX5_heading_38 : decode cX5_heading 38 = .ok (.iload 4, 2) := by decide +kernel
theorem dX5_heading_40 : decode cX5_heading 40 = .ok (.iaload, 1) := by decide +kernel
theorem dX5_heading_41 : decode cX5_heading 41 = .ok (.istore_n 3, 1) := by decide +kernel
theorem dX5_heading_42 : decode cX5_heading 42 = .ok (.iinc 4 1, 3) := by decide +kernel
theorem dX5_heading_45 : decode cX5_heading 45 = .ok (.goto (-40), 3) := by decide +kernel
theorem dX5_heading_48 : decode cX5_heading 48 = .ok (.iload_n 3, 1) := by decide +kernel
theorem dX5_heading_49 : decode cX5_heading 49 = .ok (.ireturn, 1) := by decide +kernel
theorem dX5_legEnd_0 : decode cX5_legEnd 0 = .ok (.iload_n 1, 1) := by decide +kernel
theorem dX5_legEnd_1 : decode cX5_legEnd 1 = .ok (.iconst 1, 1) := by decide +kernel
theorem dX5_legEnd_2 : decode cX5_legEnd 2 = .ok (.iadd, 1) := by decide +kernel
theorem dX5_legEnd_3 : decode cX5_legEnd 3 = .ok (.aload_n 0, 1) := by decide +kernel
theorem dX5_legEnd_4 : decode cX5_legEnd 4 = .ok (.getfield 18, 3) := by decide +kernel
theorem dX5_legEnd_7 : decode cX5_legEnd 7 = .ok (.if_icmp .ge 14, 3) := by decide +kernel
theorem dX5_legEnd_10 : decode cX5_legEnd 10 = .ok (.aload_n 0, 1) := by decide +kernel
theorem dX5_legEnd_11 : decode cX5_legEnd 11 = .ok (.getfield 9, 3) := by decide +kernel
theorem dX5_legEnd_14 : decode cX5_legEnd 14 = .ok (.iload_n 1, 1) := by decide +kernel
theorem dX5_legEnd_15 : decode cX5_legEnd 15 = .ok (.iconst 1, 1) := by decide +kernel
theorem dX5_legEnd_16 : decode cX5_legEnd 16 = .ok (.iadd, 1) := by decide +kernel
theorem dX5_legEnd_17 : decode cX5_legEnd 17 = .ok (.iaload, 1) := by decide +kernel
theorem dX5_legEnd_18 : decode cX5_legEnd 18 = .ok (.goto 5, 3) := by decide +kernel
theorem dX5_legEnd_21 : decode cX5_legEnd 21 = .ok (.bipush 60, 2) := by decide +kernel
theorem dX5_legEnd_23 : decode cX5_legEnd 23 = .ok (.ireturn, 1) := by decide +kernel
theorem dX5_courseAhead_0 : decode cX5_courseAhead 0 = .ok (.iload_n 1, 1) := by decide +kernel
theorem dX5_courseAhead_1 : decode cX5_courseAhead 1 = .ok (.ifCond .le 14, 3) := by decide +kernel
theorem dX5_courseAhead_4 : decode cX5_courseAhead 4 = .ok (.aload_n 0, 1) := by decide +kernel
theorem dX5_courseAhead_5 : decode cX5_courseAhead 5 = .ok (.getfield 15, 3) := by decide +kernel
theorem dX5_courseAhead_8 : decode cX5_courseAhead 8 = .ok (.iload_n 1, 1) := by decide +kernel
theorem dX5_courseAhead_9 : decode cX5_courseAhead 9 = .ok (.iconst 1, 1) := by decide +kernel
theorem dX5_courseAhead_10 : decode cX5_courseAhead 10 = .ok (.isub, 1) := by decide +kernel
theorem dX5_courseAhead_11 : decode cX5_courseAhead 11 = .ok (.iaload, 1) := by decide +kernel
theorem dX5_courseAhead_12 : decode cX5_courseAhead 12 = .ok (.goto 4, 3) := by decide +kernel
theorem dX5_courseAhead_15 : decode cX5_courseAhead 15 = .ok (.iconst 0, 1) := by decide +kernel
theorem dX5_courseAhead_16 : decode cX5_courseAhead 16 = .ok (.ireturn, 1) := by decide +kernel
theorem dX5_gain_0 : decode cX5_gain 0 = .ok (.iconst 0, 1) := by decide +kernel
theorem dX5_gain_1 : decode cX5_gain 1 = .ok (.iload_n 2, 1) := by decide +kernel
theorem dX5_gain_2 : decode cX5_gain 2 = .ok (.invokestatic 22, 3) := by decide +kernel
theorem dX5_gain_5 : decode cX5_gain 5 = .ok (.istore_n 3, 1) := by decide +kernel
theorem dX5_gain_6 : decode cX5_gain 6 = .ok (.iload_n 3, 1) := by decide +kernel
theorem dX5_gain_7 : decode cX5_gain 7 = .ok (.i2l, 1) := by decide +kernel
theorem dX5_gain_8 : decode cX5_gain 8 = .ok (.iload_n 1, 1) := by decide +kernel
theorem dX5_gain_9 : decode cX5_gain 9 = .ok (.i2l, 1) := by decide +kernel
theorem dX5_gain_10 : decode cX5_gain 10 = .ok (.lmul, 1) := by decide +kernel
theorem dX5_gain_11 : decode cX5_gain 11 = .ok (.lstore 4, 2) := by decide +kernel
theorem dX5_gain_13 : decode cX5_gain 13 = .ok (.iconst 0, 1) := by decide +kernel
theorem dX5_gain_14 : decode cX5_gain 14 = .ok (.istore 6, 2) := by decide +kernel
theorem dX5_gain_16 : decode cX5_gain 16 = .ok (.iload 6, 2) := by decide +kernel
theorem dX5_gain_18 : decode cX5_gain 18 = .ok (.aload_n 0, 1) := by decide +kernel
theorem dX5_gain_19 : decode cX5_gain 19 = .ok (.getfield 18, 3) := by decide +kernel
theorem dX5_gain_22 : decode cX5_gain 22 = .ok (.if_icmp .ge 85, 3) := by decide +kernel
theorem dX5_gain_25 : decode cX5_gain 25 = .ok (.aload_n 0, 1) := by decide +kernel
theorem dX5_gain_26 : decode cX5_gain 26 = .ok (.iload 6, 2) := by decide +kernel
theorem dX5_gain_28 : decode cX5_gain 28 = .ok (.invokevirtual 26, 3) := by decide +kernel
theorem dX5_gain_31 : decode cX5_gain 31 = .ok (.aload_n 0, 1) := by decide +kernel
theorem dX5_gain_32 : decode cX5_gain 32 = .ok (.getfield 9, 3) := by decide +kernel
theorem dX5_gain_35 : decode cX5_gain 35 = .ok (.iload 6, 2) := by decide +kernel
theorem dX5_gain_37 : decode cX5_gain 37 = .ok (.iaload, 1) := by decide +kernel
theorem dX5_gain_38 : decode cX5_gain 38 = .ok (.isub, 1) := by decide +kernel
theorem dX5_gain_39 : decode cX5_gain 39 = .ok (.istore 7, 2) := by decide +kernel
theorem dX5_gain_41 : decode cX5_gain 41 = .ok (.iconst 0, 1) := by decide +kernel
theorem dX5_gain_42 : decode cX5_gain 42 = .ok (.iload_n 1, 1) := by decide +kernel
theorem dX5_gain_43 : decode cX5_gain 43 = .ok (.bipush 60, 2) := by decide +kernel
theorem dX5_gain_45 : decode cX5_gain 45 = .ok (.irem, 1) := by decide +kernel
theorem dX5_gain_46 : decode cX5_gain 46 = .ok (.aload_n 0, 1) := by decide +kernel
theorem dX5_gain_47 : decode cX5_gain 47 = .ok (.getfield 9, 3) := by decide +kernel
theorem dX5_gain_50 : decode cX5_gain 50 = .ok (.iload 6, 2) := by decide +kernel
theorem dX5_gain_52 : decode cX5_gain 52 = .ok (.iaload, 1) := by decide +kernel
theorem dX5_gain_53 : decode cX5_gain 53 = .ok (.isub, 1) := by decide +kernel
theorem dX5_gain_54 : decode cX5_gain 54 = .ok (.iload 7, 2) := by decide +kernel
theorem dX5_gain_56 : decode cX5_gain 56 = .ok (.invokestatic 30, 3) := by decide +kernel
theorem dX5_gain_59 : decode cX5_gain 59 = .ok (.invokestatic 35, 3) := by decide +kernel
theorem dX5_gain_62 : decode cX5_gain 62 = .ok (.istore 8, 2) := by decide +kernel
theorem dX5_gain_64 : decode cX5_gain 64 = .ok (.iload_n 1, 1) := by decide +kernel
theorem dX5_gain_65 : decode cX5_gain 65 = .ok (.bipush 60, 2) := by decide +kernel
theorem dX5_gain_67 : decode cX5_gain 67 = .ok (.idiv, 1) := by decide +kernel
theorem dX5_gain_68 : decode cX5_gain 68 = .ok (.i2l, 1) := by decide +kernel
theorem dX5_gain_69 : decode cX5_gain 69 = .ok (.iload 7, 2) := by decide +kernel
theorem dX5_gain_71 : decode cX5_gain 71 = .ok (.i2l, 1) := by decide +kernel
theorem dX5_gain_72 : decode cX5_gain 72 = .ok (.lmul, 1) := by decide +kernel
theorem dX5_gain_73 : decode cX5_gain 73 = .ok (.iload 8, 2) := by decide +kernel
theorem dX5_gain_75 : decode cX5_gain 75 = .ok (.i2l, 1) := by decide +kernel
theorem dX5_gain_76 : decode cX5_gain 76 = .ok (.ladd, 1) := by decide +kernel
theorem dX5_gain_77 : decode cX5_gain 77 = .ok (.lstore 9, 2) := by decide +kernel
theorem dX5_gain_79 : decode cX5_gain 79 = .ok (.lload 4, 2) := by decide +kernel
theorem dX5_gain_81 : decode cX5_gain 81 = .ok (.lload 9, 2) := by decide +kernel
theorem dX5_gain_83 : decode cX5_gain 83 = .ok (.aload_n 0, 1) := by decide +kernel
theorem dX5_gain_84 : decode cX5_gain 84 = .ok (.getfield 15, 3) := by decide +kernel
theorem dX5_gain_87 : decode cX5_gain 87 = .ok (.iload 6, 2) := by decide +kernel
theorem dX5_gain_89 : decode cX5_gain 89 = .ok (.iaload, 1) := by decide +kernel
theorem dX5_gain_90 : decode cX5_gain 90 = .ok (.iload_n 2, 1) := by decide +kernel
theorem dX5_gain_91 : decode cX5_gain 91 = .ok (.invokestatic 22, 3) := by decide +kernel
theorem dX5_gain_94 : decode cX5_gain 94 = .ok (.iload_n 3, 1) := by decide +kernel
theorem dX5_gain_95 : decode cX5_gain 95 = .ok (.isub, 1) := by decide +kernel
theorem dX5_gain_96 : decode cX5_gain 96 = .ok (.i2l, 1) := by decide +kernel
theorem dX5_gain_97 : decode cX5_gain 97 = .ok (.lmul, 1) := by decide +kernel
theorem dX5_gain_98 : decode cX5_gain 98 = .ok (.ladd, 1) := by decide +kernel
theorem dX5_gain_99 : decode cX5_gain 99 = .ok (.lstore 4, 2) := by decide +kernel
theorem dX5_gain_101 : decode cX5_gain 101 = .ok (.iinc 6 1, 3) := by decide +kernel
theorem dX5_gain_104 : decode cX5_gain 104 = .ok (.goto (-88), 3) := by decide +kernel
theorem dX5_gain_107 : decode cX5_gain 107 = .ok (.lload 4, 2) := by decide +kernel
theorem dX5_gain_109 : decode cX5_gain 109 = .ok (.lreturn, 1) := by decide +kernel
theorem dX6_init_0 : decode cX6_init 0 = .ok (.aload_n 0, 1) := by decide +kernel
theorem dX6_init_1 : decode cX6_init 1 = .ok (.invokespecial 3, 3) := by decide +kernel
theorem dX6_init_4 : decode cX6_init 4 = .ok (.aload_n 0, 1) := by decide +kernel
theorem dX6_init_5 : decode cX6_init 5 = .ok (.bipush 10, 2) := by decide +kernel
theorem dX6_init_7 : decode cX6_init 7 = .ok (.newarray .int, 2) := by decide +kernel
theorem dX6_init_9 : decode cX6_init 9 = .ok (.putfield 9, 3) := by decide +kernel
theorem dX6_init_12 : decode cX6_init 12 = .ok (.aload_n 0, 1) := by decide +kernel
theorem dX6_init_13 : decode cX6_init 13 = .ok (.bipush 10, 2) := by decide +kernel
theorem dX6_init_15 : decode cX6_init 15 = .ok (.newarray .int, 2) := by decide +kernel
theorem dX6_init_17 : decode cX6_init 17 = .ok (.putfield 15, 3) := by decide +kernel
theorem dX6_init_20 : decode cX6_init 20 = .ok (.aload_n 0, 1) := by decide +kernel
theorem dX6_init_21 : decode cX6_init 21 = .ok (.bipush 10, 2) := by decide +kernel
theorem dX6_init_23 : decode cX6_init 23 = .ok (.newarray .int, 2) := by decide +kernel
theorem dX6_init_25 : decode cX6_init 25 = .ok (.putfield 18, 3) := by decide +kernel
theorem dX6_init_28 : decode cX6_init 28 = .ok (.aload_n 0, 1) := by decide +kernel
theorem dX6_init_29 : decode cX6_init 29 = .ok (.iconst 0, 1) := by decide +kernel
theorem dX6_init_30 : decode cX6_init 30 = .ok (.putfield 21, 3) := by decide +kernel
theorem dX6_init_33 : decode cX6_init 33 = .ok (.aload_n 0, 1) := by decide +kernel
theorem dX6_init_34 : decode cX6_init 34 = .ok (.sipush 400, 3) := by decide +kernel
theorem dX6_init_37 : decode cX6_init 37 = .ok (.newarray .int, 2) := by decide +kernel
theorem dX6_init_39 : decode cX6_init 39 = .ok (.putfield 25, 3) := by decide +kernel
theorem dX6_init_42 : decode cX6_init 42 = .ok (.aload_n 0, 1) := by decide +kernel
theorem dX6_init_43 : decode cX6_init 43 = .ok (.iconst 0, 1) := by decide +kernel
theorem dX6_init_44 : decode cX6_init 44 = .ok (.putfield 28, 3) := by decide +kernel
theorem dX6_init_47 : decode cX6_init 47 = .ok (.return_, 1) := by decide +kernel
theorem dX6_add_0 : decode cX6_add 0 = .ok (.aload_n 0, 1) := by decide +kernel
theorem dX6_add_1 : decode cX6_add 1 = .ok (.getfield 9, 3) := by decide +kernel
theorem dX6_add_4 : decode cX6_add 4 = .ok (.aload_n 0, 1) := by decide +kernel
theorem dX6_add_5 : decode cX6_add 5 = .ok (.getfield 21, 3) := by decide +kernel
theorem dX6_add_8 : decode cX6_add 8 = .ok (.iload_n 1, 1) := by decide +kernel
theorem dX6_add_9 : decode cX6_add 9 = .ok (.iastore, 1) := by decide +kernel
theorem dX6_add_10 : decode cX6_add 10 = .ok (.aload_n 0, 1) := by decide +kernel
theorem dX6_add_11 : decode cX6_add 11 = .ok (.getfield 15, 3) := by decide +kernel
theorem dX6_add_14 : decode cX6_add 14 = .ok (.aload_n 0, 1) := by decide +kernel
theorem dX6_add_15 : decode cX6_add 15 = .ok (.getfield 21, 3) := by decide +kernel
theorem dX6_add_18 : decode cX6_add 18 = .ok (.iload_n 2, 1) := by decide +kernel
theorem dX6_add_19 : decode cX6_add 19 = .ok (.iastore, 1) := by decide +kernel
theorem dX6_add_20 : decode cX6_add 20 = .ok (.aload_n 0, 1) := by decide +kernel
theorem dX6_add_21 : decode cX6_add 21 = .ok (.getfield 18, 3) := by decide +kernel
theorem dX6_add_24 : decode cX6_add 24 = .ok (.aload_n 0, 1) := by decide +kernel
theorem dX6_add_25 : decode cX6_add 25 = .ok (.getfield 21, 3) := by decide +kernel
theorem dX6_add_28 : decode cX6_add 28 = .ok (.iload_n 3, 1) := by decide +kernel
theorem dX6_add_29 : decode cX6_add 29 = .ok (.iastore, 1) := by decide +kernel
theorem dX6_add_30 : decode cX6_add 30 = .ok (.aload_n 0, 1) := by decide +kernel
theorem dX6_add_31 : decode cX6_add 31 = .ok (.dup, 1) := by decide +kernel
theorem dX6_add_32 : decode cX6_add 32 = .ok (.getfield 21, 3) := by decide +kernel
theorem dX6_add_35 : decode cX6_add 35 = .ok (.iconst 1, 1) := by decide +kernel
theorem dX6_add_36 : decode cX6_add 36 = .ok (.iadd, 1) := by decide +kernel
theorem dX6_add_37 : decode cX6_add 37 = .ok (.putfield 21, 3) := by decide +kernel
theorem dX6_add_40 : decode cX6_add 40 = .ok (.return_, 1) := by decide +kernel
theorem dX6_watchRing_0 : decode cX6_watchRing 0 = .ok (.aload_n 0, 1) := by decide +kernel
theorem dX6_watchRing_1 : decode cX6_watchRing 1 = .ok (.iconst 0, 1) := by decide +kernel
theorem dX6_watchRing_2 : decode cX6_watchRing 2 = .ok (.putfield 28, 3) := by decide +kernel
theorem dX6_watchRing_5 : decode cX6_watchRing 5 = .ok (.iload_n 1, 1) := by decide +kernel
theorem dX6_watchRing_6 : decode cX6_watchRing 6 = .ok (.ineg, 1) := by decide +kernel
theorem dX6_watchRing_7 : decode cX6_watchRing 7 = .ok (.istore_n 2, 1) := by decide +kernel
theorem dX6_watchRing_8 : decode cX6_watchRing 8 = .ok (.iload_n 2, 1) := by decide +kernel
theorem dX6_watchRing_9 : decode cX6_watchRing 9 = .ok (.iload_n 1, 1) := by decide +kernel
theorem dX6_watchRing_10 : decode cX6_watchRing 10 = .ok (.if_icmp .ge 37, 3) := by decide +kernel
theorem dX6_watchRing_13 : decode cX6_watchRing 13 = .ok (.aload_n 0, 1) := by decide +kernel
theorem dX6_watchRing_14 : decode cX6_watchRing 14 = .ok (.iload_n 2, 1) := by decide +kernel
theorem dX6_watchRing_15 : decode cX6_watchRing 15 = .ok (.iload_n 1, 1) := by decide +kernel
theorem dX6_watchRing_16 : decode cX6_watchRing 16 = .ok (.ineg, 1) := by decide +kernel
theorem dX6_watchRing_17 : decode cX6_watchRing 17 = .ok (.invokevirtual 31, 3) := by decide +kernel
theorem dX6_watchRing_20 : decode cX6_watchRing 20 = .ok (.aload_n 0, 1) := by decide +kernel
theorem dX6_watchRing_21 : decode cX6_watchRing 21 = .ok (.iload_n 1, 1) := by decide +kernel
theorem dX6_watchRing_22 : decode cX6_watchRing 22 = .ok (.iload_n 2, 1) := by decide +kernel
theorem dX6_watchRing_23 : decode cX6_watchRing 23 = .ok (.invokevirtual 31, 3) := by decide +kernel
theorem dX6_watchRing_26 : decode cX6_watchRing 26 = .ok (.aload_n 0, 1) := by decide +kernel
theorem dX6_watchRing_27 : decode cX6_watchRing 27 = .ok (.iload_n 2, 1) := by decide +kernel
theorem dX6_watchRing_28 : decode cX6_watchRing 28 = .ok (.ineg, 1) := by decide +kernel
theorem dX6_watchRing_29 : decode cX6_watchRing 29 = .ok (.iload_n 1, 1) := by decide +kernel
theorem dX6_watchRing_30 : decode cX6_watchRing 30 = .ok (.invokevirtual 31, 3) := by decide +kernel
theorem dX6_watchRing_33 : decode cX6_watchRing 33 = .ok (.aload_n 0, 1) := by decide +kernel
theorem dX6_watchRing_34 : decode cX6_watchRing 34 = .ok (.iload_n 1, 1) := by decide +kernel
theorem dX6_watchRing_35 : decode cX6_watchRing 35 = .ok (.ineg, 1) := by decide +kernel
theorem dX6_watchRing_36 : decode cX6_watchRing 36 = .ok (.iload_n 2, 1) := by decide +kernel
theorem dX6_watchRing_37 : decode cX6_watchRing 37 = .ok (.ineg, 1) := by decide +kernel
theorem dX6_watchRing_38 : decode cX6_watchRing 38 = .ok (.invokevirtual 31, 3) := by decide +kernel
theorem dX6_watchRing_41 : decode cX6_watchRing 41 = .ok (.iinc 2 1, 3) := by decide +kernel
theorem dX6_watchRing_44 : decode cX6_watchRing 44 = .ok (.goto (-36), 3) := by decide +kernel
theorem dX6_watchRing_47 : decode cX6_watchRing 47 = .ok (.return_, 1) := by decide +kernel
theorem dX6_watchPoint_0 : decode cX6_watchPoint 0 = .ok (.iconst 0, 1) := by decide +kernel
theorem dX6_watchPoint_1 : decode cX6_watchPoint 1 = .ok (.istore_n 3, 1) := by decide +kernel
theorem dX6_watchPoint_2 : decode cX6_watchPoint 2 = .ok (.iconst 0, 1) := by decide +kernel
theorem dX6_watchPoint_3 : decode cX6_watchPoint 3 = .ok (.istore 4, 2) := by decide +kernel
theorem dX6_watchPoint_5 : decode cX6_watchPoint 5 = .ok (.iload 4, 2) := by decide +kernel
theorem dX6_watchPoint_7 : decode cX6_watchPoint 7 = .ok (.aload_n 0, 1) := by decide +kernel
theorem dX6_watchPoint_8 : decode cX6_watchPoint 8 = .ok (.getfield 21, 3) := by decide +kernel
theorem dX6_watchPoint_11 : decode cX6_watchPoint 11 = .ok (.if_icmp .ge 60, 3) := by decide +kernel
theorem dX6_watchPoint_14 : decode cX6_watchPoint 14 = .ok (.iload_n 1, 1) := by decide +kernel
theorem dX6_watchPoint_15 : decode cX6_watchPoint 15 = .ok (.aload_n 0, 1) := by decide +kernel
theorem dX6_watchPoint_16 : decode cX6_watchPoint 16 = .ok (.getfield 9, 3) := by decide +kernel
theorem dX6_watchPoint_19 : decode cX6_watchPoint 19 = .ok (.iload 4, 2) := by decide +kernel
theorem dX6_watchPoint_21 : decode cX6_watchPoint 21 = .ok (.iaload, 1) := by decide +kernel
theorem dX6_watchPoint_22 : decode cX6_watchPoint 22 = .ok (.isub, 1) := by decide +kernel
theorem dX6_watchPoint_23 : decode cX6_watchPoint 23 = .ok (.i2l, 1) := by decide +kernel
theorem dX6_watchPoint_24 : decode cX6_watchPoint 24 = .ok (.iload_n 2, 1) := by decide +kernel
theorem dX6_watchPoint_25 : decode cX6_watchPoint 25 = .ok (.aload_n 0, 1) := by decide +kernel
theorem dX6_watchPoint_26 : decode cX6_watchPoint 26 = .ok (.getfield 15, 3) := by decide +kernel
theorem dX6_watchPoint_29 : decode cX6_watchPoint 29 = .ok (.iload 4, 2) := by decide +kernel
theorem dX6_watchPoint_31 : decode cX6_watchPoint 31 = .ok (.iaload, 1) := by decide +kernel
theorem dX6_watchPoint_32 : decode cX6_watchPoint 32 = .ok (.isub, 1) := by decide +kernel
theorem dX6_watchPoint_33 : decode cX6_watchPoint 33 = .ok (.i2l, 1) := by decide +kernel
theorem dX6_watchPoint_34 : decode cX6_watchPoint 34 = .ok (.invokestatic 35, 3) := by decide +kernel
theorem dX6_watchPoint_37 : decode cX6_watchPoint 37 = .ok (.aload_n 0, 1) := by decide +kernel
theorem dX6_watchPoint_38 : decode cX6_watchPoint 38 = .ok (.getfield 18, 3) := by decide +kernel
theorem dX6_watchPoint_41 : decode cX6_watchPoint 41 = .ok (.iload 4, 2) := by decide +kernel
theorem dX6_watchPoint_43 : decode cX6_watchPoint 43 = .ok (.iaload, 1) := by decide +kernel
theorem dX6_watchPoint_44 : decode cX6_watchPoint 44 = .ok (.i2l, 1) := by decide +kernel
theorem dX6_watchPoint_45 : decode cX6_watchPoint 45 = .ok (.aload_n 0, 1) := by decide +kernel
theorem dX6_watchPoint_46 : decode cX6_watchPoint 46 = .ok (.getfield 18, 3) := by decide +kernel
theorem dX6_watchPoint_49 : decode cX6_watchPoint 49 = .ok (.iload 4, 2) := by decide +kernel
theorem dX6_watchPoint_51 : decode cX6_watchPoint 51 = .ok (.iaload, 1) := by decide +kernel
theorem dX6_watchPoint_52 : decode cX6_watchPoint 52 = .ok (.i2l, 1) := by decide +kernel
theorem dX6_watchPoint_53 : decode cX6_watchPoint 53 = .ok (.lmul, 1) := by decide +kernel
theorem dX6_watchPoint_54 : decode cX6_watchPoint 54 = .ok (.lcmp, 1) := by decide +kernel
theorem dX6_watchPoint_55 : decode cX6_watchPoint 55 = .ok (.ifCond .gt 10, 3) := by decide +kernel
theorem dX6_watchPoint_58 : decode cX6_watchPoint 58 = .ok (.iload_n 3, 1) := by decide +kernel
theorem dX6_watchPoint_59 : decode cX6_watchPoint 59 = .ok (.iconst 1, 1) := by decide +kernel
theorem dX6_watchPoint_60 : decode cX6_watchPoint 60 = .ok (.iload 4, 2) := by decide +kernel
theorem dX6_watchPoint_62 : decode cX6_watchPoint 62 = .ok (.ishl, 1) := by decide +kernel
theorem dX6_watchPoint_63 : decode cX6_watchPoint 63 = .ok (.ior, 1) := by decide +kernel
theorem dX6_watchPoint_64 : decode cX6_watchPoint 64 = .ok (.istore_n 3, 1) := by decide +kernel
theorem dX6_watchPoint_65 : decode cX6_watchPoint 65 = .ok (.iinc 4 1, 3) := by decide +kernel
theorem dX6_watchPoint_68 : decode cX6_watchPoint 68 = .ok (.goto (-63), 3) := by decide +kernel
theorem dX6_watchPoint_71 : decode cX6_watchPoint 71 = .ok (.aload_n 0, 1) := by decide +kernel
theorem dX6_watchPoint_72 : decode cX6_watchPoint 72 = .ok (.getfield 25, 3) := by decide +kernel
theorem dX6_watchPoint_75 : decode cX6_watchPoint 75 = .ok (.aload_n 0, 1) := by decide +kernel
theorem dX6_watchPoint_76 : decode cX6_watchPoint 76 = .ok (.getfield 28, 3) := by decide +kernel
theorem dX6_watchPoint_79 : decode cX6_watchPoint 79 = .ok (.iload_n 3, 1) := by decide +kernel
theorem dX6_watchPoint_80 : decode cX6_watchPoint 80 = .ok (.iastore, 1) := by decide +kernel
theorem dX6_watchPoint_81 : decode cX6_watchPoint 81 = .ok (.aload_n 0, 1) := by decide +kernel
theorem dX6_watchPoint_82 : decode cX6_watchPoint 82 = .ok (.dup, 1) := by decide +kernel
theorem dX6_watchPoint_83 : decode cX6_watchPoint 83 = .ok (.getfield 28, 3) := by decide +kernel
theorem dX6_watchPoint_86 : decode cX6_watchPoint 86 = .ok (.iconst 1, 1) := by decide +kernel
theorem dX6_watchPoint_87 : decode cX6_watchPoint 87 = .ok (.iadd, 1) := by decide +kernel
theorem dX6_watchPoint_88 : decode cX6_watchPoint 88 = .ok (.putfield 28, 3) := by decide +kernel
theorem dX6_watchPoint_91 : decode cX6_watchPoint 91 = .ok (.return_, 1) := by decide +kernel
theorem dX6_pointsSeen_0 : decode cX6_pointsSeen 0 = .ok (.iconst 0, 1) := by decide +kernel
theorem dX6_pointsSeen_1 : decode cX6_pointsSeen 1 = .ok (.istore_n 2, 1) := by decide +kernel
theorem dX6_pointsSeen_2 : decode cX6_pointsSeen 2 = .ok (.iconst 0, 1) := by decide +kernel
theorem dX6_pointsSeen_3 : decode cX6_pointsSeen 3 = .ok (.istore_n 3, 1) := by decide +kernel
theorem dX6_pointsSeen_4 : decode cX6_pointsSeen 4 = .ok (.iload_n 3, 1) := by decide +kernel
theorem dX6_pointsSeen_5 : decode cX6_pointsSeen 5 = .ok (.aload_n 0, 1) := by decide +kernel
theorem dX6_pointsSeen_6 : decode cX6_pointsSeen 6 = .ok (.getfield 28, 3) := by decide +kernel
theorem dX6_pointsSeen_9 : decode cX6_pointsSeen 9 = .ok (.if_icmp .ge 23, 3) := by decide +kernel
theorem dX6_pointsSeen_12 : decode cX6_pointsSeen 12 = .ok (.aload_n 0, 1) := by decide +kernel
theorem dX6_pointsSeen_13 : decode cX6_pointsSeen 13 = .ok (.getfield 25, 3) := by decide +kernel
theorem dX6_pointsSeen_16 : decode cX6_pointsSeen 16 = .ok (.iload_n 3, 1) := by decide +kernel
theorem dX6_pointsSeen_17 : decode cX6_pointsSeen 17 = .ok (.iaload, 1) := by decide +kernel
theorem dX6_pointsSeen_18 : decode cX6_pointsSeen 18 = .ok (.iload_n 1, 1) := by decide +kernel
theorem dX6_pointsSeen_19 : decode cX6_pointsSeen 19 = .ok (.iand, 1) := by decide +kernel
theorem dX6_pointsSeen_20 : decode cX6_pointsSeen 20 = .ok (.ifCond .eq 6, 3) := by decide +kernel
theorem dX6_pointsSeen_23 : decode cX6_pointsSeen 23 = .ok (.iinc 2 1, 3) := by decide +kernel
theorem dX6_pointsSeen_26 : decode cX6_pointsSeen 26 = .ok (.iinc 3 1, 3) := by decide +kernel
theorem dX6_pointsSeen_29 : decode cX6_pointsSeen 29 = .ok (.goto (-25), 3) := by decide +kernel
theorem dX6_pointsSeen_32 : decode cX6_pointsSeen 32 = .ok (.iload_n 2, 1) := by decide +kernel
theorem dX6_pointsSeen_33 : decode cX6_pointsSeen 33 = .ok (.ireturn, 1) := by decide +kernel
theorem dX6_bestPosts_0 : decode cX6_bestPosts 0 = .ok (.iconst 0, 1) := by decide +kernel
theorem dX6_bestPosts_1 : decode cX6_bestPosts 1 = .ok (.istore_n 2, 1) := by decide +kernel
theorem dX6_bestPosts_2 : decode cX6_bestPosts 2 = .ok (.iconst (-1), 1) := by decide +kernel
theorem dX6_bestPosts_3 : decode cX6_bestPosts 3 = .ok (.istore_n 3, 1) := by decide +kernel
theorem dX6_bestPosts_4 : decode cX6_bestPosts 4 = .ok (.iconst 0, 1) := by decide +kernel
theorem dX6_bestPosts_5 : decode cX6_bestPosts 5 = .ok (.istore 4, 2) := by decide +kernel
theorem dX6_bestPosts_7 : decode cX6_bestPosts 7 = .ok (.iload 4, 2) := by decide +kernel
theorem dX6_bestPosts_9 : decode cX6_bestPosts 9 = .ok (.iconst 1, 1) := by decide +kernel
theorem dX6_bestPosts_10 : decode cX6_bestPosts 10 = .ok (.aload_n 0, 1) := by decide +kernel
theorem dX6_bestPosts_11 : decode cX6_bestPosts 11 = .ok (.getfield 21, 3) := by decide +kernel
theorem dX6_bestPosts_14 : decode cX6_bestPosts 14 = .ok (.ishl, 1) := by decide +kernel
theorem dX6_bestPosts_15 : decode cX6_bestPosts 15 = .ok (.if_icmp .ge 38, 3) := by decide +kernel
theorem dX6_bestPosts_18 : decode cX6_bestPosts 18 = .ok (.iload 4, 2) := by decide +kernel
theorem dX6_bestPosts_20 : decode cX6_bestPosts 20 = .ok (.invokestatic 39, 3) := by decide +kernel
theorem dX6_bestPosts_23 : decode cX6_bestPosts 23 = .ok (.iload_n 1, 1) := by decide +kernel
theorem dX6_bestPosts_24 : decode cX6_bestPosts 24 = .ok (.if_icmp .ne 23, 3) := by decide +kernel
theorem dX6_bestPosts_27 : decode cX6_bestPosts 27 = .ok (.aload_n 0, 1) := by decide +kernel
theorem dX6_bestPosts_28 : decode cX6_bestPosts 28 = .ok (.iload 4, 2) := by decide +kernel
theorem dX6_bestPosts_30 : decode cX6_bestPosts 30 = .ok (.invokevirtual 45, 3) := by decide +kernel
theorem dX6_bestPosts_33 : decode cX6_bestPosts 33 = .ok (.istore 5, 2) := by decide +kernel
theorem dX6_bestPosts_35 : decode cX6_bestPosts 35 = .ok (.iload 5, 2) := by decide +kernel
theorem dX6_bestPosts_37 : decode cX6_bestPosts 37 = .ok (.iload_n 3, 1) := by decide +kernel
theorem dX6_bestPosts_38 : decode cX6_bestPosts 38 = .ok (.if_icmp .le 9, 3) := by decide +kernel
theorem dX6_bestPosts_41 : decode cX6_bestPosts 41 = .ok (.iload 5, 2) := by decide +kernel
theorem dX6_bestPosts_43 : decode cX6_bestPosts 43 = .ok (.istore_n 3, 1) := by decide +kernel
theorem dX6_bestPosts_44 : decode cX6_bestPosts 44 = .ok (.iload 4, 2) := by decide +kernel
theorem dX6_bestPosts_46 : decode cX6_bestPosts 46 = .ok (.istore_n 2, 1) := by decide +kernel
theorem dX6_bestPosts_47 : decode cX6_bestPosts 47 = .ok (.iinc 4 1, 3) := by decide +kernel
theorem dX6_bestPosts_50 : decode cX6_bestPosts 50 = .ok (.goto (-43), 3) := by decide +kernel
theorem dX6_bestPosts_53 : decode cX6_bestPosts 53 = .ok (.iload_n 2, 1) := by decide +kernel
theorem dX6_bestPosts_54 : decode cX6_bestPosts 54 = .ok (.ireturn, 1) := by decide +kernel
theorem dX7_init_0 : decode cX7_init 0 = .ok (.aload_n 0, 1) := by decide +kernel
theorem dX7_init_1 : decode cX7_init 1 = .ok (.invokespecial 3, 3) := by decide +kernel
theorem dX7_init_4 : decode cX7_init 4 = .ok (.aload_n 0, 1) := by decide +kernel
theorem dX7_init_5 : decode cX7_init 5 = .ok (.iconst 0, 1) := by decide +kernel
theorem dX7_init_6 : decode cX7_init 6 = .ok (.putfield 9, 3) := by decide +kernel
theorem dX7_init_9 : decode cX7_init 9 = .ok (.aload_n 0, 1) := by decide +kernel
theorem dX7_init_10 : decode cX7_init 10 = .ok (.iconst 0, 1) := by decide +kernel
theorem dX7_init_11 : decode cX7_init 11 = .ok (.putfield 15, 3) := by decide +kernel
theorem dX7_init_14 : decode cX7_init 14 = .ok (.aload_n 0, 1) := by decide +kernel
theorem dX7_init_15 : decode cX7_init 15 = .ok (.iconst 1, 1) := by decide +kernel
theorem dX7_init_16 : decode cX7_init 16 = .ok (.putfield 18, 3) := by decide +kernel
theorem dX7_init_19 : decode cX7_init 19 = .ok (.aload_n 0, 1) := by decide +kernel
theorem dX7_init_20 : decode cX7_init 20 = .ok (.iconst 0, 1) := by decide +kernel
theorem dX7_init_21 : decode cX7_init 21 = .ok (.putfield 21, 3) := by decide +kernel
theorem dX7_init_24 : decode cX7_init 24 = .ok (.aload_n 0, 1) := by decide +kernel
theorem dX7_init_25 : decode cX7_init 25 = .ok (.bipush 10, 2) := by decide +kernel
theorem dX7_init_27 : decode cX7_init 27 = .ok (.newarray .int, 2) := by decide +kernel
theorem dX7_init_29 : decode cX7_init 29 = .ok (.putfield 24, 3) := by decide +kernel
theorem dX7_init_32 : decode cX7_init 32 = .ok (.aload_n 0, 1) := by decide +kernel
theorem dX7_init_33 : decode cX7_init 33 = .ok (.lconst 0, 1) := by decide +kernel
theorem dX7_init_34 : decode cX7_init 34 = .ok (.putfield 28, 3) := by decide +kernel
theorem dX7_init_37 : decode cX7_init 37 = .ok (.aload_n 0, 1) := by decide +kernel
theorem dX7_init_38 : decode cX7_init 38 = .ok (.lconst 0, 1) := by decide +kernel
theorem dX7_init_39 : decode cX7_init 39 = .ok (.putfield 32, 3) := by decide +kernel
theorem dX7_init_42 : decode cX7_init 42 = .ok (.return_, 1) := by decide +kernel
theorem dX7_set_0 : decode cX7_set 0 = .ok (.aload_n 0, 1) := by decide +kernel
theorem dX7_set_1 : decode cX7_set 1 = .ok (.iload_n 1, 1) := by decide +kernel
theorem dX7_set_2 : decode cX7_set 2 = .ok (.putfield 9, 3) := by decide +kernel
theorem dX7_set_5 : decode cX7_set 5 = .ok (.aload_n 0, 1) := by decide +kernel
theorem dX7_set_6 : decode cX7_set 6 = .ok (.iload_n 2, 1) := by decide +kernel
theorem dX7_set_7 : decode cX7_set 7 = .ok (.putfield 15, 3) := by decide +kernel
theorem dX7_set_10 : decode cX7_set 10 = .ok (.aload_n 0, 1) := by decide +kernel
theorem dX7_set_11 : decode cX7_set 11 = .ok (.iload_n 3, 1) := by decide +kernel
theorem dX7_set_12 : decode cX7_set 12 = .ok (.putfield 18, 3) := by decide +kernel
theorem dX7_set_15 : decode cX7_set 15 = .ok (.aload_n 0, 1) := by decide +kernel
theorem dX7_set_16 : decode cX7_set 16 = .ok (.iload 4, 2) := by decide +kernel
theorem dX7_set_18 : decode cX7_set 18 = .ok (.putfield 21, 3) := by decide +kernel
theorem dX7_set_21 : decode cX7_set 21 = .ok (.return_, 1) := by decide +kernel
theorem dX7_begin_0 : decode cX7_begin 0 = .ok (.aload_n 0, 1) := by decide +kernel
theorem dX7_begin_1 : decode cX7_begin 1 = .ok (.aload_n 0, 1) := by decide +kernel
theorem dX7_begin_2 : decode cX7_begin 2 = .ok (.getfield 9, 3) := by decide +kernel
theorem dX7_begin_5 : decode cX7_begin 5 = .ok (.i2l, 1) := by decide +kernel
theorem dX7_begin_6 : decode cX7_begin 6 = .ok (.putfield 28, 3) := by decide +kernel
theorem dX7_begin_9 : decode cX7_begin 9 = .ok (.aload_n 0, 1) := by decide +kernel
theorem dX7_begin_10 : decode cX7_begin 10 = .ok (.aload_n 0, 1) := by decide +kernel
theorem dX7_begin_11 : decode cX7_begin 11 = .ok (.getfield 15, 3) := by decide +kernel
theorem dX7_begin_14 : decode cX7_begin 14 = .ok (.i2l, 1) := by decide +kernel
theorem dX7_begin_15 : decode cX7_begin 15 = .ok (.putfield 32, 3) := by decide +kernel
theorem dX7_begin_18 : decode cX7_begin 18 = .ok (.return_, 1) := by decide +kernel
theorem dX7_move_0 : decode cX7_move 0 = .ok (.aload_n 2, 1) := by decide +kernel
theorem dX7_move_1 : decode cX7_move 1 = .ok (.iload_n 3, 1) := by decide +kernel
theorem dX7_move_2 : decode cX7_move 2 = .ok (.invokevirtual 35, 3) := by decide +kernel
theorem dX7_move_5 : decode cX7_move 5 = .ok (.ifCond .eq 7, 3) := by decide +kernel
theorem dX7_move_8 : decode cX7_move 8 = .ok (.iconst 0, 1) := by decide +kernel
theorem dX7_move_9 : decode cX7_move 9 = .ok (.goto 14, 3) := by decide +kernel
theorem dX7_move_12 : decode cX7_move 12 = .ok (.aload_n 0, 1) := by decide +kernel
theorem dX7_move_13 : decode cX7_move 13 = .ok (.aload_n 1, 1) := by decide +kernel
theorem dX7_move_14 : decode cX7_move 14 = .ok (.iload_n 3, 1) := by decide +kernel
theorem dX7_move_15 : decode cX7_move 15 = .ok (.aload_n 0, 1) := by decide +kernel
theorem dX7_move_16 : decode cX7_move 16 = .ok (.getfield 21, 3) := by decide +kernel
theorem dX7_move_19 : decode cX7_move 19 = .ok (.iadd, 1) := by decide +kernel
theorem dX7_move_20 : decode cX7_move 20 = .ok (.invokevirtual 41, 3) := by decide +kernel
theorem dX7_move_23 : decode cX7_move 23 = .ok (.istore 4, 2) := by decide +kernel
theorem dX7_move_25 : decode cX7_move 25 = .ok (.aload_n 0, 1) := by decide +kernel
theorem dX7_move_26 : decode cX7_move 26 = .ok (.dup, 1) := by decide +kernel
theorem dX7_move_27 : decode cX7_move 27 = .ok (.getfield 28, 3) := by decide +kernel
theorem dX7_move_30 : decode cX7_move 30 = .ok (.aload_n 0, 1) := by decide +kernel
theorem dX7_move_31 : decode cX7_move 31 = .ok (.getfield 18, 3) := by decide +kernel
theorem dX7_move_34 : decode cX7_move 34 = .ok (.iload 4, 2) := by decide +kernel
theorem dX7_move_36 : decode cX7_move 36 = .ok (.iconst 0, 1) := by decide +kernel
theorem dX7_move_37 : decode cX7_move 37 = .ok (.invokestatic 45, 3) := by decide +kernel
theorem dX7_move_40 : decode cX7_move 40 = .ok (.imul, 1) := by decide +kernel
theorem dX7_move_41 : decode cX7_move 41 = .ok (.i2l, 1) := by decide +kernel
theorem dX7_move_42 : decode cX7_move 42 = .ok (.ladd, 1) := by decide +kernel
theorem dX7_move_43 : decode cX7_move 43 = .ok (.putfield 28, 3) := by decide +kernel
theorem dX7_move_46 : decode cX7_move 46 = .ok (.aload_n 0, 1) := by decide +kernel
theorem dX7_move_47 : decode cX7_move 47 = .ok (.dup, 1) := by decide +kernel
theorem dX7_move_48 : decode cX7_move 48 = .ok (.getfield 32, 3) := by decide +kernel
theorem dX7_move_51 : decode cX7_move 51 = .ok (.aload_n 0, 1) := by decide +kernel
theorem dX7_move_52 : decode cX7_move 52 = .ok (.getfield 18, 3) := by decide +kernel
theorem dX7_move_55 : decode cX7_move 55 = .ok (.iload 4, 2) := by decide +kernel
theorem dX7_move_57 : decode cX7_move 57 = .ok (.iconst 1, 1) := by decide +kernel
theorem dX7_move_58 : decode cX7_move 58 = .ok (.invokestatic 45, 3) := by decide +kernel
theorem dX7_move_61 : decode cX7_move 61 = .ok (.imul, 1) := by decide +kernel
theorem dX7_move_62 : decode cX7_move 62 = .ok (.i2l, 1) := by decide +kernel
theorem dX7_move_63 : decode cX7_move 63 = .ok (.ladd, 1) := by decide +kernel
theorem dX7_move_64 : decode cX7_move 64 = .ok (.putfield 32, 3) := by decide +kernel
theorem dX7_move_67 : decode cX7_move 67 = .ok (.return_, 1) := by decide +kernel
theorem dX7_heading_0 : decode cX7_heading 0 = .ok (.iload_n 2, 1) := by decide +kernel
theorem dX7_heading_1 : decode cX7_heading 1 = .ok (.ifCond .ge 5, 3) := by decide +kernel
theorem dX7_heading_4 : decode cX7_heading 4 = .ok (.iconst 0, 1) := by decide +kernel
theorem dX7_heading_5 : decode cX7_heading 5 = .ok (.ireturn, 1) := by decide +kernel
theorem dX7_heading_6 : decode cX7_heading 6 = .ok (.iload_n 2, 1) := by decide +kernel
theorem dX7_heading_7 : decode cX7_heading 7 = .ok (.bipush 60, 2) := by decide +kernel
theorem dX7_heading_9 : decode cX7_heading 9 = .ok (.idiv, 1) := by decide +kernel
theorem dX7_heading_10 : decode cX7_heading 10 = .ok (.istore_n 3, 1) := by decide +kernel
theorem dX7_heading_11 : decode cX7_heading 11 = .ok (.aload_n 1, 1) := by decide +kernel
theorem dX7_heading_12 : decode cX7_heading 12 = .ok (.iload_n 2, 1) := by decide +kernel
theorem dX7_heading_13 : decode cX7_heading 13 = .ok (.bipush 60, 2) := by decide +kernel
theorem dX7_heading_15 : decode cX7_heading 15 = .ok (.irem, 1) := by decide +kernel
theorem dX7_heading_16 : decode cX7_heading 16 = .ok (.iload_n 3, 1) := by decide +kernel
theorem dX7_heading_17 : decode cX7_heading 17 = .ok (.bipush 10, 2) := by decide +kernel
theorem dX7_heading_19 : decode cX7_heading 19 = .ok (.if_icmp .ge 12, 3) := by decide +kernel
theorem dX7_heading_22 : decode cX7_heading 22 = .ok (.aload_n 0, 1) := by decide +kernel
theorem dX7_heading_23 : decode cX7_heading 23 = .ok (.getfield 24, 3) := by decide +kernel
theorem dX7_heading_26 : decode cX7_heading 26 = .ok (.iload_n 3, 1) := by decide +kernel
theorem dX7_heading_27 : decode cX7_heading 27 = .ok (.iaload, 1) := by decide +kernel
theorem dX7_heading_28 : decode cX7_heading 28 = .ok (.goto 4, 3) := by decide +kernel
theorem dX7_heading_31 : decode cX7_heading 31 = .ok (.iconst 0, 1) := by decide +kernel
theorem dX7_heading_32 : decode cX7_heading 32 = .ok (.invokevirtual 49, 3) := by decide +kernel
theorem dX7_heading_35 : decode cX7_heading 35 = .ok (.ireturn, 1) := by decide +kernel
theorem dX8_init_0 : decode cX8_init 0 = .ok (.aload_n 0, 1) := by decide +kernel
theorem dX8_init_1 : decode cX8_init 1 = .ok (.invokespecial 3, 3) := by decide +kernel
theorem dX8_init_4 : decode cX8_init 4 = .ok (.aload_n 0, 1) := by decide +kernel
theorem dX8_init_5 : decode cX8_init 5 = .ok (.iconst 0, 1) := by decide +kernel
theorem dX8_init_6 : decode cX8_init 6 = .ok (.putfield 9, 3) := by decide +kernel
theorem dX8_init_9 : decode cX8_init 9 = .ok (.aload_n 0, 1) := by decide +kernel
theorem dX8_init_10 : decode cX8_init 10 = .ok (.bipush 41, 2) := by decide +kernel
theorem dX8_init_12 : decode cX8_init 12 = .ok (.newarray .int, 2) := by decide +kernel
theorem dX8_init_14 : decode cX8_init 14 = .ok (.putfield 15, 3) := by decide +kernel
theorem dX8_init_17 : decode cX8_init 17 = .ok (.aload_n 0, 1) := by decide +kernel
theorem dX8_init_18 : decode cX8_init 18 = .ok (.iconst 0, 1) := by decide +kernel
theorem dX8_init_19 : decode cX8_init 19 = .ok (.putfield 19, 3) := by decide +kernel
theorem dX8_init_22 : decode cX8_init 22 = .ok (.aload_n 0, 1) := by decide +kernel
theorem dX8_init_23 : decode cX8_init 23 = .ok (.iconst 0, 1) := by decide +kernel
theorem dX8_init_24 : decode cX8_init 24 = .ok (.putfield 23, 3) := by decide +kernel
theorem dX8_init_27 : decode cX8_init 27 = .ok (.aload_n 0, 1) := by decide +kernel
theorem dX8_init_28 : decode cX8_init 28 = .ok (.iconst 0, 1) := by decide +kernel
theorem dX8_init_29 : decode cX8_init 29 = .ok (.putfield 26, 3) := by decide +kernel
theorem dX8_init_32 : decode cX8_init 32 = .ok (.aload_n 0, 1) := by decide +kernel
theorem dX8_init_33 : decode cX8_init 33 = .ok (.iconst 0, 1) := by decide +kernel
theorem dX8_init_34 : decode cX8_init 34 = .ok (.putfield 29, 3) := by decide +kernel
theorem dX8_init_37 : decode cX8_init 37 = .ok (.return_, 1) := by decide +kernel
theorem dX8_cellOn_0 : decode cX8_cellOn 0 = .ok (.aload_n 0, 1) := by decide +kernel
theorem dX8_cellOn_1 : decode cX8_cellOn 1 = .ok (.getfield 15, 3) := by decide +kernel
theorem dX8_cellOn_4 : decode cX8_cellOn 4 = .ok (.iload_n 1, 1) := by decide +kernel
theorem dX8_cellOn_5 : decode cX8_cellOn 5 = .ok (.aload_n 0, 1) := by decide +kernel
theorem dX8_cellOn_6 : decode cX8_cellOn 6 = .ok (.getfield 19, 3) := by decide +kernel
theorem dX8_cellOn_9 : decode cX8_cellOn 9 = .ok (.if_icmp .ge 7, 3) := by decide +kernel
theorem dX8_cellOn_12 : decode cX8_cellOn 12 = .ok (.iload_n 1, 1) := by decide +kernel
theorem dX8_cellOn_13 : decode cX8_cellOn 13 = .ok (.goto 7, 3) := by decide +kernel
theorem dX8_cellOn_16 : decode cX8_cellOn 16 = .ok (.aload_n 0, 1) := by decide +kernel
theorem dX8_cellOn_17 : decode cX8_cellOn 17 = .ok (.getfield 19, 3) := by decide +kernel
theorem dX8_cellOn_20 : decode cX8_cellOn 20 = .ok (.iaload, 1) := by decide +kernel
theorem dX8_cellOn_21 : decode cX8_cellOn 21 = .ok (.ireturn, 1) := by decide +kernel
theorem dX8_fuelTill_0 : decode cX8_fuelTill 0 = .ok (.iconst 0, 1) := by decide +kernel
theorem dX8_fuelTill_1 : decode cX8_fuelTill 1 = .ok (.istore_n 2, 1) := by decide +kernel
theorem dX8_fuelTill_2 : decode cX8_fuelTill 2 = .ok (.iconst 1, 1) := by decide +kernel
theorem dX8_fuelTill_3 : decode cX8_fuelTill 3 = .ok (.istore_n 3, 1) := by decide +kernel
theorem dX8_fuelTill_4 : decode cX8_fuelTill 4 = .ok (.iload_n 3, 1) := by decide +kernel
theorem dX8_fuelTill_5 : decode cX8_fuelTill 5 = .ok (.iload_n 1, 1) := by decide +kernel
theorem dX8_fuelTill_6 : decode cX8_fuelTill 6 = .ok (.if_icmp .gt 37, 3) := by decide +kernel
theorem dX8_fuelTill_9 : decode cX8_fuelTill 9 = .ok (.iload_n 3, 1) := by decide +kernel
theorem dX8_fuelTill_10 : decode cX8_fuelTill 10 = .ok (.aload_n 0, 1) := by decide +kernel
theorem dX8_fuelTill_11 : decode cX8_fuelTill 11 = .ok (.getfield 19, 3) := by decide +kernel
theorem dX8_fuelTill_14 : decode cX8_fuelTill 14 = .ok (.if_icmp .gt 29, 3) := by decide +kernel
theorem dX8_fuelTill_17 : decode cX8_fuelTill 17 = .ok (.aload_n 0, 1) := by decide +kernel
theorem dX8_fuelTill_18 : decode cX8_fuelTill 18 = .ok (.getfield 15, 3) := by decide +kernel
theorem dX8_fuelTill_21 : decode cX8_fuelTill 21 = .ok (.iload_n 3, 1) := by decide +kernel
theorem dX8_fuelTill_22 : decode cX8_fuelTill 22 = .ok (.iaload, 1) := by decide +kernel
theorem dX8_fuelTill_23 : decode cX8_fuelTill 23 = .ok (.aload_n 0, 1) := by decide +kernel
theorem dX8_fuelTill_24 : decode cX8_fuelTill 24 = .ok (.getfield 15, 3) := by decide +kernel
theorem dX8_fuelTill_27 : decode cX8_fuelTill 27 = .ok (.iload_n 3, 1) := by decide +kernel
theorem dX8_fuelTill_28 : decode cX8_fuelTill 28 = .ok (.iconst 1, 1) := by decide +kernel
theorem dX8_fuelTill_29 : decode cX8_fuelTill 29 = .ok (.isub, 1) := by decide +kernel
theorem dX8_fuelTill_30 : decode cX8_fuelTill 30 = .ok (.iaload, 1) := by decide +kernel
theorem dX8_fuelTill_31 : decode cX8_fuelTill 31 = .ok (.if_icmp .eq 6, 3) := by decide +kernel
theorem dX8_fuelTill_34 : decode cX8_fuelTill 34 = .ok (.iinc 2 1, 3) := by decide +kernel
theorem dX8_fuelTill_37 : decode cX8_fuelTill 37 = .ok (.iinc 3 1, 3) := by decide +kernel
theorem dX8_fuelTill_40 : decode cX8_fuelTill 40 = .ok (.goto (-36), 3) := by decide +kernel
theorem dX8_fuelTill_43 : decode cX8_fuelTill 43 = .ok (.iload_n 2, 1) := by decide +kernel
theorem dX8_fuelTill_44 : decode cX8_fuelTill 44 = .ok (.ireturn, 1) := by decide +kernel
theorem dJ6_bitCount_0f7a4_0 : decode cJ6_bitCount_0f7a4 0 = .ok (.iload_n 0, 1) := by decide +kernel
theorem dJ6_bitCount_0f7a4_1 : decode cJ6_bitCount_0f7a4 1 = .ok (.iload_n 0, 1) := by decide +kernel
theorem dJ6_bitCount_0f7a4_2 : decode cJ6_bitCount_0f7a4 2 = .ok (.iconst 1, 1) := by decide +kernel
theorem dJ6_bitCount_0f7a4_3 : decode cJ6_bitCount_0f7a4 3 = .ok (.iushr, 1) := by decide +kernel
theorem dJ6_bitCount_0f7a4_4 : decode cJ6_bitCount_0f7a4 4 = .ok (.ldc_w 265, 3) := by decide +kernel
theorem dJ6_bitCount_0f7a4_7 : decode cJ6_bitCount_0f7a4 7 = .ok (.iand, 1) := by decide +kernel
theorem dJ6_bitCount_0f7a4_8 : decode cJ6_bitCount_0f7a4 8 = .ok (.isub, 1) := by decide +kernel
theorem dJ6_bitCount_0f7a4_9 : decode cJ6_bitCount_0f7a4 9 = .ok (.istore_n 0, 1) := by decide +kernel
theorem dJ6_bitCount_0f7a4_10 : decode cJ6_bitCount_0f7a4 10 = .ok (.iload_n 0, 1) := by decide +kernel
theorem dJ6_bitCount_0f7a4_11 : decode cJ6_bitCount_0f7a4 11 = .ok (.ldc_w 266, 3) := by decide +kernel
theorem dJ6_bitCount_0f7a4_14 : decode cJ6_bitCount_0f7a4 14 = .ok (.iand, 1) := by decide +kernel
theorem dJ6_bitCount_0f7a4_15 : decode cJ6_bitCount_0f7a4 15 = .ok (.iload_n 0, 1) := by decide +kernel
theorem dJ6_bitCount_0f7a4_16 : decode cJ6_bitCount_0f7a4 16 = .ok (.iconst 2, 1) := by decide +kernel
theorem dJ6_bitCount_0f7a4_17 : decode cJ6_bitCount_0f7a4 17 = .ok (.iushr, 1) := by decide +kernel
theorem dJ6_bitCount_0f7a4_18 : decode cJ6_bitCount_0f7a4 18 = .ok (.ldc_w 266, 3) := by decide +kernel
theorem dJ6_bitCount_0f7a4_21 : decode cJ6_bitCount_0f7a4 21 = .ok (.iand, 1) := by decide +kernel
theorem dJ6_bitCount_0f7a4_22 : decode cJ6_bitCount_0f7a4 22 = .ok (.iadd, 1) := by decide +kernel
theorem dJ6_bitCount_0f7a4_23 : decode cJ6_bitCount_0f7a4 23 = .ok (.istore_n 0, 1) := by decide +kernel
theorem dJ6_bitCount_0f7a4_24 : decode cJ6_bitCount_0f7a4 24 = .ok (.iload_n 0, 1) := by decide +kernel
theorem dJ6_bitCount_0f7a4_25 : decode cJ6_bitCount_0f7a4 25 = .ok (.iload_n 0, 1) := by decide +kernel
theorem dJ6_bitCount_0f7a4_26 : decode cJ6_bitCount_0f7a4 26 = .ok (.iconst 4, 1) := by decide +kernel
theorem dJ6_bitCount_0f7a4_27 : decode cJ6_bitCount_0f7a4 27 = .ok (.iushr, 1) := by decide +kernel
theorem dJ6_bitCount_0f7a4_28 : decode cJ6_bitCount_0f7a4 28 = .ok (.iadd, 1) := by decide +kernel
theorem dJ6_bitCount_0f7a4_29 : decode cJ6_bitCount_0f7a4 29 = .ok (.ldc_w 267, 3) := by decide +kernel
theorem dJ6_bitCount_0f7a4_32 : decode cJ6_bitCount_0f7a4 32 = .ok (.iand, 1) := by decide +kernel
theorem dJ6_bitCount_0f7a4_33 : decode cJ6_bitCount_0f7a4 33 = .ok (.istore_n 0, 1) := by decide +kernel
theorem dJ6_bitCount_0f7a4_34 : decode cJ6_bitCount_0f7a4 34 = .ok (.iload_n 0, 1) := by decide +kernel
theorem dJ6_bitCount_0f7a4_35 : decode cJ6_bitCount_0f7a4 35 = .ok (.iload_n 0, 1) := by decide +kernel
theorem dJ6_bitCount_0f7a4_36 : decode cJ6_bitCount_0f7a4 36 = .ok (.bipush 8, 2) := by decide +kernel
theorem dJ6_bitCount_0f7a4_38 : decode cJ6_bitCount_0f7a4 38 = .ok (.iushr, 1) := by decide +kernel
theorem dJ6_bitCount_0f7a4_39 : decode cJ6_bitCount_0f7a4 39 = .ok (.iadd, 1) := by decide +kernel
theorem dJ6_bitCount_0f7a4_40 : decode cJ6_bitCount_0f7a4 40 = .ok (.istore_n 0, 1) := by decide +kernel
theorem dJ6_bitCount_0f7a4_41 : decode cJ6_bitCount_0f7a4 41 = .ok (.iload_n 0, 1) := by decide +kernel
theorem dJ6_bitCount_0f7a4_42 : decode cJ6_bitCount_0f7a4 42 = .ok (.iload_n 0, 1) := by decide +kernel
theorem dJ6_bitCount_0f7a4_43 : decode cJ6_bitCount_0f7a4 43 = .ok (.bipush 16, 2) := by decide +kernel
theorem dJ6_bitCount_0f7a4_45 : decode cJ6_bitCount_0f7a4 45 = .ok (.iushr, 1) := by decide +kernel
theorem dJ6_bitCount_0f7a4_46 : decode cJ6_bitCount_0f7a4 46 = .ok (.iadd, 1) := by decide +kernel
theorem dJ6_bitCount_0f7a4_47 : decode cJ6_bitCount_0f7a4 47 = .ok (.istore_n 0, 1) := by decide +kernel
theorem dJ6_bitCount_0f7a4_48 : decode cJ6_bitCount_0f7a4 48 = .ok (.iload_n 0, 1) := by decide +kernel
theorem dJ6_bitCount_0f7a4_49 : decode cJ6_bitCount_0f7a4 49 = .ok (.bipush 63, 2) := by decide +kernel
theorem dJ6_bitCount_0f7a4_51 : decode cJ6_bitCount_0f7a4 51 = .ok (.iand, 1) := by decide +kernel
theorem dJ6_bitCount_0f7a4_52 : decode cJ6_bitCount_0f7a4 52 = .ok (.ireturn, 1) := by decide +kernel
theorem dJ9_abs_0f7a4_0 : decode cJ9_abs_0f7a4 0 = .ok (.iload_n 0, 1) := by decide +kernel
theorem dJ9_abs_0f7a4_1 : decode cJ9_abs_0f7a4 1 = .ok (.ifCond .ge 8, 3) := by decide +kernel
theorem dJ9_abs_0f7a4_4 : decode cJ9_abs_0f7a4 4 = .ok (.iload_n 0, 1) := by decide +kernel
theorem dJ9_abs_0f7a4_5 : decode cJ9_abs_0f7a4 5 = .ok (.ineg, 1) := by decide +kernel
theorem dJ9_abs_0f7a4_6 : decode cJ9_abs_0f7a4 6 = .ok (.goto 4, 3) := by decide +kernel
theorem dJ9_abs_0f7a4_9 : decode cJ9_abs_0f7a4 9 = .ok (.iload_n 0, 1) := by decide +kernel
theorem dJ9_abs_0f7a4_10 : decode cJ9_abs_0f7a4 10 = .ok (.ireturn, 1) := by decide +kernel
theorem dJ9_abs_067f4_0 : decode cJ9_abs_067f4 0 = .ok (.lload_n 0, 1) := by decide +kernel
theorem dJ9_abs_067f4_1 : decode cJ9_abs_067f4 1 = .ok (.lconst 0, 1) := by decide +kernel
theorem dJ9_abs_067f4_2 : decode cJ9_abs_067f4 2 = .ok (.lcmp, 1) := by decide +kernel
theorem dJ9_abs_067f4_3 : decode cJ9_abs_067f4 3 = .ok (.ifCond .ge 8, 3) := by decide +kernel
theorem dJ9_abs_067f4_6 : decode cJ9_abs_067f4 6 = .ok (.lload_n 0, 1) := by decide +kernel
theorem dJ9_abs_067f4_7 : decode cJ9_abs_067f4 7 = .ok (.lneg, 1) := by decide +kernel
theorem dJ9_abs_067f4_8 : decode cJ9_abs_067f4 8 = .ok (.goto 4, 3) := by decide +kernel
theorem dJ9_abs_067f4_11 : decode cJ9_abs_067f4 11 = .ok (.lload_n 0, 1) := by decide +kernel
theorem dJ9_abs_067f4_12 : decode cJ9_abs_067f4 12 = .ok (.lreturn, 1) := by decide +kernel
theorem dJ9_max_7cf53_0 : decode cJ9_max_7cf53 0 = .ok (.iload_n 0, 1) := by decide +kernel
theorem dJ9_max_7cf53_1 : decode cJ9_max_7cf53 1 = .ok (.iload_n 1, 1) := by decide +kernel
theorem dJ9_max_7cf53_2 : decode cJ9_max_7cf53 2 = .ok (.if_icmp .lt 7, 3) := by decide +kernel
theorem dJ9_max_7cf53_5 : decode cJ9_max_7cf53 5 = .ok (.iload_n 0, 1) := by decide +kernel
theorem dJ9_max_7cf53_6 : decode cJ9_max_7cf53 6 = .ok (.goto 4, 3) := by decide +kernel
theorem dJ9_max_7cf53_9 : decode cJ9_max_7cf53 9 = .ok (.iload_n 1, 1) := by decide +kernel
theorem dJ9_max_7cf53_10 : decode cJ9_max_7cf53 10 = .ok (.ireturn, 1) := by decide +kernel
theorem dJ9_min_7cf53_0 : decode cJ9_min_7cf53 0 = .ok (.iload_n 0, 1) := by decide +kernel
theorem dJ9_min_7cf53_1 : decode cJ9_min_7cf53 1 = .ok (.iload_n 1, 1) := by decide +kernel
theorem dJ9_min_7cf53_2 : decode cJ9_min_7cf53 2 = .ok (.if_icmp .gt 7, 3) := by decide +kernel
theorem dJ9_min_7cf53_5 : decode cJ9_min_7cf53 5 = .ok (.iload_n 0, 1) := by decide +kernel
theorem dJ9_min_7cf53_6 : decode cJ9_min_7cf53 6 = .ok (.goto 4, 3) := by decide +kernel
theorem dJ9_min_7cf53_9 : decode cJ9_min_7cf53 9 = .ok (.iload_n 1, 1) := by decide +kernel
theorem dJ9_min_7cf53_10 : decode cJ9_min_7cf53 10 = .ok (.ireturn, 1) := by decide +kernel
end
section
theorem dX4_init_0 : decode cX4_init 0 = .ok (.aload_n 0, 1) := by decide +kernel
theorem dX4_init_1 : decode cX4_init 1 = .ok (.invokespecial 5, 3) := by decide +kernel
theorem dX4_init_4 : decode cX4_init 4 = .ok (.aload_n 0, 1) := by decide +kernel
theorem dX4_init_5 : decode cX4_init 5 = .ok (.sipush 5904, 3) := by decide +kernel
theorem dX4_init_8 : decode cX4_init 8 = .ok (.newarray .int, 2) := by decide +kernel
theorem dX4_init_10 : decode cX4_init 10 = .ok (.putfield 11, 3) := by decide +kernel
theorem dX4_init_13 : decode cX4_init 13 = .ok (.aload_n 0, 1) := by decide +kernel
theorem dX4_init_14 : decode cX4_init 14 = .ok (.sipush 3969, 3) := by decide +kernel
theorem dX4_init_17 : decode cX4_init 17 = .ok (.newarray .long, 2) := by decide +kernel
theorem dX4_init_19 : decode cX4_init 19 = .ok (.putfield 15, 3) := by decide +kernel
theorem dX4_init_22 : decode cX4_init 22 = .ok (.aload_n 0, 1) := by decide +kernel
theorem dX4_init_23 : decode cX4_init 23 = .ok (.iconst 0, 1) := by decide +kernel
theorem dX4_init_24 : decode cX4_init 24 = .ok (.putfield 19, 3) := by decide +kernel
theorem dX4_init_27 : decode cX4_init 27 = .ok (.aload_n 0, 1) := by decide +kernel
theorem dX4_init_28 : decode cX4_init 28 = .ok (.iconst 0, 1) := by decide +kernel
theorem dX4_init_29 : decode cX4_init 29 = .ok (.putfield 23, 3) := by decide +kernel
theorem dX4_init_32 : decode cX4_init 32 = .ok (.aload_n 0, 1) := by decide +kernel
theorem dX4_init_33 : decode cX4_init 33 = .ok (.iconst 0, 1) := by decide +kernel
theorem dX4_init_34 : decode cX4_init 34 = .ok (.putfield 26, 3) := by decide +kernel
theorem dX4_init_37 : decode cX4_init 37 = .ok (.aload_n 0, 1) := by decide +kernel
theorem dX4_init_38 : decode cX4_init 38 = .ok (.iconst 0, 1) := by decide +kernel
theorem dX4_init_39 : decode cX4_init 39 = .ok (.putfield 29, 3) := by decide +kernel
theorem dX4_init_42 : decode cX4_init 42 = .ok (.aload_n 0, 1) := by decide +kernel
theorem dX4_init_43 : decode cX4_init 43 = .ok (.iconst (-1), 1) := by decide +kernel
theorem dX4_init_44 : decode cX4_init 44 = .ok (.putfield 32, 3) := by decide +kernel
theorem dX4_init_47 : decode cX4_init 47 = .ok (.aload_n 0, 1) := by decide +kernel
theorem dX4_init_48 : decode cX4_init 48 = .ok (.iconst 0, 1) := by decide +kernel
theorem dX4_init_49 : decode cX4_init 49 = .ok (.putfield 35, 3) := by decide +kernel
theorem dX4_init_52 : decode cX4_init 52 = .ok (.aload_n 0, 1) := by decide +kernel
theorem dX4_init_53 : decode cX4_init 53 = .ok (.ldc 38, 2) := by decide +kernel
theorem dX4_init_55 : decode cX4_init 55 = .ok (.putfield 39, 3) := by decide +kernel
theorem dX4_init_58 : decode cX4_init 58 = .ok (.aload_n 0, 1) := by decide +kernel
theorem dX4_init_59 : decode cX4_init 59 = .ok (.aload_n 1, 1) := by decide +kernel
theorem dX4_init_60 : decode cX4_init 60 = .ok (.putfield 42, 3) := by decide +kernel
theorem dX4_init_63 : decode cX4_init 63 = .ok (.aload_n 0, 1) := by decide +kernel
theorem dX4_init_64 : decode cX4_init 64 = .ok (.aload_n 2, 1) := by decide +kernel
theorem dX4_init_65 : decode cX4_init 65 = .ok (.putfield 45, 3) := by decide +kernel
theorem dX4_init_68 : decode cX4_init 68 = .ok (.return_, 1) := by decide +kernel
theorem dX4_foundDanger_0 : decode cX4_foundDanger 0 = .ok (.aload_n 0, 1) := by decide +kernel
theorem dX4_foundDanger_1 : decode cX4_foundDanger 1 = .ok (.getfield 39, 3) := by decide +kernel
theorem dX4_foundDanger_4 : decode cX4_foundDanger 4 = .ok (.sipush 4096, 3) := by decide +kernel
theorem dX4_foundDanger_7 : decode cX4_foundDanger 7 = .ok (.idiv, 1) := by decide +kernel
theorem dX4_foundDanger_8 : decode cX4_foundDanger 8 = .ok (.ireturn, 1) := by decide +kernel
theorem dX4_foundFuel_0 : decode cX4_foundFuel 0 = .ok (.aload_n 0, 1) := by decide +kernel
theorem dX4_foundFuel_1 : decode cX4_foundFuel 1 = .ok (.getfield 39, 3) := by decide +kernel
theorem dX4_foundFuel_4 : decode cX4_foundFuel 4 = .ok (.bipush 64, 2) := by decide +kernel
theorem dX4_foundFuel_6 : decode cX4_foundFuel 6 = .ok (.irem, 1) := by decide +kernel
theorem dX4_foundFuel_7 : decode cX4_foundFuel 7 = .ok (.ireturn, 1) := by decide +kernel
theorem dX4_findAlone_0 : decode cX4_findAlone 0 = .ok (.aload_n 0, 1) := by decide +kernel
theorem dX4_findAlone_1 : decode cX4_findAlone 1 = .ok (.iload_n 1, 1) := by decide +kernel
theorem dX4_findAlone_2 : decode cX4_findAlone 2 = .ok (.putfield 19, 3) := by decide +kernel
theorem dX4_findAlone_5 : decode cX4_findAlone 5 = .ok (.aload_n 0, 1) := by decide +kernel
theorem dX4_findAlone_6 : decode cX4_findAlone 6 = .ok (.iload_n 2, 1) := by decide +kernel
theorem dX4_findAlone_7 : decode cX4_findAlone 7 = .ok (.putfield 23, 3) := by decide +kernel
theorem dX4_findAlone_10 : decode cX4_findAlone 10 = .ok (.aload_n 0, 1) := by decide +kernel
theorem dX4_findAlone_11 : decode cX4_findAlone 11 = .ok (.iconst (-1), 1) := by decide +kernel
theorem dX4_findAlone_12 : decode cX4_findAlone 12 = .ok (.putfield 32, 3) := by decide +kernel
theorem dX4_findAlone_15 : decode cX4_findAlone 15 = .ok (.aload_n 0, 1) := by decide +kernel
theorem dX4_findAlone_16 : decode cX4_findAlone 16 = .ok (.iconst 0, 1) := by decide +kernel
theorem dX4_findAlone_17 : decode cX4_findAlone 17 = .ok (.putfield 35, 3) := by decide +kernel
theorem dX4_findAlone_20 : decode cX4_findAlone 20 = .ok (.aload_n 0, 1) := by decide +kernel
theorem dX4_findAlone_21 : decode cX4_findAlone 21 = .ok (.iload_n 3, 1) := by decide +kernel
theorem dX4_findAlone_22 : decode cX4_findAlone 22 = .ok (.iload 4, 2) := by decide +kernel
theorem dX4_findAlone_24 : decode cX4_findAlone 24 = .ok (.invokestatic 49, 3) := by decide +kernel
theorem dX4_findAlone_27 : decode cX4_findAlone 27 = .ok (.iconst 0, 1) := by decide +kernel
theorem dX4_findAlone_28 : decode cX4_findAlone 28 = .ok (.invokevirtual 55, 3) := by decide +kernel
theorem dX4_findAlone_31 : decode cX4_findAlone 31 = .ok (.aload_n 0, 1) := by decide +kernel
theorem dX4_findAlone_32 : decode cX4_findAlone 32 = .ok (.getfield 39, 3) := by decide +kernel
theorem dX4_findAlone_35 : decode cX4_findAlone 35 = .ok (.ldc 38, 2) := by decide +kernel
theorem dX4_findAlone_37 : decode cX4_findAlone 37 = .ok (.if_icmp .ge 7, 3) := by decide +kernel
theorem dX4_findAlone_40 : decode cX4_findAlone 40 = .ok (.iconst 1, 1) := by decide +kernel
theorem dX4_findAlone_41 : decode cX4_findAlone 41 = .ok (.goto 4, 3) := by decide +kernel
theorem dX4_findAlone_44 : decode cX4_findAlone 44 = .ok (.iconst 0, 1) := by decide +kernel
theorem dX4_findAlone_45 : decode cX4_findAlone 45 = .ok (.ireturn, 1) := by decide +kernel
theorem dX4_findApart_0 : decode cX4_findApart 0 = .ok (.aload_n 0, 1) := by decide +kernel
theorem dX4_findApart_1 : decode cX4_findApart 1 = .ok (.iload_n 1, 1) := by decide +kernel
theorem dX4_findApart_2 : decode cX4_findApart 2 = .ok (.putfield 19, 3) := by decide +kernel
theorem dX4_findApart_5 : decode cX4_findApart 5 = .ok (.aload_n 0, 1) := by decide +kernel
theorem dX4_findApart_6 : decode cX4_findApart 6 = .ok (.iload_n 2, 1) := by decide +kernel
theorem dX4_findApart_7 : decode cX4_findApart 7 = .ok (.putfield 23, 3) := by decide +kernel
theorem dX4_findApart_10 : decode cX4_findApart 10 = .ok (.aload_n 0, 1) := by decide +kernel
theorem dX4_findApart_11 : decode cX4_findApart 11 = .ok (.iload 5, 2) := by decide +kernel
theorem dX4_findApart_13 : decode cX4_findApart 13 = .ok (.putfield 32, 3) := by decide +kernel
theorem dX4_findApart_16 : decode cX4_findApart 16 = .ok (.aload_n 0, 1) := by decide +kernel
theorem dX4_findApart_17 : decode cX4_findApart 17 = .ok (.bipush 42, 2) := by decide +kernel
theorem dX4_findApart_19 : decode cX4_findApart 19 = .ok (.putfield 35, 3) := by decide +kernel
theorem dX4_findApart_22 : decode cX4_findApart 22 = .ok (.bipush 41, 2) := by decide +kernel
theorem dX4_findApart_24 : decode cX4_findApart 24 = .ok (.istore 6, 2) := by decide +kernel
theorem dX4_findApart_26 : decode cX4_findApart 26 = .ok (.iload 6, 2) := by decide +kernel
theorem dX4_findApart_28 : decode cX4_findApart 28 = .ok (.ifCond .lt 28, 3) := by decide +kernel
theorem dX4_findApart_31 : decode cX4_findApart 31 = .ok (.aload_n 0, 1) := by decide +kernel
theorem dX4_findApart_32 : decode cX4_findApart 32 = .ok (.aload_n 0, 1) := by decide +kernel
theorem dX4_findApart_33 : decode cX4_findApart 33 = .ok (.getfield 23, 3) := by decide +kernel
theorem dX4_findApart_36 : decode cX4_findApart 36 = .ok (.iload 6, 2) := by decide +kernel
theorem dX4_findApart_38 : decode cX4_findApart 38 = .ok (.invokevirtual 59, 3) := by decide +kernel
theorem dX4_findApart_41 : decode cX4_findApart 41 = .ok (.ifCond .eq 15, 3) := by decide +kernel
theorem dX4_findApart_44 : decode cX4_findApart 44 = .ok (.aload_n 0, 1) := by decide +kernel
theorem dX4_findApart_45 : decode cX4_findApart 45 = .ok (.iload 6, 2) := by decide +kernel
theorem dX4_findApart_47 : decode cX4_findApart 47 = .ok (.putfield 35, 3) := by decide +kernel
theorem dX4_findApart_50 : decode cX4_findApart 50 = .ok (.iinc 6 (-1), 3) := by decide +kernel
theorem dX4_findApart_53 : decode cX4_findApart 53 = .ok (.goto (-27), 3) := by decide +kernel
theorem dX4_findApart_56 : decode cX4_findApart 56 = .ok (.aload_n 0, 1) := by decide +kernel
theorem dX4_findApart_57 : decode cX4_findApart 57 = .ok (.iload_n 3, 1) := by decide +kernel
theorem dX4_findApart_58 : decode cX4_findApart 58 = .ok (.iconst 0, 1) := by decide +kernel
theorem dX4_findApart_59 : decode cX4_findApart 59 = .ok (.invokevirtual 55, 3) := by decide +kernel
theorem dX4_findApart_62 : decode cX4_findApart 62 = .ok (.aload_n 0, 1) := by decide +kernel
theorem dX4_findApart_63 : decode cX4_findApart 63 = .ok (.getfield 39, 3) := by decide +kernel
theorem dX4_findApart_66 : decode cX4_findApart 66 = .ok (.ldc 38, 2) := by decide +kernel
theorem dX4_findApart_68 : decode cX4_findApart 68 = .ok (.if_icmp .ge 22, 3) := by decide +kernel
theorem dX4_findApart_71 : decode cX4_findApart 71 = .ok (.aload_n 0, 1) := by decide +kernel
theorem dX4_findApart_72 : decode cX4_findApart 72 = .ok (.invokevirtual 63, 3) := by decide +kernel
theorem dX4_findApart_75 : decode cX4_findApart 75 = .ok (.iload 4, 2) := by decide +kernel
theorem dX4_findApart_77 : decode cX4_findApart 77 = .ok (.if_icmp .le 13, 3) := by decide +kernel
theorem dX4_findApart_80 : decode cX4_findApart 80 = .ok (.aload_n 0, 1) := by decide +kernel
theorem dX4_findApart_81 : decode cX4_findApart 81 = .ok (.iload 4, 2) := by decide +kernel
theorem dX4_findApart_83 : decode cX4_findApart 83 = .ok (.iload_n 3, 1) := by decide +kernel
theorem dX4_findApart_84 : decode cX4_findApart 84 = .ok (.iload 4, 2) := by decide +kernel
theorem dX4_findApart_86 : decode cX4_findApart 86 = .ok (.isub, 1) := by decide +kernel
theorem dX4_findApart_87 : decode cX4_findApart 87 = .ok (.invokevirtual 55, 3) := by decide +kernel
theorem dX4_findApart_90 : decode cX4_findApart 90 = .ok (.aload_n 0, 1) := by decide +kernel
theorem dX4_findApart_91 : decode cX4_findApart 91 = .ok (.getfield 39, 3) := by decide +kernel
theorem dX4_findApart_94 : decode cX4_findApart 94 = .ok (.ldc 38, 2) := by decide +kernel
theorem dX4_findApart_96 : decode cX4_findApart 96 = .ok (.if_icmp .ge 7, 3) := by decide +kernel
theorem dX4_findApart_99 : decode cX4_findApart 99 = .ok (.iconst 1, 1) := by decide +kernel
theorem dX4_findApart_100 : decode cX4_findApart 100 = .ok (.goto 4, 3) := by decide +kernel
theorem dX4_findApart_103 : decode cX4_findApart 103 = .ok (.iconst 0, 1) := by decide +kernel
theorem dX4_findApart_104 : decode cX4_findApart 104 = .ok (.ireturn, 1) := by decide +kernel
theorem dX4_search_0 : decode cX4_search 0 = .ok (.aload_n 0, 1) := by decide +kernel
theorem dX4_search_1 : decode cX4_search 1 = .ok (.iconst 0, 1) := by decide +kernel
theorem dX4_search_2 : decode cX4_search 2 = .ok (.iload_n 1, 1) := by decide +kernel
theorem dX4_search_3 : decode cX4_search 3 = .ok (.bipush 40, 2) := by decide +kernel
theorem dX4_search_5 : decode cX4_search 5 = .ok (.invokestatic 49, 3) := by decide +kernel
theorem dX4_search_8 : decode cX4_search 8 = .ok (.invokestatic 67, 3) := by decide +kernel
theorem dX4_search_11 : decode cX4_search 11 = .ok (.putfield 26, 3) := by decide +kernel
theorem dX4_search_14 : decode cX4_search 14 = .ok (.aload_n 0, 1) := by decide +kernel
theorem dX4_search_15 : decode cX4_search 15 = .ok (.iconst 0, 1) := by decide +kernel
theorem dX4_search_16 : decode cX4_search 16 = .ok (.iload_n 2, 1) := by decide +kernel
theorem dX4_search_17 : decode cX4_search 17 = .ok (.bipush 40, 2) := by decide +kernel
theorem dX4_search_19 : decode cX4_search 19 = .ok (.aload_n 0, 1) := by decide +kernel
theorem dX4_search_20 : decode cX4_search 20 = .ok (.getfield 26, 3) := by decide +kernel
theorem dX4_search_23 : decode cX4_search 23 = .ok (.isub, 1) := by decide +kernel
theorem dX4_search_24 : decode cX4_search 24 = .ok (.invokestatic 49, 3) := by decide +kernel
theorem dX4_search_27 : decode cX4_search 27 = .ok (.invokestatic 67, 3) := by decide +kernel
theorem dX4_search_30 : decode cX4_search 30 = .ok (.putfield 29, 3) := by decide +kernel
theorem dX4_search_33 : decode cX4_search 33 = .ok (.iconst 0, 1) := by decide +kernel
theorem dX4_search_34 : decode cX4_search 34 = .ok (.istore_n 3, 1) := by decide +kernel
theorem dX4_search_35 : decode cX4_search 35 = .ok (.iload_n 3, 1) := by decide +kernel
theorem dX4_search_36 : decode cX4_search 36 = .ok (.aload_n 0, 1) := by decide +kernel
theorem dX4_search_37 : decode cX4_search 37 = .ok (.getfield 26, 3) := by decide +kernel
theorem dX4_search_40 : decode cX4_search 40 = .ok (.iconst 1, 1) := by decide +kernel
theorem dX4_search_41 : decode cX4_search 41 = .ok (.iadd, 1) := by decide +kernel
theorem dX4_search_42 : decode cX4_search 42 = .ok (.sipush 144, 3) := by decide +kernel
theorem dX4_search_45 : decode cX4_search 45 = .ok (.imul, 1) := by decide +kernel
theorem dX4_search_46 : decode cX4_search 46 = .ok (.if_icmp .ge 17, 3) := by decide +kernel
theorem dX4_search_49 : decode cX4_search 49 = .ok (.aload_n 0, 1) := by decide +kernel
theorem dX4_search_50 : decode cX4_search 50 = .ok (.getfield 11, 3) := by decide +kernel
theorem dX4_search_53 : decode cX4_search 53 = .ok (.iload_n 3, 1) := by decide +kernel
theorem dX4_search_54 : decode cX4_search 54 = .ok (.ldc 38, 2) := by decide +kernel
theorem dX4_search_56 : decode cX4_search 56 = .ok (.iastore, 1) := by decide +kernel
theorem dX4_search_57 : decode cX4_search 57 = .ok (.iinc 3 1, 3) := by decide +kernel
theorem dX4_search_60 : decode cX4_search 60 = .ok (.goto (-25), 3) := by decide +kernel
theorem dX4_search_63 : decode cX4_search 63 = .ok (.iconst 0, 1) := by decide +kernel
theorem dX4_search_64 : decode cX4_search 64 = .ok (.istore_n 3, 1) := by decide +kernel
theorem dX4_search_65 : decode cX4_search 65 = .ok (.iload_n 3, 1) := by decide +kernel
theorem dX4_search_66 : decode cX4_search 66 = .ok (.aload_n 0, 1) := by decide +kernel
theorem dX4_search_67 : decode cX4_search 67 = .ok (.getfield 29, 3) := by decide +kernel
theorem dX4_search_70 : decode cX4_search 70 = .ok (.if_icmp .gt 34, 3) := by decide +kernel
theorem dX4_search_73 : decode cX4_search 73 = .ok (.iconst 0, 1) := by decide +kernel
theorem dX4_search_74 : decode cX4_search 74 = .ok (.istore 4, 2) := by decide +kernel
theorem dX4_search_76 : decode cX4_search 76 = .ok (.iload 4, 2) := by decide +kernel
theorem dX4_search_78 : decode cX4_search 78 = .ok (.aload_n 0, 1) := by decide +kernel
theorem dX4_search_79 : decode cX4_search 79 = .ok (.getfield 26, 3) := by decide +kernel
theorem dX4_search_82 : decode cX4_search 82 = .ok (.if_icmp .gt 16, 3) := by decide +kernel
theorem dX4_search_85 : decode cX4_search 85 = .ok (.aload_n 0, 1) := by decide +kernel
theorem dX4_search_86 : decode cX4_search 86 = .ok (.iload 4, 2) := by decide +kernel
theorem dX4_search_88 : decode cX4_search 88 = .ok (.iload_n 3, 1) := by decide +kernel
theorem dX4_search_89 : decode cX4_search 89 = .ok (.invokevirtual 70, 3) := by decide +kernel
theorem dX4_search_92 : decode cX4_search 92 = .ok (.iinc 4 1, 3) := by decide +kernel
theorem dX4_search_95 : decode cX4_search 95 = .ok (.goto (-19), 3) := by decide +kernel
theorem dX4_search_98 : decode cX4_search 98 = .ok (.iinc 3 1, 3) := by decide +kernel
theorem dX4_search_101 : decode cX4_search 101 = .ok (.goto (-36), 3) := by decide +kernel
theorem dX4_search_104 : decode cX4_search 104 = .ok (.aload_n 0, 1) := by decide +kernel
theorem dX4_search_105 : decode cX4_search 105 = .ok (.aload_n 0, 1) := by decide +kernel
theorem dX4_search_106 : decode cX4_search 106 = .ok (.getfield 11, 3) := by decide +kernel
theorem dX4_search_109 : decode cX4_search 109 = .ok (.aload_n 0, 1) := by decide +kernel
theorem dX4_search_110 : decode cX4_search 110 = .ok (.getfield 26, 3) := by decide +kernel
theorem dX4_search_113 : decode cX4_search 113 = .ok (.sipush 144, 3) := by decide +kernel
theorem dX4_search_116 : decode cX4_search 116 = .ok (.imul, 1) := by decide +kernel
theorem dX4_search_117 : decode cX4_search 117 = .ok (.aload_n 0, 1) := by decide +kernel
theorem dX4_search_118 : decode cX4_search 118 = .ok (.getfield 19, 3) := by decide +kernel
theorem dX4_search_121 : decode cX4_search 121 = .ok (.iadd, 1) := by decide +kernel
theorem dX4_search_122 : decode cX4_search 122 = .ok (.iaload, 1) := by decide +kernel
theorem dX4_search_123 : decode cX4_search 123 = .ok (.putfield 39, 3) := by decide +kernel
theorem dX4_search_126 : decode cX4_search 126 = .ok (.return_, 1) := by decide +kernel
theorem dX4_weighRow_0 : decode cX4_weighRow 0 = .ok (.aload_n 0, 1) := by decide +kernel
theorem dX4_weighRow_1 : decode cX4_weighRow 1 = .ok (.getfield 26, 3) := by decide +kernel
theorem dX4_weighRow_4 : decode cX4_weighRow 4 = .ok (.iload_n 1, 1) := by decide +kernel
theorem dX4_weighRow_5 : decode cX4_weighRow 5 = .ok (.isub, 1) := by decide +kernel
theorem dX4_weighRow_6 : decode cX4_weighRow 6 = .ok (.istore_n 3, 1) := by decide +kernel
theorem dX4_weighRow_7 : decode cX4_weighRow 7 = .ok (.iconst 0, 1) := by decide +kernel
theorem dX4_weighRow_8 : decode cX4_weighRow 8 = .ok (.aload_n 0, 1) := by decide +kernel
theorem dX4_weighRow_9 : decode cX4_weighRow 9 = .ok (.getfield 19, 3) := by decide +kernel
theorem dX4_weighRow_12 : decode cX4_weighRow 12 = .ok (.bipush 12, 2) := by decide +kernel
theorem dX4_weighRow_14 : decode cX4_weighRow 14 = .ok (.irem, 1) := by decide +kernel
theorem dX4_weighRow_15 : decode cX4_weighRow 15 = .ok (.iload_n 3, 1) := by decide +kernel
theorem dX4_weighRow_16 : decode cX4_weighRow 16 = .ok (.isub, 1) := by decide +kernel
theorem dX4_weighRow_17 : decode cX4_weighRow 17 = .ok (.aload_n 0, 1) := by decide +kernel
theorem dX4_weighRow_18 : decode cX4_weighRow 18 = .ok (.getfield 23, 3) := by decide +kernel
theorem dX4_weighRow_21 : decode cX4_weighRow 21 = .ok (.bipush 12, 2) := by decide +kernel
theorem dX4_weighRow_23 : decode cX4_weighRow 23 = .ok (.irem, 1) := by decide +kernel
theorem dX4_weighRow_24 : decode cX4_weighRow 24 = .ok (.iload_n 1, 1) := by decide +kernel
theorem dX4_weighRow_25 : decode cX4_weighRow 25 = .ok (.isub, 1) := by decide +kernel
theorem dX4_weighRow_26 : decode cX4_weighRow 26 = .ok (.invokestatic 67, 3) := by decide +kernel
theorem dX4_weighRow_29 : decode cX4_weighRow 29 = .ok (.invokestatic 67, 3) := by decide +kernel
theorem dX4_weighRow_32 : decode cX4_weighRow 32 = .ok (.istore 4, 2) := by decide +kernel
theorem dX4_weighRow_34 : decode cX4_weighRow 34 = .ok (.bipush 11, 2) := by decide +kernel
theorem dX4_weighRow_36 : decode cX4_weighRow 36 = .ok (.aload_n 0, 1) := by decide +kernel
theorem dX4_weighRow_37 : decode cX4_weighRow 37 = .ok (.getfield 19, 3) := by decide +kernel
theorem dX4_weighRow_40 : decode cX4_weighRow 40 = .ok (.bipush 12, 2) := by decide +kernel
theorem dX4_weighRow_42 : decode cX4_weighRow 42 = .ok (.irem, 1) := by decide +kernel
theorem dX4_weighRow_43 : decode cX4_weighRow 43 = .ok (.iload_n 3, 1) := by decide +kernel
theorem dX4_weighRow_44 : decode cX4_weighRow 44 = .ok (.iadd, 1) := by decide +kernel
theorem dX4_weighRow_45 : decode cX4_weighRow 45 = .ok (.aload_n 0, 1) := by decide +kernel
theorem dX4_weighRow_46 : decode cX4_weighRow 46 = .ok (.getfield 23, 3) := by decide +kernel
theorem dX4_weighRow_49 : decode cX4_weighRow 49 = .ok (.bipush 12, 2) := by decide +kernel
theorem dX4_weighRow_51 : decode cX4_weighRow 51 = .ok (.irem, 1) := by decide +kernel
theorem dX4_weighRow_52 : decode cX4_weighRow 52 = .ok (.iload_n 1, 1) := by decide +kernel
theorem dX4_weighRow_53 : decode cX4_weighRow 53 = .ok (.iadd, 1) := by decide +kernel
theorem dX4_weighRow_54 : decode cX4_weighRow 54 = .ok (.invokestatic 49, 3) := by decide +kernel
theorem dX4_weighRow_57 : decode cX4_weighRow 57 = .ok (.invokestatic 49, 3) := by decide +kernel
theorem dX4_weighRow_60 : decode cX4_weighRow 60 = .ok (.istore 5, 2) := by decide +kernel
theorem dX4_weighRow_62 : decode cX4_weighRow 62 = .ok (.iconst 0, 1) := by decide +kernel
theorem dX4_weighRow_63 : decode cX4_weighRow 63 = .ok (.aload_n 0, 1) := by decide +kernel
theorem dX4_weighRow_64 : decode cX4_weighRow 64 = .ok (.getfield 19, 3) := by decide +kernel
theorem dX4_weighRow_67 : decode cX4_weighRow 67 = .ok (.bipush 12, 2) := by decide +kernel
theorem dX4_weighRow_69 : decode cX4_weighRow 69 = .ok (.idiv, 1) := by decide +kernel
theorem dX4_weighRow_70 : decode cX4_weighRow 70 = .ok (.iload_n 3, 1) := by decide +kernel
theorem dX4_weighRow_71 : decode cX4_weighRow 71 = .ok (.isub, 1) := by decide +kernel
theorem dX4_weighRow_72 : decode cX4_weighRow 72 = .ok (.aload_n 0, 1) := by decide +kernel
theorem dX4_weighRow_73 : decode cX4_weighRow 73 = .ok (.getfield 23, 3) := by decide +kernel
theorem dX4_weighRow_76 : decode cX4_weighRow 76 = .ok (.bipush 12, 2) := by decide +kernel
theorem dX4_weighRow_78 : decode cX4_weighRow 78 = .ok (.idiv, 1) := by decide +kernel
theorem dX4_weighRow_79 : decode cX4_weighRow 79 = .ok (.iload_n 1, 1) := by decide +kernel
theorem dX4_weighRow_80 : decode cX4_weighRow 80 = .ok (.isub, 1) := by decide +kernel
theorem dX4_weighRow_81 : decode cX4_weighRow 81 = .ok (.invokestatic 67, 3) := by decide +kernel
theorem dX4_weighRow_84 : decode cX4_weighRow 84 = .ok (.invokestatic 67, 3) := by decide +kernel
theorem dX4_weighRow_87 : decode cX4_weighRow 87 = .ok (.istore 6, 2) := by decide +kernel
theorem dX4_weighRow_89 : decode cX4_weighRow 89 = .ok (.bipush 11, 2) := by decide +kernel
theorem dX4_weighRow_91 : decode cX4_weighRow 91 = .ok (.aload_n 0, 1) := by decide +kernel
theorem dX4_weighRow_92 : decode cX4_weighRow 92 = .ok (.getfield 19, 3) := by decide +kernel
theorem dX4_weighRow_95 : decode cX4_weighRow 95 = .ok (.bipush 12, 2) := by decide +kernel
theorem dX4_weighRow_97 : decode cX4_weighRow 97 = .ok (.idiv, 1) := by decide +kernel
theorem dX4_weighRow_98 : decode cX4_weighRow 98 = .ok (.iload_n 3, 1) := by decide +kernel
theorem dX4_weighRow_99 : decode cX4_weighRow 99 = .ok (.iadd, 1) := by decide +kernel
theorem dX4_weighRow_100 : decode cX4_weighRow 100 = .ok (.aload_n 0, 1) := by decide +kernel
theorem dX4_weighRow_101 : decode cX4_weighRow 101 = .ok (.getfield 23, 3) := by decide +kernel
theorem dX4_weighRow_104 : decode cX4_weighRow 104 = .ok (.bipush 12, 2) := by decide +kernel
theorem dX4_weighRow_106 : decode cX4_weighRow 106 = .ok (.idiv, 1) := by decide +kernel
theorem dX4_weighRow_107 : decode cX4_weighRow 107 = .ok (.iload_n 1, 1) := by decide +kernel
theorem dX4_weighRow_108 : decode cX4_weighRow 108 = .ok (.iadd, 1) := by decide +kernel
theorem dX4_weighRow_109 : decode cX4_weighRow 109 = .ok (.invokestatic 49, 3) := by decide +kernel
theorem dX4_weighRow_112 : decode cX4_weighRow 112 = .ok (.invokestatic 49, 3) := by decide +kernel
theorem dX4_weighRow_115 : decode cX4_weighRow 115 = .ok (.istore 7, 2) := by decide +kernel
theorem dX4_weighRow_117 : decode cX4_weighRow 117 = .ok (.iload 6, 2) := by decide +kernel
theorem dX4_weighRow_119 : decode cX4_weighRow 119 = .ok (.istore 8, 2) := by decide +kernel
theorem dX4_weighRow_121 : decode cX4_weighRow 121 = .ok (.iload 8, 2) := by decide +kernel
theorem dX4_weighRow_123 : decode cX4_weighRow 123 = .ok (.iload 7, 2) := by decide +kernel
theorem dX4_weighRow_125 : decode cX4_weighRow 125 = .ok (.if_icmp .gt 59, 3) := by decide +kernel
theorem dX4_weighRow_128 : decode cX4_weighRow 128 = .ok (.iload 4, 2) := by decide +kernel
theorem dX4_weighRow_130 : decode cX4_weighRow 130 = .ok (.istore 9, 2) := by decide +kernel
theorem dX4_weighRow_132 : decode cX4_weighRow 132 = .ok (.iload 9, 2) := by decide +kernel
theorem dX4_weighRow_134 : decode cX4_weighRow 134 = .ok (.iload 5, 2) := by decide +kernel
theorem dX4_weighRow_136 : decode cX4_weighRow 136 = .ok (.if_icmp .gt 42, 3) := by decide +kernel
theorem dX4_weighRow_139 : decode cX4_weighRow 139 = .ok (.iload_n 1, 1) := by decide +kernel
theorem dX4_weighRow_140 : decode cX4_weighRow 140 = .ok (.sipush 144, 3) := by decide +kernel
theorem dX4_weighRow_143 : decode cX4_weighRow 143 = .ok (.imul, 1) := by decide +kernel
theorem dX4_weighRow_144 : decode cX4_weighRow 144 = .ok (.bipush 12, 2) := by decide +kernel
theorem dX4_weighRow_146 : decode cX4_weighRow 146 = .ok (.iload 8, 2) := by decide +kernel
theorem dX4_weighRow_148 : decode cX4_weighRow 148 = .ok (.imul, 1) := by decide +kernel
theorem dX4_weighRow_149 : decode cX4_weighRow 149 = .ok (.iadd, 1) := by decide +kernel
theorem dX4_weighRow_150 : decode cX4_weighRow 150 = .ok (.iload 9, 2) := by decide +kernel
theorem dX4_weighRow_152 : decode cX4_weighRow 152 = .ok (.iadd, 1) := by decide +kernel
theorem dX4_weighRow_153 : decode cX4_weighRow 153 = .ok (.istore 10, 2) := by decide +kernel
theorem dX4_weighRow_155 : decode cX4_weighRow 155 = .ok (.aload_n 0, 1) := by decide +kernel
theorem dX4_weighRow_156 : decode cX4_weighRow 156 = .ok (.getfield 11, 3) := by decide +kernel
theorem dX4_weighRow_159 : decode cX4_weighRow 159 = .ok (.iload 10, 2) := by decide +kernel
theorem dX4_weighRow_161 : decode cX4_weighRow 161 = .ok (.aload_n 0, 1) := by decide +kernel
theorem dX4_weighRow_162 : decode cX4_weighRow 162 = .ok (.iload_n 1, 1) := by decide +kernel
theorem dX4_weighRow_163 : decode cX4_weighRow 163 = .ok (.iload_n 2, 1) := by decide +kernel
theorem dX4_weighRow_164 : decode cX4_weighRow 164 = .ok (.iload 9, 2) := by decide +kernel
theorem dX4_weighRow_166 : decode cX4_weighRow 166 = .ok (.iload 8, 2) := by decide +kernel
theorem dX4_weighRow_168 : decode cX4_weighRow 168 = .ok (.invokevirtual 73, 3) := by decide +kernel
theorem dX4_weighRow_171 : decode cX4_weighRow 171 = .ok (.iastore, 1) := by decide +kernel
theorem dX4_weighRow_172 : decode cX4_weighRow 172 = .ok (.iinc 9 1, 3) := by decide +kernel
theorem dX4_weighRow_175 : decode cX4_weighRow 175 = .ok (.goto (-43), 3) := by decide +kernel
theorem dX4_weighRow_178 : decode cX4_weighRow 178 = .ok (.iinc 8 1, 3) := by decide +kernel
theorem dX4_weighRow_181 : decode cX4_weighRow 181 = .ok (.goto (-60), 3) := by decide +kernel
theorem dX4_weighRow_184 : decode cX4_weighRow 184 = .ok (.return_, 1) := by decide +kernel
theorem dX4_weigh_0 : decode cX4_weigh 0 = .ok (.bipush 12, 2) := by decide +kernel
theorem dX4_weigh_2 : decode cX4_weigh 2 = .ok (.iload 4, 2) := by decide +kernel
theorem dX4_weigh_4 : decode cX4_weigh 4 = .ok (.imul, 1) := by decide +kernel
theorem dX4_weigh_5 : decode cX4_weigh 5 = .ok (.iload_n 3, 1) := by decide +kernel
theorem dX4_weigh_6 : decode cX4_weigh 6 = .ok (.iadd, 1) := by decide +kernel
theorem dX4_weigh_7 : decode cX4_weigh 7 = .ok (.istore 5, 2) := by decide +kernel
theorem dX4_weigh_9 : decode cX4_weigh 9 = .ok (.aload_n 0, 1) := by decide +kernel
theorem dX4_weigh_10 : decode cX4_weigh 10 = .ok (.iload_n 1, 1) := by decide +kernel
theorem dX4_weigh_11 : decode cX4_weigh 11 = .ok (.iload_n 2, 1) := by decide +kernel
theorem dX4_weigh_12 : decode cX4_weigh 12 = .ok (.invokevirtual 77, 3) := by decide +kernel
theorem dX4_weigh_15 : decode cX4_weigh 15 = .ok (.istore 6, 2) := by decide +kernel
theorem dX4_weigh_17 : decode cX4_weigh 17 = .ok (.aload_n 0, 1) := by decide +kernel
theorem dX4_weigh_18 : decode cX4_weigh 18 = .ok (.getfield 42, 3) := by decide +kernel
theorem dX4_weigh_21 : decode cX4_weigh 21 = .ok (.iload 5, 2) := by decide +kernel
theorem dX4_weigh_23 : decode cX4_weigh 23 = .ok (.iaload, 1) := by decide +kernel
theorem dX4_weigh_24 : decode cX4_weigh 24 = .ok (.iconst (-1), 1) := by decide +kernel
theorem dX4_weigh_25 : decode cX4_weigh 25 = .ok (.if_icmp .eq 14, 3) := by decide +kernel
theorem dX4_weigh_28 : decode cX4_weigh 28 = .ok (.aload_n 0, 1) := by decide +kernel
theorem dX4_weigh_29 : decode cX4_weigh 29 = .ok (.iload 5, 2) := by decide +kernel
theorem dX4_weigh_31 : decode cX4_weigh 31 = .ok (.iload 6, 2) := by decide +kernel
theorem dX4_weigh_33 : decode cX4_weigh 33 = .ok (.invokevirtual 59, 3) := by decide +kernel
theorem dX4_weigh_36 : decode cX4_weigh 36 = .ok (.ifCond .ne 6, 3) := by decide +kernel
theorem dX4_weigh_39 : decode cX4_weigh 39 = .ok (.ldc 38, 2) := by decide +kernel
theorem dX4_weigh_41 : decode cX4_weigh 41 = .ok (.ireturn, 1) := by decide +kernel
theorem dX4_weigh_42 : decode cX4_weigh 42 = .ok (.aload_n 0, 1) := by decide +kernel
theorem dX4_weigh_43 : decode cX4_weigh 43 = .ok (.iload 5, 2) := by decide +kernel
theorem dX4_weigh_45 : decode cX4_weigh 45 = .ok (.iload 6, 2) := by decide +kernel
theorem dX4_weigh_47 : decode cX4_weigh 47 = .ok (.invokevirtual 80, 3) := by decide +kernel
theorem dX4_weigh_50 : decode cX4_weigh 50 = .ok (.ifCond .eq 5, 3) := by decide +kernel
theorem dX4_weigh_53 : decode cX4_weigh 53 = .ok (.iconst 0, 1) := by decide +kernel
theorem dX4_weigh_54 : decode cX4_weigh 54 = .ok (.ireturn, 1) := by decide +kernel
theorem dX4_weigh_55 : decode cX4_weigh 55 = .ok (.aload_n 0, 1) := by decide +kernel
theorem dX4_weigh_56 : decode cX4_weigh 56 = .ok (.iload_n 1, 1) := by decide +kernel
theorem dX4_weigh_57 : decode cX4_weigh 57 = .ok (.iload_n 2, 1) := by decide +kernel
theorem dX4_weigh_58 : decode cX4_weigh 58 = .ok (.iload 5, 2) := by decide +kernel
theorem dX4_weigh_60 : decode cX4_weigh 60 = .ok (.invokevirtual 83, 3) := by decide +kernel
theorem dX4_weigh_63 : decode cX4_weigh 63 = .ok (.istore 7, 2) := by decide +kernel
theorem dX4_weigh_65 : decode cX4_weigh 65 = .ok (.iconst 0, 1) := by decide +kernel
theorem dX4_weigh_66 : decode cX4_weigh 66 = .ok (.istore 8, 2) := by decide +kernel
theorem dX4_weigh_68 : decode cX4_weigh 68 = .ok (.iconst 1, 1) := by decide +kernel
theorem dX4_weigh_69 : decode cX4_weigh 69 = .ok (.istore 9, 2) := by decide +kernel
theorem dX4_weigh_71 : decode cX4_weigh 71 = .ok (.iload 9, 2) := by decide +kernel
theorem dX4_weigh_73 : decode cX4_weigh 73 = .ok (.getstatic 87, 3) := by decide +kernel
theorem dX4_weigh_76 : decode cX4_weigh 76 = .ok (.arraylength, 1) := by decide +kernel
theorem dX4_weigh_77 : decode cX4_weigh 77 = .ok (.if_icmp .ge 54, 3) := by decide +kernel
theorem dX4_weigh_80 : decode cX4_weigh 80 = .ok (.iload_n 1, 1) := by decide +kernel
theorem dX4_weigh_81 : decode cX4_weigh 81 = .ok (.ifCond .le 50, 3) := by decide +kernel
theorem dX4_weigh_84 : decode cX4_weigh 84 = .ok (.aload_n 0, 1) := by decide +kernel
theorem dX4_weigh_85 : decode cX4_weigh 85 = .ok (.iload_n 1, 1) := by decide +kernel
theorem dX4_weigh_86 : decode cX4_weigh 86 = .ok (.iconst 1, 1) := by decide +kernel
theorem dX4_weigh_87 : decode cX4_weigh 87 = .ok (.isub, 1) := by decide +kernel
theorem dX4_weigh_88 : decode cX4_weigh 88 = .ok (.iload_n 3, 1) := by decide +kernel
theorem dX4_weigh_89 : decode cX4_weigh 89 = .ok (.getstatic 87, 3) := by decide +kernel
theorem dX4_weigh_92 : decode cX4_weigh 92 = .ok (.iload 9, 2) := by decide +kernel
theorem dX4_weigh_94 : decode cX4_weigh 94 = .ok (.iaload, 1) := by decide +kernel
theorem dX4_weigh_95 : decode cX4_weigh 95 = .ok (.iadd, 1) := by decide +kernel
theorem dX4_weigh_96 : decode cX4_weigh 96 = .ok (.iload 4, 2) := by decide +kernel
theorem dX4_weigh_98 : decode cX4_weigh 98 = .ok (.getstatic 90, 3) := by decide +kernel
theorem dX4_weigh_101 : decode cX4_weigh 101 = .ok (.iload 9, 2) := by decide +kernel
theorem dX4_weigh_103 : decode cX4_weigh 103 = .ok (.iaload, 1) := by decide +kernel
theorem dX4_weigh_104 : decode cX4_weigh 104 = .ok (.iadd, 1) := by decide +kernel
theorem dX4_weigh_105 : decode cX4_weigh 105 = .ok (.invokevirtual 93, 3) := by decide +kernel
theorem dX4_weigh_108 : decode cX4_weigh 108 = .ok (.istore 10, 2) := by decide +kernel
theorem dX4_weigh_110 : decode cX4_weigh 110 = .ok (.iload 10, 2) := by decide +kernel
theorem dX4_weigh_112 : decode cX4_weigh 112 = .ok (.iload 7, 2) := by decide +kernel
theorem dX4_weigh_114 : decode cX4_weigh 114 = .ok (.if_icmp .ge 11, 3) := by decide +kernel
theorem dX4_weigh_117 : decode cX4_weigh 117 = .ok (.iload 10, 2) := by decide +kernel
theorem dX4_weigh_119 : decode cX4_weigh 119 = .ok (.istore 7, 2) := by decide +kernel
theorem dX4_weigh_121 : decode cX4_weigh 121 = .ok (.iload 9, 2) := by decide +kernel
theorem dX4_weigh_123 : decode cX4_weigh 123 = .ok (.istore 8, 2) := by decide +kernel
theorem dX4_weigh_125 : decode cX4_weigh 125 = .ok (.iinc 9 1, 3) := by decide +kernel
theorem dX4_weigh_128 : decode cX4_weigh 128 = .ok (.goto (-57), 3) := by decide +kernel
theorem dX4_weigh_131 : decode cX4_weigh 131 = .ok (.aload_n 0, 1) := by decide +kernel
theorem dX4_weigh_132 : decode cX4_weigh 132 = .ok (.iload_n 1, 1) := by decide +kernel
theorem dX4_weigh_133 : decode cX4_weigh 133 = .ok (.iload_n 2, 1) := by decide +kernel
theorem dX4_weigh_134 : decode cX4_weigh 134 = .ok (.iload 5, 2) := by decide +kernel
theorem dX4_weigh_136 : decode cX4_weigh 136 = .ok (.iload 8, 2) := by decide +kernel
theorem dX4_weigh_138 : decode cX4_weigh 138 = .ok (.invokevirtual 96, 3) := by decide +kernel
theorem dX4_weigh_141 : decode cX4_weigh 141 = .ok (.iload 7, 2) := by decide +kernel
theorem dX4_weigh_143 : decode cX4_weigh 143 = .ok (.ireturn, 1) := by decide +kernel
theorem dX4_worthOfStaying_0 : decode cX4_worthOfStaying 0 = .ok (.ldc 38, 2) := by decide +kernel
theorem dX4_worthOfStaying_2 : decode cX4_worthOfStaying 2 = .ok (.istore 4, 2) := by decide +kernel
theorem dX4_worthOfStaying_4 : decode cX4_worthOfStaying 4 = .ok (.iload_n 2, 1) := by decide +kernel
theorem dX4_worthOfStaying_5 : decode cX4_worthOfStaying 5 = .ok (.ifCond .le 20, 3) := by decide +kernel
theorem dX4_worthOfStaying_8 : decode cX4_worthOfStaying 8 = .ok (.aload_n 0, 1) := by decide +kernel
theorem dX4_worthOfStaying_9 : decode cX4_worthOfStaying 9 = .ok (.getfield 11, 3) := by decide +kernel
theorem dX4_worthOfStaying_12 : decode cX4_worthOfStaying 12 = .ok (.iload_n 1, 1) := by decide +kernel
theorem dX4_worthOfStaying_13 : decode cX4_worthOfStaying 13 = .ok (.sipush 144, 3) := by decide +kernel
theorem dX4_worthOfStaying_16 : decode cX4_worthOfStaying 16 = .ok (.imul, 1) := by decide +kernel
theorem dX4_worthOfStaying_17 : decode cX4_worthOfStaying 17 = .ok (.iload_n 3, 1) := by decide +kernel
theorem dX4_worthOfStaying_18 : decode cX4_worthOfStaying 18 = .ok (.iadd, 1) := by decide +kernel
theorem dX4_worthOfStaying_19 : decode cX4_worthOfStaying 19 = .ok (.iaload, 1) := by decide +kernel
theorem dX4_worthOfStaying_20 : decode cX4_worthOfStaying 20 = .ok (.istore 4, 2) := by decide +kernel
theorem dX4_worthOfStaying_22 : decode cX4_worthOfStaying 22 = .ok (.goto 23, 3) := by decide +kernel
theorem dX4_worthOfStaying_25 : decode cX4_worthOfStaying 25 = .ok (.iload_n 1, 1) := by decide +kernel
theorem dX4_worthOfStaying_26 : decode cX4_worthOfStaying 26 = .ok (.ifCond .le 19, 3) := by decide +kernel
theorem dX4_worthOfStaying_29 : decode cX4_worthOfStaying 29 = .ok (.aload_n 0, 1) := by decide +kernel
theorem dX4_worthOfStaying_30 : decode cX4_worthOfStaying 30 = .ok (.getfield 11, 3) := by decide +kernel
theorem dX4_worthOfStaying_33 : decode cX4_worthOfStaying 33 = .ok (.iload_n 1, 1) := by decide +kernel
theorem dX4_worthOfStaying_34 : decode cX4_worthOfStaying 34 = .ok (.iconst 1, 1) := by decide +kernel
theorem dX4_worthOfStaying_35 : decode cX4_worthOfStaying 35 = .ok (.isub, 1) := by decide +kernel
theorem dX4_worthOfStaying_36 : decode cX4_worthOfStaying 36 = .ok (.sipush 144, 3) := by decide +kernel
theorem dX4_worthOfStaying_39 : decode cX4_worthOfStaying 39 = .ok (.imul, 1) := by decide +kernel
theorem dX4_worthOfStaying_40 : decode cX4_worthOfStaying 40 = .ok (.iload_n 3, 1) := by decide +kernel
theorem dX4_worthOfStaying_41 : decode cX4_worthOfStaying 41 = .ok (.iadd, 1) := by decide +kernel
theorem dX4_worthOfStaying_42 : decode cX4_worthOfStaying 42 = .ok (.iaload, 1) := by decide +kernel
theorem dX4_worthOfStaying_43 : decode cX4_worthOfStaying 43 = .ok (.istore 4, 2) := by decide +kernel
theorem dX4_worthOfStaying_45 : decode cX4_worthOfStaying 45 = .ok (.iload 4, 2) := by decide +kernel
theorem dX4_worthOfStaying_47 : decode cX4_worthOfStaying 47 = .ok (.ldc 38, 2) := by decide +kernel
theorem dX4_worthOfStaying_49 : decode cX4_worthOfStaying 49 = .ok (.if_icmp .ge 22, 3) := by decide +kernel
theorem dX4_worthOfStaying_52 : decode cX4_worthOfStaying 52 = .ok (.iload 4, 2) := by decide +kernel
theorem dX4_worthOfStaying_54 : decode cX4_worthOfStaying 54 = .ok (.aload_n 0, 1) := by decide +kernel
theorem dX4_worthOfStaying_55 : decode cX4_worthOfStaying 55 = .ok (.getfield 42, 3) := by decide +kernel
theorem dX4_worthOfStaying_58 : decode cX4_worthOfStaying 58 = .ok (.iload_n 3, 1) := by decide +kernel
theorem dX4_worthOfStaying_59 : decode cX4_worthOfStaying 59 = .ok (.iaload, 1) := by decide +kernel
theorem dX4_worthOfStaying_60 : decode cX4_worthOfStaying 60 = .ok (.sipush 4096, 3) := by decide +kernel
theorem dX4_worthOfStaying_63 : decode cX4_worthOfStaying 63 = .ok (.imul, 1) := by decide +kernel
theorem dX4_worthOfStaying_64 : decode cX4_worthOfStaying 64 = .ok (.iadd, 1) := by decide +kernel
theorem dX4_worthOfStaying_65 : decode cX4_worthOfStaying 65 = .ok (.bipush 64, 2) := by decide +kernel
theorem dX4_worthOfStaying_67 : decode cX4_worthOfStaying 67 = .ok (.iadd, 1) := by decide +kernel
theorem dX4_worthOfStaying_68 : decode cX4_worthOfStaying 68 = .ok (.goto 5, 3) := by decide +kernel
theorem dX4_worthOfStaying_71 : decode cX4_worthOfStaying 71 = .ok (.ldc 38, 2) := by decide +kernel
theorem dX4_worthOfStaying_73 : decode cX4_worthOfStaying 73 = .ok (.ireturn, 1) := by decide +kernel
theorem dX4_worthOfGoing_0 : decode cX4_worthOfGoing 0 = .ok (.iload_n 2, 1) := by decide +kernel
theorem dX4_worthOfGoing_1 : decode cX4_worthOfGoing 1 = .ok (.ifCond .lt 19, 3) := by decide +kernel
theorem dX4_worthOfGoing_4 : decode cX4_worthOfGoing 4 = .ok (.iload_n 2, 1) := by decide +kernel
theorem dX4_worthOfGoing_5 : decode cX4_worthOfGoing 5 = .ok (.bipush 12, 2) := by decide +kernel
theorem dX4_worthOfGoing_7 : decode cX4_worthOfGoing 7 = .ok (.if_icmp .ge 13, 3) := by decide +kernel
theorem dX4_worthOfGoing_10 : decode cX4_worthOfGoing 10 = .ok (.iload_n 3, 1) := by decide +kernel
theorem dX4_worthOfGoing_11 : decode cX4_worthOfGoing 11 = .ok (.ifCond .lt 9, 3) := by decide +kernel
theorem dX4_worthOfGoing_14 : decode cX4_worthOfGoing 14 = .ok (.iload_n 3, 1) := by decide +kernel
theorem dX4_worthOfGoing_15 : decode cX4_worthOfGoing 15 = .ok (.bipush 12, 2) := by decide +kernel
theorem dX4_worthOfGoing_17 : decode cX4_worthOfGoing 17 = .ok (.if_icmp .lt 6, 3) := by decide +kernel
theorem dX4_worthOfGoing_20 : decode cX4_worthOfGoing 20 = .ok (.ldc 38, 2) := by decide +kernel
theorem dX4_worthOfGoing_22 : decode cX4_worthOfGoing 22 = .ok (.ireturn, 1) := by decide +kernel
theorem dX4_worthOfGoing_23 : decode cX4_worthOfGoing 23 = .ok (.bipush 12, 2) := by decide +kernel
theorem dX4_worthOfGoing_25 : decode cX4_worthOfGoing 25 = .ok (.iload_n 3, 1) := by decide +kernel
theorem dX4_worthOfGoing_26 : decode cX4_worthOfGoing 26 = .ok (.imul, 1) := by decide +kernel
theorem dX4_worthOfGoing_27 : decode cX4_worthOfGoing 27 = .ok (.iload_n 2, 1) := by decide +kernel
theorem dX4_worthOfGoing_28 : decode cX4_worthOfGoing 28 = .ok (.iadd, 1) := by decide +kernel
theorem dX4_worthOfGoing_29 : decode cX4_worthOfGoing 29 = .ok (.istore 4, 2) := by decide +kernel
theorem dX4_worthOfGoing_31 : decode cX4_worthOfGoing 31 = .ok (.aload_n 0, 1) := by decide +kernel
theorem dX4_worthOfGoing_32 : decode cX4_worthOfGoing 32 = .ok (.getfield 11, 3) := by decide +kernel
theorem dX4_worthOfGoing_35 : decode cX4_worthOfGoing 35 = .ok (.iload_n 1, 1) := by decide +kernel
theorem dX4_worthOfGoing_36 : decode cX4_worthOfGoing 36 = .ok (.sipush 144, 3) := by decide +kernel
theorem dX4_worthOfGoing_39 : decode cX4_worthOfGoing 39 = .ok (.imul, 1) := by decide +kernel
theorem dX4_worthOfGoing_40 : decode cX4_worthOfGoing 40 = .ok (.iload 4, 2) := by decide +kernel
theorem dX4_worthOfGoing_42 : decode cX4_worthOfGoing 42 = .ok (.iadd, 1) := by decide +kernel
theorem dX4_worthOfGoing_43 : decode cX4_worthOfGoing 43 = .ok (.iaload, 1) := by decide +kernel
theorem dX4_worthOfGoing_44 : decode cX4_worthOfGoing 44 = .ok (.istore 5, 2) := by decide +kernel
theorem dX4_worthOfGoing_46 : decode cX4_worthOfGoing 46 = .ok (.iload 5, 2) := by decide +kernel
theorem dX4_worthOfGoing_48 : decode cX4_worthOfGoing 48 = .ok (.ldc 38, 2) := by decide +kernel
theorem dX4_worthOfGoing_50 : decode cX4_worthOfGoing 50 = .ok (.if_icmp .ge 25, 3) := by decide +kernel
theorem dX4_worthOfGoing_53 : decode cX4_worthOfGoing 53 = .ok (.iload 5, 2) := by decide +kernel
theorem dX4_worthOfGoing_55 : decode cX4_worthOfGoing 55 = .ok (.aload_n 0, 1) := by decide +kernel
theorem dX4_worthOfGoing_56 : decode cX4_worthOfGoing 56 = .ok (.getfield 42, 3) := by decide +kernel
theorem dX4_worthOfGoing_59 : decode cX4_worthOfGoing 59 = .ok (.iload 4, 2) := by decide +kernel
theorem dX4_worthOfGoing_61 : decode cX4_worthOfGoing 61 = .ok (.iaload, 1) := by decide +kernel
theorem dX4_worthOfGoing_62 : decode cX4_worthOfGoing 62 = .ok (.sipush 4096, 3) := by decide +kernel
theorem dX4_worthOfGoing_65 : decode cX4_worthOfGoing 65 = .ok (.imul, 1) := by decide +kernel
theorem dX4_worthOfGoing_66 : decode cX4_worthOfGoing 66 = .ok (.iadd, 1) := by decide +kernel
theorem dX4_worthOfGoing_67 : decode cX4_worthOfGoing 67 = .ok (.bipush 64, 2) := by decide +kernel
theorem dX4_worthOfGoing_69 : decode cX4_worthOfGoing 69 = .ok (.iadd, 1) := by decide +kernel
theorem dX4_worthOfGoing_70 : decode cX4_worthOfGoing 70 = .ok (.iconst 1, 1) := by decide +kernel
theorem dX4_worthOfGoing_71 : decode cX4_worthOfGoing 71 = .ok (.iadd, 1) := by decide +kernel
theorem dX4_worthOfGoing_72 : decode cX4_worthOfGoing 72 = .ok (.goto 5, 3) := by decide +kernel
theorem dX4_worthOfGoing_75 : decode cX4_worthOfGoing 75 = .ok (.ldc 38, 2) := by decide +kernel
theorem dX4_worthOfGoing_77 : decode cX4_worthOfGoing 77 = .ok (.ireturn, 1) := by decide +kernel
theorem dX4_dayOf_0 : decode cX4_dayOf 0 = .ok (.aload_n 0, 1) := by decide +kernel
theorem dX4_dayOf_1 : decode cX4_dayOf 1 = .ok (.getfield 26, 3) := by decide +kernel
theorem dX4_dayOf_4 : decode cX4_dayOf 4 = .ok (.aload_n 0, 1) := by decide +kernel
theorem dX4_dayOf_5 : decode cX4_dayOf 5 = .ok (.getfield 29, 3) := by decide +kernel
theorem dX4_dayOf_8 : decode cX4_dayOf 8 = .ok (.iadd, 1) := by decide +kernel
theorem dX4_dayOf_9 : decode cX4_dayOf 9 = .ok (.iload_n 1, 1) := by decide +kernel
theorem dX4_dayOf_10 : decode cX4_dayOf 10 = .ok (.isub, 1) := by decide +kernel
theorem dX4_dayOf_11 : decode cX4_dayOf 11 = .ok (.iload_n 2, 1) := by decide +kernel
theorem dX4_dayOf_12 : decode cX4_dayOf 12 = .ok (.isub, 1) := by decide +kernel
theorem dX4_dayOf_13 : decode cX4_dayOf 13 = .ok (.ireturn, 1) := by decide +kernel
theorem dX4_endsAt_0 : decode cX4_endsAt 0 = .ok (.iload_n 1, 1) := by decide +kernel
theorem dX4_endsAt_1 : decode cX4_endsAt 1 = .ok (.aload_n 0, 1) := by decide +kernel
theorem dX4_endsAt_2 : decode cX4_endsAt 2 = .ok (.getfield 23, 3) := by decide +kernel
theorem dX4_endsAt_5 : decode cX4_endsAt 5 = .ok (.if_icmp .ne 15, 3) := by decide +kernel
theorem dX4_endsAt_8 : decode cX4_endsAt 8 = .ok (.iload_n 2, 1) := by decide +kernel
theorem dX4_endsAt_9 : decode cX4_endsAt 9 = .ok (.aload_n 0, 1) := by decide +kernel
theorem dX4_endsAt_10 : decode cX4_endsAt 10 = .ok (.getfield 35, 3) := by decide +kernel
theorem dX4_endsAt_13 : decode cX4_endsAt 13 = .ok (.if_icmp .lt 7, 3) := by decide +kernel
theorem dX4_endsAt_16 : decode cX4_endsAt 16 = .ok (.iconst 1, 1) := by decide +kernel
theorem dX4_endsAt_17 : decode cX4_endsAt 17 = .ok (.goto 4, 3) := by decide +kernel
theorem dX4_endsAt_20 : decode cX4_endsAt 20 = .ok (.iconst 0, 1) := by decide +kernel
theorem dX4_endsAt_21 : decode cX4_endsAt 21 = .ok (.ireturn, 1) := by decide +kernel
theorem dX4_isApart_0 : decode cX4_isApart 0 = .ok (.aload_n 0, 1) := by decide +kernel
theorem dX4_isApart_1 : decode cX4_isApart 1 = .ok (.getfield 32, 3) := by decide +kernel
theorem dX4_isApart_4 : decode cX4_isApart 4 = .ok (.iconst (-1), 1) := by decide +kernel
theorem dX4_isApart_5 : decode cX4_isApart 5 = .ok (.if_icmp .ne 5, 3) := by decide +kernel
theorem dX4_isApart_8 : decode cX4_isApart 8 = .ok (.iconst 1, 1) := by decide +kernel
theorem dX4_isApart_9 : decode cX4_isApart 9 = .ok (.ireturn, 1) := by decide +kernel
theorem dX4_isApart_10 : decode cX4_isApart 10 = .ok (.iload_n 2, 1) := by decide +kernel
theorem dX4_isApart_11 : decode cX4_isApart 11 = .ok (.iconst 1, 1) := by decide +kernel
theorem dX4_isApart_12 : decode cX4_isApart 12 = .ok (.if_icmp .lt 21, 3) := by decide +kernel
theorem dX4_isApart_15 : decode cX4_isApart 15 = .ok (.aload_n 0, 1) := by decide +kernel
theorem dX4_isApart_16 : decode cX4_isApart 16 = .ok (.iload_n 1, 1) := by decide +kernel
theorem dX4_isApart_17 : decode cX4_isApart 17 = .ok (.aload_n 0, 1) := by decide +kernel
theorem dX4_isApart_18 : decode cX4_isApart 18 = .ok (.getfield 45, 3) := by decide +kernel
theorem dX4_isApart_21 : decode cX4_isApart 21 = .ok (.iload_n 2, 1) := by decide +kernel
theorem dX4_isApart_22 : decode cX4_isApart 22 = .ok (.iconst 1, 1) := by decide +kernel
theorem dX4_isApart_23 : decode cX4_isApart 23 = .ok (.isub, 1) := by decide +kernel
theorem dX4_isApart_24 : decode cX4_isApart 24 = .ok (.invokevirtual 100, 3) := by decide +kernel
theorem dX4_isApart_27 : decode cX4_isApart 27 = .ok (.invokevirtual 106, 3) := by decide +kernel
theorem dX4_isApart_30 : decode cX4_isApart 30 = .ok (.ifCond .eq 41, 3) := by decide +kernel
theorem dX4_isApart_33 : decode cX4_isApart 33 = .ok (.aload_n 0, 1) := by decide +kernel
theorem dX4_isApart_34 : decode cX4_isApart 34 = .ok (.iload_n 1, 1) := by decide +kernel
theorem dX4_isApart_35 : decode cX4_isApart 35 = .ok (.aload_n 0, 1) := by decide +kernel
theorem dX4_isApart_36 : decode cX4_isApart 36 = .ok (.getfield 45, 3) := by decide +kernel
theorem dX4_isApart_39 : decode cX4_isApart 39 = .ok (.iload_n 2, 1) := by decide +kernel
theorem dX4_isApart_40 : decode cX4_isApart 40 = .ok (.invokevirtual 100, 3) := by decide +kernel
theorem dX4_isApart_43 : decode cX4_isApart 43 = .ok (.invokevirtual 106, 3) := by decide +kernel
theorem dX4_isApart_46 : decode cX4_isApart 46 = .ok (.ifCond .eq 25, 3) := by decide +kernel
theorem dX4_isApart_49 : decode cX4_isApart 49 = .ok (.aload_n 0, 1) := by decide +kernel
theorem dX4_isApart_50 : decode cX4_isApart 50 = .ok (.iload_n 1, 1) := by decide +kernel
theorem dX4_isApart_51 : decode cX4_isApart 51 = .ok (.aload_n 0, 1) := by decide +kernel
theorem dX4_isApart_52 : decode cX4_isApart 52 = .ok (.getfield 45, 3) := by decide +kernel
theorem dX4_isApart_55 : decode cX4_isApart 55 = .ok (.iload_n 2, 1) := by decide +kernel
theorem dX4_isApart_56 : decode cX4_isApart 56 = .ok (.iconst 1, 1) := by decide +kernel
theorem dX4_isApart_57 : decode cX4_isApart 57 = .ok (.iadd, 1) := by decide +kernel
theorem dX4_isApart_58 : decode cX4_isApart 58 = .ok (.invokevirtual 100, 3) := by decide +kernel
theorem dX4_isApart_61 : decode cX4_isApart 61 = .ok (.invokevirtual 106, 3) := by decide +kernel
theorem dX4_isApart_64 : decode cX4_isApart 64 = .ok (.ifCond .eq 7, 3) := by decide +kernel
theorem dX4_isApart_67 : decode cX4_isApart 67 = .ok (.iconst 1, 1) := by decide +kernel
theorem dX4_isApart_68 : decode cX4_isApart 68 = .ok (.goto 4, 3) := by decide +kernel
theorem dX4_isApart_71 : decode cX4_isApart 71 = .ok (.iconst 0, 1) := by decide +kernel
theorem dX4_isApart_72 : decode cX4_isApart 72 = .ok (.ireturn, 1) := by decide +kernel
theorem dX4_isBeyondGap_0 : decode cX4_isBeyondGap 0 = .ok (.iload_n 1, 1) := by decide +kernel
theorem dX4_isBeyondGap_1 : decode cX4_isBeyondGap 1 = .ok (.bipush 12, 2) := by decide +kernel
theorem dX4_isBeyondGap_3 : decode cX4_isBeyondGap 3 = .ok (.irem, 1) := by decide +kernel
theorem dX4_isBeyondGap_4 : decode cX4_isBeyondGap 4 = .ok (.iload_n 2, 1) := by decide +kernel
theorem dX4_isBeyondGap_5 : decode cX4_isBeyondGap 5 = .ok (.bipush 12, 2) := by decide +kernel
theorem dX4_isBeyondGap_7 : decode cX4_isBeyondGap 7 = .ok (.irem, 1) := by decide +kernel
theorem dX4_isBeyondGap_8 : decode cX4_isBeyondGap 8 = .ok (.isub, 1) := by decide +kernel
theorem dX4_isBeyondGap_9 : decode cX4_isBeyondGap 9 = .ok (.istore_n 3, 1) := by decide +kernel
theorem dX4_isBeyondGap_10 : decode cX4_isBeyondGap 10 = .ok (.iload_n 1, 1) := by decide +kernel
theorem dX4_isBeyondGap_11 : decode cX4_isBeyondGap 11 = .ok (.bipush 12, 2) := by decide +kernel
theorem dX4_isBeyondGap_13 : decode cX4_isBeyondGap 13 = .ok (.idiv, 1) := by decide +kernel
theorem dX4_isBeyondGap_14 : decode cX4_isBeyondGap 14 = .ok (.iload_n 2, 1) := by decide +kernel
theorem dX4_isBeyondGap_15 : decode cX4_isBeyondGap 15 = .ok (.bipush 12, 2) := by decide +kernel
theorem dX4_isBeyondGap_17 : decode cX4_isBeyondGap 17 = .ok (.idiv, 1) := by decide +kernel
theorem dX4_isBeyondGap_18 : decode cX4_isBeyondGap 18 = .ok (.isub, 1) := by decide +kernel
theorem dX4_isBeyondGap_19 : decode cX4_isBeyondGap 19 = .ok (.istore 4, 2) := by decide +kernel
theorem dX4_isBeyondGap_21 : decode cX4_isBeyondGap 21 = .ok (.iload_n 3, 1) := by decide +kernel
theorem dX4_isBeyondGap_22 : decode cX4_isBeyondGap 22 = .ok (.aload_n 0, 1) := by decide +kernel
theorem dX4_isBeyondGap_23 : decode cX4_isBeyondGap 23 = .ok (.getfield 32, 3) := by decide +kernel
theorem dX4_isBeyondGap_26 : decode cX4_isBeyondGap 26 = .ok (.if_icmp .gt 31, 3) := by decide +kernel
theorem dX4_isBeyondGap_29 : decode cX4_isBeyondGap 29 = .ok (.iload_n 3, 1) := by decide +kernel
theorem dX4_isBeyondGap_30 : decode cX4_isBeyondGap 30 = .ok (.aload_n 0, 1) := by decide +kernel
theorem dX4_isBeyondGap_31 : decode cX4_isBeyondGap 31 = .ok (.getfield 32, 3) := by decide +kernel
theorem dX4_isBeyondGap_34 : decode cX4_isBeyondGap 34 = .ok (.ineg, 1) := by decide +kernel
theorem dX4_isBeyondGap_35 : decode cX4_isBeyondGap 35 = .ok (.if_icmp .lt 22, 3) := by decide +kernel
theorem dX4_isBeyondGap_38 : decode cX4_isBeyondGap 38 = .ok (.iload 4, 2) := by decide +kernel
theorem dX4_isBeyondGap_40 : decode cX4_isBeyondGap 40 = .ok (.aload_n 0, 1) := by decide +kernel
theorem dX4_isBeyondGap_41 : decode cX4_isBeyondGap 41 = .ok (.getfield 32, 3) := by decide +kernel
theorem dX4_isBeyondGap_44 : decode cX4_isBeyondGap 44 = .ok (.if_icmp .gt 13, 3) := by decide +kernel
theorem dX4_isBeyondGap_47 : decode cX4_isBeyondGap 47 = .ok (.iload 4, 2) := by decide +kernel
theorem dX4_isBeyondGap_49 : decode cX4_isBeyondGap 49 = .ok (.aload_n 0, 1) := by decide +kernel
theorem dX4_isBeyondGap_50 : decode cX4_isBeyondGap 50 = .ok (.getfield 32, 3) := by decide +kernel
theorem dX4_isBeyondGap_53 : decode cX4_isBeyondGap 53 = .ok (.ineg, 1) := by decide +kernel
theorem dX4_isBeyondGap_54 : decode cX4_isBeyondGap 54 = .ok (.if_icmp .ge 7, 3) := by decide +kernel
theorem dX4_isBeyondGap_57 : decode cX4_isBeyondGap 57 = .ok (.iconst 1, 1) := by decide +kernel
theorem dX4_isBeyondGap_58 : decode cX4_isBeyondGap 58 = .ok (.goto 4, 3) := by decide +kernel
theorem dX4_isBeyondGap_61 : decode cX4_isBeyondGap 61 = .ok (.iconst 0, 1) := by decide +kernel
theorem dX4_isBeyondGap_62 : decode cX4_isBeyondGap 62 = .ok (.ireturn, 1) := by decide +kernel
theorem dX4_longOf_0 : decode cX4_longOf 0 = .ok (.iload_n 2, 1) := by decide +kernel
theorem dX4_longOf_1 : decode cX4_longOf 1 = .ok (.aload_n 0, 1) := by decide +kernel
theorem dX4_longOf_2 : decode cX4_longOf 2 = .ok (.getfield 26, 3) := by decide +kernel
theorem dX4_longOf_5 : decode cX4_longOf 5 = .ok (.iconst 1, 1) := by decide +kernel
theorem dX4_longOf_6 : decode cX4_longOf 6 = .ok (.iadd, 1) := by decide +kernel
theorem dX4_longOf_7 : decode cX4_longOf 7 = .ok (.imul, 1) := by decide +kernel
theorem dX4_longOf_8 : decode cX4_longOf 8 = .ok (.iload_n 1, 1) := by decide +kernel
theorem dX4_longOf_9 : decode cX4_longOf 9 = .ok (.iadd, 1) := by decide +kernel
theorem dX4_longOf_10 : decode cX4_longOf 10 = .ok (.bipush 9, 2) := by decide +kernel
theorem dX4_longOf_12 : decode cX4_longOf 12 = .ok (.imul, 1) := by decide +kernel
theorem dX4_longOf_13 : decode cX4_longOf 13 = .ok (.iload_n 3, 1) := by decide +kernel
theorem dX4_longOf_14 : decode cX4_longOf 14 = .ok (.bipush 16, 2) := by decide +kernel
theorem dX4_longOf_16 : decode cX4_longOf 16 = .ok (.idiv, 1) := by decide +kernel
theorem dX4_longOf_17 : decode cX4_longOf 17 = .ok (.iadd, 1) := by decide +kernel
theorem dX4_longOf_18 : decode cX4_longOf 18 = .ok (.ireturn, 1) := by decide +kernel
theorem dX4_shiftOf_0 : decode cX4_shiftOf 0 = .ok (.iload_n 0, 1) := by decide +kernel
theorem dX4_shiftOf_1 : decode cX4_shiftOf 1 = .ok (.bipush 16, 2) := by decide +kernel
theorem dX4_shiftOf_3 : decode cX4_shiftOf 3 = .ok (.irem, 1) := by decide +kernel
theorem dX4_shiftOf_4 : decode cX4_shiftOf 4 = .ok (.iconst 4, 1) := by decide +kernel
theorem dX4_shiftOf_5 : decode cX4_shiftOf 5 = .ok (.imul, 1) := by decide +kernel
theorem dX4_shiftOf_6 : decode cX4_shiftOf 6 = .ok (.ireturn, 1) := by decide +kernel
theorem dX4_keepMove_0 : decode cX4_keepMove 0 = .ok (.aload_n 0, 1) := by decide +kernel
theorem dX4_keepMove_1 : decode cX4_keepMove 1 = .ok (.iload_n 1, 1) := by decide +kernel
theorem dX4_keepMove_2 : decode cX4_keepMove 2 = .ok (.iload_n 2, 1) := by decide +kernel
theorem dX4_keepMove_3 : decode cX4_keepMove 3 = .ok (.iload_n 3, 1) := by decide +kernel
theorem dX4_keepMove_4 : decode cX4_keepMove 4 = .ok (.invokevirtual 109, 3) := by decide +kernel
theorem dX4_keepMove_7 : decode cX4_keepMove 7 = .ok (.istore 5, 2) := by decide +kernel
theorem dX4_keepMove_9 : decode cX4_keepMove 9 = .ok (.aload_n 0, 1) := by decide +kernel
theorem dX4_keepMove_10 : decode cX4_keepMove 10 = .ok (.getfield 15, 3) := by decide +kernel
theorem dX4_keepMove_13 : decode cX4_keepMove 13 = .ok (.iload 5, 2) := by decide +kernel
theorem dX4_keepMove_15 : decode cX4_keepMove 15 = .ok (.laload, 1) := by decide +kernel
theorem dX4_keepMove_16 : decode cX4_keepMove 16 = .ok (.ldc2_w 112, 3) := by decide +kernel
theorem dX4_keepMove_19 : decode cX4_keepMove 19 = .ok (.iload_n 3, 1) := by decide +kernel
theorem dX4_keepMove_20 : decode cX4_keepMove 20 = .ok (.invokestatic 114, 3) := by decide +kernel
theorem dX4_keepMove_23 : decode cX4_keepMove 23 = .ok (.lshl, 1) := by decide +kernel
theorem dX4_keepMove_24 : decode cX4_keepMove 24 = .ok (.ldc2_w 117, 3) := by decide +kernel
theorem dX4_keepMove_27 : decode cX4_keepMove 27 = .ok (.lxor, 1) := by decide +kernel
theorem dX4_keepMove_28 : decode cX4_keepMove 28 = .ok (.land, 1) := by decide +kernel
theorem dX4_keepMove_29 : decode cX4_keepMove 29 = .ok (.lstore 6, 2) := by decide +kernel
theorem dX4_keepMove_31 : decode cX4_keepMove 31 = .ok (.aload_n 0, 1) := by decide +kernel
theorem dX4_keepMove_32 : decode cX4_keepMove 32 = .ok (.getfield 15, 3) := by decide +kernel
theorem dX4_keepMove_35 : decode cX4_keepMove 35 = .ok (.iload 5, 2) := by decide +kernel
theorem dX4_keepMove_37 : decode cX4_keepMove 37 = .ok (.lload 6, 2) := by decide +kernel
theorem dX4_keepMove_39 : decode cX4_keepMove 39 = .ok (.iload 4, 2) := by decide +kernel
theorem dX4_keepMove_41 : decode cX4_keepMove 41 = .ok (.i2l, 1) := by decide +kernel
theorem dX4_keepMove_42 : decode cX4_keepMove 42 = .ok (.iload_n 3, 1) := by decide +kernel
theorem dX4_keepMove_43 : decode cX4_keepMove 43 = .ok (.invokestatic 114, 3) := by decide +kernel
theorem dX4_keepMove_46 : decode cX4_keepMove 46 = .ok (.lshl, 1) := by decide +kernel
theorem dX4_keepMove_47 : decode cX4_keepMove 47 = .ok (.lor, 1) := by decide +kernel
theorem dX4_keepMove_48 : decode cX4_keepMove 48 = .ok (.lastore, 1) := by decide +kernel
theorem dX4_keepMove_49 : decode cX4_keepMove 49 = .ok (.return_, 1) := by decide +kernel
theorem dX4_keptMove_0 : decode cX4_keptMove 0 = .ok (.aload_n 0, 1) := by decide +kernel
theorem dX4_keptMove_1 : decode cX4_keptMove 1 = .ok (.getfield 15, 3) := by decide +kernel
theorem dX4_keptMove_4 : decode cX4_keptMove 4 = .ok (.aload_n 0, 1) := by decide +kernel
theorem dX4_keptMove_5 : decode cX4_keptMove 5 = .ok (.iload_n 1, 1) := by decide +kernel
theorem dX4_keptMove_6 : decode cX4_keptMove 6 = .ok (.iload_n 2, 1) := by decide +kernel
theorem dX4_keptMove_7 : decode cX4_keptMove 7 = .ok (.iload_n 3, 1) := by decide +kernel
theorem dX4_keptMove_8 : decode cX4_keptMove 8 = .ok (.invokevirtual 109, 3) := by decide +kernel
theorem dX4_keptMove_11 : decode cX4_keptMove 11 = .ok (.laload, 1) := by decide +kernel
theorem dX4_keptMove_12 : decode cX4_keptMove 12 = .ok (.iload_n 3, 1) := by decide +kernel
theorem dX4_keptMove_13 : decode cX4_keptMove 13 = .ok (.invokestatic 114, 3) := by decide +kernel
theorem dX4_keptMove_16 : decode cX4_keptMove 16 = .ok (.lshr, 1) := by decide +kernel
theorem dX4_keptMove_17 : decode cX4_keptMove 17 = .ok (.ldc2_w 112, 3) := by decide +kernel
theorem dX4_keptMove_20 : decode cX4_keptMove 20 = .ok (.land, 1) := by decide +kernel
theorem dX4_keptMove_21 : decode cX4_keptMove 21 = .ok (.l2i, 1) := by decide +kernel
theorem dX4_keptMove_22 : decode cX4_keptMove 22 = .ok (.ireturn, 1) := by decide +kernel
theorem dX4_write_0 : decode cX4_write 0 = .ok (.aload_n 0, 1) := by decide +kernel
theorem dX4_write_1 : decode cX4_write 1 = .ok (.getfield 19, 3) := by decide +kernel
theorem dX4_write_4 : decode cX4_write 4 = .ok (.istore 4, 2) := by decide +kernel
theorem dX4_write_6 : decode cX4_write 6 = .ok (.aload_n 0, 1) := by decide +kernel
theorem dX4_write_7 : decode cX4_write 7 = .ok (.getfield 26, 3) := by decide +kernel
theorem dX4_write_10 : decode cX4_write 10 = .ok (.istore 5, 2) := by decide +kernel
theorem dX4_write_12 : decode cX4_write 12 = .ok (.aload_n 0, 1) := by decide +kernel
theorem dX4_write_13 : decode cX4_write 13 = .ok (.getfield 29, 3) := by decide +kernel
theorem dX4_write_16 : decode cX4_write 16 = .ok (.istore 6, 2) := by decide +kernel
theorem dX4_write_18 : decode cX4_write 18 = .ok (.iload_n 2, 1) := by decide +kernel
theorem dX4_write_19 : decode cX4_write 19 = .ok (.istore 7, 2) := by decide +kernel
theorem dX4_write_21 : decode cX4_write 21 = .ok (.aload_n 1, 1) := by decide +kernel
theorem dX4_write_22 : decode cX4_write 22 = .ok (.getfield 119, 3) := by decide +kernel
theorem dX4_write_25 : decode cX4_write 25 = .ok (.iload 7, 2) := by decide +kernel
theorem dX4_write_27 : decode cX4_write 27 = .ok (.iload 4, 2) := by decide +kernel
theorem dX4_write_29 : decode cX4_write 29 = .ok (.iastore, 1) := by decide +kernel
theorem dX4_write_30 : decode cX4_write 30 = .ok (.iload 7, 2) := by decide +kernel
theorem dX4_write_32 : decode cX4_write 32 = .ok (.bipush 40, 2) := by decide +kernel
theorem dX4_write_34 : decode cX4_write 34 = .ok (.if_icmp .ge 104, 3) := by decide +kernel
theorem dX4_write_37 : decode cX4_write 37 = .ok (.iload 5, 2) := by decide +kernel
theorem dX4_write_39 : decode cX4_write 39 = .ok (.iload 6, 2) := by decide +kernel
theorem dX4_write_41 : decode cX4_write 41 = .ok (.iadd, 1) := by decide +kernel
theorem dX4_write_42 : decode cX4_write 42 = .ok (.ifCond .le 96, 3) := by decide +kernel
theorem dX4_write_45 : decode cX4_write 45 = .ok (.aload_n 0, 1) := by decide +kernel
theorem dX4_write_46 : decode cX4_write 46 = .ok (.iload 4, 2) := by decide +kernel
theorem dX4_write_48 : decode cX4_write 48 = .ok (.aload_n 0, 1) := by decide +kernel
theorem dX4_write_49 : decode cX4_write 49 = .ok (.iload 5, 2) := by decide +kernel
theorem dX4_write_51 : decode cX4_write 51 = .ok (.iload 6, 2) := by decide +kernel
theorem dX4_write_53 : decode cX4_write 53 = .ok (.invokevirtual 77, 3) := by decide +kernel
theorem dX4_write_56 : decode cX4_write 56 = .ok (.invokevirtual 80, 3) := by decide +kernel
theorem dX4_write_59 : decode cX4_write 59 = .ok (.ifCond .ne 79, 3) := by decide +kernel
theorem dX4_write_62 : decode cX4_write 62 = .ok (.aload_n 0, 1) := by decide +kernel
theorem dX4_write_63 : decode cX4_write 63 = .ok (.iload 5, 2) := by decide +kernel
theorem dX4_write_65 : decode cX4_write 65 = .ok (.iload 6, 2) := by decide +kernel
theorem dX4_write_67 : decode cX4_write 67 = .ok (.iload 4, 2) := by decide +kernel
theorem dX4_write_69 : decode cX4_write 69 = .ok (.invokevirtual 122, 3) := by decide +kernel
theorem dX4_write_72 : decode cX4_write 72 = .ok (.getstatic 87, 3) := by decide +kernel
theorem dX4_write_75 : decode cX4_write 75 = .ok (.arraylength, 1) := by decide +kernel
theorem dX4_write_76 : decode cX4_write 76 = .ok (.iconst 1, 1) := by decide +kernel
theorem dX4_write_77 : decode cX4_write 77 = .ok (.isub, 1) := by decide +kernel
theorem dX4_write_78 : decode cX4_write 78 = .ok (.invokestatic 49, 3) := by decide +kernel
theorem dX4_write_81 : decode cX4_write 81 = .ok (.istore 8, 2) := by decide +kernel
theorem dX4_write_83 : decode cX4_write 83 = .ok (.iload 8, 2) := by decide +kernel
theorem dX4_write_85 : decode cX4_write 85 = .ok (.ifCond .ne 14, 3) := by decide +kernel
theorem dX4_write_88 : decode cX4_write 88 = .ok (.iload 6, 2) := by decide +kernel
theorem dX4_write_90 : decode cX4_write 90 = .ok (.ifCond .le 9, 3) := by decide +kernel
theorem dX4_write_93 : decode cX4_write 93 = .ok (.iinc 6 (-1), 3) := by decide +kernel
theorem dX4_write_96 : decode cX4_write 96 = .ok (.goto 6, 3) := by decide +kernel
theorem dX4_write_99 : decode cX4_write 99 = .ok (.iinc 5 (-1), 3) := by decide +kernel
theorem dX4_write_102 : decode cX4_write 102 = .ok (.iload 4, 2) := by decide +kernel
theorem dX4_write_104 : decode cX4_write 104 = .ok (.bipush 12, 2) := by decide +kernel
theorem dX4_write_106 : decode cX4_write 106 = .ok (.getstatic 90, 3) := by decide +kernel
theorem dX4_write_109 : decode cX4_write 109 = .ok (.iload 8, 2) := by decide +kernel
theorem dX4_write_111 : decode cX4_write 111 = .ok (.iaload, 1) := by decide +kernel
theorem dX4_write_112 : decode cX4_write 112 = .ok (.imul, 1) := by decide +kernel
theorem dX4_write_113 : decode cX4_write 113 = .ok (.getstatic 87, 3) := by decide +kernel
theorem dX4_write_116 : decode cX4_write 116 = .ok (.iload 8, 2) := by decide +kernel
theorem dX4_write_118 : decode cX4_write 118 = .ok (.iaload, 1) := by decide +kernel
theorem dX4_write_119 : decode cX4_write 119 = .ok (.iadd, 1) := by decide +kernel
theorem dX4_write_120 : decode cX4_write 120 = .ok (.iadd, 1) := by decide +kernel
theorem dX4_write_121 : decode cX4_write 121 = .ok (.istore 4, 2) := by decide +kernel
theorem dX4_write_123 : decode cX4_write 123 = .ok (.iinc 7 1, 3) := by decide +kernel
theorem dX4_write_126 : decode cX4_write 126 = .ok (.aload_n 1, 1) := by decide +kernel
theorem dX4_write_127 : decode cX4_write 127 = .ok (.getfield 119, 3) := by decide +kernel
theorem dX4_write_130 : decode cX4_write 130 = .ok (.iload 7, 2) := by decide +kernel
theorem dX4_write_132 : decode cX4_write 132 = .ok (.iload 4, 2) := by decide +kernel
theorem dX4_write_134 : decode cX4_write 134 = .ok (.iastore, 1) := by decide +kernel
theorem dX4_write_135 : decode cX4_write 135 = .ok (.goto (-105), 3) := by decide +kernel
theorem dX4_write_138 : decode cX4_write 138 = .ok (.aload_n 1, 1) := by decide +kernel
theorem dX4_write_139 : decode cX4_write 139 = .ok (.iload 7, 2) := by decide +kernel
theorem dX4_write_141 : decode cX4_write 141 = .ok (.putfield 125, 3) := by decide +kernel
theorem dX4_write_144 : decode cX4_write 144 = .ok (.aload_n 1, 1) := by decide +kernel
theorem dX4_write_145 : decode cX4_write 145 = .ok (.iload_n 3, 1) := by decide +kernel
theorem dX4_write_146 : decode cX4_write 146 = .ok (.aload_n 0, 1) := by decide +kernel
theorem dX4_write_147 : decode cX4_write 147 = .ok (.invokevirtual 63, 3) := by decide +kernel
theorem dX4_write_150 : decode cX4_write 150 = .ok (.iadd, 1) := by decide +kernel
theorem dX4_write_151 : decode cX4_write 151 = .ok (.putfield 128, 3) := by decide +kernel
theorem dX4_write_154 : decode cX4_write 154 = .ok (.aload_n 1, 1) := by decide +kernel
theorem dX4_write_155 : decode cX4_write 155 = .ok (.iconst 1, 1) := by decide +kernel
theorem dX4_write_156 : decode cX4_write 156 = .ok (.putfield 131, 3) := by decide +kernel
theorem dX4_write_159 : decode cX4_write 159 = .ok (.return_, 1) := by decide +kernel
theorem dX9_init_0 : decode cX9_init 0 = .ok (.aload_n 0, 1) := by decide +kernel
theorem dX9_init_1 : decode cX9_init 1 = .ok (.invokespecial 3, 3) := by decide +kernel
theorem dX9_init_4 : decode cX9_init 4 = .ok (.aload_n 0, 1) := by decide +kernel
theorem dX9_init_5 : decode cX9_init 5 = .ok (.iconst 4, 1) := by decide +kernel
theorem dX9_init_6 : decode cX9_init 6 = .ok (.anewarray 9, 3) := by decide +kernel
theorem dX9_init_9 : decode cX9_init 9 = .ok (.putfield 11, 3) := by decide +kernel
theorem dX9_init_12 : decode cX9_init 12 = .ok (.aload_n 0, 1) := by decide +kernel
theorem dX9_init_13 : decode cX9_init 13 = .ok (.iconst 0, 1) := by decide +kernel
theorem dX9_init_14 : decode cX9_init 14 = .ok (.putfield 15, 3) := by decide +kernel
theorem dX9_init_17 : decode cX9_init 17 = .ok (.aload_n 0, 1) := by decide +kernel
theorem dX9_init_18 : decode cX9_init 18 = .ok (.new 19, 3) := by decide +kernel
theorem dX9_init_21 : decode cX9_init 21 = .ok (.dup, 1) := by decide +kernel
theorem dX9_init_22 : decode cX9_init 22 = .ok (.invokespecial 21, 3) := by decide +kernel
theorem dX9_init_25 : decode cX9_init 25 = .ok (.putfield 22, 3) := by decide +kernel
theorem dX9_init_28 : decode cX9_init 28 = .ok (.aload_n 0, 1) := by decide +kernel
theorem dX9_init_29 : decode cX9_init 29 = .ok (.new 26, 3) := by decide +kernel
theorem dX9_init_32 : decode cX9_init 32 = .ok (.dup, 1) := by decide +kernel
theorem dX9_init_33 : decode cX9_init 33 = .ok (.invokespecial 28, 3) := by decide +kernel
theorem dX9_init_36 : decode cX9_init 36 = .ok (.putfield 29, 3) := by decide +kernel
theorem dX9_init_39 : decode cX9_init 39 = .ok (.aload_n 0, 1) := by decide +kernel
theorem dX9_init_40 : decode cX9_init 40 = .ok (.bipush 10, 2) := by decide +kernel
theorem dX9_init_42 : decode cX9_init 42 = .ok (.putfield 33, 3) := by decide +kernel
theorem dX9_init_45 : decode cX9_init 45 = .ok (.aload_n 0, 1) := by decide +kernel
theorem dX9_init_46 : decode cX9_init 46 = .ok (.new 36, 3) := by decide +kernel
theorem dX9_init_49 : decode cX9_init 49 = .ok (.dup, 1) := by decide +kernel
theorem dX9_init_50 : decode cX9_init 50 = .ok (.invokespecial 38, 3) := by decide +kernel
theorem dX9_init_53 : decode cX9_init 53 = .ok (.putfield 39, 3) := by decide +kernel
theorem dX9_init_56 : decode cX9_init 56 = .ok (.aload_n 0, 1) := by decide +kernel
theorem dX9_init_57 : decode cX9_init 57 = .ok (.new 43, 3) := by decide +kernel
theorem dX9_init_60 : decode cX9_init 60 = .ok (.dup, 1) := by decide +kernel
theorem dX9_init_61 : decode cX9_init 61 = .ok (.invokespecial 45, 3) := by decide +kernel
theorem dX9_init_64 : decode cX9_init 64 = .ok (.putfield 46, 3) := by decide +kernel
theorem dX9_init_67 : decode cX9_init 67 = .ok (.aload_n 0, 1) := by decide +kernel
theorem dX9_init_68 : decode cX9_init 68 = .ok (.sipush 144, 3) := by decide +kernel
theorem dX9_init_71 : decode cX9_init 71 = .ok (.newarray .int, 2) := by decide +kernel
theorem dX9_init_73 : decode cX9_init 73 = .ok (.putfield 50, 3) := by decide +kernel
theorem dX9_init_76 : decode cX9_init 76 = .ok (.aload_n 0, 1) := by decide +kernel
theorem dX9_init_77 : decode cX9_init 77 = .ok (.new 54, 3) := by decide +kernel
theorem dX9_init_80 : decode cX9_init 80 = .ok (.dup, 1) := by decide +kernel
theorem dX9_init_81 : decode cX9_init 81 = .ok (.invokespecial 56, 3) := by decide +kernel
theorem dX9_init_84 : decode cX9_init 84 = .ok (.putfield 57, 3) := by decide +kernel
theorem dX9_init_87 : decode cX9_init 87 = .ok (.aload_n 0, 1) := by decide +kernel
theorem dX9_init_88 : decode cX9_init 88 = .ok (.new 54, 3) := by decide +kernel
theorem dX9_init_91 : decode cX9_init 91 = .ok (.dup, 1) := by decide +kernel
theorem dX9_init_92 : decode cX9_init 92 = .ok (.invokespecial 56, 3) := by decide +kernel
theorem dX9_init_95 : decode cX9_init 95 = .ok (.putfield 61, 3) := by decide +kernel
theorem dX9_init_98 : decode cX9_init 98 = .ok (.aload_n 0, 1) := by decide +kernel
theorem dX9_init_99 : decode cX9_init 99 = .ok (.aconst_null, 1) := by decide +kernel
theorem dX9_init_100 : decode cX9_init 100 = .ok (.putfield 64, 3) := by decide +kernel
theorem dX9_init_103 : decode cX9_init 103 = .ok (.aload_n 0, 1) := by decide +kernel
theorem dX9_init_104 : decode cX9_init 104 = .ok (.new 68, 3) := by decide +kernel
theorem dX9_init_107 : decode cX9_init 107 = .ok (.dup, 1) := by decide +kernel
theorem dX9_init_108 : decode cX9_init 108 = .ok (.invokespecial 70, 3) := by decide +kernel
theorem dX9_init_111 : decode cX9_init 111 = .ok (.putfield 71, 3) := by decide +kernel
theorem dX9_init_114 : decode cX9_init 114 = .ok (.iconst 0, 1) := by decide +kernel
theorem dX9_init_115 : decode cX9_init 115 = .ok (.istore_n 1, 1) := by decide +kernel
theorem dX9_init_116 : decode cX9_init 116 = .ok (.iload_n 1, 1) := by decide +kernel
theorem dX9_init_117 : decode cX9_init 117 = .ok (.iconst 4, 1) := by decide +kernel
theorem dX9_init_118 : decode cX9_init 118 = .ok (.if_icmp .ge 22, 3) := by decide +kernel
theorem dX9_init_121 : decode cX9_init 121 = .ok (.aload_n 0, 1) := by decide +kernel
theorem dX9_init_122 : decode cX9_init 122 = .ok (.getfield 11, 3) := by decide +kernel
theorem dX9_init_125 : decode cX9_init 125 = .ok (.iload_n 1, 1) := by decide +kernel
theorem dX9_init_126 : decode cX9_init 126 = .ok (.new 9, 3) := by decide +kernel
theorem dX9_init_129 : decode cX9_init 129 = .ok (.dup, 1) := by decide +kernel
theorem dX9_init_130 : decode cX9_init 130 = .ok (.invokespecial 75, 3) := by decide +kernel
theorem dX9_init_133 : decode cX9_init 133 = .ok (.aastore, 1) := by decide +kernel
theorem dX9_init_134 : decode cX9_init 134 = .ok (.iinc 1 1, 3) := by decide +kernel
theorem dX9_init_137 : decode cX9_init 137 = .ok (.goto (-21), 3) := by decide +kernel
theorem dX9_init_140 : decode cX9_init 140 = .ok (.return_, 1) := by decide +kernel
theorem dX9_turn_0 : decode cX9_turn 0 = .ok (.iload_n 1, 1) := by decide +kernel
theorem dX9_turn_1 : decode cX9_turn 1 = .ok (.i2l, 1) := by decide +kernel
theorem dX9_turn_2 : decode cX9_turn 2 = .ok (.invokestatic 76, 3) := by decide +kernel
theorem dX9_turn_5 : decode cX9_turn 5 = .ok (.ifCond .ne 5, 3) := by decide +kernel
theorem dX9_turn_8 : decode cX9_turn 8 = .ok (.iconst (-1), 1) := by decide +kernel
theorem dX9_turn_9 : decode cX9_turn 9 = .ok (.ireturn, 1) := by decide +kernel
theorem dX9_turn_10 : decode cX9_turn 10 = .ok (.iload_n 2, 1) := by decide +kernel
theorem dX9_turn_11 : decode cX9_turn 11 = .ok (.iconst 0, 1) := by decide +kernel
theorem dX9_turn_12 : decode cX9_turn 12 = .ok (.bipush 59, 2) := by decide +kernel
theorem dX9_turn_14 : decode cX9_turn 14 = .ok (.invokestatic 80, 3) := by decide +kernel
theorem dX9_turn_17 : decode cX9_turn 17 = .ok (.ifCond .eq 13, 3) := by decide +kernel
theorem dX9_turn_20 : decode cX9_turn 20 = .ok (.iload_n 3, 1) := by decide +kernel
theorem dX9_turn_21 : decode cX9_turn 21 = .ok (.bipush (-4), 2) := by decide +kernel
theorem dX9_turn_23 : decode cX9_turn 23 = .ok (.iconst 4, 1) := by decide +kernel
theorem dX9_turn_24 : decode cX9_turn 24 = .ok (.invokestatic 80, 3) := by decide +kernel
theorem dX9_turn_27 : decode cX9_turn 27 = .ok (.ifCond .ne 6, 3) := by decide +kernel
theorem dX9_turn_30 : decode cX9_turn 30 = .ok (.bipush (-2), 2) := by decide +kernel
theorem dX9_turn_32 : decode cX9_turn 32 = .ok (.ireturn, 1) := by decide +kernel
theorem dX9_turn_33 : decode cX9_turn 33 = .ok (.aload_n 0, 1) := by decide +kernel
theorem dX9_turn_34 : decode cX9_turn 34 = .ok (.getfield 11, 3) := by decide +kernel
theorem dX9_turn_37 : decode cX9_turn 37 = .ok (.iload_n 1, 1) := by decide +kernel
theorem dX9_turn_38 : decode cX9_turn 38 = .ok (.aaload, 1) := by decide +kernel
theorem dX9_turn_39 : decode cX9_turn 39 = .ok (.astore 4, 2) := by decide +kernel
theorem dX9_turn_41 : decode cX9_turn 41 = .ok (.aload 4, 2) := by decide +kernel
theorem dX9_turn_43 : decode cX9_turn 43 = .ok (.getfield 84, 3) := by decide +kernel
theorem dX9_turn_46 : decode cX9_turn 46 = .ok (.bipush 12, 2) := by decide +kernel
theorem dX9_turn_48 : decode cX9_turn 48 = .ok (.if_icmp .lt 6, 3) := by decide +kernel
theorem dX9_turn_51 : decode cX9_turn 51 = .ok (.bipush (-4), 2) := by decide +kernel
theorem dX9_turn_53 : decode cX9_turn 53 = .ok (.ireturn, 1) := by decide +kernel
theorem dX9_turn_54 : decode cX9_turn 54 = .ok (.aload 4, 2) := by decide +kernel
theorem dX9_turn_56 : decode cX9_turn 56 = .ok (.iload_n 2, 1) := by decide +kernel
theorem dX9_turn_57 : decode cX9_turn 57 = .ok (.invokevirtual 87, 3) := by decide +kernel
theorem dX9_turn_60 : decode cX9_turn 60 = .ok (.ifCond .eq 6, 3) := by decide +kernel
theorem dX9_turn_63 : decode cX9_turn 63 = .ok (.bipush (-5), 2) := by decide +kernel
theorem dX9_turn_65 : decode cX9_turn 65 = .ok (.ireturn, 1) := by decide +kernel
theorem dX9_turn_66 : decode cX9_turn 66 = .ok (.aload 4, 2) := by decide +kernel
theorem dX9_turn_68 : decode cX9_turn 68 = .ok (.iload_n 2, 1) := by decide +kernel
theorem dX9_turn_69 : decode cX9_turn 69 = .ok (.iload_n 3, 1) := by decide +kernel
theorem dX9_turn_70 : decode cX9_turn 70 = .ok (.invokevirtual 91, 3) := by decide +kernel
theorem dX9_turn_73 : decode cX9_turn 73 = .ok (.aload 4, 2) := by decide +kernel
theorem dX9_turn_75 : decode cX9_turn 75 = .ok (.getfield 84, 3) := by decide +kernel
theorem dX9_turn_78 : decode cX9_turn 78 = .ok (.ireturn, 1) := by decide +kernel
theorem dX9_clear_0 : decode cX9_clear 0 = .ok (.iload_n 1, 1) := by decide +kernel
theorem dX9_clear_1 : decode cX9_clear 1 = .ok (.i2l, 1) := by decide +kernel
theorem dX9_clear_2 : decode cX9_clear 2 = .ok (.invokestatic 76, 3) := by decide +kernel
theorem dX9_clear_5 : decode cX9_clear 5 = .ok (.ifCond .ne 5, 3) := by decide +kernel
theorem dX9_clear_8 : decode cX9_clear 8 = .ok (.iconst (-1), 1) := by decide +kernel
theorem dX9_clear_9 : decode cX9_clear 9 = .ok (.ireturn, 1) := by decide +kernel
theorem dX9_clear_10 : decode cX9_clear 10 = .ok (.aload_n 0, 1) := by decide +kernel
theorem dX9_clear_11 : decode cX9_clear 11 = .ok (.getfield 11, 3) := by decide +kernel
theorem dX9_clear_14 : decode cX9_clear 14 = .ok (.iload_n 1, 1) := by decide +kernel
theorem dX9_clear_15 : decode cX9_clear 15 = .ok (.aaload, 1) := by decide +kernel
theorem dX9_clear_16 : decode cX9_clear 16 = .ok (.getfield 84, 3) := by decide +kernel
theorem dX9_clear_19 : decode cX9_clear 19 = .ok (.istore_n 2, 1) := by decide +kernel
theorem dX9_clear_20 : decode cX9_clear 20 = .ok (.aload_n 0, 1) := by decide +kernel
theorem dX9_clear_21 : decode cX9_clear 21 = .ok (.getfield 11, 3) := by decide +kernel
theorem dX9_clear_24 : decode cX9_clear 24 = .ok (.iload_n 1, 1) := by decide +kernel
theorem dX9_clear_25 : decode cX9_clear 25 = .ok (.aaload, 1) := by decide +kernel
theorem dX9_clear_26 : decode cX9_clear 26 = .ok (.iconst 0, 1) := by decide +kernel
theorem dX9_clear_27 : decode cX9_clear 27 = .ok (.putfield 84, 3) := by decide +kernel
theorem dX9_clear_30 : decode cX9_clear 30 = .ok (.iload_n 2, 1) := by decide +kernel
theorem dX9_clear_31 : decode cX9_clear 31 = .ok (.ireturn, 1) := by decide +kernel
theorem dX9_ofTurn_0 : decode cX9_ofTurn 0 = .ok (.iload_n 1, 1) := by decide +kernel
theorem dX9_ofTurn_1 : decode cX9_ofTurn 1 = .ok (.i2l, 1) := by decide +kernel
theorem dX9_ofTurn_2 : decode cX9_ofTurn 2 = .ok (.invokestatic 76, 3) := by decide +kernel
theorem dX9_ofTurn_5 : decode cX9_ofTurn 5 = .ok (.ifCond .eq 22, 3) := by decide +kernel
theorem dX9_ofTurn_8 : decode cX9_ofTurn 8 = .ok (.iload_n 2, 1) := by decide +kernel
theorem dX9_ofTurn_9 : decode cX9_ofTurn 9 = .ok (.iconst 0, 1) := by decide +kernel
theorem dX9_ofTurn_10 : decode cX9_ofTurn 10 = .ok (.aload_n 0, 1) := by decide +kernel
theorem dX9_ofTurn_11 : decode cX9_ofTurn 11 = .ok (.getfield 11, 3) := by decide +kernel
theorem dX9_ofTurn_14 : decode cX9_ofTurn 14 = .ok (.iload_n 1, 1) := by decide +kernel
theorem dX9_ofTurn_15 : decode cX9_ofTurn 15 = .ok (.aaload, 1) := by decide +kernel
theorem dX9_ofTurn_16 : decode cX9_ofTurn 16 = .ok (.getfield 84, 3) := by decide +kernel
theorem dX9_ofTurn_19 : decode cX9_ofTurn 19 = .ok (.iconst 1, 1) := by decide +kernel
theorem dX9_ofTurn_20 : decode cX9_ofTurn 20 = .ok (.isub, 1) := by decide +kernel
theorem dX9_ofTurn_21 : decode cX9_ofTurn 21 = .ok (.invokestatic 80, 3) := by decide +kernel
theorem dX9_ofTurn_24 : decode cX9_ofTurn 24 = .ok (.ifCond .ne 6, 3) := by decide +kernel
theorem dX9_ofTurn_27 : decode cX9_ofTurn 27 = .ok (.bipush (-101), 2) := by decide +kernel
theorem dX9_ofTurn_29 : decode cX9_ofTurn 29 = .ok (.ireturn, 1) := by decide +kernel
theorem dX9_ofTurn_30 : decode cX9_ofTurn 30 = .ok (.iload_n 3, 1) := by decide +kernel
theorem dX9_ofTurn_31 : decode cX9_ofTurn 31 = .ok (.iconst 0, 1) := by decide +kernel
theorem dX9_ofTurn_32 : decode cX9_ofTurn 32 = .ok (.iconst 1, 1) := by decide +kernel
theorem dX9_ofTurn_33 : decode cX9_ofTurn 33 = .ok (.invokestatic 80, 3) := by decide +kernel
theorem dX9_ofTurn_36 : decode cX9_ofTurn 36 = .ok (.ifCond .ne 6, 3) := by decide +kernel
theorem dX9_ofTurn_39 : decode cX9_ofTurn 39 = .ok (.bipush (-102), 2) := by decide +kernel
theorem dX9_ofTurn_41 : decode cX9_ofTurn 41 = .ok (.ireturn, 1) := by decide +kernel
theorem dX9_ofTurn_42 : decode cX9_ofTurn 42 = .ok (.iload_n 3, 1) := by decide +kernel
theorem dX9_ofTurn_43 : decode cX9_ofTurn 43 = .ok (.ifCond .ne 17, 3) := by decide +kernel
theorem dX9_ofTurn_46 : decode cX9_ofTurn 46 = .ok (.aload_n 0, 1) := by decide +kernel
theorem dX9_ofTurn_47 : decode cX9_ofTurn 47 = .ok (.getfield 11, 3) := by decide +kernel
theorem dX9_ofTurn_50 : decode cX9_ofTurn 50 = .ok (.iload_n 1, 1) := by decide +kernel
theorem dX9_ofTurn_51 : decode cX9_ofTurn 51 = .ok (.aaload, 1) := by decide +kernel
theorem dX9_ofTurn_52 : decode cX9_ofTurn 52 = .ok (.getfield 95, 3) := by decide +kernel
theorem dX9_ofTurn_55 : decode cX9_ofTurn 55 = .ok (.iload_n 2, 1) := by decide +kernel
theorem dX9_ofTurn_56 : decode cX9_ofTurn 56 = .ok (.iaload, 1) := by decide +kernel
theorem dX9_ofTurn_57 : decode cX9_ofTurn 57 = .ok (.goto 14, 3) := by decide +kernel
theorem dX9_ofTurn_60 : decode cX9_ofTurn 60 = .ok (.aload_n 0, 1) := by decide +kernel
theorem dX9_ofTurn_61 : decode cX9_ofTurn 61 = .ok (.getfield 11, 3) := by decide +kernel
theorem dX9_ofTurn_64 : decode cX9_ofTurn 64 = .ok (.iload_n 1, 1) := by decide +kernel
theorem dX9_ofTurn_65 : decode cX9_ofTurn 65 = .ok (.aaload, 1) := by decide +kernel
theorem dX9_ofTurn_66 : decode cX9_ofTurn 66 = .ok (.getfield 98, 3) := by decide +kernel
theorem dX9_ofTurn_69 : decode cX9_ofTurn 69 = .ok (.iload_n 2, 1) := by decide +kernel
theorem dX9_ofTurn_70 : decode cX9_ofTurn 70 = .ok (.iaload, 1) := by decide +kernel
theorem dX9_ofTurn_71 : decode cX9_ofTurn 71 = .ok (.ireturn, 1) := by decide +kernel
theorem dX9_course_0 : decode cX9_course 0 = .ok (.iload_n 1, 1) := by decide +kernel
theorem dX9_course_1 : decode cX9_course 1 = .ok (.i2l, 1) := by decide +kernel
theorem dX9_course_2 : decode cX9_course 2 = .ok (.invokestatic 76, 3) := by decide +kernel
theorem dX9_course_5 : decode cX9_course 5 = .ok (.ifCond .ne 6, 3) := by decide +kernel
theorem dX9_course_8 : decode cX9_course 8 = .ok (.bipush (-101), 2) := by decide +kernel
theorem dX9_course_10 : decode cX9_course 10 = .ok (.ireturn, 1) := by decide +kernel
theorem dX9_course_11 : decode cX9_course 11 = .ok (.iload_n 2, 1) := by decide +kernel
theorem dX9_course_12 : decode cX9_course 12 = .ok (.iconst 0, 1) := by decide +kernel
theorem dX9_course_13 : decode cX9_course 13 = .ok (.sipush 600, 3) := by decide +kernel
theorem dX9_course_16 : decode cX9_course 16 = .ok (.invokestatic 80, 3) := by decide +kernel
theorem dX9_course_19 : decode cX9_course 19 = .ok (.ifCond .ne 6, 3) := by decide +kernel
theorem dX9_course_22 : decode cX9_course 22 = .ok (.bipush (-102), 2) := by decide +kernel
theorem dX9_course_24 : decode cX9_course 24 = .ok (.ireturn, 1) := by decide +kernel
theorem dX9_course_25 : decode cX9_course 25 = .ok (.aload_n 0, 1) := by decide +kernel
theorem dX9_course_26 : decode cX9_course 26 = .ok (.getfield 11, 3) := by decide +kernel
theorem dX9_course_29 : decode cX9_course 29 = .ok (.iload_n 1, 1) := by decide +kernel
theorem dX9_course_30 : decode cX9_course 30 = .ok (.aaload, 1) := by decide +kernel
theorem dX9_course_31 : decode cX9_course 31 = .ok (.iload_n 2, 1) := by decide +kernel
theorem dX9_course_32 : decode cX9_course 32 = .ok (.bipush 60, 2) := by decide +kernel
theorem dX9_course_34 : decode cX9_course 34 = .ok (.irem, 1) := by decide +kernel
theorem dX9_course_35 : decode cX9_course 35 = .ok (.iconst 0, 1) := by decide +kernel
theorem dX9_course_36 : decode cX9_course 36 = .ok (.invokevirtual 101, 3) := by decide +kernel
theorem dX9_course_39 : decode cX9_course 39 = .ok (.ireturn, 1) := by decide +kernel
theorem dX9_ground_0 : decode cX9_ground 0 = .ok (.iload_n 1, 1) := by decide +kernel
theorem dX9_ground_1 : decode cX9_ground 1 = .ok (.i2l, 1) := by decide +kernel
theorem dX9_ground_2 : decode cX9_ground 2 = .ok (.invokestatic 76, 3) := by decide +kernel
theorem dX9_ground_5 : decode cX9_ground 5 = .ok (.ifCond .ne 7, 3) := by decide +kernel
theorem dX9_ground_8 : decode cX9_ground 8 = .ok (.ldc2_w 105, 3) := by decide +kernel
theorem dX9_ground_11 : decode cX9_ground 11 = .ok (.lreturn, 1) := by decide +kernel
theorem dX9_ground_12 : decode cX9_ground 12 = .ok (.iload_n 2, 1) := by decide +kernel
theorem dX9_ground_13 : decode cX9_ground 13 = .ok (.iconst 0, 1) := by decide +kernel
theorem dX9_ground_14 : decode cX9_ground 14 = .ok (.sipush 600, 3) := by decide +kernel
theorem dX9_ground_17 : decode cX9_ground 17 = .ok (.invokestatic 80, 3) := by decide +kernel
theorem dX9_ground_20 : decode cX9_ground 20 = .ok (.ifCond .eq 12, 3) := by decide +kernel
theorem dX9_ground_23 : decode cX9_ground 23 = .ok (.iload_n 3, 1) := by decide +kernel
theorem dX9_ground_24 : decode cX9_ground 24 = .ok (.iconst 0, 1) := by decide +kernel
theorem dX9_ground_25 : decode cX9_ground 25 = .ok (.iconst 1, 1) := by decide +kernel
theorem dX9_ground_26 : decode cX9_ground 26 = .ok (.invokestatic 80, 3) := by decide +kernel
theorem dX9_ground_29 : decode cX9_ground 29 = .ok (.ifCond .ne 7, 3) := by decide +kernel
theorem dX9_ground_32 : decode cX9_ground 32 = .ok (.ldc2_w 107, 3) := by decide +kernel
theorem dX9_ground_35 : decode cX9_ground 35 = .ok (.lreturn, 1) := by decide +kernel
theorem dX9_ground_36 : decode cX9_ground 36 = .ok (.aload_n 0, 1) := by decide +kernel
theorem dX9_ground_37 : decode cX9_ground 37 = .ok (.getfield 11, 3) := by decide +kernel
theorem dX9_ground_40 : decode cX9_ground 40 = .ok (.iload_n 1, 1) := by decide +kernel
theorem dX9_ground_41 : decode cX9_ground 41 = .ok (.aaload, 1) := by decide +kernel
theorem dX9_ground_42 : decode cX9_ground 42 = .ok (.iload_n 2, 1) := by decide +kernel
theorem dX9_ground_43 : decode cX9_ground 43 = .ok (.iload_n 3, 1) := by decide +kernel
theorem dX9_ground_44 : decode cX9_ground 44 = .ok (.invokevirtual 109, 3) := by decide +kernel
theorem dX9_ground_47 : decode cX9_ground 47 = .ok (.lreturn, 1) := by decide +kernel
theorem dX9_steer_0 : decode cX9_steer 0 = .ok (.iload_n 1, 1) := by decide +kernel
theorem dX9_steer_1 : decode cX9_steer 1 = .ok (.i2l, 1) := by decide +kernel
theorem dX9_steer_2 : decode cX9_steer 2 = .ok (.invokestatic 76, 3) := by decide +kernel
theorem dX9_steer_5 : decode cX9_steer 5 = .ok (.ifCond .ne 5, 3) := by decide +kernel
theorem dX9_steer_8 : decode cX9_steer 8 = .ok (.iconst (-1), 1) := by decide +kernel
theorem dX9_steer_9 : decode cX9_steer 9 = .ok (.ireturn, 1) := by decide +kernel
theorem dX9_steer_10 : decode cX9_steer 10 = .ok (.aload_n 0, 1) := by decide +kernel
theorem dX9_steer_11 : decode cX9_steer 11 = .ok (.getfield 15, 3) := by decide +kernel
theorem dX9_steer_14 : decode cX9_steer 14 = .ok (.istore_n 2, 1) := by decide +kernel
theorem dX9_steer_15 : decode cX9_steer 15 = .ok (.aload_n 0, 1) := by decide +kernel
theorem dX9_steer_16 : decode cX9_steer 16 = .ok (.iload_n 1, 1) := by decide +kernel
theorem dX9_steer_17 : decode cX9_steer 17 = .ok (.putfield 15, 3) := by decide +kernel
theorem dX9_steer_20 : decode cX9_steer 20 = .ok (.iload_n 2, 1) := by decide +kernel
theorem dX9_steer_21 : decode cX9_steer 21 = .ok (.ireturn, 1) := by decide +kernel
theorem dX9_ship_0 : decode cX9_ship 0 = .ok (.iload_n 1, 1) := by decide +kernel
theorem dX9_ship_1 : decode cX9_ship 1 = .ok (.iload_n 2, 1) := by decide +kernel
theorem dX9_ship_2 : decode cX9_ship 2 = .ok (.iload_n 3, 1) := by decide +kernel
theorem dX9_ship_3 : decode cX9_ship 3 = .ok (.invokestatic 113, 3) := by decide +kernel
theorem dX9_ship_6 : decode cX9_ship 6 = .ok (.ifCond .eq 14, 3) := by decide +kernel
theorem dX9_ship_9 : decode cX9_ship 9 = .ok (.iload 4, 2) := by decide +kernel
theorem dX9_ship_11 : decode cX9_ship 11 = .ok (.bipush (-5), 2) := by decide +kernel
theorem dX9_ship_13 : decode cX9_ship 13 = .ok (.iconst 5, 1) := by decide +kernel
theorem dX9_ship_14 : decode cX9_ship 14 = .ok (.invokestatic 80, 3) := by decide +kernel
theorem dX9_ship_17 : decode cX9_ship 17 = .ok (.ifCond .ne 6, 3) := by decide +kernel
theorem dX9_ship_20 : decode cX9_ship 20 = .ok (.bipush (-2), 2) := by decide +kernel
theorem dX9_ship_22 : decode cX9_ship 22 = .ok (.ireturn, 1) := by decide +kernel
theorem dX9_ship_23 : decode cX9_ship 23 = .ok (.aload_n 0, 1) := by decide +kernel
theorem dX9_ship_24 : decode cX9_ship 24 = .ok (.getfield 29, 3) := by decide +kernel
theorem dX9_ship_27 : decode cX9_ship 27 = .ok (.getfield 116, 3) := by decide +kernel
theorem dX9_ship_30 : decode cX9_ship 30 = .ok (.bipush 9, 2) := by decide +kernel
theorem dX9_ship_32 : decode cX9_ship 32 = .ok (.if_icmp .lt 6, 3) := by decide +kernel
theorem dX9_ship_35 : decode cX9_ship 35 = .ok (.bipush (-4), 2) := by decide +kernel
theorem dX9_ship_37 : decode cX9_ship 37 = .ok (.ireturn, 1) := by decide +kernel
theorem dX9_ship_38 : decode cX9_ship 38 = .ok (.aload_n 0, 1) := by decide +kernel
theorem dX9_ship_39 : decode cX9_ship 39 = .ok (.getfield 29, 3) := by decide +kernel
theorem dX9_ship_42 : decode cX9_ship 42 = .ok (.getfield 117, 3) := by decide +kernel
theorem dX9_ship_45 : decode cX9_ship 45 = .ok (.aload_n 0, 1) := by decide +kernel
theorem dX9_ship_46 : decode cX9_ship 46 = .ok (.getfield 29, 3) := by decide +kernel
theorem dX9_ship_49 : decode cX9_ship 49 = .ok (.getfield 116, 3) := by decide +kernel
theorem dX9_ship_52 : decode cX9_ship 52 = .ok (.aaload, 1) := by decide +kernel
theorem dX9_ship_53 : decode cX9_ship 53 = .ok (.iload_n 1, 1) := by decide +kernel
theorem dX9_ship_54 : decode cX9_ship 54 = .ok (.iload_n 2, 1) := by decide +kernel
theorem dX9_ship_55 : decode cX9_ship 55 = .ok (.iload_n 3, 1) := by decide +kernel
theorem dX9_ship_56 : decode cX9_ship 56 = .ok (.iload 4, 2) := by decide +kernel
theorem dX9_ship_58 : decode cX9_ship 58 = .ok (.invokevirtual 121, 3) := by decide +kernel
theorem dX9_ship_61 : decode cX9_ship 61 = .ok (.aload_n 0, 1) := by decide +kernel
theorem dX9_ship_62 : decode cX9_ship 62 = .ok (.getfield 29, 3) := by decide +kernel
theorem dX9_ship_65 : decode cX9_ship 65 = .ok (.dup, 1) := by decide +kernel
theorem dX9_ship_66 : decode cX9_ship 66 = .ok (.getfield 116, 3) := by decide +kernel
theorem dX9_ship_69 : decode cX9_ship 69 = .ok (.iconst 1, 1) := by decide +kernel
theorem dX9_ship_70 : decode cX9_ship 70 = .ok (.iadd, 1) := by decide +kernel
theorem dX9_ship_71 : decode cX9_ship 71 = .ok (.putfield 116, 3) := by decide +kernel
theorem dX9_ship_74 : decode cX9_ship 74 = .ok (.aload_n 0, 1) := by decide +kernel
theorem dX9_ship_75 : decode cX9_ship 75 = .ok (.getfield 29, 3) := by decide +kernel
theorem dX9_ship_78 : decode cX9_ship 78 = .ok (.getfield 116, 3) := by decide +kernel
theorem dX9_ship_81 : decode cX9_ship 81 = .ok (.iconst 1, 1) := by decide +kernel
theorem dX9_ship_82 : decode cX9_ship 82 = .ok (.isub, 1) := by decide +kernel
theorem dX9_ship_83 : decode cX9_ship 83 = .ok (.ireturn, 1) := by decide +kernel
theorem dX9_miss_0 : decode cX9_miss 0 = .ok (.aload_n 0, 1) := by decide +kernel
theorem dX9_miss_1 : decode cX9_miss 1 = .ok (.iload_n 1, 1) := by decide +kernel
theorem dX9_miss_2 : decode cX9_miss 2 = .ok (.invokevirtual 127, 3) := by decide +kernel
theorem dX9_miss_5 : decode cX9_miss 5 = .ok (.ifCond .ne 5, 3) := by decide +kernel
theorem dX9_miss_8 : decode cX9_miss 8 = .ok (.iconst (-1), 1) := by decide +kernel
theorem dX9_miss_9 : decode cX9_miss 9 = .ok (.ireturn, 1) := by decide +kernel
theorem dX9_miss_10 : decode cX9_miss 10 = .ok (.iload_n 2, 1) := by decide +kernel
theorem dX9_miss_11 : decode cX9_miss 11 = .ok (.iconst 0, 1) := by decide +kernel
theorem dX9_miss_12 : decode cX9_miss 12 = .ok (.bipush 9, 2) := by decide +kernel
theorem dX9_miss_14 : decode cX9_miss 14 = .ok (.invokestatic 80, 3) := by decide +kernel
theorem dX9_miss_17 : decode cX9_miss 17 = .ok (.ifCond .eq 13, 3) := by decide +kernel
theorem dX9_miss_20 : decode cX9_miss 20 = .ok (.iload_n 3, 1) := by decide +kernel
theorem dX9_miss_21 : decode cX9_miss 21 = .ok (.iconst 0, 1) := by decide +kernel
theorem dX9_miss_22 : decode cX9_miss 22 = .ok (.bipush 11, 2) := by decide +kernel
theorem dX9_miss_24 : decode cX9_miss 24 = .ok (.invokestatic 80, 3) := by decide +kernel
theorem dX9_miss_27 : decode cX9_miss 27 = .ok (.ifCond .ne 6, 3) := by decide +kernel
theorem dX9_miss_30 : decode cX9_miss 30 = .ok (.bipush (-2), 2) := by decide +kernel
theorem dX9_miss_32 : decode cX9_miss 32 = .ok (.ireturn, 1) := by decide +kernel
theorem dX9_miss_33 : decode cX9_miss 33 = .ok (.aload_n 0, 1) := by decide +kernel
theorem dX9_miss_34 : decode cX9_miss 34 = .ok (.getfield 29, 3) := by decide +kernel
theorem dX9_miss_37 : decode cX9_miss 37 = .ok (.getfield 130, 3) := by decide +kernel
theorem dX9_miss_40 : decode cX9_miss 40 = .ok (.bipush 20, 2) := by decide +kernel
theorem dX9_miss_42 : decode cX9_miss 42 = .ok (.if_icmp .lt 6, 3) := by decide +kernel
theorem dX9_miss_45 : decode cX9_miss 45 = .ok (.bipush (-4), 2) := by decide +kernel
theorem dX9_miss_47 : decode cX9_miss 47 = .ok (.ireturn, 1) := by decide +kernel
theorem dX9_miss_48 : decode cX9_miss 48 = .ok (.aload_n 0, 1) := by decide +kernel
theorem dX9_miss_49 : decode cX9_miss 49 = .ok (.getfield 29, 3) := by decide +kernel
theorem dX9_miss_52 : decode cX9_miss 52 = .ok (.getfield 117, 3) := by decide +kernel
theorem dX9_miss_55 : decode cX9_miss 55 = .ok (.iload_n 1, 1) := by decide +kernel
theorem dX9_miss_56 : decode cX9_miss 56 = .ok (.aaload, 1) := by decide +kernel
theorem dX9_miss_57 : decode cX9_miss 57 = .ok (.getfield 133, 3) := by decide +kernel
theorem dX9_miss_60 : decode cX9_miss 60 = .ok (.astore 4, 2) := by decide +kernel
theorem dX9_miss_62 : decode cX9_miss 62 = .ok (.aload 4, 2) := by decide +kernel
theorem dX9_miss_64 : decode cX9_miss 64 = .ok (.iload_n 2, 1) := by decide +kernel
theorem dX9_miss_65 : decode cX9_miss 65 = .ok (.iaload, 1) := by decide +kernel
theorem dX9_miss_66 : decode cX9_miss 66 = .ok (.iload_n 3, 1) := by decide +kernel
theorem dX9_miss_67 : decode cX9_miss 67 = .ok (.ishr, 1) := by decide +kernel
theorem dX9_miss_68 : decode cX9_miss 68 = .ok (.iconst 1, 1) := by decide +kernel
theorem dX9_miss_69 : decode cX9_miss 69 = .ok (.iand, 1) := by decide +kernel
theorem dX9_miss_70 : decode cX9_miss 70 = .ok (.iconst 1, 1) := by decide +kernel
theorem dX9_miss_71 : decode cX9_miss 71 = .ok (.if_icmp .ne 6, 3) := by decide +kernel
theorem dX9_miss_74 : decode cX9_miss 74 = .ok (.bipush (-5), 2) := by decide +kernel
theorem dX9_miss_76 : decode cX9_miss 76 = .ok (.ireturn, 1) := by decide +kernel
theorem dX9_miss_77 : decode cX9_miss 77 = .ok (.aload 4, 2) := by decide +kernel
theorem dX9_miss_79 : decode cX9_miss 79 = .ok (.iload_n 2, 1) := by decide +kernel
theorem dX9_miss_80 : decode cX9_miss 80 = .ok (.dup2, 1) := by decide +kernel
theorem dX9_miss_81 : decode cX9_miss 81 = .ok (.iaload, 1) := by decide +kernel
theorem dX9_miss_82 : decode cX9_miss 82 = .ok (.iconst 1, 1) := by decide +kernel
theorem dX9_miss_83 : decode cX9_miss 83 = .ok (.iload_n 3, 1) := by decide +kernel
theorem dX9_miss_84 : decode cX9_miss 84 = .ok (.ishl, 1) := by decide +kernel
theorem dX9_miss_85 : decode cX9_miss 85 = .ok (.ior, 1) := by decide +kernel
theorem dX9_miss_86 : decode cX9_miss 86 = .ok (.iastore, 1) := by decide +kernel
theorem dX9_miss_87 : decode cX9_miss 87 = .ok (.aload_n 0, 1) := by decide +kernel
theorem dX9_miss_88 : decode cX9_miss 88 = .ok (.getfield 29, 3) := by decide +kernel
theorem dX9_miss_91 : decode cX9_miss 91 = .ok (.dup, 1) := by decide +kernel
theorem dX9_miss_92 : decode cX9_miss 92 = .ok (.getfield 130, 3) := by decide +kernel
theorem dX9_miss_95 : decode cX9_miss 95 = .ok (.iconst 1, 1) := by decide +kernel
theorem dX9_miss_96 : decode cX9_miss 96 = .ok (.iadd, 1) := by decide +kernel
theorem dX9_miss_97 : decode cX9_miss 97 = .ok (.putfield 130, 3) := by decide +kernel
theorem dX9_miss_100 : decode cX9_miss 100 = .ok (.aload_n 0, 1) := by decide +kernel
theorem dX9_miss_101 : decode cX9_miss 101 = .ok (.getfield 29, 3) := by decide +kernel
theorem dX9_miss_104 : decode cX9_miss 104 = .ok (.getfield 130, 3) := by decide +kernel
theorem dX9_miss_107 : decode cX9_miss 107 = .ok (.ireturn, 1) := by decide +kernel
theorem dX9_fog_0 : decode cX9_fog 0 = .ok (.iload_n 1, 1) := by decide +kernel
theorem dX9_fog_1 : decode cX9_fog 1 = .ok (.iconst 0, 1) := by decide +kernel
theorem dX9_fog_2 : decode cX9_fog 2 = .ok (.sipush 600, 3) := by decide +kernel
theorem dX9_fog_5 : decode cX9_fog 5 = .ok (.invokestatic 80, 3) := by decide +kernel
theorem dX9_fog_8 : decode cX9_fog 8 = .ok (.ifCond .eq 14, 3) := by decide +kernel
theorem dX9_fog_11 : decode cX9_fog 11 = .ok (.iload_n 2, 1) := by decide +kernel
theorem dX9_fog_12 : decode cX9_fog 12 = .ok (.iload_n 1, 1) := by decide +kernel
theorem dX9_fog_13 : decode cX9_fog 13 = .ok (.sipush 600, 3) := by decide +kernel
theorem dX9_fog_16 : decode cX9_fog 16 = .ok (.invokestatic 80, 3) := by decide +kernel
theorem dX9_fog_19 : decode cX9_fog 19 = .ok (.ifCond .ne 6, 3) := by decide +kernel
theorem dX9_fog_22 : decode cX9_fog 22 = .ok (.bipush (-2), 2) := by decide +kernel
theorem dX9_fog_24 : decode cX9_fog 24 = .ok (.ireturn, 1) := by decide +kernel
theorem dX9_fog_25 : decode cX9_fog 25 = .ok (.aload_n 0, 1) := by decide +kernel
theorem dX9_fog_26 : decode cX9_fog 26 = .ok (.getfield 22, 3) := by decide +kernel
theorem dX9_fog_29 : decode cX9_fog 29 = .ok (.iload_n 1, 1) := by decide +kernel
theorem dX9_fog_30 : decode cX9_fog 30 = .ok (.putfield 136, 3) := by decide +kernel
theorem dX9_fog_33 : decode cX9_fog 33 = .ok (.aload_n 0, 1) := by decide +kernel
theorem dX9_fog_34 : decode cX9_fog 34 = .ok (.getfield 22, 3) := by decide +kernel
theorem dX9_fog_37 : decode cX9_fog 37 = .ok (.iload_n 2, 1) := by decide +kernel
theorem dX9_fog_38 : decode cX9_fog 38 = .ok (.putfield 139, 3) := by decide +kernel
theorem dX9_fog_41 : decode cX9_fog 41 = .ok (.iconst 1, 1) := by decide +kernel
theorem dX9_fog_42 : decode cX9_fog 42 = .ok (.ireturn, 1) := by decide +kernel
theorem dX9_place_0 : decode cX9_place 0 = .ok (.aload_n 0, 1) := by decide +kernel
theorem dX9_place_1 : decode cX9_place 1 = .ok (.iload_n 1, 1) := by decide +kernel
theorem dX9_place_2 : decode cX9_place 2 = .ok (.invokevirtual 127, 3) := by decide +kernel
theorem dX9_place_5 : decode cX9_place 5 = .ok (.ifCond .ne 7, 3) := by decide +kernel
theorem dX9_place_8 : decode cX9_place 8 = .ok (.ldc2_w 105, 3) := by decide +kernel
theorem dX9_place_11 : decode cX9_place 11 = .ok (.lreturn, 1) := by decide +kernel
theorem dX9_place_12 : decode cX9_place 12 = .ok (.iload_n 2, 1) := by decide +kernel
theorem dX9_place_13 : decode cX9_place 13 = .ok (.iconst 0, 1) := by decide +kernel
theorem dX9_place_14 : decode cX9_place 14 = .ok (.sipush 600, 3) := by decide +kernel
theorem dX9_place_17 : decode cX9_place 17 = .ok (.invokestatic 80, 3) := by decide +kernel
theorem dX9_place_20 : decode cX9_place 20 = .ok (.ifCond .eq 12, 3) := by decide +kernel
theorem dX9_place_23 : decode cX9_place 23 = .ok (.iload_n 3, 1) := by decide +kernel
theorem dX9_place_24 : decode cX9_place 24 = .ok (.iconst 0, 1) := by decide +kernel
theorem dX9_place_25 : decode cX9_place 25 = .ok (.iconst 1, 1) := by decide +kernel
theorem dX9_place_26 : decode cX9_place 26 = .ok (.invokestatic 80, 3) := by decide +kernel
theorem dX9_place_29 : decode cX9_place 29 = .ok (.ifCond .ne 7, 3) := by decide +kernel
theorem dX9_place_32 : decode cX9_place 32 = .ok (.ldc2_w 107, 3) := by decide +kernel
theorem dX9_place_35 : decode cX9_place 35 = .ok (.lreturn, 1) := by decide +kernel
theorem dX9_place_36 : decode cX9_place 36 = .ok (.aload_n 0, 1) := by decide +kernel
theorem dX9_place_37 : decode cX9_place 37 = .ok (.getfield 29, 3) := by decide +kernel
theorem dX9_place_40 : decode cX9_place 40 = .ok (.getfield 117, 3) := by decide +kernel
theorem dX9_place_43 : decode cX9_place 43 = .ok (.iload_n 1, 1) := by decide +kernel
theorem dX9_place_44 : decode cX9_place 44 = .ok (.aaload, 1) := by decide +kernel
theorem dX9_place_45 : decode cX9_place 45 = .ok (.astore 4, 2) := by decide +kernel
theorem dX9_place_47 : decode cX9_place 47 = .ok (.aload 4, 2) := by decide +kernel
theorem dX9_place_49 : decode cX9_place 49 = .ok (.invokevirtual 142, 3) := by decide +kernel
theorem dX9_place_52 : decode cX9_place 52 = .ok (.iconst 0, 1) := by decide +kernel
theorem dX9_place_53 : decode cX9_place 53 = .ok (.istore 5, 2) := by decide +kernel
theorem dX9_place_55 : decode cX9_place 55 = .ok (.iload 5, 2) := by decide +kernel
theorem dX9_place_57 : decode cX9_place 57 = .ok (.iload_n 2, 1) := by decide +kernel
theorem dX9_place_58 : decode cX9_place 58 = .ok (.if_icmp .ge 29, 3) := by decide +kernel
theorem dX9_place_61 : decode cX9_place 61 = .ok (.aload 4, 2) := by decide +kernel
theorem dX9_place_63 : decode cX9_place 63 = .ok (.aload_n 0, 1) := by decide +kernel
theorem dX9_place_64 : decode cX9_place 64 = .ok (.getfield 11, 3) := by decide +kernel
theorem dX9_place_67 : decode cX9_place 67 = .ok (.aload_n 0, 1) := by decide +kernel
theorem dX9_place_68 : decode cX9_place 68 = .ok (.getfield 15, 3) := by decide +kernel
theorem dX9_place_71 : decode cX9_place 71 = .ok (.aaload, 1) := by decide +kernel
theorem dX9_place_72 : decode cX9_place 72 = .ok (.aload_n 0, 1) := by decide +kernel
theorem dX9_place_73 : decode cX9_place 73 = .ok (.getfield 22, 3) := by decide +kernel
theorem dX9_place_76 : decode cX9_place 76 = .ok (.iload 5, 2) := by decide +kernel
theorem dX9_place_78 : decode cX9_place 78 = .ok (.invokevirtual 145, 3) := by decide +kernel
theorem dX9_place_81 : decode cX9_place 81 = .ok (.iinc 5 1, 3) := by decide +kernel
theorem dX9_place_84 : decode cX9_place 84 = .ok (.goto (-29), 3) := by decide +kernel
theorem dX9_place_87 : decode cX9_place 87 = .ok (.iload_n 3, 1) := by decide +kernel
theorem dX9_place_88 : decode cX9_place 88 = .ok (.ifCond .ne 11, 3) := by decide +kernel
theorem dX9_place_91 : decode cX9_place 91 = .ok (.aload 4, 2) := by decide +kernel
theorem dX9_place_93 : decode cX9_place 93 = .ok (.getfield 149, 3) := by decide +kernel
theorem dX9_place_96 : decode cX9_place 96 = .ok (.goto 8, 3) := by decide +kernel
theorem dX9_place_99 : decode cX9_place 99 = .ok (.aload 4, 2) := by decide +kernel
theorem dX9_place_101 : decode cX9_place 101 = .ok (.getfield 153, 3) := by decide +kernel
theorem dX9_place_104 : decode cX9_place 104 = .ok (.lreturn, 1) := by decide +kernel
theorem dX9_nearest_0 : decode cX9_nearest 0 = .ok (.iload_n 1, 1) := by decide +kernel
theorem dX9_nearest_1 : decode cX9_nearest 1 = .ok (.iconst 0, 1) := by decide +kernel
theorem dX9_nearest_2 : decode cX9_nearest 2 = .ok (.sipush 600, 3) := by decide +kernel
theorem dX9_nearest_5 : decode cX9_nearest 5 = .ok (.invokestatic 80, 3) := by decide +kernel
theorem dX9_nearest_8 : decode cX9_nearest 8 = .ok (.ifCond .eq 12, 3) := by decide +kernel
theorem dX9_nearest_11 : decode cX9_nearest 11 = .ok (.iload_n 2, 1) := by decide +kernel
theorem dX9_nearest_12 : decode cX9_nearest 12 = .ok (.iconst 0, 1) := by decide +kernel
theorem dX9_nearest_13 : decode cX9_nearest 13 = .ok (.iconst 3, 1) := by decide +kernel
theorem dX9_nearest_14 : decode cX9_nearest 14 = .ok (.invokestatic 80, 3) := by decide +kernel
theorem dX9_nearest_17 : decode cX9_nearest 17 = .ok (.ifCond .ne 7, 3) := by decide +kernel
theorem dX9_nearest_20 : decode cX9_nearest 20 = .ok (.ldc2_w 107, 3) := by decide +kernel
theorem dX9_nearest_23 : decode cX9_nearest 23 = .ok (.lreturn, 1) := by decide +kernel
theorem dX9_nearest_24 : decode cX9_nearest 24 = .ok (.aload_n 0, 1) := by decide +kernel
theorem dX9_nearest_25 : decode cX9_nearest 25 = .ok (.getfield 29, 3) := by decide +kernel
theorem dX9_nearest_28 : decode cX9_nearest 28 = .ok (.getfield 116, 3) := by decide +kernel
theorem dX9_nearest_31 : decode cX9_nearest 31 = .ok (.iconst 2, 1) := by decide +kernel
theorem dX9_nearest_32 : decode cX9_nearest 32 = .ok (.if_icmp .ge 7, 3) := by decide +kernel
theorem dX9_nearest_35 : decode cX9_nearest 35 = .ok (.ldc2_w 156, 3) := by decide +kernel
theorem dX9_nearest_38 : decode cX9_nearest 38 = .ok (.lreturn, 1) := by decide +kernel
theorem dX9_nearest_39 : decode cX9_nearest 39 = .ok (.aload_n 0, 1) := by decide +kernel
theorem dX9_nearest_40 : decode cX9_nearest 40 = .ok (.getfield 29, 3) := by decide +kernel
theorem dX9_nearest_43 : decode cX9_nearest 43 = .ok (.aload_n 0, 1) := by decide +kernel
theorem dX9_nearest_44 : decode cX9_nearest 44 = .ok (.getfield 11, 3) := by decide +kernel
theorem dX9_nearest_47 : decode cX9_nearest 47 = .ok (.aload_n 0, 1) := by decide +kernel
theorem dX9_nearest_48 : decode cX9_nearest 48 = .ok (.getfield 15, 3) := by decide +kernel
theorem dX9_nearest_51 : decode cX9_nearest 51 = .ok (.aaload, 1) := by decide +kernel
theorem dX9_nearest_52 : decode cX9_nearest 52 = .ok (.aload_n 0, 1) := by decide +kernel
theorem dX9_nearest_53 : decode cX9_nearest 53 = .ok (.getfield 22, 3) := by decide +kernel
theorem dX9_nearest_56 : decode cX9_nearest 56 = .ok (.iload_n 1, 1) := by decide +kernel
theorem dX9_nearest_57 : decode cX9_nearest 57 = .ok (.invokevirtual 158, 3) := by decide +kernel
theorem dX9_nearest_60 : decode cX9_nearest 60 = .ok (.iload_n 2, 1) := by decide +kernel
theorem dX9_nearest_61 : decode cX9_nearest 61 = .ok (.tableswitch 53 0 2 #[27, 35, 44], 27) := by decide +kernel
theorem dX9_nearest_88 : decode cX9_nearest 88 = .ok (.aload_n 0, 1) := by decide +kernel
theorem dX9_nearest_89 : decode cX9_nearest 89 = .ok (.getfield 29, 3) := by decide +kernel
theorem dX9_nearest_92 : decode cX9_nearest 92 = .ok (.getfield 161, 3) := by decide +kernel
theorem dX9_nearest_95 : decode cX9_nearest 95 = .ok (.lreturn, 1) := by decide +kernel
theorem dX9_nearest_96 : decode cX9_nearest 96 = .ok (.aload_n 0, 1) := by decide +kernel
theorem dX9_nearest_97 : decode cX9_nearest 97 = .ok (.getfield 29, 3) := by decide +kernel
theorem dX9_nearest_100 : decode cX9_nearest 100 = .ok (.getfield 164, 3) := by decide +kernel
theorem dX9_nearest_103 : decode cX9_nearest 103 = .ok (.i2l, 1) := by decide +kernel
theorem dX9_nearest_104 : decode cX9_nearest 104 = .ok (.lreturn, 1) := by decide +kernel
theorem dX9_nearest_105 : decode cX9_nearest 105 = .ok (.aload_n 0, 1) := by decide +kernel
theorem dX9_nearest_106 : decode cX9_nearest 106 = .ok (.getfield 29, 3) := by decide +kernel
theorem dX9_nearest_109 : decode cX9_nearest 109 = .ok (.getfield 167, 3) := by decide +kernel
theorem dX9_nearest_112 : decode cX9_nearest 112 = .ok (.i2l, 1) := by decide +kernel
theorem dX9_nearest_113 : decode cX9_nearest 113 = .ok (.lreturn, 1) := by decide +kernel
theorem dX9_nearest_114 : decode cX9_nearest 114 = .ok (.aload_n 0, 1) := by decide +kernel
theorem dX9_nearest_115 : decode cX9_nearest 115 = .ok (.getfield 29, 3) := by decide +kernel
theorem dX9_nearest_118 : decode cX9_nearest 118 = .ok (.getfield 170, 3) := by decide +kernel
theorem dX9_nearest_121 : decode cX9_nearest 121 = .ok (.i2l, 1) := by decide +kernel
theorem dX9_nearest_122 : decode cX9_nearest 122 = .ok (.lreturn, 1) := by decide +kernel
theorem dX9_close_0 : decode cX9_close 0 = .ok (.iload_n 1, 1) := by decide +kernel
theorem dX9_close_1 : decode cX9_close 1 = .ok (.iconst 0, 1) := by decide +kernel
theorem dX9_close_2 : decode cX9_close 2 = .ok (.sipush 600, 3) := by decide +kernel
theorem dX9_close_5 : decode cX9_close 5 = .ok (.invokestatic 80, 3) := by decide +kernel
theorem dX9_close_8 : decode cX9_close 8 = .ok (.ifCond .eq 13, 3) := by decide +kernel
theorem dX9_close_11 : decode cX9_close 11 = .ok (.iload_n 2, 1) := by decide +kernel
theorem dX9_close_12 : decode cX9_close 12 = .ok (.iconst 0, 1) := by decide +kernel
theorem dX9_close_13 : decode cX9_close 13 = .ok (.ldc 173, 2) := by decide +kernel
theorem dX9_close_15 : decode cX9_close 15 = .ok (.invokestatic 80, 3) := by decide +kernel
theorem dX9_close_18 : decode cX9_close 18 = .ok (.ifCond .ne 6, 3) := by decide +kernel
theorem dX9_close_21 : decode cX9_close 21 = .ok (.bipush (-2), 2) := by decide +kernel
theorem dX9_close_23 : decode cX9_close 23 = .ok (.ireturn, 1) := by decide +kernel
theorem dX9_close_24 : decode cX9_close 24 = .ok (.aload_n 0, 1) := by decide +kernel
theorem dX9_close_25 : decode cX9_close 25 = .ok (.getfield 29, 3) := by decide +kernel
theorem dX9_close_28 : decode cX9_close 28 = .ok (.aload_n 0, 1) := by decide +kernel
theorem dX9_close_29 : decode cX9_close 29 = .ok (.getfield 11, 3) := by decide +kernel
theorem dX9_close_32 : decode cX9_close 32 = .ok (.aload_n 0, 1) := by decide +kernel
theorem dX9_close_33 : decode cX9_close 33 = .ok (.getfield 15, 3) := by decide +kernel
theorem dX9_close_36 : decode cX9_close 36 = .ok (.aaload, 1) := by decide +kernel
theorem dX9_close_37 : decode cX9_close 37 = .ok (.aload_n 0, 1) := by decide +kernel
theorem dX9_close_38 : decode cX9_close 38 = .ok (.getfield 22, 3) := by decide +kernel
theorem dX9_close_41 : decode cX9_close 41 = .ok (.iload_n 1, 1) := by decide +kernel
theorem dX9_close_42 : decode cX9_close 42 = .ok (.iload_n 2, 1) := by decide +kernel
theorem dX9_close_43 : decode cX9_close 43 = .ok (.invokevirtual 174, 3) := by decide +kernel
theorem dX9_close_46 : decode cX9_close 46 = .ok (.ireturn, 1) := by decide +kernel
theorem dX9_centre_0 : decode cX9_centre 0 = .ok (.iload_n 1, 1) := by decide +kernel
theorem dX9_centre_1 : decode cX9_centre 1 = .ok (.iconst 1, 1) := by decide +kernel
theorem dX9_centre_2 : decode cX9_centre 2 = .ok (.bipush 20, 2) := by decide +kernel
theorem dX9_centre_4 : decode cX9_centre 4 = .ok (.invokestatic 80, 3) := by decide +kernel
theorem dX9_centre_7 : decode cX9_centre 7 = .ok (.ifCond .ne 6, 3) := by decide +kernel
theorem dX9_centre_10 : decode cX9_centre 10 = .ok (.bipush (-2), 2) := by decide +kernel
theorem dX9_centre_12 : decode cX9_centre 12 = .ok (.ireturn, 1) := by decide +kernel
theorem dX9_centre_13 : decode cX9_centre 13 = .ok (.aload_n 0, 1) := by decide +kernel
theorem dX9_centre_14 : decode cX9_centre 14 = .ok (.getfield 33, 3) := by decide +kernel
theorem dX9_centre_17 : decode cX9_centre 17 = .ok (.istore_n 2, 1) := by decide +kernel
theorem dX9_centre_18 : decode cX9_centre 18 = .ok (.aload_n 0, 1) := by decide +kernel
theorem dX9_centre_19 : decode cX9_centre 19 = .ok (.iload_n 1, 1) := by decide +kernel
theorem dX9_centre_20 : decode cX9_centre 20 = .ok (.putfield 33, 3) := by decide +kernel
theorem dX9_centre_23 : decode cX9_centre 23 = .ok (.iload_n 2, 1) := by decide +kernel
theorem dX9_centre_24 : decode cX9_centre 24 = .ok (.ireturn, 1) := by decide +kernel
theorem dX9_lurk_0 : decode cX9_lurk 0 = .ok (.iload_n 1, 1) := by decide +kernel
theorem dX9_lurk_1 : decode cX9_lurk 1 = .ok (.ldc 178, 2) := by decide +kernel
theorem dX9_lurk_3 : decode cX9_lurk 3 = .ok (.ldc 179, 2) := by decide +kernel
theorem dX9_lurk_5 : decode cX9_lurk 5 = .ok (.invokestatic 80, 3) := by decide +kernel
theorem dX9_lurk_8 : decode cX9_lurk 8 = .ok (.ifCond .eq 35, 3) := by decide +kernel
theorem dX9_lurk_11 : decode cX9_lurk 11 = .ok (.iload_n 2, 1) := by decide +kernel
theorem dX9_lurk_12 : decode cX9_lurk 12 = .ok (.ldc 178, 2) := by decide +kernel
theorem dX9_lurk_14 : decode cX9_lurk 14 = .ok (.ldc 179, 2) := by decide +kernel
theorem dX9_lurk_16 : decode cX9_lurk 16 = .ok (.invokestatic 80, 3) := by decide +kernel
theorem dX9_lurk_19 : decode cX9_lurk 19 = .ok (.ifCond .eq 24, 3) := by decide +kernel
theorem dX9_lurk_22 : decode cX9_lurk 22 = .ok (.iload_n 3, 1) := by decide +kernel
theorem dX9_lurk_23 : decode cX9_lurk 23 = .ok (.iconst 1, 1) := by decide +kernel
theorem dX9_lurk_24 : decode cX9_lurk 24 = .ok (.bipush 20, 2) := by decide +kernel
theorem dX9_lurk_26 : decode cX9_lurk 26 = .ok (.invokestatic 80, 3) := by decide +kernel
theorem dX9_lurk_29 : decode cX9_lurk 29 = .ok (.ifCond .eq 14, 3) := by decide +kernel
theorem dX9_lurk_32 : decode cX9_lurk 32 = .ok (.iload 4, 2) := by decide +kernel
theorem dX9_lurk_34 : decode cX9_lurk 34 = .ok (.iconst 0, 1) := by decide +kernel
theorem dX9_lurk_35 : decode cX9_lurk 35 = .ok (.ldc 180, 2) := by decide +kernel
theorem dX9_lurk_37 : decode cX9_lurk 37 = .ok (.invokestatic 80, 3) := by decide +kernel
theorem dX9_lurk_40 : decode cX9_lurk 40 = .ok (.ifCond .ne 6, 3) := by decide +kernel
theorem dX9_lurk_43 : decode cX9_lurk 43 = .ok (.bipush (-2), 2) := by decide +kernel
theorem dX9_lurk_45 : decode cX9_lurk 45 = .ok (.ireturn, 1) := by decide +kernel
theorem dX9_lurk_46 : decode cX9_lurk 46 = .ok (.aload_n 0, 1) := by decide +kernel
theorem dX9_lurk_47 : decode cX9_lurk 47 = .ok (.getfield 39, 3) := by decide +kernel
theorem dX9_lurk_50 : decode cX9_lurk 50 = .ok (.iload_n 1, 1) := by decide +kernel
theorem dX9_lurk_51 : decode cX9_lurk 51 = .ok (.putfield 181, 3) := by decide +kernel
theorem dX9_lurk_54 : decode cX9_lurk 54 = .ok (.aload_n 0, 1) := by decide +kernel
theorem dX9_lurk_55 : decode cX9_lurk 55 = .ok (.getfield 39, 3) := by decide +kernel
theorem dX9_lurk_58 : decode cX9_lurk 58 = .ok (.iload_n 2, 1) := by decide +kernel
theorem dX9_lurk_59 : decode cX9_lurk 59 = .ok (.putfield 184, 3) := by decide +kernel
theorem dX9_lurk_62 : decode cX9_lurk 62 = .ok (.aload_n 0, 1) := by decide +kernel
theorem dX9_lurk_63 : decode cX9_lurk 63 = .ok (.getfield 39, 3) := by decide +kernel
theorem dX9_lurk_66 : decode cX9_lurk 66 = .ok (.iload_n 3, 1) := by decide +kernel
theorem dX9_lurk_67 : decode cX9_lurk 67 = .ok (.putfield 187, 3) := by decide +kernel
theorem dX9_lurk_70 : decode cX9_lurk 70 = .ok (.aload_n 0, 1) := by decide +kernel
theorem dX9_lurk_71 : decode cX9_lurk 71 = .ok (.getfield 39, 3) := by decide +kernel
theorem dX9_lurk_74 : decode cX9_lurk 74 = .ok (.iload 4, 2) := by decide +kernel
theorem dX9_lurk_76 : decode cX9_lurk 76 = .ok (.putfield 190, 3) := by decide +kernel
theorem dX9_lurk_79 : decode cX9_lurk 79 = .ok (.iconst 1, 1) := by decide +kernel
theorem dX9_lurk_80 : decode cX9_lurk 80 = .ok (.ireturn, 1) := by decide +kernel
theorem dX9_comes_0 : decode cX9_comes 0 = .ok (.iload_n 1, 1) := by decide +kernel
theorem dX9_comes_1 : decode cX9_comes 1 = .ok (.i2l, 1) := by decide +kernel
theorem dX9_comes_2 : decode cX9_comes 2 = .ok (.invokestatic 76, 3) := by decide +kernel
theorem dX9_comes_5 : decode cX9_comes 5 = .ok (.ifCond .ne 5, 3) := by decide +kernel
theorem dX9_comes_8 : decode cX9_comes 8 = .ok (.iconst (-1), 1) := by decide +kernel
theorem dX9_comes_9 : decode cX9_comes 9 = .ok (.ireturn, 1) := by decide +kernel
theorem dX9_comes_10 : decode cX9_comes 10 = .ok (.iconst 0, 1) := by decide +kernel
theorem dX9_comes_11 : decode cX9_comes 11 = .ok (.istore_n 2, 1) := by decide +kernel
theorem dX9_comes_12 : decode cX9_comes 12 = .ok (.iload_n 2, 1) := by decide +kernel
theorem dX9_comes_13 : decode cX9_comes 13 = .ok (.sipush 600, 3) := by decide +kernel
theorem dX9_comes_16 : decode cX9_comes 16 = .ok (.if_icmp .gt 69, 3) := by decide +kernel
theorem dX9_comes_19 : decode cX9_comes 19 = .ok (.aload_n 0, 1) := by decide +kernel
theorem dX9_comes_20 : decode cX9_comes 20 = .ok (.getfield 33, 3) := by decide +kernel
theorem dX9_comes_23 : decode cX9_comes 23 = .ok (.i2l, 1) := by decide +kernel
theorem dX9_comes_24 : decode cX9_comes 24 = .ok (.aload_n 0, 1) := by decide +kernel
theorem dX9_comes_25 : decode cX9_comes 25 = .ok (.getfield 11, 3) := by decide +kernel
theorem dX9_comes_28 : decode cX9_comes 28 = .ok (.iload_n 1, 1) := by decide +kernel
theorem dX9_comes_29 : decode cX9_comes 29 = .ok (.aaload, 1) := by decide +kernel
theorem dX9_comes_30 : decode cX9_comes 30 = .ok (.iload_n 2, 1) := by decide +kernel
theorem dX9_comes_31 : decode cX9_comes 31 = .ok (.iconst 0, 1) := by decide +kernel
theorem dX9_comes_32 : decode cX9_comes 32 = .ok (.invokevirtual 109, 3) := by decide +kernel
theorem dX9_comes_35 : decode cX9_comes 35 = .ok (.lmul, 1) := by decide +kernel
theorem dX9_comes_36 : decode cX9_comes 36 = .ok (.lstore_n 3, 1) := by decide +kernel
theorem dX9_comes_37 : decode cX9_comes 37 = .ok (.aload_n 0, 1) := by decide +kernel
theorem dX9_comes_38 : decode cX9_comes 38 = .ok (.getfield 33, 3) := by decide +kernel
theorem dX9_comes_41 : decode cX9_comes 41 = .ok (.i2l, 1) := by decide +kernel
theorem dX9_comes_42 : decode cX9_comes 42 = .ok (.aload_n 0, 1) := by decide +kernel
theorem dX9_comes_43 : decode cX9_comes 43 = .ok (.getfield 11, 3) := by decide +kernel
theorem dX9_comes_46 : decode cX9_comes 46 = .ok (.iload_n 1, 1) := by decide +kernel
theorem dX9_comes_47 : decode cX9_comes 47 = .ok (.aaload, 1) := by decide +kernel
theorem dX9_comes_48 : decode cX9_comes 48 = .ok (.iload_n 2, 1) := by decide +kernel
theorem dX9_comes_49 : decode cX9_comes 49 = .ok (.iconst 1, 1) := by decide +kernel
theorem dX9_comes_50 : decode cX9_comes 50 = .ok (.invokevirtual 109, 3) := by decide +kernel
theorem dX9_comes_53 : decode cX9_comes 53 = .ok (.lmul, 1) := by decide +kernel
theorem dX9_comes_54 : decode cX9_comes 54 = .ok (.lstore 5, 2) := by decide +kernel
theorem dX9_comes_56 : decode cX9_comes 56 = .ok (.aload_n 0, 1) := by decide +kernel
theorem dX9_comes_57 : decode cX9_comes 57 = .ok (.getfield 39, 3) := by decide +kernel
theorem dX9_comes_60 : decode cX9_comes 60 = .ok (.lload_n 3, 1) := by decide +kernel
theorem dX9_comes_61 : decode cX9_comes 61 = .ok (.lload 5, 2) := by decide +kernel
theorem dX9_comes_63 : decode cX9_comes 63 = .ok (.iload_n 2, 1) := by decide +kernel
theorem dX9_comes_64 : decode cX9_comes 64 = .ok (.aload_n 0, 1) := by decide +kernel
theorem dX9_comes_65 : decode cX9_comes 65 = .ok (.getfield 39, 3) := by decide +kernel
theorem dX9_comes_68 : decode cX9_comes 68 = .ok (.getfield 190, 3) := by decide +kernel
theorem dX9_comes_71 : decode cX9_comes 71 = .ok (.invokevirtual 193, 3) := by decide +kernel
theorem dX9_comes_74 : decode cX9_comes 74 = .ok (.ifCond .eq 5, 3) := by decide +kernel
theorem dX9_comes_77 : decode cX9_comes 77 = .ok (.iload_n 2, 1) := by decide +kernel
theorem dX9_comes_78 : decode cX9_comes 78 = .ok (.ireturn, 1) := by decide +kernel
theorem dX9_comes_79 : decode cX9_comes 79 = .ok (.iinc 2 1, 3) := by decide +kernel
theorem dX9_comes_82 : decode cX9_comes 82 = .ok (.goto (-70), 3) := by decide +kernel
theorem dX9_comes_85 : decode cX9_comes 85 = .ok (.bipush (-6), 2) := by decide +kernel
theorem dX9_comes_87 : decode cX9_comes 87 = .ok (.ireturn, 1) := by decide +kernel
theorem dX9_gets_0 : decode cX9_gets 0 = .ok (.iload_n 1, 1) := by decide +kernel
theorem dX9_gets_1 : decode cX9_gets 1 = .ok (.i2l, 1) := by decide +kernel
theorem dX9_gets_2 : decode cX9_gets 2 = .ok (.invokestatic 76, 3) := by decide +kernel
theorem dX9_gets_5 : decode cX9_gets 5 = .ok (.ifCond .ne 5, 3) := by decide +kernel
theorem dX9_gets_8 : decode cX9_gets 8 = .ok (.iconst (-1), 1) := by decide +kernel
theorem dX9_gets_9 : decode cX9_gets 9 = .ok (.ireturn, 1) := by decide +kernel
theorem dX9_gets_10 : decode cX9_gets 10 = .ok (.iload_n 2, 1) := by decide +kernel
theorem dX9_gets_11 : decode cX9_gets 11 = .ok (.iconst 0, 1) := by decide +kernel
theorem dX9_gets_12 : decode cX9_gets 12 = .ok (.sipush 600, 3) := by decide +kernel
theorem dX9_gets_15 : decode cX9_gets 15 = .ok (.invokestatic 80, 3) := by decide +kernel
theorem dX9_gets_18 : decode cX9_gets 18 = .ok (.ifCond .ne 6, 3) := by decide +kernel
theorem dX9_gets_21 : decode cX9_gets 21 = .ok (.bipush (-2), 2) := by decide +kernel
theorem dX9_gets_23 : decode cX9_gets 23 = .ok (.ireturn, 1) := by decide +kernel
theorem dX9_gets_24 : decode cX9_gets 24 = .ok (.aload_n 0, 1) := by decide +kernel
theorem dX9_gets_25 : decode cX9_gets 25 = .ok (.getfield 39, 3) := by decide +kernel
theorem dX9_gets_28 : decode cX9_gets 28 = .ok (.aload_n 0, 1) := by decide +kernel
theorem dX9_gets_29 : decode cX9_gets 29 = .ok (.getfield 11, 3) := by decide +kernel
theorem dX9_gets_32 : decode cX9_gets 32 = .ok (.aload_n 0, 1) := by decide +kernel
theorem dX9_gets_33 : decode cX9_gets 33 = .ok (.getfield 33, 3) := by decide +kernel
theorem dX9_gets_36 : decode cX9_gets 36 = .ok (.iload_n 2, 1) := by decide +kernel
theorem dX9_gets_37 : decode cX9_gets 37 = .ok (.invokevirtual 197, 3) := by decide +kernel
theorem dX9_gets_40 : decode cX9_gets 40 = .ok (.aload_n 0, 1) := by decide +kernel
theorem dX9_gets_41 : decode cX9_gets 41 = .ok (.getfield 39, 3) := by decide +kernel
theorem dX9_gets_44 : decode cX9_gets 44 = .ok (.getfield 201, 3) := by decide +kernel
theorem dX9_gets_47 : decode cX9_gets 47 = .ok (.iload_n 1, 1) := by decide +kernel
theorem dX9_gets_48 : decode cX9_gets 48 = .ok (.iaload, 1) := by decide +kernel
theorem dX9_gets_49 : decode cX9_gets 49 = .ok (.ireturn, 1) := by decide +kernel
theorem dX9_worst_0 : decode cX9_worst 0 = .ok (.iload_n 1, 1) := by decide +kernel
theorem dX9_worst_1 : decode cX9_worst 1 = .ok (.iconst 0, 1) := by decide +kernel
theorem dX9_worst_2 : decode cX9_worst 2 = .ok (.sipush 600, 3) := by decide +kernel
theorem dX9_worst_5 : decode cX9_worst 5 = .ok (.invokestatic 80, 3) := by decide +kernel
theorem dX9_worst_8 : decode cX9_worst 8 = .ok (.ifCond .eq 43, 3) := by decide +kernel
theorem dX9_worst_11 : decode cX9_worst 11 = .ok (.iload_n 2, 1) := by decide +kernel
theorem dX9_worst_12 : decode cX9_worst 12 = .ok (.invokestatic 204, 3) := by decide +kernel
theorem dX9_worst_15 : decode cX9_worst 15 = .ok (.ifCond .eq 36, 3) := by decide +kernel
theorem dX9_worst_18 : decode cX9_worst 18 = .ok (.iload_n 3, 1) := by decide +kernel
theorem dX9_worst_19 : decode cX9_worst 19 = .ok (.invokestatic 204, 3) := by decide +kernel
theorem dX9_worst_22 : decode cX9_worst 22 = .ok (.ifCond .eq 29, 3) := by decide +kernel
theorem dX9_worst_25 : decode cX9_worst 25 = .ok (.iload 4, 2) := by decide +kernel
theorem dX9_worst_27 : decode cX9_worst 27 = .ok (.invokestatic 204, 3) := by decide +kernel
theorem dX9_worst_30 : decode cX9_worst 30 = .ok (.ifCond .eq 21, 3) := by decide +kernel
theorem dX9_worst_33 : decode cX9_worst 33 = .ok (.iload 5, 2) := by decide +kernel
theorem dX9_worst_35 : decode cX9_worst 35 = .ok (.invokestatic 204, 3) := by decide +kernel
theorem dX9_worst_38 : decode cX9_worst 38 = .ok (.ifCond .eq 13, 3) := by decide +kernel
theorem dX9_worst_41 : decode cX9_worst 41 = .ok (.iload 6, 2) := by decide +kernel
theorem dX9_worst_43 : decode cX9_worst 43 = .ok (.iconst 0, 1) := by decide +kernel
theorem dX9_worst_44 : decode cX9_worst 44 = .ok (.iconst 1, 1) := by decide +kernel
theorem dX9_worst_45 : decode cX9_worst 45 = .ok (.invokestatic 80, 3) := by decide +kernel
theorem dX9_worst_48 : decode cX9_worst 48 = .ok (.ifCond .ne 6, 3) := by decide +kernel
theorem dX9_worst_51 : decode cX9_worst 51 = .ok (.bipush (-2), 2) := by decide +kernel
theorem dX9_worst_53 : decode cX9_worst 53 = .ok (.ireturn, 1) := by decide +kernel
theorem dX9_worst_54 : decode cX9_worst 54 = .ok (.aload_n 0, 1) := by decide +kernel
theorem dX9_worst_55 : decode cX9_worst 55 = .ok (.getfield 39, 3) := by decide +kernel
theorem dX9_worst_58 : decode cX9_worst 58 = .ok (.aload_n 0, 1) := by decide +kernel
theorem dX9_worst_59 : decode cX9_worst 59 = .ok (.getfield 11, 3) := by decide +kernel
theorem dX9_worst_62 : decode cX9_worst 62 = .ok (.aload_n 0, 1) := by decide +kernel
theorem dX9_worst_63 : decode cX9_worst 63 = .ok (.getfield 33, 3) := by decide +kernel
theorem dX9_worst_66 : decode cX9_worst 66 = .ok (.iload_n 1, 1) := by decide +kernel
theorem dX9_worst_67 : decode cX9_worst 67 = .ok (.invokevirtual 197, 3) := by decide +kernel
theorem dX9_worst_70 : decode cX9_worst 70 = .ok (.aload_n 0, 1) := by decide +kernel
theorem dX9_worst_71 : decode cX9_worst 71 = .ok (.getfield 39, 3) := by decide +kernel
theorem dX9_worst_74 : decode cX9_worst 74 = .ok (.iload_n 2, 1) := by decide +kernel
theorem dX9_worst_75 : decode cX9_worst 75 = .ok (.iload_n 3, 1) := by decide +kernel
theorem dX9_worst_76 : decode cX9_worst 76 = .ok (.iload 4, 2) := by decide +kernel
theorem dX9_worst_78 : decode cX9_worst 78 = .ok (.iload 5, 2) := by decide +kernel
theorem dX9_worst_80 : decode cX9_worst 80 = .ok (.invokevirtual 207, 3) := by decide +kernel
theorem dX9_worst_83 : decode cX9_worst 83 = .ok (.iload 6, 2) := by decide +kernel
theorem dX9_worst_85 : decode cX9_worst 85 = .ok (.ifCond .ne 13, 3) := by decide +kernel
theorem dX9_worst_88 : decode cX9_worst 88 = .ok (.aload_n 0, 1) := by decide +kernel
theorem dX9_worst_89 : decode cX9_worst 89 = .ok (.getfield 39, 3) := by decide +kernel
theorem dX9_worst_92 : decode cX9_worst 92 = .ok (.getfield 210, 3) := by decide +kernel
theorem dX9_worst_95 : decode cX9_worst 95 = .ok (.goto 10, 3) := by decide +kernel
theorem dX9_worst_98 : decode cX9_worst 98 = .ok (.aload_n 0, 1) := by decide +kernel
theorem dX9_worst_99 : decode cX9_worst 99 = .ok (.getfield 39, 3) := by decide +kernel
theorem dX9_worst_102 : decode cX9_worst 102 = .ok (.getfield 213, 3) := by decide +kernel
theorem dX9_worst_105 : decode cX9_worst 105 = .ok (.ireturn, 1) := by decide +kernel
theorem dX9_mix_0 : decode cX9_mix 0 = .ok (.iload_n 1, 1) := by decide +kernel
theorem dX9_mix_1 : decode cX9_mix 1 = .ok (.iconst 0, 1) := by decide +kernel
theorem dX9_mix_2 : decode cX9_mix 2 = .ok (.sipush 600, 3) := by decide +kernel
theorem dX9_mix_5 : decode cX9_mix 5 = .ok (.invokestatic 80, 3) := by decide +kernel
theorem dX9_mix_8 : decode cX9_mix 8 = .ok (.ifCond .eq 22, 3) := by decide +kernel
theorem dX9_mix_11 : decode cX9_mix 11 = .ok (.iload_n 2, 1) := by decide +kernel
theorem dX9_mix_12 : decode cX9_mix 12 = .ok (.iconst 1, 1) := by decide +kernel
theorem dX9_mix_13 : decode cX9_mix 13 = .ok (.bipush 12, 2) := by decide +kernel
theorem dX9_mix_15 : decode cX9_mix 15 = .ok (.invokestatic 80, 3) := by decide +kernel
theorem dX9_mix_18 : decode cX9_mix 18 = .ok (.ifCond .eq 12, 3) := by decide +kernel
theorem dX9_mix_21 : decode cX9_mix 21 = .ok (.iload_n 3, 1) := by decide +kernel
theorem dX9_mix_22 : decode cX9_mix 22 = .ok (.iconst 0, 1) := by decide +kernel
theorem dX9_mix_23 : decode cX9_mix 23 = .ok (.iconst 4, 1) := by decide +kernel
theorem dX9_mix_24 : decode cX9_mix 24 = .ok (.invokestatic 80, 3) := by decide +kernel
theorem dX9_mix_27 : decode cX9_mix 27 = .ok (.ifCond .ne 6, 3) := by decide +kernel
theorem dX9_mix_30 : decode cX9_mix 30 = .ok (.bipush (-2), 2) := by decide +kernel
theorem dX9_mix_32 : decode cX9_mix 32 = .ok (.ireturn, 1) := by decide +kernel
theorem dX9_mix_33 : decode cX9_mix 33 = .ok (.aload_n 0, 1) := by decide +kernel
theorem dX9_mix_34 : decode cX9_mix 34 = .ok (.getfield 39, 3) := by decide +kernel
theorem dX9_mix_37 : decode cX9_mix 37 = .ok (.aload_n 0, 1) := by decide +kernel
theorem dX9_mix_38 : decode cX9_mix 38 = .ok (.getfield 11, 3) := by decide +kernel
theorem dX9_mix_41 : decode cX9_mix 41 = .ok (.aload_n 0, 1) := by decide +kernel
theorem dX9_mix_42 : decode cX9_mix 42 = .ok (.getfield 33, 3) := by decide +kernel
theorem dX9_mix_45 : decode cX9_mix 45 = .ok (.iload_n 1, 1) := by decide +kernel
theorem dX9_mix_46 : decode cX9_mix 46 = .ok (.invokevirtual 197, 3) := by decide +kernel
theorem dX9_mix_49 : decode cX9_mix 49 = .ok (.aload_n 0, 1) := by decide +kernel
theorem dX9_mix_50 : decode cX9_mix 50 = .ok (.getfield 39, 3) := by decide +kernel
theorem dX9_mix_53 : decode cX9_mix 53 = .ok (.iload_n 2, 1) := by decide +kernel
theorem dX9_mix_54 : decode cX9_mix 54 = .ok (.invokevirtual 216, 3) := by decide +kernel
theorem dX9_mix_57 : decode cX9_mix 57 = .ok (.iload_n 3, 1) := by decide +kernel
theorem dX9_mix_58 : decode cX9_mix 58 = .ok (.iconst 4, 1) := by decide +kernel
theorem dX9_mix_59 : decode cX9_mix 59 = .ok (.if_icmp .ne 13, 3) := by decide +kernel
theorem dX9_mix_62 : decode cX9_mix 62 = .ok (.aload_n 0, 1) := by decide +kernel
theorem dX9_mix_63 : decode cX9_mix 63 = .ok (.getfield 39, 3) := by decide +kernel
theorem dX9_mix_66 : decode cX9_mix 66 = .ok (.getfield 220, 3) := by decide +kernel
theorem dX9_mix_69 : decode cX9_mix 69 = .ok (.goto 12, 3) := by decide +kernel
theorem dX9_mix_72 : decode cX9_mix 72 = .ok (.aload_n 0, 1) := by decide +kernel
theorem dX9_mix_73 : decode cX9_mix 73 = .ok (.getfield 39, 3) := by decide +kernel
theorem dX9_mix_76 : decode cX9_mix 76 = .ok (.getfield 223, 3) := by decide +kernel
theorem dX9_mix_79 : decode cX9_mix 79 = .ok (.iload_n 3, 1) := by decide +kernel
theorem dX9_mix_80 : decode cX9_mix 80 = .ok (.iaload, 1) := by decide +kernel
theorem dX9_mix_81 : decode cX9_mix 81 = .ok (.ireturn, 1) := by decide +kernel
theorem dX9_post_0 : decode cX9_post 0 = .ok (.iload_n 1, 1) := by decide +kernel
theorem dX9_post_1 : decode cX9_post 1 = .ok (.bipush (-50), 2) := by decide +kernel
theorem dX9_post_3 : decode cX9_post 3 = .ok (.bipush 50, 2) := by decide +kernel
theorem dX9_post_5 : decode cX9_post 5 = .ok (.invokestatic 80, 3) := by decide +kernel
theorem dX9_post_8 : decode cX9_post 8 = .ok (.ifCond .eq 24, 3) := by decide +kernel
theorem dX9_post_11 : decode cX9_post 11 = .ok (.iload_n 2, 1) := by decide +kernel
theorem dX9_post_12 : decode cX9_post 12 = .ok (.bipush (-50), 2) := by decide +kernel
theorem dX9_post_14 : decode cX9_post 14 = .ok (.bipush 50, 2) := by decide +kernel
theorem dX9_post_16 : decode cX9_post 16 = .ok (.invokestatic 80, 3) := by decide +kernel
theorem dX9_post_19 : decode cX9_post 19 = .ok (.ifCond .eq 13, 3) := by decide +kernel
theorem dX9_post_22 : decode cX9_post 22 = .ok (.iload_n 3, 1) := by decide +kernel
theorem dX9_post_23 : decode cX9_post 23 = .ok (.iconst 1, 1) := by decide +kernel
theorem dX9_post_24 : decode cX9_post 24 = .ok (.bipush 40, 2) := by decide +kernel
theorem dX9_post_26 : decode cX9_post 26 = .ok (.invokestatic 80, 3) := by decide +kernel
theorem dX9_post_29 : decode cX9_post 29 = .ok (.ifCond .ne 6, 3) := by decide +kernel
theorem dX9_post_32 : decode cX9_post 32 = .ok (.bipush (-2), 2) := by decide +kernel
theorem dX9_post_34 : decode cX9_post 34 = .ok (.ireturn, 1) := by decide +kernel
theorem dX9_post_35 : decode cX9_post 35 = .ok (.aload_n 0, 1) := by decide +kernel
theorem dX9_post_36 : decode cX9_post 36 = .ok (.getfield 46, 3) := by decide +kernel
theorem dX9_post_39 : decode cX9_post 39 = .ok (.getfield 226, 3) := by decide +kernel
theorem dX9_post_42 : decode cX9_post 42 = .ok (.bipush 10, 2) := by decide +kernel
theorem dX9_post_44 : decode cX9_post 44 = .ok (.if_icmp .lt 6, 3) := by decide +kernel
theorem dX9_post_47 : decode cX9_post 47 = .ok (.bipush (-4), 2) := by decide +kernel
theorem dX9_post_49 : decode cX9_post 49 = .ok (.ireturn, 1) := by decide +kernel
theorem dX9_post_50 : decode cX9_post 50 = .ok (.aload_n 0, 1) := by decide +kernel
theorem dX9_post_51 : decode cX9_post 51 = .ok (.getfield 46, 3) := by decide +kernel
theorem dX9_post_54 : decode cX9_post 54 = .ok (.iload_n 1, 1) := by decide +kernel
theorem dX9_post_55 : decode cX9_post 55 = .ok (.iload_n 2, 1) := by decide +kernel
theorem dX9_post_56 : decode cX9_post 56 = .ok (.iload_n 3, 1) := by decide +kernel
theorem dX9_post_57 : decode cX9_post 57 = .ok (.invokevirtual 227, 3) := by decide +kernel
theorem dX9_post_60 : decode cX9_post 60 = .ok (.aload_n 0, 1) := by decide +kernel
theorem dX9_post_61 : decode cX9_post 61 = .ok (.getfield 46, 3) := by decide +kernel
theorem dX9_post_64 : decode cX9_post 64 = .ok (.getfield 226, 3) := by decide +kernel
theorem dX9_post_67 : decode cX9_post 67 = .ok (.iconst 1, 1) := by decide +kernel
theorem dX9_post_68 : decode cX9_post 68 = .ok (.isub, 1) := by decide +kernel
theorem dX9_post_69 : decode cX9_post 69 = .ok (.ireturn, 1) := by decide +kernel
theorem dX9_seen_0 : decode cX9_seen 0 = .ok (.iload_n 1, 1) := by decide +kernel
theorem dX9_seen_1 : decode cX9_seen 1 = .ok (.iconst 0, 1) := by decide +kernel
theorem dX9_seen_2 : decode cX9_seen 2 = .ok (.iconst 1, 1) := by decide +kernel
theorem dX9_seen_3 : decode cX9_seen 3 = .ok (.aload_n 0, 1) := by decide +kernel
theorem dX9_seen_4 : decode cX9_seen 4 = .ok (.getfield 46, 3) := by decide +kernel
theorem dX9_seen_7 : decode cX9_seen 7 = .ok (.getfield 226, 3) := by decide +kernel
theorem dX9_seen_10 : decode cX9_seen 10 = .ok (.ishl, 1) := by decide +kernel
theorem dX9_seen_11 : decode cX9_seen 11 = .ok (.iconst 1, 1) := by decide +kernel
theorem dX9_seen_12 : decode cX9_seen 12 = .ok (.isub, 1) := by decide +kernel
theorem dX9_seen_13 : decode cX9_seen 13 = .ok (.invokestatic 80, 3) := by decide +kernel
theorem dX9_seen_16 : decode cX9_seen 16 = .ok (.ifCond .eq 13, 3) := by decide +kernel
theorem dX9_seen_19 : decode cX9_seen 19 = .ok (.iload_n 2, 1) := by decide +kernel
theorem dX9_seen_20 : decode cX9_seen 20 = .ok (.iconst 1, 1) := by decide +kernel
theorem dX9_seen_21 : decode cX9_seen 21 = .ok (.bipush 50, 2) := by decide +kernel
theorem dX9_seen_23 : decode cX9_seen 23 = .ok (.invokestatic 80, 3) := by decide +kernel
theorem dX9_seen_26 : decode cX9_seen 26 = .ok (.ifCond .ne 6, 3) := by decide +kernel
theorem dX9_seen_29 : decode cX9_seen 29 = .ok (.bipush (-2), 2) := by decide +kernel
theorem dX9_seen_31 : decode cX9_seen 31 = .ok (.ireturn, 1) := by decide +kernel
theorem dX9_seen_32 : decode cX9_seen 32 = .ok (.aload_n 0, 1) := by decide +kernel
theorem dX9_seen_33 : decode cX9_seen 33 = .ok (.getfield 46, 3) := by decide +kernel
theorem dX9_seen_36 : decode cX9_seen 36 = .ok (.iload_n 2, 1) := by decide +kernel
theorem dX9_seen_37 : decode cX9_seen 37 = .ok (.invokevirtual 231, 3) := by decide +kernel
theorem dX9_seen_40 : decode cX9_seen 40 = .ok (.aload_n 0, 1) := by decide +kernel
theorem dX9_seen_41 : decode cX9_seen 41 = .ok (.getfield 46, 3) := by decide +kernel
theorem dX9_seen_44 : decode cX9_seen 44 = .ok (.iload_n 1, 1) := by decide +kernel
theorem dX9_seen_45 : decode cX9_seen 45 = .ok (.invokevirtual 234, 3) := by decide +kernel
theorem dX9_seen_48 : decode cX9_seen 48 = .ok (.ireturn, 1) := by decide +kernel
theorem dX9_best_0 : decode cX9_best 0 = .ok (.iload_n 1, 1) := by decide +kernel
theorem dX9_best_1 : decode cX9_best 1 = .ok (.iconst 0, 1) := by decide +kernel
theorem dX9_best_2 : decode cX9_best 2 = .ok (.aload_n 0, 1) := by decide +kernel
theorem dX9_best_3 : decode cX9_best 3 = .ok (.getfield 46, 3) := by decide +kernel
theorem dX9_best_6 : decode cX9_best 6 = .ok (.getfield 226, 3) := by decide +kernel
theorem dX9_best_9 : decode cX9_best 9 = .ok (.invokestatic 80, 3) := by decide +kernel
theorem dX9_best_12 : decode cX9_best 12 = .ok (.ifCond .eq 13, 3) := by decide +kernel
theorem dX9_best_15 : decode cX9_best 15 = .ok (.iload_n 2, 1) := by decide +kernel
theorem dX9_best_16 : decode cX9_best 16 = .ok (.iconst 1, 1) := by decide +kernel
theorem dX9_best_17 : decode cX9_best 17 = .ok (.bipush 50, 2) := by decide +kernel
theorem dX9_best_19 : decode cX9_best 19 = .ok (.invokestatic 80, 3) := by decide +kernel
theorem dX9_best_22 : decode cX9_best 22 = .ok (.ifCond .ne 6, 3) := by decide +kernel
theorem dX9_best_25 : decode cX9_best 25 = .ok (.bipush (-2), 2) := by decide +kernel
theorem dX9_best_27 : decode cX9_best 27 = .ok (.ireturn, 1) := by decide +kernel
theorem dX9_best_28 : decode cX9_best 28 = .ok (.aload_n 0, 1) := by decide +kernel
theorem dX9_best_29 : decode cX9_best 29 = .ok (.getfield 46, 3) := by decide +kernel
theorem dX9_best_32 : decode cX9_best 32 = .ok (.iload_n 2, 1) := by decide +kernel
theorem dX9_best_33 : decode cX9_best 33 = .ok (.invokevirtual 231, 3) := by decide +kernel
theorem dX9_best_36 : decode cX9_best 36 = .ok (.aload_n 0, 1) := by decide +kernel
theorem dX9_best_37 : decode cX9_best 37 = .ok (.getfield 46, 3) := by decide +kernel
theorem dX9_best_40 : decode cX9_best 40 = .ok (.iload_n 1, 1) := by decide +kernel
theorem dX9_best_41 : decode cX9_best 41 = .ok (.invokevirtual 238, 3) := by decide +kernel
theorem dX9_best_44 : decode cX9_best 44 = .ok (.ireturn, 1) := by decide +kernel
theorem dX9_danger_0 : decode cX9_danger 0 = .ok (.iload_n 1, 1) := by decide +kernel
theorem dX9_danger_1 : decode cX9_danger 1 = .ok (.iconst 0, 1) := by decide +kernel
theorem dX9_danger_2 : decode cX9_danger 2 = .ok (.bipush 11, 2) := by decide +kernel
theorem dX9_danger_4 : decode cX9_danger 4 = .ok (.invokestatic 80, 3) := by decide +kernel
theorem dX9_danger_7 : decode cX9_danger 7 = .ok (.ifCond .eq 13, 3) := by decide +kernel
theorem dX9_danger_10 : decode cX9_danger 10 = .ok (.iload_n 2, 1) := by decide +kernel
theorem dX9_danger_11 : decode cX9_danger 11 = .ok (.iconst 0, 1) := by decide +kernel
theorem dX9_danger_12 : decode cX9_danger 12 = .ok (.bipush 11, 2) := by decide +kernel
theorem dX9_danger_14 : decode cX9_danger 14 = .ok (.invokestatic 80, 3) := by decide +kernel
theorem dX9_danger_17 : decode cX9_danger 17 = .ok (.ifCond .ne 6, 3) := by decide +kernel
theorem dX9_danger_20 : decode cX9_danger 20 = .ok (.bipush (-101), 2) := by decide +kernel
theorem dX9_danger_22 : decode cX9_danger 22 = .ok (.ireturn, 1) := by decide +kernel
theorem dX9_danger_23 : decode cX9_danger 23 = .ok (.iload_n 3, 1) := by decide +kernel
theorem dX9_danger_24 : decode cX9_danger 24 = .ok (.iconst (-1), 1) := by decide +kernel
theorem dX9_danger_25 : decode cX9_danger 25 = .ok (.bipush 99, 2) := by decide +kernel
theorem dX9_danger_27 : decode cX9_danger 27 = .ok (.invokestatic 80, 3) := by decide +kernel
theorem dX9_danger_30 : decode cX9_danger 30 = .ok (.ifCond .ne 6, 3) := by decide +kernel
theorem dX9_danger_33 : decode cX9_danger 33 = .ok (.bipush (-102), 2) := by decide +kernel
theorem dX9_danger_35 : decode cX9_danger 35 = .ok (.ireturn, 1) := by decide +kernel
theorem dX9_danger_36 : decode cX9_danger 36 = .ok (.aload_n 0, 1) := by decide +kernel
theorem dX9_danger_37 : decode cX9_danger 37 = .ok (.getfield 50, 3) := by decide +kernel
theorem dX9_danger_40 : decode cX9_danger 40 = .ok (.bipush 12, 2) := by decide +kernel
theorem dX9_danger_42 : decode cX9_danger 42 = .ok (.iload_n 2, 1) := by decide +kernel
theorem dX9_danger_43 : decode cX9_danger 43 = .ok (.imul, 1) := by decide +kernel
theorem dX9_danger_44 : decode cX9_danger 44 = .ok (.iload_n 1, 1) := by decide +kernel
theorem dX9_danger_45 : decode cX9_danger 45 = .ok (.iadd, 1) := by decide +kernel
theorem dX9_danger_46 : decode cX9_danger 46 = .ok (.iaload, 1) := by decide +kernel
theorem dX9_danger_47 : decode cX9_danger 47 = .ok (.istore 4, 2) := by decide +kernel
theorem dX9_danger_49 : decode cX9_danger 49 = .ok (.aload_n 0, 1) := by decide +kernel
theorem dX9_danger_50 : decode cX9_danger 50 = .ok (.getfield 50, 3) := by decide +kernel
theorem dX9_danger_53 : decode cX9_danger 53 = .ok (.bipush 12, 2) := by decide +kernel
theorem dX9_danger_55 : decode cX9_danger 55 = .ok (.iload_n 2, 1) := by decide +kernel
theorem dX9_danger_56 : decode cX9_danger 56 = .ok (.imul, 1) := by decide +kernel
theorem dX9_danger_57 : decode cX9_danger 57 = .ok (.iload_n 1, 1) := by decide +kernel
theorem dX9_danger_58 : decode cX9_danger 58 = .ok (.iadd, 1) := by decide +kernel
theorem dX9_danger_59 : decode cX9_danger 59 = .ok (.iload_n 3, 1) := by decide +kernel
theorem dX9_danger_60 : decode cX9_danger 60 = .ok (.iastore, 1) := by decide +kernel
theorem dX9_danger_61 : decode cX9_danger 61 = .ok (.iload 4, 2) := by decide +kernel
theorem dX9_danger_63 : decode cX9_danger 63 = .ok (.ireturn, 1) := by decide +kernel
theorem dX9_route_0 : decode cX9_route 0 = .ok (.iload_n 1, 1) := by decide +kernel
theorem dX9_route_1 : decode cX9_route 1 = .ok (.invokestatic 241, 3) := by decide +kernel
theorem dX9_route_4 : decode cX9_route 4 = .ok (.ifCond .eq 10, 3) := by decide +kernel
theorem dX9_route_7 : decode cX9_route 7 = .ok (.iload_n 2, 1) := by decide +kernel
theorem dX9_route_8 : decode cX9_route 8 = .ok (.invokestatic 241, 3) := by decide +kernel
theorem dX9_route_11 : decode cX9_route 11 = .ok (.ifCond .ne 5, 3) := by decide +kernel
theorem dX9_route_14 : decode cX9_route 14 = .ok (.iconst (-1), 1) := by decide +kernel
theorem dX9_route_15 : decode cX9_route 15 = .ok (.ireturn, 1) := by decide +kernel
theorem dX9_route_16 : decode cX9_route 16 = .ok (.iload_n 3, 1) := by decide +kernel
theorem dX9_route_17 : decode cX9_route 17 = .ok (.iload 4, 2) := by decide +kernel
theorem dX9_route_19 : decode cX9_route 19 = .ok (.invokestatic 244, 3) := by decide +kernel
theorem dX9_route_22 : decode cX9_route 22 = .ok (.ifCond .ne 6, 3) := by decide +kernel
theorem dX9_route_25 : decode cX9_route 25 = .ok (.bipush (-2), 2) := by decide +kernel
theorem dX9_route_27 : decode cX9_route 27 = .ok (.ireturn, 1) := by decide +kernel
theorem dX9_route_28 : decode cX9_route 28 = .ok (.aload_n 0, 1) := by decide +kernel
theorem dX9_route_29 : decode cX9_route 29 = .ok (.invokevirtual 248, 3) := by decide +kernel
theorem dX9_route_32 : decode cX9_route 32 = .ok (.astore 5, 2) := by decide +kernel
theorem dX9_route_34 : decode cX9_route 34 = .ok (.aload 5, 2) := by decide +kernel
theorem dX9_route_36 : decode cX9_route 36 = .ok (.iload_n 1, 1) := by decide +kernel
theorem dX9_route_37 : decode cX9_route 37 = .ok (.iload_n 2, 1) := by decide +kernel
theorem dX9_route_38 : decode cX9_route 38 = .ok (.iload_n 3, 1) := by decide +kernel
theorem dX9_route_39 : decode cX9_route 39 = .ok (.iload 4, 2) := by decide +kernel
theorem dX9_route_41 : decode cX9_route 41 = .ok (.invokevirtual 252, 3) := by decide +kernel
theorem dX9_route_44 : decode cX9_route 44 = .ok (.ifCond .ne 6, 3) := by decide +kernel
theorem dX9_route_47 : decode cX9_route 47 = .ok (.bipush (-5), 2) := by decide +kernel
theorem dX9_route_49 : decode cX9_route 49 = .ok (.ireturn, 1) := by decide +kernel
theorem dX9_route_50 : decode cX9_route 50 = .ok (.aload 5, 2) := by decide +kernel
theorem dX9_route_52 : decode cX9_route 52 = .ok (.aload_n 0, 1) := by decide +kernel
theorem dX9_route_53 : decode cX9_route 53 = .ok (.getfield 57, 3) := by decide +kernel
theorem dX9_route_56 : decode cX9_route 56 = .ok (.iconst 0, 1) := by decide +kernel
theorem dX9_route_57 : decode cX9_route 57 = .ok (.iconst 0, 1) := by decide +kernel
theorem dX9_route_58 : decode cX9_route 58 = .ok (.invokevirtual 258, 3) := by decide +kernel
theorem dX9_route_61 : decode cX9_route 61 = .ok (.aload_n 0, 1) := by decide +kernel
theorem dX9_route_62 : decode cX9_route 62 = .ok (.getfield 57, 3) := by decide +kernel
theorem dX9_route_65 : decode cX9_route 65 = .ok (.iload_n 3, 1) := by decide +kernel
theorem dX9_route_66 : decode cX9_route 66 = .ok (.putfield 262, 3) := by decide +kernel
theorem dX9_route_69 : decode cX9_route 69 = .ok (.aload_n 0, 1) := by decide +kernel
theorem dX9_route_70 : decode cX9_route 70 = .ok (.getfield 57, 3) := by decide +kernel
theorem dX9_route_73 : decode cX9_route 73 = .ok (.iload 4, 2) := by decide +kernel
theorem dX9_route_75 : decode cX9_route 75 = .ok (.putfield 265, 3) := by decide +kernel
theorem dX9_route_78 : decode cX9_route 78 = .ok (.aload 5, 2) := by decide +kernel
theorem dX9_route_80 : decode cX9_route 80 = .ok (.invokevirtual 268, 3) := by decide +kernel
theorem dX9_route_83 : decode cX9_route 83 = .ok (.ireturn, 1) := by decide +kernel
theorem dX9_apart_0 : decode cX9_apart 0 = .ok (.iload_n 1, 1) := by decide +kernel
theorem dX9_apart_1 : decode cX9_apart 1 = .ok (.invokestatic 241, 3) := by decide +kernel
theorem dX9_apart_4 : decode cX9_apart 4 = .ok (.ifCond .eq 10, 3) := by decide +kernel
theorem dX9_apart_7 : decode cX9_apart 7 = .ok (.iload_n 2, 1) := by decide +kernel
theorem dX9_apart_8 : decode cX9_apart 8 = .ok (.invokestatic 241, 3) := by decide +kernel
theorem dX9_apart_11 : decode cX9_apart 11 = .ok (.ifCond .ne 5, 3) := by decide +kernel
theorem dX9_apart_14 : decode cX9_apart 14 = .ok (.iconst (-1), 1) := by decide +kernel
theorem dX9_apart_15 : decode cX9_apart 15 = .ok (.ireturn, 1) := by decide +kernel
theorem dX9_apart_16 : decode cX9_apart 16 = .ok (.iload_n 3, 1) := by decide +kernel
theorem dX9_apart_17 : decode cX9_apart 17 = .ok (.iload 4, 2) := by decide +kernel
theorem dX9_apart_19 : decode cX9_apart 19 = .ok (.invokestatic 244, 3) := by decide +kernel
theorem dX9_apart_22 : decode cX9_apart 22 = .ok (.ifCond .eq 13, 3) := by decide +kernel
theorem dX9_apart_25 : decode cX9_apart 25 = .ok (.iload 5, 2) := by decide +kernel
theorem dX9_apart_27 : decode cX9_apart 27 = .ok (.iconst 0, 1) := by decide +kernel
theorem dX9_apart_28 : decode cX9_apart 28 = .ok (.iconst 5, 1) := by decide +kernel
theorem dX9_apart_29 : decode cX9_apart 29 = .ok (.invokestatic 80, 3) := by decide +kernel
theorem dX9_apart_32 : decode cX9_apart 32 = .ok (.ifCond .ne 6, 3) := by decide +kernel
theorem dX9_apart_35 : decode cX9_apart 35 = .ok (.bipush (-2), 2) := by decide +kernel
theorem dX9_apart_37 : decode cX9_apart 37 = .ok (.ireturn, 1) := by decide +kernel
theorem dX9_apart_38 : decode cX9_apart 38 = .ok (.aload_n 0, 1) := by decide +kernel
theorem dX9_apart_39 : decode cX9_apart 39 = .ok (.getfield 57, 3) := by decide +kernel
theorem dX9_apart_42 : decode cX9_apart 42 = .ok (.getfield 272, 3) := by decide +kernel
theorem dX9_apart_45 : decode cX9_apart 45 = .ok (.ifCond .ne 6, 3) := by decide +kernel
theorem dX9_apart_48 : decode cX9_apart 48 = .ok (.bipush (-3), 2) := by decide +kernel
theorem dX9_apart_50 : decode cX9_apart 50 = .ok (.ireturn, 1) := by decide +kernel
theorem dX9_apart_51 : decode cX9_apart 51 = .ok (.aload_n 0, 1) := by decide +kernel
theorem dX9_apart_52 : decode cX9_apart 52 = .ok (.invokevirtual 248, 3) := by decide +kernel
theorem dX9_apart_55 : decode cX9_apart 55 = .ok (.astore 6, 2) := by decide +kernel
theorem dX9_apart_57 : decode cX9_apart 57 = .ok (.aload 6, 2) := by decide +kernel
theorem dX9_apart_59 : decode cX9_apart 59 = .ok (.iload_n 1, 1) := by decide +kernel
theorem dX9_apart_60 : decode cX9_apart 60 = .ok (.iload_n 2, 1) := by decide +kernel
theorem dX9_apart_61 : decode cX9_apart 61 = .ok (.iload_n 3, 1) := by decide +kernel
theorem dX9_apart_62 : decode cX9_apart 62 = .ok (.iload 4, 2) := by decide +kernel
theorem dX9_apart_64 : decode cX9_apart 64 = .ok (.iload 5, 2) := by decide +kernel
theorem dX9_apart_66 : decode cX9_apart 66 = .ok (.invokevirtual 276, 3) := by decide +kernel
theorem dX9_apart_69 : decode cX9_apart 69 = .ok (.ifCond .ne 6, 3) := by decide +kernel
theorem dX9_apart_72 : decode cX9_apart 72 = .ok (.bipush (-5), 2) := by decide +kernel
theorem dX9_apart_74 : decode cX9_apart 74 = .ok (.ireturn, 1) := by decide +kernel
theorem dX9_apart_75 : decode cX9_apart 75 = .ok (.aload 6, 2) := by decide +kernel
theorem dX9_apart_77 : decode cX9_apart 77 = .ok (.aload_n 0, 1) := by decide +kernel
theorem dX9_apart_78 : decode cX9_apart 78 = .ok (.getfield 61, 3) := by decide +kernel
theorem dX9_apart_81 : decode cX9_apart 81 = .ok (.iconst 0, 1) := by decide +kernel
theorem dX9_apart_82 : decode cX9_apart 82 = .ok (.iconst 0, 1) := by decide +kernel
theorem dX9_apart_83 : decode cX9_apart 83 = .ok (.invokevirtual 258, 3) := by decide +kernel
theorem dX9_apart_86 : decode cX9_apart 86 = .ok (.aload 6, 2) := by decide +kernel
theorem dX9_apart_88 : decode cX9_apart 88 = .ok (.invokevirtual 268, 3) := by decide +kernel
theorem dX9_apart_91 : decode cX9_apart 91 = .ok (.ireturn, 1) := by decide +kernel
theorem dX9_cell_0 : decode cX9_cell 0 = .ok (.iload_n 1, 1) := by decide +kernel
theorem dX9_cell_1 : decode cX9_cell 1 = .ok (.iconst 0, 1) := by decide +kernel
theorem dX9_cell_2 : decode cX9_cell 2 = .ok (.iconst 1, 1) := by decide +kernel
theorem dX9_cell_3 : decode cX9_cell 3 = .ok (.invokestatic 80, 3) := by decide +kernel
theorem dX9_cell_6 : decode cX9_cell 6 = .ok (.ifCond .eq 14, 3) := by decide +kernel
theorem dX9_cell_9 : decode cX9_cell 9 = .ok (.iload_n 2, 1) := by decide +kernel
theorem dX9_cell_10 : decode cX9_cell 10 = .ok (.bipush (-2), 2) := by decide +kernel
theorem dX9_cell_12 : decode cX9_cell 12 = .ok (.bipush 40, 2) := by decide +kernel
theorem dX9_cell_14 : decode cX9_cell 14 = .ok (.invokestatic 80, 3) := by decide +kernel
theorem dX9_cell_17 : decode cX9_cell 17 = .ok (.ifCond .ne 6, 3) := by decide +kernel
theorem dX9_cell_20 : decode cX9_cell 20 = .ok (.bipush (-2), 2) := by decide +kernel
theorem dX9_cell_22 : decode cX9_cell 22 = .ok (.ireturn, 1) := by decide +kernel
theorem dX9_cell_23 : decode cX9_cell 23 = .ok (.iload_n 1, 1) := by decide +kernel
theorem dX9_cell_24 : decode cX9_cell 24 = .ok (.ifCond .ne 10, 3) := by decide +kernel
theorem dX9_cell_27 : decode cX9_cell 27 = .ok (.aload_n 0, 1) := by decide +kernel
theorem dX9_cell_28 : decode cX9_cell 28 = .ok (.getfield 57, 3) := by decide +kernel
theorem dX9_cell_31 : decode cX9_cell 31 = .ok (.goto 7, 3) := by decide +kernel
theorem dX9_cell_34 : decode cX9_cell 34 = .ok (.aload_n 0, 1) := by decide +kernel
theorem dX9_cell_35 : decode cX9_cell 35 = .ok (.getfield 61, 3) := by decide +kernel
theorem dX9_cell_38 : decode cX9_cell 38 = .ok (.astore_n 3, 1) := by decide +kernel
theorem dX9_cell_39 : decode cX9_cell 39 = .ok (.aload_n 3, 1) := by decide +kernel
theorem dX9_cell_40 : decode cX9_cell 40 = .ok (.getfield 272, 3) := by decide +kernel
theorem dX9_cell_43 : decode cX9_cell 43 = .ok (.ifCond .ne 6, 3) := by decide +kernel
theorem dX9_cell_46 : decode cX9_cell 46 = .ok (.bipush (-6), 2) := by decide +kernel
theorem dX9_cell_48 : decode cX9_cell 48 = .ok (.ireturn, 1) := by decide +kernel
theorem dX9_cell_49 : decode cX9_cell 49 = .ok (.iload_n 2, 1) := by decide +kernel
theorem dX9_cell_50 : decode cX9_cell 50 = .ok (.iconst (-1), 1) := by decide +kernel
theorem dX9_cell_51 : decode cX9_cell 51 = .ok (.if_icmp .ne 8, 3) := by decide +kernel
theorem dX9_cell_54 : decode cX9_cell 54 = .ok (.aload_n 3, 1) := by decide +kernel
theorem dX9_cell_55 : decode cX9_cell 55 = .ok (.getfield 280, 3) := by decide +kernel
theorem dX9_cell_58 : decode cX9_cell 58 = .ok (.ireturn, 1) := by decide +kernel
theorem dX9_cell_59 : decode cX9_cell 59 = .ok (.iload_n 2, 1) := by decide +kernel
theorem dX9_cell_60 : decode cX9_cell 60 = .ok (.bipush (-2), 2) := by decide +kernel
theorem dX9_cell_62 : decode cX9_cell 62 = .ok (.if_icmp .ne 10, 3) := by decide +kernel
theorem dX9_cell_65 : decode cX9_cell 65 = .ok (.aload_n 3, 1) := by decide +kernel
theorem dX9_cell_66 : decode cX9_cell 66 = .ok (.getfield 283, 3) := by decide +kernel
theorem dX9_cell_69 : decode cX9_cell 69 = .ok (.goto 8, 3) := by decide +kernel
theorem dX9_cell_72 : decode cX9_cell 72 = .ok (.aload_n 3, 1) := by decide +kernel
theorem dX9_cell_73 : decode cX9_cell 73 = .ok (.iload_n 2, 1) := by decide +kernel
theorem dX9_cell_74 : decode cX9_cell 74 = .ok (.invokevirtual 286, 3) := by decide +kernel
theorem dX9_cell_77 : decode cX9_cell 77 = .ok (.ireturn, 1) := by decide +kernel
theorem dX9_word_0 : decode cX9_word 0 = .ok (.iload_n 2, 1) := by decide +kernel
theorem dX9_word_1 : decode cX9_word 1 = .ok (.invokestatic 241, 3) := by decide +kernel
theorem dX9_word_4 : decode cX9_word 4 = .ok (.ifCond .ne 5, 3) := by decide +kernel
theorem dX9_word_7 : decode cX9_word 7 = .ok (.iconst (-1), 1) := by decide +kernel
theorem dX9_word_8 : decode cX9_word 8 = .ok (.ireturn, 1) := by decide +kernel
theorem dX9_word_9 : decode cX9_word 9 = .ok (.iload_n 1, 1) := by decide +kernel
theorem dX9_word_10 : decode cX9_word 10 = .ok (.iconst 0, 1) := by decide +kernel
theorem dX9_word_11 : decode cX9_word 11 = .ok (.bipush 40, 2) := by decide +kernel
theorem dX9_word_13 : decode cX9_word 13 = .ok (.invokestatic 80, 3) := by decide +kernel
theorem dX9_word_16 : decode cX9_word 16 = .ok (.ifCond .ne 6, 3) := by decide +kernel
theorem dX9_word_19 : decode cX9_word 19 = .ok (.bipush (-2), 2) := by decide +kernel
theorem dX9_word_21 : decode cX9_word 21 = .ok (.ireturn, 1) := by decide +kernel
theorem dX9_word_22 : decode cX9_word 22 = .ok (.aload_n 0, 1) := by decide +kernel
theorem dX9_word_23 : decode cX9_word 23 = .ok (.getfield 57, 3) := by decide +kernel
theorem dX9_word_26 : decode cX9_word 26 = .ok (.getfield 272, 3) := by decide +kernel
theorem dX9_word_29 : decode cX9_word 29 = .ok (.ifCond .ne 6, 3) := by decide +kernel
theorem dX9_word_32 : decode cX9_word 32 = .ok (.bipush (-3), 2) := by decide +kernel
theorem dX9_word_34 : decode cX9_word 34 = .ok (.ireturn, 1) := by decide +kernel
theorem dX9_word_35 : decode cX9_word 35 = .ok (.iload_n 1, 1) := by decide +kernel
theorem dX9_word_36 : decode cX9_word 36 = .ok (.aload_n 0, 1) := by decide +kernel
theorem dX9_word_37 : decode cX9_word 37 = .ok (.getfield 57, 3) := by decide +kernel
theorem dX9_word_40 : decode cX9_word 40 = .ok (.getfield 280, 3) := by decide +kernel
theorem dX9_word_43 : decode cX9_word 43 = .ok (.if_icmp .le 6, 3) := by decide +kernel
theorem dX9_word_46 : decode cX9_word 46 = .ok (.bipush (-2), 2) := by decide +kernel
theorem dX9_word_48 : decode cX9_word 48 = .ok (.ireturn, 1) := by decide +kernel
theorem dX9_word_49 : decode cX9_word 49 = .ok (.aload_n 0, 1) := by decide +kernel
theorem dX9_word_50 : decode cX9_word 50 = .ok (.getfield 57, 3) := by decide +kernel
theorem dX9_word_53 : decode cX9_word 53 = .ok (.iload_n 1, 1) := by decide +kernel
theorem dX9_word_54 : decode cX9_word 54 = .ok (.invokevirtual 289, 3) := by decide +kernel
theorem dX9_word_57 : decode cX9_word 57 = .ok (.istore_n 3, 1) := by decide +kernel
theorem dX9_word_58 : decode cX9_word 58 = .ok (.aload_n 0, 1) := by decide +kernel
theorem dX9_word_59 : decode cX9_word 59 = .ok (.invokevirtual 248, 3) := by decide +kernel
theorem dX9_word_62 : decode cX9_word 62 = .ok (.astore 4, 2) := by decide +kernel
theorem dX9_word_64 : decode cX9_word 64 = .ok (.aload 4, 2) := by decide +kernel
theorem dX9_word_66 : decode cX9_word 66 = .ok (.aload_n 0, 1) := by decide +kernel
theorem dX9_word_67 : decode cX9_word 67 = .ok (.getfield 57, 3) := by decide +kernel
theorem dX9_word_70 : decode cX9_word 70 = .ok (.iload_n 1, 1) := by decide +kernel
theorem dX9_word_71 : decode cX9_word 71 = .ok (.invokevirtual 286, 3) := by decide +kernel
theorem dX9_word_74 : decode cX9_word 74 = .ok (.iload_n 2, 1) := by decide +kernel
theorem dX9_word_75 : decode cX9_word 75 = .ok (.aload_n 0, 1) := by decide +kernel
theorem dX9_word_76 : decode cX9_word 76 = .ok (.getfield 57, 3) := by decide +kernel
theorem dX9_word_79 : decode cX9_word 79 = .ok (.getfield 262, 3) := by decide +kernel
theorem dX9_word_82 : decode cX9_word 82 = .ok (.iload_n 1, 1) := by decide +kernel
theorem dX9_word_83 : decode cX9_word 83 = .ok (.isub, 1) := by decide +kernel
theorem dX9_word_84 : decode cX9_word 84 = .ok (.aload_n 0, 1) := by decide +kernel
theorem dX9_word_85 : decode cX9_word 85 = .ok (.getfield 57, 3) := by decide +kernel
theorem dX9_word_88 : decode cX9_word 88 = .ok (.getfield 265, 3) := by decide +kernel
theorem dX9_word_91 : decode cX9_word 91 = .ok (.iload_n 3, 1) := by decide +kernel
theorem dX9_word_92 : decode cX9_word 92 = .ok (.isub, 1) := by decide +kernel
theorem dX9_word_93 : decode cX9_word 93 = .ok (.invokevirtual 252, 3) := by decide +kernel
theorem dX9_word_96 : decode cX9_word 96 = .ok (.ifCond .ne 6, 3) := by decide +kernel
theorem dX9_word_99 : decode cX9_word 99 = .ok (.bipush (-5), 2) := by decide +kernel
theorem dX9_word_101 : decode cX9_word 101 = .ok (.ireturn, 1) := by decide +kernel
theorem dX9_word_102 : decode cX9_word 102 = .ok (.aload 4, 2) := by decide +kernel
theorem dX9_word_104 : decode cX9_word 104 = .ok (.aload_n 0, 1) := by decide +kernel
theorem dX9_word_105 : decode cX9_word 105 = .ok (.getfield 57, 3) := by decide +kernel
theorem dX9_word_108 : decode cX9_word 108 = .ok (.iload_n 1, 1) := by decide +kernel
theorem dX9_word_109 : decode cX9_word 109 = .ok (.iload_n 3, 1) := by decide +kernel
theorem dX9_word_110 : decode cX9_word 110 = .ok (.invokevirtual 258, 3) := by decide +kernel
theorem dX9_word_113 : decode cX9_word 113 = .ok (.aload 4, 2) := by decide +kernel
theorem dX9_word_115 : decode cX9_word 115 = .ok (.invokevirtual 268, 3) := by decide +kernel
theorem dX9_word_118 : decode cX9_word 118 = .ok (.ireturn, 1) := by decide +kernel
theorem dX9_sight_0 : decode cX9_sight 0 = .ok (.iload_n 1, 1) := by decide +kernel
theorem dX9_sight_1 : decode cX9_sight 1 = .ok (.iconst 0, 1) := by decide +kernel
theorem dX9_sight_2 : decode cX9_sight 2 = .ok (.sipush 600, 3) := by decide +kernel
theorem dX9_sight_5 : decode cX9_sight 5 = .ok (.invokestatic 80, 3) := by decide +kernel
theorem dX9_sight_8 : decode cX9_sight 8 = .ok (.ifCond .eq 29, 3) := by decide +kernel
theorem dX9_sight_11 : decode cX9_sight 11 = .ok (.iload_n 2, 1) := by decide +kernel
theorem dX9_sight_12 : decode cX9_sight 12 = .ok (.ldc_w 292, 3) := by decide +kernel
theorem dX9_sight_15 : decode cX9_sight 15 = .ok (.ldc_w 293, 3) := by decide +kernel
theorem dX9_sight_18 : decode cX9_sight 18 = .ok (.invokestatic 80, 3) := by decide +kernel
theorem dX9_sight_21 : decode cX9_sight 21 = .ok (.ifCond .eq 16, 3) := by decide +kernel
theorem dX9_sight_24 : decode cX9_sight 24 = .ok (.iload_n 3, 1) := by decide +kernel
theorem dX9_sight_25 : decode cX9_sight 25 = .ok (.ldc_w 292, 3) := by decide +kernel
theorem dX9_sight_28 : decode cX9_sight 28 = .ok (.ldc_w 293, 3) := by decide +kernel
theorem dX9_sight_31 : decode cX9_sight 31 = .ok (.invokestatic 80, 3) := by decide +kernel
theorem dX9_sight_34 : decode cX9_sight 34 = .ok (.ifCond .ne 6, 3) := by decide +kernel
theorem dX9_sight_37 : decode cX9_sight 37 = .ok (.bipush (-2), 2) := by decide +kernel
theorem dX9_sight_39 : decode cX9_sight 39 = .ok (.ireturn, 1) := by decide +kernel
theorem dX9_sight_40 : decode cX9_sight 40 = .ok (.aload_n 0, 1) := by decide +kernel
theorem dX9_sight_41 : decode cX9_sight 41 = .ok (.getfield 71, 3) := by decide +kernel
theorem dX9_sight_44 : decode cX9_sight 44 = .ok (.getfield 294, 3) := by decide +kernel
theorem dX9_sight_47 : decode cX9_sight 47 = .ok (.bipush 12, 2) := by decide +kernel
theorem dX9_sight_49 : decode cX9_sight 49 = .ok (.if_icmp .lt 6, 3) := by decide +kernel
theorem dX9_sight_52 : decode cX9_sight 52 = .ok (.bipush (-4), 2) := by decide +kernel
theorem dX9_sight_54 : decode cX9_sight 54 = .ok (.ireturn, 1) := by decide +kernel
theorem dX9_sight_55 : decode cX9_sight 55 = .ok (.aload_n 0, 1) := by decide +kernel
theorem dX9_sight_56 : decode cX9_sight 56 = .ok (.getfield 71, 3) := by decide +kernel
theorem dX9_sight_59 : decode cX9_sight 59 = .ok (.iload_n 1, 1) := by decide +kernel
theorem dX9_sight_60 : decode cX9_sight 60 = .ok (.iload_n 2, 1) := by decide +kernel
theorem dX9_sight_61 : decode cX9_sight 61 = .ok (.iload_n 3, 1) := by decide +kernel
theorem dX9_sight_62 : decode cX9_sight 62 = .ok (.invokevirtual 295, 3) := by decide +kernel
theorem dX9_sight_65 : decode cX9_sight 65 = .ok (.aload_n 0, 1) := by decide +kernel
theorem dX9_sight_66 : decode cX9_sight 66 = .ok (.getfield 71, 3) := by decide +kernel
theorem dX9_sight_69 : decode cX9_sight 69 = .ok (.getfield 294, 3) := by decide +kernel
theorem dX9_sight_72 : decode cX9_sight 72 = .ok (.ireturn, 1) := by decide +kernel
theorem dX9_forget_0 : decode cX9_forget 0 = .ok (.aload_n 0, 1) := by decide +kernel
theorem dX9_forget_1 : decode cX9_forget 1 = .ok (.getfield 71, 3) := by decide +kernel
theorem dX9_forget_4 : decode cX9_forget 4 = .ok (.getfield 294, 3) := by decide +kernel
theorem dX9_forget_7 : decode cX9_forget 7 = .ok (.istore_n 1, 1) := by decide +kernel
theorem dX9_forget_8 : decode cX9_forget 8 = .ok (.aload_n 0, 1) := by decide +kernel
theorem dX9_forget_9 : decode cX9_forget 9 = .ok (.getfield 71, 3) := by decide +kernel
theorem dX9_forget_12 : decode cX9_forget 12 = .ok (.iconst 0, 1) := by decide +kernel
theorem dX9_forget_13 : decode cX9_forget 13 = .ok (.putfield 294, 3) := by decide +kernel
theorem dX9_forget_16 : decode cX9_forget 16 = .ok (.iload_n 1, 1) := by decide +kernel
theorem dX9_forget_17 : decode cX9_forget 17 = .ok (.ireturn, 1) := by decide +kernel
theorem dX9_told_0 : decode cX9_told 0 = .ok (.iload_n 1, 1) := by decide +kernel
theorem dX9_told_1 : decode cX9_told 1 = .ok (.iload_n 2, 1) := by decide +kernel
theorem dX9_told_2 : decode cX9_told 2 = .ok (.iload_n 3, 1) := by decide +kernel
theorem dX9_told_3 : decode cX9_told 3 = .ok (.invokestatic 113, 3) := by decide +kernel
theorem dX9_told_6 : decode cX9_told 6 = .ok (.ifCond .eq 13, 3) := by decide +kernel
theorem dX9_told_9 : decode cX9_told 9 = .ok (.iload 4, 2) := by decide +kernel
theorem dX9_told_11 : decode cX9_told 11 = .ok (.iconst 0, 1) := by decide +kernel
theorem dX9_told_12 : decode cX9_told 12 = .ok (.iconst 3, 1) := by decide +kernel
theorem dX9_told_13 : decode cX9_told 13 = .ok (.invokestatic 80, 3) := by decide +kernel
theorem dX9_told_16 : decode cX9_told 16 = .ok (.ifCond .ne 7, 3) := by decide +kernel
theorem dX9_told_19 : decode cX9_told 19 = .ok (.ldc2_w 107, 3) := by decide +kernel
theorem dX9_told_22 : decode cX9_told 22 = .ok (.lreturn, 1) := by decide +kernel
theorem dX9_told_23 : decode cX9_told 23 = .ok (.aload_n 0, 1) := by decide +kernel
theorem dX9_told_24 : decode cX9_told 24 = .ok (.getfield 71, 3) := by decide +kernel
theorem dX9_told_27 : decode cX9_told 27 = .ok (.getfield 294, 3) := by decide +kernel
theorem dX9_told_30 : decode cX9_told 30 = .ok (.ifCond .ne 7, 3) := by decide +kernel
theorem dX9_told_33 : decode cX9_told 33 = .ok (.ldc2_w 156, 3) := by decide +kernel
theorem dX9_told_36 : decode cX9_told 36 = .ok (.lreturn, 1) := by decide +kernel
theorem dX9_told_37 : decode cX9_told 37 = .ok (.aload_n 0, 1) := by decide +kernel
theorem dX9_told_38 : decode cX9_told 38 = .ok (.getfield 71, 3) := by decide +kernel
theorem dX9_told_41 : decode cX9_told 41 = .ok (.getfield 296, 3) := by decide +kernel
theorem dX9_told_44 : decode cX9_told 44 = .ok (.iload_n 1, 1) := by decide +kernel
theorem dX9_told_45 : decode cX9_told 45 = .ok (.iload_n 2, 1) := by decide +kernel
theorem dX9_told_46 : decode cX9_told 46 = .ok (.iload_n 3, 1) := by decide +kernel
theorem dX9_told_47 : decode cX9_told 47 = .ok (.iconst 0, 1) := by decide +kernel
theorem dX9_told_48 : decode cX9_told 48 = .ok (.invokevirtual 121, 3) := by decide +kernel
theorem dX9_told_51 : decode cX9_told 51 = .ok (.aload_n 0, 1) := by decide +kernel
theorem dX9_told_52 : decode cX9_told 52 = .ok (.getfield 71, 3) := by decide +kernel
theorem dX9_told_55 : decode cX9_told 55 = .ok (.aload_n 0, 1) := by decide +kernel
theorem dX9_told_56 : decode cX9_told 56 = .ok (.getfield 11, 3) := by decide +kernel
theorem dX9_told_59 : decode cX9_told 59 = .ok (.aload_n 0, 1) := by decide +kernel
theorem dX9_told_60 : decode cX9_told 60 = .ok (.getfield 15, 3) := by decide +kernel
theorem dX9_told_63 : decode cX9_told 63 = .ok (.aaload, 1) := by decide +kernel
theorem dX9_told_64 : decode cX9_told 64 = .ok (.aload_n 0, 1) := by decide +kernel
theorem dX9_told_65 : decode cX9_told 65 = .ok (.getfield 22, 3) := by decide +kernel
theorem dX9_told_68 : decode cX9_told 68 = .ok (.invokevirtual 300, 3) := by decide +kernel
theorem dX9_told_71 : decode cX9_told 71 = .ok (.iload 4, 2) := by decide +kernel
theorem dX9_told_73 : decode cX9_told 73 = .ok (.tableswitch 53 0 2 #[27, 35, 44], 27) := by decide +kernel
theorem dX9_told_100 : decode cX9_told 100 = .ok (.aload_n 0, 1) := by decide +kernel
theorem dX9_told_101 : decode cX9_told 101 = .ok (.getfield 71, 3) := by decide +kernel
theorem dX9_told_104 : decode cX9_told 104 = .ok (.getfield 304, 3) := by decide +kernel
theorem dX9_told_107 : decode cX9_told 107 = .ok (.lreturn, 1) := by decide +kernel
theorem dX9_told_108 : decode cX9_told 108 = .ok (.aload_n 0, 1) := by decide +kernel
theorem dX9_told_109 : decode cX9_told 109 = .ok (.getfield 71, 3) := by decide +kernel
theorem dX9_told_112 : decode cX9_told 112 = .ok (.getfield 307, 3) := by decide +kernel
theorem dX9_told_115 : decode cX9_told 115 = .ok (.i2l, 1) := by decide +kernel
theorem dX9_told_116 : decode cX9_told 116 = .ok (.lreturn, 1) := by decide +kernel
theorem dX9_told_117 : decode cX9_told 117 = .ok (.aload_n 0, 1) := by decide +kernel
theorem dX9_told_118 : decode cX9_told 118 = .ok (.getfield 71, 3) := by decide +kernel
theorem dX9_told_121 : decode cX9_told 121 = .ok (.getfield 310, 3) := by decide +kernel
theorem dX9_told_124 : decode cX9_told 124 = .ok (.i2l, 1) := by decide +kernel
theorem dX9_told_125 : decode cX9_told 125 = .ok (.lreturn, 1) := by decide +kernel
theorem dX9_told_126 : decode cX9_told 126 = .ok (.aload_n 0, 1) := by decide +kernel
theorem dX9_told_127 : decode cX9_told 127 = .ok (.getfield 71, 3) := by decide +kernel
theorem dX9_told_130 : decode cX9_told 130 = .ok (.getfield 313, 3) := by decide +kernel
theorem dX9_told_133 : decode cX9_told 133 = .ok (.i2l, 1) := by decide +kernel
theorem dX9_told_134 : decode cX9_told 134 = .ok (.lreturn, 1) := by decide +kernel
theorem dX9_about_0 : decode cX9_about 0 = .ok (.iload_n 1, 1) := by decide +kernel
theorem dX9_about_1 : decode cX9_about 1 = .ok (.tableswitch 105 0 7 #[47, 52, 60, 68, 76, 84, 92, 97], 47) := by decide +kernel
theorem dX9_about_48 : decode cX9_about 48 = .ok (.aload_n 0, 1) := by decide +kernel
theorem dX9_about_49 : decode cX9_about 49 = .ok (.getfield 15, 3) := by decide +kernel
theorem dX9_about_52 : decode cX9_about 52 = .ok (.ireturn, 1) := by decide +kernel
theorem dX9_about_53 : decode cX9_about 53 = .ok (.aload_n 0, 1) := by decide +kernel
theorem dX9_about_54 : decode cX9_about 54 = .ok (.getfield 29, 3) := by decide +kernel
theorem dX9_about_57 : decode cX9_about 57 = .ok (.getfield 116, 3) := by decide +kernel
theorem dX9_about_60 : decode cX9_about 60 = .ok (.ireturn, 1) := by decide +kernel
theorem dX9_about_61 : decode cX9_about 61 = .ok (.aload_n 0, 1) := by decide +kernel
theorem dX9_about_62 : decode cX9_about 62 = .ok (.getfield 29, 3) := by decide +kernel
theorem dX9_about_65 : decode cX9_about 65 = .ok (.getfield 130, 3) := by decide +kernel
theorem dX9_about_68 : decode cX9_about 68 = .ok (.ireturn, 1) := by decide +kernel
theorem dX9_about_69 : decode cX9_about 69 = .ok (.aload_n 0, 1) := by decide +kernel
theorem dX9_about_70 : decode cX9_about 70 = .ok (.getfield 22, 3) := by decide +kernel
theorem dX9_about_73 : decode cX9_about 73 = .ok (.getfield 136, 3) := by decide +kernel
theorem dX9_about_76 : decode cX9_about 76 = .ok (.ireturn, 1) := by decide +kernel
theorem dX9_about_77 : decode cX9_about 77 = .ok (.aload_n 0, 1) := by decide +kernel
theorem dX9_about_78 : decode cX9_about 78 = .ok (.getfield 22, 3) := by decide +kernel
theorem dX9_about_81 : decode cX9_about 81 = .ok (.getfield 139, 3) := by decide +kernel
theorem dX9_about_84 : decode cX9_about 84 = .ok (.ireturn, 1) := by decide +kernel
theorem dX9_about_85 : decode cX9_about 85 = .ok (.aload_n 0, 1) := by decide +kernel
theorem dX9_about_86 : decode cX9_about 86 = .ok (.getfield 46, 3) := by decide +kernel
theorem dX9_about_89 : decode cX9_about 89 = .ok (.getfield 226, 3) := by decide +kernel
theorem dX9_about_92 : decode cX9_about 92 = .ok (.ireturn, 1) := by decide +kernel
theorem dX9_about_93 : decode cX9_about 93 = .ok (.aload_n 0, 1) := by decide +kernel
theorem dX9_about_94 : decode cX9_about 94 = .ok (.invokevirtual 316, 3) := by decide +kernel
theorem dX9_about_97 : decode cX9_about 97 = .ok (.ireturn, 1) := by decide +kernel
theorem dX9_about_98 : decode cX9_about 98 = .ok (.aload_n 0, 1) := by decide +kernel
theorem dX9_about_99 : decode cX9_about 99 = .ok (.getfield 71, 3) := by decide +kernel
theorem dX9_about_102 : decode cX9_about 102 = .ok (.getfield 294, 3) := by decide +kernel
theorem dX9_about_105 : decode cX9_about 105 = .ok (.ireturn, 1) := by decide +kernel
theorem dX9_about_106 : decode cX9_about 106 = .ok (.iload_n 1, 1) := by decide +kernel
theorem dX9_about_107 : decode cX9_about 107 = .ok (.i2l, 1) := by decide +kernel
theorem dX9_about_108 : decode cX9_about 108 = .ok (.ldc2_w 319, 3) := by decide +kernel
theorem dX9_about_111 : decode cX9_about 111 = .ok (.lsub, 1) := by decide +kernel
theorem dX9_about_112 : decode cX9_about 112 = .ok (.invokestatic 76, 3) := by decide +kernel
theorem dX9_about_115 : decode cX9_about 115 = .ok (.ifCond .eq 18, 3) := by decide +kernel
theorem dX9_about_118 : decode cX9_about 118 = .ok (.aload_n 0, 1) := by decide +kernel
theorem dX9_about_119 : decode cX9_about 119 = .ok (.getfield 11, 3) := by decide +kernel
theorem dX9_about_122 : decode cX9_about 122 = .ok (.iload_n 1, 1) := by decide +kernel
theorem dX9_about_123 : decode cX9_about 123 = .ok (.bipush 10, 2) := by decide +kernel
theorem dX9_about_125 : decode cX9_about 125 = .ok (.isub, 1) := by decide +kernel
theorem dX9_about_126 : decode cX9_about 126 = .ok (.aaload, 1) := by decide +kernel
theorem dX9_about_127 : decode cX9_about 127 = .ok (.getfield 84, 3) := by decide +kernel
theorem dX9_about_130 : decode cX9_about 130 = .ok (.goto 5, 3) := by decide +kernel
theorem dX9_about_133 : decode cX9_about 133 = .ok (.bipush (-2), 2) := by decide +kernel
theorem dX9_about_135 : decode cX9_about 135 = .ok (.ireturn, 1) := by decide +kernel
theorem dX9_within_0 : decode cX9_within 0 = .ok (.iload_n 0, 1) := by decide +kernel
theorem dX9_within_1 : decode cX9_within 1 = .ok (.iload_n 1, 1) := by decide +kernel
theorem dX9_within_2 : decode cX9_within 2 = .ok (.if_icmp .lt 12, 3) := by decide +kernel
theorem dX9_within_5 : decode cX9_within 5 = .ok (.iload_n 0, 1) := by decide +kernel
theorem dX9_within_6 : decode cX9_within 6 = .ok (.iload_n 2, 1) := by decide +kernel
theorem dX9_within_7 : decode cX9_within 7 = .ok (.if_icmp .gt 7, 3) := by decide +kernel
theorem dX9_within_10 : decode cX9_within 10 = .ok (.iconst 1, 1) := by decide +kernel
theorem dX9_within_11 : decode cX9_within 11 = .ok (.goto 4, 3) := by decide +kernel
theorem dX9_within_14 : decode cX9_within 14 = .ok (.iconst 0, 1) := by decide +kernel
theorem dX9_within_15 : decode cX9_within 15 = .ok (.ireturn, 1) := by decide +kernel
theorem dX9_isPlan_0 : decode cX9_isPlan 0 = .ok (.lload_n 0, 1) := by decide +kernel
theorem dX9_isPlan_1 : decode cX9_isPlan 1 = .ok (.lconst 0, 1) := by decide +kernel
theorem dX9_isPlan_2 : decode cX9_isPlan 2 = .ok (.lcmp, 1) := by decide +kernel
theorem dX9_isPlan_3 : decode cX9_isPlan 3 = .ok (.ifCond .lt 15, 3) := by decide +kernel
theorem dX9_isPlan_6 : decode cX9_isPlan 6 = .ok (.lload_n 0, 1) := by decide +kernel
theorem dX9_isPlan_7 : decode cX9_isPlan 7 = .ok (.ldc2_w 321, 3) := by decide +kernel
theorem dX9_isPlan_10 : decode cX9_isPlan 10 = .ok (.lcmp, 1) := by decide +kernel
theorem dX9_isPlan_11 : decode cX9_isPlan 11 = .ok (.ifCond .ge 7, 3) := by decide +kernel
theorem dX9_isPlan_14 : decode cX9_isPlan 14 = .ok (.iconst 1, 1) := by decide +kernel
theorem dX9_isPlan_15 : decode cX9_isPlan 15 = .ok (.goto 4, 3) := by decide +kernel
theorem dX9_isPlan_18 : decode cX9_isPlan 18 = .ok (.iconst 0, 1) := by decide +kernel
theorem dX9_isPlan_19 : decode cX9_isPlan 19 = .ok (.ireturn, 1) := by decide +kernel
theorem dX9_isShip_0 : decode cX9_isShip 0 = .ok (.iload_n 1, 1) := by decide +kernel
theorem dX9_isShip_1 : decode cX9_isShip 1 = .ok (.iconst 0, 1) := by decide +kernel
theorem dX9_isShip_2 : decode cX9_isShip 2 = .ok (.aload_n 0, 1) := by decide +kernel
theorem dX9_isShip_3 : decode cX9_isShip 3 = .ok (.getfield 29, 3) := by decide +kernel
theorem dX9_isShip_6 : decode cX9_isShip 6 = .ok (.getfield 116, 3) := by decide +kernel
theorem dX9_isShip_9 : decode cX9_isShip 9 = .ok (.iconst 1, 1) := by decide +kernel
theorem dX9_isShip_10 : decode cX9_isShip 10 = .ok (.isub, 1) := by decide +kernel
theorem dX9_isShip_11 : decode cX9_isShip 11 = .ok (.invokestatic 80, 3) := by decide +kernel
theorem dX9_isShip_14 : decode cX9_isShip 14 = .ok (.ireturn, 1) := by decide +kernel
theorem dX9_isStart_0 : decode cX9_isStart 0 = .ok (.iload_n 0, 1) := by decide +kernel
theorem dX9_isStart_1 : decode cX9_isStart 1 = .ok (.ldc_w 323, 3) := by decide +kernel
theorem dX9_isStart_4 : decode cX9_isStart 4 = .ok (.ldc_w 324, 3) := by decide +kernel
theorem dX9_isStart_7 : decode cX9_isStart 7 = .ok (.invokestatic 80, 3) := by decide +kernel
theorem dX9_isStart_10 : decode cX9_isStart 10 = .ok (.ifCond .eq 30, 3) := by decide +kernel
theorem dX9_isStart_13 : decode cX9_isStart 13 = .ok (.iload_n 1, 1) := by decide +kernel
theorem dX9_isStart_14 : decode cX9_isStart 14 = .ok (.ldc_w 323, 3) := by decide +kernel
theorem dX9_isStart_17 : decode cX9_isStart 17 = .ok (.ldc_w 324, 3) := by decide +kernel
theorem dX9_isStart_20 : decode cX9_isStart 20 = .ok (.invokestatic 80, 3) := by decide +kernel
theorem dX9_isStart_23 : decode cX9_isStart 23 = .ok (.ifCond .eq 17, 3) := by decide +kernel
theorem dX9_isStart_26 : decode cX9_isStart 26 = .ok (.iload_n 2, 1) := by decide +kernel
theorem dX9_isStart_27 : decode cX9_isStart 27 = .ok (.iconst 1, 1) := by decide +kernel
theorem dX9_isStart_28 : decode cX9_isStart 28 = .ok (.bipush 20, 2) := by decide +kernel
theorem dX9_isStart_30 : decode cX9_isStart 30 = .ok (.invokestatic 80, 3) := by decide +kernel
theorem dX9_isStart_33 : decode cX9_isStart 33 = .ok (.ifCond .eq 7, 3) := by decide +kernel
theorem dX9_isStart_36 : decode cX9_isStart 36 = .ok (.iconst 1, 1) := by decide +kernel
theorem dX9_isStart_37 : decode cX9_isStart 37 = .ok (.goto 4, 3) := by decide +kernel
theorem dX9_isStart_40 : decode cX9_isStart 40 = .ok (.iconst 0, 1) := by decide +kernel
theorem dX9_isStart_41 : decode cX9_isStart 41 = .ok (.ireturn, 1) := by decide +kernel
theorem dX9_isWeight_0 : decode cX9_isWeight 0 = .ok (.iload_n 0, 1) := by decide +kernel
theorem dX9_isWeight_1 : decode cX9_isWeight 1 = .ok (.iconst 0, 1) := by decide +kernel
theorem dX9_isWeight_2 : decode cX9_isWeight 2 = .ok (.bipush 20, 2) := by decide +kernel
theorem dX9_isWeight_4 : decode cX9_isWeight 4 = .ok (.invokestatic 80, 3) := by decide +kernel
theorem dX9_isWeight_7 : decode cX9_isWeight 7 = .ok (.ireturn, 1) := by decide +kernel
theorem dX9_isCell_0 : decode cX9_isCell 0 = .ok (.iload_n 0, 1) := by decide +kernel
theorem dX9_isCell_1 : decode cX9_isCell 1 = .ok (.iconst 0, 1) := by decide +kernel
theorem dX9_isCell_2 : decode cX9_isCell 2 = .ok (.sipush 143, 3) := by decide +kernel
theorem dX9_isCell_5 : decode cX9_isCell 5 = .ok (.invokestatic 80, 3) := by decide +kernel
theorem dX9_isCell_8 : decode cX9_isCell 8 = .ok (.ireturn, 1) := by decide +kernel
theorem dX9_isVoyage_0 : decode cX9_isVoyage 0 = .ok (.iload_n 0, 1) := by decide +kernel
theorem dX9_isVoyage_1 : decode cX9_isVoyage 1 = .ok (.iconst 0, 1) := by decide +kernel
theorem dX9_isVoyage_2 : decode cX9_isVoyage 2 = .ok (.bipush 40, 2) := by decide +kernel
theorem dX9_isVoyage_4 : decode cX9_isVoyage 4 = .ok (.invokestatic 80, 3) := by decide +kernel
theorem dX9_isVoyage_7 : decode cX9_isVoyage 7 = .ok (.ifCond .eq 17, 3) := by decide +kernel
theorem dX9_isVoyage_10 : decode cX9_isVoyage 10 = .ok (.iload_n 1, 1) := by decide +kernel
theorem dX9_isVoyage_11 : decode cX9_isVoyage 11 = .ok (.iconst 0, 1) := by decide +kernel
theorem dX9_isVoyage_12 : decode cX9_isVoyage 12 = .ok (.bipush 40, 2) := by decide +kernel
theorem dX9_isVoyage_14 : decode cX9_isVoyage 14 = .ok (.invokestatic 80, 3) := by decide +kernel
theorem dX9_isVoyage_17 : decode cX9_isVoyage 17 = .ok (.ifCond .eq 7, 3) := by decide +kernel
theorem dX9_isVoyage_20 : decode cX9_isVoyage 20 = .ok (.iconst 1, 1) := by decide +kernel
theorem dX9_isVoyage_21 : decode cX9_isVoyage 21 = .ok (.goto 4, 3) := by decide +kernel
theorem dX9_isVoyage_24 : decode cX9_isVoyage 24 = .ok (.iconst 0, 1) := by decide +kernel
theorem dX9_isVoyage_25 : decode cX9_isVoyage 25 = .ok (.ireturn, 1) := by decide +kernel
theorem dX9_landCells_0 : decode cX9_landCells 0 = .ok (.iconst 0, 1) := by decide +kernel
theorem dX9_landCells_1 : decode cX9_landCells 1 = .ok (.istore_n 1, 1) := by decide +kernel
theorem dX9_landCells_2 : decode cX9_landCells 2 = .ok (.iconst 0, 1) := by decide +kernel
theorem dX9_landCells_3 : decode cX9_landCells 3 = .ok (.istore_n 2, 1) := by decide +kernel
theorem dX9_landCells_4 : decode cX9_landCells 4 = .ok (.iload_n 2, 1) := by decide +kernel
theorem dX9_landCells_5 : decode cX9_landCells 5 = .ok (.sipush 144, 3) := by decide +kernel
theorem dX9_landCells_8 : decode cX9_landCells 8 = .ok (.if_icmp .ge 22, 3) := by decide +kernel
theorem dX9_landCells_11 : decode cX9_landCells 11 = .ok (.aload_n 0, 1) := by decide +kernel
theorem dX9_landCells_12 : decode cX9_landCells 12 = .ok (.getfield 50, 3) := by decide +kernel
theorem dX9_landCells_15 : decode cX9_landCells 15 = .ok (.iload_n 2, 1) := by decide +kernel
theorem dX9_landCells_16 : decode cX9_landCells 16 = .ok (.iaload, 1) := by decide +kernel
theorem dX9_landCells_17 : decode cX9_landCells 17 = .ok (.iconst (-1), 1) := by decide +kernel
theorem dX9_landCells_18 : decode cX9_landCells 18 = .ok (.if_icmp .ne 6, 3) := by decide +kernel
theorem dX9_landCells_21 : decode cX9_landCells 21 = .ok (.iinc 1 1, 3) := by decide +kernel
theorem dX9_landCells_24 : decode cX9_landCells 24 = .ok (.iinc 2 1, 3) := by decide +kernel
theorem dX9_landCells_27 : decode cX9_landCells 27 = .ok (.goto (-23), 3) := by decide +kernel
theorem dX9_landCells_30 : decode cX9_landCells 30 = .ok (.iload_n 1, 1) := by decide +kernel
theorem dX9_landCells_31 : decode cX9_landCells 31 = .ok (.ireturn, 1) := by decide +kernel
theorem dX9_readyPilot_0 : decode cX9_readyPilot 0 = .ok (.aload_n 0, 1) := by decide +kernel
theorem dX9_readyPilot_1 : decode cX9_readyPilot 1 = .ok (.getfield 64, 3) := by decide +kernel
theorem dX9_readyPilot_4 : decode cX9_readyPilot 4 = .ok (.ifnonnull 22, 3) := by decide +kernel
theorem dX9_readyPilot_7 : decode cX9_readyPilot 7 = .ok (.aload_n 0, 1) := by decide +kernel
theorem dX9_readyPilot_8 : decode cX9_readyPilot 8 = .ok (.new 253, 3) := by decide +kernel
theorem dX9_readyPilot_11 : decode cX9_readyPilot 11 = .ok (.dup, 1) := by decide +kernel
theorem dX9_readyPilot_12 : decode cX9_readyPilot 12 = .ok (.aload_n 0, 1) := by decide +kernel
theorem dX9_readyPilot_13 : decode cX9_readyPilot 13 = .ok (.getfield 50, 3) := by decide +kernel
theorem dX9_readyPilot_16 : decode cX9_readyPilot 16 = .ok (.aload_n 0, 1) := by decide +kernel
theorem dX9_readyPilot_17 : decode cX9_readyPilot 17 = .ok (.getfield 57, 3) := by decide +kernel
theorem dX9_readyPilot_20 : decode cX9_readyPilot 20 = .ok (.invokespecial 325, 3) := by decide +kernel
theorem dX9_readyPilot_23 : decode cX9_readyPilot 23 = .ok (.putfield 64, 3) := by decide +kernel
theorem dX9_readyPilot_26 : decode cX9_readyPilot 26 = .ok (.aload_n 0, 1) := by decide +kernel
theorem dX9_readyPilot_27 : decode cX9_readyPilot 27 = .ok (.getfield 64, 3) := by decide +kernel
theorem dX9_readyPilot_30 : decode cX9_readyPilot 30 = .ok (.areturn, 1) := by decide +kernel
theorem dX9_pace_0 : decode cX9_pace 0 = .ok (.iload_n 0, 1) := by decide +kernel
theorem dX9_pace_1 : decode cX9_pace 1 = .ok (.invokestatic 328, 3) := by decide +kernel
theorem dX9_pace_4 : decode cX9_pace 4 = .ok (.iconst 4, 1) := by decide +kernel
theorem dX9_pace_5 : decode cX9_pace 5 = .ok (.invokestatic 333, 3) := by decide +kernel
theorem dX9_pace_8 : decode cX9_pace 8 = .ok (.istore_n 2, 1) := by decide +kernel
theorem dX9_pace_9 : decode cX9_pace 9 = .ok (.iload_n 1, 1) := by decide +kernel
theorem dX9_pace_10 : decode cX9_pace 10 = .ok (.ifCond .ne 9, 3) := by decide +kernel
theorem dX9_pace_13 : decode cX9_pace 13 = .ok (.getstatic 336, 3) := by decide +kernel
theorem dX9_pace_16 : decode cX9_pace 16 = .ok (.iload_n 2, 1) := by decide +kernel
theorem dX9_pace_17 : decode cX9_pace 17 = .ok (.iaload, 1) := by decide +kernel
theorem dX9_pace_18 : decode cX9_pace 18 = .ok (.ireturn, 1) := by decide +kernel
theorem dX9_pace_19 : decode cX9_pace 19 = .ok (.iload_n 0, 1) := by decide +kernel
theorem dX9_pace_20 : decode cX9_pace 20 = .ok (.ifCond .ge 12, 3) := by decide +kernel
theorem dX9_pace_23 : decode cX9_pace 23 = .ok (.getstatic 339, 3) := by decide +kernel
theorem dX9_pace_26 : decode cX9_pace 26 = .ok (.iload_n 2, 1) := by decide +kernel
theorem dX9_pace_27 : decode cX9_pace 27 = .ok (.iaload, 1) := by decide +kernel
theorem dX9_pace_28 : decode cX9_pace 28 = .ok (.ineg, 1) := by decide +kernel
theorem dX9_pace_29 : decode cX9_pace 29 = .ok (.goto 8, 3) := by decide +kernel
theorem dX9_pace_32 : decode cX9_pace 32 = .ok (.getstatic 339, 3) := by decide +kernel
theorem dX9_pace_35 : decode cX9_pace 35 = .ok (.iload_n 2, 1) := by decide +kernel
theorem dX9_pace_36 : decode cX9_pace 36 = .ok (.iaload, 1) := by decide +kernel
theorem dX9_pace_37 : decode cX9_pace 37 = .ok (.ireturn, 1) := by decide +kernel
theorem dX9_squareOf_0 : decode cX9_squareOf 0 = .ok (.lload_n 0, 1) := by decide +kernel
theorem dX9_squareOf_1 : decode cX9_squareOf 1 = .ok (.lload_n 0, 1) := by decide +kernel
theorem dX9_squareOf_2 : decode cX9_squareOf 2 = .ok (.lmul, 1) := by decide +kernel
theorem dX9_squareOf_3 : decode cX9_squareOf 3 = .ok (.lload_n 2, 1) := by decide +kernel
theorem dX9_squareOf_4 : decode cX9_squareOf 4 = .ok (.lload_n 2, 1) := by decide +kernel
theorem dX9_squareOf_5 : decode cX9_squareOf 5 = .ok (.lmul, 1) := by decide +kernel
theorem dX9_squareOf_6 : decode cX9_squareOf 6 = .ok (.ladd, 1) := by decide +kernel
theorem dX9_squareOf_7 : decode cX9_squareOf 7 = .ok (.lreturn, 1) := by decide +kernel
end
section
theorem dX10_init_0 : decode cX10_init 0 = .ok (.aload_n 0, 1) := by decide +kernel
theorem dX10_init_1 : decode cX10_init 1 = .ok (.invokespecial 1, 3) := by decide +kernel
theorem dX10_init_4 : decode cX10_init 4 = .ok (.aload_n 0, 1) := by decide +kernel
theorem dX10_init_5 : decode cX10_init 5 = .ok (.bipush 48, 2) := by decide +kernel
theorem dX10_init_7 : decode cX10_init 7 = .ok (.newarray .int, 2) := by decide +kernel
theorem dX10_init_9 : decode cX10_init 9 = .ok (.putfield 7, 3) := by decide +kernel
theorem dX10_init_12 : decode cX10_init 12 = .ok (.aload_n 0, 1) := by decide +kernel
theorem dX10_init_13 : decode cX10_init 13 = .ok (.bipush 48, 2) := by decide +kernel
theorem dX10_init_15 : decode cX10_init 15 = .ok (.newarray .int, 2) := by decide +kernel
theorem dX10_init_17 : decode cX10_init 17 = .ok (.putfield 13, 3) := by decide +kernel
theorem dX10_init_20 : decode cX10_init 20 = .ok (.aload_n 0, 1) := by decide +kernel
theorem dX10_init_21 : decode cX10_init 21 = .ok (.iconst 4, 1) := by decide +kernel
theorem dX10_init_22 : decode cX10_init 22 = .ok (.newarray .int, 2) := by decide +kernel
theorem dX10_init_24 : decode cX10_init 24 = .ok (.putfield 16, 3) := by decide +kernel
theorem dX10_init_27 : decode cX10_init 27 = .ok (.aload_n 0, 1) := by decide +kernel
theorem dX10_init_28 : decode cX10_init 28 = .ok (.bipush 11, 2) := by decide +kernel
theorem dX10_init_30 : decode cX10_init 30 = .ok (.newarray .int, 2) := by decide +kernel
theorem dX10_init_32 : decode cX10_init 32 = .ok (.putfield 19, 3) := by decide +kernel
theorem dX10_init_35 : decode cX10_init 35 = .ok (.aload_n 0, 1) := by decide +kernel
theorem dX10_init_36 : decode cX10_init 36 = .ok (.bipush 9, 2) := by decide +kernel
theorem dX10_init_38 : decode cX10_init 38 = .ok (.newarray .int, 2) := by decide +kernel
theorem dX10_init_40 : decode cX10_init 40 = .ok (.putfield 22, 3) := by decide +kernel
theorem dX10_init_43 : decode cX10_init 43 = .ok (.aload_n 0, 1) := by decide +kernel
theorem dX10_init_44 : decode cX10_init 44 = .ok (.bipush 9, 2) := by decide +kernel
theorem dX10_init_46 : decode cX10_init 46 = .ok (.newarray .int, 2) := by decide +kernel
theorem dX10_init_48 : decode cX10_init 48 = .ok (.putfield 25, 3) := by decide +kernel
theorem dX10_init_51 : decode cX10_init 51 = .ok (.aload_n 0, 1) := by decide +kernel
theorem dX10_init_52 : decode cX10_init 52 = .ok (.bipush 9, 2) := by decide +kernel
theorem dX10_init_54 : decode cX10_init 54 = .ok (.newarray .int, 2) := by decide +kernel
theorem dX10_init_56 : decode cX10_init 56 = .ok (.putfield 28, 3) := by decide +kernel
theorem dX10_init_59 : decode cX10_init 59 = .ok (.aload_n 0, 1) := by decide +kernel
theorem dX10_init_60 : decode cX10_init 60 = .ok (.bipush 9, 2) := by decide +kernel
theorem dX10_init_62 : decode cX10_init 62 = .ok (.newarray .int, 2) := by decide +kernel
theorem dX10_init_64 : decode cX10_init 64 = .ok (.putfield 31, 3) := by decide +kernel
theorem dX10_init_67 : decode cX10_init 67 = .ok (.aload_n 0, 1) := by decide +kernel
theorem dX10_init_68 : decode cX10_init 68 = .ok (.bipush 20, 2) := by decide +kernel
theorem dX10_init_70 : decode cX10_init 70 = .ok (.newarray .int, 2) := by decide +kernel
theorem dX10_init_72 : decode cX10_init 72 = .ok (.putfield 34, 3) := by decide +kernel
theorem dX10_init_75 : decode cX10_init 75 = .ok (.aload_n 0, 1) := by decide +kernel
theorem dX10_init_76 : decode cX10_init 76 = .ok (.bipush 20, 2) := by decide +kernel
theorem dX10_init_78 : decode cX10_init 78 = .ok (.newarray .int, 2) := by decide +kernel
theorem dX10_init_80 : decode cX10_init 80 = .ok (.putfield 37, 3) := by decide +kernel
theorem dX10_init_83 : decode cX10_init 83 = .ok (.aload_n 0, 1) := by decide +kernel
theorem dX10_init_84 : decode cX10_init 84 = .ok (.bipush 20, 2) := by decide +kernel
theorem dX10_init_86 : decode cX10_init 86 = .ok (.newarray .int, 2) := by decide +kernel
theorem dX10_init_88 : decode cX10_init 88 = .ok (.putfield 40, 3) := by decide +kernel
theorem dX10_init_91 : decode cX10_init 91 = .ok (.aload_n 0, 1) := by decide +kernel
theorem dX10_init_92 : decode cX10_init 92 = .ok (.bipush 9, 2) := by decide +kernel
theorem dX10_init_94 : decode cX10_init 94 = .ok (.newarray .long, 2) := by decide +kernel
theorem dX10_init_96 : decode cX10_init 96 = .ok (.putfield 43, 3) := by decide +kernel
theorem dX10_init_99 : decode cX10_init 99 = .ok (.aload_n 0, 1) := by decide +kernel
theorem dX10_init_100 : decode cX10_init 100 = .ok (.bipush 9, 2) := by decide +kernel
theorem dX10_init_102 : decode cX10_init 102 = .ok (.newarray .long, 2) := by decide +kernel
theorem dX10_init_104 : decode cX10_init 104 = .ok (.putfield 47, 3) := by decide +kernel
theorem dX10_init_107 : decode cX10_init 107 = .ok (.aload_n 0, 1) := by decide +kernel
theorem dX10_init_108 : decode cX10_init 108 = .ok (.bipush 10, 2) := by decide +kernel
theorem dX10_init_110 : decode cX10_init 110 = .ok (.putfield 50, 3) := by decide +kernel
theorem dX10_init_113 : decode cX10_init 113 = .ok (.aload_n 0, 1) := by decide +kernel
theorem dX10_init_114 : decode cX10_init 114 = .ok (.ldc 54, 2) := by decide +kernel
theorem dX10_init_116 : decode cX10_init 116 = .ok (.putfield 55, 3) := by decide +kernel
theorem dX10_init_119 : decode cX10_init 119 = .ok (.aload_n 0, 1) := by decide +kernel
theorem dX10_init_120 : decode cX10_init 120 = .ok (.iconst 5, 1) := by decide +kernel
theorem dX10_init_121 : decode cX10_init 121 = .ok (.putfield 58, 3) := by decide +kernel
theorem dX10_init_124 : decode cX10_init 124 = .ok (.aload_n 0, 1) := by decide +kernel
theorem dX10_init_125 : decode cX10_init 125 = .ok (.sipush 20000, 3) := by decide +kernel
theorem dX10_init_128 : decode cX10_init 128 = .ok (.putfield 61, 3) := by decide +kernel
theorem dX10_init_131 : decode cX10_init 131 = .ok (.aload_n 0, 1) := by decide +kernel
theorem dX10_init_132 : decode cX10_init 132 = .ok (.iconst 4, 1) := by decide +kernel
theorem dX10_init_133 : decode cX10_init 133 = .ok (.newarray .long, 2) := by decide +kernel
theorem dX10_init_135 : decode cX10_init 135 = .ok (.putfield 64, 3) := by decide +kernel
theorem dX10_init_138 : decode cX10_init 138 = .ok (.aload_n 0, 1) := by decide +kernel
theorem dX10_init_139 : decode cX10_init 139 = .ok (.iconst 4, 1) := by decide +kernel
theorem dX10_init_140 : decode cX10_init 140 = .ok (.newarray .long, 2) := by decide +kernel
theorem dX10_init_142 : decode cX10_init 142 = .ok (.putfield 67, 3) := by decide +kernel
theorem dX10_init_145 : decode cX10_init 145 = .ok (.aload_n 0, 1) := by decide +kernel
theorem dX10_init_146 : decode cX10_init 146 = .ok (.iconst 4, 1) := by decide +kernel
theorem dX10_init_147 : decode cX10_init 147 = .ok (.newarray .int, 2) := by decide +kernel
theorem dX10_init_149 : decode cX10_init 149 = .ok (.putfield 70, 3) := by decide +kernel
theorem dX10_init_152 : decode cX10_init 152 = .ok (.aload_n 0, 1) := by decide +kernel
theorem dX10_init_153 : decode cX10_init 153 = .ok (.iconst 4, 1) := by decide +kernel
theorem dX10_init_154 : decode cX10_init 154 = .ok (.newarray .int, 2) := by decide +kernel
theorem dX10_init_156 : decode cX10_init 156 = .ok (.putfield 73, 3) := by decide +kernel
theorem dX10_init_159 : decode cX10_init 159 = .ok (.aload_n 0, 1) := by decide +kernel
theorem dX10_init_160 : decode cX10_init 160 = .ok (.iconst 4, 1) := by decide +kernel
theorem dX10_init_161 : decode cX10_init 161 = .ok (.newarray .int, 2) := by decide +kernel
theorem dX10_init_163 : decode cX10_init 163 = .ok (.putfield 76, 3) := by decide +kernel
theorem dX10_init_166 : decode cX10_init 166 = .ok (.aload_n 0, 1) := by decide +kernel
theorem dX10_init_167 : decode cX10_init 167 = .ok (.bipush 10, 2) := by decide +kernel
theorem dX10_init_169 : decode cX10_init 169 = .ok (.newarray .int, 2) := by decide +kernel
theorem dX10_init_171 : decode cX10_init 171 = .ok (.putfield 79, 3) := by decide +kernel
theorem dX10_init_174 : decode cX10_init 174 = .ok (.aload_n 0, 1) := by decide +kernel
theorem dX10_init_175 : decode cX10_init 175 = .ok (.bipush 10, 2) := by decide +kernel
theorem dX10_init_177 : decode cX10_init 177 = .ok (.newarray .int, 2) := by decide +kernel
theorem dX10_init_179 : decode cX10_init 179 = .ok (.putfield 82, 3) := by decide +kernel
theorem dX10_init_182 : decode cX10_init 182 = .ok (.aload_n 0, 1) := by decide +kernel
theorem dX10_init_183 : decode cX10_init 183 = .ok (.bipush 10, 2) := by decide +kernel
theorem dX10_init_185 : decode cX10_init 185 = .ok (.newarray .int, 2) := by decide +kernel
theorem dX10_init_187 : decode cX10_init 187 = .ok (.putfield 85, 3) := by decide +kernel
theorem dX10_init_190 : decode cX10_init 190 = .ok (.aload_n 0, 1) := by decide +kernel
theorem dX10_init_191 : decode cX10_init 191 = .ok (.sipush 400, 3) := by decide +kernel
theorem dX10_init_194 : decode cX10_init 194 = .ok (.newarray .int, 2) := by decide +kernel
theorem dX10_init_196 : decode cX10_init 196 = .ok (.putfield 88, 3) := by decide +kernel
theorem dX10_init_199 : decode cX10_init 199 = .ok (.aload_n 0, 1) := by decide +kernel
theorem dX10_init_200 : decode cX10_init 200 = .ok (.sipush 144, 3) := by decide +kernel
theorem dX10_init_203 : decode cX10_init 203 = .ok (.newarray .int, 2) := by decide +kernel
theorem dX10_init_205 : decode cX10_init 205 = .ok (.putfield 91, 3) := by decide +kernel
theorem dX10_init_208 : decode cX10_init 208 = .ok (.aload_n 0, 1) := by decide +kernel
theorem dX10_init_209 : decode cX10_init 209 = .ok (.bipush 82, 2) := by decide +kernel
theorem dX10_init_211 : decode cX10_init 211 = .ok (.newarray .int, 2) := by decide +kernel
theorem dX10_init_213 : decode cX10_init 213 = .ok (.putfield 94, 3) := by decide +kernel
theorem dX10_init_216 : decode cX10_init 216 = .ok (.aload_n 0, 1) := by decide +kernel
theorem dX10_init_217 : decode cX10_init 217 = .ok (.iconst 2, 1) := by decide +kernel
theorem dX10_init_218 : decode cX10_init 218 = .ok (.newarray .int, 2) := by decide +kernel
theorem dX10_init_220 : decode cX10_init 220 = .ok (.putfield 97, 3) := by decide +kernel
theorem dX10_init_223 : decode cX10_init 223 = .ok (.aload_n 0, 1) := by decide +kernel
theorem dX10_init_224 : decode cX10_init 224 = .ok (.iconst 2, 1) := by decide +kernel
theorem dX10_init_225 : decode cX10_init 225 = .ok (.newarray .boolean, 2) := by decide +kernel
theorem dX10_init_227 : decode cX10_init 227 = .ok (.putfield 100, 3) := by decide +kernel
theorem dX10_init_230 : decode cX10_init 230 = .ok (.aload_n 0, 1) := by decide +kernel
theorem dX10_init_231 : decode cX10_init 231 = .ok (.iconst (-1), 1) := by decide +kernel
theorem dX10_init_232 : decode cX10_init 232 = .ok (.putfield 104, 3) := by decide +kernel
theorem dX10_init_235 : decode cX10_init 235 = .ok (.aload_n 0, 1) := by decide +kernel
theorem dX10_init_236 : decode cX10_init 236 = .ok (.ldc 107, 2) := by decide +kernel
theorem dX10_init_238 : decode cX10_init 238 = .ok (.newarray .int, 2) := by decide +kernel
theorem dX10_init_240 : decode cX10_init 240 = .ok (.putfield 108, 3) := by decide +kernel
theorem dX10_init_243 : decode cX10_init 243 = .ok (.aload_n 0, 1) := by decide +kernel
theorem dX10_init_244 : decode cX10_init 244 = .ok (.bipush 12, 2) := by decide +kernel
theorem dX10_init_246 : decode cX10_init 246 = .ok (.newarray .int, 2) := by decide +kernel
theorem dX10_init_248 : decode cX10_init 248 = .ok (.putfield 111, 3) := by decide +kernel
theorem dX10_init_251 : decode cX10_init 251 = .ok (.aload_n 0, 1) := by decide +kernel
theorem dX10_init_252 : decode cX10_init 252 = .ok (.bipush 12, 2) := by decide +kernel
theorem dX10_init_254 : decode cX10_init 254 = .ok (.newarray .int, 2) := by decide +kernel
theorem dX10_init_256 : decode cX10_init 256 = .ok (.putfield 114, 3) := by decide +kernel
theorem dX10_init_259 : decode cX10_init 259 = .ok (.aload_n 0, 1) := by decide +kernel
theorem dX10_init_260 : decode cX10_init 260 = .ok (.bipush 12, 2) := by decide +kernel
theorem dX10_init_262 : decode cX10_init 262 = .ok (.newarray .int, 2) := by decide +kernel
theorem dX10_init_264 : decode cX10_init 264 = .ok (.putfield 117, 3) := by decide +kernel
theorem dX10_init_267 : decode cX10_init 267 = .ok (.return_, 1) := by decide +kernel
theorem dX10_in_0 : decode cX10_in 0 = .ok (.lload_n 0, 1) := by decide +kernel
theorem dX10_in_1 : decode cX10_in 1 = .ok (.lload_n 2, 1) := by decide +kernel
theorem dX10_in_2 : decode cX10_in 2 = .ok (.lcmp, 1) := by decide +kernel
theorem dX10_in_3 : decode cX10_in 3 = .ok (.ifCond .lt 14, 3) := by decide +kernel
theorem dX10_in_6 : decode cX10_in 6 = .ok (.lload_n 0, 1) := by decide +kernel
theorem dX10_in_7 : decode cX10_in 7 = .ok (.lload 4, 2) := by decide +kernel
theorem dX10_in_9 : decode cX10_in 9 = .ok (.lcmp, 1) := by decide +kernel
theorem dX10_in_10 : decode cX10_in 10 = .ok (.ifCond .gt 7, 3) := by decide +kernel
theorem dX10_in_13 : decode cX10_in 13 = .ok (.iconst 1, 1) := by decide +kernel
theorem dX10_in_14 : decode cX10_in 14 = .ok (.goto 4, 3) := by decide +kernel
theorem dX10_in_17 : decode cX10_in 17 = .ok (.iconst 0, 1) := by decide +kernel
theorem dX10_in_18 : decode cX10_in 18 = .ok (.ireturn, 1) := by decide +kernel
theorem dX10_size_0 : decode cX10_size 0 = .ok (.iload_n 0, 1) := by decide +kernel
theorem dX10_size_1 : decode cX10_size 1 = .ok (.ifCond .ge 8, 3) := by decide +kernel
theorem dX10_size_4 : decode cX10_size 4 = .ok (.iload_n 0, 1) := by decide +kernel
theorem dX10_size_5 : decode cX10_size 5 = .ok (.ineg, 1) := by decide +kernel
theorem dX10_size_6 : decode cX10_size 6 = .ok (.goto 4, 3) := by decide +kernel
theorem dX10_size_9 : decode cX10_size 9 = .ok (.iload_n 0, 1) := by decide +kernel
theorem dX10_size_10 : decode cX10_size 10 = .ok (.ireturn, 1) := by decide +kernel
theorem dX10_isPlan_0 : decode cX10_isPlan 0 = .ok (.iload_n 0, 1) := by decide +kernel
theorem dX10_isPlan_1 : decode cX10_isPlan 1 = .ok (.i2l, 1) := by decide +kernel
theorem dX10_isPlan_2 : decode cX10_isPlan 2 = .ok (.lconst 0, 1) := by decide +kernel
theorem dX10_isPlan_3 : decode cX10_isPlan 3 = .ok (.ldc2_w 120, 3) := by decide +kernel
theorem dX10_isPlan_6 : decode cX10_isPlan 6 = .ok (.invokestatic 122, 3) := by decide +kernel
theorem dX10_isPlan_9 : decode cX10_isPlan 9 = .ok (.ireturn, 1) := by decide +kernel
theorem dX10_turn_0 : decode cX10_turn 0 = .ok (.iload_n 1, 1) := by decide +kernel
theorem dX10_turn_1 : decode cX10_turn 1 = .ok (.invokestatic 126, 3) := by decide +kernel
theorem dX10_turn_4 : decode cX10_turn 4 = .ok (.ifCond .ne 5, 3) := by decide +kernel
theorem dX10_turn_7 : decode cX10_turn 7 = .ok (.iconst (-1), 1) := by decide +kernel
theorem dX10_turn_8 : decode cX10_turn 8 = .ok (.ireturn, 1) := by decide +kernel
theorem dX10_turn_9 : decode cX10_turn 9 = .ok (.iload_n 2, 1) := by decide +kernel
theorem dX10_turn_10 : decode cX10_turn 10 = .ok (.i2l, 1) := by decide +kernel
theorem dX10_turn_11 : decode cX10_turn 11 = .ok (.lconst 0, 1) := by decide +kernel
theorem dX10_turn_12 : decode cX10_turn 12 = .ok (.ldc2_w 130, 3) := by decide +kernel
theorem dX10_turn_15 : decode cX10_turn 15 = .ok (.invokestatic 122, 3) := by decide +kernel
theorem dX10_turn_18 : decode cX10_turn 18 = .ok (.ifCond .eq 17, 3) := by decide +kernel
theorem dX10_turn_21 : decode cX10_turn 21 = .ok (.iload_n 3, 1) := by decide +kernel
theorem dX10_turn_22 : decode cX10_turn 22 = .ok (.i2l, 1) := by decide +kernel
theorem dX10_turn_23 : decode cX10_turn 23 = .ok (.ldc2_w 132, 3) := by decide +kernel
theorem dX10_turn_26 : decode cX10_turn 26 = .ok (.ldc2_w 134, 3) := by decide +kernel
theorem dX10_turn_29 : decode cX10_turn 29 = .ok (.invokestatic 122, 3) := by decide +kernel
theorem dX10_turn_32 : decode cX10_turn 32 = .ok (.ifCond .ne 6, 3) := by decide +kernel
theorem dX10_turn_35 : decode cX10_turn 35 = .ok (.bipush (-2), 2) := by decide +kernel
theorem dX10_turn_37 : decode cX10_turn 37 = .ok (.ireturn, 1) := by decide +kernel
theorem dX10_turn_38 : decode cX10_turn 38 = .ok (.aload_n 0, 1) := by decide +kernel
theorem dX10_turn_39 : decode cX10_turn 39 = .ok (.getfield 16, 3) := by decide +kernel
theorem dX10_turn_42 : decode cX10_turn 42 = .ok (.iload_n 1, 1) := by decide +kernel
theorem dX10_turn_43 : decode cX10_turn 43 = .ok (.iaload, 1) := by decide +kernel
theorem dX10_turn_44 : decode cX10_turn 44 = .ok (.istore 4, 2) := by decide +kernel
theorem dX10_turn_46 : decode cX10_turn 46 = .ok (.iload 4, 2) := by decide +kernel
theorem dX10_turn_48 : decode cX10_turn 48 = .ok (.bipush 12, 2) := by decide +kernel
theorem dX10_turn_50 : decode cX10_turn 50 = .ok (.if_icmp .ne 6, 3) := by decide +kernel
theorem dX10_turn_53 : decode cX10_turn 53 = .ok (.bipush (-4), 2) := by decide +kernel
theorem dX10_turn_55 : decode cX10_turn 55 = .ok (.ireturn, 1) := by decide +kernel
theorem dX10_turn_56 : decode cX10_turn 56 = .ok (.iload 4, 2) := by decide +kernel
theorem dX10_turn_58 : decode cX10_turn 58 = .ok (.istore 5, 2) := by decide +kernel
theorem dX10_turn_60 : decode cX10_turn 60 = .ok (.iconst 0, 1) := by decide +kernel
theorem dX10_turn_61 : decode cX10_turn 61 = .ok (.istore 6, 2) := by decide +kernel
theorem dX10_turn_63 : decode cX10_turn 63 = .ok (.iload 6, 2) := by decide +kernel
theorem dX10_turn_65 : decode cX10_turn 65 = .ok (.iload 4, 2) := by decide +kernel
theorem dX10_turn_67 : decode cX10_turn 67 = .ok (.if_icmp .ge 28, 3) := by decide +kernel
theorem dX10_turn_70 : decode cX10_turn 70 = .ok (.aload_n 0, 1) := by decide +kernel
theorem dX10_turn_71 : decode cX10_turn 71 = .ok (.getfield 7, 3) := by decide +kernel
theorem dX10_turn_74 : decode cX10_turn 74 = .ok (.bipush 12, 2) := by decide +kernel
theorem dX10_turn_76 : decode cX10_turn 76 = .ok (.iload_n 1, 1) := by decide +kernel
theorem dX10_turn_77 : decode cX10_turn 77 = .ok (.imul, 1) := by decide +kernel
theorem dX10_turn_78 : decode cX10_turn 78 = .ok (.iload 6, 2) := by decide +kernel
theorem dX10_turn_80 : decode cX10_turn 80 = .ok (.iadd, 1) := by decide +kernel
theorem dX10_turn_81 : decode cX10_turn 81 = .ok (.iaload, 1) := by decide +kernel
theorem dX10_turn_82 : decode cX10_turn 82 = .ok (.iload_n 2, 1) := by decide +kernel
theorem dX10_turn_83 : decode cX10_turn 83 = .ok (.if_icmp .ne 6, 3) := by decide +kernel
theorem dX10_turn_86 : decode cX10_turn 86 = .ok (.bipush (-5), 2) := by decide +kernel
theorem dX10_turn_88 : decode cX10_turn 88 = .ok (.ireturn, 1) := by decide +kernel
theorem dX10_turn_89 : decode cX10_turn 89 = .ok (.iinc 6 1, 3) := by decide +kernel
theorem dX10_turn_92 : decode cX10_turn 92 = .ok (.goto (-29), 3) := by decide +kernel
theorem dX10_turn_95 : decode cX10_turn 95 = .ok (.iload 5, 2) := by decide +kernel
theorem dX10_turn_97 : decode cX10_turn 97 = .ok (.ifCond .le 79, 3) := by decide +kernel
theorem dX10_turn_100 : decode cX10_turn 100 = .ok (.aload_n 0, 1) := by decide +kernel
theorem dX10_turn_101 : decode cX10_turn 101 = .ok (.getfield 7, 3) := by decide +kernel
theorem dX10_turn_104 : decode cX10_turn 104 = .ok (.bipush 12, 2) := by decide +kernel
theorem dX10_turn_106 : decode cX10_turn 106 = .ok (.iload_n 1, 1) := by decide +kernel
theorem dX10_turn_107 : decode cX10_turn 107 = .ok (.imul, 1) := by decide +kernel
theorem dX10_turn_108 : decode cX10_turn 108 = .ok (.iload 5, 2) := by decide +kernel
theorem dX10_turn_110 : decode cX10_turn 110 = .ok (.iadd, 1) := by decide +kernel
theorem dX10_turn_111 : decode cX10_turn 111 = .ok (.iconst 1, 1) := by decide +kernel
theorem dX10_turn_112 : decode cX10_turn 112 = .ok (.isub, 1) := by decide +kernel
theorem dX10_turn_113 : decode cX10_turn 113 = .ok (.iaload, 1) := by decide +kernel
theorem dX10_turn_114 : decode cX10_turn 114 = .ok (.iload_n 2, 1) := by decide +kernel
theorem dX10_turn_115 : decode cX10_turn 115 = .ok (.if_icmp .le 61, 3) := by decide +kernel
theorem dX10_turn_118 : decode cX10_turn 118 = .ok (.aload_n 0, 1) := by decide +kernel
theorem dX10_turn_119 : decode cX10_turn 119 = .ok (.getfield 7, 3) := by decide +kernel
theorem dX10_turn_122 : decode cX10_turn 122 = .ok (.bipush 12, 2) := by decide +kernel
theorem dX10_turn_124 : decode cX10_turn 124 = .ok (.iload_n 1, 1) := by decide +kernel
theorem dX10_turn_125 : decode cX10_turn 125 = .ok (.imul, 1) := by decide +kernel
theorem dX10_turn_126 : decode cX10_turn 126 = .ok (.iload 5, 2) := by decide +kernel
theorem dX10_turn_128 : decode cX10_turn 128 = .ok (.iadd, 1) := by decide +kernel
theorem dX10_turn_129 : decode cX10_turn 129 = .ok (.aload_n 0, 1) := by decide +kernel
theorem dX10_turn_130 : decode cX10_turn 130 = .ok (.getfield 7, 3) := by decide +kernel
theorem dX10_turn_133 : decode cX10_turn 133 = .ok (.bipush 12, 2) := by decide +kernel
theorem dX10_turn_135 : decode cX10_turn 135 = .ok (.iload_n 1, 1) := by decide +kernel
theorem dX10_turn_136 : decode cX10_turn 136 = .ok (.imul, 1) := by decide +kernel
theorem dX10_turn_137 : decode cX10_turn 137 = .ok (.iload 5, 2) := by decide +kernel
theorem dX10_turn_139 : decode cX10_turn 139 = .ok (.iadd, 1) := by decide +kernel
theorem dX10_turn_140 : decode cX10_turn 140 = .ok (.iconst 1, 1) := by decide +kernel
theorem dX10_turn_141 : decode cX10_turn 141 = .ok (.isub, 1) := by decide +kernel
theorem dX10_turn_142 : decode cX10_turn 142 = .ok (.iaload, 1) := by decide +kernel
theorem dX10_turn_143 : decode cX10_turn 143 = .ok (.iastore, 1) := by decide +kernel
theorem dX10_turn_144 : decode cX10_turn 144 = .ok (.aload_n 0, 1) := by decide +kernel
theorem dX10_turn_145 : decode cX10_turn 145 = .ok (.getfield 13, 3) := by decide +kernel
theorem dX10_turn_148 : decode cX10_turn 148 = .ok (.bipush 12, 2) := by decide +kernel
theorem dX10_turn_150 : decode cX10_turn 150 = .ok (.iload_n 1, 1) := by decide +kernel
theorem dX10_turn_151 : decode cX10_turn 151 = .ok (.imul, 1) := by decide +kernel
theorem dX10_turn_152 : decode cX10_turn 152 = .ok (.iload 5, 2) := by decide +kernel
theorem dX10_turn_154 : decode cX10_turn 154 = .ok (.iadd, 1) := by decide +kernel
theorem dX10_turn_155 : decode cX10_turn 155 = .ok (.aload_n 0, 1) := by decide +kernel
theorem dX10_turn_156 : decode cX10_turn 156 = .ok (.getfield 13, 3) := by decide +kernel
theorem dX10_turn_159 : decode cX10_turn 159 = .ok (.bipush 12, 2) := by decide +kernel
theorem dX10_turn_161 : decode cX10_turn 161 = .ok (.iload_n 1, 1) := by decide +kernel
theorem dX10_turn_162 : decode cX10_turn 162 = .ok (.imul, 1) := by decide +kernel
theorem dX10_turn_163 : decode cX10_turn 163 = .ok (.iload 5, 2) := by decide +kernel
theorem dX10_turn_165 : decode cX10_turn 165 = .ok (.iadd, 1) := by decide +kernel
theorem dX10_turn_166 : decode cX10_turn 166 = .ok (.iconst 1, 1) := by decide +kernel
theorem dX10_turn_167 : decode cX10_turn 167 = .ok (.isub, 1) := by decide +kernel
theorem dX10_turn_168 : decode cX10_turn 168 = .ok (.iaload, 1) := by decide +kernel
theorem dX10_turn_169 : decode cX10_turn 169 = .ok (.iastore, 1) := by decide +kernel
theorem dX10_turn_170 : decode cX10_turn 170 = .ok (.iinc 5 (-1), 3) := by decide +kernel
theorem dX10_turn_173 : decode cX10_turn 173 = .ok (.goto (-78), 3) := by decide +kernel
theorem dX10_turn_176 : decode cX10_turn 176 = .ok (.aload_n 0, 1) := by decide +kernel
theorem dX10_turn_177 : decode cX10_turn 177 = .ok (.getfield 7, 3) := by decide +kernel
theorem dX10_turn_180 : decode cX10_turn 180 = .ok (.bipush 12, 2) := by decide +kernel
theorem dX10_turn_182 : decode cX10_turn 182 = .ok (.iload_n 1, 1) := by decide +kernel
theorem dX10_turn_183 : decode cX10_turn 183 = .ok (.imul, 1) := by decide +kernel
theorem dX10_turn_184 : decode cX10_turn 184 = .ok (.iload 5, 2) := by decide +kernel
theorem dX10_turn_186 : decode cX10_turn 186 = .ok (.iadd, 1) := by decide +kernel
theorem dX10_turn_187 : decode cX10_turn 187 = .ok (.iload_n 2, 1) := by decide +kernel
theorem dX10_turn_188 : decode cX10_turn 188 = .ok (.iastore, 1) := by decide +kernel
theorem dX10_turn_189 : decode cX10_turn 189 = .ok (.aload_n 0, 1) := by decide +kernel
theorem dX10_turn_190 : decode cX10_turn 190 = .ok (.getfield 13, 3) := by decide +kernel
theorem dX10_turn_193 : decode cX10_turn 193 = .ok (.bipush 12, 2) := by decide +kernel
theorem dX10_turn_195 : decode cX10_turn 195 = .ok (.iload_n 1, 1) := by decide +kernel
theorem dX10_turn_196 : decode cX10_turn 196 = .ok (.imul, 1) := by decide +kernel
theorem dX10_turn_197 : decode cX10_turn 197 = .ok (.iload 5, 2) := by decide +kernel
theorem dX10_turn_199 : decode cX10_turn 199 = .ok (.iadd, 1) := by decide +kernel
theorem dX10_turn_200 : decode cX10_turn 200 = .ok (.iload_n 3, 1) := by decide +kernel
theorem dX10_turn_201 : decode cX10_turn 201 = .ok (.iastore, 1) := by decide +kernel
theorem dX10_turn_202 : decode cX10_turn 202 = .ok (.aload_n 0, 1) := by decide +kernel
theorem dX10_turn_203 : decode cX10_turn 203 = .ok (.getfield 16, 3) := by decide +kernel
theorem dX10_turn_206 : decode cX10_turn 206 = .ok (.iload_n 1, 1) := by decide +kernel
theorem dX10_turn_207 : decode cX10_turn 207 = .ok (.dup2, 1) := by decide +kernel
theorem dX10_turn_208 : decode cX10_turn 208 = .ok (.iaload, 1) := by decide +kernel
theorem dX10_turn_209 : decode cX10_turn 209 = .ok (.iconst 1, 1) := by decide +kernel
theorem dX10_turn_210 : decode cX10_turn 210 = .ok (.iadd, 1) := by decide +kernel
theorem dX10_turn_211 : decode cX10_turn 211 = .ok (.iastore, 1) := by decide +kernel
theorem dX10_turn_212 : decode cX10_turn 212 = .ok (.aload_n 0, 1) := by decide +kernel
theorem dX10_turn_213 : decode cX10_turn 213 = .ok (.getfield 16, 3) := by decide +kernel
theorem dX10_turn_216 : decode cX10_turn 216 = .ok (.iload_n 1, 1) := by decide +kernel
theorem dX10_turn_217 : decode cX10_turn 217 = .ok (.iaload, 1) := by decide +kernel
theorem dX10_turn_218 : decode cX10_turn 218 = .ok (.ireturn, 1) := by decide +kernel
theorem dX10_clear_0 : decode cX10_clear 0 = .ok (.iload_n 1, 1) := by decide +kernel
theorem dX10_clear_1 : decode cX10_clear 1 = .ok (.invokestatic 126, 3) := by decide +kernel
theorem dX10_clear_4 : decode cX10_clear 4 = .ok (.ifCond .ne 5, 3) := by decide +kernel
theorem dX10_clear_7 : decode cX10_clear 7 = .ok (.iconst (-1), 1) := by decide +kernel
theorem dX10_clear_8 : decode cX10_clear 8 = .ok (.ireturn, 1) := by decide +kernel
theorem dX10_clear_9 : decode cX10_clear 9 = .ok (.aload_n 0, 1) := by decide +kernel
theorem dX10_clear_10 : decode cX10_clear 10 = .ok (.getfield 16, 3) := by decide +kernel
theorem dX10_clear_13 : decode cX10_clear 13 = .ok (.iload_n 1, 1) := by decide +kernel
theorem dX10_clear_14 : decode cX10_clear 14 = .ok (.iaload, 1) := by decide +kernel
theorem dX10_clear_15 : decode cX10_clear 15 = .ok (.istore_n 2, 1) := by decide +kernel
theorem dX10_clear_16 : decode cX10_clear 16 = .ok (.aload_n 0, 1) := by decide +kernel
theorem dX10_clear_17 : decode cX10_clear 17 = .ok (.getfield 16, 3) := by decide +kernel
theorem dX10_clear_20 : decode cX10_clear 20 = .ok (.iload_n 1, 1) := by decide +kernel
theorem dX10_clear_21 : decode cX10_clear 21 = .ok (.iconst 0, 1) := by decide +kernel
theorem dX10_clear_22 : decode cX10_clear 22 = .ok (.iastore, 1) := by decide +kernel
theorem dX10_clear_23 : decode cX10_clear 23 = .ok (.iload_n 2, 1) := by decide +kernel
theorem dX10_clear_24 : decode cX10_clear 24 = .ok (.ireturn, 1) := by decide +kernel
theorem dX10_ofTurn_0 : decode cX10_ofTurn 0 = .ok (.iload_n 1, 1) := by decide +kernel
theorem dX10_ofTurn_1 : decode cX10_ofTurn 1 = .ok (.invokestatic 126, 3) := by decide +kernel
theorem dX10_ofTurn_4 : decode cX10_ofTurn 4 = .ok (.ifCond .eq 21, 3) := by decide +kernel
theorem dX10_ofTurn_7 : decode cX10_ofTurn 7 = .ok (.iload_n 2, 1) := by decide +kernel
theorem dX10_ofTurn_8 : decode cX10_ofTurn 8 = .ok (.i2l, 1) := by decide +kernel
theorem dX10_ofTurn_9 : decode cX10_ofTurn 9 = .ok (.lconst 0, 1) := by decide +kernel
theorem dX10_ofTurn_10 : decode cX10_ofTurn 10 = .ok (.aload_n 0, 1) := by decide +kernel
theorem dX10_ofTurn_11 : decode cX10_ofTurn 11 = .ok (.getfield 16, 3) := by decide +kernel
theorem dX10_ofTurn_14 : decode cX10_ofTurn 14 = .ok (.iload_n 1, 1) := by decide +kernel
theorem dX10_ofTurn_15 : decode cX10_ofTurn 15 = .ok (.iaload, 1) := by decide +kernel
theorem dX10_ofTurn_16 : decode cX10_ofTurn 16 = .ok (.iconst 1, 1) := by decide +kernel
theorem dX10_ofTurn_17 : decode cX10_ofTurn 17 = .ok (.isub, 1) := by decide +kernel
theorem dX10_ofTurn_18 : decode cX10_ofTurn 18 = .ok (.i2l, 1) := by decide +kernel
theorem dX10_ofTurn_19 : decode cX10_ofTurn 19 = .ok (.invokestatic 122, 3) := by decide +kernel
theorem dX10_ofTurn_22 : decode cX10_ofTurn 22 = .ok (.ifCond .ne 6, 3) := by decide +kernel
theorem dX10_ofTurn_25 : decode cX10_ofTurn 25 = .ok (.bipush (-101), 2) := by decide +kernel
theorem dX10_ofTurn_27 : decode cX10_ofTurn 27 = .ok (.ireturn, 1) := by decide +kernel
theorem dX10_ofTurn_28 : decode cX10_ofTurn 28 = .ok (.iload_n 3, 1) := by decide +kernel
theorem dX10_ofTurn_29 : decode cX10_ofTurn 29 = .ok (.ifCond .ne 17, 3) := by decide +kernel
theorem dX10_ofTurn_32 : decode cX10_ofTurn 32 = .ok (.aload_n 0, 1) := by decide +kernel
theorem dX10_ofTurn_33 : decode cX10_ofTurn 33 = .ok (.getfield 7, 3) := by decide +kernel
theorem dX10_ofTurn_36 : decode cX10_ofTurn 36 = .ok (.bipush 12, 2) := by decide +kernel
theorem dX10_ofTurn_38 : decode cX10_ofTurn 38 = .ok (.iload_n 1, 1) := by decide +kernel
theorem dX10_ofTurn_39 : decode cX10_ofTurn 39 = .ok (.imul, 1) := by decide +kernel
theorem dX10_ofTurn_40 : decode cX10_ofTurn 40 = .ok (.iload_n 2, 1) := by decide +kernel
theorem dX10_ofTurn_41 : decode cX10_ofTurn 41 = .ok (.iadd, 1) := by decide +kernel
theorem dX10_ofTurn_42 : decode cX10_ofTurn 42 = .ok (.iaload, 1) := by decide +kernel
theorem dX10_ofTurn_43 : decode cX10_ofTurn 43 = .ok (.goto 24, 3) := by decide +kernel
theorem dX10_ofTurn_46 : decode cX10_ofTurn 46 = .ok (.iload_n 3, 1) := by decide +kernel
theorem dX10_ofTurn_47 : decode cX10_ofTurn 47 = .ok (.iconst 1, 1) := by decide +kernel
theorem dX10_ofTurn_48 : decode cX10_ofTurn 48 = .ok (.if_icmp .ne 17, 3) := by decide +kernel
theorem dX10_ofTurn_51 : decode cX10_ofTurn 51 = .ok (.aload_n 0, 1) := by decide +kernel
theorem dX10_ofTurn_52 : decode cX10_ofTurn 52 = .ok (.getfield 13, 3) := by decide +kernel
theorem dX10_ofTurn_55 : decode cX10_ofTurn 55 = .ok (.bipush 12, 2) := by decide +kernel
theorem dX10_ofTurn_57 : decode cX10_ofTurn 57 = .ok (.iload_n 1, 1) := by decide +kernel
theorem dX10_ofTurn_58 : decode cX10_ofTurn 58 = .ok (.imul, 1) := by decide +kernel
theorem dX10_ofTurn_59 : decode cX10_ofTurn 59 = .ok (.iload_n 2, 1) := by decide +kernel
theorem dX10_ofTurn_60 : decode cX10_ofTurn 60 = .ok (.iadd, 1) := by decide +kernel
theorem dX10_ofTurn_61 : decode cX10_ofTurn 61 = .ok (.iaload, 1) := by decide +kernel
theorem dX10_ofTurn_62 : decode cX10_ofTurn 62 = .ok (.goto 5, 3) := by decide +kernel
theorem dX10_ofTurn_65 : decode cX10_ofTurn 65 = .ok (.bipush (-102), 2) := by decide +kernel
theorem dX10_ofTurn_67 : decode cX10_ofTurn 67 = .ok (.ireturn, 1) := by decide +kernel
theorem dX10_missNone_0 : decode cX10_missNone 0 = .ok (.iconst 0, 1) := by decide +kernel
theorem dX10_missNone_1 : decode cX10_missNone 1 = .ok (.istore_n 1, 1) := by decide +kernel
theorem dX10_missNone_2 : decode cX10_missNone 2 = .ok (.iload_n 1, 1) := by decide +kernel
theorem dX10_missNone_3 : decode cX10_missNone 3 = .ok (.bipush 11, 2) := by decide +kernel
theorem dX10_missNone_5 : decode cX10_missNone 5 = .ok (.if_icmp .ge 16, 3) := by decide +kernel
theorem dX10_missNone_8 : decode cX10_missNone 8 = .ok (.aload_n 0, 1) := by decide +kernel
theorem dX10_missNone_9 : decode cX10_missNone 9 = .ok (.getfield 19, 3) := by decide +kernel
theorem dX10_missNone_12 : decode cX10_missNone 12 = .ok (.iload_n 1, 1) := by decide +kernel
theorem dX10_missNone_13 : decode cX10_missNone 13 = .ok (.iconst 0, 1) := by decide +kernel
theorem dX10_missNone_14 : decode cX10_missNone 14 = .ok (.iastore, 1) := by decide +kernel
theorem dX10_missNone_15 : decode cX10_missNone 15 = .ok (.iinc 1 1, 3) := by decide +kernel
theorem dX10_missNone_18 : decode cX10_missNone 18 = .ok (.goto (-16), 3) := by decide +kernel
theorem dX10_missNone_21 : decode cX10_missNone 21 = .ok (.return_, 1) := by decide +kernel
theorem dX10_courseAt_0 : decode cX10_courseAt 0 = .ok (.iconst 0, 1) := by decide +kernel
theorem dX10_courseAt_1 : decode cX10_courseAt 1 = .ok (.istore_n 3, 1) := by decide +kernel
theorem dX10_courseAt_2 : decode cX10_courseAt 2 = .ok (.iload_n 2, 1) := by decide +kernel
theorem dX10_courseAt_3 : decode cX10_courseAt 3 = .ok (.ifCond .ge 5, 3) := by decide +kernel
theorem dX10_courseAt_6 : decode cX10_courseAt 6 = .ok (.iconst 0, 1) := by decide +kernel
theorem dX10_courseAt_7 : decode cX10_courseAt 7 = .ok (.ireturn, 1) := by decide +kernel
theorem dX10_courseAt_8 : decode cX10_courseAt 8 = .ok (.iload_n 2, 1) := by decide +kernel
theorem dX10_courseAt_9 : decode cX10_courseAt 9 = .ok (.bipush 60, 2) := by decide +kernel
theorem dX10_courseAt_11 : decode cX10_courseAt 11 = .ok (.idiv, 1) := by decide +kernel
theorem dX10_courseAt_12 : decode cX10_courseAt 12 = .ok (.istore 4, 2) := by decide +kernel
theorem dX10_courseAt_14 : decode cX10_courseAt 14 = .ok (.iconst 0, 1) := by decide +kernel
theorem dX10_courseAt_15 : decode cX10_courseAt 15 = .ok (.istore 5, 2) := by decide +kernel
theorem dX10_courseAt_17 : decode cX10_courseAt 17 = .ok (.iload 5, 2) := by decide +kernel
theorem dX10_courseAt_19 : decode cX10_courseAt 19 = .ok (.aload_n 0, 1) := by decide +kernel
theorem dX10_courseAt_20 : decode cX10_courseAt 20 = .ok (.getfield 16, 3) := by decide +kernel
theorem dX10_courseAt_23 : decode cX10_courseAt 23 = .ok (.iload_n 1, 1) := by decide +kernel
theorem dX10_courseAt_24 : decode cX10_courseAt 24 = .ok (.iaload, 1) := by decide +kernel
theorem dX10_courseAt_25 : decode cX10_courseAt 25 = .ok (.if_icmp .ge 72, 3) := by decide +kernel
theorem dX10_courseAt_28 : decode cX10_courseAt 28 = .ok (.aload_n 0, 1) := by decide +kernel
theorem dX10_courseAt_29 : decode cX10_courseAt 29 = .ok (.getfield 7, 3) := by decide +kernel
theorem dX10_courseAt_32 : decode cX10_courseAt 32 = .ok (.bipush 12, 2) := by decide +kernel
theorem dX10_courseAt_34 : decode cX10_courseAt 34 = .ok (.iload_n 1, 1) := by decide +kernel
theorem dX10_courseAt_35 : decode cX10_courseAt 35 = .ok (.imul, 1) := by decide +kernel
theorem dX10_courseAt_36 : decode cX10_courseAt 36 = .ok (.iload 5, 2) := by decide +kernel
theorem dX10_courseAt_38 : decode cX10_courseAt 38 = .ok (.iadd, 1) := by decide +kernel
theorem dX10_courseAt_39 : decode cX10_courseAt 39 = .ok (.iaload, 1) := by decide +kernel
theorem dX10_courseAt_40 : decode cX10_courseAt 40 = .ok (.iload_n 2, 1) := by decide +kernel
theorem dX10_courseAt_41 : decode cX10_courseAt 41 = .ok (.bipush 60, 2) := by decide +kernel
theorem dX10_courseAt_43 : decode cX10_courseAt 43 = .ok (.irem, 1) := by decide +kernel
theorem dX10_courseAt_44 : decode cX10_courseAt 44 = .ok (.if_icmp .gt 22, 3) := by decide +kernel
theorem dX10_courseAt_47 : decode cX10_courseAt 47 = .ok (.aload_n 0, 1) := by decide +kernel
theorem dX10_courseAt_48 : decode cX10_courseAt 48 = .ok (.getfield 19, 3) := by decide +kernel
theorem dX10_courseAt_51 : decode cX10_courseAt 51 = .ok (.iload 4, 2) := by decide +kernel
theorem dX10_courseAt_53 : decode cX10_courseAt 53 = .ok (.iaload, 1) := by decide +kernel
theorem dX10_courseAt_54 : decode cX10_courseAt 54 = .ok (.iload 5, 2) := by decide +kernel
theorem dX10_courseAt_56 : decode cX10_courseAt 56 = .ok (.ishr, 1) := by decide +kernel
theorem dX10_courseAt_57 : decode cX10_courseAt 57 = .ok (.iconst 1, 1) := by decide +kernel
theorem dX10_courseAt_58 : decode cX10_courseAt 58 = .ok (.iand, 1) := by decide +kernel
theorem dX10_courseAt_59 : decode cX10_courseAt 59 = .ok (.ifCond .ne 7, 3) := by decide +kernel
theorem dX10_courseAt_62 : decode cX10_courseAt 62 = .ok (.iconst 1, 1) := by decide +kernel
theorem dX10_courseAt_63 : decode cX10_courseAt 63 = .ok (.goto 4, 3) := by decide +kernel
theorem dX10_courseAt_66 : decode cX10_courseAt 66 = .ok (.iconst 0, 1) := by decide +kernel
theorem dX10_courseAt_67 : decode cX10_courseAt 67 = .ok (.istore 6, 2) := by decide +kernel
theorem dX10_courseAt_69 : decode cX10_courseAt 69 = .ok (.iload 6, 2) := by decide +kernel
theorem dX10_courseAt_71 : decode cX10_courseAt 71 = .ok (.ifCond .eq 18, 3) := by decide +kernel
theorem dX10_courseAt_74 : decode cX10_courseAt 74 = .ok (.aload_n 0, 1) := by decide +kernel
theorem dX10_courseAt_75 : decode cX10_courseAt 75 = .ok (.getfield 13, 3) := by decide +kernel
theorem dX10_courseAt_78 : decode cX10_courseAt 78 = .ok (.bipush 12, 2) := by decide +kernel
theorem dX10_courseAt_80 : decode cX10_courseAt 80 = .ok (.iload_n 1, 1) := by decide +kernel
theorem dX10_courseAt_81 : decode cX10_courseAt 81 = .ok (.imul, 1) := by decide +kernel
theorem dX10_courseAt_82 : decode cX10_courseAt 82 = .ok (.iload 5, 2) := by decide +kernel
theorem dX10_courseAt_84 : decode cX10_courseAt 84 = .ok (.iadd, 1) := by decide +kernel
theorem dX10_courseAt_85 : decode cX10_courseAt 85 = .ok (.iaload, 1) := by decide +kernel
theorem dX10_courseAt_86 : decode cX10_courseAt 86 = .ok (.goto 4, 3) := by decide +kernel
theorem dX10_courseAt_89 : decode cX10_courseAt 89 = .ok (.iload_n 3, 1) := by decide +kernel
theorem dX10_courseAt_90 : decode cX10_courseAt 90 = .ok (.istore_n 3, 1) := by decide +kernel
theorem dX10_courseAt_91 : decode cX10_courseAt 91 = .ok (.iinc 5 1, 3) := by decide +kernel
theorem dX10_courseAt_94 : decode cX10_courseAt 94 = .ok (.goto (-77), 3) := by decide +kernel
theorem dX10_courseAt_97 : decode cX10_courseAt 97 = .ok (.iload_n 3, 1) := by decide +kernel
theorem dX10_courseAt_98 : decode cX10_courseAt 98 = .ok (.ireturn, 1) := by decide +kernel
theorem dX10_course_0 : decode cX10_course 0 = .ok (.iload_n 1, 1) := by decide +kernel
theorem dX10_course_1 : decode cX10_course 1 = .ok (.invokestatic 126, 3) := by decide +kernel
theorem dX10_course_4 : decode cX10_course 4 = .ok (.ifCond .ne 6, 3) := by decide +kernel
theorem dX10_course_7 : decode cX10_course 7 = .ok (.bipush (-101), 2) := by decide +kernel
theorem dX10_course_9 : decode cX10_course 9 = .ok (.ireturn, 1) := by decide +kernel
theorem dX10_course_10 : decode cX10_course 10 = .ok (.iload_n 2, 1) := by decide +kernel
theorem dX10_course_11 : decode cX10_course 11 = .ok (.i2l, 1) := by decide +kernel
theorem dX10_course_12 : decode cX10_course 12 = .ok (.lconst 0, 1) := by decide +kernel
theorem dX10_course_13 : decode cX10_course 13 = .ok (.ldc2_w 136, 3) := by decide +kernel
theorem dX10_course_16 : decode cX10_course 16 = .ok (.invokestatic 122, 3) := by decide +kernel
theorem dX10_course_19 : decode cX10_course 19 = .ok (.ifCond .ne 6, 3) := by decide +kernel
theorem dX10_course_22 : decode cX10_course 22 = .ok (.bipush (-102), 2) := by decide +kernel
theorem dX10_course_24 : decode cX10_course 24 = .ok (.ireturn, 1) := by decide +kernel
theorem dX10_course_25 : decode cX10_course 25 = .ok (.aload_n 0, 1) := by decide +kernel
theorem dX10_course_26 : decode cX10_course 26 = .ok (.invokevirtual 138, 3) := by decide +kernel
theorem dX10_course_29 : decode cX10_course 29 = .ok (.aload_n 0, 1) := by decide +kernel
theorem dX10_course_30 : decode cX10_course 30 = .ok (.iload_n 1, 1) := by decide +kernel
theorem dX10_course_31 : decode cX10_course 31 = .ok (.iload_n 2, 1) := by decide +kernel
theorem dX10_course_32 : decode cX10_course 32 = .ok (.invokevirtual 141, 3) := by decide +kernel
theorem dX10_course_35 : decode cX10_course 35 = .ok (.ireturn, 1) := by decide +kernel
theorem dX10_part_0 : decode cX10_part 0 = .ok (.iload_n 0, 1) := by decide +kernel
theorem dX10_part_1 : decode cX10_part 1 = .ok (.tableswitch 47 0 3 #[31, 35, 39, 43], 31) := by decide +kernel
theorem dX10_part_32 : decode cX10_part 32 = .ok (.sipush 1000, 3) := by decide +kernel
theorem dX10_part_35 : decode cX10_part 35 = .ok (.ireturn, 1) := by decide +kernel
theorem dX10_part_36 : decode cX10_part 36 = .ok (.sipush 924, 3) := by decide +kernel
theorem dX10_part_39 : decode cX10_part 39 = .ok (.ireturn, 1) := by decide +kernel
theorem dX10_part_40 : decode cX10_part 40 = .ok (.sipush 707, 3) := by decide +kernel
theorem dX10_part_43 : decode cX10_part 43 = .ok (.ireturn, 1) := by decide +kernel
theorem dX10_part_44 : decode cX10_part 44 = .ok (.sipush 383, 3) := by decide +kernel
theorem dX10_part_47 : decode cX10_part 47 = .ok (.ireturn, 1) := by decide +kernel
theorem dX10_part_48 : decode cX10_part 48 = .ok (.iconst 0, 1) := by decide +kernel
theorem dX10_part_49 : decode cX10_part 49 = .ok (.ireturn, 1) := by decide +kernel
theorem dX10_alongOf_0 : decode cX10_alongOf 0 = .ok (.iload_n 0, 1) := by decide +kernel
theorem dX10_alongOf_1 : decode cX10_alongOf 1 = .ok (.invokestatic 145, 3) := by decide +kernel
theorem dX10_alongOf_4 : decode cX10_alongOf 4 = .ok (.invokestatic 149, 3) := by decide +kernel
theorem dX10_alongOf_7 : decode cX10_alongOf 7 = .ok (.ireturn, 1) := by decide +kernel
theorem dX10_acrossOf_0 : decode cX10_acrossOf 0 = .ok (.iconst 4, 1) := by decide +kernel
theorem dX10_acrossOf_1 : decode cX10_acrossOf 1 = .ok (.iload_n 0, 1) := by decide +kernel
theorem dX10_acrossOf_2 : decode cX10_acrossOf 2 = .ok (.invokestatic 145, 3) := by decide +kernel
theorem dX10_acrossOf_5 : decode cX10_acrossOf 5 = .ok (.isub, 1) := by decide +kernel
theorem dX10_acrossOf_6 : decode cX10_acrossOf 6 = .ok (.invokestatic 149, 3) := by decide +kernel
theorem dX10_acrossOf_9 : decode cX10_acrossOf 9 = .ok (.istore_n 1, 1) := by decide +kernel
theorem dX10_acrossOf_10 : decode cX10_acrossOf 10 = .ok (.iload_n 0, 1) := by decide +kernel
theorem dX10_acrossOf_11 : decode cX10_acrossOf 11 = .ok (.ifCond .ge 8, 3) := by decide +kernel
theorem dX10_acrossOf_14 : decode cX10_acrossOf 14 = .ok (.iload_n 1, 1) := by decide +kernel
theorem dX10_acrossOf_15 : decode cX10_acrossOf 15 = .ok (.ineg, 1) := by decide +kernel
theorem dX10_acrossOf_16 : decode cX10_acrossOf 16 = .ok (.goto 4, 3) := by decide +kernel
theorem dX10_acrossOf_19 : decode cX10_acrossOf 19 = .ok (.iload_n 1, 1) := by decide +kernel
theorem dX10_acrossOf_20 : decode cX10_acrossOf 20 = .ok (.ireturn, 1) := by decide +kernel
theorem dX10_go_0 : decode cX10_go 0 = .ok (.aload_n 0, 1) := by decide +kernel
theorem dX10_go_1 : decode cX10_go 1 = .ok (.dup, 1) := by decide +kernel
theorem dX10_go_2 : decode cX10_go 2 = .ok (.getfield 152, 3) := by decide +kernel
theorem dX10_go_5 : decode cX10_go 5 = .ok (.iload_n 1, 1) := by decide +kernel
theorem dX10_go_6 : decode cX10_go 6 = .ok (.invokestatic 156, 3) := by decide +kernel
theorem dX10_go_9 : decode cX10_go 9 = .ok (.i2l, 1) := by decide +kernel
theorem dX10_go_10 : decode cX10_go 10 = .ok (.iload_n 2, 1) := by decide +kernel
theorem dX10_go_11 : decode cX10_go 11 = .ok (.i2l, 1) := by decide +kernel
theorem dX10_go_12 : decode cX10_go 12 = .ok (.lmul, 1) := by decide +kernel
theorem dX10_go_13 : decode cX10_go 13 = .ok (.ladd, 1) := by decide +kernel
theorem dX10_go_14 : decode cX10_go 14 = .ok (.putfield 152, 3) := by decide +kernel
theorem dX10_go_17 : decode cX10_go 17 = .ok (.aload_n 0, 1) := by decide +kernel
theorem dX10_go_18 : decode cX10_go 18 = .ok (.dup, 1) := by decide +kernel
theorem dX10_go_19 : decode cX10_go 19 = .ok (.getfield 159, 3) := by decide +kernel
theorem dX10_go_22 : decode cX10_go 22 = .ok (.iload_n 1, 1) := by decide +kernel
theorem dX10_go_23 : decode cX10_go 23 = .ok (.invokestatic 162, 3) := by decide +kernel
theorem dX10_go_26 : decode cX10_go 26 = .ok (.i2l, 1) := by decide +kernel
theorem dX10_go_27 : decode cX10_go 27 = .ok (.iload_n 2, 1) := by decide +kernel
theorem dX10_go_28 : decode cX10_go 28 = .ok (.i2l, 1) := by decide +kernel
theorem dX10_go_29 : decode cX10_go 29 = .ok (.lmul, 1) := by decide +kernel
theorem dX10_go_30 : decode cX10_go 30 = .ok (.ladd, 1) := by decide +kernel
theorem dX10_go_31 : decode cX10_go 31 = .ok (.putfield 159, 3) := by decide +kernel
theorem dX10_go_34 : decode cX10_go 34 = .ok (.return_, 1) := by decide +kernel
theorem dX10_runPlan_0 : decode cX10_runPlan 0 = .ok (.aload_n 0, 1) := by decide +kernel
theorem dX10_runPlan_1 : decode cX10_runPlan 1 = .ok (.invokevirtual 138, 3) := by decide +kernel
theorem dX10_runPlan_4 : decode cX10_runPlan 4 = .ok (.aload_n 0, 1) := by decide +kernel
theorem dX10_runPlan_5 : decode cX10_runPlan 5 = .ok (.lconst 0, 1) := by decide +kernel
theorem dX10_runPlan_6 : decode cX10_runPlan 6 = .ok (.putfield 152, 3) := by decide +kernel
theorem dX10_runPlan_9 : decode cX10_runPlan 9 = .ok (.aload_n 0, 1) := by decide +kernel
theorem dX10_runPlan_10 : decode cX10_runPlan 10 = .ok (.lconst 0, 1) := by decide +kernel
theorem dX10_runPlan_11 : decode cX10_runPlan 11 = .ok (.putfield 159, 3) := by decide +kernel
theorem dX10_runPlan_14 : decode cX10_runPlan 14 = .ok (.iconst 0, 1) := by decide +kernel
theorem dX10_runPlan_15 : decode cX10_runPlan 15 = .ok (.istore 4, 2) := by decide +kernel
theorem dX10_runPlan_17 : decode cX10_runPlan 17 = .ok (.iload 4, 2) := by decide +kernel
theorem dX10_runPlan_19 : decode cX10_runPlan 19 = .ok (.iload_n 2, 1) := by decide +kernel
theorem dX10_runPlan_20 : decode cX10_runPlan 20 = .ok (.if_icmp .ge 21, 3) := by decide +kernel
theorem dX10_runPlan_23 : decode cX10_runPlan 23 = .ok (.aload_n 0, 1) := by decide +kernel
theorem dX10_runPlan_24 : decode cX10_runPlan 24 = .ok (.aload_n 0, 1) := by decide +kernel
theorem dX10_runPlan_25 : decode cX10_runPlan 25 = .ok (.iload_n 1, 1) := by decide +kernel
theorem dX10_runPlan_26 : decode cX10_runPlan 26 = .ok (.iload 4, 2) := by decide +kernel
theorem dX10_runPlan_28 : decode cX10_runPlan 28 = .ok (.invokevirtual 141, 3) := by decide +kernel
theorem dX10_runPlan_31 : decode cX10_runPlan 31 = .ok (.iload_n 3, 1) := by decide +kernel
theorem dX10_runPlan_32 : decode cX10_runPlan 32 = .ok (.invokevirtual 165, 3) := by decide +kernel
theorem dX10_runPlan_35 : decode cX10_runPlan 35 = .ok (.iinc 4 1, 3) := by decide +kernel
theorem dX10_runPlan_38 : decode cX10_runPlan 38 = .ok (.goto (-21), 3) := by decide +kernel
theorem dX10_runPlan_41 : decode cX10_runPlan 41 = .ok (.return_, 1) := by decide +kernel
theorem dX10_ground_0 : decode cX10_ground 0 = .ok (.iload_n 1, 1) := by decide +kernel
theorem dX10_ground_1 : decode cX10_ground 1 = .ok (.invokestatic 126, 3) := by decide +kernel
theorem dX10_ground_4 : decode cX10_ground 4 = .ok (.ifCond .ne 7, 3) := by decide +kernel
theorem dX10_ground_7 : decode cX10_ground 7 = .ok (.ldc2_w 169, 3) := by decide +kernel
theorem dX10_ground_10 : decode cX10_ground 10 = .ok (.lreturn, 1) := by decide +kernel
theorem dX10_ground_11 : decode cX10_ground 11 = .ok (.iload_n 2, 1) := by decide +kernel
theorem dX10_ground_12 : decode cX10_ground 12 = .ok (.i2l, 1) := by decide +kernel
theorem dX10_ground_13 : decode cX10_ground 13 = .ok (.lconst 0, 1) := by decide +kernel
theorem dX10_ground_14 : decode cX10_ground 14 = .ok (.ldc2_w 136, 3) := by decide +kernel
theorem dX10_ground_17 : decode cX10_ground 17 = .ok (.invokestatic 122, 3) := by decide +kernel
theorem dX10_ground_20 : decode cX10_ground 20 = .ok (.ifCond .eq 13, 3) := by decide +kernel
theorem dX10_ground_23 : decode cX10_ground 23 = .ok (.iload_n 3, 1) := by decide +kernel
theorem dX10_ground_24 : decode cX10_ground 24 = .ok (.i2l, 1) := by decide +kernel
theorem dX10_ground_25 : decode cX10_ground 25 = .ok (.lconst 0, 1) := by decide +kernel
theorem dX10_ground_26 : decode cX10_ground 26 = .ok (.lconst 1, 1) := by decide +kernel
theorem dX10_ground_27 : decode cX10_ground 27 = .ok (.invokestatic 122, 3) := by decide +kernel
theorem dX10_ground_30 : decode cX10_ground 30 = .ok (.ifCond .ne 7, 3) := by decide +kernel
theorem dX10_ground_33 : decode cX10_ground 33 = .ok (.ldc2_w 171, 3) := by decide +kernel
theorem dX10_ground_36 : decode cX10_ground 36 = .ok (.lreturn, 1) := by decide +kernel
theorem dX10_ground_37 : decode cX10_ground 37 = .ok (.aload_n 0, 1) := by decide +kernel
theorem dX10_ground_38 : decode cX10_ground 38 = .ok (.iload_n 1, 1) := by decide +kernel
theorem dX10_ground_39 : decode cX10_ground 39 = .ok (.iload_n 2, 1) := by decide +kernel
theorem dX10_ground_40 : decode cX10_ground 40 = .ok (.iconst 1, 1) := by decide +kernel
theorem dX10_ground_41 : decode cX10_ground 41 = .ok (.invokevirtual 173, 3) := by decide +kernel
theorem dX10_ground_44 : decode cX10_ground 44 = .ok (.iload_n 3, 1) := by decide +kernel
theorem dX10_ground_45 : decode cX10_ground 45 = .ok (.ifCond .ne 10, 3) := by decide +kernel
theorem dX10_ground_48 : decode cX10_ground 48 = .ok (.aload_n 0, 1) := by decide +kernel
theorem dX10_ground_49 : decode cX10_ground 49 = .ok (.getfield 152, 3) := by decide +kernel
theorem dX10_ground_52 : decode cX10_ground 52 = .ok (.goto 7, 3) := by decide +kernel
theorem dX10_ground_55 : decode cX10_ground 55 = .ok (.aload_n 0, 1) := by decide +kernel
theorem dX10_ground_56 : decode cX10_ground 56 = .ok (.getfield 159, 3) := by decide +kernel
theorem dX10_ground_59 : decode cX10_ground 59 = .ok (.lreturn, 1) := by decide +kernel
theorem dX10_steer_0 : decode cX10_steer 0 = .ok (.iload_n 1, 1) := by decide +kernel
theorem dX10_steer_1 : decode cX10_steer 1 = .ok (.invokestatic 126, 3) := by decide +kernel
theorem dX10_steer_4 : decode cX10_steer 4 = .ok (.ifCond .ne 5, 3) := by decide +kernel
theorem dX10_steer_7 : decode cX10_steer 7 = .ok (.iconst (-1), 1) := by decide +kernel
theorem dX10_steer_8 : decode cX10_steer 8 = .ok (.ireturn, 1) := by decide +kernel
theorem dX10_steer_9 : decode cX10_steer 9 = .ok (.aload_n 0, 1) := by decide +kernel
theorem dX10_steer_10 : decode cX10_steer 10 = .ok (.getfield 177, 3) := by decide +kernel
theorem dX10_steer_13 : decode cX10_steer 13 = .ok (.istore_n 2, 1) := by decide +kernel
theorem dX10_steer_14 : decode cX10_steer 14 = .ok (.aload_n 0, 1) := by decide +kernel
theorem dX10_steer_15 : decode cX10_steer 15 = .ok (.iload_n 1, 1) := by decide +kernel
theorem dX10_steer_16 : decode cX10_steer 16 = .ok (.putfield 177, 3) := by decide +kernel
theorem dX10_steer_19 : decode cX10_steer 19 = .ok (.iload_n 2, 1) := by decide +kernel
theorem dX10_steer_20 : decode cX10_steer 20 = .ok (.ireturn, 1) := by decide +kernel
theorem dX10_isStart_0 : decode cX10_isStart 0 = .ok (.iload_n 0, 1) := by decide +kernel
theorem dX10_isStart_1 : decode cX10_isStart 1 = .ok (.i2l, 1) := by decide +kernel
theorem dX10_isStart_2 : decode cX10_isStart 2 = .ok (.ldc2_w 180, 3) := by decide +kernel
theorem dX10_isStart_5 : decode cX10_isStart 5 = .ok (.ldc2_w 182, 3) := by decide +kernel
theorem dX10_isStart_8 : decode cX10_isStart 8 = .ok (.invokestatic 122, 3) := by decide +kernel
theorem dX10_isStart_11 : decode cX10_isStart 11 = .ok (.ifCond .eq 33, 3) := by decide +kernel
theorem dX10_isStart_14 : decode cX10_isStart 14 = .ok (.iload_n 1, 1) := by decide +kernel
theorem dX10_isStart_15 : decode cX10_isStart 15 = .ok (.i2l, 1) := by decide +kernel
theorem dX10_isStart_16 : decode cX10_isStart 16 = .ok (.ldc2_w 180, 3) := by decide +kernel
theorem dX10_isStart_19 : decode cX10_isStart 19 = .ok (.ldc2_w 182, 3) := by decide +kernel
theorem dX10_isStart_22 : decode cX10_isStart 22 = .ok (.invokestatic 122, 3) := by decide +kernel
theorem dX10_isStart_25 : decode cX10_isStart 25 = .ok (.ifCond .eq 19, 3) := by decide +kernel
theorem dX10_isStart_28 : decode cX10_isStart 28 = .ok (.iload_n 2, 1) := by decide +kernel
theorem dX10_isStart_29 : decode cX10_isStart 29 = .ok (.i2l, 1) := by decide +kernel
theorem dX10_isStart_30 : decode cX10_isStart 30 = .ok (.lconst 1, 1) := by decide +kernel
theorem dX10_isStart_31 : decode cX10_isStart 31 = .ok (.ldc2_w 184, 3) := by decide +kernel
theorem dX10_isStart_34 : decode cX10_isStart 34 = .ok (.invokestatic 122, 3) := by decide +kernel
theorem dX10_isStart_37 : decode cX10_isStart 37 = .ok (.ifCond .eq 7, 3) := by decide +kernel
theorem dX10_isStart_40 : decode cX10_isStart 40 = .ok (.iconst 1, 1) := by decide +kernel
theorem dX10_isStart_41 : decode cX10_isStart 41 = .ok (.goto 4, 3) := by decide +kernel
theorem dX10_isStart_44 : decode cX10_isStart 44 = .ok (.iconst 0, 1) := by decide +kernel
theorem dX10_isStart_45 : decode cX10_isStart 45 = .ok (.ireturn, 1) := by decide +kernel
theorem dX10_ship_0 : decode cX10_ship 0 = .ok (.iload_n 1, 1) := by decide +kernel
theorem dX10_ship_1 : decode cX10_ship 1 = .ok (.iload_n 2, 1) := by decide +kernel
theorem dX10_ship_2 : decode cX10_ship 2 = .ok (.iload_n 3, 1) := by decide +kernel
theorem dX10_ship_3 : decode cX10_ship 3 = .ok (.invokestatic 186, 3) := by decide +kernel
theorem dX10_ship_6 : decode cX10_ship 6 = .ok (.ifCond .eq 18, 3) := by decide +kernel
theorem dX10_ship_9 : decode cX10_ship 9 = .ok (.iload 4, 2) := by decide +kernel
theorem dX10_ship_11 : decode cX10_ship 11 = .ok (.i2l, 1) := by decide +kernel
theorem dX10_ship_12 : decode cX10_ship 12 = .ok (.ldc2_w 190, 3) := by decide +kernel
theorem dX10_ship_15 : decode cX10_ship 15 = .ok (.ldc2_w 192, 3) := by decide +kernel
theorem dX10_ship_18 : decode cX10_ship 18 = .ok (.invokestatic 122, 3) := by decide +kernel
theorem dX10_ship_21 : decode cX10_ship 21 = .ok (.ifCond .ne 6, 3) := by decide +kernel
theorem dX10_ship_24 : decode cX10_ship 24 = .ok (.bipush (-2), 2) := by decide +kernel
theorem dX10_ship_26 : decode cX10_ship 26 = .ok (.ireturn, 1) := by decide +kernel
theorem dX10_ship_27 : decode cX10_ship 27 = .ok (.aload_n 0, 1) := by decide +kernel
theorem dX10_ship_28 : decode cX10_ship 28 = .ok (.getfield 194, 3) := by decide +kernel
theorem dX10_ship_31 : decode cX10_ship 31 = .ok (.bipush 9, 2) := by decide +kernel
theorem dX10_ship_33 : decode cX10_ship 33 = .ok (.if_icmp .ne 6, 3) := by decide +kernel
theorem dX10_ship_36 : decode cX10_ship 36 = .ok (.bipush (-4), 2) := by decide +kernel
theorem dX10_ship_38 : decode cX10_ship 38 = .ok (.ireturn, 1) := by decide +kernel
theorem dX10_ship_39 : decode cX10_ship 39 = .ok (.aload_n 0, 1) := by decide +kernel
theorem dX10_ship_40 : decode cX10_ship 40 = .ok (.getfield 22, 3) := by decide +kernel
theorem dX10_ship_43 : decode cX10_ship 43 = .ok (.aload_n 0, 1) := by decide +kernel
theorem dX10_ship_44 : decode cX10_ship 44 = .ok (.getfield 194, 3) := by decide +kernel
theorem dX10_ship_47 : decode cX10_ship 47 = .ok (.iload_n 1, 1) := by decide +kernel
theorem dX10_ship_48 : decode cX10_ship 48 = .ok (.iastore, 1) := by decide +kernel
theorem dX10_ship_49 : decode cX10_ship 49 = .ok (.aload_n 0, 1) := by decide +kernel
theorem dX10_ship_50 : decode cX10_ship 50 = .ok (.getfield 25, 3) := by decide +kernel
theorem dX10_ship_53 : decode cX10_ship 53 = .ok (.aload_n 0, 1) := by decide +kernel
theorem dX10_ship_54 : decode cX10_ship 54 = .ok (.getfield 194, 3) := by decide +kernel
theorem dX10_ship_57 : decode cX10_ship 57 = .ok (.iload_n 2, 1) := by decide +kernel
theorem dX10_ship_58 : decode cX10_ship 58 = .ok (.iastore, 1) := by decide +kernel
theorem dX10_ship_59 : decode cX10_ship 59 = .ok (.aload_n 0, 1) := by decide +kernel
theorem dX10_ship_60 : decode cX10_ship 60 = .ok (.getfield 28, 3) := by decide +kernel
theorem dX10_ship_63 : decode cX10_ship 63 = .ok (.aload_n 0, 1) := by decide +kernel
theorem dX10_ship_64 : decode cX10_ship 64 = .ok (.getfield 194, 3) := by decide +kernel
theorem dX10_ship_67 : decode cX10_ship 67 = .ok (.iload_n 3, 1) := by decide +kernel
theorem dX10_ship_68 : decode cX10_ship 68 = .ok (.iastore, 1) := by decide +kernel
theorem dX10_ship_69 : decode cX10_ship 69 = .ok (.aload_n 0, 1) := by decide +kernel
theorem dX10_ship_70 : decode cX10_ship 70 = .ok (.getfield 31, 3) := by decide +kernel
theorem dX10_ship_73 : decode cX10_ship 73 = .ok (.aload_n 0, 1) := by decide +kernel
theorem dX10_ship_74 : decode cX10_ship 74 = .ok (.getfield 194, 3) := by decide +kernel
theorem dX10_ship_77 : decode cX10_ship 77 = .ok (.iload 4, 2) := by decide +kernel
theorem dX10_ship_79 : decode cX10_ship 79 = .ok (.iastore, 1) := by decide +kernel
theorem dX10_ship_80 : decode cX10_ship 80 = .ok (.aload_n 0, 1) := by decide +kernel
theorem dX10_ship_81 : decode cX10_ship 81 = .ok (.dup, 1) := by decide +kernel
theorem dX10_ship_82 : decode cX10_ship 82 = .ok (.getfield 194, 3) := by decide +kernel
theorem dX10_ship_85 : decode cX10_ship 85 = .ok (.iconst 1, 1) := by decide +kernel
theorem dX10_ship_86 : decode cX10_ship 86 = .ok (.iadd, 1) := by decide +kernel
theorem dX10_ship_87 : decode cX10_ship 87 = .ok (.putfield 194, 3) := by decide +kernel
theorem dX10_ship_90 : decode cX10_ship 90 = .ok (.aload_n 0, 1) := by decide +kernel
theorem dX10_ship_91 : decode cX10_ship 91 = .ok (.getfield 194, 3) := by decide +kernel
theorem dX10_ship_94 : decode cX10_ship 94 = .ok (.iconst 1, 1) := by decide +kernel
theorem dX10_ship_95 : decode cX10_ship 95 = .ok (.isub, 1) := by decide +kernel
theorem dX10_ship_96 : decode cX10_ship 96 = .ok (.ireturn, 1) := by decide +kernel
theorem dX10_miss_0 : decode cX10_miss 0 = .ok (.iload_n 1, 1) := by decide +kernel
theorem dX10_miss_1 : decode cX10_miss 1 = .ok (.i2l, 1) := by decide +kernel
theorem dX10_miss_2 : decode cX10_miss 2 = .ok (.lconst 0, 1) := by decide +kernel
theorem dX10_miss_3 : decode cX10_miss 3 = .ok (.aload_n 0, 1) := by decide +kernel
theorem dX10_miss_4 : decode cX10_miss 4 = .ok (.getfield 194, 3) := by decide +kernel
theorem dX10_miss_7 : decode cX10_miss 7 = .ok (.iconst 1, 1) := by decide +kernel
theorem dX10_miss_8 : decode cX10_miss 8 = .ok (.isub, 1) := by decide +kernel
theorem dX10_miss_9 : decode cX10_miss 9 = .ok (.i2l, 1) := by decide +kernel
theorem dX10_miss_10 : decode cX10_miss 10 = .ok (.invokestatic 122, 3) := by decide +kernel
theorem dX10_miss_13 : decode cX10_miss 13 = .ok (.ifCond .ne 5, 3) := by decide +kernel
theorem dX10_miss_16 : decode cX10_miss 16 = .ok (.iconst (-1), 1) := by decide +kernel
theorem dX10_miss_17 : decode cX10_miss 17 = .ok (.ireturn, 1) := by decide +kernel
theorem dX10_miss_18 : decode cX10_miss 18 = .ok (.iload_n 2, 1) := by decide +kernel
theorem dX10_miss_19 : decode cX10_miss 19 = .ok (.i2l, 1) := by decide +kernel
theorem dX10_miss_20 : decode cX10_miss 20 = .ok (.lconst 0, 1) := by decide +kernel
theorem dX10_miss_21 : decode cX10_miss 21 = .ok (.ldc2_w 197, 3) := by decide +kernel
theorem dX10_miss_24 : decode cX10_miss 24 = .ok (.invokestatic 122, 3) := by decide +kernel
theorem dX10_miss_27 : decode cX10_miss 27 = .ok (.ifCond .eq 15, 3) := by decide +kernel
theorem dX10_miss_30 : decode cX10_miss 30 = .ok (.iload_n 3, 1) := by decide +kernel
theorem dX10_miss_31 : decode cX10_miss 31 = .ok (.i2l, 1) := by decide +kernel
theorem dX10_miss_32 : decode cX10_miss 32 = .ok (.lconst 0, 1) := by decide +kernel
theorem dX10_miss_33 : decode cX10_miss 33 = .ok (.ldc2_w 199, 3) := by decide +kernel
theorem dX10_miss_36 : decode cX10_miss 36 = .ok (.invokestatic 122, 3) := by decide +kernel
theorem dX10_miss_39 : decode cX10_miss 39 = .ok (.ifCond .ne 6, 3) := by decide +kernel
theorem dX10_miss_42 : decode cX10_miss 42 = .ok (.bipush (-2), 2) := by decide +kernel
theorem dX10_miss_44 : decode cX10_miss 44 = .ok (.ireturn, 1) := by decide +kernel
theorem dX10_miss_45 : decode cX10_miss 45 = .ok (.aload_n 0, 1) := by decide +kernel
theorem dX10_miss_46 : decode cX10_miss 46 = .ok (.getfield 201, 3) := by decide +kernel
theorem dX10_miss_49 : decode cX10_miss 49 = .ok (.bipush 20, 2) := by decide +kernel
theorem dX10_miss_51 : decode cX10_miss 51 = .ok (.if_icmp .ne 6, 3) := by decide +kernel
theorem dX10_miss_54 : decode cX10_miss 54 = .ok (.bipush (-4), 2) := by decide +kernel
theorem dX10_miss_56 : decode cX10_miss 56 = .ok (.ireturn, 1) := by decide +kernel
theorem dX10_miss_57 : decode cX10_miss 57 = .ok (.iconst 0, 1) := by decide +kernel
theorem dX10_miss_58 : decode cX10_miss 58 = .ok (.istore 4, 2) := by decide +kernel
theorem dX10_miss_60 : decode cX10_miss 60 = .ok (.iload 4, 2) := by decide +kernel
theorem dX10_miss_62 : decode cX10_miss 62 = .ok (.aload_n 0, 1) := by decide +kernel
theorem dX10_miss_63 : decode cX10_miss 63 = .ok (.getfield 201, 3) := by decide +kernel
theorem dX10_miss_66 : decode cX10_miss 66 = .ok (.if_icmp .ge 45, 3) := by decide +kernel
theorem dX10_miss_69 : decode cX10_miss 69 = .ok (.aload_n 0, 1) := by decide +kernel
theorem dX10_miss_70 : decode cX10_miss 70 = .ok (.getfield 34, 3) := by decide +kernel
theorem dX10_miss_73 : decode cX10_miss 73 = .ok (.iload 4, 2) := by decide +kernel
theorem dX10_miss_75 : decode cX10_miss 75 = .ok (.iaload, 1) := by decide +kernel
theorem dX10_miss_76 : decode cX10_miss 76 = .ok (.iload_n 1, 1) := by decide +kernel
theorem dX10_miss_77 : decode cX10_miss 77 = .ok (.if_icmp .ne 28, 3) := by decide +kernel
theorem dX10_miss_80 : decode cX10_miss 80 = .ok (.aload_n 0, 1) := by decide +kernel
theorem dX10_miss_81 : decode cX10_miss 81 = .ok (.getfield 37, 3) := by decide +kernel
theorem dX10_miss_84 : decode cX10_miss 84 = .ok (.iload 4, 2) := by decide +kernel
theorem dX10_miss_86 : decode cX10_miss 86 = .ok (.iaload, 1) := by decide +kernel
theorem dX10_miss_87 : decode cX10_miss 87 = .ok (.iload_n 2, 1) := by decide +kernel
theorem dX10_miss_88 : decode cX10_miss 88 = .ok (.if_icmp .ne 17, 3) := by decide +kernel
theorem dX10_miss_91 : decode cX10_miss 91 = .ok (.aload_n 0, 1) := by decide +kernel
theorem dX10_miss_92 : decode cX10_miss 92 = .ok (.getfield 40, 3) := by decide +kernel
theorem dX10_miss_95 : decode cX10_miss 95 = .ok (.iload 4, 2) := by decide +kernel
theorem dX10_miss_97 : decode cX10_miss 97 = .ok (.iaload, 1) := by decide +kernel
theorem dX10_miss_98 : decode cX10_miss 98 = .ok (.iload_n 3, 1) := by decide +kernel
theorem dX10_miss_99 : decode cX10_miss 99 = .ok (.if_icmp .ne 6, 3) := by decide +kernel
theorem dX10_miss_102 : decode cX10_miss 102 = .ok (.bipush (-5), 2) := by decide +kernel
theorem dX10_miss_104 : decode cX10_miss 104 = .ok (.ireturn, 1) := by decide +kernel
theorem dX10_miss_105 : decode cX10_miss 105 = .ok (.iinc 4 1, 3) := by decide +kernel
theorem dX10_miss_108 : decode cX10_miss 108 = .ok (.goto (-48), 3) := by decide +kernel
theorem dX10_miss_111 : decode cX10_miss 111 = .ok (.aload_n 0, 1) := by decide +kernel
theorem dX10_miss_112 : decode cX10_miss 112 = .ok (.getfield 34, 3) := by decide +kernel
theorem dX10_miss_115 : decode cX10_miss 115 = .ok (.aload_n 0, 1) := by decide +kernel
theorem dX10_miss_116 : decode cX10_miss 116 = .ok (.getfield 201, 3) := by decide +kernel
theorem dX10_miss_119 : decode cX10_miss 119 = .ok (.iload_n 1, 1) := by decide +kernel
theorem dX10_miss_120 : decode cX10_miss 120 = .ok (.iastore, 1) := by decide +kernel
theorem dX10_miss_121 : decode cX10_miss 121 = .ok (.aload_n 0, 1) := by decide +kernel
theorem dX10_miss_122 : decode cX10_miss 122 = .ok (.getfield 37, 3) := by decide +kernel
theorem dX10_miss_125 : decode cX10_miss 125 = .ok (.aload_n 0, 1) := by decide +kernel
theorem dX10_miss_126 : decode cX10_miss 126 = .ok (.getfield 201, 3) := by decide +kernel
theorem dX10_miss_129 : decode cX10_miss 129 = .ok (.iload_n 2, 1) := by decide +kernel
theorem dX10_miss_130 : decode cX10_miss 130 = .ok (.iastore, 1) := by decide +kernel
theorem dX10_miss_131 : decode cX10_miss 131 = .ok (.aload_n 0, 1) := by decide +kernel
theorem dX10_miss_132 : decode cX10_miss 132 = .ok (.getfield 40, 3) := by decide +kernel
theorem dX10_miss_135 : decode cX10_miss 135 = .ok (.aload_n 0, 1) := by decide +kernel
theorem dX10_miss_136 : decode cX10_miss 136 = .ok (.getfield 201, 3) := by decide +kernel
theorem dX10_miss_139 : decode cX10_miss 139 = .ok (.iload_n 3, 1) := by decide +kernel
theorem dX10_miss_140 : decode cX10_miss 140 = .ok (.iastore, 1) := by decide +kernel
theorem dX10_miss_141 : decode cX10_miss 141 = .ok (.aload_n 0, 1) := by decide +kernel
theorem dX10_miss_142 : decode cX10_miss 142 = .ok (.dup, 1) := by decide +kernel
theorem dX10_miss_143 : decode cX10_miss 143 = .ok (.getfield 201, 3) := by decide +kernel
theorem dX10_miss_146 : decode cX10_miss 146 = .ok (.iconst 1, 1) := by decide +kernel
theorem dX10_miss_147 : decode cX10_miss 147 = .ok (.iadd, 1) := by decide +kernel
theorem dX10_miss_148 : decode cX10_miss 148 = .ok (.putfield 201, 3) := by decide +kernel
theorem dX10_miss_151 : decode cX10_miss 151 = .ok (.aload_n 0, 1) := by decide +kernel
theorem dX10_miss_152 : decode cX10_miss 152 = .ok (.getfield 201, 3) := by decide +kernel
theorem dX10_miss_155 : decode cX10_miss 155 = .ok (.ireturn, 1) := by decide +kernel
theorem dX10_fog_0 : decode cX10_fog 0 = .ok (.iload_n 1, 1) := by decide +kernel
theorem dX10_fog_1 : decode cX10_fog 1 = .ok (.i2l, 1) := by decide +kernel
theorem dX10_fog_2 : decode cX10_fog 2 = .ok (.lconst 0, 1) := by decide +kernel
theorem dX10_fog_3 : decode cX10_fog 3 = .ok (.iload_n 2, 1) := by decide +kernel
theorem dX10_fog_4 : decode cX10_fog 4 = .ok (.i2l, 1) := by decide +kernel
theorem dX10_fog_5 : decode cX10_fog 5 = .ok (.invokestatic 122, 3) := by decide +kernel
theorem dX10_fog_8 : decode cX10_fog 8 = .ok (.ifCond .eq 15, 3) := by decide +kernel
theorem dX10_fog_11 : decode cX10_fog 11 = .ok (.iload_n 2, 1) := by decide +kernel
theorem dX10_fog_12 : decode cX10_fog 12 = .ok (.i2l, 1) := by decide +kernel
theorem dX10_fog_13 : decode cX10_fog 13 = .ok (.lconst 0, 1) := by decide +kernel
theorem dX10_fog_14 : decode cX10_fog 14 = .ok (.ldc2_w 136, 3) := by decide +kernel
theorem dX10_fog_17 : decode cX10_fog 17 = .ok (.invokestatic 122, 3) := by decide +kernel
theorem dX10_fog_20 : decode cX10_fog 20 = .ok (.ifCond .ne 6, 3) := by decide +kernel
theorem dX10_fog_23 : decode cX10_fog 23 = .ok (.bipush (-2), 2) := by decide +kernel
theorem dX10_fog_25 : decode cX10_fog 25 = .ok (.ireturn, 1) := by decide +kernel
theorem dX10_fog_26 : decode cX10_fog 26 = .ok (.aload_n 0, 1) := by decide +kernel
theorem dX10_fog_27 : decode cX10_fog 27 = .ok (.iload_n 1, 1) := by decide +kernel
theorem dX10_fog_28 : decode cX10_fog 28 = .ok (.putfield 204, 3) := by decide +kernel
theorem dX10_fog_31 : decode cX10_fog 31 = .ok (.aload_n 0, 1) := by decide +kernel
theorem dX10_fog_32 : decode cX10_fog 32 = .ok (.iload_n 2, 1) := by decide +kernel
theorem dX10_fog_33 : decode cX10_fog 33 = .ok (.putfield 207, 3) := by decide +kernel
theorem dX10_fog_36 : decode cX10_fog 36 = .ok (.iconst 1, 1) := by decide +kernel
theorem dX10_fog_37 : decode cX10_fog 37 = .ok (.ireturn, 1) := by decide +kernel
theorem dX10_step_0 : decode cX10_step 0 = .ok (.iload_n 1, 1) := by decide +kernel
theorem dX10_step_1 : decode cX10_step 1 = .ok (.aload_n 0, 1) := by decide +kernel
theorem dX10_step_2 : decode cX10_step 2 = .ok (.getfield 204, 3) := by decide +kernel
theorem dX10_step_5 : decode cX10_step 5 = .ok (.if_icmp .lt 15, 3) := by decide +kernel
theorem dX10_step_8 : decode cX10_step 8 = .ok (.iload_n 1, 1) := by decide +kernel
theorem dX10_step_9 : decode cX10_step 9 = .ok (.aload_n 0, 1) := by decide +kernel
theorem dX10_step_10 : decode cX10_step 10 = .ok (.getfield 207, 3) := by decide +kernel
theorem dX10_step_13 : decode cX10_step 13 = .ok (.if_icmp .ge 7, 3) := by decide +kernel
theorem dX10_step_16 : decode cX10_step 16 = .ok (.iconst 1, 1) := by decide +kernel
theorem dX10_step_17 : decode cX10_step 17 = .ok (.goto 4, 3) := by decide +kernel
theorem dX10_step_20 : decode cX10_step 20 = .ok (.iconst 0, 1) := by decide +kernel
theorem dX10_step_21 : decode cX10_step 21 = .ok (.istore 4, 2) := by decide +kernel
theorem dX10_step_23 : decode cX10_step 23 = .ok (.aload_n 0, 1) := by decide +kernel
theorem dX10_step_24 : decode cX10_step 24 = .ok (.iload 4, 2) := by decide +kernel
theorem dX10_step_26 : decode cX10_step 26 = .ok (.ifCond .eq 7, 3) := by decide +kernel
theorem dX10_step_29 : decode cX10_step 29 = .ok (.iconst 0, 1) := by decide +kernel
theorem dX10_step_30 : decode cX10_step 30 = .ok (.goto 14, 3) := by decide +kernel
theorem dX10_step_33 : decode cX10_step 33 = .ok (.aload_n 0, 1) := by decide +kernel
theorem dX10_step_34 : decode cX10_step 34 = .ok (.aload_n 0, 1) := by decide +kernel
theorem dX10_step_35 : decode cX10_step 35 = .ok (.getfield 177, 3) := by decide +kernel
theorem dX10_step_38 : decode cX10_step 38 = .ok (.iload_n 1, 1) := by decide +kernel
theorem dX10_step_39 : decode cX10_step 39 = .ok (.iload_n 2, 1) := by decide +kernel
theorem dX10_step_40 : decode cX10_step 40 = .ok (.iadd, 1) := by decide +kernel
theorem dX10_step_41 : decode cX10_step 41 = .ok (.invokevirtual 141, 3) := by decide +kernel
theorem dX10_step_44 : decode cX10_step 44 = .ok (.iload_n 3, 1) := by decide +kernel
theorem dX10_step_45 : decode cX10_step 45 = .ok (.invokevirtual 165, 3) := by decide +kernel
theorem dX10_step_48 : decode cX10_step 48 = .ok (.return_, 1) := by decide +kernel
theorem dX10_layMisses_0 : decode cX10_layMisses 0 = .ok (.aload_n 0, 1) := by decide +kernel
theorem dX10_layMisses_1 : decode cX10_layMisses 1 = .ok (.invokevirtual 138, 3) := by decide +kernel
theorem dX10_layMisses_4 : decode cX10_layMisses 4 = .ok (.iconst 0, 1) := by decide +kernel
theorem dX10_layMisses_5 : decode cX10_layMisses 5 = .ok (.istore_n 2, 1) := by decide +kernel
theorem dX10_layMisses_6 : decode cX10_layMisses 6 = .ok (.iload_n 2, 1) := by decide +kernel
theorem dX10_layMisses_7 : decode cX10_layMisses 7 = .ok (.aload_n 0, 1) := by decide +kernel
theorem dX10_layMisses_8 : decode cX10_layMisses 8 = .ok (.getfield 201, 3) := by decide +kernel
theorem dX10_layMisses_11 : decode cX10_layMisses 11 = .ok (.if_icmp .ge 45, 3) := by decide +kernel
theorem dX10_layMisses_14 : decode cX10_layMisses 14 = .ok (.aload_n 0, 1) := by decide +kernel
theorem dX10_layMisses_15 : decode cX10_layMisses 15 = .ok (.getfield 19, 3) := by decide +kernel
theorem dX10_layMisses_18 : decode cX10_layMisses 18 = .ok (.aload_n 0, 1) := by decide +kernel
theorem dX10_layMisses_19 : decode cX10_layMisses 19 = .ok (.getfield 37, 3) := by decide +kernel
theorem dX10_layMisses_22 : decode cX10_layMisses 22 = .ok (.iload_n 2, 1) := by decide +kernel
theorem dX10_layMisses_23 : decode cX10_layMisses 23 = .ok (.iaload, 1) := by decide +kernel
theorem dX10_layMisses_24 : decode cX10_layMisses 24 = .ok (.dup2, 1) := by decide +kernel
theorem dX10_layMisses_25 : decode cX10_layMisses 25 = .ok (.iaload, 1) := by decide +kernel
theorem dX10_layMisses_26 : decode cX10_layMisses 26 = .ok (.aload_n 0, 1) := by decide +kernel
theorem dX10_layMisses_27 : decode cX10_layMisses 27 = .ok (.getfield 34, 3) := by decide +kernel
theorem dX10_layMisses_30 : decode cX10_layMisses 30 = .ok (.iload_n 2, 1) := by decide +kernel
theorem dX10_layMisses_31 : decode cX10_layMisses 31 = .ok (.iaload, 1) := by decide +kernel
theorem dX10_layMisses_32 : decode cX10_layMisses 32 = .ok (.iload_n 1, 1) := by decide +kernel
theorem dX10_layMisses_33 : decode cX10_layMisses 33 = .ok (.if_icmp .ne 14, 3) := by decide +kernel
theorem dX10_layMisses_36 : decode cX10_layMisses 36 = .ok (.iconst 1, 1) := by decide +kernel
theorem dX10_layMisses_37 : decode cX10_layMisses 37 = .ok (.aload_n 0, 1) := by decide +kernel
theorem dX10_layMisses_38 : decode cX10_layMisses 38 = .ok (.getfield 40, 3) := by decide +kernel
theorem dX10_layMisses_41 : decode cX10_layMisses 41 = .ok (.iload_n 2, 1) := by decide +kernel
theorem dX10_layMisses_42 : decode cX10_layMisses 42 = .ok (.iaload, 1) := by decide +kernel
theorem dX10_layMisses_43 : decode cX10_layMisses 43 = .ok (.ishl, 1) := by decide +kernel
theorem dX10_layMisses_44 : decode cX10_layMisses 44 = .ok (.goto 4, 3) := by decide +kernel
theorem dX10_layMisses_47 : decode cX10_layMisses 47 = .ok (.iconst 0, 1) := by decide +kernel
theorem dX10_layMisses_48 : decode cX10_layMisses 48 = .ok (.ior, 1) := by decide +kernel
theorem dX10_layMisses_49 : decode cX10_layMisses 49 = .ok (.iastore, 1) := by decide +kernel
theorem dX10_layMisses_50 : decode cX10_layMisses 50 = .ok (.iinc 2 1, 3) := by decide +kernel
theorem dX10_layMisses_53 : decode cX10_layMisses 53 = .ok (.goto (-47), 3) := by decide +kernel
theorem dX10_layMisses_56 : decode cX10_layMisses 56 = .ok (.return_, 1) := by decide +kernel
theorem dX10_place_0 : decode cX10_place 0 = .ok (.iload_n 1, 1) := by decide +kernel
theorem dX10_place_1 : decode cX10_place 1 = .ok (.i2l, 1) := by decide +kernel
theorem dX10_place_2 : decode cX10_place 2 = .ok (.lconst 0, 1) := by decide +kernel
theorem dX10_place_3 : decode cX10_place 3 = .ok (.aload_n 0, 1) := by decide +kernel
theorem dX10_place_4 : decode cX10_place 4 = .ok (.getfield 194, 3) := by decide +kernel
theorem dX10_place_7 : decode cX10_place 7 = .ok (.iconst 1, 1) := by decide +kernel
theorem dX10_place_8 : decode cX10_place 8 = .ok (.isub, 1) := by decide +kernel
theorem dX10_place_9 : decode cX10_place 9 = .ok (.i2l, 1) := by decide +kernel
theorem dX10_place_10 : decode cX10_place 10 = .ok (.invokestatic 122, 3) := by decide +kernel
theorem dX10_place_13 : decode cX10_place 13 = .ok (.ifCond .ne 7, 3) := by decide +kernel
theorem dX10_place_16 : decode cX10_place 16 = .ok (.ldc2_w 169, 3) := by decide +kernel
theorem dX10_place_19 : decode cX10_place 19 = .ok (.lreturn, 1) := by decide +kernel
theorem dX10_place_20 : decode cX10_place 20 = .ok (.iload_n 2, 1) := by decide +kernel
theorem dX10_place_21 : decode cX10_place 21 = .ok (.i2l, 1) := by decide +kernel
theorem dX10_place_22 : decode cX10_place 22 = .ok (.lconst 0, 1) := by decide +kernel
theorem dX10_place_23 : decode cX10_place 23 = .ok (.ldc2_w 136, 3) := by decide +kernel
theorem dX10_place_26 : decode cX10_place 26 = .ok (.invokestatic 122, 3) := by decide +kernel
theorem dX10_place_29 : decode cX10_place 29 = .ok (.ifCond .eq 13, 3) := by decide +kernel
theorem dX10_place_32 : decode cX10_place 32 = .ok (.iload_n 3, 1) := by decide +kernel
theorem dX10_place_33 : decode cX10_place 33 = .ok (.i2l, 1) := by decide +kernel
theorem dX10_place_34 : decode cX10_place 34 = .ok (.lconst 0, 1) := by decide +kernel
theorem dX10_place_35 : decode cX10_place 35 = .ok (.lconst 1, 1) := by decide +kernel
theorem dX10_place_36 : decode cX10_place 36 = .ok (.invokestatic 122, 3) := by decide +kernel
theorem dX10_place_39 : decode cX10_place 39 = .ok (.ifCond .ne 7, 3) := by decide +kernel
theorem dX10_place_42 : decode cX10_place 42 = .ok (.ldc2_w 171, 3) := by decide +kernel
theorem dX10_place_45 : decode cX10_place 45 = .ok (.lreturn, 1) := by decide +kernel
theorem dX10_place_46 : decode cX10_place 46 = .ok (.aload_n 0, 1) := by decide +kernel
theorem dX10_place_47 : decode cX10_place 47 = .ok (.iload_n 1, 1) := by decide +kernel
theorem dX10_place_48 : decode cX10_place 48 = .ok (.invokevirtual 210, 3) := by decide +kernel
theorem dX10_place_51 : decode cX10_place 51 = .ok (.aload_n 0, 1) := by decide +kernel
theorem dX10_place_52 : decode cX10_place 52 = .ok (.aload_n 0, 1) := by decide +kernel
theorem dX10_place_53 : decode cX10_place 53 = .ok (.getfield 22, 3) := by decide +kernel
theorem dX10_place_56 : decode cX10_place 56 = .ok (.iload_n 1, 1) := by decide +kernel
theorem dX10_place_57 : decode cX10_place 57 = .ok (.iaload, 1) := by decide +kernel
theorem dX10_place_58 : decode cX10_place 58 = .ok (.i2l, 1) := by decide +kernel
theorem dX10_place_59 : decode cX10_place 59 = .ok (.putfield 152, 3) := by decide +kernel
theorem dX10_place_62 : decode cX10_place 62 = .ok (.aload_n 0, 1) := by decide +kernel
theorem dX10_place_63 : decode cX10_place 63 = .ok (.aload_n 0, 1) := by decide +kernel
theorem dX10_place_64 : decode cX10_place 64 = .ok (.getfield 25, 3) := by decide +kernel
theorem dX10_place_67 : decode cX10_place 67 = .ok (.iload_n 1, 1) := by decide +kernel
theorem dX10_place_68 : decode cX10_place 68 = .ok (.iaload, 1) := by decide +kernel
theorem dX10_place_69 : decode cX10_place 69 = .ok (.i2l, 1) := by decide +kernel
theorem dX10_place_70 : decode cX10_place 70 = .ok (.putfield 159, 3) := by decide +kernel
theorem dX10_place_73 : decode cX10_place 73 = .ok (.iconst 0, 1) := by decide +kernel
theorem dX10_place_74 : decode cX10_place 74 = .ok (.istore 4, 2) := by decide +kernel
theorem dX10_place_76 : decode cX10_place 76 = .ok (.iload 4, 2) := by decide +kernel
theorem dX10_place_78 : decode cX10_place 78 = .ok (.iload_n 2, 1) := by decide +kernel
theorem dX10_place_79 : decode cX10_place 79 = .ok (.if_icmp .ge 27, 3) := by decide +kernel
theorem dX10_place_82 : decode cX10_place 82 = .ok (.aload_n 0, 1) := by decide +kernel
theorem dX10_place_83 : decode cX10_place 83 = .ok (.iload 4, 2) := by decide +kernel
theorem dX10_place_85 : decode cX10_place 85 = .ok (.aload_n 0, 1) := by decide +kernel
theorem dX10_place_86 : decode cX10_place 86 = .ok (.getfield 31, 3) := by decide +kernel
theorem dX10_place_89 : decode cX10_place 89 = .ok (.iload_n 1, 1) := by decide +kernel
theorem dX10_place_90 : decode cX10_place 90 = .ok (.iaload, 1) := by decide +kernel
theorem dX10_place_91 : decode cX10_place 91 = .ok (.aload_n 0, 1) := by decide +kernel
theorem dX10_place_92 : decode cX10_place 92 = .ok (.getfield 28, 3) := by decide +kernel
theorem dX10_place_95 : decode cX10_place 95 = .ok (.iload_n 1, 1) := by decide +kernel
theorem dX10_place_96 : decode cX10_place 96 = .ok (.iaload, 1) := by decide +kernel
theorem dX10_place_97 : decode cX10_place 97 = .ok (.invokevirtual 214, 3) := by decide +kernel
theorem dX10_place_100 : decode cX10_place 100 = .ok (.iinc 4 1, 3) := by decide +kernel
theorem dX10_place_103 : decode cX10_place 103 = .ok (.goto (-27), 3) := by decide +kernel
theorem dX10_place_106 : decode cX10_place 106 = .ok (.iload_n 3, 1) := by decide +kernel
theorem dX10_place_107 : decode cX10_place 107 = .ok (.ifCond .ne 10, 3) := by decide +kernel
theorem dX10_place_110 : decode cX10_place 110 = .ok (.aload_n 0, 1) := by decide +kernel
theorem dX10_place_111 : decode cX10_place 111 = .ok (.getfield 152, 3) := by decide +kernel
theorem dX10_place_114 : decode cX10_place 114 = .ok (.goto 7, 3) := by decide +kernel
theorem dX10_place_117 : decode cX10_place 117 = .ok (.aload_n 0, 1) := by decide +kernel
theorem dX10_place_118 : decode cX10_place 118 = .ok (.getfield 159, 3) := by decide +kernel
theorem dX10_place_121 : decode cX10_place 121 = .ok (.lreturn, 1) := by decide +kernel
theorem dX10_begin_0 : decode cX10_begin 0 = .ok (.iconst 0, 1) := by decide +kernel
theorem dX10_begin_1 : decode cX10_begin 1 = .ok (.istore_n 1, 1) := by decide +kernel
theorem dX10_begin_2 : decode cX10_begin 2 = .ok (.iload_n 1, 1) := by decide +kernel
theorem dX10_begin_3 : decode cX10_begin 3 = .ok (.aload_n 0, 1) := by decide +kernel
theorem dX10_begin_4 : decode cX10_begin 4 = .ok (.getfield 194, 3) := by decide +kernel
theorem dX10_begin_7 : decode cX10_begin 7 = .ok (.if_icmp .ge 35, 3) := by decide +kernel
theorem dX10_begin_10 : decode cX10_begin 10 = .ok (.aload_n 0, 1) := by decide +kernel
theorem dX10_begin_11 : decode cX10_begin 11 = .ok (.getfield 43, 3) := by decide +kernel
theorem dX10_begin_14 : decode cX10_begin 14 = .ok (.iload_n 1, 1) := by decide +kernel
theorem dX10_begin_15 : decode cX10_begin 15 = .ok (.aload_n 0, 1) := by decide +kernel
theorem dX10_begin_16 : decode cX10_begin 16 = .ok (.getfield 22, 3) := by decide +kernel
theorem dX10_begin_19 : decode cX10_begin 19 = .ok (.iload_n 1, 1) := by decide +kernel
theorem dX10_begin_20 : decode cX10_begin 20 = .ok (.iaload, 1) := by decide +kernel
theorem dX10_begin_21 : decode cX10_begin 21 = .ok (.i2l, 1) := by decide +kernel
theorem dX10_begin_22 : decode cX10_begin 22 = .ok (.lastore, 1) := by decide +kernel
theorem dX10_begin_23 : decode cX10_begin 23 = .ok (.aload_n 0, 1) := by decide +kernel
theorem dX10_begin_24 : decode cX10_begin 24 = .ok (.getfield 47, 3) := by decide +kernel
theorem dX10_begin_27 : decode cX10_begin 27 = .ok (.iload_n 1, 1) := by decide +kernel
theorem dX10_begin_28 : decode cX10_begin 28 = .ok (.aload_n 0, 1) := by decide +kernel
theorem dX10_begin_29 : decode cX10_begin 29 = .ok (.getfield 25, 3) := by decide +kernel
theorem dX10_begin_32 : decode cX10_begin 32 = .ok (.iload_n 1, 1) := by decide +kernel
theorem dX10_begin_33 : decode cX10_begin 33 = .ok (.iaload, 1) := by decide +kernel
theorem dX10_begin_34 : decode cX10_begin 34 = .ok (.i2l, 1) := by decide +kernel
theorem dX10_begin_35 : decode cX10_begin 35 = .ok (.lastore, 1) := by decide +kernel
theorem dX10_begin_36 : decode cX10_begin 36 = .ok (.iinc 1 1, 3) := by decide +kernel
theorem dX10_begin_39 : decode cX10_begin 39 = .ok (.goto (-37), 3) := by decide +kernel
theorem dX10_begin_42 : decode cX10_begin 42 = .ok (.return_, 1) := by decide +kernel
theorem dX10_stepAll_0 : decode cX10_stepAll 0 = .ok (.iconst 0, 1) := by decide +kernel
theorem dX10_stepAll_1 : decode cX10_stepAll 1 = .ok (.istore_n 2, 1) := by decide +kernel
theorem dX10_stepAll_2 : decode cX10_stepAll 2 = .ok (.iload_n 2, 1) := by decide +kernel
theorem dX10_stepAll_3 : decode cX10_stepAll 3 = .ok (.aload_n 0, 1) := by decide +kernel
theorem dX10_stepAll_4 : decode cX10_stepAll 4 = .ok (.getfield 194, 3) := by decide +kernel
theorem dX10_stepAll_7 : decode cX10_stepAll 7 = .ok (.if_icmp .ge 71, 3) := by decide +kernel
theorem dX10_stepAll_10 : decode cX10_stepAll 10 = .ok (.aload_n 0, 1) := by decide +kernel
theorem dX10_stepAll_11 : decode cX10_stepAll 11 = .ok (.iload_n 2, 1) := by decide +kernel
theorem dX10_stepAll_12 : decode cX10_stepAll 12 = .ok (.invokevirtual 210, 3) := by decide +kernel
theorem dX10_stepAll_15 : decode cX10_stepAll 15 = .ok (.aload_n 0, 1) := by decide +kernel
theorem dX10_stepAll_16 : decode cX10_stepAll 16 = .ok (.aload_n 0, 1) := by decide +kernel
theorem dX10_stepAll_17 : decode cX10_stepAll 17 = .ok (.getfield 43, 3) := by decide +kernel
theorem dX10_stepAll_20 : decode cX10_stepAll 20 = .ok (.iload_n 2, 1) := by decide +kernel
theorem dX10_stepAll_21 : decode cX10_stepAll 21 = .ok (.laload, 1) := by decide +kernel
theorem dX10_stepAll_22 : decode cX10_stepAll 22 = .ok (.putfield 152, 3) := by decide +kernel
theorem dX10_stepAll_25 : decode cX10_stepAll 25 = .ok (.aload_n 0, 1) := by decide +kernel
theorem dX10_stepAll_26 : decode cX10_stepAll 26 = .ok (.aload_n 0, 1) := by decide +kernel
theorem dX10_stepAll_27 : decode cX10_stepAll 27 = .ok (.getfield 47, 3) := by decide +kernel
theorem dX10_stepAll_30 : decode cX10_stepAll 30 = .ok (.iload_n 2, 1) := by decide +kernel
theorem dX10_stepAll_31 : decode cX10_stepAll 31 = .ok (.laload, 1) := by decide +kernel
theorem dX10_stepAll_32 : decode cX10_stepAll 32 = .ok (.putfield 159, 3) := by decide +kernel
theorem dX10_stepAll_35 : decode cX10_stepAll 35 = .ok (.aload_n 0, 1) := by decide +kernel
theorem dX10_stepAll_36 : decode cX10_stepAll 36 = .ok (.iload_n 1, 1) := by decide +kernel
theorem dX10_stepAll_37 : decode cX10_stepAll 37 = .ok (.aload_n 0, 1) := by decide +kernel
theorem dX10_stepAll_38 : decode cX10_stepAll 38 = .ok (.getfield 31, 3) := by decide +kernel
theorem dX10_stepAll_41 : decode cX10_stepAll 41 = .ok (.iload_n 2, 1) := by decide +kernel
theorem dX10_stepAll_42 : decode cX10_stepAll 42 = .ok (.iaload, 1) := by decide +kernel
theorem dX10_stepAll_43 : decode cX10_stepAll 43 = .ok (.aload_n 0, 1) := by decide +kernel
theorem dX10_stepAll_44 : decode cX10_stepAll 44 = .ok (.getfield 28, 3) := by decide +kernel
theorem dX10_stepAll_47 : decode cX10_stepAll 47 = .ok (.iload_n 2, 1) := by decide +kernel
theorem dX10_stepAll_48 : decode cX10_stepAll 48 = .ok (.iaload, 1) := by decide +kernel
theorem dX10_stepAll_49 : decode cX10_stepAll 49 = .ok (.invokevirtual 214, 3) := by decide +kernel
theorem dX10_stepAll_52 : decode cX10_stepAll 52 = .ok (.aload_n 0, 1) := by decide +kernel
theorem dX10_stepAll_53 : decode cX10_stepAll 53 = .ok (.getfield 43, 3) := by decide +kernel
theorem dX10_stepAll_56 : decode cX10_stepAll 56 = .ok (.iload_n 2, 1) := by decide +kernel
theorem dX10_stepAll_57 : decode cX10_stepAll 57 = .ok (.aload_n 0, 1) := by decide +kernel
theorem dX10_stepAll_58 : decode cX10_stepAll 58 = .ok (.getfield 152, 3) := by decide +kernel
theorem dX10_stepAll_61 : decode cX10_stepAll 61 = .ok (.lastore, 1) := by decide +kernel
theorem dX10_stepAll_62 : decode cX10_stepAll 62 = .ok (.aload_n 0, 1) := by decide +kernel
theorem dX10_stepAll_63 : decode cX10_stepAll 63 = .ok (.getfield 47, 3) := by decide +kernel
theorem dX10_stepAll_66 : decode cX10_stepAll 66 = .ok (.iload_n 2, 1) := by decide +kernel
theorem dX10_stepAll_67 : decode cX10_stepAll 67 = .ok (.aload_n 0, 1) := by decide +kernel
theorem dX10_stepAll_68 : decode cX10_stepAll 68 = .ok (.getfield 159, 3) := by decide +kernel
theorem dX10_stepAll_71 : decode cX10_stepAll 71 = .ok (.lastore, 1) := by decide +kernel
theorem dX10_stepAll_72 : decode cX10_stepAll 72 = .ok (.iinc 2 1, 3) := by decide +kernel
theorem dX10_stepAll_75 : decode cX10_stepAll 75 = .ok (.goto (-73), 3) := by decide +kernel
theorem dX10_stepAll_78 : decode cX10_stepAll 78 = .ok (.return_, 1) := by decide +kernel
theorem dX10_apartOf_0 : decode cX10_apartOf 0 = .ok (.aload_n 0, 1) := by decide +kernel
theorem dX10_apartOf_1 : decode cX10_apartOf 1 = .ok (.getfield 43, 3) := by decide +kernel
theorem dX10_apartOf_4 : decode cX10_apartOf 4 = .ok (.iload_n 1, 1) := by decide +kernel
theorem dX10_apartOf_5 : decode cX10_apartOf 5 = .ok (.laload, 1) := by decide +kernel
theorem dX10_apartOf_6 : decode cX10_apartOf 6 = .ok (.aload_n 0, 1) := by decide +kernel
theorem dX10_apartOf_7 : decode cX10_apartOf 7 = .ok (.getfield 43, 3) := by decide +kernel
theorem dX10_apartOf_10 : decode cX10_apartOf 10 = .ok (.iload_n 2, 1) := by decide +kernel
theorem dX10_apartOf_11 : decode cX10_apartOf 11 = .ok (.laload, 1) := by decide +kernel
theorem dX10_apartOf_12 : decode cX10_apartOf 12 = .ok (.lsub, 1) := by decide +kernel
theorem dX10_apartOf_13 : decode cX10_apartOf 13 = .ok (.lstore_n 3, 1) := by decide +kernel
theorem dX10_apartOf_14 : decode cX10_apartOf 14 = .ok (.aload_n 0, 1) := by decide +kernel
theorem dX10_apartOf_15 : decode cX10_apartOf 15 = .ok (.getfield 47, 3) := by decide +kernel
theorem dX10_apartOf_18 : decode cX10_apartOf 18 = .ok (.iload_n 1, 1) := by decide +kernel
theorem dX10_apartOf_19 : decode cX10_apartOf 19 = .ok (.laload, 1) := by decide +kernel
theorem dX10_apartOf_20 : decode cX10_apartOf 20 = .ok (.aload_n 0, 1) := by decide +kernel
theorem dX10_apartOf_21 : decode cX10_apartOf 21 = .ok (.getfield 47, 3) := by decide +kernel
theorem dX10_apartOf_24 : decode cX10_apartOf 24 = .ok (.iload_n 2, 1) := by decide +kernel
theorem dX10_apartOf_25 : decode cX10_apartOf 25 = .ok (.laload, 1) := by decide +kernel
theorem dX10_apartOf_26 : decode cX10_apartOf 26 = .ok (.lsub, 1) := by decide +kernel
theorem dX10_apartOf_27 : decode cX10_apartOf 27 = .ok (.lstore 5, 2) := by decide +kernel
theorem dX10_apartOf_29 : decode cX10_apartOf 29 = .ok (.lload_n 3, 1) := by decide +kernel
theorem dX10_apartOf_30 : decode cX10_apartOf 30 = .ok (.lload_n 3, 1) := by decide +kernel
theorem dX10_apartOf_31 : decode cX10_apartOf 31 = .ok (.lmul, 1) := by decide +kernel
theorem dX10_apartOf_32 : decode cX10_apartOf 32 = .ok (.lload 5, 2) := by decide +kernel
theorem dX10_apartOf_34 : decode cX10_apartOf 34 = .ok (.lload 5, 2) := by decide +kernel
theorem dX10_apartOf_36 : decode cX10_apartOf 36 = .ok (.lmul, 1) := by decide +kernel
theorem dX10_apartOf_37 : decode cX10_apartOf 37 = .ok (.ladd, 1) := by decide +kernel
theorem dX10_apartOf_38 : decode cX10_apartOf 38 = .ok (.lreturn, 1) := by decide +kernel
theorem dX10_nearest_0 : decode cX10_nearest 0 = .ok (.iload_n 1, 1) := by decide +kernel
theorem dX10_nearest_1 : decode cX10_nearest 1 = .ok (.i2l, 1) := by decide +kernel
theorem dX10_nearest_2 : decode cX10_nearest 2 = .ok (.lconst 0, 1) := by decide +kernel
theorem dX10_nearest_3 : decode cX10_nearest 3 = .ok (.ldc2_w 136, 3) := by decide +kernel
theorem dX10_nearest_6 : decode cX10_nearest 6 = .ok (.invokestatic 122, 3) := by decide +kernel
theorem dX10_nearest_9 : decode cX10_nearest 9 = .ok (.ifCond .eq 15, 3) := by decide +kernel
theorem dX10_nearest_12 : decode cX10_nearest 12 = .ok (.iload_n 2, 1) := by decide +kernel
theorem dX10_nearest_13 : decode cX10_nearest 13 = .ok (.i2l, 1) := by decide +kernel
theorem dX10_nearest_14 : decode cX10_nearest 14 = .ok (.lconst 0, 1) := by decide +kernel
theorem dX10_nearest_15 : decode cX10_nearest 15 = .ok (.ldc2_w 120, 3) := by decide +kernel
theorem dX10_nearest_18 : decode cX10_nearest 18 = .ok (.invokestatic 122, 3) := by decide +kernel
theorem dX10_nearest_21 : decode cX10_nearest 21 = .ok (.ifCond .ne 7, 3) := by decide +kernel
theorem dX10_nearest_24 : decode cX10_nearest 24 = .ok (.ldc2_w 171, 3) := by decide +kernel
theorem dX10_nearest_27 : decode cX10_nearest 27 = .ok (.lreturn, 1) := by decide +kernel
theorem dX10_nearest_28 : decode cX10_nearest 28 = .ok (.aload_n 0, 1) := by decide +kernel
theorem dX10_nearest_29 : decode cX10_nearest 29 = .ok (.getfield 194, 3) := by decide +kernel
theorem dX10_nearest_32 : decode cX10_nearest 32 = .ok (.iconst 2, 1) := by decide +kernel
theorem dX10_nearest_33 : decode cX10_nearest 33 = .ok (.if_icmp .ge 7, 3) := by decide +kernel
theorem dX10_nearest_36 : decode cX10_nearest 36 = .ok (.ldc2_w 217, 3) := by decide +kernel
theorem dX10_nearest_39 : decode cX10_nearest 39 = .ok (.lreturn, 1) := by decide +kernel
theorem dX10_nearest_40 : decode cX10_nearest 40 = .ok (.ldc2_w 219, 3) := by decide +kernel
theorem dX10_nearest_43 : decode cX10_nearest 43 = .ok (.lstore_n 3, 1) := by decide +kernel
theorem dX10_nearest_44 : decode cX10_nearest 44 = .ok (.iconst 0, 1) := by decide +kernel
theorem dX10_nearest_45 : decode cX10_nearest 45 = .ok (.istore 5, 2) := by decide +kernel
theorem dX10_nearest_47 : decode cX10_nearest 47 = .ok (.iconst 0, 1) := by decide +kernel
theorem dX10_nearest_48 : decode cX10_nearest 48 = .ok (.istore 6, 2) := by decide +kernel
theorem dX10_nearest_50 : decode cX10_nearest 50 = .ok (.iconst 0, 1) := by decide +kernel
theorem dX10_nearest_51 : decode cX10_nearest 51 = .ok (.istore 7, 2) := by decide +kernel
theorem dX10_nearest_53 : decode cX10_nearest 53 = .ok (.aload_n 0, 1) := by decide +kernel
theorem dX10_nearest_54 : decode cX10_nearest 54 = .ok (.invokevirtual 221, 3) := by decide +kernel
theorem dX10_nearest_57 : decode cX10_nearest 57 = .ok (.iconst 0, 1) := by decide +kernel
theorem dX10_nearest_58 : decode cX10_nearest 58 = .ok (.istore 8, 2) := by decide +kernel
theorem dX10_nearest_60 : decode cX10_nearest 60 = .ok (.iload 8, 2) := by decide +kernel
theorem dX10_nearest_62 : decode cX10_nearest 62 = .ok (.iload_n 1, 1) := by decide +kernel
theorem dX10_nearest_63 : decode cX10_nearest 63 = .ok (.if_icmp .gt 94, 3) := by decide +kernel
theorem dX10_nearest_66 : decode cX10_nearest 66 = .ok (.iconst 0, 1) := by decide +kernel
theorem dX10_nearest_67 : decode cX10_nearest 67 = .ok (.istore 9, 2) := by decide +kernel
theorem dX10_nearest_69 : decode cX10_nearest 69 = .ok (.iload 9, 2) := by decide +kernel
theorem dX10_nearest_71 : decode cX10_nearest 71 = .ok (.aload_n 0, 1) := by decide +kernel
theorem dX10_nearest_72 : decode cX10_nearest 72 = .ok (.getfield 194, 3) := by decide +kernel
theorem dX10_nearest_75 : decode cX10_nearest 75 = .ok (.if_icmp .ge 70, 3) := by decide +kernel
theorem dX10_nearest_78 : decode cX10_nearest 78 = .ok (.iload 9, 2) := by decide +kernel
theorem dX10_nearest_80 : decode cX10_nearest 80 = .ok (.iconst 1, 1) := by decide +kernel
theorem dX10_nearest_81 : decode cX10_nearest 81 = .ok (.iadd, 1) := by decide +kernel
theorem dX10_nearest_82 : decode cX10_nearest 82 = .ok (.istore 10, 2) := by decide +kernel
theorem dX10_nearest_84 : decode cX10_nearest 84 = .ok (.iload 10, 2) := by decide +kernel
theorem dX10_nearest_86 : decode cX10_nearest 86 = .ok (.aload_n 0, 1) := by decide +kernel
theorem dX10_nearest_87 : decode cX10_nearest 87 = .ok (.getfield 194, 3) := by decide +kernel
theorem dX10_nearest_90 : decode cX10_nearest 90 = .ok (.if_icmp .ge 49, 3) := by decide +kernel
theorem dX10_nearest_93 : decode cX10_nearest 93 = .ok (.lload_n 3, 1) := by decide +kernel
theorem dX10_nearest_94 : decode cX10_nearest 94 = .ok (.lconst 0, 1) := by decide +kernel
theorem dX10_nearest_95 : decode cX10_nearest 95 = .ok (.lcmp, 1) := by decide +kernel
theorem dX10_nearest_96 : decode cX10_nearest 96 = .ok (.ifCond .lt 16, 3) := by decide +kernel
theorem dX10_nearest_99 : decode cX10_nearest 99 = .ok (.aload_n 0, 1) := by decide +kernel
theorem dX10_nearest_100 : decode cX10_nearest 100 = .ok (.iload 9, 2) := by decide +kernel
theorem dX10_nearest_102 : decode cX10_nearest 102 = .ok (.iload 10, 2) := by decide +kernel
theorem dX10_nearest_104 : decode cX10_nearest 104 = .ok (.invokevirtual 224, 3) := by decide +kernel
theorem dX10_nearest_107 : decode cX10_nearest 107 = .ok (.lload_n 3, 1) := by decide +kernel
theorem dX10_nearest_108 : decode cX10_nearest 108 = .ok (.lcmp, 1) := by decide +kernel
theorem dX10_nearest_109 : decode cX10_nearest 109 = .ok (.ifCond .ge 24, 3) := by decide +kernel
theorem dX10_nearest_112 : decode cX10_nearest 112 = .ok (.aload_n 0, 1) := by decide +kernel
theorem dX10_nearest_113 : decode cX10_nearest 113 = .ok (.iload 9, 2) := by decide +kernel
theorem dX10_nearest_115 : decode cX10_nearest 115 = .ok (.iload 10, 2) := by decide +kernel
theorem dX10_nearest_117 : decode cX10_nearest 117 = .ok (.invokevirtual 224, 3) := by decide +kernel
theorem dX10_nearest_120 : decode cX10_nearest 120 = .ok (.lstore_n 3, 1) := by decide +kernel
theorem dX10_nearest_121 : decode cX10_nearest 121 = .ok (.iload 8, 2) := by decide +kernel
theorem dX10_nearest_123 : decode cX10_nearest 123 = .ok (.istore 5, 2) := by decide +kernel
theorem dX10_nearest_125 : decode cX10_nearest 125 = .ok (.iload 9, 2) := by decide +kernel
theorem dX10_nearest_127 : decode cX10_nearest 127 = .ok (.istore 6, 2) := by decide +kernel
theorem dX10_nearest_129 : decode cX10_nearest 129 = .ok (.iload 10, 2) := by decide +kernel
theorem dX10_nearest_131 : decode cX10_nearest 131 = .ok (.istore 7, 2) := by decide +kernel
theorem dX10_nearest_133 : decode cX10_nearest 133 = .ok (.iinc 10 1, 3) := by decide +kernel
theorem dX10_nearest_136 : decode cX10_nearest 136 = .ok (.goto (-52), 3) := by decide +kernel
theorem dX10_nearest_139 : decode cX10_nearest 139 = .ok (.iinc 9 1, 3) := by decide +kernel
theorem dX10_nearest_142 : decode cX10_nearest 142 = .ok (.goto (-73), 3) := by decide +kernel
theorem dX10_nearest_145 : decode cX10_nearest 145 = .ok (.aload_n 0, 1) := by decide +kernel
theorem dX10_nearest_146 : decode cX10_nearest 146 = .ok (.iload 8, 2) := by decide +kernel
theorem dX10_nearest_148 : decode cX10_nearest 148 = .ok (.invokevirtual 228, 3) := by decide +kernel
theorem dX10_nearest_151 : decode cX10_nearest 151 = .ok (.iinc 8 1, 3) := by decide +kernel
theorem dX10_nearest_154 : decode cX10_nearest 154 = .ok (.goto (-94), 3) := by decide +kernel
theorem dX10_nearest_157 : decode cX10_nearest 157 = .ok (.iload_n 2, 1) := by decide +kernel
theorem dX10_nearest_158 : decode cX10_nearest 158 = .ok (.ifCond .ne 7, 3) := by decide +kernel
theorem dX10_nearest_161 : decode cX10_nearest 161 = .ok (.lload_n 3, 1) := by decide +kernel
theorem dX10_nearest_162 : decode cX10_nearest 162 = .ok (.goto 28, 3) := by decide +kernel
theorem dX10_nearest_165 : decode cX10_nearest 165 = .ok (.iload_n 2, 1) := by decide +kernel
theorem dX10_nearest_166 : decode cX10_nearest 166 = .ok (.iconst 1, 1) := by decide +kernel
theorem dX10_nearest_167 : decode cX10_nearest 167 = .ok (.if_icmp .ne 9, 3) := by decide +kernel
theorem dX10_nearest_170 : decode cX10_nearest 170 = .ok (.iload 5, 2) := by decide +kernel
theorem dX10_nearest_172 : decode cX10_nearest 172 = .ok (.i2l, 1) := by decide +kernel
theorem dX10_nearest_173 : decode cX10_nearest 173 = .ok (.goto 17, 3) := by decide +kernel
theorem dX10_nearest_176 : decode cX10_nearest 176 = .ok (.iload_n 2, 1) := by decide +kernel
theorem dX10_nearest_177 : decode cX10_nearest 177 = .ok (.iconst 2, 1) := by decide +kernel
theorem dX10_nearest_178 : decode cX10_nearest 178 = .ok (.if_icmp .ne 9, 3) := by decide +kernel
theorem dX10_nearest_181 : decode cX10_nearest 181 = .ok (.iload 6, 2) := by decide +kernel
theorem dX10_nearest_183 : decode cX10_nearest 183 = .ok (.i2l, 1) := by decide +kernel
theorem dX10_nearest_184 : decode cX10_nearest 184 = .ok (.goto 6, 3) := by decide +kernel
theorem dX10_nearest_187 : decode cX10_nearest 187 = .ok (.iload 7, 2) := by decide +kernel
theorem dX10_nearest_189 : decode cX10_nearest 189 = .ok (.i2l, 1) := by decide +kernel
theorem dX10_nearest_190 : decode cX10_nearest 190 = .ok (.lreturn, 1) := by decide +kernel
theorem dX10_close_0 : decode cX10_close 0 = .ok (.iload_n 1, 1) := by decide +kernel
theorem dX10_close_1 : decode cX10_close 1 = .ok (.i2l, 1) := by decide +kernel
theorem dX10_close_2 : decode cX10_close 2 = .ok (.lconst 0, 1) := by decide +kernel
theorem dX10_close_3 : decode cX10_close 3 = .ok (.ldc2_w 136, 3) := by decide +kernel
theorem dX10_close_6 : decode cX10_close 6 = .ok (.invokestatic 122, 3) := by decide +kernel
theorem dX10_close_9 : decode cX10_close 9 = .ok (.ifCond .eq 15, 3) := by decide +kernel
theorem dX10_close_12 : decode cX10_close 12 = .ok (.iload_n 2, 1) := by decide +kernel
theorem dX10_close_13 : decode cX10_close 13 = .ok (.i2l, 1) := by decide +kernel
theorem dX10_close_14 : decode cX10_close 14 = .ok (.lconst 0, 1) := by decide +kernel
theorem dX10_close_15 : decode cX10_close 15 = .ok (.ldc2_w 231, 3) := by decide +kernel
theorem dX10_close_18 : decode cX10_close 18 = .ok (.invokestatic 122, 3) := by decide +kernel
theorem dX10_close_21 : decode cX10_close 21 = .ok (.ifCond .ne 6, 3) := by decide +kernel
theorem dX10_close_24 : decode cX10_close 24 = .ok (.bipush (-2), 2) := by decide +kernel
theorem dX10_close_26 : decode cX10_close 26 = .ok (.ireturn, 1) := by decide +kernel
theorem dX10_close_27 : decode cX10_close 27 = .ok (.iconst 0, 1) := by decide +kernel
theorem dX10_close_28 : decode cX10_close 28 = .ok (.istore_n 3, 1) := by decide +kernel
theorem dX10_close_29 : decode cX10_close 29 = .ok (.aload_n 0, 1) := by decide +kernel
theorem dX10_close_30 : decode cX10_close 30 = .ok (.invokevirtual 221, 3) := by decide +kernel
theorem dX10_close_33 : decode cX10_close 33 = .ok (.iconst 0, 1) := by decide +kernel
theorem dX10_close_34 : decode cX10_close 34 = .ok (.istore 4, 2) := by decide +kernel
theorem dX10_close_36 : decode cX10_close 36 = .ok (.iload 4, 2) := by decide +kernel
theorem dX10_close_38 : decode cX10_close 38 = .ok (.iload_n 1, 1) := by decide +kernel
theorem dX10_close_39 : decode cX10_close 39 = .ok (.if_icmp .gt 99, 3) := by decide +kernel
theorem dX10_close_42 : decode cX10_close 42 = .ok (.iconst 0, 1) := by decide +kernel
theorem dX10_close_43 : decode cX10_close 43 = .ok (.istore 5, 2) := by decide +kernel
theorem dX10_close_45 : decode cX10_close 45 = .ok (.iconst 0, 1) := by decide +kernel
theorem dX10_close_46 : decode cX10_close 46 = .ok (.istore 6, 2) := by decide +kernel
theorem dX10_close_48 : decode cX10_close 48 = .ok (.iload 6, 2) := by decide +kernel
theorem dX10_close_50 : decode cX10_close 50 = .ok (.aload_n 0, 1) := by decide +kernel
theorem dX10_close_51 : decode cX10_close 51 = .ok (.getfield 194, 3) := by decide +kernel
theorem dX10_close_54 : decode cX10_close 54 = .ok (.if_icmp .ge 59, 3) := by decide +kernel
theorem dX10_close_57 : decode cX10_close 57 = .ok (.iload 6, 2) := by decide +kernel
theorem dX10_close_59 : decode cX10_close 59 = .ok (.iconst 1, 1) := by decide +kernel
theorem dX10_close_60 : decode cX10_close 60 = .ok (.iadd, 1) := by decide +kernel
theorem dX10_close_61 : decode cX10_close 61 = .ok (.istore 7, 2) := by decide +kernel
theorem dX10_close_63 : decode cX10_close 63 = .ok (.iload 7, 2) := by decide +kernel
theorem dX10_close_65 : decode cX10_close 65 = .ok (.aload_n 0, 1) := by decide +kernel
theorem dX10_close_66 : decode cX10_close 66 = .ok (.getfield 194, 3) := by decide +kernel
theorem dX10_close_69 : decode cX10_close 69 = .ok (.if_icmp .ge 38, 3) := by decide +kernel
theorem dX10_close_72 : decode cX10_close 72 = .ok (.iload 5, 2) := by decide +kernel
theorem dX10_close_74 : decode cX10_close 74 = .ok (.ifCond .ne 20, 3) := by decide +kernel
theorem dX10_close_77 : decode cX10_close 77 = .ok (.aload_n 0, 1) := by decide +kernel
theorem dX10_close_78 : decode cX10_close 78 = .ok (.iload 6, 2) := by decide +kernel
theorem dX10_close_80 : decode cX10_close 80 = .ok (.iload 7, 2) := by decide +kernel
theorem dX10_close_82 : decode cX10_close 82 = .ok (.invokevirtual 224, 3) := by decide +kernel
theorem dX10_close_85 : decode cX10_close 85 = .ok (.iload_n 2, 1) := by decide +kernel
theorem dX10_close_86 : decode cX10_close 86 = .ok (.i2l, 1) := by decide +kernel
theorem dX10_close_87 : decode cX10_close 87 = .ok (.iload_n 2, 1) := by decide +kernel
theorem dX10_close_88 : decode cX10_close 88 = .ok (.i2l, 1) := by decide +kernel
theorem dX10_close_89 : decode cX10_close 89 = .ok (.lmul, 1) := by decide +kernel
theorem dX10_close_90 : decode cX10_close 90 = .ok (.lcmp, 1) := by decide +kernel
theorem dX10_close_91 : decode cX10_close 91 = .ok (.ifCond .ge 7, 3) := by decide +kernel
theorem dX10_close_94 : decode cX10_close 94 = .ok (.iconst 1, 1) := by decide +kernel
theorem dX10_close_95 : decode cX10_close 95 = .ok (.goto 4, 3) := by decide +kernel
theorem dX10_close_98 : decode cX10_close 98 = .ok (.iconst 0, 1) := by decide +kernel
theorem dX10_close_99 : decode cX10_close 99 = .ok (.istore 5, 2) := by decide +kernel
theorem dX10_close_101 : decode cX10_close 101 = .ok (.iinc 7 1, 3) := by decide +kernel
theorem dX10_close_104 : decode cX10_close 104 = .ok (.goto (-41), 3) := by decide +kernel
theorem dX10_close_107 : decode cX10_close 107 = .ok (.iinc 6 1, 3) := by decide +kernel
theorem dX10_close_110 : decode cX10_close 110 = .ok (.goto (-62), 3) := by decide +kernel
theorem dX10_close_113 : decode cX10_close 113 = .ok (.iload_n 3, 1) := by decide +kernel
theorem dX10_close_114 : decode cX10_close 114 = .ok (.iload 5, 2) := by decide +kernel
theorem dX10_close_116 : decode cX10_close 116 = .ok (.ifCond .eq 7, 3) := by decide +kernel
theorem dX10_close_119 : decode cX10_close 119 = .ok (.iconst 1, 1) := by decide +kernel
theorem dX10_close_120 : decode cX10_close 120 = .ok (.goto 4, 3) := by decide +kernel
theorem dX10_close_123 : decode cX10_close 123 = .ok (.iconst 0, 1) := by decide +kernel
theorem dX10_close_124 : decode cX10_close 124 = .ok (.iadd, 1) := by decide +kernel
theorem dX10_close_125 : decode cX10_close 125 = .ok (.istore_n 3, 1) := by decide +kernel
theorem dX10_close_126 : decode cX10_close 126 = .ok (.aload_n 0, 1) := by decide +kernel
theorem dX10_close_127 : decode cX10_close 127 = .ok (.iload 4, 2) := by decide +kernel
theorem dX10_close_129 : decode cX10_close 129 = .ok (.invokevirtual 228, 3) := by decide +kernel
theorem dX10_close_132 : decode cX10_close 132 = .ok (.iinc 4 1, 3) := by decide +kernel
theorem dX10_close_135 : decode cX10_close 135 = .ok (.goto (-99), 3) := by decide +kernel
theorem dX10_close_138 : decode cX10_close 138 = .ok (.iload_n 3, 1) := by decide +kernel
theorem dX10_close_139 : decode cX10_close 139 = .ok (.ireturn, 1) := by decide +kernel
theorem dX10_centre_0 : decode cX10_centre 0 = .ok (.iload_n 1, 1) := by decide +kernel
theorem dX10_centre_1 : decode cX10_centre 1 = .ok (.i2l, 1) := by decide +kernel
theorem dX10_centre_2 : decode cX10_centre 2 = .ok (.lconst 1, 1) := by decide +kernel
theorem dX10_centre_3 : decode cX10_centre 3 = .ok (.ldc2_w 184, 3) := by decide +kernel
theorem dX10_centre_6 : decode cX10_centre 6 = .ok (.invokestatic 122, 3) := by decide +kernel
theorem dX10_centre_9 : decode cX10_centre 9 = .ok (.ifCond .ne 6, 3) := by decide +kernel
theorem dX10_centre_12 : decode cX10_centre 12 = .ok (.bipush (-2), 2) := by decide +kernel
theorem dX10_centre_14 : decode cX10_centre 14 = .ok (.ireturn, 1) := by decide +kernel
theorem dX10_centre_15 : decode cX10_centre 15 = .ok (.aload_n 0, 1) := by decide +kernel
theorem dX10_centre_16 : decode cX10_centre 16 = .ok (.getfield 50, 3) := by decide +kernel
theorem dX10_centre_19 : decode cX10_centre 19 = .ok (.istore_n 2, 1) := by decide +kernel
theorem dX10_centre_20 : decode cX10_centre 20 = .ok (.aload_n 0, 1) := by decide +kernel
theorem dX10_centre_21 : decode cX10_centre 21 = .ok (.iload_n 1, 1) := by decide +kernel
theorem dX10_centre_22 : decode cX10_centre 22 = .ok (.putfield 50, 3) := by decide +kernel
theorem dX10_centre_25 : decode cX10_centre 25 = .ok (.iload_n 2, 1) := by decide +kernel
theorem dX10_centre_26 : decode cX10_centre 26 = .ok (.ireturn, 1) := by decide +kernel
theorem dX10_lurk_0 : decode cX10_lurk 0 = .ok (.iload_n 1, 1) := by decide +kernel
theorem dX10_lurk_1 : decode cX10_lurk 1 = .ok (.i2l, 1) := by decide +kernel
theorem dX10_lurk_2 : decode cX10_lurk 2 = .ok (.ldc2_w 233, 3) := by decide +kernel
theorem dX10_lurk_5 : decode cX10_lurk 5 = .ok (.ldc2_w 235, 3) := by decide +kernel
theorem dX10_lurk_8 : decode cX10_lurk 8 = .ok (.invokestatic 122, 3) := by decide +kernel
theorem dX10_lurk_11 : decode cX10_lurk 11 = .ok (.ifCond .eq 42, 3) := by decide +kernel
theorem dX10_lurk_14 : decode cX10_lurk 14 = .ok (.iload_n 2, 1) := by decide +kernel
theorem dX10_lurk_15 : decode cX10_lurk 15 = .ok (.i2l, 1) := by decide +kernel
theorem dX10_lurk_16 : decode cX10_lurk 16 = .ok (.ldc2_w 233, 3) := by decide +kernel
theorem dX10_lurk_19 : decode cX10_lurk 19 = .ok (.ldc2_w 235, 3) := by decide +kernel
theorem dX10_lurk_22 : decode cX10_lurk 22 = .ok (.invokestatic 122, 3) := by decide +kernel
theorem dX10_lurk_25 : decode cX10_lurk 25 = .ok (.ifCond .eq 28, 3) := by decide +kernel
theorem dX10_lurk_28 : decode cX10_lurk 28 = .ok (.iload_n 3, 1) := by decide +kernel
theorem dX10_lurk_29 : decode cX10_lurk 29 = .ok (.i2l, 1) := by decide +kernel
theorem dX10_lurk_30 : decode cX10_lurk 30 = .ok (.lconst 1, 1) := by decide +kernel
theorem dX10_lurk_31 : decode cX10_lurk 31 = .ok (.ldc2_w 184, 3) := by decide +kernel
theorem dX10_lurk_34 : decode cX10_lurk 34 = .ok (.invokestatic 122, 3) := by decide +kernel
theorem dX10_lurk_37 : decode cX10_lurk 37 = .ok (.ifCond .eq 16, 3) := by decide +kernel
theorem dX10_lurk_40 : decode cX10_lurk 40 = .ok (.iload 4, 2) := by decide +kernel
theorem dX10_lurk_42 : decode cX10_lurk 42 = .ok (.i2l, 1) := by decide +kernel
theorem dX10_lurk_43 : decode cX10_lurk 43 = .ok (.lconst 0, 1) := by decide +kernel
theorem dX10_lurk_44 : decode cX10_lurk 44 = .ok (.ldc2_w 237, 3) := by decide +kernel
theorem dX10_lurk_47 : decode cX10_lurk 47 = .ok (.invokestatic 122, 3) := by decide +kernel
theorem dX10_lurk_50 : decode cX10_lurk 50 = .ok (.ifCond .ne 6, 3) := by decide +kernel
theorem dX10_lurk_53 : decode cX10_lurk 53 = .ok (.bipush (-2), 2) := by decide +kernel
theorem dX10_lurk_55 : decode cX10_lurk 55 = .ok (.ireturn, 1) := by decide +kernel
theorem dX10_lurk_56 : decode cX10_lurk 56 = .ok (.aload_n 0, 1) := by decide +kernel
theorem dX10_lurk_57 : decode cX10_lurk 57 = .ok (.iload_n 1, 1) := by decide +kernel
theorem dX10_lurk_58 : decode cX10_lurk 58 = .ok (.putfield 55, 3) := by decide +kernel
theorem dX10_lurk_61 : decode cX10_lurk 61 = .ok (.aload_n 0, 1) := by decide +kernel
theorem dX10_lurk_62 : decode cX10_lurk 62 = .ok (.iload_n 2, 1) := by decide +kernel
theorem dX10_lurk_63 : decode cX10_lurk 63 = .ok (.putfield 239, 3) := by decide +kernel
theorem dX10_lurk_66 : decode cX10_lurk 66 = .ok (.aload_n 0, 1) := by decide +kernel
theorem dX10_lurk_67 : decode cX10_lurk 67 = .ok (.iload_n 3, 1) := by decide +kernel
theorem dX10_lurk_68 : decode cX10_lurk 68 = .ok (.putfield 58, 3) := by decide +kernel
theorem dX10_lurk_71 : decode cX10_lurk 71 = .ok (.aload_n 0, 1) := by decide +kernel
theorem dX10_lurk_72 : decode cX10_lurk 72 = .ok (.iload 4, 2) := by decide +kernel
theorem dX10_lurk_74 : decode cX10_lurk 74 = .ok (.putfield 61, 3) := by decide +kernel
theorem dX10_lurk_77 : decode cX10_lurk 77 = .ok (.iconst 1, 1) := by decide +kernel
theorem dX10_lurk_78 : decode cX10_lurk 78 = .ok (.ireturn, 1) := by decide +kernel
theorem dX10_isWithin_0 : decode cX10_isWithin 0 = .ok (.lload_n 0, 1) := by decide +kernel
theorem dX10_isWithin_1 : decode cX10_isWithin 1 = .ok (.lload_n 0, 1) := by decide +kernel
theorem dX10_isWithin_2 : decode cX10_isWithin 2 = .ok (.lmul, 1) := by decide +kernel
theorem dX10_isWithin_3 : decode cX10_isWithin 3 = .ok (.lload_n 2, 1) := by decide +kernel
theorem dX10_isWithin_4 : decode cX10_isWithin 4 = .ok (.lload_n 2, 1) := by decide +kernel
theorem dX10_isWithin_5 : decode cX10_isWithin 5 = .ok (.lmul, 1) := by decide +kernel
theorem dX10_isWithin_6 : decode cX10_isWithin 6 = .ok (.ladd, 1) := by decide +kernel
theorem dX10_isWithin_7 : decode cX10_isWithin 7 = .ok (.lload 4, 2) := by decide +kernel
theorem dX10_isWithin_9 : decode cX10_isWithin 9 = .ok (.lload 4, 2) := by decide +kernel
theorem dX10_isWithin_11 : decode cX10_isWithin 11 = .ok (.lmul, 1) := by decide +kernel
theorem dX10_isWithin_12 : decode cX10_isWithin 12 = .ok (.lcmp, 1) := by decide +kernel
theorem dX10_isWithin_13 : decode cX10_isWithin 13 = .ok (.ifCond .gt 7, 3) := by decide +kernel
theorem dX10_isWithin_16 : decode cX10_isWithin 16 = .ok (.iconst 1, 1) := by decide +kernel
theorem dX10_isWithin_17 : decode cX10_isWithin 17 = .ok (.goto 4, 3) := by decide +kernel
theorem dX10_isWithin_20 : decode cX10_isWithin 20 = .ok (.iconst 0, 1) := by decide +kernel
theorem dX10_isWithin_21 : decode cX10_isWithin 21 = .ok (.ireturn, 1) := by decide +kernel
theorem dX10_comes_0 : decode cX10_comes 0 = .ok (.iload_n 1, 1) := by decide +kernel
theorem dX10_comes_1 : decode cX10_comes 1 = .ok (.invokestatic 126, 3) := by decide +kernel
theorem dX10_comes_4 : decode cX10_comes 4 = .ok (.ifCond .ne 5, 3) := by decide +kernel
theorem dX10_comes_7 : decode cX10_comes 7 = .ok (.iconst (-1), 1) := by decide +kernel
theorem dX10_comes_8 : decode cX10_comes 8 = .ok (.ireturn, 1) := by decide +kernel
theorem dX10_comes_9 : decode cX10_comes 9 = .ok (.aload_n 0, 1) := by decide +kernel
theorem dX10_comes_10 : decode cX10_comes 10 = .ok (.invokevirtual 138, 3) := by decide +kernel
theorem dX10_comes_13 : decode cX10_comes 13 = .ok (.aload_n 0, 1) := by decide +kernel
theorem dX10_comes_14 : decode cX10_comes 14 = .ok (.lconst 0, 1) := by decide +kernel
theorem dX10_comes_15 : decode cX10_comes 15 = .ok (.putfield 152, 3) := by decide +kernel
theorem dX10_comes_18 : decode cX10_comes 18 = .ok (.aload_n 0, 1) := by decide +kernel
theorem dX10_comes_19 : decode cX10_comes 19 = .ok (.lconst 0, 1) := by decide +kernel
theorem dX10_comes_20 : decode cX10_comes 20 = .ok (.putfield 159, 3) := by decide +kernel
theorem dX10_comes_23 : decode cX10_comes 23 = .ok (.iconst 0, 1) := by decide +kernel
theorem dX10_comes_24 : decode cX10_comes 24 = .ok (.istore_n 2, 1) := by decide +kernel
theorem dX10_comes_25 : decode cX10_comes 25 = .ok (.iload_n 2, 1) := by decide +kernel
theorem dX10_comes_26 : decode cX10_comes 26 = .ok (.sipush 600, 3) := by decide +kernel
theorem dX10_comes_29 : decode cX10_comes 29 = .ok (.if_icmp .gt 69, 3) := by decide +kernel
theorem dX10_comes_32 : decode cX10_comes 32 = .ok (.aload_n 0, 1) := by decide +kernel
theorem dX10_comes_33 : decode cX10_comes 33 = .ok (.getfield 152, 3) := by decide +kernel
theorem dX10_comes_36 : decode cX10_comes 36 = .ok (.aload_n 0, 1) := by decide +kernel
theorem dX10_comes_37 : decode cX10_comes 37 = .ok (.getfield 55, 3) := by decide +kernel
theorem dX10_comes_40 : decode cX10_comes 40 = .ok (.i2l, 1) := by decide +kernel
theorem dX10_comes_41 : decode cX10_comes 41 = .ok (.lsub, 1) := by decide +kernel
theorem dX10_comes_42 : decode cX10_comes 42 = .ok (.aload_n 0, 1) := by decide +kernel
theorem dX10_comes_43 : decode cX10_comes 43 = .ok (.getfield 159, 3) := by decide +kernel
theorem dX10_comes_46 : decode cX10_comes 46 = .ok (.aload_n 0, 1) := by decide +kernel
theorem dX10_comes_47 : decode cX10_comes 47 = .ok (.getfield 239, 3) := by decide +kernel
theorem dX10_comes_50 : decode cX10_comes 50 = .ok (.i2l, 1) := by decide +kernel
theorem dX10_comes_51 : decode cX10_comes 51 = .ok (.lsub, 1) := by decide +kernel
theorem dX10_comes_52 : decode cX10_comes 52 = .ok (.ldc2_w 242, 3) := by decide +kernel
theorem dX10_comes_55 : decode cX10_comes 55 = .ok (.aload_n 0, 1) := by decide +kernel
theorem dX10_comes_56 : decode cX10_comes 56 = .ok (.getfield 58, 3) := by decide +kernel
theorem dX10_comes_59 : decode cX10_comes 59 = .ok (.i2l, 1) := by decide +kernel
theorem dX10_comes_60 : decode cX10_comes 60 = .ok (.lmul, 1) := by decide +kernel
theorem dX10_comes_61 : decode cX10_comes 61 = .ok (.iload_n 2, 1) := by decide +kernel
theorem dX10_comes_62 : decode cX10_comes 62 = .ok (.i2l, 1) := by decide +kernel
theorem dX10_comes_63 : decode cX10_comes 63 = .ok (.lmul, 1) := by decide +kernel
theorem dX10_comes_64 : decode cX10_comes 64 = .ok (.aload_n 0, 1) := by decide +kernel
theorem dX10_comes_65 : decode cX10_comes 65 = .ok (.getfield 61, 3) := by decide +kernel
theorem dX10_comes_68 : decode cX10_comes 68 = .ok (.i2l, 1) := by decide +kernel
theorem dX10_comes_69 : decode cX10_comes 69 = .ok (.ladd, 1) := by decide +kernel
theorem dX10_comes_70 : decode cX10_comes 70 = .ok (.invokestatic 244, 3) := by decide +kernel
theorem dX10_comes_73 : decode cX10_comes 73 = .ok (.ifCond .eq 5, 3) := by decide +kernel
theorem dX10_comes_76 : decode cX10_comes 76 = .ok (.iload_n 2, 1) := by decide +kernel
theorem dX10_comes_77 : decode cX10_comes 77 = .ok (.ireturn, 1) := by decide +kernel
theorem dX10_comes_78 : decode cX10_comes 78 = .ok (.aload_n 0, 1) := by decide +kernel
theorem dX10_comes_79 : decode cX10_comes 79 = .ok (.aload_n 0, 1) := by decide +kernel
theorem dX10_comes_80 : decode cX10_comes 80 = .ok (.iload_n 1, 1) := by decide +kernel
theorem dX10_comes_81 : decode cX10_comes 81 = .ok (.iload_n 2, 1) := by decide +kernel
theorem dX10_comes_82 : decode cX10_comes 82 = .ok (.invokevirtual 141, 3) := by decide +kernel
theorem dX10_comes_85 : decode cX10_comes 85 = .ok (.aload_n 0, 1) := by decide +kernel
theorem dX10_comes_86 : decode cX10_comes 86 = .ok (.getfield 50, 3) := by decide +kernel
theorem dX10_comes_89 : decode cX10_comes 89 = .ok (.invokevirtual 165, 3) := by decide +kernel
theorem dX10_comes_92 : decode cX10_comes 92 = .ok (.iinc 2 1, 3) := by decide +kernel
theorem dX10_comes_95 : decode cX10_comes 95 = .ok (.goto (-70), 3) := by decide +kernel
theorem dX10_comes_98 : decode cX10_comes 98 = .ok (.bipush (-6), 2) := by decide +kernel
theorem dX10_comes_100 : decode cX10_comes 100 = .ok (.ireturn, 1) := by decide +kernel
theorem dX10_layPlans_0 : decode cX10_layPlans 0 = .ok (.iconst 0, 1) := by decide +kernel
theorem dX10_layPlans_1 : decode cX10_layPlans 1 = .ok (.istore_n 2, 1) := by decide +kernel
theorem dX10_layPlans_2 : decode cX10_layPlans 2 = .ok (.iload_n 2, 1) := by decide +kernel
theorem dX10_layPlans_3 : decode cX10_layPlans 3 = .ok (.iconst 4, 1) := by decide +kernel
theorem dX10_layPlans_4 : decode cX10_layPlans 4 = .ok (.if_icmp .ge 39, 3) := by decide +kernel
theorem dX10_layPlans_7 : decode cX10_layPlans 7 = .ok (.aload_n 0, 1) := by decide +kernel
theorem dX10_layPlans_8 : decode cX10_layPlans 8 = .ok (.iload_n 2, 1) := by decide +kernel
theorem dX10_layPlans_9 : decode cX10_layPlans 9 = .ok (.iload_n 1, 1) := by decide +kernel
theorem dX10_layPlans_10 : decode cX10_layPlans 10 = .ok (.aload_n 0, 1) := by decide +kernel
theorem dX10_layPlans_11 : decode cX10_layPlans 11 = .ok (.getfield 50, 3) := by decide +kernel
theorem dX10_layPlans_14 : decode cX10_layPlans 14 = .ok (.invokevirtual 173, 3) := by decide +kernel
theorem dX10_layPlans_17 : decode cX10_layPlans 17 = .ok (.aload_n 0, 1) := by decide +kernel
theorem dX10_layPlans_18 : decode cX10_layPlans 18 = .ok (.getfield 64, 3) := by decide +kernel
theorem dX10_layPlans_21 : decode cX10_layPlans 21 = .ok (.iload_n 2, 1) := by decide +kernel
theorem dX10_layPlans_22 : decode cX10_layPlans 22 = .ok (.aload_n 0, 1) := by decide +kernel
theorem dX10_layPlans_23 : decode cX10_layPlans 23 = .ok (.getfield 152, 3) := by decide +kernel
theorem dX10_layPlans_26 : decode cX10_layPlans 26 = .ok (.lastore, 1) := by decide +kernel
theorem dX10_layPlans_27 : decode cX10_layPlans 27 = .ok (.aload_n 0, 1) := by decide +kernel
theorem dX10_layPlans_28 : decode cX10_layPlans 28 = .ok (.getfield 67, 3) := by decide +kernel
theorem dX10_layPlans_31 : decode cX10_layPlans 31 = .ok (.iload_n 2, 1) := by decide +kernel
theorem dX10_layPlans_32 : decode cX10_layPlans 32 = .ok (.aload_n 0, 1) := by decide +kernel
theorem dX10_layPlans_33 : decode cX10_layPlans 33 = .ok (.getfield 159, 3) := by decide +kernel
theorem dX10_layPlans_36 : decode cX10_layPlans 36 = .ok (.lastore, 1) := by decide +kernel
theorem dX10_layPlans_37 : decode cX10_layPlans 37 = .ok (.iinc 2 1, 3) := by decide +kernel
theorem dX10_layPlans_40 : decode cX10_layPlans 40 = .ok (.goto (-38), 3) := by decide +kernel
theorem dX10_layPlans_43 : decode cX10_layPlans 43 = .ok (.return_, 1) := by decide +kernel
theorem dX10_canBe_0 : decode cX10_canBe 0 = .ok (.aload_n 0, 1) := by decide +kernel
theorem dX10_canBe_1 : decode cX10_canBe 1 = .ok (.getfield 64, 3) := by decide +kernel
theorem dX10_canBe_4 : decode cX10_canBe 4 = .ok (.iload_n 1, 1) := by decide +kernel
theorem dX10_canBe_5 : decode cX10_canBe 5 = .ok (.laload, 1) := by decide +kernel
theorem dX10_canBe_6 : decode cX10_canBe 6 = .ok (.aload_n 0, 1) := by decide +kernel
theorem dX10_canBe_7 : decode cX10_canBe 7 = .ok (.getfield 55, 3) := by decide +kernel
theorem dX10_canBe_10 : decode cX10_canBe 10 = .ok (.i2l, 1) := by decide +kernel
theorem dX10_canBe_11 : decode cX10_canBe 11 = .ok (.lsub, 1) := by decide +kernel
theorem dX10_canBe_12 : decode cX10_canBe 12 = .ok (.aload_n 0, 1) := by decide +kernel
theorem dX10_canBe_13 : decode cX10_canBe 13 = .ok (.getfield 67, 3) := by decide +kernel
theorem dX10_canBe_16 : decode cX10_canBe 16 = .ok (.iload_n 1, 1) := by decide +kernel
theorem dX10_canBe_17 : decode cX10_canBe 17 = .ok (.laload, 1) := by decide +kernel
theorem dX10_canBe_18 : decode cX10_canBe 18 = .ok (.aload_n 0, 1) := by decide +kernel
theorem dX10_canBe_19 : decode cX10_canBe 19 = .ok (.getfield 239, 3) := by decide +kernel
theorem dX10_canBe_22 : decode cX10_canBe 22 = .ok (.i2l, 1) := by decide +kernel
theorem dX10_canBe_23 : decode cX10_canBe 23 = .ok (.lsub, 1) := by decide +kernel
theorem dX10_canBe_24 : decode cX10_canBe 24 = .ok (.ldc2_w 242, 3) := by decide +kernel
theorem dX10_canBe_27 : decode cX10_canBe 27 = .ok (.aload_n 0, 1) := by decide +kernel
theorem dX10_canBe_28 : decode cX10_canBe 28 = .ok (.getfield 58, 3) := by decide +kernel
theorem dX10_canBe_31 : decode cX10_canBe 31 = .ok (.i2l, 1) := by decide +kernel
theorem dX10_canBe_32 : decode cX10_canBe 32 = .ok (.lmul, 1) := by decide +kernel
theorem dX10_canBe_33 : decode cX10_canBe 33 = .ok (.iload_n 2, 1) := by decide +kernel
theorem dX10_canBe_34 : decode cX10_canBe 34 = .ok (.i2l, 1) := by decide +kernel
theorem dX10_canBe_35 : decode cX10_canBe 35 = .ok (.lmul, 1) := by decide +kernel
theorem dX10_canBe_36 : decode cX10_canBe 36 = .ok (.invokestatic 244, 3) := by decide +kernel
theorem dX10_canBe_39 : decode cX10_canBe 39 = .ok (.ireturn, 1) := by decide +kernel
theorem dX10_getsAt_0 : decode cX10_getsAt 0 = .ok (.iconst 0, 1) := by decide +kernel
theorem dX10_getsAt_1 : decode cX10_getsAt 1 = .ok (.istore_n 3, 1) := by decide +kernel
theorem dX10_getsAt_2 : decode cX10_getsAt 2 = .ok (.iconst 0, 1) := by decide +kernel
theorem dX10_getsAt_3 : decode cX10_getsAt 3 = .ok (.istore 4, 2) := by decide +kernel
theorem dX10_getsAt_5 : decode cX10_getsAt 5 = .ok (.iload 4, 2) := by decide +kernel
theorem dX10_getsAt_7 : decode cX10_getsAt 7 = .ok (.iconst 4, 1) := by decide +kernel
theorem dX10_getsAt_8 : decode cX10_getsAt 8 = .ok (.if_icmp .ge 68, 3) := by decide +kernel
theorem dX10_getsAt_11 : decode cX10_getsAt 11 = .ok (.aload_n 0, 1) := by decide +kernel
theorem dX10_getsAt_12 : decode cX10_getsAt 12 = .ok (.iload_n 1, 1) := by decide +kernel
theorem dX10_getsAt_13 : decode cX10_getsAt 13 = .ok (.iload_n 2, 1) := by decide +kernel
theorem dX10_getsAt_14 : decode cX10_getsAt 14 = .ok (.invokevirtual 247, 3) := by decide +kernel
theorem dX10_getsAt_17 : decode cX10_getsAt 17 = .ok (.ifCond .eq 59, 3) := by decide +kernel
theorem dX10_getsAt_20 : decode cX10_getsAt 20 = .ok (.iload_n 3, 1) := by decide +kernel
theorem dX10_getsAt_21 : decode cX10_getsAt 21 = .ok (.aload_n 0, 1) := by decide +kernel
theorem dX10_getsAt_22 : decode cX10_getsAt 22 = .ok (.getfield 64, 3) := by decide +kernel
theorem dX10_getsAt_25 : decode cX10_getsAt 25 = .ok (.iload 4, 2) := by decide +kernel
theorem dX10_getsAt_27 : decode cX10_getsAt 27 = .ok (.laload, 1) := by decide +kernel
theorem dX10_getsAt_28 : decode cX10_getsAt 28 = .ok (.aload_n 0, 1) := by decide +kernel
theorem dX10_getsAt_29 : decode cX10_getsAt 29 = .ok (.getfield 64, 3) := by decide +kernel
theorem dX10_getsAt_32 : decode cX10_getsAt 32 = .ok (.iload_n 1, 1) := by decide +kernel
theorem dX10_getsAt_33 : decode cX10_getsAt 33 = .ok (.laload, 1) := by decide +kernel
theorem dX10_getsAt_34 : decode cX10_getsAt 34 = .ok (.lsub, 1) := by decide +kernel
theorem dX10_getsAt_35 : decode cX10_getsAt 35 = .ok (.aload_n 0, 1) := by decide +kernel
theorem dX10_getsAt_36 : decode cX10_getsAt 36 = .ok (.getfield 67, 3) := by decide +kernel
theorem dX10_getsAt_39 : decode cX10_getsAt 39 = .ok (.iload 4, 2) := by decide +kernel
theorem dX10_getsAt_41 : decode cX10_getsAt 41 = .ok (.laload, 1) := by decide +kernel
theorem dX10_getsAt_42 : decode cX10_getsAt 42 = .ok (.aload_n 0, 1) := by decide +kernel
theorem dX10_getsAt_43 : decode cX10_getsAt 43 = .ok (.getfield 67, 3) := by decide +kernel
theorem dX10_getsAt_46 : decode cX10_getsAt 46 = .ok (.iload_n 1, 1) := by decide +kernel
theorem dX10_getsAt_47 : decode cX10_getsAt 47 = .ok (.laload, 1) := by decide +kernel
theorem dX10_getsAt_48 : decode cX10_getsAt 48 = .ok (.lsub, 1) := by decide +kernel
theorem dX10_getsAt_49 : decode cX10_getsAt 49 = .ok (.aload_n 0, 1) := by decide +kernel
theorem dX10_getsAt_50 : decode cX10_getsAt 50 = .ok (.getfield 61, 3) := by decide +kernel
theorem dX10_getsAt_53 : decode cX10_getsAt 53 = .ok (.i2l, 1) := by decide +kernel
theorem dX10_getsAt_54 : decode cX10_getsAt 54 = .ok (.invokestatic 244, 3) := by decide +kernel
theorem dX10_getsAt_57 : decode cX10_getsAt 57 = .ok (.ifCond .eq 10, 3) := by decide +kernel
theorem dX10_getsAt_60 : decode cX10_getsAt 60 = .ok (.iconst 1, 1) := by decide +kernel
theorem dX10_getsAt_61 : decode cX10_getsAt 61 = .ok (.iload 4, 2) := by decide +kernel
theorem dX10_getsAt_63 : decode cX10_getsAt 63 = .ok (.ishl, 1) := by decide +kernel
theorem dX10_getsAt_64 : decode cX10_getsAt 64 = .ok (.goto 4, 3) := by decide +kernel
theorem dX10_getsAt_67 : decode cX10_getsAt 67 = .ok (.iconst 0, 1) := by decide +kernel
theorem dX10_getsAt_68 : decode cX10_getsAt 68 = .ok (.ior, 1) := by decide +kernel
theorem dX10_getsAt_69 : decode cX10_getsAt 69 = .ok (.istore_n 3, 1) := by decide +kernel
theorem dX10_getsAt_70 : decode cX10_getsAt 70 = .ok (.iinc 4 1, 3) := by decide +kernel
theorem dX10_getsAt_73 : decode cX10_getsAt 73 = .ok (.goto (-68), 3) := by decide +kernel
theorem dX10_getsAt_76 : decode cX10_getsAt 76 = .ok (.iload_n 3, 1) := by decide +kernel
theorem dX10_getsAt_77 : decode cX10_getsAt 77 = .ok (.ireturn, 1) := by decide +kernel
theorem dX10_gets_0 : decode cX10_gets 0 = .ok (.iload_n 1, 1) := by decide +kernel
theorem dX10_gets_1 : decode cX10_gets 1 = .ok (.invokestatic 126, 3) := by decide +kernel
theorem dX10_gets_4 : decode cX10_gets 4 = .ok (.ifCond .ne 5, 3) := by decide +kernel
theorem dX10_gets_7 : decode cX10_gets 7 = .ok (.iconst (-1), 1) := by decide +kernel
theorem dX10_gets_8 : decode cX10_gets 8 = .ok (.ireturn, 1) := by decide +kernel
theorem dX10_gets_9 : decode cX10_gets 9 = .ok (.iload_n 2, 1) := by decide +kernel
theorem dX10_gets_10 : decode cX10_gets 10 = .ok (.i2l, 1) := by decide +kernel
theorem dX10_gets_11 : decode cX10_gets 11 = .ok (.lconst 0, 1) := by decide +kernel
theorem dX10_gets_12 : decode cX10_gets 12 = .ok (.ldc2_w 136, 3) := by decide +kernel
theorem dX10_gets_15 : decode cX10_gets 15 = .ok (.invokestatic 122, 3) := by decide +kernel
theorem dX10_gets_18 : decode cX10_gets 18 = .ok (.ifCond .ne 6, 3) := by decide +kernel
theorem dX10_gets_21 : decode cX10_gets 21 = .ok (.bipush (-2), 2) := by decide +kernel
theorem dX10_gets_23 : decode cX10_gets 23 = .ok (.ireturn, 1) := by decide +kernel
theorem dX10_gets_24 : decode cX10_gets 24 = .ok (.aload_n 0, 1) := by decide +kernel
theorem dX10_gets_25 : decode cX10_gets 25 = .ok (.iload_n 2, 1) := by decide +kernel
theorem dX10_gets_26 : decode cX10_gets 26 = .ok (.invokevirtual 251, 3) := by decide +kernel
theorem dX10_gets_29 : decode cX10_gets 29 = .ok (.aload_n 0, 1) := by decide +kernel
theorem dX10_gets_30 : decode cX10_gets 30 = .ok (.iload_n 1, 1) := by decide +kernel
theorem dX10_gets_31 : decode cX10_gets 31 = .ok (.iload_n 2, 1) := by decide +kernel
theorem dX10_gets_32 : decode cX10_gets 32 = .ok (.invokevirtual 254, 3) := by decide +kernel
theorem dX10_gets_35 : decode cX10_gets 35 = .ok (.ireturn, 1) := by decide +kernel
theorem dX10_layCaught_0 : decode cX10_layCaught 0 = .ok (.aload_n 0, 1) := by decide +kernel
theorem dX10_layCaught_1 : decode cX10_layCaught 1 = .ok (.iload_n 1, 1) := by decide +kernel
theorem dX10_layCaught_2 : decode cX10_layCaught 2 = .ok (.invokevirtual 251, 3) := by decide +kernel
theorem dX10_layCaught_5 : decode cX10_layCaught 5 = .ok (.iconst 0, 1) := by decide +kernel
theorem dX10_layCaught_6 : decode cX10_layCaught 6 = .ok (.istore_n 2, 1) := by decide +kernel
theorem dX10_layCaught_7 : decode cX10_layCaught 7 = .ok (.iload_n 2, 1) := by decide +kernel
theorem dX10_layCaught_8 : decode cX10_layCaught 8 = .ok (.iconst 4, 1) := by decide +kernel
theorem dX10_layCaught_9 : decode cX10_layCaught 9 = .ok (.if_icmp .ge 21, 3) := by decide +kernel
theorem dX10_layCaught_12 : decode cX10_layCaught 12 = .ok (.aload_n 0, 1) := by decide +kernel
theorem dX10_layCaught_13 : decode cX10_layCaught 13 = .ok (.getfield 73, 3) := by decide +kernel
theorem dX10_layCaught_16 : decode cX10_layCaught 16 = .ok (.iload_n 2, 1) := by decide +kernel
theorem dX10_layCaught_17 : decode cX10_layCaught 17 = .ok (.aload_n 0, 1) := by decide +kernel
theorem dX10_layCaught_18 : decode cX10_layCaught 18 = .ok (.iload_n 2, 1) := by decide +kernel
theorem dX10_layCaught_19 : decode cX10_layCaught 19 = .ok (.iload_n 1, 1) := by decide +kernel
theorem dX10_layCaught_20 : decode cX10_layCaught 20 = .ok (.invokevirtual 254, 3) := by decide +kernel
theorem dX10_layCaught_23 : decode cX10_layCaught 23 = .ok (.iastore, 1) := by decide +kernel
theorem dX10_layCaught_24 : decode cX10_layCaught 24 = .ok (.iinc 2 1, 3) := by decide +kernel
theorem dX10_layCaught_27 : decode cX10_layCaught 27 = .ok (.goto (-20), 3) := by decide +kernel
theorem dX10_layCaught_30 : decode cX10_layCaught 30 = .ok (.return_, 1) := by decide +kernel
theorem dX10_worstOf_0 : decode cX10_worstOf 0 = .ok (.iconst 0, 1) := by decide +kernel
theorem dX10_worstOf_1 : decode cX10_worstOf 1 = .ok (.istore_n 1, 1) := by decide +kernel
theorem dX10_worstOf_2 : decode cX10_worstOf 2 = .ok (.aload_n 0, 1) := by decide +kernel
theorem dX10_worstOf_3 : decode cX10_worstOf 3 = .ok (.bipush (-6), 2) := by decide +kernel
theorem dX10_worstOf_5 : decode cX10_worstOf 5 = .ok (.putfield 257, 3) := by decide +kernel
theorem dX10_worstOf_8 : decode cX10_worstOf 8 = .ok (.iconst 0, 1) := by decide +kernel
theorem dX10_worstOf_9 : decode cX10_worstOf 9 = .ok (.istore_n 2, 1) := by decide +kernel
theorem dX10_worstOf_10 : decode cX10_worstOf 10 = .ok (.iload_n 2, 1) := by decide +kernel
theorem dX10_worstOf_11 : decode cX10_worstOf 11 = .ok (.iconst 4, 1) := by decide +kernel
theorem dX10_worstOf_12 : decode cX10_worstOf 12 = .ok (.if_icmp .ge 83, 3) := by decide +kernel
theorem dX10_worstOf_15 : decode cX10_worstOf 15 = .ok (.iconst 0, 1) := by decide +kernel
theorem dX10_worstOf_16 : decode cX10_worstOf 16 = .ok (.istore_n 3, 1) := by decide +kernel
theorem dX10_worstOf_17 : decode cX10_worstOf 17 = .ok (.iconst 0, 1) := by decide +kernel
theorem dX10_worstOf_18 : decode cX10_worstOf 18 = .ok (.istore 4, 2) := by decide +kernel
theorem dX10_worstOf_20 : decode cX10_worstOf 20 = .ok (.iload 4, 2) := by decide +kernel
theorem dX10_worstOf_22 : decode cX10_worstOf 22 = .ok (.iconst 4, 1) := by decide +kernel
theorem dX10_worstOf_23 : decode cX10_worstOf 23 = .ok (.if_icmp .ge 38, 3) := by decide +kernel
theorem dX10_worstOf_26 : decode cX10_worstOf 26 = .ok (.iload_n 3, 1) := by decide +kernel
theorem dX10_worstOf_27 : decode cX10_worstOf 27 = .ok (.aload_n 0, 1) := by decide +kernel
theorem dX10_worstOf_28 : decode cX10_worstOf 28 = .ok (.getfield 73, 3) := by decide +kernel
theorem dX10_worstOf_31 : decode cX10_worstOf 31 = .ok (.iload_n 2, 1) := by decide +kernel
theorem dX10_worstOf_32 : decode cX10_worstOf 32 = .ok (.iaload, 1) := by decide +kernel
theorem dX10_worstOf_33 : decode cX10_worstOf 33 = .ok (.iload 4, 2) := by decide +kernel
theorem dX10_worstOf_35 : decode cX10_worstOf 35 = .ok (.ishr, 1) := by decide +kernel
theorem dX10_worstOf_36 : decode cX10_worstOf 36 = .ok (.iconst 1, 1) := by decide +kernel
theorem dX10_worstOf_37 : decode cX10_worstOf 37 = .ok (.iand, 1) := by decide +kernel
theorem dX10_worstOf_38 : decode cX10_worstOf 38 = .ok (.iconst 1, 1) := by decide +kernel
theorem dX10_worstOf_39 : decode cX10_worstOf 39 = .ok (.if_icmp .ne 13, 3) := by decide +kernel
theorem dX10_worstOf_42 : decode cX10_worstOf 42 = .ok (.aload_n 0, 1) := by decide +kernel
theorem dX10_worstOf_43 : decode cX10_worstOf 43 = .ok (.getfield 70, 3) := by decide +kernel
theorem dX10_worstOf_46 : decode cX10_worstOf 46 = .ok (.iload 4, 2) := by decide +kernel
theorem dX10_worstOf_48 : decode cX10_worstOf 48 = .ok (.iaload, 1) := by decide +kernel
theorem dX10_worstOf_49 : decode cX10_worstOf 49 = .ok (.goto 4, 3) := by decide +kernel
theorem dX10_worstOf_52 : decode cX10_worstOf 52 = .ok (.iconst 0, 1) := by decide +kernel
theorem dX10_worstOf_53 : decode cX10_worstOf 53 = .ok (.iadd, 1) := by decide +kernel
theorem dX10_worstOf_54 : decode cX10_worstOf 54 = .ok (.istore_n 3, 1) := by decide +kernel
theorem dX10_worstOf_55 : decode cX10_worstOf 55 = .ok (.iinc 4 1, 3) := by decide +kernel
theorem dX10_worstOf_58 : decode cX10_worstOf 58 = .ok (.goto (-38), 3) := by decide +kernel
theorem dX10_worstOf_61 : decode cX10_worstOf 61 = .ok (.aload_n 0, 1) := by decide +kernel
theorem dX10_worstOf_62 : decode cX10_worstOf 62 = .ok (.getfield 73, 3) := by decide +kernel
theorem dX10_worstOf_65 : decode cX10_worstOf 65 = .ok (.iload_n 2, 1) := by decide +kernel
theorem dX10_worstOf_66 : decode cX10_worstOf 66 = .ok (.iaload, 1) := by decide +kernel
theorem dX10_worstOf_67 : decode cX10_worstOf 67 = .ok (.ifCond .eq 22, 3) := by decide +kernel
theorem dX10_worstOf_70 : decode cX10_worstOf 70 = .ok (.aload_n 0, 1) := by decide +kernel
theorem dX10_worstOf_71 : decode cX10_worstOf 71 = .ok (.getfield 257, 3) := by decide +kernel
theorem dX10_worstOf_74 : decode cX10_worstOf 74 = .ok (.ifCond .lt 8, 3) := by decide +kernel
theorem dX10_worstOf_77 : decode cX10_worstOf 77 = .ok (.iload_n 3, 1) := by decide +kernel
theorem dX10_worstOf_78 : decode cX10_worstOf 78 = .ok (.iload_n 1, 1) := by decide +kernel
theorem dX10_worstOf_79 : decode cX10_worstOf 79 = .ok (.if_icmp .le 10, 3) := by decide +kernel
theorem dX10_worstOf_82 : decode cX10_worstOf 82 = .ok (.iload_n 3, 1) := by decide +kernel
theorem dX10_worstOf_83 : decode cX10_worstOf 83 = .ok (.istore_n 1, 1) := by decide +kernel
theorem dX10_worstOf_84 : decode cX10_worstOf 84 = .ok (.aload_n 0, 1) := by decide +kernel
theorem dX10_worstOf_85 : decode cX10_worstOf 85 = .ok (.iload_n 2, 1) := by decide +kernel
theorem dX10_worstOf_86 : decode cX10_worstOf 86 = .ok (.putfield 257, 3) := by decide +kernel
theorem dX10_worstOf_89 : decode cX10_worstOf 89 = .ok (.iinc 2 1, 3) := by decide +kernel
theorem dX10_worstOf_92 : decode cX10_worstOf 92 = .ok (.goto (-82), 3) := by decide +kernel
theorem dX10_worstOf_95 : decode cX10_worstOf 95 = .ok (.iload_n 1, 1) := by decide +kernel
theorem dX10_worstOf_96 : decode cX10_worstOf 96 = .ok (.ireturn, 1) := by decide +kernel
theorem dX10_worst_0 : decode cX10_worst 0 = .ok (.iload_n 1, 1) := by decide +kernel
theorem dX10_worst_1 : decode cX10_worst 1 = .ok (.i2l, 1) := by decide +kernel
theorem dX10_worst_2 : decode cX10_worst 2 = .ok (.lconst 0, 1) := by decide +kernel
theorem dX10_worst_3 : decode cX10_worst 3 = .ok (.ldc2_w 136, 3) := by decide +kernel
theorem dX10_worst_6 : decode cX10_worst 6 = .ok (.invokestatic 122, 3) := by decide +kernel
theorem dX10_worst_9 : decode cX10_worst 9 = .ok (.ifCond .eq 64, 3) := by decide +kernel
theorem dX10_worst_12 : decode cX10_worst 12 = .ok (.iload_n 2, 1) := by decide +kernel
theorem dX10_worst_13 : decode cX10_worst 13 = .ok (.i2l, 1) := by decide +kernel
theorem dX10_worst_14 : decode cX10_worst 14 = .ok (.lconst 0, 1) := by decide +kernel
theorem dX10_worst_15 : decode cX10_worst 15 = .ok (.ldc2_w 184, 3) := by decide +kernel
theorem dX10_worst_18 : decode cX10_worst 18 = .ok (.invokestatic 122, 3) := by decide +kernel
theorem dX10_worst_21 : decode cX10_worst 21 = .ok (.ifCond .eq 52, 3) := by decide +kernel
theorem dX10_worst_24 : decode cX10_worst 24 = .ok (.iload_n 3, 1) := by decide +kernel
theorem dX10_worst_25 : decode cX10_worst 25 = .ok (.i2l, 1) := by decide +kernel
theorem dX10_worst_26 : decode cX10_worst 26 = .ok (.lconst 0, 1) := by decide +kernel
theorem dX10_worst_27 : decode cX10_worst 27 = .ok (.ldc2_w 184, 3) := by decide +kernel
theorem dX10_worst_30 : decode cX10_worst 30 = .ok (.invokestatic 122, 3) := by decide +kernel
end
section
theorem dX10_worst_33 : decode cX10_worst 33 = .ok (.ifCond .eq 40, 3) := by decide +kernel
theorem dX10_worst_36 : decode cX10_worst 36 = .ok (.iload 4, 2) := by decide +kernel
theorem dX10_worst_38 : decode cX10_worst 38 = .ok (.i2l, 1) := by decide +kernel
theorem dX10_worst_39 : decode cX10_worst 39 = .ok (.lconst 0, 1) := by decide +kernel
theorem dX10_worst_40 : decode cX10_worst 40 = .ok (.ldc2_w 184, 3) := by decide +kernel
theorem dX10_worst_43 : decode cX10_worst 43 = .ok (.invokestatic 122, 3) := by decide +kernel
theorem dX10_worst_46 : decode cX10_worst 46 = .ok (.ifCond .eq 27, 3) := by decide +kernel
theorem dX10_worst_49 : decode cX10_worst 49 = .ok (.iload 5, 2) := by decide +kernel
theorem dX10_worst_51 : decode cX10_worst 51 = .ok (.i2l, 1) := by decide +kernel
theorem dX10_worst_52 : decode cX10_worst 52 = .ok (.lconst 0, 1) := by decide +kernel
theorem dX10_worst_53 : decode cX10_worst 53 = .ok (.ldc2_w 184, 3) := by decide +kernel
theorem dX10_worst_56 : decode cX10_worst 56 = .ok (.invokestatic 122, 3) := by decide +kernel
theorem dX10_worst_59 : decode cX10_worst 59 = .ok (.ifCond .eq 14, 3) := by decide +kernel
theorem dX10_worst_62 : decode cX10_worst 62 = .ok (.iload 6, 2) := by decide +kernel
theorem dX10_worst_64 : decode cX10_worst 64 = .ok (.i2l, 1) := by decide +kernel
theorem dX10_worst_65 : decode cX10_worst 65 = .ok (.lconst 0, 1) := by decide +kernel
theorem dX10_worst_66 : decode cX10_worst 66 = .ok (.lconst 1, 1) := by decide +kernel
theorem dX10_worst_67 : decode cX10_worst 67 = .ok (.invokestatic 122, 3) := by decide +kernel
theorem dX10_worst_70 : decode cX10_worst 70 = .ok (.ifCond .ne 6, 3) := by decide +kernel
theorem dX10_worst_73 : decode cX10_worst 73 = .ok (.bipush (-2), 2) := by decide +kernel
theorem dX10_worst_75 : decode cX10_worst 75 = .ok (.ireturn, 1) := by decide +kernel
theorem dX10_worst_76 : decode cX10_worst 76 = .ok (.aload_n 0, 1) := by decide +kernel
theorem dX10_worst_77 : decode cX10_worst 77 = .ok (.iload_n 1, 1) := by decide +kernel
theorem dX10_worst_78 : decode cX10_worst 78 = .ok (.invokevirtual 260, 3) := by decide +kernel
theorem dX10_worst_81 : decode cX10_worst 81 = .ok (.aload_n 0, 1) := by decide +kernel
theorem dX10_worst_82 : decode cX10_worst 82 = .ok (.getfield 70, 3) := by decide +kernel
theorem dX10_worst_85 : decode cX10_worst 85 = .ok (.iconst 0, 1) := by decide +kernel
theorem dX10_worst_86 : decode cX10_worst 86 = .ok (.iload_n 2, 1) := by decide +kernel
theorem dX10_worst_87 : decode cX10_worst 87 = .ok (.iastore, 1) := by decide +kernel
theorem dX10_worst_88 : decode cX10_worst 88 = .ok (.aload_n 0, 1) := by decide +kernel
theorem dX10_worst_89 : decode cX10_worst 89 = .ok (.getfield 70, 3) := by decide +kernel
theorem dX10_worst_92 : decode cX10_worst 92 = .ok (.iconst 1, 1) := by decide +kernel
theorem dX10_worst_93 : decode cX10_worst 93 = .ok (.iload_n 3, 1) := by decide +kernel
theorem dX10_worst_94 : decode cX10_worst 94 = .ok (.iastore, 1) := by decide +kernel
theorem dX10_worst_95 : decode cX10_worst 95 = .ok (.aload_n 0, 1) := by decide +kernel
theorem dX10_worst_96 : decode cX10_worst 96 = .ok (.getfield 70, 3) := by decide +kernel
theorem dX10_worst_99 : decode cX10_worst 99 = .ok (.iconst 2, 1) := by decide +kernel
theorem dX10_worst_100 : decode cX10_worst 100 = .ok (.iload 4, 2) := by decide +kernel
theorem dX10_worst_102 : decode cX10_worst 102 = .ok (.iastore, 1) := by decide +kernel
theorem dX10_worst_103 : decode cX10_worst 103 = .ok (.aload_n 0, 1) := by decide +kernel
theorem dX10_worst_104 : decode cX10_worst 104 = .ok (.getfield 70, 3) := by decide +kernel
theorem dX10_worst_107 : decode cX10_worst 107 = .ok (.iconst 3, 1) := by decide +kernel
theorem dX10_worst_108 : decode cX10_worst 108 = .ok (.iload 5, 2) := by decide +kernel
theorem dX10_worst_110 : decode cX10_worst 110 = .ok (.iastore, 1) := by decide +kernel
theorem dX10_worst_111 : decode cX10_worst 111 = .ok (.aload_n 0, 1) := by decide +kernel
theorem dX10_worst_112 : decode cX10_worst 112 = .ok (.invokevirtual 263, 3) := by decide +kernel
theorem dX10_worst_115 : decode cX10_worst 115 = .ok (.istore 7, 2) := by decide +kernel
theorem dX10_worst_117 : decode cX10_worst 117 = .ok (.iload 6, 2) := by decide +kernel
theorem dX10_worst_119 : decode cX10_worst 119 = .ok (.ifCond .ne 8, 3) := by decide +kernel
theorem dX10_worst_122 : decode cX10_worst 122 = .ok (.iload 7, 2) := by decide +kernel
theorem dX10_worst_124 : decode cX10_worst 124 = .ok (.goto 7, 3) := by decide +kernel
theorem dX10_worst_127 : decode cX10_worst 127 = .ok (.aload_n 0, 1) := by decide +kernel
theorem dX10_worst_128 : decode cX10_worst 128 = .ok (.getfield 257, 3) := by decide +kernel
theorem dX10_worst_131 : decode cX10_worst 131 = .ok (.ireturn, 1) := by decide +kernel
theorem dX10_mix_0 : decode cX10_mix 0 = .ok (.iload_n 1, 1) := by decide +kernel
theorem dX10_mix_1 : decode cX10_mix 1 = .ok (.i2l, 1) := by decide +kernel
theorem dX10_mix_2 : decode cX10_mix 2 = .ok (.lconst 0, 1) := by decide +kernel
theorem dX10_mix_3 : decode cX10_mix 3 = .ok (.ldc2_w 136, 3) := by decide +kernel
theorem dX10_mix_6 : decode cX10_mix 6 = .ok (.invokestatic 122, 3) := by decide +kernel
theorem dX10_mix_9 : decode cX10_mix 9 = .ok (.ifCond .eq 27, 3) := by decide +kernel
theorem dX10_mix_12 : decode cX10_mix 12 = .ok (.iload_n 2, 1) := by decide +kernel
theorem dX10_mix_13 : decode cX10_mix 13 = .ok (.i2l, 1) := by decide +kernel
theorem dX10_mix_14 : decode cX10_mix 14 = .ok (.lconst 1, 1) := by decide +kernel
theorem dX10_mix_15 : decode cX10_mix 15 = .ok (.ldc2_w 267, 3) := by decide +kernel
theorem dX10_mix_18 : decode cX10_mix 18 = .ok (.invokestatic 122, 3) := by decide +kernel
theorem dX10_mix_21 : decode cX10_mix 21 = .ok (.ifCond .eq 15, 3) := by decide +kernel
theorem dX10_mix_24 : decode cX10_mix 24 = .ok (.iload_n 3, 1) := by decide +kernel
theorem dX10_mix_25 : decode cX10_mix 25 = .ok (.i2l, 1) := by decide +kernel
theorem dX10_mix_26 : decode cX10_mix 26 = .ok (.lconst 0, 1) := by decide +kernel
theorem dX10_mix_27 : decode cX10_mix 27 = .ok (.ldc2_w 134, 3) := by decide +kernel
theorem dX10_mix_30 : decode cX10_mix 30 = .ok (.invokestatic 122, 3) := by decide +kernel
theorem dX10_mix_33 : decode cX10_mix 33 = .ok (.ifCond .ne 6, 3) := by decide +kernel
theorem dX10_mix_36 : decode cX10_mix 36 = .ok (.bipush (-2), 2) := by decide +kernel
theorem dX10_mix_38 : decode cX10_mix 38 = .ok (.ireturn, 1) := by decide +kernel
theorem dX10_mix_39 : decode cX10_mix 39 = .ok (.aload_n 0, 1) := by decide +kernel
theorem dX10_mix_40 : decode cX10_mix 40 = .ok (.iload_n 1, 1) := by decide +kernel
theorem dX10_mix_41 : decode cX10_mix 41 = .ok (.invokevirtual 260, 3) := by decide +kernel
theorem dX10_mix_44 : decode cX10_mix 44 = .ok (.iconst (-1), 1) := by decide +kernel
theorem dX10_mix_45 : decode cX10_mix 45 = .ok (.istore 4, 2) := by decide +kernel
theorem dX10_mix_47 : decode cX10_mix 47 = .ok (.iconst 0, 1) := by decide +kernel
theorem dX10_mix_48 : decode cX10_mix 48 = .ok (.istore 5, 2) := by decide +kernel
theorem dX10_mix_50 : decode cX10_mix 50 = .ok (.iload 5, 2) := by decide +kernel
theorem dX10_mix_52 : decode cX10_mix 52 = .ok (.sipush 2197, 3) := by decide +kernel
theorem dX10_mix_55 : decode cX10_mix 55 = .ok (.if_icmp .ge 134, 3) := by decide +kernel
theorem dX10_mix_58 : decode cX10_mix 58 = .ok (.aload_n 0, 1) := by decide +kernel
theorem dX10_mix_59 : decode cX10_mix 59 = .ok (.getfield 70, 3) := by decide +kernel
theorem dX10_mix_62 : decode cX10_mix 62 = .ok (.iconst 0, 1) := by decide +kernel
theorem dX10_mix_63 : decode cX10_mix 63 = .ok (.iload 5, 2) := by decide +kernel
theorem dX10_mix_65 : decode cX10_mix 65 = .ok (.sipush 169, 3) := by decide +kernel
theorem dX10_mix_68 : decode cX10_mix 68 = .ok (.idiv, 1) := by decide +kernel
theorem dX10_mix_69 : decode cX10_mix 69 = .ok (.iastore, 1) := by decide +kernel
theorem dX10_mix_70 : decode cX10_mix 70 = .ok (.aload_n 0, 1) := by decide +kernel
theorem dX10_mix_71 : decode cX10_mix 71 = .ok (.getfield 70, 3) := by decide +kernel
theorem dX10_mix_74 : decode cX10_mix 74 = .ok (.iconst 1, 1) := by decide +kernel
theorem dX10_mix_75 : decode cX10_mix 75 = .ok (.iload 5, 2) := by decide +kernel
theorem dX10_mix_77 : decode cX10_mix 77 = .ok (.bipush 13, 2) := by decide +kernel
theorem dX10_mix_79 : decode cX10_mix 79 = .ok (.idiv, 1) := by decide +kernel
theorem dX10_mix_80 : decode cX10_mix 80 = .ok (.bipush 13, 2) := by decide +kernel
theorem dX10_mix_82 : decode cX10_mix 82 = .ok (.irem, 1) := by decide +kernel
theorem dX10_mix_83 : decode cX10_mix 83 = .ok (.iastore, 1) := by decide +kernel
theorem dX10_mix_84 : decode cX10_mix 84 = .ok (.aload_n 0, 1) := by decide +kernel
theorem dX10_mix_85 : decode cX10_mix 85 = .ok (.getfield 70, 3) := by decide +kernel
theorem dX10_mix_88 : decode cX10_mix 88 = .ok (.iconst 2, 1) := by decide +kernel
theorem dX10_mix_89 : decode cX10_mix 89 = .ok (.iload 5, 2) := by decide +kernel
theorem dX10_mix_91 : decode cX10_mix 91 = .ok (.bipush 13, 2) := by decide +kernel
theorem dX10_mix_93 : decode cX10_mix 93 = .ok (.irem, 1) := by decide +kernel
theorem dX10_mix_94 : decode cX10_mix 94 = .ok (.iastore, 1) := by decide +kernel
theorem dX10_mix_95 : decode cX10_mix 95 = .ok (.aload_n 0, 1) := by decide +kernel
theorem dX10_mix_96 : decode cX10_mix 96 = .ok (.getfield 70, 3) := by decide +kernel
theorem dX10_mix_99 : decode cX10_mix 99 = .ok (.iconst 3, 1) := by decide +kernel
theorem dX10_mix_100 : decode cX10_mix 100 = .ok (.iload_n 2, 1) := by decide +kernel
theorem dX10_mix_101 : decode cX10_mix 101 = .ok (.aload_n 0, 1) := by decide +kernel
theorem dX10_mix_102 : decode cX10_mix 102 = .ok (.getfield 70, 3) := by decide +kernel
theorem dX10_mix_105 : decode cX10_mix 105 = .ok (.iconst 0, 1) := by decide +kernel
theorem dX10_mix_106 : decode cX10_mix 106 = .ok (.iaload, 1) := by decide +kernel
theorem dX10_mix_107 : decode cX10_mix 107 = .ok (.isub, 1) := by decide +kernel
theorem dX10_mix_108 : decode cX10_mix 108 = .ok (.aload_n 0, 1) := by decide +kernel
theorem dX10_mix_109 : decode cX10_mix 109 = .ok (.getfield 70, 3) := by decide +kernel
theorem dX10_mix_112 : decode cX10_mix 112 = .ok (.iconst 1, 1) := by decide +kernel
theorem dX10_mix_113 : decode cX10_mix 113 = .ok (.iaload, 1) := by decide +kernel
theorem dX10_mix_114 : decode cX10_mix 114 = .ok (.isub, 1) := by decide +kernel
theorem dX10_mix_115 : decode cX10_mix 115 = .ok (.aload_n 0, 1) := by decide +kernel
theorem dX10_mix_116 : decode cX10_mix 116 = .ok (.getfield 70, 3) := by decide +kernel
theorem dX10_mix_119 : decode cX10_mix 119 = .ok (.iconst 2, 1) := by decide +kernel
theorem dX10_mix_120 : decode cX10_mix 120 = .ok (.iaload, 1) := by decide +kernel
theorem dX10_mix_121 : decode cX10_mix 121 = .ok (.isub, 1) := by decide +kernel
theorem dX10_mix_122 : decode cX10_mix 122 = .ok (.iastore, 1) := by decide +kernel
theorem dX10_mix_123 : decode cX10_mix 123 = .ok (.aload_n 0, 1) := by decide +kernel
theorem dX10_mix_124 : decode cX10_mix 124 = .ok (.getfield 70, 3) := by decide +kernel
theorem dX10_mix_127 : decode cX10_mix 127 = .ok (.iconst 3, 1) := by decide +kernel
theorem dX10_mix_128 : decode cX10_mix 128 = .ok (.iaload, 1) := by decide +kernel
theorem dX10_mix_129 : decode cX10_mix 129 = .ok (.ifCond .lt 54, 3) := by decide +kernel
theorem dX10_mix_132 : decode cX10_mix 132 = .ok (.aload_n 0, 1) := by decide +kernel
theorem dX10_mix_133 : decode cX10_mix 133 = .ok (.invokevirtual 263, 3) := by decide +kernel
theorem dX10_mix_136 : decode cX10_mix 136 = .ok (.istore 6, 2) := by decide +kernel
theorem dX10_mix_138 : decode cX10_mix 138 = .ok (.iload 4, 2) := by decide +kernel
theorem dX10_mix_140 : decode cX10_mix 140 = .ok (.ifCond .lt 10, 3) := by decide +kernel
theorem dX10_mix_143 : decode cX10_mix 143 = .ok (.iload 6, 2) := by decide +kernel
theorem dX10_mix_145 : decode cX10_mix 145 = .ok (.iload 4, 2) := by decide +kernel
theorem dX10_mix_147 : decode cX10_mix 147 = .ok (.if_icmp .ge 36, 3) := by decide +kernel
theorem dX10_mix_150 : decode cX10_mix 150 = .ok (.iload 6, 2) := by decide +kernel
theorem dX10_mix_152 : decode cX10_mix 152 = .ok (.istore 4, 2) := by decide +kernel
theorem dX10_mix_154 : decode cX10_mix 154 = .ok (.iconst 0, 1) := by decide +kernel
theorem dX10_mix_155 : decode cX10_mix 155 = .ok (.istore 7, 2) := by decide +kernel
theorem dX10_mix_157 : decode cX10_mix 157 = .ok (.iload 7, 2) := by decide +kernel
theorem dX10_mix_159 : decode cX10_mix 159 = .ok (.iconst 4, 1) := by decide +kernel
theorem dX10_mix_160 : decode cX10_mix 160 = .ok (.if_icmp .ge 23, 3) := by decide +kernel
theorem dX10_mix_163 : decode cX10_mix 163 = .ok (.aload_n 0, 1) := by decide +kernel
theorem dX10_mix_164 : decode cX10_mix 164 = .ok (.getfield 76, 3) := by decide +kernel
theorem dX10_mix_167 : decode cX10_mix 167 = .ok (.iload 7, 2) := by decide +kernel
theorem dX10_mix_169 : decode cX10_mix 169 = .ok (.aload_n 0, 1) := by decide +kernel
theorem dX10_mix_170 : decode cX10_mix 170 = .ok (.getfield 70, 3) := by decide +kernel
theorem dX10_mix_173 : decode cX10_mix 173 = .ok (.iload 7, 2) := by decide +kernel
theorem dX10_mix_175 : decode cX10_mix 175 = .ok (.iaload, 1) := by decide +kernel
theorem dX10_mix_176 : decode cX10_mix 176 = .ok (.iastore, 1) := by decide +kernel
theorem dX10_mix_177 : decode cX10_mix 177 = .ok (.iinc 7 1, 3) := by decide +kernel
theorem dX10_mix_180 : decode cX10_mix 180 = .ok (.goto (-23), 3) := by decide +kernel
theorem dX10_mix_183 : decode cX10_mix 183 = .ok (.iinc 5 1, 3) := by decide +kernel
theorem dX10_mix_186 : decode cX10_mix 186 = .ok (.goto (-136), 3) := by decide +kernel
theorem dX10_mix_189 : decode cX10_mix 189 = .ok (.iload_n 3, 1) := by decide +kernel
theorem dX10_mix_190 : decode cX10_mix 190 = .ok (.iconst 4, 1) := by decide +kernel
theorem dX10_mix_191 : decode cX10_mix 191 = .ok (.if_icmp .ne 8, 3) := by decide +kernel
theorem dX10_mix_194 : decode cX10_mix 194 = .ok (.iload 4, 2) := by decide +kernel
theorem dX10_mix_196 : decode cX10_mix 196 = .ok (.goto 9, 3) := by decide +kernel
theorem dX10_mix_199 : decode cX10_mix 199 = .ok (.aload_n 0, 1) := by decide +kernel
theorem dX10_mix_200 : decode cX10_mix 200 = .ok (.getfield 76, 3) := by decide +kernel
theorem dX10_mix_203 : decode cX10_mix 203 = .ok (.iload_n 3, 1) := by decide +kernel
theorem dX10_mix_204 : decode cX10_mix 204 = .ok (.iaload, 1) := by decide +kernel
theorem dX10_mix_205 : decode cX10_mix 205 = .ok (.ireturn, 1) := by decide +kernel
theorem dX10_post_0 : decode cX10_post 0 = .ok (.iload_n 1, 1) := by decide +kernel
theorem dX10_post_1 : decode cX10_post 1 = .ok (.i2l, 1) := by decide +kernel
theorem dX10_post_2 : decode cX10_post 2 = .ok (.ldc2_w 269, 3) := by decide +kernel
theorem dX10_post_5 : decode cX10_post 5 = .ok (.ldc2_w 271, 3) := by decide +kernel
theorem dX10_post_8 : decode cX10_post 8 = .ok (.invokestatic 122, 3) := by decide +kernel
theorem dX10_post_11 : decode cX10_post 11 = .ok (.ifCond .eq 29, 3) := by decide +kernel
theorem dX10_post_14 : decode cX10_post 14 = .ok (.iload_n 2, 1) := by decide +kernel
theorem dX10_post_15 : decode cX10_post 15 = .ok (.i2l, 1) := by decide +kernel
theorem dX10_post_16 : decode cX10_post 16 = .ok (.ldc2_w 269, 3) := by decide +kernel
theorem dX10_post_19 : decode cX10_post 19 = .ok (.ldc2_w 271, 3) := by decide +kernel
theorem dX10_post_22 : decode cX10_post 22 = .ok (.invokestatic 122, 3) := by decide +kernel
theorem dX10_post_25 : decode cX10_post 25 = .ok (.ifCond .eq 15, 3) := by decide +kernel
theorem dX10_post_28 : decode cX10_post 28 = .ok (.iload_n 3, 1) := by decide +kernel
theorem dX10_post_29 : decode cX10_post 29 = .ok (.i2l, 1) := by decide +kernel
theorem dX10_post_30 : decode cX10_post 30 = .ok (.lconst 1, 1) := by decide +kernel
theorem dX10_post_31 : decode cX10_post 31 = .ok (.ldc2_w 273, 3) := by decide +kernel
theorem dX10_post_34 : decode cX10_post 34 = .ok (.invokestatic 122, 3) := by decide +kernel
theorem dX10_post_37 : decode cX10_post 37 = .ok (.ifCond .ne 6, 3) := by decide +kernel
theorem dX10_post_40 : decode cX10_post 40 = .ok (.bipush (-2), 2) := by decide +kernel
theorem dX10_post_42 : decode cX10_post 42 = .ok (.ireturn, 1) := by decide +kernel
theorem dX10_post_43 : decode cX10_post 43 = .ok (.aload_n 0, 1) := by decide +kernel
theorem dX10_post_44 : decode cX10_post 44 = .ok (.getfield 275, 3) := by decide +kernel
theorem dX10_post_47 : decode cX10_post 47 = .ok (.bipush 10, 2) := by decide +kernel
theorem dX10_post_49 : decode cX10_post 49 = .ok (.if_icmp .ne 6, 3) := by decide +kernel
theorem dX10_post_52 : decode cX10_post 52 = .ok (.bipush (-4), 2) := by decide +kernel
theorem dX10_post_54 : decode cX10_post 54 = .ok (.ireturn, 1) := by decide +kernel
theorem dX10_post_55 : decode cX10_post 55 = .ok (.aload_n 0, 1) := by decide +kernel
theorem dX10_post_56 : decode cX10_post 56 = .ok (.getfield 79, 3) := by decide +kernel
theorem dX10_post_59 : decode cX10_post 59 = .ok (.aload_n 0, 1) := by decide +kernel
theorem dX10_post_60 : decode cX10_post 60 = .ok (.getfield 275, 3) := by decide +kernel
theorem dX10_post_63 : decode cX10_post 63 = .ok (.iload_n 1, 1) := by decide +kernel
theorem dX10_post_64 : decode cX10_post 64 = .ok (.iastore, 1) := by decide +kernel
theorem dX10_post_65 : decode cX10_post 65 = .ok (.aload_n 0, 1) := by decide +kernel
theorem dX10_post_66 : decode cX10_post 66 = .ok (.getfield 82, 3) := by decide +kernel
theorem dX10_post_69 : decode cX10_post 69 = .ok (.aload_n 0, 1) := by decide +kernel
theorem dX10_post_70 : decode cX10_post 70 = .ok (.getfield 275, 3) := by decide +kernel
theorem dX10_post_73 : decode cX10_post 73 = .ok (.iload_n 2, 1) := by decide +kernel
theorem dX10_post_74 : decode cX10_post 74 = .ok (.iastore, 1) := by decide +kernel
theorem dX10_post_75 : decode cX10_post 75 = .ok (.aload_n 0, 1) := by decide +kernel
theorem dX10_post_76 : decode cX10_post 76 = .ok (.getfield 85, 3) := by decide +kernel
theorem dX10_post_79 : decode cX10_post 79 = .ok (.aload_n 0, 1) := by decide +kernel
theorem dX10_post_80 : decode cX10_post 80 = .ok (.getfield 275, 3) := by decide +kernel
theorem dX10_post_83 : decode cX10_post 83 = .ok (.iload_n 3, 1) := by decide +kernel
theorem dX10_post_84 : decode cX10_post 84 = .ok (.iastore, 1) := by decide +kernel
theorem dX10_post_85 : decode cX10_post 85 = .ok (.aload_n 0, 1) := by decide +kernel
theorem dX10_post_86 : decode cX10_post 86 = .ok (.dup, 1) := by decide +kernel
theorem dX10_post_87 : decode cX10_post 87 = .ok (.getfield 275, 3) := by decide +kernel
theorem dX10_post_90 : decode cX10_post 90 = .ok (.iconst 1, 1) := by decide +kernel
theorem dX10_post_91 : decode cX10_post 91 = .ok (.iadd, 1) := by decide +kernel
theorem dX10_post_92 : decode cX10_post 92 = .ok (.putfield 275, 3) := by decide +kernel
theorem dX10_post_95 : decode cX10_post 95 = .ok (.aload_n 0, 1) := by decide +kernel
theorem dX10_post_96 : decode cX10_post 96 = .ok (.getfield 275, 3) := by decide +kernel
theorem dX10_post_99 : decode cX10_post 99 = .ok (.iconst 1, 1) := by decide +kernel
theorem dX10_post_100 : decode cX10_post 100 = .ok (.isub, 1) := by decide +kernel
theorem dX10_post_101 : decode cX10_post 101 = .ok (.ireturn, 1) := by decide +kernel
theorem dX10_findSeers_0 : decode cX10_findSeers 0 = .ok (.iconst 0, 1) := by decide +kernel
theorem dX10_findSeers_1 : decode cX10_findSeers 1 = .ok (.istore_n 2, 1) := by decide +kernel
theorem dX10_findSeers_2 : decode cX10_findSeers 2 = .ok (.iload_n 1, 1) := by decide +kernel
theorem dX10_findSeers_3 : decode cX10_findSeers 3 = .ok (.ineg, 1) := by decide +kernel
theorem dX10_findSeers_4 : decode cX10_findSeers 4 = .ok (.istore_n 3, 1) := by decide +kernel
theorem dX10_findSeers_5 : decode cX10_findSeers 5 = .ok (.iload_n 3, 1) := by decide +kernel
theorem dX10_findSeers_6 : decode cX10_findSeers 6 = .ok (.iload_n 1, 1) := by decide +kernel
theorem dX10_findSeers_7 : decode cX10_findSeers 7 = .ok (.if_icmp .gt 122, 3) := by decide +kernel
theorem dX10_findSeers_10 : decode cX10_findSeers 10 = .ok (.iload_n 1, 1) := by decide +kernel
theorem dX10_findSeers_11 : decode cX10_findSeers 11 = .ok (.ineg, 1) := by decide +kernel
theorem dX10_findSeers_12 : decode cX10_findSeers 12 = .ok (.istore 4, 2) := by decide +kernel
theorem dX10_findSeers_14 : decode cX10_findSeers 14 = .ok (.iload 4, 2) := by decide +kernel
theorem dX10_findSeers_16 : decode cX10_findSeers 16 = .ok (.iload_n 1, 1) := by decide +kernel
theorem dX10_findSeers_17 : decode cX10_findSeers 17 = .ok (.if_icmp .gt 106, 3) := by decide +kernel
theorem dX10_findSeers_20 : decode cX10_findSeers 20 = .ok (.iload_n 3, 1) := by decide +kernel
theorem dX10_findSeers_21 : decode cX10_findSeers 21 = .ok (.invokestatic 145, 3) := by decide +kernel
theorem dX10_findSeers_24 : decode cX10_findSeers 24 = .ok (.iload_n 1, 1) := by decide +kernel
theorem dX10_findSeers_25 : decode cX10_findSeers 25 = .ok (.if_icmp .eq 12, 3) := by decide +kernel
theorem dX10_findSeers_28 : decode cX10_findSeers 28 = .ok (.iload 4, 2) := by decide +kernel
theorem dX10_findSeers_30 : decode cX10_findSeers 30 = .ok (.invokestatic 145, 3) := by decide +kernel
theorem dX10_findSeers_33 : decode cX10_findSeers 33 = .ok (.iload_n 1, 1) := by decide +kernel
theorem dX10_findSeers_34 : decode cX10_findSeers 34 = .ok (.if_icmp .ne 83, 3) := by decide +kernel
theorem dX10_findSeers_37 : decode cX10_findSeers 37 = .ok (.aload_n 0, 1) := by decide +kernel
theorem dX10_findSeers_38 : decode cX10_findSeers 38 = .ok (.getfield 88, 3) := by decide +kernel
theorem dX10_findSeers_41 : decode cX10_findSeers 41 = .ok (.iload_n 2, 1) := by decide +kernel
theorem dX10_findSeers_42 : decode cX10_findSeers 42 = .ok (.iconst 0, 1) := by decide +kernel
theorem dX10_findSeers_43 : decode cX10_findSeers 43 = .ok (.iastore, 1) := by decide +kernel
theorem dX10_findSeers_44 : decode cX10_findSeers 44 = .ok (.iconst 0, 1) := by decide +kernel
theorem dX10_findSeers_45 : decode cX10_findSeers 45 = .ok (.istore 5, 2) := by decide +kernel
theorem dX10_findSeers_47 : decode cX10_findSeers 47 = .ok (.iload 5, 2) := by decide +kernel
theorem dX10_findSeers_49 : decode cX10_findSeers 49 = .ok (.aload_n 0, 1) := by decide +kernel
theorem dX10_findSeers_50 : decode cX10_findSeers 50 = .ok (.getfield 275, 3) := by decide +kernel
theorem dX10_findSeers_53 : decode cX10_findSeers 53 = .ok (.if_icmp .ge 61, 3) := by decide +kernel
theorem dX10_findSeers_56 : decode cX10_findSeers 56 = .ok (.aload_n 0, 1) := by decide +kernel
theorem dX10_findSeers_57 : decode cX10_findSeers 57 = .ok (.getfield 88, 3) := by decide +kernel
theorem dX10_findSeers_60 : decode cX10_findSeers 60 = .ok (.iload_n 2, 1) := by decide +kernel
theorem dX10_findSeers_61 : decode cX10_findSeers 61 = .ok (.dup2, 1) := by decide +kernel
theorem dX10_findSeers_62 : decode cX10_findSeers 62 = .ok (.iaload, 1) := by decide +kernel
theorem dX10_findSeers_63 : decode cX10_findSeers 63 = .ok (.iload_n 3, 1) := by decide +kernel
theorem dX10_findSeers_64 : decode cX10_findSeers 64 = .ok (.aload_n 0, 1) := by decide +kernel
theorem dX10_findSeers_65 : decode cX10_findSeers 65 = .ok (.getfield 79, 3) := by decide +kernel
theorem dX10_findSeers_68 : decode cX10_findSeers 68 = .ok (.iload 5, 2) := by decide +kernel
theorem dX10_findSeers_70 : decode cX10_findSeers 70 = .ok (.iaload, 1) := by decide +kernel
theorem dX10_findSeers_71 : decode cX10_findSeers 71 = .ok (.isub, 1) := by decide +kernel
theorem dX10_findSeers_72 : decode cX10_findSeers 72 = .ok (.i2l, 1) := by decide +kernel
theorem dX10_findSeers_73 : decode cX10_findSeers 73 = .ok (.iload 4, 2) := by decide +kernel
theorem dX10_findSeers_75 : decode cX10_findSeers 75 = .ok (.aload_n 0, 1) := by decide +kernel
theorem dX10_findSeers_76 : decode cX10_findSeers 76 = .ok (.getfield 82, 3) := by decide +kernel
theorem dX10_findSeers_79 : decode cX10_findSeers 79 = .ok (.iload 5, 2) := by decide +kernel
theorem dX10_findSeers_81 : decode cX10_findSeers 81 = .ok (.iaload, 1) := by decide +kernel
theorem dX10_findSeers_82 : decode cX10_findSeers 82 = .ok (.isub, 1) := by decide +kernel
theorem dX10_findSeers_83 : decode cX10_findSeers 83 = .ok (.i2l, 1) := by decide +kernel
theorem dX10_findSeers_84 : decode cX10_findSeers 84 = .ok (.aload_n 0, 1) := by decide +kernel
theorem dX10_findSeers_85 : decode cX10_findSeers 85 = .ok (.getfield 85, 3) := by decide +kernel
theorem dX10_findSeers_88 : decode cX10_findSeers 88 = .ok (.iload 5, 2) := by decide +kernel
theorem dX10_findSeers_90 : decode cX10_findSeers 90 = .ok (.iaload, 1) := by decide +kernel
theorem dX10_findSeers_91 : decode cX10_findSeers 91 = .ok (.i2l, 1) := by decide +kernel
theorem dX10_findSeers_92 : decode cX10_findSeers 92 = .ok (.invokestatic 244, 3) := by decide +kernel
theorem dX10_findSeers_95 : decode cX10_findSeers 95 = .ok (.ifCond .eq 10, 3) := by decide +kernel
theorem dX10_findSeers_98 : decode cX10_findSeers 98 = .ok (.iconst 1, 1) := by decide +kernel
theorem dX10_findSeers_99 : decode cX10_findSeers 99 = .ok (.iload 5, 2) := by decide +kernel
theorem dX10_findSeers_101 : decode cX10_findSeers 101 = .ok (.ishl, 1) := by decide +kernel
theorem dX10_findSeers_102 : decode cX10_findSeers 102 = .ok (.goto 4, 3) := by decide +kernel
theorem dX10_findSeers_105 : decode cX10_findSeers 105 = .ok (.iconst 0, 1) := by decide +kernel
theorem dX10_findSeers_106 : decode cX10_findSeers 106 = .ok (.ior, 1) := by decide +kernel
theorem dX10_findSeers_107 : decode cX10_findSeers 107 = .ok (.iastore, 1) := by decide +kernel
theorem dX10_findSeers_108 : decode cX10_findSeers 108 = .ok (.iinc 5 1, 3) := by decide +kernel
theorem dX10_findSeers_111 : decode cX10_findSeers 111 = .ok (.goto (-64), 3) := by decide +kernel
theorem dX10_findSeers_114 : decode cX10_findSeers 114 = .ok (.iinc 2 1, 3) := by decide +kernel
theorem dX10_findSeers_117 : decode cX10_findSeers 117 = .ok (.iinc 4 1, 3) := by decide +kernel
theorem dX10_findSeers_120 : decode cX10_findSeers 120 = .ok (.goto (-106), 3) := by decide +kernel
theorem dX10_findSeers_123 : decode cX10_findSeers 123 = .ok (.iinc 3 1, 3) := by decide +kernel
theorem dX10_findSeers_126 : decode cX10_findSeers 126 = .ok (.goto (-121), 3) := by decide +kernel
theorem dX10_findSeers_129 : decode cX10_findSeers 129 = .ok (.return_, 1) := by decide +kernel
theorem dX10_seenBy_0 : decode cX10_seenBy 0 = .ok (.iconst 0, 1) := by decide +kernel
theorem dX10_seenBy_1 : decode cX10_seenBy 1 = .ok (.istore_n 3, 1) := by decide +kernel
theorem dX10_seenBy_2 : decode cX10_seenBy 2 = .ok (.iconst 0, 1) := by decide +kernel
theorem dX10_seenBy_3 : decode cX10_seenBy 3 = .ok (.istore 4, 2) := by decide +kernel
theorem dX10_seenBy_5 : decode cX10_seenBy 5 = .ok (.iload 4, 2) := by decide +kernel
theorem dX10_seenBy_7 : decode cX10_seenBy 7 = .ok (.bipush 8, 2) := by decide +kernel
theorem dX10_seenBy_9 : decode cX10_seenBy 9 = .ok (.iload_n 2, 1) := by decide +kernel
theorem dX10_seenBy_10 : decode cX10_seenBy 10 = .ok (.imul, 1) := by decide +kernel
theorem dX10_seenBy_11 : decode cX10_seenBy 11 = .ok (.if_icmp .ge 29, 3) := by decide +kernel
theorem dX10_seenBy_14 : decode cX10_seenBy 14 = .ok (.iload_n 3, 1) := by decide +kernel
theorem dX10_seenBy_15 : decode cX10_seenBy 15 = .ok (.aload_n 0, 1) := by decide +kernel
theorem dX10_seenBy_16 : decode cX10_seenBy 16 = .ok (.getfield 88, 3) := by decide +kernel
theorem dX10_seenBy_19 : decode cX10_seenBy 19 = .ok (.iload 4, 2) := by decide +kernel
theorem dX10_seenBy_21 : decode cX10_seenBy 21 = .ok (.iaload, 1) := by decide +kernel
theorem dX10_seenBy_22 : decode cX10_seenBy 22 = .ok (.iload_n 1, 1) := by decide +kernel
theorem dX10_seenBy_23 : decode cX10_seenBy 23 = .ok (.iand, 1) := by decide +kernel
theorem dX10_seenBy_24 : decode cX10_seenBy 24 = .ok (.ifCond .eq 7, 3) := by decide +kernel
theorem dX10_seenBy_27 : decode cX10_seenBy 27 = .ok (.iconst 1, 1) := by decide +kernel
theorem dX10_seenBy_28 : decode cX10_seenBy 28 = .ok (.goto 4, 3) := by decide +kernel
theorem dX10_seenBy_31 : decode cX10_seenBy 31 = .ok (.iconst 0, 1) := by decide +kernel
theorem dX10_seenBy_32 : decode cX10_seenBy 32 = .ok (.iadd, 1) := by decide +kernel
theorem dX10_seenBy_33 : decode cX10_seenBy 33 = .ok (.istore_n 3, 1) := by decide +kernel
theorem dX10_seenBy_34 : decode cX10_seenBy 34 = .ok (.iinc 4 1, 3) := by decide +kernel
theorem dX10_seenBy_37 : decode cX10_seenBy 37 = .ok (.goto (-32), 3) := by decide +kernel
theorem dX10_seenBy_40 : decode cX10_seenBy 40 = .ok (.iload_n 3, 1) := by decide +kernel
theorem dX10_seenBy_41 : decode cX10_seenBy 41 = .ok (.ireturn, 1) := by decide +kernel
theorem dX10_seen_0 : decode cX10_seen 0 = .ok (.iload_n 1, 1) := by decide +kernel
theorem dX10_seen_1 : decode cX10_seen 1 = .ok (.i2l, 1) := by decide +kernel
theorem dX10_seen_2 : decode cX10_seen 2 = .ok (.lconst 0, 1) := by decide +kernel
theorem dX10_seen_3 : decode cX10_seen 3 = .ok (.iconst 1, 1) := by decide +kernel
theorem dX10_seen_4 : decode cX10_seen 4 = .ok (.aload_n 0, 1) := by decide +kernel
theorem dX10_seen_5 : decode cX10_seen 5 = .ok (.getfield 275, 3) := by decide +kernel
theorem dX10_seen_8 : decode cX10_seen 8 = .ok (.ishl, 1) := by decide +kernel
theorem dX10_seen_9 : decode cX10_seen 9 = .ok (.iconst 1, 1) := by decide +kernel
theorem dX10_seen_10 : decode cX10_seen 10 = .ok (.isub, 1) := by decide +kernel
theorem dX10_seen_11 : decode cX10_seen 11 = .ok (.i2l, 1) := by decide +kernel
theorem dX10_seen_12 : decode cX10_seen 12 = .ok (.invokestatic 122, 3) := by decide +kernel
theorem dX10_seen_15 : decode cX10_seen 15 = .ok (.ifCond .eq 15, 3) := by decide +kernel
theorem dX10_seen_18 : decode cX10_seen 18 = .ok (.iload_n 2, 1) := by decide +kernel
theorem dX10_seen_19 : decode cX10_seen 19 = .ok (.i2l, 1) := by decide +kernel
theorem dX10_seen_20 : decode cX10_seen 20 = .ok (.lconst 1, 1) := by decide +kernel
theorem dX10_seen_21 : decode cX10_seen 21 = .ok (.ldc2_w 271, 3) := by decide +kernel
theorem dX10_seen_24 : decode cX10_seen 24 = .ok (.invokestatic 122, 3) := by decide +kernel
theorem dX10_seen_27 : decode cX10_seen 27 = .ok (.ifCond .ne 6, 3) := by decide +kernel
theorem dX10_seen_30 : decode cX10_seen 30 = .ok (.bipush (-2), 2) := by decide +kernel
theorem dX10_seen_32 : decode cX10_seen 32 = .ok (.ireturn, 1) := by decide +kernel
theorem dX10_seen_33 : decode cX10_seen 33 = .ok (.aload_n 0, 1) := by decide +kernel
theorem dX10_seen_34 : decode cX10_seen 34 = .ok (.iload_n 2, 1) := by decide +kernel
theorem dX10_seen_35 : decode cX10_seen 35 = .ok (.invokevirtual 278, 3) := by decide +kernel
theorem dX10_seen_38 : decode cX10_seen 38 = .ok (.aload_n 0, 1) := by decide +kernel
theorem dX10_seen_39 : decode cX10_seen 39 = .ok (.iload_n 1, 1) := by decide +kernel
theorem dX10_seen_40 : decode cX10_seen 40 = .ok (.iload_n 2, 1) := by decide +kernel
theorem dX10_seen_41 : decode cX10_seen 41 = .ok (.invokevirtual 281, 3) := by decide +kernel
theorem dX10_seen_44 : decode cX10_seen 44 = .ok (.ireturn, 1) := by decide +kernel
theorem dX10_ones_0 : decode cX10_ones 0 = .ok (.iconst 0, 1) := by decide +kernel
theorem dX10_ones_1 : decode cX10_ones 1 = .ok (.istore_n 1, 1) := by decide +kernel
theorem dX10_ones_2 : decode cX10_ones 2 = .ok (.iconst 0, 1) := by decide +kernel
theorem dX10_ones_3 : decode cX10_ones 3 = .ok (.istore_n 2, 1) := by decide +kernel
theorem dX10_ones_4 : decode cX10_ones 4 = .ok (.iload_n 2, 1) := by decide +kernel
theorem dX10_ones_5 : decode cX10_ones 5 = .ok (.bipush 10, 2) := by decide +kernel
theorem dX10_ones_7 : decode cX10_ones 7 = .ok (.if_icmp .ge 17, 3) := by decide +kernel
theorem dX10_ones_10 : decode cX10_ones 10 = .ok (.iload_n 1, 1) := by decide +kernel
theorem dX10_ones_11 : decode cX10_ones 11 = .ok (.iload_n 0, 1) := by decide +kernel
theorem dX10_ones_12 : decode cX10_ones 12 = .ok (.iload_n 2, 1) := by decide +kernel
theorem dX10_ones_13 : decode cX10_ones 13 = .ok (.ishr, 1) := by decide +kernel
theorem dX10_ones_14 : decode cX10_ones 14 = .ok (.iconst 1, 1) := by decide +kernel
theorem dX10_ones_15 : decode cX10_ones 15 = .ok (.iand, 1) := by decide +kernel
theorem dX10_ones_16 : decode cX10_ones 16 = .ok (.iadd, 1) := by decide +kernel
theorem dX10_ones_17 : decode cX10_ones 17 = .ok (.istore_n 1, 1) := by decide +kernel
theorem dX10_ones_18 : decode cX10_ones 18 = .ok (.iinc 2 1, 3) := by decide +kernel
theorem dX10_ones_21 : decode cX10_ones 21 = .ok (.goto (-17), 3) := by decide +kernel
theorem dX10_ones_24 : decode cX10_ones 24 = .ok (.iload_n 1, 1) := by decide +kernel
theorem dX10_ones_25 : decode cX10_ones 25 = .ok (.ireturn, 1) := by decide +kernel
theorem dX10_best_0 : decode cX10_best 0 = .ok (.iload_n 1, 1) := by decide +kernel
theorem dX10_best_1 : decode cX10_best 1 = .ok (.i2l, 1) := by decide +kernel
theorem dX10_best_2 : decode cX10_best 2 = .ok (.lconst 0, 1) := by decide +kernel
theorem dX10_best_3 : decode cX10_best 3 = .ok (.aload_n 0, 1) := by decide +kernel
theorem dX10_best_4 : decode cX10_best 4 = .ok (.getfield 275, 3) := by decide +kernel
theorem dX10_best_7 : decode cX10_best 7 = .ok (.i2l, 1) := by decide +kernel
theorem dX10_best_8 : decode cX10_best 8 = .ok (.invokestatic 122, 3) := by decide +kernel
theorem dX10_best_11 : decode cX10_best 11 = .ok (.ifCond .eq 15, 3) := by decide +kernel
theorem dX10_best_14 : decode cX10_best 14 = .ok (.iload_n 2, 1) := by decide +kernel
theorem dX10_best_15 : decode cX10_best 15 = .ok (.i2l, 1) := by decide +kernel
theorem dX10_best_16 : decode cX10_best 16 = .ok (.lconst 1, 1) := by decide +kernel
theorem dX10_best_17 : decode cX10_best 17 = .ok (.ldc2_w 271, 3) := by decide +kernel
theorem dX10_best_20 : decode cX10_best 20 = .ok (.invokestatic 122, 3) := by decide +kernel
theorem dX10_best_23 : decode cX10_best 23 = .ok (.ifCond .ne 6, 3) := by decide +kernel
theorem dX10_best_26 : decode cX10_best 26 = .ok (.bipush (-2), 2) := by decide +kernel
theorem dX10_best_28 : decode cX10_best 28 = .ok (.ireturn, 1) := by decide +kernel
theorem dX10_best_29 : decode cX10_best 29 = .ok (.aload_n 0, 1) := by decide +kernel
theorem dX10_best_30 : decode cX10_best 30 = .ok (.iload_n 2, 1) := by decide +kernel
theorem dX10_best_31 : decode cX10_best 31 = .ok (.invokevirtual 278, 3) := by decide +kernel
theorem dX10_best_34 : decode cX10_best 34 = .ok (.iconst 0, 1) := by decide +kernel
theorem dX10_best_35 : decode cX10_best 35 = .ok (.istore_n 3, 1) := by decide +kernel
theorem dX10_best_36 : decode cX10_best 36 = .ok (.iconst (-1), 1) := by decide +kernel
theorem dX10_best_37 : decode cX10_best 37 = .ok (.istore 4, 2) := by decide +kernel
theorem dX10_best_39 : decode cX10_best 39 = .ok (.iconst 0, 1) := by decide +kernel
theorem dX10_best_40 : decode cX10_best 40 = .ok (.istore 5, 2) := by decide +kernel
theorem dX10_best_42 : decode cX10_best 42 = .ok (.iload 5, 2) := by decide +kernel
theorem dX10_best_44 : decode cX10_best 44 = .ok (.iconst 1, 1) := by decide +kernel
theorem dX10_best_45 : decode cX10_best 45 = .ok (.aload_n 0, 1) := by decide +kernel
theorem dX10_best_46 : decode cX10_best 46 = .ok (.getfield 275, 3) := by decide +kernel
theorem dX10_best_49 : decode cX10_best 49 = .ok (.ishl, 1) := by decide +kernel
theorem dX10_best_50 : decode cX10_best 50 = .ok (.if_icmp .ge 42, 3) := by decide +kernel
theorem dX10_best_53 : decode cX10_best 53 = .ok (.iload 5, 2) := by decide +kernel
theorem dX10_best_55 : decode cX10_best 55 = .ok (.invokestatic 284, 3) := by decide +kernel
theorem dX10_best_58 : decode cX10_best 58 = .ok (.iload_n 1, 1) := by decide +kernel
theorem dX10_best_59 : decode cX10_best 59 = .ok (.if_icmp .ne 27, 3) := by decide +kernel
theorem dX10_best_62 : decode cX10_best 62 = .ok (.aload_n 0, 1) := by decide +kernel
theorem dX10_best_63 : decode cX10_best 63 = .ok (.iload 5, 2) := by decide +kernel
theorem dX10_best_65 : decode cX10_best 65 = .ok (.iload_n 2, 1) := by decide +kernel
theorem dX10_best_66 : decode cX10_best 66 = .ok (.invokevirtual 281, 3) := by decide +kernel
theorem dX10_best_69 : decode cX10_best 69 = .ok (.iload 4, 2) := by decide +kernel
theorem dX10_best_71 : decode cX10_best 71 = .ok (.if_icmp .le 15, 3) := by decide +kernel
theorem dX10_best_74 : decode cX10_best 74 = .ok (.aload_n 0, 1) := by decide +kernel
theorem dX10_best_75 : decode cX10_best 75 = .ok (.iload 5, 2) := by decide +kernel
theorem dX10_best_77 : decode cX10_best 77 = .ok (.iload_n 2, 1) := by decide +kernel
theorem dX10_best_78 : decode cX10_best 78 = .ok (.invokevirtual 281, 3) := by decide +kernel
theorem dX10_best_81 : decode cX10_best 81 = .ok (.istore 4, 2) := by decide +kernel
theorem dX10_best_83 : decode cX10_best 83 = .ok (.iload 5, 2) := by decide +kernel
theorem dX10_best_85 : decode cX10_best 85 = .ok (.istore_n 3, 1) := by decide +kernel
theorem dX10_best_86 : decode cX10_best 86 = .ok (.iinc 5 1, 3) := by decide +kernel
theorem dX10_best_89 : decode cX10_best 89 = .ok (.goto (-47), 3) := by decide +kernel
theorem dX10_best_92 : decode cX10_best 92 = .ok (.iload_n 3, 1) := by decide +kernel
theorem dX10_best_93 : decode cX10_best 93 = .ok (.ireturn, 1) := by decide +kernel
theorem dX10_danger_0 : decode cX10_danger 0 = .ok (.iload_n 1, 1) := by decide +kernel
theorem dX10_danger_1 : decode cX10_danger 1 = .ok (.i2l, 1) := by decide +kernel
theorem dX10_danger_2 : decode cX10_danger 2 = .ok (.lconst 0, 1) := by decide +kernel
theorem dX10_danger_3 : decode cX10_danger 3 = .ok (.ldc2_w 199, 3) := by decide +kernel
theorem dX10_danger_6 : decode cX10_danger 6 = .ok (.invokestatic 122, 3) := by decide +kernel
theorem dX10_danger_9 : decode cX10_danger 9 = .ok (.ifCond .eq 15, 3) := by decide +kernel
theorem dX10_danger_12 : decode cX10_danger 12 = .ok (.iload_n 2, 1) := by decide +kernel
theorem dX10_danger_13 : decode cX10_danger 13 = .ok (.i2l, 1) := by decide +kernel
theorem dX10_danger_14 : decode cX10_danger 14 = .ok (.lconst 0, 1) := by decide +kernel
theorem dX10_danger_15 : decode cX10_danger 15 = .ok (.ldc2_w 199, 3) := by decide +kernel
theorem dX10_danger_18 : decode cX10_danger 18 = .ok (.invokestatic 122, 3) := by decide +kernel
theorem dX10_danger_21 : decode cX10_danger 21 = .ok (.ifCond .ne 6, 3) := by decide +kernel
theorem dX10_danger_24 : decode cX10_danger 24 = .ok (.bipush (-101), 2) := by decide +kernel
theorem dX10_danger_26 : decode cX10_danger 26 = .ok (.ireturn, 1) := by decide +kernel
theorem dX10_danger_27 : decode cX10_danger 27 = .ok (.iload_n 3, 1) := by decide +kernel
theorem dX10_danger_28 : decode cX10_danger 28 = .ok (.i2l, 1) := by decide +kernel
theorem dX10_danger_29 : decode cX10_danger 29 = .ok (.ldc2_w 219, 3) := by decide +kernel
theorem dX10_danger_32 : decode cX10_danger 32 = .ok (.ldc2_w 287, 3) := by decide +kernel
theorem dX10_danger_35 : decode cX10_danger 35 = .ok (.invokestatic 122, 3) := by decide +kernel
theorem dX10_danger_38 : decode cX10_danger 38 = .ok (.ifCond .ne 6, 3) := by decide +kernel
theorem dX10_danger_41 : decode cX10_danger 41 = .ok (.bipush (-102), 2) := by decide +kernel
theorem dX10_danger_43 : decode cX10_danger 43 = .ok (.ireturn, 1) := by decide +kernel
theorem dX10_danger_44 : decode cX10_danger 44 = .ok (.aload_n 0, 1) := by decide +kernel
theorem dX10_danger_45 : decode cX10_danger 45 = .ok (.getfield 91, 3) := by decide +kernel
theorem dX10_danger_48 : decode cX10_danger 48 = .ok (.bipush 12, 2) := by decide +kernel
theorem dX10_danger_50 : decode cX10_danger 50 = .ok (.iload_n 2, 1) := by decide +kernel
theorem dX10_danger_51 : decode cX10_danger 51 = .ok (.imul, 1) := by decide +kernel
theorem dX10_danger_52 : decode cX10_danger 52 = .ok (.iload_n 1, 1) := by decide +kernel
theorem dX10_danger_53 : decode cX10_danger 53 = .ok (.iadd, 1) := by decide +kernel
theorem dX10_danger_54 : decode cX10_danger 54 = .ok (.iaload, 1) := by decide +kernel
theorem dX10_danger_55 : decode cX10_danger 55 = .ok (.istore 4, 2) := by decide +kernel
theorem dX10_danger_57 : decode cX10_danger 57 = .ok (.aload_n 0, 1) := by decide +kernel
theorem dX10_danger_58 : decode cX10_danger 58 = .ok (.getfield 91, 3) := by decide +kernel
theorem dX10_danger_61 : decode cX10_danger 61 = .ok (.bipush 12, 2) := by decide +kernel
theorem dX10_danger_63 : decode cX10_danger 63 = .ok (.iload_n 2, 1) := by decide +kernel
theorem dX10_danger_64 : decode cX10_danger 64 = .ok (.imul, 1) := by decide +kernel
theorem dX10_danger_65 : decode cX10_danger 65 = .ok (.iload_n 1, 1) := by decide +kernel
theorem dX10_danger_66 : decode cX10_danger 66 = .ok (.iadd, 1) := by decide +kernel
theorem dX10_danger_67 : decode cX10_danger 67 = .ok (.iload_n 3, 1) := by decide +kernel
theorem dX10_danger_68 : decode cX10_danger 68 = .ok (.iastore, 1) := by decide +kernel
theorem dX10_danger_69 : decode cX10_danger 69 = .ok (.iload 4, 2) := by decide +kernel
theorem dX10_danger_71 : decode cX10_danger 71 = .ok (.ireturn, 1) := by decide +kernel
theorem dX10_isCell_0 : decode cX10_isCell 0 = .ok (.iload_n 0, 1) := by decide +kernel
theorem dX10_isCell_1 : decode cX10_isCell 1 = .ok (.i2l, 1) := by decide +kernel
theorem dX10_isCell_2 : decode cX10_isCell 2 = .ok (.lconst 0, 1) := by decide +kernel
theorem dX10_isCell_3 : decode cX10_isCell 3 = .ok (.ldc2_w 289, 3) := by decide +kernel
theorem dX10_isCell_6 : decode cX10_isCell 6 = .ok (.invokestatic 122, 3) := by decide +kernel
theorem dX10_isCell_9 : decode cX10_isCell 9 = .ok (.ireturn, 1) := by decide +kernel
theorem dX10_areBeside_0 : decode cX10_areBeside 0 = .ok (.iload_n 0, 1) := by decide +kernel
theorem dX10_areBeside_1 : decode cX10_areBeside 1 = .ok (.bipush 12, 2) := by decide +kernel
theorem dX10_areBeside_3 : decode cX10_areBeside 3 = .ok (.irem, 1) := by decide +kernel
theorem dX10_areBeside_4 : decode cX10_areBeside 4 = .ok (.iload_n 1, 1) := by decide +kernel
theorem dX10_areBeside_5 : decode cX10_areBeside 5 = .ok (.bipush 12, 2) := by decide +kernel
theorem dX10_areBeside_7 : decode cX10_areBeside 7 = .ok (.irem, 1) := by decide +kernel
theorem dX10_areBeside_8 : decode cX10_areBeside 8 = .ok (.isub, 1) := by decide +kernel
theorem dX10_areBeside_9 : decode cX10_areBeside 9 = .ok (.invokestatic 145, 3) := by decide +kernel
theorem dX10_areBeside_12 : decode cX10_areBeside 12 = .ok (.iconst 2, 1) := by decide +kernel
theorem dX10_areBeside_13 : decode cX10_areBeside 13 = .ok (.if_icmp .ge 23, 3) := by decide +kernel
theorem dX10_areBeside_16 : decode cX10_areBeside 16 = .ok (.iload_n 0, 1) := by decide +kernel
theorem dX10_areBeside_17 : decode cX10_areBeside 17 = .ok (.bipush 12, 2) := by decide +kernel
theorem dX10_areBeside_19 : decode cX10_areBeside 19 = .ok (.idiv, 1) := by decide +kernel
theorem dX10_areBeside_20 : decode cX10_areBeside 20 = .ok (.iload_n 1, 1) := by decide +kernel
theorem dX10_areBeside_21 : decode cX10_areBeside 21 = .ok (.bipush 12, 2) := by decide +kernel
theorem dX10_areBeside_23 : decode cX10_areBeside 23 = .ok (.idiv, 1) := by decide +kernel
theorem dX10_areBeside_24 : decode cX10_areBeside 24 = .ok (.isub, 1) := by decide +kernel
theorem dX10_areBeside_25 : decode cX10_areBeside 25 = .ok (.invokestatic 145, 3) := by decide +kernel
theorem dX10_areBeside_28 : decode cX10_areBeside 28 = .ok (.iconst 2, 1) := by decide +kernel
theorem dX10_areBeside_29 : decode cX10_areBeside 29 = .ok (.if_icmp .ge 7, 3) := by decide +kernel
theorem dX10_areBeside_32 : decode cX10_areBeside 32 = .ok (.iconst 1, 1) := by decide +kernel
theorem dX10_areBeside_33 : decode cX10_areBeside 33 = .ok (.goto 4, 3) := by decide +kernel
theorem dX10_areBeside_36 : decode cX10_areBeside 36 = .ok (.iconst 0, 1) := by decide +kernel
theorem dX10_areBeside_37 : decode cX10_areBeside 37 = .ok (.ireturn, 1) := by decide +kernel
theorem dX10_cellOf_0 : decode cX10_cellOf 0 = .ok (.aload_n 0, 1) := by decide +kernel
theorem dX10_cellOf_1 : decode cX10_cellOf 1 = .ok (.getfield 94, 3) := by decide +kernel
theorem dX10_cellOf_4 : decode cX10_cellOf 4 = .ok (.bipush 41, 2) := by decide +kernel
theorem dX10_cellOf_6 : decode cX10_cellOf 6 = .ok (.iload_n 1, 1) := by decide +kernel
theorem dX10_cellOf_7 : decode cX10_cellOf 7 = .ok (.imul, 1) := by decide +kernel
theorem dX10_cellOf_8 : decode cX10_cellOf 8 = .ok (.iload_n 2, 1) := by decide +kernel
theorem dX10_cellOf_9 : decode cX10_cellOf 9 = .ok (.aload_n 0, 1) := by decide +kernel
theorem dX10_cellOf_10 : decode cX10_cellOf 10 = .ok (.getfield 97, 3) := by decide +kernel
theorem dX10_cellOf_13 : decode cX10_cellOf 13 = .ok (.iload_n 1, 1) := by decide +kernel
theorem dX10_cellOf_14 : decode cX10_cellOf 14 = .ok (.iaload, 1) := by decide +kernel
theorem dX10_cellOf_15 : decode cX10_cellOf 15 = .ok (.if_icmp .le 12, 3) := by decide +kernel
theorem dX10_cellOf_18 : decode cX10_cellOf 18 = .ok (.aload_n 0, 1) := by decide +kernel
theorem dX10_cellOf_19 : decode cX10_cellOf 19 = .ok (.getfield 97, 3) := by decide +kernel
theorem dX10_cellOf_22 : decode cX10_cellOf 22 = .ok (.iload_n 1, 1) := by decide +kernel
theorem dX10_cellOf_23 : decode cX10_cellOf 23 = .ok (.iaload, 1) := by decide +kernel
theorem dX10_cellOf_24 : decode cX10_cellOf 24 = .ok (.goto 4, 3) := by decide +kernel
theorem dX10_cellOf_27 : decode cX10_cellOf 27 = .ok (.iload_n 2, 1) := by decide +kernel
theorem dX10_cellOf_28 : decode cX10_cellOf 28 = .ok (.iadd, 1) := by decide +kernel
theorem dX10_cellOf_29 : decode cX10_cellOf 29 = .ok (.iaload, 1) := by decide +kernel
theorem dX10_cellOf_30 : decode cX10_cellOf 30 = .ok (.ireturn, 1) := by decide +kernel
theorem dX10_isNear_0 : decode cX10_isNear 0 = .ok (.iload_n 2, 1) := by decide +kernel
theorem dX10_isNear_1 : decode cX10_isNear 1 = .ok (.ifCond .ge 5, 3) := by decide +kernel
theorem dX10_isNear_4 : decode cX10_isNear 4 = .ok (.iconst 0, 1) := by decide +kernel
theorem dX10_isNear_5 : decode cX10_isNear 5 = .ok (.ireturn, 1) := by decide +kernel
theorem dX10_isNear_6 : decode cX10_isNear 6 = .ok (.aload_n 0, 1) := by decide +kernel
theorem dX10_isNear_7 : decode cX10_isNear 7 = .ok (.iconst 0, 1) := by decide +kernel
theorem dX10_isNear_8 : decode cX10_isNear 8 = .ok (.iload_n 2, 1) := by decide +kernel
theorem dX10_isNear_9 : decode cX10_isNear 9 = .ok (.invokevirtual 291, 3) := by decide +kernel
theorem dX10_isNear_12 : decode cX10_isNear 12 = .ok (.istore_n 3, 1) := by decide +kernel
theorem dX10_isNear_13 : decode cX10_isNear 13 = .ok (.iload_n 1, 1) := by decide +kernel
theorem dX10_isNear_14 : decode cX10_isNear 14 = .ok (.bipush 12, 2) := by decide +kernel
theorem dX10_isNear_16 : decode cX10_isNear 16 = .ok (.irem, 1) := by decide +kernel
theorem dX10_isNear_17 : decode cX10_isNear 17 = .ok (.iload_n 3, 1) := by decide +kernel
theorem dX10_isNear_18 : decode cX10_isNear 18 = .ok (.bipush 12, 2) := by decide +kernel
theorem dX10_isNear_20 : decode cX10_isNear 20 = .ok (.irem, 1) := by decide +kernel
theorem dX10_isNear_21 : decode cX10_isNear 21 = .ok (.isub, 1) := by decide +kernel
theorem dX10_isNear_22 : decode cX10_isNear 22 = .ok (.invokestatic 145, 3) := by decide +kernel
theorem dX10_isNear_25 : decode cX10_isNear 25 = .ok (.aload_n 0, 1) := by decide +kernel
theorem dX10_isNear_26 : decode cX10_isNear 26 = .ok (.getfield 104, 3) := by decide +kernel
theorem dX10_isNear_29 : decode cX10_isNear 29 = .ok (.if_icmp .gt 26, 3) := by decide +kernel
theorem dX10_isNear_32 : decode cX10_isNear 32 = .ok (.iload_n 1, 1) := by decide +kernel
theorem dX10_isNear_33 : decode cX10_isNear 33 = .ok (.bipush 12, 2) := by decide +kernel
theorem dX10_isNear_35 : decode cX10_isNear 35 = .ok (.idiv, 1) := by decide +kernel
theorem dX10_isNear_36 : decode cX10_isNear 36 = .ok (.iload_n 3, 1) := by decide +kernel
theorem dX10_isNear_37 : decode cX10_isNear 37 = .ok (.bipush 12, 2) := by decide +kernel
theorem dX10_isNear_39 : decode cX10_isNear 39 = .ok (.idiv, 1) := by decide +kernel
theorem dX10_isNear_40 : decode cX10_isNear 40 = .ok (.isub, 1) := by decide +kernel
theorem dX10_isNear_41 : decode cX10_isNear 41 = .ok (.invokestatic 145, 3) := by decide +kernel
theorem dX10_isNear_44 : decode cX10_isNear 44 = .ok (.aload_n 0, 1) := by decide +kernel
theorem dX10_isNear_45 : decode cX10_isNear 45 = .ok (.getfield 104, 3) := by decide +kernel
theorem dX10_isNear_48 : decode cX10_isNear 48 = .ok (.if_icmp .gt 7, 3) := by decide +kernel
theorem dX10_isNear_51 : decode cX10_isNear 51 = .ok (.iconst 1, 1) := by decide +kernel
theorem dX10_isNear_52 : decode cX10_isNear 52 = .ok (.goto 4, 3) := by decide +kernel
theorem dX10_isNear_55 : decode cX10_isNear 55 = .ok (.iconst 0, 1) := by decide +kernel
theorem dX10_isNear_56 : decode cX10_isNear 56 = .ok (.ireturn, 1) := by decide +kernel
theorem dX10_isFree_0 : decode cX10_isFree 0 = .ok (.aload_n 0, 1) := by decide +kernel
theorem dX10_isFree_1 : decode cX10_isFree 1 = .ok (.getfield 91, 3) := by decide +kernel
theorem dX10_isFree_4 : decode cX10_isFree 4 = .ok (.iload_n 1, 1) := by decide +kernel
theorem dX10_isFree_5 : decode cX10_isFree 5 = .ok (.iaload, 1) := by decide +kernel
theorem dX10_isFree_6 : decode cX10_isFree 6 = .ok (.ifCond .ge 5, 3) := by decide +kernel
theorem dX10_isFree_9 : decode cX10_isFree 9 = .ok (.iconst 0, 1) := by decide +kernel
theorem dX10_isFree_10 : decode cX10_isFree 10 = .ok (.ireturn, 1) := by decide +kernel
theorem dX10_isFree_11 : decode cX10_isFree 11 = .ok (.aload_n 0, 1) := by decide +kernel
theorem dX10_isFree_12 : decode cX10_isFree 12 = .ok (.getfield 104, 3) := by decide +kernel
theorem dX10_isFree_15 : decode cX10_isFree 15 = .ok (.ifCond .lt 34, 3) := by decide +kernel
theorem dX10_isFree_18 : decode cX10_isFree 18 = .ok (.aload_n 0, 1) := by decide +kernel
theorem dX10_isFree_19 : decode cX10_isFree 19 = .ok (.iload_n 1, 1) := by decide +kernel
theorem dX10_isFree_20 : decode cX10_isFree 20 = .ok (.iload_n 2, 1) := by decide +kernel
theorem dX10_isFree_21 : decode cX10_isFree 21 = .ok (.iconst 1, 1) := by decide +kernel
theorem dX10_isFree_22 : decode cX10_isFree 22 = .ok (.isub, 1) := by decide +kernel
theorem dX10_isFree_23 : decode cX10_isFree 23 = .ok (.invokevirtual 294, 3) := by decide +kernel
theorem dX10_isFree_26 : decode cX10_isFree 26 = .ok (.ifCond .ne 27, 3) := by decide +kernel
theorem dX10_isFree_29 : decode cX10_isFree 29 = .ok (.aload_n 0, 1) := by decide +kernel
theorem dX10_isFree_30 : decode cX10_isFree 30 = .ok (.iload_n 1, 1) := by decide +kernel
theorem dX10_isFree_31 : decode cX10_isFree 31 = .ok (.iload_n 2, 1) := by decide +kernel
theorem dX10_isFree_32 : decode cX10_isFree 32 = .ok (.invokevirtual 294, 3) := by decide +kernel
theorem dX10_isFree_35 : decode cX10_isFree 35 = .ok (.ifCond .ne 18, 3) := by decide +kernel
theorem dX10_isFree_38 : decode cX10_isFree 38 = .ok (.aload_n 0, 1) := by decide +kernel
theorem dX10_isFree_39 : decode cX10_isFree 39 = .ok (.iload_n 1, 1) := by decide +kernel
theorem dX10_isFree_40 : decode cX10_isFree 40 = .ok (.iload_n 2, 1) := by decide +kernel
theorem dX10_isFree_41 : decode cX10_isFree 41 = .ok (.iconst 1, 1) := by decide +kernel
theorem dX10_isFree_42 : decode cX10_isFree 42 = .ok (.iadd, 1) := by decide +kernel
theorem dX10_isFree_43 : decode cX10_isFree 43 = .ok (.invokevirtual 294, 3) := by decide +kernel
theorem dX10_isFree_46 : decode cX10_isFree 46 = .ok (.ifCond .ne 7, 3) := by decide +kernel
theorem dX10_isFree_49 : decode cX10_isFree 49 = .ok (.iconst 1, 1) := by decide +kernel
theorem dX10_isFree_50 : decode cX10_isFree 50 = .ok (.goto 4, 3) := by decide +kernel
theorem dX10_isFree_53 : decode cX10_isFree 53 = .ok (.iconst 0, 1) := by decide +kernel
theorem dX10_isFree_54 : decode cX10_isFree 54 = .ok (.ireturn, 1) := by decide +kernel
theorem dX10_canStay_0 : decode cX10_canStay 0 = .ok (.aload_n 0, 1) := by decide +kernel
theorem dX10_canStay_1 : decode cX10_canStay 1 = .ok (.iload_n 1, 1) := by decide +kernel
theorem dX10_canStay_2 : decode cX10_canStay 2 = .ok (.iload_n 2, 1) := by decide +kernel
theorem dX10_canStay_3 : decode cX10_canStay 3 = .ok (.invokevirtual 297, 3) := by decide +kernel
theorem dX10_canStay_6 : decode cX10_canStay 6 = .ok (.istore_n 3, 1) := by decide +kernel
theorem dX10_canStay_7 : decode cX10_canStay 7 = .ok (.iload_n 2, 1) := by decide +kernel
theorem dX10_canStay_8 : decode cX10_canStay 8 = .ok (.istore 4, 2) := by decide +kernel
theorem dX10_canStay_10 : decode cX10_canStay 10 = .ok (.iload 4, 2) := by decide +kernel
theorem dX10_canStay_12 : decode cX10_canStay 12 = .ok (.bipush 41, 2) := by decide +kernel
theorem dX10_canStay_14 : decode cX10_canStay 14 = .ok (.if_icmp .gt 21, 3) := by decide +kernel
theorem dX10_canStay_17 : decode cX10_canStay 17 = .ok (.iload_n 3, 1) := by decide +kernel
theorem dX10_canStay_18 : decode cX10_canStay 18 = .ok (.ifCond .eq 17, 3) := by decide +kernel
theorem dX10_canStay_21 : decode cX10_canStay 21 = .ok (.aload_n 0, 1) := by decide +kernel
theorem dX10_canStay_22 : decode cX10_canStay 22 = .ok (.iload_n 1, 1) := by decide +kernel
theorem dX10_canStay_23 : decode cX10_canStay 23 = .ok (.iload 4, 2) := by decide +kernel
theorem dX10_canStay_25 : decode cX10_canStay 25 = .ok (.invokevirtual 297, 3) := by decide +kernel
theorem dX10_canStay_28 : decode cX10_canStay 28 = .ok (.istore_n 3, 1) := by decide +kernel
theorem dX10_canStay_29 : decode cX10_canStay 29 = .ok (.iinc 4 1, 3) := by decide +kernel
theorem dX10_canStay_32 : decode cX10_canStay 32 = .ok (.goto (-22), 3) := by decide +kernel
theorem dX10_canStay_35 : decode cX10_canStay 35 = .ok (.iload_n 3, 1) := by decide +kernel
theorem dX10_canStay_36 : decode cX10_canStay 36 = .ok (.ireturn, 1) := by decide +kernel
theorem dX10_placeOf_0 : decode cX10_placeOf 0 = .ok (.sipush 144, 3) := by decide +kernel
theorem dX10_placeOf_3 : decode cX10_placeOf 3 = .ok (.bipush 41, 2) := by decide +kernel
theorem dX10_placeOf_5 : decode cX10_placeOf 5 = .ok (.iload_n 0, 1) := by decide +kernel
theorem dX10_placeOf_6 : decode cX10_placeOf 6 = .ok (.imul, 1) := by decide +kernel
theorem dX10_placeOf_7 : decode cX10_placeOf 7 = .ok (.iload_n 1, 1) := by decide +kernel
theorem dX10_placeOf_8 : decode cX10_placeOf 8 = .ok (.iadd, 1) := by decide +kernel
theorem dX10_placeOf_9 : decode cX10_placeOf 9 = .ok (.imul, 1) := by decide +kernel
theorem dX10_placeOf_10 : decode cX10_placeOf 10 = .ok (.iload_n 2, 1) := by decide +kernel
theorem dX10_placeOf_11 : decode cX10_placeOf 11 = .ok (.iadd, 1) := by decide +kernel
theorem dX10_placeOf_12 : decode cX10_placeOf 12 = .ok (.ireturn, 1) := by decide +kernel
theorem dX10_byMove_0 : decode cX10_byMove 0 = .ok (.iload_n 3, 1) := by decide +kernel
theorem dX10_byMove_1 : decode cX10_byMove 1 = .ok (.iload 4, 2) := by decide +kernel
theorem dX10_byMove_3 : decode cX10_byMove 3 = .ok (.if_icmp .eq 7, 3) := by decide +kernel
theorem dX10_byMove_6 : decode cX10_byMove 6 = .ok (.iconst 1, 1) := by decide +kernel
theorem dX10_byMove_7 : decode cX10_byMove 7 = .ok (.goto 4, 3) := by decide +kernel
theorem dX10_byMove_10 : decode cX10_byMove 10 = .ok (.iconst 0, 1) := by decide +kernel
theorem dX10_byMove_11 : decode cX10_byMove 11 = .ok (.istore 5, 2) := by decide +kernel
theorem dX10_byMove_13 : decode cX10_byMove 13 = .ok (.iload 5, 2) := by decide +kernel
theorem dX10_byMove_15 : decode cX10_byMove 15 = .ok (.ifCond .eq 7, 3) := by decide +kernel
theorem dX10_byMove_18 : decode cX10_byMove 18 = .ok (.iload_n 2, 1) := by decide +kernel
theorem dX10_byMove_19 : decode cX10_byMove 19 = .ok (.ifCond .eq 15, 3) := by decide +kernel
theorem dX10_byMove_22 : decode cX10_byMove 22 = .ok (.aload_n 0, 1) := by decide +kernel
theorem dX10_byMove_23 : decode cX10_byMove 23 = .ok (.iload 4, 2) := by decide +kernel
theorem dX10_byMove_25 : decode cX10_byMove 25 = .ok (.iload_n 1, 1) := by decide +kernel
theorem dX10_byMove_26 : decode cX10_byMove 26 = .ok (.iconst 1, 1) := by decide +kernel
theorem dX10_byMove_27 : decode cX10_byMove 27 = .ok (.iadd, 1) := by decide +kernel
theorem dX10_byMove_28 : decode cX10_byMove 28 = .ok (.invokevirtual 297, 3) := by decide +kernel
theorem dX10_byMove_31 : decode cX10_byMove 31 = .ok (.ifCond .ne 7, 3) := by decide +kernel
theorem dX10_byMove_34 : decode cX10_byMove 34 = .ok (.ldc_w 300, 3) := by decide +kernel
theorem dX10_byMove_37 : decode cX10_byMove 37 = .ok (.ireturn, 1) := by decide +kernel
theorem dX10_byMove_38 : decode cX10_byMove 38 = .ok (.aload_n 0, 1) := by decide +kernel
theorem dX10_byMove_39 : decode cX10_byMove 39 = .ok (.getfield 108, 3) := by decide +kernel
theorem dX10_byMove_42 : decode cX10_byMove 42 = .ok (.iload_n 1, 1) := by decide +kernel
theorem dX10_byMove_43 : decode cX10_byMove 43 = .ok (.iconst 1, 1) := by decide +kernel
theorem dX10_byMove_44 : decode cX10_byMove 44 = .ok (.iadd, 1) := by decide +kernel
theorem dX10_byMove_45 : decode cX10_byMove 45 = .ok (.iload 5, 2) := by decide +kernel
theorem dX10_byMove_47 : decode cX10_byMove 47 = .ok (.ifCond .eq 9, 3) := by decide +kernel
theorem dX10_byMove_50 : decode cX10_byMove 50 = .ok (.iload_n 2, 1) := by decide +kernel
theorem dX10_byMove_51 : decode cX10_byMove 51 = .ok (.iconst 1, 1) := by decide +kernel
theorem dX10_byMove_52 : decode cX10_byMove 52 = .ok (.isub, 1) := by decide +kernel
theorem dX10_byMove_53 : decode cX10_byMove 53 = .ok (.goto 4, 3) := by decide +kernel
theorem dX10_byMove_56 : decode cX10_byMove 56 = .ok (.iload_n 2, 1) := by decide +kernel
theorem dX10_byMove_57 : decode cX10_byMove 57 = .ok (.iload 4, 2) := by decide +kernel
theorem dX10_byMove_59 : decode cX10_byMove 59 = .ok (.invokestatic 301, 3) := by decide +kernel
theorem dX10_byMove_62 : decode cX10_byMove 62 = .ok (.iaload, 1) := by decide +kernel
theorem dX10_byMove_63 : decode cX10_byMove 63 = .ok (.istore 6, 2) := by decide +kernel
theorem dX10_byMove_65 : decode cX10_byMove 65 = .ok (.iload 6, 2) := by decide +kernel
theorem dX10_byMove_67 : decode cX10_byMove 67 = .ok (.ldc_w 300, 3) := by decide +kernel
theorem dX10_byMove_70 : decode cX10_byMove 70 = .ok (.if_icmp .ne 9, 3) := by decide +kernel
theorem dX10_byMove_73 : decode cX10_byMove 73 = .ok (.ldc_w 300, 3) := by decide +kernel
theorem dX10_byMove_76 : decode cX10_byMove 76 = .ok (.goto 31, 3) := by decide +kernel
theorem dX10_byMove_79 : decode cX10_byMove 79 = .ok (.iload 6, 2) := by decide +kernel
theorem dX10_byMove_81 : decode cX10_byMove 81 = .ok (.sipush 10000, 3) := by decide +kernel
theorem dX10_byMove_84 : decode cX10_byMove 84 = .ok (.aload_n 0, 1) := by decide +kernel
theorem dX10_byMove_85 : decode cX10_byMove 85 = .ok (.getfield 91, 3) := by decide +kernel
theorem dX10_byMove_88 : decode cX10_byMove 88 = .ok (.iload 4, 2) := by decide +kernel
theorem dX10_byMove_90 : decode cX10_byMove 90 = .ok (.iaload, 1) := by decide +kernel
theorem dX10_byMove_91 : decode cX10_byMove 91 = .ok (.imul, 1) := by decide +kernel
theorem dX10_byMove_92 : decode cX10_byMove 92 = .ok (.iadd, 1) := by decide +kernel
theorem dX10_byMove_93 : decode cX10_byMove 93 = .ok (.bipush 100, 2) := by decide +kernel
theorem dX10_byMove_95 : decode cX10_byMove 95 = .ok (.iadd, 1) := by decide +kernel
theorem dX10_byMove_96 : decode cX10_byMove 96 = .ok (.iload 5, 2) := by decide +kernel
theorem dX10_byMove_98 : decode cX10_byMove 98 = .ok (.ifCond .eq 7, 3) := by decide +kernel
theorem dX10_byMove_101 : decode cX10_byMove 101 = .ok (.iconst 1, 1) := by decide +kernel
theorem dX10_byMove_102 : decode cX10_byMove 102 = .ok (.goto 4, 3) := by decide +kernel
theorem dX10_byMove_105 : decode cX10_byMove 105 = .ok (.iconst 0, 1) := by decide +kernel
theorem dX10_byMove_106 : decode cX10_byMove 106 = .ok (.iadd, 1) := by decide +kernel
theorem dX10_byMove_107 : decode cX10_byMove 107 = .ok (.ireturn, 1) := by decide +kernel
theorem dX10_findCosts_0 : decode cX10_findCosts 0 = .ok (.iload_n 2, 1) := by decide +kernel
theorem dX10_findCosts_1 : decode cX10_findCosts 1 = .ok (.istore 4, 2) := by decide +kernel
theorem dX10_findCosts_3 : decode cX10_findCosts 3 = .ok (.iload 4, 2) := by decide +kernel
theorem dX10_findCosts_5 : decode cX10_findCosts 5 = .ok (.ifCond .lt 98, 3) := by decide +kernel
theorem dX10_findCosts_8 : decode cX10_findCosts 8 = .ok (.iconst 0, 1) := by decide +kernel
theorem dX10_findCosts_9 : decode cX10_findCosts 9 = .ok (.istore 5, 2) := by decide +kernel
theorem dX10_findCosts_11 : decode cX10_findCosts 11 = .ok (.iload 5, 2) := by decide +kernel
theorem dX10_findCosts_13 : decode cX10_findCosts 13 = .ok (.iload_n 3, 1) := by decide +kernel
theorem dX10_findCosts_14 : decode cX10_findCosts 14 = .ok (.if_icmp .gt 83, 3) := by decide +kernel
theorem dX10_findCosts_17 : decode cX10_findCosts 17 = .ok (.iconst 0, 1) := by decide +kernel
theorem dX10_findCosts_18 : decode cX10_findCosts 18 = .ok (.istore 6, 2) := by decide +kernel
theorem dX10_findCosts_20 : decode cX10_findCosts 20 = .ok (.iload 6, 2) := by decide +kernel
theorem dX10_findCosts_22 : decode cX10_findCosts 22 = .ok (.sipush 144, 3) := by decide +kernel
theorem dX10_findCosts_25 : decode cX10_findCosts 25 = .ok (.if_icmp .ge 66, 3) := by decide +kernel
theorem dX10_findCosts_28 : decode cX10_findCosts 28 = .ok (.aload_n 0, 1) := by decide +kernel
theorem dX10_findCosts_29 : decode cX10_findCosts 29 = .ok (.getfield 108, 3) := by decide +kernel
theorem dX10_findCosts_32 : decode cX10_findCosts 32 = .ok (.iload 4, 2) := by decide +kernel
theorem dX10_findCosts_34 : decode cX10_findCosts 34 = .ok (.iload 5, 2) := by decide +kernel
theorem dX10_findCosts_36 : decode cX10_findCosts 36 = .ok (.iload 6, 2) := by decide +kernel
theorem dX10_findCosts_38 : decode cX10_findCosts 38 = .ok (.invokestatic 301, 3) := by decide +kernel
theorem dX10_findCosts_41 : decode cX10_findCosts 41 = .ok (.iload 6, 2) := by decide +kernel
theorem dX10_findCosts_43 : decode cX10_findCosts 43 = .ok (.iload_n 1, 1) := by decide +kernel
theorem dX10_findCosts_44 : decode cX10_findCosts 44 = .ok (.if_icmp .ne 18, 3) := by decide +kernel
theorem dX10_findCosts_47 : decode cX10_findCosts 47 = .ok (.aload_n 0, 1) := by decide +kernel
theorem dX10_findCosts_48 : decode cX10_findCosts 48 = .ok (.iload 6, 2) := by decide +kernel
theorem dX10_findCosts_50 : decode cX10_findCosts 50 = .ok (.iload 4, 2) := by decide +kernel
theorem dX10_findCosts_52 : decode cX10_findCosts 52 = .ok (.invokevirtual 305, 3) := by decide +kernel
theorem dX10_findCosts_55 : decode cX10_findCosts 55 = .ok (.ifCond .eq 7, 3) := by decide +kernel
theorem dX10_findCosts_58 : decode cX10_findCosts 58 = .ok (.iconst 0, 1) := by decide +kernel
theorem dX10_findCosts_59 : decode cX10_findCosts 59 = .ok (.goto 25, 3) := by decide +kernel
theorem dX10_findCosts_62 : decode cX10_findCosts 62 = .ok (.iload 4, 2) := by decide +kernel
theorem dX10_findCosts_64 : decode cX10_findCosts 64 = .ok (.iload_n 2, 1) := by decide +kernel
theorem dX10_findCosts_65 : decode cX10_findCosts 65 = .ok (.if_icmp .ne 9, 3) := by decide +kernel
theorem dX10_findCosts_68 : decode cX10_findCosts 68 = .ok (.ldc_w 300, 3) := by decide +kernel
theorem dX10_findCosts_71 : decode cX10_findCosts 71 = .ok (.goto 13, 3) := by decide +kernel
theorem dX10_findCosts_74 : decode cX10_findCosts 74 = .ok (.aload_n 0, 1) := by decide +kernel
theorem dX10_findCosts_75 : decode cX10_findCosts 75 = .ok (.iload 4, 2) := by decide +kernel
theorem dX10_findCosts_77 : decode cX10_findCosts 77 = .ok (.iload 5, 2) := by decide +kernel
theorem dX10_findCosts_79 : decode cX10_findCosts 79 = .ok (.iload 6, 2) := by decide +kernel
theorem dX10_findCosts_81 : decode cX10_findCosts 81 = .ok (.invokevirtual 308, 3) := by decide +kernel
theorem dX10_findCosts_84 : decode cX10_findCosts 84 = .ok (.iastore, 1) := by decide +kernel
theorem dX10_findCosts_85 : decode cX10_findCosts 85 = .ok (.iinc 6 1, 3) := by decide +kernel
theorem dX10_findCosts_88 : decode cX10_findCosts 88 = .ok (.goto (-68), 3) := by decide +kernel
theorem dX10_findCosts_91 : decode cX10_findCosts 91 = .ok (.iinc 5 1, 3) := by decide +kernel
theorem dX10_findCosts_94 : decode cX10_findCosts 94 = .ok (.goto (-83), 3) := by decide +kernel
theorem dX10_findCosts_97 : decode cX10_findCosts 97 = .ok (.iinc 4 (-1), 3) := by decide +kernel
theorem dX10_findCosts_100 : decode cX10_findCosts 100 = .ok (.goto (-97), 3) := by decide +kernel
theorem dX10_findCosts_103 : decode cX10_findCosts 103 = .ok (.return_, 1) := by decide +kernel
theorem dX10_cheapest_0 : decode cX10_cheapest 0 = .ok (.aload_n 0, 1) := by decide +kernel
theorem dX10_cheapest_1 : decode cX10_cheapest 1 = .ok (.iload_n 1, 1) := by decide +kernel
theorem dX10_cheapest_2 : decode cX10_cheapest 2 = .ok (.iload_n 2, 1) := by decide +kernel
theorem dX10_cheapest_3 : decode cX10_cheapest 3 = .ok (.iload_n 3, 1) := by decide +kernel
theorem dX10_cheapest_4 : decode cX10_cheapest 4 = .ok (.iload_n 3, 1) := by decide +kernel
theorem dX10_cheapest_5 : decode cX10_cheapest 5 = .ok (.invokevirtual 311, 3) := by decide +kernel
theorem dX10_cheapest_8 : decode cX10_cheapest 8 = .ok (.istore 4, 2) := by decide +kernel
theorem dX10_cheapest_10 : decode cX10_cheapest 10 = .ok (.iconst (-1), 1) := by decide +kernel
theorem dX10_cheapest_11 : decode cX10_cheapest 11 = .ok (.istore 5, 2) := by decide +kernel
theorem dX10_cheapest_13 : decode cX10_cheapest 13 = .ok (.iload 5, 2) := by decide +kernel
theorem dX10_cheapest_15 : decode cX10_cheapest 15 = .ok (.iconst 2, 1) := by decide +kernel
theorem dX10_cheapest_16 : decode cX10_cheapest 16 = .ok (.if_icmp .ge 111, 3) := by decide +kernel
theorem dX10_cheapest_19 : decode cX10_cheapest 19 = .ok (.iconst (-1), 1) := by decide +kernel
theorem dX10_cheapest_20 : decode cX10_cheapest 20 = .ok (.istore 6, 2) := by decide +kernel
theorem dX10_cheapest_22 : decode cX10_cheapest 22 = .ok (.iload 6, 2) := by decide +kernel
theorem dX10_cheapest_24 : decode cX10_cheapest 24 = .ok (.iconst 2, 1) := by decide +kernel
theorem dX10_cheapest_25 : decode cX10_cheapest 25 = .ok (.if_icmp .ge 96, 3) := by decide +kernel
theorem dX10_cheapest_28 : decode cX10_cheapest 28 = .ok (.iload_n 3, 1) := by decide +kernel
theorem dX10_cheapest_29 : decode cX10_cheapest 29 = .ok (.bipush 12, 2) := by decide +kernel
theorem dX10_cheapest_31 : decode cX10_cheapest 31 = .ok (.irem, 1) := by decide +kernel
theorem dX10_cheapest_32 : decode cX10_cheapest 32 = .ok (.iload 6, 2) := by decide +kernel
theorem dX10_cheapest_34 : decode cX10_cheapest 34 = .ok (.iadd, 1) := by decide +kernel
theorem dX10_cheapest_35 : decode cX10_cheapest 35 = .ok (.istore 7, 2) := by decide +kernel
theorem dX10_cheapest_37 : decode cX10_cheapest 37 = .ok (.iload_n 3, 1) := by decide +kernel
theorem dX10_cheapest_38 : decode cX10_cheapest 38 = .ok (.bipush 12, 2) := by decide +kernel
theorem dX10_cheapest_40 : decode cX10_cheapest 40 = .ok (.idiv, 1) := by decide +kernel
theorem dX10_cheapest_41 : decode cX10_cheapest 41 = .ok (.iload 5, 2) := by decide +kernel
theorem dX10_cheapest_43 : decode cX10_cheapest 43 = .ok (.iadd, 1) := by decide +kernel
theorem dX10_cheapest_44 : decode cX10_cheapest 44 = .ok (.istore 8, 2) := by decide +kernel
theorem dX10_cheapest_46 : decode cX10_cheapest 46 = .ok (.iload 6, 2) := by decide +kernel
theorem dX10_cheapest_48 : decode cX10_cheapest 48 = .ok (.ifCond .ne 8, 3) := by decide +kernel
theorem dX10_cheapest_51 : decode cX10_cheapest 51 = .ok (.iload 5, 2) := by decide +kernel
theorem dX10_cheapest_53 : decode cX10_cheapest 53 = .ok (.ifCond .eq 62, 3) := by decide +kernel
theorem dX10_cheapest_56 : decode cX10_cheapest 56 = .ok (.iload 7, 2) := by decide +kernel
theorem dX10_cheapest_58 : decode cX10_cheapest 58 = .ok (.i2l, 1) := by decide +kernel
theorem dX10_cheapest_59 : decode cX10_cheapest 59 = .ok (.lconst 0, 1) := by decide +kernel
theorem dX10_cheapest_60 : decode cX10_cheapest 60 = .ok (.ldc2_w 199, 3) := by decide +kernel
theorem dX10_cheapest_63 : decode cX10_cheapest 63 = .ok (.invokestatic 122, 3) := by decide +kernel
theorem dX10_cheapest_66 : decode cX10_cheapest 66 = .ok (.ifCond .eq 49, 3) := by decide +kernel
theorem dX10_cheapest_69 : decode cX10_cheapest 69 = .ok (.iload 8, 2) := by decide +kernel
theorem dX10_cheapest_71 : decode cX10_cheapest 71 = .ok (.i2l, 1) := by decide +kernel
theorem dX10_cheapest_72 : decode cX10_cheapest 72 = .ok (.lconst 0, 1) := by decide +kernel
theorem dX10_cheapest_73 : decode cX10_cheapest 73 = .ok (.ldc2_w 199, 3) := by decide +kernel
theorem dX10_cheapest_76 : decode cX10_cheapest 76 = .ok (.invokestatic 122, 3) := by decide +kernel
theorem dX10_cheapest_79 : decode cX10_cheapest 79 = .ok (.ifCond .eq 36, 3) := by decide +kernel
theorem dX10_cheapest_82 : decode cX10_cheapest 82 = .ok (.aload_n 0, 1) := by decide +kernel
theorem dX10_cheapest_83 : decode cX10_cheapest 83 = .ok (.iload_n 1, 1) := by decide +kernel
theorem dX10_cheapest_84 : decode cX10_cheapest 84 = .ok (.iload_n 2, 1) := by decide +kernel
theorem dX10_cheapest_85 : decode cX10_cheapest 85 = .ok (.iload_n 3, 1) := by decide +kernel
theorem dX10_cheapest_86 : decode cX10_cheapest 86 = .ok (.bipush 12, 2) := by decide +kernel
theorem dX10_cheapest_88 : decode cX10_cheapest 88 = .ok (.iload 8, 2) := by decide +kernel
theorem dX10_cheapest_90 : decode cX10_cheapest 90 = .ok (.imul, 1) := by decide +kernel
theorem dX10_cheapest_91 : decode cX10_cheapest 91 = .ok (.iload 7, 2) := by decide +kernel
theorem dX10_cheapest_93 : decode cX10_cheapest 93 = .ok (.iadd, 1) := by decide +kernel
theorem dX10_cheapest_94 : decode cX10_cheapest 94 = .ok (.invokevirtual 311, 3) := by decide +kernel
theorem dX10_cheapest_97 : decode cX10_cheapest 97 = .ok (.istore 9, 2) := by decide +kernel
theorem dX10_cheapest_99 : decode cX10_cheapest 99 = .ok (.iload 9, 2) := by decide +kernel
theorem dX10_cheapest_101 : decode cX10_cheapest 101 = .ok (.iload 4, 2) := by decide +kernel
theorem dX10_cheapest_103 : decode cX10_cheapest 103 = .ok (.if_icmp .ge 8, 3) := by decide +kernel
theorem dX10_cheapest_106 : decode cX10_cheapest 106 = .ok (.iload 9, 2) := by decide +kernel
theorem dX10_cheapest_108 : decode cX10_cheapest 108 = .ok (.goto 5, 3) := by decide +kernel
theorem dX10_cheapest_111 : decode cX10_cheapest 111 = .ok (.iload 4, 2) := by decide +kernel
theorem dX10_cheapest_113 : decode cX10_cheapest 113 = .ok (.istore 4, 2) := by decide +kernel
theorem dX10_cheapest_115 : decode cX10_cheapest 115 = .ok (.iinc 6 1, 3) := by decide +kernel
theorem dX10_cheapest_118 : decode cX10_cheapest 118 = .ok (.goto (-96), 3) := by decide +kernel
theorem dX10_cheapest_121 : decode cX10_cheapest 121 = .ok (.iinc 5 1, 3) := by decide +kernel
theorem dX10_cheapest_124 : decode cX10_cheapest 124 = .ok (.goto (-111), 3) := by decide +kernel
theorem dX10_cheapest_127 : decode cX10_cheapest 127 = .ok (.iload 4, 2) := by decide +kernel
theorem dX10_cheapest_129 : decode cX10_cheapest 129 = .ok (.ireturn, 1) := by decide +kernel
theorem dX10_firstMove_0 : decode cX10_firstMove 0 = .ok (.aload_n 0, 1) := by decide +kernel
theorem dX10_firstMove_1 : decode cX10_firstMove 1 = .ok (.getfield 108, 3) := by decide +kernel
theorem dX10_firstMove_4 : decode cX10_firstMove 4 = .ok (.iload_n 1, 1) := by decide +kernel
theorem dX10_firstMove_5 : decode cX10_firstMove 5 = .ok (.iload_n 2, 1) := by decide +kernel
theorem dX10_firstMove_6 : decode cX10_firstMove 6 = .ok (.iload_n 3, 1) := by decide +kernel
theorem dX10_firstMove_7 : decode cX10_firstMove 7 = .ok (.invokestatic 301, 3) := by decide +kernel
theorem dX10_firstMove_10 : decode cX10_firstMove 10 = .ok (.iaload, 1) := by decide +kernel
theorem dX10_firstMove_11 : decode cX10_firstMove 11 = .ok (.istore 4, 2) := by decide +kernel
theorem dX10_firstMove_13 : decode cX10_firstMove 13 = .ok (.aload_n 0, 1) := by decide +kernel
theorem dX10_firstMove_14 : decode cX10_firstMove 14 = .ok (.iload_n 1, 1) := by decide +kernel
theorem dX10_firstMove_15 : decode cX10_firstMove 15 = .ok (.iload_n 2, 1) := by decide +kernel
theorem dX10_firstMove_16 : decode cX10_firstMove 16 = .ok (.iload_n 3, 1) := by decide +kernel
theorem dX10_firstMove_17 : decode cX10_firstMove 17 = .ok (.iload_n 3, 1) := by decide +kernel
theorem dX10_firstMove_18 : decode cX10_firstMove 18 = .ok (.invokevirtual 311, 3) := by decide +kernel
theorem dX10_firstMove_21 : decode cX10_firstMove 21 = .ok (.iload 4, 2) := by decide +kernel
theorem dX10_firstMove_23 : decode cX10_firstMove 23 = .ok (.if_icmp .ne 5, 3) := by decide +kernel
theorem dX10_firstMove_26 : decode cX10_firstMove 26 = .ok (.iload_n 3, 1) := by decide +kernel
theorem dX10_firstMove_27 : decode cX10_firstMove 27 = .ok (.ireturn, 1) := by decide +kernel
theorem dX10_firstMove_28 : decode cX10_firstMove 28 = .ok (.iconst 0, 1) := by decide +kernel
theorem dX10_firstMove_29 : decode cX10_firstMove 29 = .ok (.istore 5, 2) := by decide +kernel
theorem dX10_firstMove_31 : decode cX10_firstMove 31 = .ok (.iload 5, 2) := by decide +kernel
theorem dX10_firstMove_33 : decode cX10_firstMove 33 = .ok (.sipush 144, 3) := by decide +kernel
theorem dX10_firstMove_36 : decode cX10_firstMove 36 = .ok (.if_icmp .ge 41, 3) := by decide +kernel
theorem dX10_firstMove_39 : decode cX10_firstMove 39 = .ok (.iload 5, 2) := by decide +kernel
theorem dX10_firstMove_41 : decode cX10_firstMove 41 = .ok (.iload_n 3, 1) := by decide +kernel
theorem dX10_firstMove_42 : decode cX10_firstMove 42 = .ok (.if_icmp .eq 29, 3) := by decide +kernel
theorem dX10_firstMove_45 : decode cX10_firstMove 45 = .ok (.iload_n 3, 1) := by decide +kernel
theorem dX10_firstMove_46 : decode cX10_firstMove 46 = .ok (.iload 5, 2) := by decide +kernel
theorem dX10_firstMove_48 : decode cX10_firstMove 48 = .ok (.invokestatic 315, 3) := by decide +kernel
theorem dX10_firstMove_51 : decode cX10_firstMove 51 = .ok (.ifCond .eq 20, 3) := by decide +kernel
theorem dX10_firstMove_54 : decode cX10_firstMove 54 = .ok (.aload_n 0, 1) := by decide +kernel
theorem dX10_firstMove_55 : decode cX10_firstMove 55 = .ok (.iload_n 1, 1) := by decide +kernel
theorem dX10_firstMove_56 : decode cX10_firstMove 56 = .ok (.iload_n 2, 1) := by decide +kernel
theorem dX10_firstMove_57 : decode cX10_firstMove 57 = .ok (.iload_n 3, 1) := by decide +kernel
theorem dX10_firstMove_58 : decode cX10_firstMove 58 = .ok (.iload 5, 2) := by decide +kernel
theorem dX10_firstMove_60 : decode cX10_firstMove 60 = .ok (.invokevirtual 311, 3) := by decide +kernel
theorem dX10_firstMove_63 : decode cX10_firstMove 63 = .ok (.iload 4, 2) := by decide +kernel
theorem dX10_firstMove_65 : decode cX10_firstMove 65 = .ok (.if_icmp .ne 6, 3) := by decide +kernel
theorem dX10_firstMove_68 : decode cX10_firstMove 68 = .ok (.iload 5, 2) := by decide +kernel
theorem dX10_firstMove_70 : decode cX10_firstMove 70 = .ok (.ireturn, 1) := by decide +kernel
theorem dX10_firstMove_71 : decode cX10_firstMove 71 = .ok (.iinc 5 1, 3) := by decide +kernel
theorem dX10_firstMove_74 : decode cX10_firstMove 74 = .ok (.goto (-43), 3) := by decide +kernel
theorem dX10_firstMove_77 : decode cX10_firstMove 77 = .ok (.iload_n 3, 1) := by decide +kernel
theorem dX10_firstMove_78 : decode cX10_firstMove 78 = .ok (.ireturn, 1) := by decide +kernel
theorem dX10_find_0 : decode cX10_find 0 = .ok (.aload_n 0, 1) := by decide +kernel
theorem dX10_find_1 : decode cX10_find 1 = .ok (.iload_n 2, 1) := by decide +kernel
theorem dX10_find_2 : decode cX10_find 2 = .ok (.iconst 0, 1) := by decide +kernel
theorem dX10_find_3 : decode cX10_find 3 = .ok (.invokevirtual 297, 3) := by decide +kernel
theorem dX10_find_6 : decode cX10_find 6 = .ok (.ifCond .ne 7, 3) := by decide +kernel
theorem dX10_find_9 : decode cX10_find 9 = .ok (.ldc_w 300, 3) := by decide +kernel
theorem dX10_find_12 : decode cX10_find 12 = .ok (.ireturn, 1) := by decide +kernel
theorem dX10_find_13 : decode cX10_find 13 = .ok (.aload_n 0, 1) := by decide +kernel
theorem dX10_find_14 : decode cX10_find 14 = .ok (.iload_n 3, 1) := by decide +kernel
theorem dX10_find_15 : decode cX10_find 15 = .ok (.iload 4, 2) := by decide +kernel
theorem dX10_find_17 : decode cX10_find 17 = .ok (.iload 5, 2) := by decide +kernel
theorem dX10_find_19 : decode cX10_find 19 = .ok (.invokevirtual 318, 3) := by decide +kernel
theorem dX10_find_22 : decode cX10_find 22 = .ok (.aload_n 0, 1) := by decide +kernel
theorem dX10_find_23 : decode cX10_find 23 = .ok (.getfield 108, 3) := by decide +kernel
theorem dX10_find_26 : decode cX10_find 26 = .ok (.iconst 0, 1) := by decide +kernel
theorem dX10_find_27 : decode cX10_find 27 = .ok (.iload 5, 2) := by decide +kernel
theorem dX10_find_29 : decode cX10_find 29 = .ok (.iload_n 2, 1) := by decide +kernel
theorem dX10_find_30 : decode cX10_find 30 = .ok (.invokestatic 301, 3) := by decide +kernel
theorem dX10_find_33 : decode cX10_find 33 = .ok (.iaload, 1) := by decide +kernel
theorem dX10_find_34 : decode cX10_find 34 = .ok (.istore 7, 2) := by decide +kernel
theorem dX10_find_36 : decode cX10_find 36 = .ok (.iload 7, 2) := by decide +kernel
theorem dX10_find_38 : decode cX10_find 38 = .ok (.ldc_w 300, 3) := by decide +kernel
theorem dX10_find_41 : decode cX10_find 41 = .ok (.if_icmp .ne 7, 3) := by decide +kernel
theorem dX10_find_44 : decode cX10_find 44 = .ok (.ldc_w 300, 3) := by decide +kernel
theorem dX10_find_47 : decode cX10_find 47 = .ok (.ireturn, 1) := by decide +kernel
theorem dX10_find_48 : decode cX10_find 48 = .ok (.iload_n 2, 1) := by decide +kernel
theorem dX10_find_49 : decode cX10_find 49 = .ok (.istore 8, 2) := by decide +kernel
theorem dX10_find_51 : decode cX10_find 51 = .ok (.iload 5, 2) := by decide +kernel
theorem dX10_find_53 : decode cX10_find 53 = .ok (.istore 9, 2) := by decide +kernel
theorem dX10_find_55 : decode cX10_find 55 = .ok (.iconst 0, 1) := by decide +kernel
theorem dX10_find_56 : decode cX10_find 56 = .ok (.istore 10, 2) := by decide +kernel
theorem dX10_find_58 : decode cX10_find 58 = .ok (.aload_n 0, 1) := by decide +kernel
theorem dX10_find_59 : decode cX10_find 59 = .ok (.getfield 94, 3) := by decide +kernel
theorem dX10_find_62 : decode cX10_find 62 = .ok (.bipush 41, 2) := by decide +kernel
theorem dX10_find_64 : decode cX10_find 64 = .ok (.iload_n 1, 1) := by decide +kernel
theorem dX10_find_65 : decode cX10_find 65 = .ok (.imul, 1) := by decide +kernel
theorem dX10_find_66 : decode cX10_find 66 = .ok (.iload 6, 2) := by decide +kernel
theorem dX10_find_68 : decode cX10_find 68 = .ok (.iadd, 1) := by decide +kernel
theorem dX10_find_69 : decode cX10_find 69 = .ok (.iload_n 2, 1) := by decide +kernel
theorem dX10_find_70 : decode cX10_find 70 = .ok (.iastore, 1) := by decide +kernel
theorem dX10_find_71 : decode cX10_find 71 = .ok (.aload_n 0, 1) := by decide +kernel
theorem dX10_find_72 : decode cX10_find 72 = .ok (.getfield 108, 3) := by decide +kernel
theorem dX10_find_75 : decode cX10_find 75 = .ok (.iload 10, 2) := by decide +kernel
theorem dX10_find_77 : decode cX10_find 77 = .ok (.iload 9, 2) := by decide +kernel
theorem dX10_find_79 : decode cX10_find 79 = .ok (.iload 8, 2) := by decide +kernel
theorem dX10_find_81 : decode cX10_find 81 = .ok (.invokestatic 301, 3) := by decide +kernel
theorem dX10_find_84 : decode cX10_find 84 = .ok (.iaload, 1) := by decide +kernel
theorem dX10_find_85 : decode cX10_find 85 = .ok (.ifCond .le 59, 3) := by decide +kernel
theorem dX10_find_88 : decode cX10_find 88 = .ok (.aload_n 0, 1) := by decide +kernel
theorem dX10_find_89 : decode cX10_find 89 = .ok (.iload 10, 2) := by decide +kernel
theorem dX10_find_91 : decode cX10_find 91 = .ok (.iload 9, 2) := by decide +kernel
theorem dX10_find_93 : decode cX10_find 93 = .ok (.iload 8, 2) := by decide +kernel
theorem dX10_find_95 : decode cX10_find 95 = .ok (.invokevirtual 321, 3) := by decide +kernel
theorem dX10_find_98 : decode cX10_find 98 = .ok (.istore 11, 2) := by decide +kernel
theorem dX10_find_100 : decode cX10_find 100 = .ok (.iload 9, 2) := by decide +kernel
theorem dX10_find_102 : decode cX10_find 102 = .ok (.iload 11, 2) := by decide +kernel
theorem dX10_find_104 : decode cX10_find 104 = .ok (.iload 8, 2) := by decide +kernel
theorem dX10_find_106 : decode cX10_find 106 = .ok (.if_icmp .ne 7, 3) := by decide +kernel
theorem dX10_find_109 : decode cX10_find 109 = .ok (.iconst 0, 1) := by decide +kernel
theorem dX10_find_110 : decode cX10_find 110 = .ok (.goto 4, 3) := by decide +kernel
theorem dX10_find_113 : decode cX10_find 113 = .ok (.iconst 1, 1) := by decide +kernel
theorem dX10_find_114 : decode cX10_find 114 = .ok (.isub, 1) := by decide +kernel
theorem dX10_find_115 : decode cX10_find 115 = .ok (.istore 9, 2) := by decide +kernel
theorem dX10_find_117 : decode cX10_find 117 = .ok (.iload 11, 2) := by decide +kernel
theorem dX10_find_119 : decode cX10_find 119 = .ok (.istore 8, 2) := by decide +kernel
theorem dX10_find_121 : decode cX10_find 121 = .ok (.iinc 10 1, 3) := by decide +kernel
theorem dX10_find_124 : decode cX10_find 124 = .ok (.aload_n 0, 1) := by decide +kernel
theorem dX10_find_125 : decode cX10_find 125 = .ok (.getfield 94, 3) := by decide +kernel
theorem dX10_find_128 : decode cX10_find 128 = .ok (.bipush 41, 2) := by decide +kernel
theorem dX10_find_130 : decode cX10_find 130 = .ok (.iload_n 1, 1) := by decide +kernel
theorem dX10_find_131 : decode cX10_find 131 = .ok (.imul, 1) := by decide +kernel
theorem dX10_find_132 : decode cX10_find 132 = .ok (.iload 6, 2) := by decide +kernel
theorem dX10_find_134 : decode cX10_find 134 = .ok (.iadd, 1) := by decide +kernel
theorem dX10_find_135 : decode cX10_find 135 = .ok (.iload 10, 2) := by decide +kernel
theorem dX10_find_137 : decode cX10_find 137 = .ok (.iadd, 1) := by decide +kernel
theorem dX10_find_138 : decode cX10_find 138 = .ok (.iload 8, 2) := by decide +kernel
theorem dX10_find_140 : decode cX10_find 140 = .ok (.iastore, 1) := by decide +kernel
theorem dX10_find_141 : decode cX10_find 141 = .ok (.goto (-70), 3) := by decide +kernel
theorem dX10_find_144 : decode cX10_find 144 = .ok (.aload_n 0, 1) := by decide +kernel
theorem dX10_find_145 : decode cX10_find 145 = .ok (.getfield 97, 3) := by decide +kernel
theorem dX10_find_148 : decode cX10_find 148 = .ok (.iload_n 1, 1) := by decide +kernel
theorem dX10_find_149 : decode cX10_find 149 = .ok (.iload 6, 2) := by decide +kernel
theorem dX10_find_151 : decode cX10_find 151 = .ok (.iload 10, 2) := by decide +kernel
theorem dX10_find_153 : decode cX10_find 153 = .ok (.iadd, 1) := by decide +kernel
theorem dX10_find_154 : decode cX10_find 154 = .ok (.iastore, 1) := by decide +kernel
theorem dX10_find_155 : decode cX10_find 155 = .ok (.aload_n 0, 1) := by decide +kernel
theorem dX10_find_156 : decode cX10_find 156 = .ok (.getfield 100, 3) := by decide +kernel
theorem dX10_find_159 : decode cX10_find 159 = .ok (.iload_n 1, 1) := by decide +kernel
theorem dX10_find_160 : decode cX10_find 160 = .ok (.iconst 1, 1) := by decide +kernel
theorem dX10_find_161 : decode cX10_find 161 = .ok (.bastore, 1) := by decide +kernel
theorem dX10_find_162 : decode cX10_find 162 = .ok (.iload 7, 2) := by decide +kernel
theorem dX10_find_164 : decode cX10_find 164 = .ok (.ireturn, 1) := by decide +kernel
theorem dX10_isAllowed_0 : decode cX10_isAllowed 0 = .ok (.iload_n 0, 1) := by decide +kernel
theorem dX10_isAllowed_1 : decode cX10_isAllowed 1 = .ok (.i2l, 1) := by decide +kernel
theorem dX10_isAllowed_2 : decode cX10_isAllowed 2 = .ok (.lconst 0, 1) := by decide +kernel
theorem dX10_isAllowed_3 : decode cX10_isAllowed 3 = .ok (.ldc2_w 273, 3) := by decide +kernel
theorem dX10_isAllowed_6 : decode cX10_isAllowed 6 = .ok (.invokestatic 122, 3) := by decide +kernel
theorem dX10_isAllowed_9 : decode cX10_isAllowed 9 = .ok (.ifCond .eq 19, 3) := by decide +kernel
theorem dX10_isAllowed_12 : decode cX10_isAllowed 12 = .ok (.iload_n 1, 1) := by decide +kernel
theorem dX10_isAllowed_13 : decode cX10_isAllowed 13 = .ok (.i2l, 1) := by decide +kernel
theorem dX10_isAllowed_14 : decode cX10_isAllowed 14 = .ok (.lconst 0, 1) := by decide +kernel
theorem dX10_isAllowed_15 : decode cX10_isAllowed 15 = .ok (.ldc2_w 273, 3) := by decide +kernel
theorem dX10_isAllowed_18 : decode cX10_isAllowed 18 = .ok (.invokestatic 122, 3) := by decide +kernel
theorem dX10_isAllowed_21 : decode cX10_isAllowed 21 = .ok (.ifCond .eq 7, 3) := by decide +kernel
theorem dX10_isAllowed_24 : decode cX10_isAllowed 24 = .ok (.iconst 1, 1) := by decide +kernel
theorem dX10_isAllowed_25 : decode cX10_isAllowed 25 = .ok (.goto 4, 3) := by decide +kernel
theorem dX10_isAllowed_28 : decode cX10_isAllowed 28 = .ok (.iconst 0, 1) := by decide +kernel
theorem dX10_isAllowed_29 : decode cX10_isAllowed 29 = .ok (.ireturn, 1) := by decide +kernel
theorem dX10_route_0 : decode cX10_route 0 = .ok (.iload_n 1, 1) := by decide +kernel
theorem dX10_route_1 : decode cX10_route 1 = .ok (.invokestatic 324, 3) := by decide +kernel
theorem dX10_route_4 : decode cX10_route 4 = .ok (.ifCond .eq 10, 3) := by decide +kernel
theorem dX10_route_7 : decode cX10_route 7 = .ok (.iload_n 2, 1) := by decide +kernel
theorem dX10_route_8 : decode cX10_route 8 = .ok (.invokestatic 324, 3) := by decide +kernel
theorem dX10_route_11 : decode cX10_route 11 = .ok (.ifCond .ne 5, 3) := by decide +kernel
theorem dX10_route_14 : decode cX10_route 14 = .ok (.iconst (-1), 1) := by decide +kernel
theorem dX10_route_15 : decode cX10_route 15 = .ok (.ireturn, 1) := by decide +kernel
theorem dX10_route_16 : decode cX10_route 16 = .ok (.iload_n 3, 1) := by decide +kernel
theorem dX10_route_17 : decode cX10_route 17 = .ok (.iload 4, 2) := by decide +kernel
theorem dX10_route_19 : decode cX10_route 19 = .ok (.invokestatic 327, 3) := by decide +kernel
theorem dX10_route_22 : decode cX10_route 22 = .ok (.ifCond .ne 6, 3) := by decide +kernel
theorem dX10_route_25 : decode cX10_route 25 = .ok (.bipush (-2), 2) := by decide +kernel
theorem dX10_route_27 : decode cX10_route 27 = .ok (.ireturn, 1) := by decide +kernel
theorem dX10_route_28 : decode cX10_route 28 = .ok (.aload_n 0, 1) := by decide +kernel
theorem dX10_route_29 : decode cX10_route 29 = .ok (.iconst (-1), 1) := by decide +kernel
theorem dX10_route_30 : decode cX10_route 30 = .ok (.putfield 104, 3) := by decide +kernel
theorem dX10_route_33 : decode cX10_route 33 = .ok (.aload_n 0, 1) := by decide +kernel
theorem dX10_route_34 : decode cX10_route 34 = .ok (.iconst 0, 1) := by decide +kernel
theorem dX10_route_35 : decode cX10_route 35 = .ok (.iload_n 1, 1) := by decide +kernel
theorem dX10_route_36 : decode cX10_route 36 = .ok (.iload_n 2, 1) := by decide +kernel
theorem dX10_route_37 : decode cX10_route 37 = .ok (.iload_n 3, 1) := by decide +kernel
theorem dX10_route_38 : decode cX10_route 38 = .ok (.iload 4, 2) := by decide +kernel
theorem dX10_route_40 : decode cX10_route 40 = .ok (.iconst 0, 1) := by decide +kernel
theorem dX10_route_41 : decode cX10_route 41 = .ok (.invokevirtual 330, 3) := by decide +kernel
theorem dX10_route_44 : decode cX10_route 44 = .ok (.istore 5, 2) := by decide +kernel
theorem dX10_route_46 : decode cX10_route 46 = .ok (.iload 5, 2) := by decide +kernel
theorem dX10_route_48 : decode cX10_route 48 = .ok (.ldc_w 300, 3) := by decide +kernel
theorem dX10_route_51 : decode cX10_route 51 = .ok (.if_icmp .ne 6, 3) := by decide +kernel
theorem dX10_route_54 : decode cX10_route 54 = .ok (.bipush (-5), 2) := by decide +kernel
theorem dX10_route_56 : decode cX10_route 56 = .ok (.ireturn, 1) := by decide +kernel
theorem dX10_route_57 : decode cX10_route 57 = .ok (.aload_n 0, 1) := by decide +kernel
theorem dX10_route_58 : decode cX10_route 58 = .ok (.iload_n 3, 1) := by decide +kernel
theorem dX10_route_59 : decode cX10_route 59 = .ok (.putfield 334, 3) := by decide +kernel
theorem dX10_route_62 : decode cX10_route 62 = .ok (.aload_n 0, 1) := by decide +kernel
theorem dX10_route_63 : decode cX10_route 63 = .ok (.iload 4, 2) := by decide +kernel
theorem dX10_route_65 : decode cX10_route 65 = .ok (.putfield 337, 3) := by decide +kernel
theorem dX10_route_68 : decode cX10_route 68 = .ok (.iload 5, 2) := by decide +kernel
theorem dX10_route_70 : decode cX10_route 70 = .ok (.sipush 10000, 3) := by decide +kernel
theorem dX10_route_73 : decode cX10_route 73 = .ok (.idiv, 1) := by decide +kernel
theorem dX10_route_74 : decode cX10_route 74 = .ok (.ireturn, 1) := by decide +kernel
theorem dX10_apart_0 : decode cX10_apart 0 = .ok (.iload_n 1, 1) := by decide +kernel
theorem dX10_apart_1 : decode cX10_apart 1 = .ok (.invokestatic 324, 3) := by decide +kernel
theorem dX10_apart_4 : decode cX10_apart 4 = .ok (.ifCond .eq 10, 3) := by decide +kernel
theorem dX10_apart_7 : decode cX10_apart 7 = .ok (.iload_n 2, 1) := by decide +kernel
theorem dX10_apart_8 : decode cX10_apart 8 = .ok (.invokestatic 324, 3) := by decide +kernel
theorem dX10_apart_11 : decode cX10_apart 11 = .ok (.ifCond .ne 5, 3) := by decide +kernel
theorem dX10_apart_14 : decode cX10_apart 14 = .ok (.iconst (-1), 1) := by decide +kernel
theorem dX10_apart_15 : decode cX10_apart 15 = .ok (.ireturn, 1) := by decide +kernel
theorem dX10_apart_16 : decode cX10_apart 16 = .ok (.iload_n 3, 1) := by decide +kernel
theorem dX10_apart_17 : decode cX10_apart 17 = .ok (.iload 4, 2) := by decide +kernel
theorem dX10_apart_19 : decode cX10_apart 19 = .ok (.invokestatic 327, 3) := by decide +kernel
theorem dX10_apart_22 : decode cX10_apart 22 = .ok (.ifCond .eq 16, 3) := by decide +kernel
theorem dX10_apart_25 : decode cX10_apart 25 = .ok (.iload 5, 2) := by decide +kernel
theorem dX10_apart_27 : decode cX10_apart 27 = .ok (.i2l, 1) := by decide +kernel
theorem dX10_apart_28 : decode cX10_apart 28 = .ok (.lconst 0, 1) := by decide +kernel
theorem dX10_apart_29 : decode cX10_apart 29 = .ok (.ldc2_w 192, 3) := by decide +kernel
theorem dX10_apart_32 : decode cX10_apart 32 = .ok (.invokestatic 122, 3) := by decide +kernel
theorem dX10_apart_35 : decode cX10_apart 35 = .ok (.ifCond .ne 6, 3) := by decide +kernel
theorem dX10_apart_38 : decode cX10_apart 38 = .ok (.bipush (-2), 2) := by decide +kernel
theorem dX10_apart_40 : decode cX10_apart 40 = .ok (.ireturn, 1) := by decide +kernel
theorem dX10_apart_41 : decode cX10_apart 41 = .ok (.aload_n 0, 1) := by decide +kernel
theorem dX10_apart_42 : decode cX10_apart 42 = .ok (.getfield 100, 3) := by decide +kernel
theorem dX10_apart_45 : decode cX10_apart 45 = .ok (.iconst 0, 1) := by decide +kernel
theorem dX10_apart_46 : decode cX10_apart 46 = .ok (.baload, 1) := by decide +kernel
theorem dX10_apart_47 : decode cX10_apart 47 = .ok (.ifCond .ne 6, 3) := by decide +kernel
theorem dX10_apart_50 : decode cX10_apart 50 = .ok (.bipush (-3), 2) := by decide +kernel
theorem dX10_apart_52 : decode cX10_apart 52 = .ok (.ireturn, 1) := by decide +kernel
theorem dX10_apart_53 : decode cX10_apart 53 = .ok (.aload_n 0, 1) := by decide +kernel
theorem dX10_apart_54 : decode cX10_apart 54 = .ok (.iload 5, 2) := by decide +kernel
theorem dX10_apart_56 : decode cX10_apart 56 = .ok (.putfield 104, 3) := by decide +kernel
theorem dX10_apart_59 : decode cX10_apart 59 = .ok (.aload_n 0, 1) := by decide +kernel
theorem dX10_apart_60 : decode cX10_apart 60 = .ok (.iconst 1, 1) := by decide +kernel
theorem dX10_apart_61 : decode cX10_apart 61 = .ok (.iload_n 1, 1) := by decide +kernel
theorem dX10_apart_62 : decode cX10_apart 62 = .ok (.iload_n 2, 1) := by decide +kernel
theorem dX10_apart_63 : decode cX10_apart 63 = .ok (.iload_n 3, 1) := by decide +kernel
theorem dX10_apart_64 : decode cX10_apart 64 = .ok (.iload 4, 2) := by decide +kernel
theorem dX10_apart_66 : decode cX10_apart 66 = .ok (.iconst 0, 1) := by decide +kernel
theorem dX10_apart_67 : decode cX10_apart 67 = .ok (.invokevirtual 330, 3) := by decide +kernel
theorem dX10_apart_70 : decode cX10_apart 70 = .ok (.istore 6, 2) := by decide +kernel
theorem dX10_apart_72 : decode cX10_apart 72 = .ok (.iload 6, 2) := by decide +kernel
theorem dX10_apart_74 : decode cX10_apart 74 = .ok (.ldc_w 300, 3) := by decide +kernel
theorem dX10_apart_77 : decode cX10_apart 77 = .ok (.if_icmp .ne 8, 3) := by decide +kernel
theorem dX10_apart_80 : decode cX10_apart 80 = .ok (.bipush (-5), 2) := by decide +kernel
theorem dX10_apart_82 : decode cX10_apart 82 = .ok (.goto 9, 3) := by decide +kernel
theorem dX10_apart_85 : decode cX10_apart 85 = .ok (.iload 6, 2) := by decide +kernel
theorem dX10_apart_87 : decode cX10_apart 87 = .ok (.sipush 10000, 3) := by decide +kernel
theorem dX10_apart_90 : decode cX10_apart 90 = .ok (.idiv, 1) := by decide +kernel
theorem dX10_apart_91 : decode cX10_apart 91 = .ok (.ireturn, 1) := by decide +kernel
theorem dX10_fuelTill_0 : decode cX10_fuelTill 0 = .ok (.iconst 0, 1) := by decide +kernel
theorem dX10_fuelTill_1 : decode cX10_fuelTill 1 = .ok (.istore_n 3, 1) := by decide +kernel
theorem dX10_fuelTill_2 : decode cX10_fuelTill 2 = .ok (.iconst 1, 1) := by decide +kernel
theorem dX10_fuelTill_3 : decode cX10_fuelTill 3 = .ok (.istore 4, 2) := by decide +kernel
theorem dX10_fuelTill_5 : decode cX10_fuelTill 5 = .ok (.iload 4, 2) := by decide +kernel
theorem dX10_fuelTill_7 : decode cX10_fuelTill 7 = .ok (.iload_n 2, 1) := by decide +kernel
theorem dX10_fuelTill_8 : decode cX10_fuelTill 8 = .ok (.if_icmp .gt 46, 3) := by decide +kernel
theorem dX10_fuelTill_11 : decode cX10_fuelTill 11 = .ok (.iload_n 3, 1) := by decide +kernel
theorem dX10_fuelTill_12 : decode cX10_fuelTill 12 = .ok (.aload_n 0, 1) := by decide +kernel
theorem dX10_fuelTill_13 : decode cX10_fuelTill 13 = .ok (.getfield 94, 3) := by decide +kernel
theorem dX10_fuelTill_16 : decode cX10_fuelTill 16 = .ok (.bipush 41, 2) := by decide +kernel
theorem dX10_fuelTill_18 : decode cX10_fuelTill 18 = .ok (.iload_n 1, 1) := by decide +kernel
theorem dX10_fuelTill_19 : decode cX10_fuelTill 19 = .ok (.imul, 1) := by decide +kernel
theorem dX10_fuelTill_20 : decode cX10_fuelTill 20 = .ok (.iload 4, 2) := by decide +kernel
theorem dX10_fuelTill_22 : decode cX10_fuelTill 22 = .ok (.iadd, 1) := by decide +kernel
theorem dX10_fuelTill_23 : decode cX10_fuelTill 23 = .ok (.iaload, 1) := by decide +kernel
theorem dX10_fuelTill_24 : decode cX10_fuelTill 24 = .ok (.aload_n 0, 1) := by decide +kernel
theorem dX10_fuelTill_25 : decode cX10_fuelTill 25 = .ok (.getfield 94, 3) := by decide +kernel
theorem dX10_fuelTill_28 : decode cX10_fuelTill 28 = .ok (.bipush 41, 2) := by decide +kernel
theorem dX10_fuelTill_30 : decode cX10_fuelTill 30 = .ok (.iload_n 1, 1) := by decide +kernel
theorem dX10_fuelTill_31 : decode cX10_fuelTill 31 = .ok (.imul, 1) := by decide +kernel
theorem dX10_fuelTill_32 : decode cX10_fuelTill 32 = .ok (.iload 4, 2) := by decide +kernel
theorem dX10_fuelTill_34 : decode cX10_fuelTill 34 = .ok (.iadd, 1) := by decide +kernel
theorem dX10_fuelTill_35 : decode cX10_fuelTill 35 = .ok (.iconst 1, 1) := by decide +kernel
theorem dX10_fuelTill_36 : decode cX10_fuelTill 36 = .ok (.isub, 1) := by decide +kernel
theorem dX10_fuelTill_37 : decode cX10_fuelTill 37 = .ok (.iaload, 1) := by decide +kernel
theorem dX10_fuelTill_38 : decode cX10_fuelTill 38 = .ok (.if_icmp .ne 7, 3) := by decide +kernel
theorem dX10_fuelTill_41 : decode cX10_fuelTill 41 = .ok (.iconst 0, 1) := by decide +kernel
theorem dX10_fuelTill_42 : decode cX10_fuelTill 42 = .ok (.goto 4, 3) := by decide +kernel
theorem dX10_fuelTill_45 : decode cX10_fuelTill 45 = .ok (.iconst 1, 1) := by decide +kernel
theorem dX10_fuelTill_46 : decode cX10_fuelTill 46 = .ok (.iadd, 1) := by decide +kernel
theorem dX10_fuelTill_47 : decode cX10_fuelTill 47 = .ok (.istore_n 3, 1) := by decide +kernel
theorem dX10_fuelTill_48 : decode cX10_fuelTill 48 = .ok (.iinc 4 1, 3) := by decide +kernel
theorem dX10_fuelTill_51 : decode cX10_fuelTill 51 = .ok (.goto (-46), 3) := by decide +kernel
theorem dX10_fuelTill_54 : decode cX10_fuelTill 54 = .ok (.iload_n 3, 1) := by decide +kernel
theorem dX10_fuelTill_55 : decode cX10_fuelTill 55 = .ok (.ireturn, 1) := by decide +kernel
theorem dX10_cell_0 : decode cX10_cell 0 = .ok (.iload_n 1, 1) := by decide +kernel
theorem dX10_cell_1 : decode cX10_cell 1 = .ok (.i2l, 1) := by decide +kernel
theorem dX10_cell_2 : decode cX10_cell 2 = .ok (.lconst 0, 1) := by decide +kernel
theorem dX10_cell_3 : decode cX10_cell 3 = .ok (.lconst 1, 1) := by decide +kernel
theorem dX10_cell_4 : decode cX10_cell 4 = .ok (.invokestatic 122, 3) := by decide +kernel
theorem dX10_cell_7 : decode cX10_cell 7 = .ok (.ifCond .eq 17, 3) := by decide +kernel
theorem dX10_cell_10 : decode cX10_cell 10 = .ok (.iload_n 2, 1) := by decide +kernel
theorem dX10_cell_11 : decode cX10_cell 11 = .ok (.i2l, 1) := by decide +kernel
theorem dX10_cell_12 : decode cX10_cell 12 = .ok (.ldc2_w 340, 3) := by decide +kernel
theorem dX10_cell_15 : decode cX10_cell 15 = .ok (.ldc2_w 273, 3) := by decide +kernel
theorem dX10_cell_18 : decode cX10_cell 18 = .ok (.invokestatic 122, 3) := by decide +kernel
theorem dX10_cell_21 : decode cX10_cell 21 = .ok (.ifCond .ne 6, 3) := by decide +kernel
theorem dX10_cell_24 : decode cX10_cell 24 = .ok (.bipush (-2), 2) := by decide +kernel
theorem dX10_cell_26 : decode cX10_cell 26 = .ok (.ireturn, 1) := by decide +kernel
theorem dX10_cell_27 : decode cX10_cell 27 = .ok (.aload_n 0, 1) := by decide +kernel
theorem dX10_cell_28 : decode cX10_cell 28 = .ok (.getfield 100, 3) := by decide +kernel
theorem dX10_cell_31 : decode cX10_cell 31 = .ok (.iload_n 1, 1) := by decide +kernel
theorem dX10_cell_32 : decode cX10_cell 32 = .ok (.baload, 1) := by decide +kernel
theorem dX10_cell_33 : decode cX10_cell 33 = .ok (.ifCond .ne 6, 3) := by decide +kernel
theorem dX10_cell_36 : decode cX10_cell 36 = .ok (.bipush (-6), 2) := by decide +kernel
theorem dX10_cell_38 : decode cX10_cell 38 = .ok (.ireturn, 1) := by decide +kernel
theorem dX10_cell_39 : decode cX10_cell 39 = .ok (.iload_n 2, 1) := by decide +kernel
theorem dX10_cell_40 : decode cX10_cell 40 = .ok (.iconst (-1), 1) := by decide +kernel
theorem dX10_cell_41 : decode cX10_cell 41 = .ok (.if_icmp .ne 12, 3) := by decide +kernel
theorem dX10_cell_44 : decode cX10_cell 44 = .ok (.aload_n 0, 1) := by decide +kernel
theorem dX10_cell_45 : decode cX10_cell 45 = .ok (.getfield 97, 3) := by decide +kernel
theorem dX10_cell_48 : decode cX10_cell 48 = .ok (.iload_n 1, 1) := by decide +kernel
theorem dX10_cell_49 : decode cX10_cell 49 = .ok (.iaload, 1) := by decide +kernel
theorem dX10_cell_50 : decode cX10_cell 50 = .ok (.goto 29, 3) := by decide +kernel
theorem dX10_cell_53 : decode cX10_cell 53 = .ok (.iload_n 2, 1) := by decide +kernel
theorem dX10_cell_54 : decode cX10_cell 54 = .ok (.bipush (-2), 2) := by decide +kernel
theorem dX10_cell_56 : decode cX10_cell 56 = .ok (.if_icmp .ne 17, 3) := by decide +kernel
theorem dX10_cell_59 : decode cX10_cell 59 = .ok (.aload_n 0, 1) := by decide +kernel
theorem dX10_cell_60 : decode cX10_cell 60 = .ok (.iload_n 1, 1) := by decide +kernel
theorem dX10_cell_61 : decode cX10_cell 61 = .ok (.aload_n 0, 1) := by decide +kernel
theorem dX10_cell_62 : decode cX10_cell 62 = .ok (.getfield 97, 3) := by decide +kernel
theorem dX10_cell_65 : decode cX10_cell 65 = .ok (.iload_n 1, 1) := by decide +kernel
theorem dX10_cell_66 : decode cX10_cell 66 = .ok (.iaload, 1) := by decide +kernel
theorem dX10_cell_67 : decode cX10_cell 67 = .ok (.invokevirtual 342, 3) := by decide +kernel
theorem dX10_cell_70 : decode cX10_cell 70 = .ok (.goto 9, 3) := by decide +kernel
theorem dX10_cell_73 : decode cX10_cell 73 = .ok (.aload_n 0, 1) := by decide +kernel
theorem dX10_cell_74 : decode cX10_cell 74 = .ok (.iload_n 1, 1) := by decide +kernel
theorem dX10_cell_75 : decode cX10_cell 75 = .ok (.iload_n 2, 1) := by decide +kernel
theorem dX10_cell_76 : decode cX10_cell 76 = .ok (.invokevirtual 291, 3) := by decide +kernel
theorem dX10_cell_79 : decode cX10_cell 79 = .ok (.ireturn, 1) := by decide +kernel
theorem dX10_word_0 : decode cX10_word 0 = .ok (.iload_n 2, 1) := by decide +kernel
theorem dX10_word_1 : decode cX10_word 1 = .ok (.invokestatic 324, 3) := by decide +kernel
theorem dX10_word_4 : decode cX10_word 4 = .ok (.ifCond .ne 5, 3) := by decide +kernel
theorem dX10_word_7 : decode cX10_word 7 = .ok (.iconst (-1), 1) := by decide +kernel
theorem dX10_word_8 : decode cX10_word 8 = .ok (.ireturn, 1) := by decide +kernel
theorem dX10_word_9 : decode cX10_word 9 = .ok (.iload_n 1, 1) := by decide +kernel
theorem dX10_word_10 : decode cX10_word 10 = .ok (.i2l, 1) := by decide +kernel
theorem dX10_word_11 : decode cX10_word 11 = .ok (.lconst 0, 1) := by decide +kernel
theorem dX10_word_12 : decode cX10_word 12 = .ok (.ldc2_w 273, 3) := by decide +kernel
theorem dX10_word_15 : decode cX10_word 15 = .ok (.invokestatic 122, 3) := by decide +kernel
theorem dX10_word_18 : decode cX10_word 18 = .ok (.ifCond .ne 6, 3) := by decide +kernel
theorem dX10_word_21 : decode cX10_word 21 = .ok (.bipush (-2), 2) := by decide +kernel
theorem dX10_word_23 : decode cX10_word 23 = .ok (.ireturn, 1) := by decide +kernel
theorem dX10_word_24 : decode cX10_word 24 = .ok (.aload_n 0, 1) := by decide +kernel
theorem dX10_word_25 : decode cX10_word 25 = .ok (.getfield 100, 3) := by decide +kernel
theorem dX10_word_28 : decode cX10_word 28 = .ok (.iconst 0, 1) := by decide +kernel
theorem dX10_word_29 : decode cX10_word 29 = .ok (.baload, 1) := by decide +kernel
theorem dX10_word_30 : decode cX10_word 30 = .ok (.ifCond .ne 6, 3) := by decide +kernel
theorem dX10_word_33 : decode cX10_word 33 = .ok (.bipush (-3), 2) := by decide +kernel
theorem dX10_word_35 : decode cX10_word 35 = .ok (.ireturn, 1) := by decide +kernel
theorem dX10_word_36 : decode cX10_word 36 = .ok (.iload_n 1, 1) := by decide +kernel
theorem dX10_word_37 : decode cX10_word 37 = .ok (.aload_n 0, 1) := by decide +kernel
theorem dX10_word_38 : decode cX10_word 38 = .ok (.getfield 97, 3) := by decide +kernel
theorem dX10_word_41 : decode cX10_word 41 = .ok (.iconst 0, 1) := by decide +kernel
theorem dX10_word_42 : decode cX10_word 42 = .ok (.iaload, 1) := by decide +kernel
theorem dX10_word_43 : decode cX10_word 43 = .ok (.if_icmp .le 6, 3) := by decide +kernel
theorem dX10_word_46 : decode cX10_word 46 = .ok (.bipush (-2), 2) := by decide +kernel
theorem dX10_word_48 : decode cX10_word 48 = .ok (.ireturn, 1) := by decide +kernel
theorem dX10_word_49 : decode cX10_word 49 = .ok (.aload_n 0, 1) := by decide +kernel
theorem dX10_word_50 : decode cX10_word 50 = .ok (.iconst (-1), 1) := by decide +kernel
theorem dX10_word_51 : decode cX10_word 51 = .ok (.putfield 104, 3) := by decide +kernel
theorem dX10_word_54 : decode cX10_word 54 = .ok (.aload_n 0, 1) := by decide +kernel
theorem dX10_word_55 : decode cX10_word 55 = .ok (.iconst 0, 1) := by decide +kernel
theorem dX10_word_56 : decode cX10_word 56 = .ok (.aload_n 0, 1) := by decide +kernel
theorem dX10_word_57 : decode cX10_word 57 = .ok (.getfield 94, 3) := by decide +kernel
theorem dX10_word_60 : decode cX10_word 60 = .ok (.iload_n 1, 1) := by decide +kernel
theorem dX10_word_61 : decode cX10_word 61 = .ok (.iaload, 1) := by decide +kernel
theorem dX10_word_62 : decode cX10_word 62 = .ok (.iload_n 2, 1) := by decide +kernel
theorem dX10_word_63 : decode cX10_word 63 = .ok (.aload_n 0, 1) := by decide +kernel
theorem dX10_word_64 : decode cX10_word 64 = .ok (.getfield 334, 3) := by decide +kernel
theorem dX10_word_67 : decode cX10_word 67 = .ok (.iload_n 1, 1) := by decide +kernel
theorem dX10_word_68 : decode cX10_word 68 = .ok (.isub, 1) := by decide +kernel
theorem dX10_word_69 : decode cX10_word 69 = .ok (.aload_n 0, 1) := by decide +kernel
theorem dX10_word_70 : decode cX10_word 70 = .ok (.getfield 337, 3) := by decide +kernel
theorem dX10_word_73 : decode cX10_word 73 = .ok (.aload_n 0, 1) := by decide +kernel
theorem dX10_word_74 : decode cX10_word 74 = .ok (.iconst 0, 1) := by decide +kernel
theorem dX10_word_75 : decode cX10_word 75 = .ok (.iload_n 1, 1) := by decide +kernel
theorem dX10_word_76 : decode cX10_word 76 = .ok (.invokevirtual 342, 3) := by decide +kernel
theorem dX10_word_79 : decode cX10_word 79 = .ok (.isub, 1) := by decide +kernel
theorem dX10_word_80 : decode cX10_word 80 = .ok (.iload_n 1, 1) := by decide +kernel
theorem dX10_word_81 : decode cX10_word 81 = .ok (.invokevirtual 330, 3) := by decide +kernel
theorem dX10_word_84 : decode cX10_word 84 = .ok (.istore_n 3, 1) := by decide +kernel
theorem dX10_word_85 : decode cX10_word 85 = .ok (.iload_n 3, 1) := by decide +kernel
theorem dX10_word_86 : decode cX10_word 86 = .ok (.ldc_w 300, 3) := by decide +kernel
theorem dX10_word_89 : decode cX10_word 89 = .ok (.if_icmp .ne 8, 3) := by decide +kernel
theorem dX10_word_92 : decode cX10_word 92 = .ok (.bipush (-5), 2) := by decide +kernel
theorem dX10_word_94 : decode cX10_word 94 = .ok (.goto 8, 3) := by decide +kernel
theorem dX10_word_97 : decode cX10_word 97 = .ok (.iload_n 3, 1) := by decide +kernel
theorem dX10_word_98 : decode cX10_word 98 = .ok (.sipush 10000, 3) := by decide +kernel
theorem dX10_word_101 : decode cX10_word 101 = .ok (.idiv, 1) := by decide +kernel
theorem dX10_word_102 : decode cX10_word 102 = .ok (.ireturn, 1) := by decide +kernel
theorem dX10_sight_0 : decode cX10_sight 0 = .ok (.iload_n 1, 1) := by decide +kernel
theorem dX10_sight_1 : decode cX10_sight 1 = .ok (.i2l, 1) := by decide +kernel
theorem dX10_sight_2 : decode cX10_sight 2 = .ok (.lconst 0, 1) := by decide +kernel
theorem dX10_sight_3 : decode cX10_sight 3 = .ok (.ldc2_w 136, 3) := by decide +kernel
theorem dX10_sight_6 : decode cX10_sight 6 = .ok (.invokestatic 122, 3) := by decide +kernel
theorem dX10_sight_9 : decode cX10_sight 9 = .ok (.ifCond .eq 31, 3) := by decide +kernel
theorem dX10_sight_12 : decode cX10_sight 12 = .ok (.iload_n 2, 1) := by decide +kernel
theorem dX10_sight_13 : decode cX10_sight 13 = .ok (.i2l, 1) := by decide +kernel
theorem dX10_sight_14 : decode cX10_sight 14 = .ok (.ldc2_w 345, 3) := by decide +kernel
theorem dX10_sight_17 : decode cX10_sight 17 = .ok (.ldc2_w 347, 3) := by decide +kernel
theorem dX10_sight_20 : decode cX10_sight 20 = .ok (.invokestatic 122, 3) := by decide +kernel
theorem dX10_sight_23 : decode cX10_sight 23 = .ok (.ifCond .eq 17, 3) := by decide +kernel
theorem dX10_sight_26 : decode cX10_sight 26 = .ok (.iload_n 3, 1) := by decide +kernel
theorem dX10_sight_27 : decode cX10_sight 27 = .ok (.i2l, 1) := by decide +kernel
theorem dX10_sight_28 : decode cX10_sight 28 = .ok (.ldc2_w 345, 3) := by decide +kernel
theorem dX10_sight_31 : decode cX10_sight 31 = .ok (.ldc2_w 347, 3) := by decide +kernel
theorem dX10_sight_34 : decode cX10_sight 34 = .ok (.invokestatic 122, 3) := by decide +kernel
theorem dX10_sight_37 : decode cX10_sight 37 = .ok (.ifCond .ne 6, 3) := by decide +kernel
theorem dX10_sight_40 : decode cX10_sight 40 = .ok (.bipush (-2), 2) := by decide +kernel
theorem dX10_sight_42 : decode cX10_sight 42 = .ok (.ireturn, 1) := by decide +kernel
theorem dX10_sight_43 : decode cX10_sight 43 = .ok (.aload_n 0, 1) := by decide +kernel
theorem dX10_sight_44 : decode cX10_sight 44 = .ok (.getfield 349, 3) := by decide +kernel
theorem dX10_sight_47 : decode cX10_sight 47 = .ok (.bipush 12, 2) := by decide +kernel
theorem dX10_sight_49 : decode cX10_sight 49 = .ok (.if_icmp .ne 6, 3) := by decide +kernel
theorem dX10_sight_52 : decode cX10_sight 52 = .ok (.bipush (-4), 2) := by decide +kernel
theorem dX10_sight_54 : decode cX10_sight 54 = .ok (.ireturn, 1) := by decide +kernel
theorem dX10_sight_55 : decode cX10_sight 55 = .ok (.aload_n 0, 1) := by decide +kernel
theorem dX10_sight_56 : decode cX10_sight 56 = .ok (.getfield 111, 3) := by decide +kernel
theorem dX10_sight_59 : decode cX10_sight 59 = .ok (.aload_n 0, 1) := by decide +kernel
theorem dX10_sight_60 : decode cX10_sight 60 = .ok (.getfield 349, 3) := by decide +kernel
theorem dX10_sight_63 : decode cX10_sight 63 = .ok (.iload_n 1, 1) := by decide +kernel
theorem dX10_sight_64 : decode cX10_sight 64 = .ok (.iastore, 1) := by decide +kernel
theorem dX10_sight_65 : decode cX10_sight 65 = .ok (.aload_n 0, 1) := by decide +kernel
theorem dX10_sight_66 : decode cX10_sight 66 = .ok (.getfield 114, 3) := by decide +kernel
theorem dX10_sight_69 : decode cX10_sight 69 = .ok (.aload_n 0, 1) := by decide +kernel
theorem dX10_sight_70 : decode cX10_sight 70 = .ok (.getfield 349, 3) := by decide +kernel
theorem dX10_sight_73 : decode cX10_sight 73 = .ok (.iload_n 2, 1) := by decide +kernel
theorem dX10_sight_74 : decode cX10_sight 74 = .ok (.iastore, 1) := by decide +kernel
theorem dX10_sight_75 : decode cX10_sight 75 = .ok (.aload_n 0, 1) := by decide +kernel
theorem dX10_sight_76 : decode cX10_sight 76 = .ok (.getfield 117, 3) := by decide +kernel
theorem dX10_sight_79 : decode cX10_sight 79 = .ok (.aload_n 0, 1) := by decide +kernel
theorem dX10_sight_80 : decode cX10_sight 80 = .ok (.getfield 349, 3) := by decide +kernel
theorem dX10_sight_83 : decode cX10_sight 83 = .ok (.iload_n 3, 1) := by decide +kernel
theorem dX10_sight_84 : decode cX10_sight 84 = .ok (.iastore, 1) := by decide +kernel
theorem dX10_sight_85 : decode cX10_sight 85 = .ok (.aload_n 0, 1) := by decide +kernel
theorem dX10_sight_86 : decode cX10_sight 86 = .ok (.dup, 1) := by decide +kernel
theorem dX10_sight_87 : decode cX10_sight 87 = .ok (.getfield 349, 3) := by decide +kernel
theorem dX10_sight_90 : decode cX10_sight 90 = .ok (.iconst 1, 1) := by decide +kernel
theorem dX10_sight_91 : decode cX10_sight 91 = .ok (.iadd, 1) := by decide +kernel
theorem dX10_sight_92 : decode cX10_sight 92 = .ok (.putfield 349, 3) := by decide +kernel
theorem dX10_sight_95 : decode cX10_sight 95 = .ok (.aload_n 0, 1) := by decide +kernel
theorem dX10_sight_96 : decode cX10_sight 96 = .ok (.getfield 349, 3) := by decide +kernel
theorem dX10_sight_99 : decode cX10_sight 99 = .ok (.ireturn, 1) := by decide +kernel
theorem dX10_forget_0 : decode cX10_forget 0 = .ok (.aload_n 0, 1) := by decide +kernel
theorem dX10_forget_1 : decode cX10_forget 1 = .ok (.getfield 349, 3) := by decide +kernel
theorem dX10_forget_4 : decode cX10_forget 4 = .ok (.istore_n 1, 1) := by decide +kernel
theorem dX10_forget_5 : decode cX10_forget 5 = .ok (.aload_n 0, 1) := by decide +kernel
theorem dX10_forget_6 : decode cX10_forget 6 = .ok (.iconst 0, 1) := by decide +kernel
theorem dX10_forget_7 : decode cX10_forget 7 = .ok (.putfield 349, 3) := by decide +kernel
theorem dX10_forget_10 : decode cX10_forget 10 = .ok (.iload_n 1, 1) := by decide +kernel
theorem dX10_forget_11 : decode cX10_forget 11 = .ok (.ireturn, 1) := by decide +kernel
theorem dX10_far_0 : decode cX10_far 0 = .ok (.lload_n 0, 1) := by decide +kernel
theorem dX10_far_1 : decode cX10_far 1 = .ok (.lload_n 2, 1) := by decide +kernel
theorem dX10_far_2 : decode cX10_far 2 = .ok (.lcmp, 1) := by decide +kernel
theorem dX10_far_3 : decode cX10_far 3 = .ok (.ifCond .ge 9, 3) := by decide +kernel
theorem dX10_far_6 : decode cX10_far 6 = .ok (.lload_n 2, 1) := by decide +kernel
theorem dX10_far_7 : decode cX10_far 7 = .ok (.lload_n 0, 1) := by decide +kernel
theorem dX10_far_8 : decode cX10_far 8 = .ok (.lsub, 1) := by decide +kernel
theorem dX10_far_9 : decode cX10_far 9 = .ok (.goto 6, 3) := by decide +kernel
theorem dX10_far_12 : decode cX10_far 12 = .ok (.lload_n 0, 1) := by decide +kernel
theorem dX10_far_13 : decode cX10_far 13 = .ok (.lload_n 2, 1) := by decide +kernel
theorem dX10_far_14 : decode cX10_far 14 = .ok (.lsub, 1) := by decide +kernel
theorem dX10_far_15 : decode cX10_far 15 = .ok (.lreturn, 1) := by decide +kernel
theorem dX10_misfit_0 : decode cX10_misfit 0 = .ok (.lconst 0, 1) := by decide +kernel
theorem dX10_misfit_1 : decode cX10_misfit 1 = .ok (.lstore 5, 2) := by decide +kernel
theorem dX10_misfit_3 : decode cX10_misfit 3 = .ok (.aload_n 0, 1) := by decide +kernel
theorem dX10_misfit_4 : decode cX10_misfit 4 = .ok (.iload_n 1, 1) := by decide +kernel
theorem dX10_misfit_5 : decode cX10_misfit 5 = .ok (.i2l, 1) := by decide +kernel
theorem dX10_misfit_6 : decode cX10_misfit 6 = .ok (.putfield 152, 3) := by decide +kernel
theorem dX10_misfit_9 : decode cX10_misfit 9 = .ok (.aload_n 0, 1) := by decide +kernel
theorem dX10_misfit_10 : decode cX10_misfit 10 = .ok (.iload_n 2, 1) := by decide +kernel
theorem dX10_misfit_11 : decode cX10_misfit 11 = .ok (.i2l, 1) := by decide +kernel
theorem dX10_misfit_12 : decode cX10_misfit 12 = .ok (.putfield 159, 3) := by decide +kernel
theorem dX10_misfit_15 : decode cX10_misfit 15 = .ok (.iconst 0, 1) := by decide +kernel
theorem dX10_misfit_16 : decode cX10_misfit 16 = .ok (.istore 7, 2) := by decide +kernel
theorem dX10_misfit_18 : decode cX10_misfit 18 = .ok (.iload 7, 2) := by decide +kernel
theorem dX10_misfit_20 : decode cX10_misfit 20 = .ok (.sipush 600, 3) := by decide +kernel
theorem dX10_misfit_23 : decode cX10_misfit 23 = .ok (.if_icmp .gt 88, 3) := by decide +kernel
theorem dX10_misfit_26 : decode cX10_misfit 26 = .ok (.iconst 0, 1) := by decide +kernel
theorem dX10_misfit_27 : decode cX10_misfit 27 = .ok (.istore 8, 2) := by decide +kernel
theorem dX10_misfit_29 : decode cX10_misfit 29 = .ok (.iload 8, 2) := by decide +kernel
theorem dX10_misfit_31 : decode cX10_misfit 31 = .ok (.aload_n 0, 1) := by decide +kernel
theorem dX10_misfit_32 : decode cX10_misfit 32 = .ok (.getfield 349, 3) := by decide +kernel
theorem dX10_misfit_35 : decode cX10_misfit 35 = .ok (.if_icmp .ge 61, 3) := by decide +kernel
theorem dX10_misfit_38 : decode cX10_misfit 38 = .ok (.lload 5, 2) := by decide +kernel
theorem dX10_misfit_40 : decode cX10_misfit 40 = .ok (.aload_n 0, 1) := by decide +kernel
theorem dX10_misfit_41 : decode cX10_misfit 41 = .ok (.getfield 111, 3) := by decide +kernel
theorem dX10_misfit_44 : decode cX10_misfit 44 = .ok (.iload 8, 2) := by decide +kernel
theorem dX10_misfit_46 : decode cX10_misfit 46 = .ok (.iaload, 1) := by decide +kernel
theorem dX10_misfit_47 : decode cX10_misfit 47 = .ok (.iload 7, 2) := by decide +kernel
theorem dX10_misfit_49 : decode cX10_misfit 49 = .ok (.if_icmp .ne 37, 3) := by decide +kernel
theorem dX10_misfit_52 : decode cX10_misfit 52 = .ok (.aload_n 0, 1) := by decide +kernel
theorem dX10_misfit_53 : decode cX10_misfit 53 = .ok (.getfield 152, 3) := by decide +kernel
theorem dX10_misfit_56 : decode cX10_misfit 56 = .ok (.aload_n 0, 1) := by decide +kernel
theorem dX10_misfit_57 : decode cX10_misfit 57 = .ok (.getfield 114, 3) := by decide +kernel
theorem dX10_misfit_60 : decode cX10_misfit 60 = .ok (.iload 8, 2) := by decide +kernel
theorem dX10_misfit_62 : decode cX10_misfit 62 = .ok (.iaload, 1) := by decide +kernel
theorem dX10_misfit_63 : decode cX10_misfit 63 = .ok (.i2l, 1) := by decide +kernel
theorem dX10_misfit_64 : decode cX10_misfit 64 = .ok (.invokestatic 352, 3) := by decide +kernel
theorem dX10_misfit_67 : decode cX10_misfit 67 = .ok (.aload_n 0, 1) := by decide +kernel
theorem dX10_misfit_68 : decode cX10_misfit 68 = .ok (.getfield 159, 3) := by decide +kernel
theorem dX10_misfit_71 : decode cX10_misfit 71 = .ok (.aload_n 0, 1) := by decide +kernel
theorem dX10_misfit_72 : decode cX10_misfit 72 = .ok (.getfield 117, 3) := by decide +kernel
theorem dX10_misfit_75 : decode cX10_misfit 75 = .ok (.iload 8, 2) := by decide +kernel
theorem dX10_misfit_77 : decode cX10_misfit 77 = .ok (.iaload, 1) := by decide +kernel
theorem dX10_misfit_78 : decode cX10_misfit 78 = .ok (.i2l, 1) := by decide +kernel
theorem dX10_misfit_79 : decode cX10_misfit 79 = .ok (.invokestatic 352, 3) := by decide +kernel
theorem dX10_misfit_82 : decode cX10_misfit 82 = .ok (.ladd, 1) := by decide +kernel
theorem dX10_misfit_83 : decode cX10_misfit 83 = .ok (.goto 4, 3) := by decide +kernel
theorem dX10_misfit_86 : decode cX10_misfit 86 = .ok (.lconst 0, 1) := by decide +kernel
theorem dX10_misfit_87 : decode cX10_misfit 87 = .ok (.ladd, 1) := by decide +kernel
theorem dX10_misfit_88 : decode cX10_misfit 88 = .ok (.lstore 5, 2) := by decide +kernel
theorem dX10_misfit_90 : decode cX10_misfit 90 = .ok (.iinc 8 1, 3) := by decide +kernel
theorem dX10_misfit_93 : decode cX10_misfit 93 = .ok (.goto (-64), 3) := by decide +kernel
theorem dX10_misfit_96 : decode cX10_misfit 96 = .ok (.aload_n 0, 1) := by decide +kernel
theorem dX10_misfit_97 : decode cX10_misfit 97 = .ok (.iload 7, 2) := by decide +kernel
theorem dX10_misfit_99 : decode cX10_misfit 99 = .ok (.iload 4, 2) := by decide +kernel
theorem dX10_misfit_101 : decode cX10_misfit 101 = .ok (.iload_n 3, 1) := by decide +kernel
theorem dX10_misfit_102 : decode cX10_misfit 102 = .ok (.invokevirtual 214, 3) := by decide +kernel
theorem dX10_misfit_105 : decode cX10_misfit 105 = .ok (.iinc 7 1, 3) := by decide +kernel
theorem dX10_misfit_108 : decode cX10_misfit 108 = .ok (.goto (-90), 3) := by decide +kernel
theorem dX10_misfit_111 : decode cX10_misfit 111 = .ok (.lload 5, 2) := by decide +kernel
theorem dX10_misfit_113 : decode cX10_misfit 113 = .ok (.lreturn, 1) := by decide +kernel
theorem dX10_tryFit_0 : decode cX10_tryFit 0 = .ok (.aload_n 0, 1) := by decide +kernel
theorem dX10_tryFit_1 : decode cX10_tryFit 1 = .ok (.invokevirtual 138, 3) := by decide +kernel
theorem dX10_tryFit_4 : decode cX10_tryFit 4 = .ok (.iload 5, 2) := by decide +kernel
theorem dX10_tryFit_6 : decode cX10_tryFit 6 = .ok (.ifCond .lt 14, 3) := by decide +kernel
theorem dX10_tryFit_9 : decode cX10_tryFit 9 = .ok (.aload_n 0, 1) := by decide +kernel
theorem dX10_tryFit_10 : decode cX10_tryFit 10 = .ok (.getfield 19, 3) := by decide +kernel
theorem dX10_tryFit_13 : decode cX10_tryFit 13 = .ok (.iload 5, 2) := by decide +kernel
theorem dX10_tryFit_15 : decode cX10_tryFit 15 = .ok (.iconst 1, 1) := by decide +kernel
theorem dX10_tryFit_16 : decode cX10_tryFit 16 = .ok (.iload 6, 2) := by decide +kernel
theorem dX10_tryFit_18 : decode cX10_tryFit 18 = .ok (.ishl, 1) := by decide +kernel
theorem dX10_tryFit_19 : decode cX10_tryFit 19 = .ok (.iastore, 1) := by decide +kernel
theorem dX10_tryFit_20 : decode cX10_tryFit 20 = .ok (.aload_n 0, 1) := by decide +kernel
theorem dX10_tryFit_21 : decode cX10_tryFit 21 = .ok (.iload_n 1, 1) := by decide +kernel
theorem dX10_tryFit_22 : decode cX10_tryFit 22 = .ok (.iload_n 2, 1) := by decide +kernel
theorem dX10_tryFit_23 : decode cX10_tryFit 23 = .ok (.iload_n 3, 1) := by decide +kernel
theorem dX10_tryFit_24 : decode cX10_tryFit 24 = .ok (.iload 4, 2) := by decide +kernel
theorem dX10_tryFit_26 : decode cX10_tryFit 26 = .ok (.invokevirtual 356, 3) := by decide +kernel
theorem dX10_tryFit_29 : decode cX10_tryFit 29 = .ok (.lstore 7, 2) := by decide +kernel
theorem dX10_tryFit_31 : decode cX10_tryFit 31 = .ok (.aload_n 0, 1) := by decide +kernel
theorem dX10_tryFit_32 : decode cX10_tryFit 32 = .ok (.getfield 360, 3) := by decide +kernel
theorem dX10_tryFit_35 : decode cX10_tryFit 35 = .ok (.lconst 0, 1) := by decide +kernel
theorem dX10_tryFit_36 : decode cX10_tryFit 36 = .ok (.lcmp, 1) := by decide +kernel
theorem dX10_tryFit_37 : decode cX10_tryFit 37 = .ok (.ifCond .lt 13, 3) := by decide +kernel
theorem dX10_tryFit_40 : decode cX10_tryFit 40 = .ok (.lload 7, 2) := by decide +kernel
theorem dX10_tryFit_42 : decode cX10_tryFit 42 = .ok (.aload_n 0, 1) := by decide +kernel
theorem dX10_tryFit_43 : decode cX10_tryFit 43 = .ok (.getfield 360, 3) := by decide +kernel
theorem dX10_tryFit_46 : decode cX10_tryFit 46 = .ok (.lcmp, 1) := by decide +kernel
theorem dX10_tryFit_47 : decode cX10_tryFit 47 = .ok (.ifCond .ge 27, 3) := by decide +kernel
theorem dX10_tryFit_50 : decode cX10_tryFit 50 = .ok (.aload_n 0, 1) := by decide +kernel
theorem dX10_tryFit_51 : decode cX10_tryFit 51 = .ok (.lload 7, 2) := by decide +kernel
theorem dX10_tryFit_53 : decode cX10_tryFit 53 = .ok (.putfield 360, 3) := by decide +kernel
theorem dX10_tryFit_56 : decode cX10_tryFit 56 = .ok (.aload_n 0, 1) := by decide +kernel
theorem dX10_tryFit_57 : decode cX10_tryFit 57 = .ok (.iload 4, 2) := by decide +kernel
theorem dX10_tryFit_59 : decode cX10_tryFit 59 = .ok (.putfield 363, 3) := by decide +kernel
theorem dX10_tryFit_62 : decode cX10_tryFit 62 = .ok (.aload_n 0, 1) := by decide +kernel
theorem dX10_tryFit_63 : decode cX10_tryFit 63 = .ok (.iload 5, 2) := by decide +kernel
theorem dX10_tryFit_65 : decode cX10_tryFit 65 = .ok (.putfield 366, 3) := by decide +kernel
theorem dX10_tryFit_68 : decode cX10_tryFit 68 = .ok (.aload_n 0, 1) := by decide +kernel
theorem dX10_tryFit_69 : decode cX10_tryFit 69 = .ok (.iload 6, 2) := by decide +kernel
theorem dX10_tryFit_71 : decode cX10_tryFit 71 = .ok (.putfield 369, 3) := by decide +kernel
theorem dX10_tryFit_74 : decode cX10_tryFit 74 = .ok (.return_, 1) := by decide +kernel
theorem dX10_told_0 : decode cX10_told 0 = .ok (.iload_n 1, 1) := by decide +kernel
theorem dX10_told_1 : decode cX10_told 1 = .ok (.iload_n 2, 1) := by decide +kernel
theorem dX10_told_2 : decode cX10_told 2 = .ok (.iload_n 3, 1) := by decide +kernel
theorem dX10_told_3 : decode cX10_told 3 = .ok (.invokestatic 186, 3) := by decide +kernel
theorem dX10_told_6 : decode cX10_told 6 = .ok (.ifCond .eq 16, 3) := by decide +kernel
theorem dX10_told_9 : decode cX10_told 9 = .ok (.iload 4, 2) := by decide +kernel
theorem dX10_told_11 : decode cX10_told 11 = .ok (.i2l, 1) := by decide +kernel
theorem dX10_told_12 : decode cX10_told 12 = .ok (.lconst 0, 1) := by decide +kernel
theorem dX10_told_13 : decode cX10_told 13 = .ok (.ldc2_w 120, 3) := by decide +kernel
theorem dX10_told_16 : decode cX10_told 16 = .ok (.invokestatic 122, 3) := by decide +kernel
theorem dX10_told_19 : decode cX10_told 19 = .ok (.ifCond .ne 7, 3) := by decide +kernel
theorem dX10_told_22 : decode cX10_told 22 = .ok (.ldc2_w 171, 3) := by decide +kernel
theorem dX10_told_25 : decode cX10_told 25 = .ok (.lreturn, 1) := by decide +kernel
theorem dX10_told_26 : decode cX10_told 26 = .ok (.aload_n 0, 1) := by decide +kernel
theorem dX10_told_27 : decode cX10_told 27 = .ok (.getfield 349, 3) := by decide +kernel
theorem dX10_told_30 : decode cX10_told 30 = .ok (.ifCond .ne 7, 3) := by decide +kernel
theorem dX10_told_33 : decode cX10_told 33 = .ok (.ldc2_w 217, 3) := by decide +kernel
theorem dX10_told_36 : decode cX10_told 36 = .ok (.lreturn, 1) := by decide +kernel
theorem dX10_told_37 : decode cX10_told 37 = .ok (.aload_n 0, 1) := by decide +kernel
theorem dX10_told_38 : decode cX10_told 38 = .ok (.ldc2_w 219, 3) := by decide +kernel
theorem dX10_told_41 : decode cX10_told 41 = .ok (.putfield 360, 3) := by decide +kernel
theorem dX10_told_44 : decode cX10_told 44 = .ok (.iconst 0, 1) := by decide +kernel
theorem dX10_told_45 : decode cX10_told 45 = .ok (.istore 5, 2) := by decide +kernel
theorem dX10_told_47 : decode cX10_told 47 = .ok (.iload 5, 2) := by decide +kernel
theorem dX10_told_49 : decode cX10_told 49 = .ok (.bipush 11, 2) := by decide +kernel
theorem dX10_told_51 : decode cX10_told 51 = .ok (.if_icmp .ge 97, 3) := by decide +kernel
theorem dX10_told_54 : decode cX10_told 54 = .ok (.iload 5, 2) := by decide +kernel
theorem dX10_told_56 : decode cX10_told 56 = .ok (.iconst 2, 1) := by decide +kernel
theorem dX10_told_57 : decode cX10_told 57 = .ok (.irem, 1) := by decide +kernel
theorem dX10_told_58 : decode cX10_told 58 = .ok (.ifCond .ne 10, 3) := by decide +kernel
theorem dX10_told_61 : decode cX10_told 61 = .ok (.iload 5, 2) := by decide +kernel
theorem dX10_told_63 : decode cX10_told 63 = .ok (.iconst 2, 1) := by decide +kernel
theorem dX10_told_64 : decode cX10_told 64 = .ok (.idiv, 1) := by decide +kernel
theorem dX10_told_65 : decode cX10_told 65 = .ok (.goto 10, 3) := by decide +kernel
theorem dX10_told_68 : decode cX10_told 68 = .ok (.iload 5, 2) := by decide +kernel
theorem dX10_told_70 : decode cX10_told 70 = .ok (.iconst 1, 1) := by decide +kernel
theorem dX10_told_71 : decode cX10_told 71 = .ok (.iadd, 1) := by decide +kernel
theorem dX10_told_72 : decode cX10_told 72 = .ok (.ineg, 1) := by decide +kernel
theorem dX10_told_73 : decode cX10_told 73 = .ok (.iconst 2, 1) := by decide +kernel
theorem dX10_told_74 : decode cX10_told 74 = .ok (.idiv, 1) := by decide +kernel
theorem dX10_told_75 : decode cX10_told 75 = .ok (.istore 6, 2) := by decide +kernel
theorem dX10_told_77 : decode cX10_told 77 = .ok (.aload_n 0, 1) := by decide +kernel
theorem dX10_told_78 : decode cX10_told 78 = .ok (.iload_n 1, 1) := by decide +kernel
theorem dX10_told_79 : decode cX10_told 79 = .ok (.iload_n 2, 1) := by decide +kernel
theorem dX10_told_80 : decode cX10_told 80 = .ok (.iload_n 3, 1) := by decide +kernel
theorem dX10_told_81 : decode cX10_told 81 = .ok (.iload 6, 2) := by decide +kernel
theorem dX10_told_83 : decode cX10_told 83 = .ok (.bipush (-6), 2) := by decide +kernel
theorem dX10_told_85 : decode cX10_told 85 = .ok (.bipush (-6), 2) := by decide +kernel
theorem dX10_told_87 : decode cX10_told 87 = .ok (.invokevirtual 372, 3) := by decide +kernel
theorem dX10_told_90 : decode cX10_told 90 = .ok (.iconst 0, 1) := by decide +kernel
theorem dX10_told_91 : decode cX10_told 91 = .ok (.istore 7, 2) := by decide +kernel
theorem dX10_told_93 : decode cX10_told 93 = .ok (.iload 7, 2) := by decide +kernel
theorem dX10_told_95 : decode cX10_told 95 = .ok (.bipush 10, 2) := by decide +kernel
theorem dX10_told_97 : decode cX10_told 97 = .ok (.if_icmp .ge 45, 3) := by decide +kernel
theorem dX10_told_100 : decode cX10_told 100 = .ok (.iconst 0, 1) := by decide +kernel
theorem dX10_told_101 : decode cX10_told 101 = .ok (.istore 8, 2) := by decide +kernel
theorem dX10_told_103 : decode cX10_told 103 = .ok (.iload 8, 2) := by decide +kernel
theorem dX10_told_105 : decode cX10_told 105 = .ok (.aload_n 0, 1) := by decide +kernel
theorem dX10_told_106 : decode cX10_told 106 = .ok (.getfield 16, 3) := by decide +kernel
theorem dX10_told_109 : decode cX10_told 109 = .ok (.aload_n 0, 1) := by decide +kernel
theorem dX10_told_110 : decode cX10_told 110 = .ok (.getfield 177, 3) := by decide +kernel
theorem dX10_told_113 : decode cX10_told 113 = .ok (.iaload, 1) := by decide +kernel
theorem dX10_told_114 : decode cX10_told 114 = .ok (.if_icmp .ge 22, 3) := by decide +kernel
theorem dX10_told_117 : decode cX10_told 117 = .ok (.aload_n 0, 1) := by decide +kernel
theorem dX10_told_118 : decode cX10_told 118 = .ok (.iload_n 1, 1) := by decide +kernel
theorem dX10_told_119 : decode cX10_told 119 = .ok (.iload_n 2, 1) := by decide +kernel
theorem dX10_told_120 : decode cX10_told 120 = .ok (.iload_n 3, 1) := by decide +kernel
theorem dX10_told_121 : decode cX10_told 121 = .ok (.iload 6, 2) := by decide +kernel
theorem dX10_told_123 : decode cX10_told 123 = .ok (.iload 7, 2) := by decide +kernel
theorem dX10_told_125 : decode cX10_told 125 = .ok (.iload 8, 2) := by decide +kernel
theorem dX10_told_127 : decode cX10_told 127 = .ok (.invokevirtual 372, 3) := by decide +kernel
theorem dX10_told_130 : decode cX10_told 130 = .ok (.iinc 8 1, 3) := by decide +kernel
theorem dX10_told_133 : decode cX10_told 133 = .ok (.goto (-30), 3) := by decide +kernel
theorem dX10_told_136 : decode cX10_told 136 = .ok (.iinc 7 1, 3) := by decide +kernel
theorem dX10_told_139 : decode cX10_told 139 = .ok (.goto (-46), 3) := by decide +kernel
theorem dX10_told_142 : decode cX10_told 142 = .ok (.iinc 5 1, 3) := by decide +kernel
theorem dX10_told_145 : decode cX10_told 145 = .ok (.goto (-98), 3) := by decide +kernel
theorem dX10_told_148 : decode cX10_told 148 = .ok (.iload 4, 2) := by decide +kernel
theorem dX10_told_150 : decode cX10_told 150 = .ok (.ifCond .ne 10, 3) := by decide +kernel
theorem dX10_told_153 : decode cX10_told 153 = .ok (.aload_n 0, 1) := by decide +kernel
theorem dX10_told_154 : decode cX10_told 154 = .ok (.getfield 360, 3) := by decide +kernel
theorem dX10_told_157 : decode cX10_told 157 = .ok (.goto 36, 3) := by decide +kernel
theorem dX10_told_160 : decode cX10_told 160 = .ok (.iload 4, 2) := by decide +kernel
theorem dX10_told_162 : decode cX10_told 162 = .ok (.iconst 1, 1) := by decide +kernel
theorem dX10_told_163 : decode cX10_told 163 = .ok (.if_icmp .ne 11, 3) := by decide +kernel
theorem dX10_told_166 : decode cX10_told 166 = .ok (.aload_n 0, 1) := by decide +kernel
theorem dX10_told_167 : decode cX10_told 167 = .ok (.getfield 363, 3) := by decide +kernel
theorem dX10_told_170 : decode cX10_told 170 = .ok (.i2l, 1) := by decide +kernel
theorem dX10_told_171 : decode cX10_told 171 = .ok (.goto 22, 3) := by decide +kernel
theorem dX10_told_174 : decode cX10_told 174 = .ok (.iload 4, 2) := by decide +kernel
theorem dX10_told_176 : decode cX10_told 176 = .ok (.iconst 2, 1) := by decide +kernel
theorem dX10_told_177 : decode cX10_told 177 = .ok (.if_icmp .ne 11, 3) := by decide +kernel
theorem dX10_told_180 : decode cX10_told 180 = .ok (.aload_n 0, 1) := by decide +kernel
theorem dX10_told_181 : decode cX10_told 181 = .ok (.getfield 366, 3) := by decide +kernel
theorem dX10_told_184 : decode cX10_told 184 = .ok (.i2l, 1) := by decide +kernel
theorem dX10_told_185 : decode cX10_told 185 = .ok (.goto 8, 3) := by decide +kernel
theorem dX10_told_188 : decode cX10_told 188 = .ok (.aload_n 0, 1) := by decide +kernel
theorem dX10_told_189 : decode cX10_told 189 = .ok (.getfield 369, 3) := by decide +kernel
theorem dX10_told_192 : decode cX10_told 192 = .ok (.i2l, 1) := by decide +kernel
theorem dX10_told_193 : decode cX10_told 193 = .ok (.lreturn, 1) := by decide +kernel
theorem dX10_about_0 : decode cX10_about 0 = .ok (.iload_n 1, 1) := by decide +kernel
theorem dX10_about_1 : decode cX10_about 1 = .ok (.i2l, 1) := by decide +kernel
theorem dX10_about_2 : decode cX10_about 2 = .ok (.ldc2_w 376, 3) := by decide +kernel
theorem dX10_about_5 : decode cX10_about 5 = .ok (.ldc2_w 378, 3) := by decide +kernel
theorem dX10_about_8 : decode cX10_about 8 = .ok (.invokestatic 122, 3) := by decide +kernel
theorem dX10_about_11 : decode cX10_about 11 = .ok (.ifCond .eq 13, 3) := by decide +kernel
theorem dX10_about_14 : decode cX10_about 14 = .ok (.aload_n 0, 1) := by decide +kernel
theorem dX10_about_15 : decode cX10_about 15 = .ok (.getfield 16, 3) := by decide +kernel
theorem dX10_about_18 : decode cX10_about 18 = .ok (.iload_n 1, 1) := by decide +kernel
theorem dX10_about_19 : decode cX10_about 19 = .ok (.bipush 10, 2) := by decide +kernel
theorem dX10_about_21 : decode cX10_about 21 = .ok (.isub, 1) := by decide +kernel
theorem dX10_about_22 : decode cX10_about 22 = .ok (.iaload, 1) := by decide +kernel
theorem dX10_about_23 : decode cX10_about 23 = .ok (.ireturn, 1) := by decide +kernel
theorem dX10_about_24 : decode cX10_about 24 = .ok (.iconst 0, 1) := by decide +kernel
theorem dX10_about_25 : decode cX10_about 25 = .ok (.istore_n 2, 1) := by decide +kernel
theorem dX10_about_26 : decode cX10_about 26 = .ok (.iconst 0, 1) := by decide +kernel
theorem dX10_about_27 : decode cX10_about 27 = .ok (.istore_n 3, 1) := by decide +kernel
theorem dX10_about_28 : decode cX10_about 28 = .ok (.iload_n 3, 1) := by decide +kernel
theorem dX10_about_29 : decode cX10_about 29 = .ok (.sipush 144, 3) := by decide +kernel
theorem dX10_about_32 : decode cX10_about 32 = .ok (.if_icmp .ge 26, 3) := by decide +kernel
theorem dX10_about_35 : decode cX10_about 35 = .ok (.iload_n 2, 1) := by decide +kernel
theorem dX10_about_36 : decode cX10_about 36 = .ok (.aload_n 0, 1) := by decide +kernel
theorem dX10_about_37 : decode cX10_about 37 = .ok (.getfield 91, 3) := by decide +kernel
theorem dX10_about_40 : decode cX10_about 40 = .ok (.iload_n 3, 1) := by decide +kernel
theorem dX10_about_41 : decode cX10_about 41 = .ok (.iaload, 1) := by decide +kernel
theorem dX10_about_42 : decode cX10_about 42 = .ok (.ifCond .ge 7, 3) := by decide +kernel
theorem dX10_about_45 : decode cX10_about 45 = .ok (.iconst 1, 1) := by decide +kernel
theorem dX10_about_46 : decode cX10_about 46 = .ok (.goto 4, 3) := by decide +kernel
theorem dX10_about_49 : decode cX10_about 49 = .ok (.iconst 0, 1) := by decide +kernel
theorem dX10_about_50 : decode cX10_about 50 = .ok (.iadd, 1) := by decide +kernel
theorem dX10_about_51 : decode cX10_about 51 = .ok (.istore_n 2, 1) := by decide +kernel
theorem dX10_about_52 : decode cX10_about 52 = .ok (.iinc 3 1, 3) := by decide +kernel
theorem dX10_about_55 : decode cX10_about 55 = .ok (.goto (-27), 3) := by decide +kernel
theorem dX10_about_58 : decode cX10_about 58 = .ok (.iload_n 1, 1) := by decide +kernel
theorem dX10_about_59 : decode cX10_about 59 = .ok (.tableswitch 82 0 7 #[45, 50, 55, 60, 65, 70, 75, 77], 45) := by decide +kernel
theorem dX10_about_104 : decode cX10_about 104 = .ok (.aload_n 0, 1) := by decide +kernel
theorem dX10_about_105 : decode cX10_about 105 = .ok (.getfield 177, 3) := by decide +kernel
theorem dX10_about_108 : decode cX10_about 108 = .ok (.ireturn, 1) := by decide +kernel
theorem dX10_about_109 : decode cX10_about 109 = .ok (.aload_n 0, 1) := by decide +kernel
theorem dX10_about_110 : decode cX10_about 110 = .ok (.getfield 194, 3) := by decide +kernel
theorem dX10_about_113 : decode cX10_about 113 = .ok (.ireturn, 1) := by decide +kernel
theorem dX10_about_114 : decode cX10_about 114 = .ok (.aload_n 0, 1) := by decide +kernel
theorem dX10_about_115 : decode cX10_about 115 = .ok (.getfield 201, 3) := by decide +kernel
theorem dX10_about_118 : decode cX10_about 118 = .ok (.ireturn, 1) := by decide +kernel
theorem dX10_about_119 : decode cX10_about 119 = .ok (.aload_n 0, 1) := by decide +kernel
theorem dX10_about_120 : decode cX10_about 120 = .ok (.getfield 204, 3) := by decide +kernel
theorem dX10_about_123 : decode cX10_about 123 = .ok (.ireturn, 1) := by decide +kernel
theorem dX10_about_124 : decode cX10_about 124 = .ok (.aload_n 0, 1) := by decide +kernel
theorem dX10_about_125 : decode cX10_about 125 = .ok (.getfield 207, 3) := by decide +kernel
theorem dX10_about_128 : decode cX10_about 128 = .ok (.ireturn, 1) := by decide +kernel
theorem dX10_about_129 : decode cX10_about 129 = .ok (.aload_n 0, 1) := by decide +kernel
theorem dX10_about_130 : decode cX10_about 130 = .ok (.getfield 275, 3) := by decide +kernel
theorem dX10_about_133 : decode cX10_about 133 = .ok (.ireturn, 1) := by decide +kernel
theorem dX10_about_134 : decode cX10_about 134 = .ok (.iload_n 2, 1) := by decide +kernel
theorem dX10_about_135 : decode cX10_about 135 = .ok (.ireturn, 1) := by decide +kernel
theorem dX10_about_136 : decode cX10_about 136 = .ok (.aload_n 0, 1) := by decide +kernel
theorem dX10_about_137 : decode cX10_about 137 = .ok (.getfield 349, 3) := by decide +kernel
theorem dX10_about_140 : decode cX10_about 140 = .ok (.ireturn, 1) := by decide +kernel
theorem dX10_about_141 : decode cX10_about 141 = .ok (.bipush (-2), 2) := by decide +kernel
theorem dX10_about_143 : decode cX10_about 143 = .ok (.ireturn, 1) := by decide +kernel
end
section
theorem dL_law_0 : decode cL_law 0 = .ok (.new 7, 3) := by decide +kernel
theorem dL_law_3 : decode cL_law 3 = .ok (.dup, 1) := by decide +kernel
theorem dL_law_4 : decode cL_law 4 = .ok (.invokespecial 9, 3) := by decide +kernel
theorem dL_law_7 : decode cL_law 7 = .ok (.astore_n 1, 1) := by decide +kernel
theorem dL_law_8 : decode cL_law 8 = .ok (.new 10, 3) := by decide +kernel
theorem dL_law_11 : decode cL_law 11 = .ok (.dup, 1) := by decide +kernel
theorem dL_law_12 : decode cL_law 12 = .ok (.invokespecial 12, 3) := by decide +kernel
theorem dL_law_15 : decode cL_law 15 = .ok (.astore_n 2, 1) := by decide +kernel
theorem dL_law_16 : decode cL_law 16 = .ok (.iconst 0, 1) := by decide +kernel
theorem dL_law_17 : decode cL_law 17 = .ok (.istore_n 3, 1) := by decide +kernel
theorem dL_law_18 : decode cL_law 18 = .ok (.iload_n 3, 1) := by decide +kernel
theorem dL_law_19 : decode cL_law 19 = .ok (.aload_n 0, 1) := by decide +kernel
theorem dL_law_20 : decode cL_law 20 = .ok (.arraylength, 1) := by decide +kernel
theorem dL_law_21 : decode cL_law 21 = .ok (.bipush 7, 2) := by decide +kernel
theorem dL_law_23 : decode cL_law 23 = .ok (.isub, 1) := by decide +kernel
theorem dL_law_24 : decode cL_law 24 = .ok (.if_icmp .gt 1316, 3) := by decide +kernel
theorem dL_law_27 : decode cL_law 27 = .ok (.aload_n 0, 1) := by decide +kernel
theorem dL_law_28 : decode cL_law 28 = .ok (.iload_n 3, 1) := by decide +kernel
theorem dL_law_29 : decode cL_law 29 = .ok (.iaload, 1) := by decide +kernel
theorem dL_law_30 : decode cL_law 30 = .ok (.bipush 31, 2) := by decide +kernel
theorem dL_law_32 : decode cL_law 32 = .ok (.iand, 1) := by decide +kernel
theorem dL_law_33 : decode cL_law 33 = .ok (.tableswitch 1301 0 29 #[135, 178, 201, 244, 277, 321, 344, 397, 440, 473, 517, 551, 584, 607, 660, 683, 716, 791, 834, 877, 910, 943, 986, 1039, 1102, 1135, 1168, 1211, 1224, 1278], 135) := by decide +kernel
theorem dL_law_168 : decode cL_law 168 = .ok (.aload_n 1, 1) := by decide +kernel
theorem dL_law_169 : decode cL_law 169 = .ok (.aload_n 0, 1) := by decide +kernel
theorem dL_law_170 : decode cL_law 170 = .ok (.iload_n 3, 1) := by decide +kernel
theorem dL_law_171 : decode cL_law 171 = .ok (.iconst 1, 1) := by decide +kernel
theorem dL_law_172 : decode cL_law 172 = .ok (.iadd, 1) := by decide +kernel
theorem dL_law_173 : decode cL_law 173 = .ok (.iaload, 1) := by decide +kernel
theorem dL_law_174 : decode cL_law 174 = .ok (.aload_n 0, 1) := by decide +kernel
theorem dL_law_175 : decode cL_law 175 = .ok (.iload_n 3, 1) := by decide +kernel
theorem dL_law_176 : decode cL_law 176 = .ok (.iconst 2, 1) := by decide +kernel
theorem dL_law_177 : decode cL_law 177 = .ok (.iadd, 1) := by decide +kernel
theorem dL_law_178 : decode cL_law 178 = .ok (.iaload, 1) := by decide +kernel
theorem dL_law_179 : decode cL_law 179 = .ok (.aload_n 0, 1) := by decide +kernel
theorem dL_law_180 : decode cL_law 180 = .ok (.iload_n 3, 1) := by decide +kernel
theorem dL_law_181 : decode cL_law 181 = .ok (.iconst 3, 1) := by decide +kernel
theorem dL_law_182 : decode cL_law 182 = .ok (.iadd, 1) := by decide +kernel
theorem dL_law_183 : decode cL_law 183 = .ok (.iaload, 1) := by decide +kernel
theorem dL_law_184 : decode cL_law 184 = .ok (.invokevirtual 13, 3) := by decide +kernel
theorem dL_law_187 : decode cL_law 187 = .ok (.aload_n 2, 1) := by decide +kernel
theorem dL_law_188 : decode cL_law 188 = .ok (.aload_n 0, 1) := by decide +kernel
theorem dL_law_189 : decode cL_law 189 = .ok (.iload_n 3, 1) := by decide +kernel
theorem dL_law_190 : decode cL_law 190 = .ok (.iconst 1, 1) := by decide +kernel
theorem dL_law_191 : decode cL_law 191 = .ok (.iadd, 1) := by decide +kernel
theorem dL_law_192 : decode cL_law 192 = .ok (.iaload, 1) := by decide +kernel
theorem dL_law_193 : decode cL_law 193 = .ok (.aload_n 0, 1) := by decide +kernel
theorem dL_law_194 : decode cL_law 194 = .ok (.iload_n 3, 1) := by decide +kernel
theorem dL_law_195 : decode cL_law 195 = .ok (.iconst 2, 1) := by decide +kernel
theorem dL_law_196 : decode cL_law 196 = .ok (.iadd, 1) := by decide +kernel
theorem dL_law_197 : decode cL_law 197 = .ok (.iaload, 1) := by decide +kernel
theorem dL_law_198 : decode cL_law 198 = .ok (.aload_n 0, 1) := by decide +kernel
theorem dL_law_199 : decode cL_law 199 = .ok (.iload_n 3, 1) := by decide +kernel
theorem dL_law_200 : decode cL_law 200 = .ok (.iconst 3, 1) := by decide +kernel
theorem dL_law_201 : decode cL_law 201 = .ok (.iadd, 1) := by decide +kernel
theorem dL_law_202 : decode cL_law 202 = .ok (.iaload, 1) := by decide +kernel
theorem dL_law_203 : decode cL_law 203 = .ok (.invokevirtual 17, 3) := by decide +kernel
theorem dL_law_206 : decode cL_law 206 = .ok (.if_icmp .eq 1128, 3) := by decide +kernel
theorem dL_law_209 : decode cL_law 209 = .ok (.iconst 0, 1) := by decide +kernel
theorem dL_law_210 : decode cL_law 210 = .ok (.ireturn, 1) := by decide +kernel
theorem dL_law_211 : decode cL_law 211 = .ok (.aload_n 1, 1) := by decide +kernel
theorem dL_law_212 : decode cL_law 212 = .ok (.aload_n 0, 1) := by decide +kernel
theorem dL_law_213 : decode cL_law 213 = .ok (.iload_n 3, 1) := by decide +kernel
theorem dL_law_214 : decode cL_law 214 = .ok (.iconst 1, 1) := by decide +kernel
theorem dL_law_215 : decode cL_law 215 = .ok (.iadd, 1) := by decide +kernel
theorem dL_law_216 : decode cL_law 216 = .ok (.iaload, 1) := by decide +kernel
theorem dL_law_217 : decode cL_law 217 = .ok (.invokevirtual 18, 3) := by decide +kernel
theorem dL_law_220 : decode cL_law 220 = .ok (.aload_n 2, 1) := by decide +kernel
theorem dL_law_221 : decode cL_law 221 = .ok (.aload_n 0, 1) := by decide +kernel
theorem dL_law_222 : decode cL_law 222 = .ok (.iload_n 3, 1) := by decide +kernel
theorem dL_law_223 : decode cL_law 223 = .ok (.iconst 1, 1) := by decide +kernel
theorem dL_law_224 : decode cL_law 224 = .ok (.iadd, 1) := by decide +kernel
theorem dL_law_225 : decode cL_law 225 = .ok (.iaload, 1) := by decide +kernel
theorem dL_law_226 : decode cL_law 226 = .ok (.invokevirtual 22, 3) := by decide +kernel
theorem dL_law_229 : decode cL_law 229 = .ok (.if_icmp .eq 1105, 3) := by decide +kernel
theorem dL_law_232 : decode cL_law 232 = .ok (.iconst 0, 1) := by decide +kernel
theorem dL_law_233 : decode cL_law 233 = .ok (.ireturn, 1) := by decide +kernel
theorem dL_law_234 : decode cL_law 234 = .ok (.aload_n 1, 1) := by decide +kernel
theorem dL_law_235 : decode cL_law 235 = .ok (.aload_n 0, 1) := by decide +kernel
theorem dL_law_236 : decode cL_law 236 = .ok (.iload_n 3, 1) := by decide +kernel
theorem dL_law_237 : decode cL_law 237 = .ok (.iconst 1, 1) := by decide +kernel
theorem dL_law_238 : decode cL_law 238 = .ok (.iadd, 1) := by decide +kernel
theorem dL_law_239 : decode cL_law 239 = .ok (.iaload, 1) := by decide +kernel
theorem dL_law_240 : decode cL_law 240 = .ok (.aload_n 0, 1) := by decide +kernel
theorem dL_law_241 : decode cL_law 241 = .ok (.iload_n 3, 1) := by decide +kernel
theorem dL_law_242 : decode cL_law 242 = .ok (.iconst 2, 1) := by decide +kernel
theorem dL_law_243 : decode cL_law 243 = .ok (.iadd, 1) := by decide +kernel
theorem dL_law_244 : decode cL_law 244 = .ok (.iaload, 1) := by decide +kernel
theorem dL_law_245 : decode cL_law 245 = .ok (.aload_n 0, 1) := by decide +kernel
theorem dL_law_246 : decode cL_law 246 = .ok (.iload_n 3, 1) := by decide +kernel
theorem dL_law_247 : decode cL_law 247 = .ok (.iconst 3, 1) := by decide +kernel
theorem dL_law_248 : decode cL_law 248 = .ok (.iadd, 1) := by decide +kernel
theorem dL_law_249 : decode cL_law 249 = .ok (.iaload, 1) := by decide +kernel
theorem dL_law_250 : decode cL_law 250 = .ok (.invokevirtual 23, 3) := by decide +kernel
theorem dL_law_253 : decode cL_law 253 = .ok (.aload_n 2, 1) := by decide +kernel
theorem dL_law_254 : decode cL_law 254 = .ok (.aload_n 0, 1) := by decide +kernel
theorem dL_law_255 : decode cL_law 255 = .ok (.iload_n 3, 1) := by decide +kernel
theorem dL_law_256 : decode cL_law 256 = .ok (.iconst 1, 1) := by decide +kernel
theorem dL_law_257 : decode cL_law 257 = .ok (.iadd, 1) := by decide +kernel
theorem dL_law_258 : decode cL_law 258 = .ok (.iaload, 1) := by decide +kernel
theorem dL_law_259 : decode cL_law 259 = .ok (.aload_n 0, 1) := by decide +kernel
theorem dL_law_260 : decode cL_law 260 = .ok (.iload_n 3, 1) := by decide +kernel
theorem dL_law_261 : decode cL_law 261 = .ok (.iconst 2, 1) := by decide +kernel
theorem dL_law_262 : decode cL_law 262 = .ok (.iadd, 1) := by decide +kernel
theorem dL_law_263 : decode cL_law 263 = .ok (.iaload, 1) := by decide +kernel
theorem dL_law_264 : decode cL_law 264 = .ok (.aload_n 0, 1) := by decide +kernel
theorem dL_law_265 : decode cL_law 265 = .ok (.iload_n 3, 1) := by decide +kernel
theorem dL_law_266 : decode cL_law 266 = .ok (.iconst 3, 1) := by decide +kernel
theorem dL_law_267 : decode cL_law 267 = .ok (.iadd, 1) := by decide +kernel
theorem dL_law_268 : decode cL_law 268 = .ok (.iaload, 1) := by decide +kernel
theorem dL_law_269 : decode cL_law 269 = .ok (.invokevirtual 26, 3) := by decide +kernel
theorem dL_law_272 : decode cL_law 272 = .ok (.if_icmp .eq 1062, 3) := by decide +kernel
theorem dL_law_275 : decode cL_law 275 = .ok (.iconst 0, 1) := by decide +kernel
theorem dL_law_276 : decode cL_law 276 = .ok (.ireturn, 1) := by decide +kernel
theorem dL_law_277 : decode cL_law 277 = .ok (.aload_n 1, 1) := by decide +kernel
theorem dL_law_278 : decode cL_law 278 = .ok (.aload_n 0, 1) := by decide +kernel
theorem dL_law_279 : decode cL_law 279 = .ok (.iload_n 3, 1) := by decide +kernel
theorem dL_law_280 : decode cL_law 280 = .ok (.iconst 1, 1) := by decide +kernel
theorem dL_law_281 : decode cL_law 281 = .ok (.iadd, 1) := by decide +kernel
theorem dL_law_282 : decode cL_law 282 = .ok (.iaload, 1) := by decide +kernel
theorem dL_law_283 : decode cL_law 283 = .ok (.aload_n 0, 1) := by decide +kernel
theorem dL_law_284 : decode cL_law 284 = .ok (.iload_n 3, 1) := by decide +kernel
theorem dL_law_285 : decode cL_law 285 = .ok (.iconst 2, 1) := by decide +kernel
theorem dL_law_286 : decode cL_law 286 = .ok (.iadd, 1) := by decide +kernel
theorem dL_law_287 : decode cL_law 287 = .ok (.iaload, 1) := by decide +kernel
theorem dL_law_288 : decode cL_law 288 = .ok (.invokevirtual 27, 3) := by decide +kernel
theorem dL_law_291 : decode cL_law 291 = .ok (.aload_n 2, 1) := by decide +kernel
theorem dL_law_292 : decode cL_law 292 = .ok (.aload_n 0, 1) := by decide +kernel
theorem dL_law_293 : decode cL_law 293 = .ok (.iload_n 3, 1) := by decide +kernel
theorem dL_law_294 : decode cL_law 294 = .ok (.iconst 1, 1) := by decide +kernel
theorem dL_law_295 : decode cL_law 295 = .ok (.iadd, 1) := by decide +kernel
theorem dL_law_296 : decode cL_law 296 = .ok (.iaload, 1) := by decide +kernel
theorem dL_law_297 : decode cL_law 297 = .ok (.aload_n 0, 1) := by decide +kernel
theorem dL_law_298 : decode cL_law 298 = .ok (.iload_n 3, 1) := by decide +kernel
theorem dL_law_299 : decode cL_law 299 = .ok (.iconst 2, 1) := by decide +kernel
theorem dL_law_300 : decode cL_law 300 = .ok (.iadd, 1) := by decide +kernel
theorem dL_law_301 : decode cL_law 301 = .ok (.iaload, 1) := by decide +kernel
theorem dL_law_302 : decode cL_law 302 = .ok (.invokevirtual 31, 3) := by decide +kernel
theorem dL_law_305 : decode cL_law 305 = .ok (.if_icmp .eq 1029, 3) := by decide +kernel
theorem dL_law_308 : decode cL_law 308 = .ok (.iconst 0, 1) := by decide +kernel
theorem dL_law_309 : decode cL_law 309 = .ok (.ireturn, 1) := by decide +kernel
theorem dL_law_310 : decode cL_law 310 = .ok (.aload_n 1, 1) := by decide +kernel
theorem dL_law_311 : decode cL_law 311 = .ok (.aload_n 0, 1) := by decide +kernel
theorem dL_law_312 : decode cL_law 312 = .ok (.iload_n 3, 1) := by decide +kernel
theorem dL_law_313 : decode cL_law 313 = .ok (.iconst 1, 1) := by decide +kernel
theorem dL_law_314 : decode cL_law 314 = .ok (.iadd, 1) := by decide +kernel
theorem dL_law_315 : decode cL_law 315 = .ok (.iaload, 1) := by decide +kernel
theorem dL_law_316 : decode cL_law 316 = .ok (.aload_n 0, 1) := by decide +kernel
theorem dL_law_317 : decode cL_law 317 = .ok (.iload_n 3, 1) := by decide +kernel
theorem dL_law_318 : decode cL_law 318 = .ok (.iconst 2, 1) := by decide +kernel
theorem dL_law_319 : decode cL_law 319 = .ok (.iadd, 1) := by decide +kernel
theorem dL_law_320 : decode cL_law 320 = .ok (.iaload, 1) := by decide +kernel
theorem dL_law_321 : decode cL_law 321 = .ok (.aload_n 0, 1) := by decide +kernel
theorem dL_law_322 : decode cL_law 322 = .ok (.iload_n 3, 1) := by decide +kernel
theorem dL_law_323 : decode cL_law 323 = .ok (.iconst 3, 1) := by decide +kernel
theorem dL_law_324 : decode cL_law 324 = .ok (.iadd, 1) := by decide +kernel
theorem dL_law_325 : decode cL_law 325 = .ok (.iaload, 1) := by decide +kernel
theorem dL_law_326 : decode cL_law 326 = .ok (.invokevirtual 32, 3) := by decide +kernel
theorem dL_law_329 : decode cL_law 329 = .ok (.aload_n 2, 1) := by decide +kernel
theorem dL_law_330 : decode cL_law 330 = .ok (.aload_n 0, 1) := by decide +kernel
theorem dL_law_331 : decode cL_law 331 = .ok (.iload_n 3, 1) := by decide +kernel
theorem dL_law_332 : decode cL_law 332 = .ok (.iconst 1, 1) := by decide +kernel
theorem dL_law_333 : decode cL_law 333 = .ok (.iadd, 1) := by decide +kernel
theorem dL_law_334 : decode cL_law 334 = .ok (.iaload, 1) := by decide +kernel
theorem dL_law_335 : decode cL_law 335 = .ok (.aload_n 0, 1) := by decide +kernel
theorem dL_law_336 : decode cL_law 336 = .ok (.iload_n 3, 1) := by decide +kernel
theorem dL_law_337 : decode cL_law 337 = .ok (.iconst 2, 1) := by decide +kernel
theorem dL_law_338 : decode cL_law 338 = .ok (.iadd, 1) := by decide +kernel
theorem dL_law_339 : decode cL_law 339 = .ok (.iaload, 1) := by decide +kernel
theorem dL_law_340 : decode cL_law 340 = .ok (.aload_n 0, 1) := by decide +kernel
theorem dL_law_341 : decode cL_law 341 = .ok (.iload_n 3, 1) := by decide +kernel
theorem dL_law_342 : decode cL_law 342 = .ok (.iconst 3, 1) := by decide +kernel
theorem dL_law_343 : decode cL_law 343 = .ok (.iadd, 1) := by decide +kernel
theorem dL_law_344 : decode cL_law 344 = .ok (.iaload, 1) := by decide +kernel
theorem dL_law_345 : decode cL_law 345 = .ok (.invokevirtual 36, 3) := by decide +kernel
theorem dL_law_348 : decode cL_law 348 = .ok (.lcmp, 1) := by decide +kernel
theorem dL_law_349 : decode cL_law 349 = .ok (.ifCond .eq 985, 3) := by decide +kernel
theorem dL_law_352 : decode cL_law 352 = .ok (.iconst 0, 1) := by decide +kernel
theorem dL_law_353 : decode cL_law 353 = .ok (.ireturn, 1) := by decide +kernel
theorem dL_law_354 : decode cL_law 354 = .ok (.aload_n 1, 1) := by decide +kernel
theorem dL_law_355 : decode cL_law 355 = .ok (.aload_n 0, 1) := by decide +kernel
theorem dL_law_356 : decode cL_law 356 = .ok (.iload_n 3, 1) := by decide +kernel
theorem dL_law_357 : decode cL_law 357 = .ok (.iconst 1, 1) := by decide +kernel
theorem dL_law_358 : decode cL_law 358 = .ok (.iadd, 1) := by decide +kernel
theorem dL_law_359 : decode cL_law 359 = .ok (.iaload, 1) := by decide +kernel
theorem dL_law_360 : decode cL_law 360 = .ok (.invokevirtual 37, 3) := by decide +kernel
theorem dL_law_363 : decode cL_law 363 = .ok (.aload_n 2, 1) := by decide +kernel
theorem dL_law_364 : decode cL_law 364 = .ok (.aload_n 0, 1) := by decide +kernel
theorem dL_law_365 : decode cL_law 365 = .ok (.iload_n 3, 1) := by decide +kernel
theorem dL_law_366 : decode cL_law 366 = .ok (.iconst 1, 1) := by decide +kernel
theorem dL_law_367 : decode cL_law 367 = .ok (.iadd, 1) := by decide +kernel
theorem dL_law_368 : decode cL_law 368 = .ok (.iaload, 1) := by decide +kernel
theorem dL_law_369 : decode cL_law 369 = .ok (.invokevirtual 40, 3) := by decide +kernel
theorem dL_law_372 : decode cL_law 372 = .ok (.if_icmp .eq 962, 3) := by decide +kernel
theorem dL_law_375 : decode cL_law 375 = .ok (.iconst 0, 1) := by decide +kernel
theorem dL_law_376 : decode cL_law 376 = .ok (.ireturn, 1) := by decide +kernel
theorem dL_law_377 : decode cL_law 377 = .ok (.aload_n 1, 1) := by decide +kernel
theorem dL_law_378 : decode cL_law 378 = .ok (.aload_n 0, 1) := by decide +kernel
theorem dL_law_379 : decode cL_law 379 = .ok (.iload_n 3, 1) := by decide +kernel
theorem dL_law_380 : decode cL_law 380 = .ok (.iconst 1, 1) := by decide +kernel
theorem dL_law_381 : decode cL_law 381 = .ok (.iadd, 1) := by decide +kernel
theorem dL_law_382 : decode cL_law 382 = .ok (.iaload, 1) := by decide +kernel
theorem dL_law_383 : decode cL_law 383 = .ok (.aload_n 0, 1) := by decide +kernel
theorem dL_law_384 : decode cL_law 384 = .ok (.iload_n 3, 1) := by decide +kernel
theorem dL_law_385 : decode cL_law 385 = .ok (.iconst 2, 1) := by decide +kernel
theorem dL_law_386 : decode cL_law 386 = .ok (.iadd, 1) := by decide +kernel
theorem dL_law_387 : decode cL_law 387 = .ok (.iaload, 1) := by decide +kernel
theorem dL_law_388 : decode cL_law 388 = .ok (.aload_n 0, 1) := by decide +kernel
theorem dL_law_389 : decode cL_law 389 = .ok (.iload_n 3, 1) := by decide +kernel
theorem dL_law_390 : decode cL_law 390 = .ok (.iconst 3, 1) := by decide +kernel
theorem dL_law_391 : decode cL_law 391 = .ok (.iadd, 1) := by decide +kernel
theorem dL_law_392 : decode cL_law 392 = .ok (.iaload, 1) := by decide +kernel
theorem dL_law_393 : decode cL_law 393 = .ok (.aload_n 0, 1) := by decide +kernel
theorem dL_law_394 : decode cL_law 394 = .ok (.iload_n 3, 1) := by decide +kernel
theorem dL_law_395 : decode cL_law 395 = .ok (.iconst 4, 1) := by decide +kernel
theorem dL_law_396 : decode cL_law 396 = .ok (.iadd, 1) := by decide +kernel
theorem dL_law_397 : decode cL_law 397 = .ok (.iaload, 1) := by decide +kernel
theorem dL_law_398 : decode cL_law 398 = .ok (.invokevirtual 41, 3) := by decide +kernel
theorem dL_law_401 : decode cL_law 401 = .ok (.aload_n 2, 1) := by decide +kernel
theorem dL_law_402 : decode cL_law 402 = .ok (.aload_n 0, 1) := by decide +kernel
theorem dL_law_403 : decode cL_law 403 = .ok (.iload_n 3, 1) := by decide +kernel
theorem dL_law_404 : decode cL_law 404 = .ok (.iconst 1, 1) := by decide +kernel
theorem dL_law_405 : decode cL_law 405 = .ok (.iadd, 1) := by decide +kernel
theorem dL_law_406 : decode cL_law 406 = .ok (.iaload, 1) := by decide +kernel
theorem dL_law_407 : decode cL_law 407 = .ok (.aload_n 0, 1) := by decide +kernel
theorem dL_law_408 : decode cL_law 408 = .ok (.iload_n 3, 1) := by decide +kernel
theorem dL_law_409 : decode cL_law 409 = .ok (.iconst 2, 1) := by decide +kernel
theorem dL_law_410 : decode cL_law 410 = .ok (.iadd, 1) := by decide +kernel
theorem dL_law_411 : decode cL_law 411 = .ok (.iaload, 1) := by decide +kernel
theorem dL_law_412 : decode cL_law 412 = .ok (.aload_n 0, 1) := by decide +kernel
theorem dL_law_413 : decode cL_law 413 = .ok (.iload_n 3, 1) := by decide +kernel
theorem dL_law_414 : decode cL_law 414 = .ok (.iconst 3, 1) := by decide +kernel
theorem dL_law_415 : decode cL_law 415 = .ok (.iadd, 1) := by decide +kernel
theorem dL_law_416 : decode cL_law 416 = .ok (.iaload, 1) := by decide +kernel
theorem dL_law_417 : decode cL_law 417 = .ok (.aload_n 0, 1) := by decide +kernel
theorem dL_law_418 : decode cL_law 418 = .ok (.iload_n 3, 1) := by decide +kernel
theorem dL_law_419 : decode cL_law 419 = .ok (.iconst 4, 1) := by decide +kernel
theorem dL_law_420 : decode cL_law 420 = .ok (.iadd, 1) := by decide +kernel
theorem dL_law_421 : decode cL_law 421 = .ok (.iaload, 1) := by decide +kernel
theorem dL_law_422 : decode cL_law 422 = .ok (.invokevirtual 45, 3) := by decide +kernel
theorem dL_law_425 : decode cL_law 425 = .ok (.if_icmp .eq 909, 3) := by decide +kernel
theorem dL_law_428 : decode cL_law 428 = .ok (.iconst 0, 1) := by decide +kernel
theorem dL_law_429 : decode cL_law 429 = .ok (.ireturn, 1) := by decide +kernel
theorem dL_law_430 : decode cL_law 430 = .ok (.aload_n 1, 1) := by decide +kernel
theorem dL_law_431 : decode cL_law 431 = .ok (.aload_n 0, 1) := by decide +kernel
theorem dL_law_432 : decode cL_law 432 = .ok (.iload_n 3, 1) := by decide +kernel
theorem dL_law_433 : decode cL_law 433 = .ok (.iconst 1, 1) := by decide +kernel
theorem dL_law_434 : decode cL_law 434 = .ok (.iadd, 1) := by decide +kernel
theorem dL_law_435 : decode cL_law 435 = .ok (.iaload, 1) := by decide +kernel
theorem dL_law_436 : decode cL_law 436 = .ok (.aload_n 0, 1) := by decide +kernel
theorem dL_law_437 : decode cL_law 437 = .ok (.iload_n 3, 1) := by decide +kernel
theorem dL_law_438 : decode cL_law 438 = .ok (.iconst 2, 1) := by decide +kernel
theorem dL_law_439 : decode cL_law 439 = .ok (.iadd, 1) := by decide +kernel
theorem dL_law_440 : decode cL_law 440 = .ok (.iaload, 1) := by decide +kernel
theorem dL_law_441 : decode cL_law 441 = .ok (.aload_n 0, 1) := by decide +kernel
theorem dL_law_442 : decode cL_law 442 = .ok (.iload_n 3, 1) := by decide +kernel
theorem dL_law_443 : decode cL_law 443 = .ok (.iconst 3, 1) := by decide +kernel
theorem dL_law_444 : decode cL_law 444 = .ok (.iadd, 1) := by decide +kernel
theorem dL_law_445 : decode cL_law 445 = .ok (.iaload, 1) := by decide +kernel
theorem dL_law_446 : decode cL_law 446 = .ok (.invokevirtual 46, 3) := by decide +kernel
theorem dL_law_449 : decode cL_law 449 = .ok (.aload_n 2, 1) := by decide +kernel
theorem dL_law_450 : decode cL_law 450 = .ok (.aload_n 0, 1) := by decide +kernel
theorem dL_law_451 : decode cL_law 451 = .ok (.iload_n 3, 1) := by decide +kernel
theorem dL_law_452 : decode cL_law 452 = .ok (.iconst 1, 1) := by decide +kernel
theorem dL_law_453 : decode cL_law 453 = .ok (.iadd, 1) := by decide +kernel
theorem dL_law_454 : decode cL_law 454 = .ok (.iaload, 1) := by decide +kernel
theorem dL_law_455 : decode cL_law 455 = .ok (.aload_n 0, 1) := by decide +kernel
theorem dL_law_456 : decode cL_law 456 = .ok (.iload_n 3, 1) := by decide +kernel
theorem dL_law_457 : decode cL_law 457 = .ok (.iconst 2, 1) := by decide +kernel
theorem dL_law_458 : decode cL_law 458 = .ok (.iadd, 1) := by decide +kernel
theorem dL_law_459 : decode cL_law 459 = .ok (.iaload, 1) := by decide +kernel
theorem dL_law_460 : decode cL_law 460 = .ok (.aload_n 0, 1) := by decide +kernel
theorem dL_law_461 : decode cL_law 461 = .ok (.iload_n 3, 1) := by decide +kernel
theorem dL_law_462 : decode cL_law 462 = .ok (.iconst 3, 1) := by decide +kernel
theorem dL_law_463 : decode cL_law 463 = .ok (.iadd, 1) := by decide +kernel
theorem dL_law_464 : decode cL_law 464 = .ok (.iaload, 1) := by decide +kernel
theorem dL_law_465 : decode cL_law 465 = .ok (.invokevirtual 49, 3) := by decide +kernel
theorem dL_law_468 : decode cL_law 468 = .ok (.if_icmp .eq 866, 3) := by decide +kernel
theorem dL_law_471 : decode cL_law 471 = .ok (.iconst 0, 1) := by decide +kernel
theorem dL_law_472 : decode cL_law 472 = .ok (.ireturn, 1) := by decide +kernel
theorem dL_law_473 : decode cL_law 473 = .ok (.aload_n 1, 1) := by decide +kernel
theorem dL_law_474 : decode cL_law 474 = .ok (.aload_n 0, 1) := by decide +kernel
theorem dL_law_475 : decode cL_law 475 = .ok (.iload_n 3, 1) := by decide +kernel
theorem dL_law_476 : decode cL_law 476 = .ok (.iconst 1, 1) := by decide +kernel
theorem dL_law_477 : decode cL_law 477 = .ok (.iadd, 1) := by decide +kernel
theorem dL_law_478 : decode cL_law 478 = .ok (.iaload, 1) := by decide +kernel
theorem dL_law_479 : decode cL_law 479 = .ok (.aload_n 0, 1) := by decide +kernel
theorem dL_law_480 : decode cL_law 480 = .ok (.iload_n 3, 1) := by decide +kernel
theorem dL_law_481 : decode cL_law 481 = .ok (.iconst 2, 1) := by decide +kernel
theorem dL_law_482 : decode cL_law 482 = .ok (.iadd, 1) := by decide +kernel
theorem dL_law_483 : decode cL_law 483 = .ok (.iaload, 1) := by decide +kernel
theorem dL_law_484 : decode cL_law 484 = .ok (.invokevirtual 50, 3) := by decide +kernel
theorem dL_law_487 : decode cL_law 487 = .ok (.aload_n 2, 1) := by decide +kernel
theorem dL_law_488 : decode cL_law 488 = .ok (.aload_n 0, 1) := by decide +kernel
theorem dL_law_489 : decode cL_law 489 = .ok (.iload_n 3, 1) := by decide +kernel
theorem dL_law_490 : decode cL_law 490 = .ok (.iconst 1, 1) := by decide +kernel
theorem dL_law_491 : decode cL_law 491 = .ok (.iadd, 1) := by decide +kernel
theorem dL_law_492 : decode cL_law 492 = .ok (.iaload, 1) := by decide +kernel
theorem dL_law_493 : decode cL_law 493 = .ok (.aload_n 0, 1) := by decide +kernel
theorem dL_law_494 : decode cL_law 494 = .ok (.iload_n 3, 1) := by decide +kernel
theorem dL_law_495 : decode cL_law 495 = .ok (.iconst 2, 1) := by decide +kernel
theorem dL_law_496 : decode cL_law 496 = .ok (.iadd, 1) := by decide +kernel
theorem dL_law_497 : decode cL_law 497 = .ok (.iaload, 1) := by decide +kernel
theorem dL_law_498 : decode cL_law 498 = .ok (.invokevirtual 53, 3) := by decide +kernel
theorem dL_law_501 : decode cL_law 501 = .ok (.if_icmp .eq 833, 3) := by decide +kernel
theorem dL_law_504 : decode cL_law 504 = .ok (.iconst 0, 1) := by decide +kernel
theorem dL_law_505 : decode cL_law 505 = .ok (.ireturn, 1) := by decide +kernel
theorem dL_law_506 : decode cL_law 506 = .ok (.aload_n 1, 1) := by decide +kernel
theorem dL_law_507 : decode cL_law 507 = .ok (.aload_n 0, 1) := by decide +kernel
theorem dL_law_508 : decode cL_law 508 = .ok (.iload_n 3, 1) := by decide +kernel
theorem dL_law_509 : decode cL_law 509 = .ok (.iconst 1, 1) := by decide +kernel
theorem dL_law_510 : decode cL_law 510 = .ok (.iadd, 1) := by decide +kernel
theorem dL_law_511 : decode cL_law 511 = .ok (.iaload, 1) := by decide +kernel
theorem dL_law_512 : decode cL_law 512 = .ok (.aload_n 0, 1) := by decide +kernel
theorem dL_law_513 : decode cL_law 513 = .ok (.iload_n 3, 1) := by decide +kernel
theorem dL_law_514 : decode cL_law 514 = .ok (.iconst 2, 1) := by decide +kernel
theorem dL_law_515 : decode cL_law 515 = .ok (.iadd, 1) := by decide +kernel
theorem dL_law_516 : decode cL_law 516 = .ok (.iaload, 1) := by decide +kernel
theorem dL_law_517 : decode cL_law 517 = .ok (.aload_n 0, 1) := by decide +kernel
theorem dL_law_518 : decode cL_law 518 = .ok (.iload_n 3, 1) := by decide +kernel
theorem dL_law_519 : decode cL_law 519 = .ok (.iconst 3, 1) := by decide +kernel
theorem dL_law_520 : decode cL_law 520 = .ok (.iadd, 1) := by decide +kernel
theorem dL_law_521 : decode cL_law 521 = .ok (.iaload, 1) := by decide +kernel
theorem dL_law_522 : decode cL_law 522 = .ok (.invokevirtual 54, 3) := by decide +kernel
theorem dL_law_525 : decode cL_law 525 = .ok (.aload_n 2, 1) := by decide +kernel
theorem dL_law_526 : decode cL_law 526 = .ok (.aload_n 0, 1) := by decide +kernel
theorem dL_law_527 : decode cL_law 527 = .ok (.iload_n 3, 1) := by decide +kernel
theorem dL_law_528 : decode cL_law 528 = .ok (.iconst 1, 1) := by decide +kernel
theorem dL_law_529 : decode cL_law 529 = .ok (.iadd, 1) := by decide +kernel
theorem dL_law_530 : decode cL_law 530 = .ok (.iaload, 1) := by decide +kernel
theorem dL_law_531 : decode cL_law 531 = .ok (.aload_n 0, 1) := by decide +kernel
theorem dL_law_532 : decode cL_law 532 = .ok (.iload_n 3, 1) := by decide +kernel
theorem dL_law_533 : decode cL_law 533 = .ok (.iconst 2, 1) := by decide +kernel
theorem dL_law_534 : decode cL_law 534 = .ok (.iadd, 1) := by decide +kernel
theorem dL_law_535 : decode cL_law 535 = .ok (.iaload, 1) := by decide +kernel
theorem dL_law_536 : decode cL_law 536 = .ok (.aload_n 0, 1) := by decide +kernel
theorem dL_law_537 : decode cL_law 537 = .ok (.iload_n 3, 1) := by decide +kernel
theorem dL_law_538 : decode cL_law 538 = .ok (.iconst 3, 1) := by decide +kernel
theorem dL_law_539 : decode cL_law 539 = .ok (.iadd, 1) := by decide +kernel
theorem dL_law_540 : decode cL_law 540 = .ok (.iaload, 1) := by decide +kernel
theorem dL_law_541 : decode cL_law 541 = .ok (.invokevirtual 57, 3) := by decide +kernel
theorem dL_law_544 : decode cL_law 544 = .ok (.lcmp, 1) := by decide +kernel
theorem dL_law_545 : decode cL_law 545 = .ok (.ifCond .eq 789, 3) := by decide +kernel
theorem dL_law_548 : decode cL_law 548 = .ok (.iconst 0, 1) := by decide +kernel
theorem dL_law_549 : decode cL_law 549 = .ok (.ireturn, 1) := by decide +kernel
theorem dL_law_550 : decode cL_law 550 = .ok (.aload_n 1, 1) := by decide +kernel
theorem dL_law_551 : decode cL_law 551 = .ok (.aload_n 0, 1) := by decide +kernel
theorem dL_law_552 : decode cL_law 552 = .ok (.iload_n 3, 1) := by decide +kernel
theorem dL_law_553 : decode cL_law 553 = .ok (.iconst 1, 1) := by decide +kernel
theorem dL_law_554 : decode cL_law 554 = .ok (.iadd, 1) := by decide +kernel
theorem dL_law_555 : decode cL_law 555 = .ok (.iaload, 1) := by decide +kernel
theorem dL_law_556 : decode cL_law 556 = .ok (.aload_n 0, 1) := by decide +kernel
theorem dL_law_557 : decode cL_law 557 = .ok (.iload_n 3, 1) := by decide +kernel
theorem dL_law_558 : decode cL_law 558 = .ok (.iconst 2, 1) := by decide +kernel
theorem dL_law_559 : decode cL_law 559 = .ok (.iadd, 1) := by decide +kernel
theorem dL_law_560 : decode cL_law 560 = .ok (.iaload, 1) := by decide +kernel
theorem dL_law_561 : decode cL_law 561 = .ok (.invokevirtual 58, 3) := by decide +kernel
theorem dL_law_564 : decode cL_law 564 = .ok (.aload_n 2, 1) := by decide +kernel
theorem dL_law_565 : decode cL_law 565 = .ok (.aload_n 0, 1) := by decide +kernel
theorem dL_law_566 : decode cL_law 566 = .ok (.iload_n 3, 1) := by decide +kernel
theorem dL_law_567 : decode cL_law 567 = .ok (.iconst 1, 1) := by decide +kernel
theorem dL_law_568 : decode cL_law 568 = .ok (.iadd, 1) := by decide +kernel
theorem dL_law_569 : decode cL_law 569 = .ok (.iaload, 1) := by decide +kernel
theorem dL_law_570 : decode cL_law 570 = .ok (.aload_n 0, 1) := by decide +kernel
theorem dL_law_571 : decode cL_law 571 = .ok (.iload_n 3, 1) := by decide +kernel
theorem dL_law_572 : decode cL_law 572 = .ok (.iconst 2, 1) := by decide +kernel
theorem dL_law_573 : decode cL_law 573 = .ok (.iadd, 1) := by decide +kernel
theorem dL_law_574 : decode cL_law 574 = .ok (.iaload, 1) := by decide +kernel
theorem dL_law_575 : decode cL_law 575 = .ok (.invokevirtual 62, 3) := by decide +kernel
theorem dL_law_578 : decode cL_law 578 = .ok (.lcmp, 1) := by decide +kernel
theorem dL_law_579 : decode cL_law 579 = .ok (.ifCond .eq 755, 3) := by decide +kernel
theorem dL_law_582 : decode cL_law 582 = .ok (.iconst 0, 1) := by decide +kernel
theorem dL_law_583 : decode cL_law 583 = .ok (.ireturn, 1) := by decide +kernel
theorem dL_law_584 : decode cL_law 584 = .ok (.aload_n 1, 1) := by decide +kernel
theorem dL_law_585 : decode cL_law 585 = .ok (.aload_n 0, 1) := by decide +kernel
theorem dL_law_586 : decode cL_law 586 = .ok (.iload_n 3, 1) := by decide +kernel
theorem dL_law_587 : decode cL_law 587 = .ok (.iconst 1, 1) := by decide +kernel
theorem dL_law_588 : decode cL_law 588 = .ok (.iadd, 1) := by decide +kernel
theorem dL_law_589 : decode cL_law 589 = .ok (.iaload, 1) := by decide +kernel
theorem dL_law_590 : decode cL_law 590 = .ok (.aload_n 0, 1) := by decide +kernel
theorem dL_law_591 : decode cL_law 591 = .ok (.iload_n 3, 1) := by decide +kernel
theorem dL_law_592 : decode cL_law 592 = .ok (.iconst 2, 1) := by decide +kernel
theorem dL_law_593 : decode cL_law 593 = .ok (.iadd, 1) := by decide +kernel
theorem dL_law_594 : decode cL_law 594 = .ok (.iaload, 1) := by decide +kernel
theorem dL_law_595 : decode cL_law 595 = .ok (.invokevirtual 63, 3) := by decide +kernel
theorem dL_law_598 : decode cL_law 598 = .ok (.aload_n 2, 1) := by decide +kernel
theorem dL_law_599 : decode cL_law 599 = .ok (.aload_n 0, 1) := by decide +kernel
theorem dL_law_600 : decode cL_law 600 = .ok (.iload_n 3, 1) := by decide +kernel
theorem dL_law_601 : decode cL_law 601 = .ok (.iconst 1, 1) := by decide +kernel
theorem dL_law_602 : decode cL_law 602 = .ok (.iadd, 1) := by decide +kernel
theorem dL_law_603 : decode cL_law 603 = .ok (.iaload, 1) := by decide +kernel
theorem dL_law_604 : decode cL_law 604 = .ok (.aload_n 0, 1) := by decide +kernel
theorem dL_law_605 : decode cL_law 605 = .ok (.iload_n 3, 1) := by decide +kernel
theorem dL_law_606 : decode cL_law 606 = .ok (.iconst 2, 1) := by decide +kernel
theorem dL_law_607 : decode cL_law 607 = .ok (.iadd, 1) := by decide +kernel
theorem dL_law_608 : decode cL_law 608 = .ok (.iaload, 1) := by decide +kernel
theorem dL_law_609 : decode cL_law 609 = .ok (.invokevirtual 66, 3) := by decide +kernel
theorem dL_law_612 : decode cL_law 612 = .ok (.if_icmp .eq 722, 3) := by decide +kernel
theorem dL_law_615 : decode cL_law 615 = .ok (.iconst 0, 1) := by decide +kernel
theorem dL_law_616 : decode cL_law 616 = .ok (.ireturn, 1) := by decide +kernel
theorem dL_law_617 : decode cL_law 617 = .ok (.aload_n 1, 1) := by decide +kernel
theorem dL_law_618 : decode cL_law 618 = .ok (.aload_n 0, 1) := by decide +kernel
theorem dL_law_619 : decode cL_law 619 = .ok (.iload_n 3, 1) := by decide +kernel
theorem dL_law_620 : decode cL_law 620 = .ok (.iconst 1, 1) := by decide +kernel
theorem dL_law_621 : decode cL_law 621 = .ok (.iadd, 1) := by decide +kernel
theorem dL_law_622 : decode cL_law 622 = .ok (.iaload, 1) := by decide +kernel
theorem dL_law_623 : decode cL_law 623 = .ok (.invokevirtual 67, 3) := by decide +kernel
theorem dL_law_626 : decode cL_law 626 = .ok (.aload_n 2, 1) := by decide +kernel
theorem dL_law_627 : decode cL_law 627 = .ok (.aload_n 0, 1) := by decide +kernel
theorem dL_law_628 : decode cL_law 628 = .ok (.iload_n 3, 1) := by decide +kernel
theorem dL_law_629 : decode cL_law 629 = .ok (.iconst 1, 1) := by decide +kernel
theorem dL_law_630 : decode cL_law 630 = .ok (.iadd, 1) := by decide +kernel
theorem dL_law_631 : decode cL_law 631 = .ok (.iaload, 1) := by decide +kernel
theorem dL_law_632 : decode cL_law 632 = .ok (.invokevirtual 70, 3) := by decide +kernel
theorem dL_law_635 : decode cL_law 635 = .ok (.if_icmp .eq 699, 3) := by decide +kernel
theorem dL_law_638 : decode cL_law 638 = .ok (.iconst 0, 1) := by decide +kernel
theorem dL_law_639 : decode cL_law 639 = .ok (.ireturn, 1) := by decide +kernel
theorem dL_law_640 : decode cL_law 640 = .ok (.aload_n 1, 1) := by decide +kernel
theorem dL_law_641 : decode cL_law 641 = .ok (.aload_n 0, 1) := by decide +kernel
theorem dL_law_642 : decode cL_law 642 = .ok (.iload_n 3, 1) := by decide +kernel
theorem dL_law_643 : decode cL_law 643 = .ok (.iconst 1, 1) := by decide +kernel
theorem dL_law_644 : decode cL_law 644 = .ok (.iadd, 1) := by decide +kernel
theorem dL_law_645 : decode cL_law 645 = .ok (.iaload, 1) := by decide +kernel
theorem dL_law_646 : decode cL_law 646 = .ok (.aload_n 0, 1) := by decide +kernel
theorem dL_law_647 : decode cL_law 647 = .ok (.iload_n 3, 1) := by decide +kernel
theorem dL_law_648 : decode cL_law 648 = .ok (.iconst 2, 1) := by decide +kernel
theorem dL_law_649 : decode cL_law 649 = .ok (.iadd, 1) := by decide +kernel
theorem dL_law_650 : decode cL_law 650 = .ok (.iaload, 1) := by decide +kernel
theorem dL_law_651 : decode cL_law 651 = .ok (.aload_n 0, 1) := by decide +kernel
theorem dL_law_652 : decode cL_law 652 = .ok (.iload_n 3, 1) := by decide +kernel
theorem dL_law_653 : decode cL_law 653 = .ok (.iconst 3, 1) := by decide +kernel
theorem dL_law_654 : decode cL_law 654 = .ok (.iadd, 1) := by decide +kernel
theorem dL_law_655 : decode cL_law 655 = .ok (.iaload, 1) := by decide +kernel
theorem dL_law_656 : decode cL_law 656 = .ok (.aload_n 0, 1) := by decide +kernel
theorem dL_law_657 : decode cL_law 657 = .ok (.iload_n 3, 1) := by decide +kernel
theorem dL_law_658 : decode cL_law 658 = .ok (.iconst 4, 1) := by decide +kernel
theorem dL_law_659 : decode cL_law 659 = .ok (.iadd, 1) := by decide +kernel
theorem dL_law_660 : decode cL_law 660 = .ok (.iaload, 1) := by decide +kernel
theorem dL_law_661 : decode cL_law 661 = .ok (.invokevirtual 71, 3) := by decide +kernel
theorem dL_law_664 : decode cL_law 664 = .ok (.aload_n 2, 1) := by decide +kernel
theorem dL_law_665 : decode cL_law 665 = .ok (.aload_n 0, 1) := by decide +kernel
theorem dL_law_666 : decode cL_law 666 = .ok (.iload_n 3, 1) := by decide +kernel
theorem dL_law_667 : decode cL_law 667 = .ok (.iconst 1, 1) := by decide +kernel
theorem dL_law_668 : decode cL_law 668 = .ok (.iadd, 1) := by decide +kernel
theorem dL_law_669 : decode cL_law 669 = .ok (.iaload, 1) := by decide +kernel
theorem dL_law_670 : decode cL_law 670 = .ok (.aload_n 0, 1) := by decide +kernel
theorem dL_law_671 : decode cL_law 671 = .ok (.iload_n 3, 1) := by decide +kernel
theorem dL_law_672 : decode cL_law 672 = .ok (.iconst 2, 1) := by decide +kernel
theorem dL_law_673 : decode cL_law 673 = .ok (.iadd, 1) := by decide +kernel
theorem dL_law_674 : decode cL_law 674 = .ok (.iaload, 1) := by decide +kernel
theorem dL_law_675 : decode cL_law 675 = .ok (.aload_n 0, 1) := by decide +kernel
theorem dL_law_676 : decode cL_law 676 = .ok (.iload_n 3, 1) := by decide +kernel
theorem dL_law_677 : decode cL_law 677 = .ok (.iconst 3, 1) := by decide +kernel
theorem dL_law_678 : decode cL_law 678 = .ok (.iadd, 1) := by decide +kernel
theorem dL_law_679 : decode cL_law 679 = .ok (.iaload, 1) := by decide +kernel
theorem dL_law_680 : decode cL_law 680 = .ok (.aload_n 0, 1) := by decide +kernel
theorem dL_law_681 : decode cL_law 681 = .ok (.iload_n 3, 1) := by decide +kernel
theorem dL_law_682 : decode cL_law 682 = .ok (.iconst 4, 1) := by decide +kernel
theorem dL_law_683 : decode cL_law 683 = .ok (.iadd, 1) := by decide +kernel
theorem dL_law_684 : decode cL_law 684 = .ok (.iaload, 1) := by decide +kernel
theorem dL_law_685 : decode cL_law 685 = .ok (.invokevirtual 74, 3) := by decide +kernel
theorem dL_law_688 : decode cL_law 688 = .ok (.if_icmp .eq 646, 3) := by decide +kernel
theorem dL_law_691 : decode cL_law 691 = .ok (.iconst 0, 1) := by decide +kernel
theorem dL_law_692 : decode cL_law 692 = .ok (.ireturn, 1) := by decide +kernel
theorem dL_law_693 : decode cL_law 693 = .ok (.aload_n 1, 1) := by decide +kernel
theorem dL_law_694 : decode cL_law 694 = .ok (.aload_n 0, 1) := by decide +kernel
theorem dL_law_695 : decode cL_law 695 = .ok (.iload_n 3, 1) := by decide +kernel
theorem dL_law_696 : decode cL_law 696 = .ok (.iconst 1, 1) := by decide +kernel
theorem dL_law_697 : decode cL_law 697 = .ok (.iadd, 1) := by decide +kernel
theorem dL_law_698 : decode cL_law 698 = .ok (.iaload, 1) := by decide +kernel
theorem dL_law_699 : decode cL_law 699 = .ok (.invokevirtual 75, 3) := by decide +kernel
theorem dL_law_702 : decode cL_law 702 = .ok (.aload_n 2, 1) := by decide +kernel
theorem dL_law_703 : decode cL_law 703 = .ok (.aload_n 0, 1) := by decide +kernel
theorem dL_law_704 : decode cL_law 704 = .ok (.iload_n 3, 1) := by decide +kernel
theorem dL_law_705 : decode cL_law 705 = .ok (.iconst 1, 1) := by decide +kernel
theorem dL_law_706 : decode cL_law 706 = .ok (.iadd, 1) := by decide +kernel
theorem dL_law_707 : decode cL_law 707 = .ok (.iaload, 1) := by decide +kernel
theorem dL_law_708 : decode cL_law 708 = .ok (.invokevirtual 78, 3) := by decide +kernel
theorem dL_law_711 : decode cL_law 711 = .ok (.if_icmp .eq 623, 3) := by decide +kernel
theorem dL_law_714 : decode cL_law 714 = .ok (.iconst 0, 1) := by decide +kernel
theorem dL_law_715 : decode cL_law 715 = .ok (.ireturn, 1) := by decide +kernel
theorem dL_law_716 : decode cL_law 716 = .ok (.aload_n 1, 1) := by decide +kernel
theorem dL_law_717 : decode cL_law 717 = .ok (.aload_n 0, 1) := by decide +kernel
theorem dL_law_718 : decode cL_law 718 = .ok (.iload_n 3, 1) := by decide +kernel
theorem dL_law_719 : decode cL_law 719 = .ok (.iconst 1, 1) := by decide +kernel
theorem dL_law_720 : decode cL_law 720 = .ok (.iadd, 1) := by decide +kernel
theorem dL_law_721 : decode cL_law 721 = .ok (.iaload, 1) := by decide +kernel
theorem dL_law_722 : decode cL_law 722 = .ok (.aload_n 0, 1) := by decide +kernel
theorem dL_law_723 : decode cL_law 723 = .ok (.iload_n 3, 1) := by decide +kernel
theorem dL_law_724 : decode cL_law 724 = .ok (.iconst 2, 1) := by decide +kernel
theorem dL_law_725 : decode cL_law 725 = .ok (.iadd, 1) := by decide +kernel
theorem dL_law_726 : decode cL_law 726 = .ok (.iaload, 1) := by decide +kernel
theorem dL_law_727 : decode cL_law 727 = .ok (.invokevirtual 79, 3) := by decide +kernel
theorem dL_law_730 : decode cL_law 730 = .ok (.aload_n 2, 1) := by decide +kernel
theorem dL_law_731 : decode cL_law 731 = .ok (.aload_n 0, 1) := by decide +kernel
theorem dL_law_732 : decode cL_law 732 = .ok (.iload_n 3, 1) := by decide +kernel
theorem dL_law_733 : decode cL_law 733 = .ok (.iconst 1, 1) := by decide +kernel
theorem dL_law_734 : decode cL_law 734 = .ok (.iadd, 1) := by decide +kernel
theorem dL_law_735 : decode cL_law 735 = .ok (.iaload, 1) := by decide +kernel
theorem dL_law_736 : decode cL_law 736 = .ok (.aload_n 0, 1) := by decide +kernel
theorem dL_law_737 : decode cL_law 737 = .ok (.iload_n 3, 1) := by decide +kernel
theorem dL_law_738 : decode cL_law 738 = .ok (.iconst 2, 1) := by decide +kernel
theorem dL_law_739 : decode cL_law 739 = .ok (.iadd, 1) := by decide +kernel
theorem dL_law_740 : decode cL_law 740 = .ok (.iaload, 1) := by decide +kernel
theorem dL_law_741 : decode cL_law 741 = .ok (.invokevirtual 82, 3) := by decide +kernel
theorem dL_law_744 : decode cL_law 744 = .ok (.if_icmp .eq 590, 3) := by decide +kernel
end
section
theorem dL_law_747 : decode cL_law 747 = .ok (.iconst 0, 1) := by decide +kernel
theorem dL_law_748 : decode cL_law 748 = .ok (.ireturn, 1) := by decide +kernel
theorem dL_law_749 : decode cL_law 749 = .ok (.aload_n 1, 1) := by decide +kernel
theorem dL_law_750 : decode cL_law 750 = .ok (.aload_n 0, 1) := by decide +kernel
theorem dL_law_751 : decode cL_law 751 = .ok (.iload_n 3, 1) := by decide +kernel
theorem dL_law_752 : decode cL_law 752 = .ok (.iconst 1, 1) := by decide +kernel
theorem dL_law_753 : decode cL_law 753 = .ok (.iadd, 1) := by decide +kernel
theorem dL_law_754 : decode cL_law 754 = .ok (.iaload, 1) := by decide +kernel
theorem dL_law_755 : decode cL_law 755 = .ok (.aload_n 0, 1) := by decide +kernel
theorem dL_law_756 : decode cL_law 756 = .ok (.iload_n 3, 1) := by decide +kernel
theorem dL_law_757 : decode cL_law 757 = .ok (.iconst 2, 1) := by decide +kernel
theorem dL_law_758 : decode cL_law 758 = .ok (.iadd, 1) := by decide +kernel
theorem dL_law_759 : decode cL_law 759 = .ok (.iaload, 1) := by decide +kernel
theorem dL_law_760 : decode cL_law 760 = .ok (.aload_n 0, 1) := by decide +kernel
theorem dL_law_761 : decode cL_law 761 = .ok (.iload_n 3, 1) := by decide +kernel
theorem dL_law_762 : decode cL_law 762 = .ok (.iconst 3, 1) := by decide +kernel
theorem dL_law_763 : decode cL_law 763 = .ok (.iadd, 1) := by decide +kernel
theorem dL_law_764 : decode cL_law 764 = .ok (.iaload, 1) := by decide +kernel
theorem dL_law_765 : decode cL_law 765 = .ok (.aload_n 0, 1) := by decide +kernel
theorem dL_law_766 : decode cL_law 766 = .ok (.iload_n 3, 1) := by decide +kernel
theorem dL_law_767 : decode cL_law 767 = .ok (.iconst 4, 1) := by decide +kernel
theorem dL_law_768 : decode cL_law 768 = .ok (.iadd, 1) := by decide +kernel
theorem dL_law_769 : decode cL_law 769 = .ok (.iaload, 1) := by decide +kernel
theorem dL_law_770 : decode cL_law 770 = .ok (.aload_n 0, 1) := by decide +kernel
theorem dL_law_771 : decode cL_law 771 = .ok (.iload_n 3, 1) := by decide +kernel
theorem dL_law_772 : decode cL_law 772 = .ok (.iconst 5, 1) := by decide +kernel
theorem dL_law_773 : decode cL_law 773 = .ok (.iadd, 1) := by decide +kernel
theorem dL_law_774 : decode cL_law 774 = .ok (.iaload, 1) := by decide +kernel
theorem dL_law_775 : decode cL_law 775 = .ok (.aload_n 0, 1) := by decide +kernel
theorem dL_law_776 : decode cL_law 776 = .ok (.iload_n 3, 1) := by decide +kernel
theorem dL_law_777 : decode cL_law 777 = .ok (.bipush 6, 2) := by decide +kernel
theorem dL_law_779 : decode cL_law 779 = .ok (.iadd, 1) := by decide +kernel
theorem dL_law_780 : decode cL_law 780 = .ok (.iaload, 1) := by decide +kernel
theorem dL_law_781 : decode cL_law 781 = .ok (.invokevirtual 83, 3) := by decide +kernel
theorem dL_law_784 : decode cL_law 784 = .ok (.aload_n 2, 1) := by decide +kernel
theorem dL_law_785 : decode cL_law 785 = .ok (.aload_n 0, 1) := by decide +kernel
theorem dL_law_786 : decode cL_law 786 = .ok (.iload_n 3, 1) := by decide +kernel
theorem dL_law_787 : decode cL_law 787 = .ok (.iconst 1, 1) := by decide +kernel
theorem dL_law_788 : decode cL_law 788 = .ok (.iadd, 1) := by decide +kernel
theorem dL_law_789 : decode cL_law 789 = .ok (.iaload, 1) := by decide +kernel
theorem dL_law_790 : decode cL_law 790 = .ok (.aload_n 0, 1) := by decide +kernel
theorem dL_law_791 : decode cL_law 791 = .ok (.iload_n 3, 1) := by decide +kernel
theorem dL_law_792 : decode cL_law 792 = .ok (.iconst 2, 1) := by decide +kernel
theorem dL_law_793 : decode cL_law 793 = .ok (.iadd, 1) := by decide +kernel
theorem dL_law_794 : decode cL_law 794 = .ok (.iaload, 1) := by decide +kernel
theorem dL_law_795 : decode cL_law 795 = .ok (.aload_n 0, 1) := by decide +kernel
theorem dL_law_796 : decode cL_law 796 = .ok (.iload_n 3, 1) := by decide +kernel
theorem dL_law_797 : decode cL_law 797 = .ok (.iconst 3, 1) := by decide +kernel
theorem dL_law_798 : decode cL_law 798 = .ok (.iadd, 1) := by decide +kernel
theorem dL_law_799 : decode cL_law 799 = .ok (.iaload, 1) := by decide +kernel
theorem dL_law_800 : decode cL_law 800 = .ok (.aload_n 0, 1) := by decide +kernel
theorem dL_law_801 : decode cL_law 801 = .ok (.iload_n 3, 1) := by decide +kernel
theorem dL_law_802 : decode cL_law 802 = .ok (.iconst 4, 1) := by decide +kernel
theorem dL_law_803 : decode cL_law 803 = .ok (.iadd, 1) := by decide +kernel
theorem dL_law_804 : decode cL_law 804 = .ok (.iaload, 1) := by decide +kernel
theorem dL_law_805 : decode cL_law 805 = .ok (.aload_n 0, 1) := by decide +kernel
theorem dL_law_806 : decode cL_law 806 = .ok (.iload_n 3, 1) := by decide +kernel
theorem dL_law_807 : decode cL_law 807 = .ok (.iconst 5, 1) := by decide +kernel
theorem dL_law_808 : decode cL_law 808 = .ok (.iadd, 1) := by decide +kernel
theorem dL_law_809 : decode cL_law 809 = .ok (.iaload, 1) := by decide +kernel
theorem dL_law_810 : decode cL_law 810 = .ok (.aload_n 0, 1) := by decide +kernel
theorem dL_law_811 : decode cL_law 811 = .ok (.iload_n 3, 1) := by decide +kernel
theorem dL_law_812 : decode cL_law 812 = .ok (.bipush 6, 2) := by decide +kernel
theorem dL_law_814 : decode cL_law 814 = .ok (.iadd, 1) := by decide +kernel
theorem dL_law_815 : decode cL_law 815 = .ok (.iaload, 1) := by decide +kernel
theorem dL_law_816 : decode cL_law 816 = .ok (.invokevirtual 87, 3) := by decide +kernel
theorem dL_law_819 : decode cL_law 819 = .ok (.if_icmp .eq 515, 3) := by decide +kernel
theorem dL_law_822 : decode cL_law 822 = .ok (.iconst 0, 1) := by decide +kernel
theorem dL_law_823 : decode cL_law 823 = .ok (.ireturn, 1) := by decide +kernel
theorem dL_law_824 : decode cL_law 824 = .ok (.aload_n 1, 1) := by decide +kernel
theorem dL_law_825 : decode cL_law 825 = .ok (.aload_n 0, 1) := by decide +kernel
theorem dL_law_826 : decode cL_law 826 = .ok (.iload_n 3, 1) := by decide +kernel
theorem dL_law_827 : decode cL_law 827 = .ok (.iconst 1, 1) := by decide +kernel
theorem dL_law_828 : decode cL_law 828 = .ok (.iadd, 1) := by decide +kernel
theorem dL_law_829 : decode cL_law 829 = .ok (.iaload, 1) := by decide +kernel
theorem dL_law_830 : decode cL_law 830 = .ok (.aload_n 0, 1) := by decide +kernel
theorem dL_law_831 : decode cL_law 831 = .ok (.iload_n 3, 1) := by decide +kernel
theorem dL_law_832 : decode cL_law 832 = .ok (.iconst 2, 1) := by decide +kernel
theorem dL_law_833 : decode cL_law 833 = .ok (.iadd, 1) := by decide +kernel
theorem dL_law_834 : decode cL_law 834 = .ok (.iaload, 1) := by decide +kernel
theorem dL_law_835 : decode cL_law 835 = .ok (.aload_n 0, 1) := by decide +kernel
theorem dL_law_836 : decode cL_law 836 = .ok (.iload_n 3, 1) := by decide +kernel
theorem dL_law_837 : decode cL_law 837 = .ok (.iconst 3, 1) := by decide +kernel
theorem dL_law_838 : decode cL_law 838 = .ok (.iadd, 1) := by decide +kernel
theorem dL_law_839 : decode cL_law 839 = .ok (.iaload, 1) := by decide +kernel
theorem dL_law_840 : decode cL_law 840 = .ok (.invokevirtual 88, 3) := by decide +kernel
theorem dL_law_843 : decode cL_law 843 = .ok (.aload_n 2, 1) := by decide +kernel
theorem dL_law_844 : decode cL_law 844 = .ok (.aload_n 0, 1) := by decide +kernel
theorem dL_law_845 : decode cL_law 845 = .ok (.iload_n 3, 1) := by decide +kernel
theorem dL_law_846 : decode cL_law 846 = .ok (.iconst 1, 1) := by decide +kernel
theorem dL_law_847 : decode cL_law 847 = .ok (.iadd, 1) := by decide +kernel
theorem dL_law_848 : decode cL_law 848 = .ok (.iaload, 1) := by decide +kernel
theorem dL_law_849 : decode cL_law 849 = .ok (.aload_n 0, 1) := by decide +kernel
theorem dL_law_850 : decode cL_law 850 = .ok (.iload_n 3, 1) := by decide +kernel
theorem dL_law_851 : decode cL_law 851 = .ok (.iconst 2, 1) := by decide +kernel
theorem dL_law_852 : decode cL_law 852 = .ok (.iadd, 1) := by decide +kernel
theorem dL_law_853 : decode cL_law 853 = .ok (.iaload, 1) := by decide +kernel
theorem dL_law_854 : decode cL_law 854 = .ok (.aload_n 0, 1) := by decide +kernel
theorem dL_law_855 : decode cL_law 855 = .ok (.iload_n 3, 1) := by decide +kernel
theorem dL_law_856 : decode cL_law 856 = .ok (.iconst 3, 1) := by decide +kernel
theorem dL_law_857 : decode cL_law 857 = .ok (.iadd, 1) := by decide +kernel
theorem dL_law_858 : decode cL_law 858 = .ok (.iaload, 1) := by decide +kernel
theorem dL_law_859 : decode cL_law 859 = .ok (.invokevirtual 91, 3) := by decide +kernel
theorem dL_law_862 : decode cL_law 862 = .ok (.if_icmp .eq 472, 3) := by decide +kernel
theorem dL_law_865 : decode cL_law 865 = .ok (.iconst 0, 1) := by decide +kernel
theorem dL_law_866 : decode cL_law 866 = .ok (.ireturn, 1) := by decide +kernel
theorem dL_law_867 : decode cL_law 867 = .ok (.aload_n 1, 1) := by decide +kernel
theorem dL_law_868 : decode cL_law 868 = .ok (.aload_n 0, 1) := by decide +kernel
theorem dL_law_869 : decode cL_law 869 = .ok (.iload_n 3, 1) := by decide +kernel
theorem dL_law_870 : decode cL_law 870 = .ok (.iconst 1, 1) := by decide +kernel
theorem dL_law_871 : decode cL_law 871 = .ok (.iadd, 1) := by decide +kernel
theorem dL_law_872 : decode cL_law 872 = .ok (.iaload, 1) := by decide +kernel
theorem dL_law_873 : decode cL_law 873 = .ok (.aload_n 0, 1) := by decide +kernel
theorem dL_law_874 : decode cL_law 874 = .ok (.iload_n 3, 1) := by decide +kernel
theorem dL_law_875 : decode cL_law 875 = .ok (.iconst 2, 1) := by decide +kernel
theorem dL_law_876 : decode cL_law 876 = .ok (.iadd, 1) := by decide +kernel
theorem dL_law_877 : decode cL_law 877 = .ok (.iaload, 1) := by decide +kernel
theorem dL_law_878 : decode cL_law 878 = .ok (.aload_n 0, 1) := by decide +kernel
theorem dL_law_879 : decode cL_law 879 = .ok (.iload_n 3, 1) := by decide +kernel
theorem dL_law_880 : decode cL_law 880 = .ok (.iconst 3, 1) := by decide +kernel
theorem dL_law_881 : decode cL_law 881 = .ok (.iadd, 1) := by decide +kernel
theorem dL_law_882 : decode cL_law 882 = .ok (.iaload, 1) := by decide +kernel
theorem dL_law_883 : decode cL_law 883 = .ok (.invokevirtual 92, 3) := by decide +kernel
theorem dL_law_886 : decode cL_law 886 = .ok (.aload_n 2, 1) := by decide +kernel
theorem dL_law_887 : decode cL_law 887 = .ok (.aload_n 0, 1) := by decide +kernel
theorem dL_law_888 : decode cL_law 888 = .ok (.iload_n 3, 1) := by decide +kernel
theorem dL_law_889 : decode cL_law 889 = .ok (.iconst 1, 1) := by decide +kernel
theorem dL_law_890 : decode cL_law 890 = .ok (.iadd, 1) := by decide +kernel
theorem dL_law_891 : decode cL_law 891 = .ok (.iaload, 1) := by decide +kernel
theorem dL_law_892 : decode cL_law 892 = .ok (.aload_n 0, 1) := by decide +kernel
theorem dL_law_893 : decode cL_law 893 = .ok (.iload_n 3, 1) := by decide +kernel
theorem dL_law_894 : decode cL_law 894 = .ok (.iconst 2, 1) := by decide +kernel
theorem dL_law_895 : decode cL_law 895 = .ok (.iadd, 1) := by decide +kernel
theorem dL_law_896 : decode cL_law 896 = .ok (.iaload, 1) := by decide +kernel
theorem dL_law_897 : decode cL_law 897 = .ok (.aload_n 0, 1) := by decide +kernel
theorem dL_law_898 : decode cL_law 898 = .ok (.iload_n 3, 1) := by decide +kernel
theorem dL_law_899 : decode cL_law 899 = .ok (.iconst 3, 1) := by decide +kernel
theorem dL_law_900 : decode cL_law 900 = .ok (.iadd, 1) := by decide +kernel
theorem dL_law_901 : decode cL_law 901 = .ok (.iaload, 1) := by decide +kernel
theorem dL_law_902 : decode cL_law 902 = .ok (.invokevirtual 95, 3) := by decide +kernel
theorem dL_law_905 : decode cL_law 905 = .ok (.if_icmp .eq 429, 3) := by decide +kernel
theorem dL_law_908 : decode cL_law 908 = .ok (.iconst 0, 1) := by decide +kernel
theorem dL_law_909 : decode cL_law 909 = .ok (.ireturn, 1) := by decide +kernel
theorem dL_law_910 : decode cL_law 910 = .ok (.aload_n 1, 1) := by decide +kernel
theorem dL_law_911 : decode cL_law 911 = .ok (.aload_n 0, 1) := by decide +kernel
theorem dL_law_912 : decode cL_law 912 = .ok (.iload_n 3, 1) := by decide +kernel
theorem dL_law_913 : decode cL_law 913 = .ok (.iconst 1, 1) := by decide +kernel
theorem dL_law_914 : decode cL_law 914 = .ok (.iadd, 1) := by decide +kernel
theorem dL_law_915 : decode cL_law 915 = .ok (.iaload, 1) := by decide +kernel
theorem dL_law_916 : decode cL_law 916 = .ok (.aload_n 0, 1) := by decide +kernel
theorem dL_law_917 : decode cL_law 917 = .ok (.iload_n 3, 1) := by decide +kernel
theorem dL_law_918 : decode cL_law 918 = .ok (.iconst 2, 1) := by decide +kernel
theorem dL_law_919 : decode cL_law 919 = .ok (.iadd, 1) := by decide +kernel
theorem dL_law_920 : decode cL_law 920 = .ok (.iaload, 1) := by decide +kernel
theorem dL_law_921 : decode cL_law 921 = .ok (.invokevirtual 96, 3) := by decide +kernel
theorem dL_law_924 : decode cL_law 924 = .ok (.aload_n 2, 1) := by decide +kernel
theorem dL_law_925 : decode cL_law 925 = .ok (.aload_n 0, 1) := by decide +kernel
theorem dL_law_926 : decode cL_law 926 = .ok (.iload_n 3, 1) := by decide +kernel
theorem dL_law_927 : decode cL_law 927 = .ok (.iconst 1, 1) := by decide +kernel
theorem dL_law_928 : decode cL_law 928 = .ok (.iadd, 1) := by decide +kernel
theorem dL_law_929 : decode cL_law 929 = .ok (.iaload, 1) := by decide +kernel
theorem dL_law_930 : decode cL_law 930 = .ok (.aload_n 0, 1) := by decide +kernel
theorem dL_law_931 : decode cL_law 931 = .ok (.iload_n 3, 1) := by decide +kernel
theorem dL_law_932 : decode cL_law 932 = .ok (.iconst 2, 1) := by decide +kernel
theorem dL_law_933 : decode cL_law 933 = .ok (.iadd, 1) := by decide +kernel
theorem dL_law_934 : decode cL_law 934 = .ok (.iaload, 1) := by decide +kernel
theorem dL_law_935 : decode cL_law 935 = .ok (.invokevirtual 99, 3) := by decide +kernel
theorem dL_law_938 : decode cL_law 938 = .ok (.if_icmp .eq 396, 3) := by decide +kernel
theorem dL_law_941 : decode cL_law 941 = .ok (.iconst 0, 1) := by decide +kernel
theorem dL_law_942 : decode cL_law 942 = .ok (.ireturn, 1) := by decide +kernel
theorem dL_law_943 : decode cL_law 943 = .ok (.aload_n 1, 1) := by decide +kernel
theorem dL_law_944 : decode cL_law 944 = .ok (.aload_n 0, 1) := by decide +kernel
theorem dL_law_945 : decode cL_law 945 = .ok (.iload_n 3, 1) := by decide +kernel
theorem dL_law_946 : decode cL_law 946 = .ok (.iconst 1, 1) := by decide +kernel
theorem dL_law_947 : decode cL_law 947 = .ok (.iadd, 1) := by decide +kernel
theorem dL_law_948 : decode cL_law 948 = .ok (.iaload, 1) := by decide +kernel
theorem dL_law_949 : decode cL_law 949 = .ok (.aload_n 0, 1) := by decide +kernel
theorem dL_law_950 : decode cL_law 950 = .ok (.iload_n 3, 1) := by decide +kernel
theorem dL_law_951 : decode cL_law 951 = .ok (.iconst 2, 1) := by decide +kernel
theorem dL_law_952 : decode cL_law 952 = .ok (.iadd, 1) := by decide +kernel
theorem dL_law_953 : decode cL_law 953 = .ok (.iaload, 1) := by decide +kernel
theorem dL_law_954 : decode cL_law 954 = .ok (.invokevirtual 100, 3) := by decide +kernel
theorem dL_law_957 : decode cL_law 957 = .ok (.aload_n 2, 1) := by decide +kernel
theorem dL_law_958 : decode cL_law 958 = .ok (.aload_n 0, 1) := by decide +kernel
theorem dL_law_959 : decode cL_law 959 = .ok (.iload_n 3, 1) := by decide +kernel
theorem dL_law_960 : decode cL_law 960 = .ok (.iconst 1, 1) := by decide +kernel
theorem dL_law_961 : decode cL_law 961 = .ok (.iadd, 1) := by decide +kernel
theorem dL_law_962 : decode cL_law 962 = .ok (.iaload, 1) := by decide +kernel
theorem dL_law_963 : decode cL_law 963 = .ok (.aload_n 0, 1) := by decide +kernel
theorem dL_law_964 : decode cL_law 964 = .ok (.iload_n 3, 1) := by decide +kernel
theorem dL_law_965 : decode cL_law 965 = .ok (.iconst 2, 1) := by decide +kernel
theorem dL_law_966 : decode cL_law 966 = .ok (.iadd, 1) := by decide +kernel
theorem dL_law_967 : decode cL_law 967 = .ok (.iaload, 1) := by decide +kernel
theorem dL_law_968 : decode cL_law 968 = .ok (.invokevirtual 103, 3) := by decide +kernel
theorem dL_law_971 : decode cL_law 971 = .ok (.if_icmp .eq 363, 3) := by decide +kernel
theorem dL_law_974 : decode cL_law 974 = .ok (.iconst 0, 1) := by decide +kernel
theorem dL_law_975 : decode cL_law 975 = .ok (.ireturn, 1) := by decide +kernel
theorem dL_law_976 : decode cL_law 976 = .ok (.aload_n 1, 1) := by decide +kernel
theorem dL_law_977 : decode cL_law 977 = .ok (.aload_n 0, 1) := by decide +kernel
theorem dL_law_978 : decode cL_law 978 = .ok (.iload_n 3, 1) := by decide +kernel
theorem dL_law_979 : decode cL_law 979 = .ok (.iconst 1, 1) := by decide +kernel
theorem dL_law_980 : decode cL_law 980 = .ok (.iadd, 1) := by decide +kernel
theorem dL_law_981 : decode cL_law 981 = .ok (.iaload, 1) := by decide +kernel
theorem dL_law_982 : decode cL_law 982 = .ok (.aload_n 0, 1) := by decide +kernel
theorem dL_law_983 : decode cL_law 983 = .ok (.iload_n 3, 1) := by decide +kernel
theorem dL_law_984 : decode cL_law 984 = .ok (.iconst 2, 1) := by decide +kernel
theorem dL_law_985 : decode cL_law 985 = .ok (.iadd, 1) := by decide +kernel
theorem dL_law_986 : decode cL_law 986 = .ok (.iaload, 1) := by decide +kernel
theorem dL_law_987 : decode cL_law 987 = .ok (.aload_n 0, 1) := by decide +kernel
theorem dL_law_988 : decode cL_law 988 = .ok (.iload_n 3, 1) := by decide +kernel
theorem dL_law_989 : decode cL_law 989 = .ok (.iconst 3, 1) := by decide +kernel
theorem dL_law_990 : decode cL_law 990 = .ok (.iadd, 1) := by decide +kernel
theorem dL_law_991 : decode cL_law 991 = .ok (.iaload, 1) := by decide +kernel
theorem dL_law_992 : decode cL_law 992 = .ok (.invokevirtual 104, 3) := by decide +kernel
theorem dL_law_995 : decode cL_law 995 = .ok (.aload_n 2, 1) := by decide +kernel
theorem dL_law_996 : decode cL_law 996 = .ok (.aload_n 0, 1) := by decide +kernel
theorem dL_law_997 : decode cL_law 997 = .ok (.iload_n 3, 1) := by decide +kernel
theorem dL_law_998 : decode cL_law 998 = .ok (.iconst 1, 1) := by decide +kernel
theorem dL_law_999 : decode cL_law 999 = .ok (.iadd, 1) := by decide +kernel
theorem dL_law_1000 : decode cL_law 1000 = .ok (.iaload, 1) := by decide +kernel
theorem dL_law_1001 : decode cL_law 1001 = .ok (.aload_n 0, 1) := by decide +kernel
theorem dL_law_1002 : decode cL_law 1002 = .ok (.iload_n 3, 1) := by decide +kernel
theorem dL_law_1003 : decode cL_law 1003 = .ok (.iconst 2, 1) := by decide +kernel
theorem dL_law_1004 : decode cL_law 1004 = .ok (.iadd, 1) := by decide +kernel
theorem dL_law_1005 : decode cL_law 1005 = .ok (.iaload, 1) := by decide +kernel
theorem dL_law_1006 : decode cL_law 1006 = .ok (.aload_n 0, 1) := by decide +kernel
theorem dL_law_1007 : decode cL_law 1007 = .ok (.iload_n 3, 1) := by decide +kernel
theorem dL_law_1008 : decode cL_law 1008 = .ok (.iconst 3, 1) := by decide +kernel
theorem dL_law_1009 : decode cL_law 1009 = .ok (.iadd, 1) := by decide +kernel
theorem dL_law_1010 : decode cL_law 1010 = .ok (.iaload, 1) := by decide +kernel
theorem dL_law_1011 : decode cL_law 1011 = .ok (.invokevirtual 107, 3) := by decide +kernel
theorem dL_law_1014 : decode cL_law 1014 = .ok (.if_icmp .eq 320, 3) := by decide +kernel
theorem dL_law_1017 : decode cL_law 1017 = .ok (.iconst 0, 1) := by decide +kernel
theorem dL_law_1018 : decode cL_law 1018 = .ok (.ireturn, 1) := by decide +kernel
theorem dL_law_1019 : decode cL_law 1019 = .ok (.aload_n 1, 1) := by decide +kernel
theorem dL_law_1020 : decode cL_law 1020 = .ok (.aload_n 0, 1) := by decide +kernel
theorem dL_law_1021 : decode cL_law 1021 = .ok (.iload_n 3, 1) := by decide +kernel
theorem dL_law_1022 : decode cL_law 1022 = .ok (.iconst 1, 1) := by decide +kernel
theorem dL_law_1023 : decode cL_law 1023 = .ok (.iadd, 1) := by decide +kernel
theorem dL_law_1024 : decode cL_law 1024 = .ok (.iaload, 1) := by decide +kernel
theorem dL_law_1025 : decode cL_law 1025 = .ok (.aload_n 0, 1) := by decide +kernel
theorem dL_law_1026 : decode cL_law 1026 = .ok (.iload_n 3, 1) := by decide +kernel
theorem dL_law_1027 : decode cL_law 1027 = .ok (.iconst 2, 1) := by decide +kernel
theorem dL_law_1028 : decode cL_law 1028 = .ok (.iadd, 1) := by decide +kernel
theorem dL_law_1029 : decode cL_law 1029 = .ok (.iaload, 1) := by decide +kernel
theorem dL_law_1030 : decode cL_law 1030 = .ok (.aload_n 0, 1) := by decide +kernel
theorem dL_law_1031 : decode cL_law 1031 = .ok (.iload_n 3, 1) := by decide +kernel
theorem dL_law_1032 : decode cL_law 1032 = .ok (.iconst 3, 1) := by decide +kernel
theorem dL_law_1033 : decode cL_law 1033 = .ok (.iadd, 1) := by decide +kernel
theorem dL_law_1034 : decode cL_law 1034 = .ok (.iaload, 1) := by decide +kernel
theorem dL_law_1035 : decode cL_law 1035 = .ok (.aload_n 0, 1) := by decide +kernel
theorem dL_law_1036 : decode cL_law 1036 = .ok (.iload_n 3, 1) := by decide +kernel
theorem dL_law_1037 : decode cL_law 1037 = .ok (.iconst 4, 1) := by decide +kernel
theorem dL_law_1038 : decode cL_law 1038 = .ok (.iadd, 1) := by decide +kernel
theorem dL_law_1039 : decode cL_law 1039 = .ok (.iaload, 1) := by decide +kernel
theorem dL_law_1040 : decode cL_law 1040 = .ok (.invokevirtual 108, 3) := by decide +kernel
theorem dL_law_1043 : decode cL_law 1043 = .ok (.aload_n 2, 1) := by decide +kernel
theorem dL_law_1044 : decode cL_law 1044 = .ok (.aload_n 0, 1) := by decide +kernel
theorem dL_law_1045 : decode cL_law 1045 = .ok (.iload_n 3, 1) := by decide +kernel
theorem dL_law_1046 : decode cL_law 1046 = .ok (.iconst 1, 1) := by decide +kernel
theorem dL_law_1047 : decode cL_law 1047 = .ok (.iadd, 1) := by decide +kernel
theorem dL_law_1048 : decode cL_law 1048 = .ok (.iaload, 1) := by decide +kernel
theorem dL_law_1049 : decode cL_law 1049 = .ok (.aload_n 0, 1) := by decide +kernel
theorem dL_law_1050 : decode cL_law 1050 = .ok (.iload_n 3, 1) := by decide +kernel
theorem dL_law_1051 : decode cL_law 1051 = .ok (.iconst 2, 1) := by decide +kernel
theorem dL_law_1052 : decode cL_law 1052 = .ok (.iadd, 1) := by decide +kernel
theorem dL_law_1053 : decode cL_law 1053 = .ok (.iaload, 1) := by decide +kernel
theorem dL_law_1054 : decode cL_law 1054 = .ok (.aload_n 0, 1) := by decide +kernel
theorem dL_law_1055 : decode cL_law 1055 = .ok (.iload_n 3, 1) := by decide +kernel
theorem dL_law_1056 : decode cL_law 1056 = .ok (.iconst 3, 1) := by decide +kernel
theorem dL_law_1057 : decode cL_law 1057 = .ok (.iadd, 1) := by decide +kernel
theorem dL_law_1058 : decode cL_law 1058 = .ok (.iaload, 1) := by decide +kernel
theorem dL_law_1059 : decode cL_law 1059 = .ok (.aload_n 0, 1) := by decide +kernel
theorem dL_law_1060 : decode cL_law 1060 = .ok (.iload_n 3, 1) := by decide +kernel
theorem dL_law_1061 : decode cL_law 1061 = .ok (.iconst 4, 1) := by decide +kernel
theorem dL_law_1062 : decode cL_law 1062 = .ok (.iadd, 1) := by decide +kernel
theorem dL_law_1063 : decode cL_law 1063 = .ok (.iaload, 1) := by decide +kernel
theorem dL_law_1064 : decode cL_law 1064 = .ok (.invokevirtual 111, 3) := by decide +kernel
theorem dL_law_1067 : decode cL_law 1067 = .ok (.if_icmp .eq 267, 3) := by decide +kernel
theorem dL_law_1070 : decode cL_law 1070 = .ok (.iconst 0, 1) := by decide +kernel
theorem dL_law_1071 : decode cL_law 1071 = .ok (.ireturn, 1) := by decide +kernel
theorem dL_law_1072 : decode cL_law 1072 = .ok (.aload_n 1, 1) := by decide +kernel
theorem dL_law_1073 : decode cL_law 1073 = .ok (.aload_n 0, 1) := by decide +kernel
theorem dL_law_1074 : decode cL_law 1074 = .ok (.iload_n 3, 1) := by decide +kernel
theorem dL_law_1075 : decode cL_law 1075 = .ok (.iconst 1, 1) := by decide +kernel
theorem dL_law_1076 : decode cL_law 1076 = .ok (.iadd, 1) := by decide +kernel
theorem dL_law_1077 : decode cL_law 1077 = .ok (.iaload, 1) := by decide +kernel
theorem dL_law_1078 : decode cL_law 1078 = .ok (.aload_n 0, 1) := by decide +kernel
theorem dL_law_1079 : decode cL_law 1079 = .ok (.iload_n 3, 1) := by decide +kernel
theorem dL_law_1080 : decode cL_law 1080 = .ok (.iconst 2, 1) := by decide +kernel
theorem dL_law_1081 : decode cL_law 1081 = .ok (.iadd, 1) := by decide +kernel
theorem dL_law_1082 : decode cL_law 1082 = .ok (.iaload, 1) := by decide +kernel
theorem dL_law_1083 : decode cL_law 1083 = .ok (.aload_n 0, 1) := by decide +kernel
theorem dL_law_1084 : decode cL_law 1084 = .ok (.iload_n 3, 1) := by decide +kernel
theorem dL_law_1085 : decode cL_law 1085 = .ok (.iconst 3, 1) := by decide +kernel
theorem dL_law_1086 : decode cL_law 1086 = .ok (.iadd, 1) := by decide +kernel
theorem dL_law_1087 : decode cL_law 1087 = .ok (.iaload, 1) := by decide +kernel
theorem dL_law_1088 : decode cL_law 1088 = .ok (.aload_n 0, 1) := by decide +kernel
theorem dL_law_1089 : decode cL_law 1089 = .ok (.iload_n 3, 1) := by decide +kernel
theorem dL_law_1090 : decode cL_law 1090 = .ok (.iconst 4, 1) := by decide +kernel
theorem dL_law_1091 : decode cL_law 1091 = .ok (.iadd, 1) := by decide +kernel
theorem dL_law_1092 : decode cL_law 1092 = .ok (.iaload, 1) := by decide +kernel
theorem dL_law_1093 : decode cL_law 1093 = .ok (.aload_n 0, 1) := by decide +kernel
theorem dL_law_1094 : decode cL_law 1094 = .ok (.iload_n 3, 1) := by decide +kernel
theorem dL_law_1095 : decode cL_law 1095 = .ok (.iconst 5, 1) := by decide +kernel
theorem dL_law_1096 : decode cL_law 1096 = .ok (.iadd, 1) := by decide +kernel
theorem dL_law_1097 : decode cL_law 1097 = .ok (.iaload, 1) := by decide +kernel
theorem dL_law_1098 : decode cL_law 1098 = .ok (.invokevirtual 112, 3) := by decide +kernel
theorem dL_law_1101 : decode cL_law 1101 = .ok (.aload_n 2, 1) := by decide +kernel
theorem dL_law_1102 : decode cL_law 1102 = .ok (.aload_n 0, 1) := by decide +kernel
theorem dL_law_1103 : decode cL_law 1103 = .ok (.iload_n 3, 1) := by decide +kernel
theorem dL_law_1104 : decode cL_law 1104 = .ok (.iconst 1, 1) := by decide +kernel
theorem dL_law_1105 : decode cL_law 1105 = .ok (.iadd, 1) := by decide +kernel
theorem dL_law_1106 : decode cL_law 1106 = .ok (.iaload, 1) := by decide +kernel
theorem dL_law_1107 : decode cL_law 1107 = .ok (.aload_n 0, 1) := by decide +kernel
theorem dL_law_1108 : decode cL_law 1108 = .ok (.iload_n 3, 1) := by decide +kernel
theorem dL_law_1109 : decode cL_law 1109 = .ok (.iconst 2, 1) := by decide +kernel
theorem dL_law_1110 : decode cL_law 1110 = .ok (.iadd, 1) := by decide +kernel
theorem dL_law_1111 : decode cL_law 1111 = .ok (.iaload, 1) := by decide +kernel
theorem dL_law_1112 : decode cL_law 1112 = .ok (.aload_n 0, 1) := by decide +kernel
theorem dL_law_1113 : decode cL_law 1113 = .ok (.iload_n 3, 1) := by decide +kernel
theorem dL_law_1114 : decode cL_law 1114 = .ok (.iconst 3, 1) := by decide +kernel
theorem dL_law_1115 : decode cL_law 1115 = .ok (.iadd, 1) := by decide +kernel
theorem dL_law_1116 : decode cL_law 1116 = .ok (.iaload, 1) := by decide +kernel
theorem dL_law_1117 : decode cL_law 1117 = .ok (.aload_n 0, 1) := by decide +kernel
theorem dL_law_1118 : decode cL_law 1118 = .ok (.iload_n 3, 1) := by decide +kernel
theorem dL_law_1119 : decode cL_law 1119 = .ok (.iconst 4, 1) := by decide +kernel
theorem dL_law_1120 : decode cL_law 1120 = .ok (.iadd, 1) := by decide +kernel
theorem dL_law_1121 : decode cL_law 1121 = .ok (.iaload, 1) := by decide +kernel
theorem dL_law_1122 : decode cL_law 1122 = .ok (.aload_n 0, 1) := by decide +kernel
theorem dL_law_1123 : decode cL_law 1123 = .ok (.iload_n 3, 1) := by decide +kernel
theorem dL_law_1124 : decode cL_law 1124 = .ok (.iconst 5, 1) := by decide +kernel
theorem dL_law_1125 : decode cL_law 1125 = .ok (.iadd, 1) := by decide +kernel
theorem dL_law_1126 : decode cL_law 1126 = .ok (.iaload, 1) := by decide +kernel
theorem dL_law_1127 : decode cL_law 1127 = .ok (.invokevirtual 116, 3) := by decide +kernel
theorem dL_law_1130 : decode cL_law 1130 = .ok (.if_icmp .eq 204, 3) := by decide +kernel
theorem dL_law_1133 : decode cL_law 1133 = .ok (.iconst 0, 1) := by decide +kernel
theorem dL_law_1134 : decode cL_law 1134 = .ok (.ireturn, 1) := by decide +kernel
theorem dL_law_1135 : decode cL_law 1135 = .ok (.aload_n 1, 1) := by decide +kernel
theorem dL_law_1136 : decode cL_law 1136 = .ok (.aload_n 0, 1) := by decide +kernel
theorem dL_law_1137 : decode cL_law 1137 = .ok (.iload_n 3, 1) := by decide +kernel
theorem dL_law_1138 : decode cL_law 1138 = .ok (.iconst 1, 1) := by decide +kernel
theorem dL_law_1139 : decode cL_law 1139 = .ok (.iadd, 1) := by decide +kernel
theorem dL_law_1140 : decode cL_law 1140 = .ok (.iaload, 1) := by decide +kernel
theorem dL_law_1141 : decode cL_law 1141 = .ok (.aload_n 0, 1) := by decide +kernel
theorem dL_law_1142 : decode cL_law 1142 = .ok (.iload_n 3, 1) := by decide +kernel
theorem dL_law_1143 : decode cL_law 1143 = .ok (.iconst 2, 1) := by decide +kernel
theorem dL_law_1144 : decode cL_law 1144 = .ok (.iadd, 1) := by decide +kernel
theorem dL_law_1145 : decode cL_law 1145 = .ok (.iaload, 1) := by decide +kernel
theorem dL_law_1146 : decode cL_law 1146 = .ok (.invokevirtual 117, 3) := by decide +kernel
theorem dL_law_1149 : decode cL_law 1149 = .ok (.aload_n 2, 1) := by decide +kernel
theorem dL_law_1150 : decode cL_law 1150 = .ok (.aload_n 0, 1) := by decide +kernel
theorem dL_law_1151 : decode cL_law 1151 = .ok (.iload_n 3, 1) := by decide +kernel
theorem dL_law_1152 : decode cL_law 1152 = .ok (.iconst 1, 1) := by decide +kernel
theorem dL_law_1153 : decode cL_law 1153 = .ok (.iadd, 1) := by decide +kernel
theorem dL_law_1154 : decode cL_law 1154 = .ok (.iaload, 1) := by decide +kernel
theorem dL_law_1155 : decode cL_law 1155 = .ok (.aload_n 0, 1) := by decide +kernel
theorem dL_law_1156 : decode cL_law 1156 = .ok (.iload_n 3, 1) := by decide +kernel
theorem dL_law_1157 : decode cL_law 1157 = .ok (.iconst 2, 1) := by decide +kernel
theorem dL_law_1158 : decode cL_law 1158 = .ok (.iadd, 1) := by decide +kernel
theorem dL_law_1159 : decode cL_law 1159 = .ok (.iaload, 1) := by decide +kernel
theorem dL_law_1160 : decode cL_law 1160 = .ok (.invokevirtual 120, 3) := by decide +kernel
theorem dL_law_1163 : decode cL_law 1163 = .ok (.if_icmp .eq 171, 3) := by decide +kernel
theorem dL_law_1166 : decode cL_law 1166 = .ok (.iconst 0, 1) := by decide +kernel
theorem dL_law_1167 : decode cL_law 1167 = .ok (.ireturn, 1) := by decide +kernel
theorem dL_law_1168 : decode cL_law 1168 = .ok (.aload_n 1, 1) := by decide +kernel
theorem dL_law_1169 : decode cL_law 1169 = .ok (.aload_n 0, 1) := by decide +kernel
theorem dL_law_1170 : decode cL_law 1170 = .ok (.iload_n 3, 1) := by decide +kernel
theorem dL_law_1171 : decode cL_law 1171 = .ok (.iconst 1, 1) := by decide +kernel
theorem dL_law_1172 : decode cL_law 1172 = .ok (.iadd, 1) := by decide +kernel
theorem dL_law_1173 : decode cL_law 1173 = .ok (.iaload, 1) := by decide +kernel
theorem dL_law_1174 : decode cL_law 1174 = .ok (.aload_n 0, 1) := by decide +kernel
theorem dL_law_1175 : decode cL_law 1175 = .ok (.iload_n 3, 1) := by decide +kernel
theorem dL_law_1176 : decode cL_law 1176 = .ok (.iconst 2, 1) := by decide +kernel
theorem dL_law_1177 : decode cL_law 1177 = .ok (.iadd, 1) := by decide +kernel
theorem dL_law_1178 : decode cL_law 1178 = .ok (.iaload, 1) := by decide +kernel
theorem dL_law_1179 : decode cL_law 1179 = .ok (.invokevirtual 121, 3) := by decide +kernel
theorem dL_law_1182 : decode cL_law 1182 = .ok (.aload_n 2, 1) := by decide +kernel
theorem dL_law_1183 : decode cL_law 1183 = .ok (.aload_n 0, 1) := by decide +kernel
theorem dL_law_1184 : decode cL_law 1184 = .ok (.iload_n 3, 1) := by decide +kernel
theorem dL_law_1185 : decode cL_law 1185 = .ok (.iconst 1, 1) := by decide +kernel
theorem dL_law_1186 : decode cL_law 1186 = .ok (.iadd, 1) := by decide +kernel
theorem dL_law_1187 : decode cL_law 1187 = .ok (.iaload, 1) := by decide +kernel
theorem dL_law_1188 : decode cL_law 1188 = .ok (.aload_n 0, 1) := by decide +kernel
theorem dL_law_1189 : decode cL_law 1189 = .ok (.iload_n 3, 1) := by decide +kernel
theorem dL_law_1190 : decode cL_law 1190 = .ok (.iconst 2, 1) := by decide +kernel
theorem dL_law_1191 : decode cL_law 1191 = .ok (.iadd, 1) := by decide +kernel
theorem dL_law_1192 : decode cL_law 1192 = .ok (.iaload, 1) := by decide +kernel
theorem dL_law_1193 : decode cL_law 1193 = .ok (.invokevirtual 124, 3) := by decide +kernel
theorem dL_law_1196 : decode cL_law 1196 = .ok (.if_icmp .eq 138, 3) := by decide +kernel
theorem dL_law_1199 : decode cL_law 1199 = .ok (.iconst 0, 1) := by decide +kernel
theorem dL_law_1200 : decode cL_law 1200 = .ok (.ireturn, 1) := by decide +kernel
theorem dL_law_1201 : decode cL_law 1201 = .ok (.aload_n 1, 1) := by decide +kernel
theorem dL_law_1202 : decode cL_law 1202 = .ok (.aload_n 0, 1) := by decide +kernel
theorem dL_law_1203 : decode cL_law 1203 = .ok (.iload_n 3, 1) := by decide +kernel
theorem dL_law_1204 : decode cL_law 1204 = .ok (.iconst 1, 1) := by decide +kernel
theorem dL_law_1205 : decode cL_law 1205 = .ok (.iadd, 1) := by decide +kernel
theorem dL_law_1206 : decode cL_law 1206 = .ok (.iaload, 1) := by decide +kernel
theorem dL_law_1207 : decode cL_law 1207 = .ok (.aload_n 0, 1) := by decide +kernel
theorem dL_law_1208 : decode cL_law 1208 = .ok (.iload_n 3, 1) := by decide +kernel
theorem dL_law_1209 : decode cL_law 1209 = .ok (.iconst 2, 1) := by decide +kernel
theorem dL_law_1210 : decode cL_law 1210 = .ok (.iadd, 1) := by decide +kernel
theorem dL_law_1211 : decode cL_law 1211 = .ok (.iaload, 1) := by decide +kernel
theorem dL_law_1212 : decode cL_law 1212 = .ok (.aload_n 0, 1) := by decide +kernel
theorem dL_law_1213 : decode cL_law 1213 = .ok (.iload_n 3, 1) := by decide +kernel
theorem dL_law_1214 : decode cL_law 1214 = .ok (.iconst 3, 1) := by decide +kernel
theorem dL_law_1215 : decode cL_law 1215 = .ok (.iadd, 1) := by decide +kernel
theorem dL_law_1216 : decode cL_law 1216 = .ok (.iaload, 1) := by decide +kernel
theorem dL_law_1217 : decode cL_law 1217 = .ok (.invokevirtual 125, 3) := by decide +kernel
theorem dL_law_1220 : decode cL_law 1220 = .ok (.aload_n 2, 1) := by decide +kernel
theorem dL_law_1221 : decode cL_law 1221 = .ok (.aload_n 0, 1) := by decide +kernel
theorem dL_law_1222 : decode cL_law 1222 = .ok (.iload_n 3, 1) := by decide +kernel
theorem dL_law_1223 : decode cL_law 1223 = .ok (.iconst 1, 1) := by decide +kernel
theorem dL_law_1224 : decode cL_law 1224 = .ok (.iadd, 1) := by decide +kernel
theorem dL_law_1225 : decode cL_law 1225 = .ok (.iaload, 1) := by decide +kernel
theorem dL_law_1226 : decode cL_law 1226 = .ok (.aload_n 0, 1) := by decide +kernel
theorem dL_law_1227 : decode cL_law 1227 = .ok (.iload_n 3, 1) := by decide +kernel
theorem dL_law_1228 : decode cL_law 1228 = .ok (.iconst 2, 1) := by decide +kernel
theorem dL_law_1229 : decode cL_law 1229 = .ok (.iadd, 1) := by decide +kernel
theorem dL_law_1230 : decode cL_law 1230 = .ok (.iaload, 1) := by decide +kernel
theorem dL_law_1231 : decode cL_law 1231 = .ok (.aload_n 0, 1) := by decide +kernel
theorem dL_law_1232 : decode cL_law 1232 = .ok (.iload_n 3, 1) := by decide +kernel
theorem dL_law_1233 : decode cL_law 1233 = .ok (.iconst 3, 1) := by decide +kernel
theorem dL_law_1234 : decode cL_law 1234 = .ok (.iadd, 1) := by decide +kernel
theorem dL_law_1235 : decode cL_law 1235 = .ok (.iaload, 1) := by decide +kernel
theorem dL_law_1236 : decode cL_law 1236 = .ok (.invokevirtual 128, 3) := by decide +kernel
theorem dL_law_1239 : decode cL_law 1239 = .ok (.if_icmp .eq 95, 3) := by decide +kernel
theorem dL_law_1242 : decode cL_law 1242 = .ok (.iconst 0, 1) := by decide +kernel
theorem dL_law_1243 : decode cL_law 1243 = .ok (.ireturn, 1) := by decide +kernel
theorem dL_law_1244 : decode cL_law 1244 = .ok (.aload_n 1, 1) := by decide +kernel
theorem dL_law_1245 : decode cL_law 1245 = .ok (.invokevirtual 129, 3) := by decide +kernel
theorem dL_law_1248 : decode cL_law 1248 = .ok (.aload_n 2, 1) := by decide +kernel
theorem dL_law_1249 : decode cL_law 1249 = .ok (.invokevirtual 133, 3) := by decide +kernel
theorem dL_law_1252 : decode cL_law 1252 = .ok (.if_icmp .eq 82, 3) := by decide +kernel
theorem dL_law_1255 : decode cL_law 1255 = .ok (.iconst 0, 1) := by decide +kernel
theorem dL_law_1256 : decode cL_law 1256 = .ok (.ireturn, 1) := by decide +kernel
theorem dL_law_1257 : decode cL_law 1257 = .ok (.aload_n 1, 1) := by decide +kernel
theorem dL_law_1258 : decode cL_law 1258 = .ok (.aload_n 0, 1) := by decide +kernel
theorem dL_law_1259 : decode cL_law 1259 = .ok (.iload_n 3, 1) := by decide +kernel
theorem dL_law_1260 : decode cL_law 1260 = .ok (.iconst 1, 1) := by decide +kernel
theorem dL_law_1261 : decode cL_law 1261 = .ok (.iadd, 1) := by decide +kernel
theorem dL_law_1262 : decode cL_law 1262 = .ok (.iaload, 1) := by decide +kernel
theorem dL_law_1263 : decode cL_law 1263 = .ok (.aload_n 0, 1) := by decide +kernel
theorem dL_law_1264 : decode cL_law 1264 = .ok (.iload_n 3, 1) := by decide +kernel
theorem dL_law_1265 : decode cL_law 1265 = .ok (.iconst 2, 1) := by decide +kernel
theorem dL_law_1266 : decode cL_law 1266 = .ok (.iadd, 1) := by decide +kernel
theorem dL_law_1267 : decode cL_law 1267 = .ok (.iaload, 1) := by decide +kernel
theorem dL_law_1268 : decode cL_law 1268 = .ok (.aload_n 0, 1) := by decide +kernel
theorem dL_law_1269 : decode cL_law 1269 = .ok (.iload_n 3, 1) := by decide +kernel
theorem dL_law_1270 : decode cL_law 1270 = .ok (.iconst 3, 1) := by decide +kernel
theorem dL_law_1271 : decode cL_law 1271 = .ok (.iadd, 1) := by decide +kernel
theorem dL_law_1272 : decode cL_law 1272 = .ok (.iaload, 1) := by decide +kernel
theorem dL_law_1273 : decode cL_law 1273 = .ok (.aload_n 0, 1) := by decide +kernel
theorem dL_law_1274 : decode cL_law 1274 = .ok (.iload_n 3, 1) := by decide +kernel
theorem dL_law_1275 : decode cL_law 1275 = .ok (.iconst 4, 1) := by decide +kernel
theorem dL_law_1276 : decode cL_law 1276 = .ok (.iadd, 1) := by decide +kernel
theorem dL_law_1277 : decode cL_law 1277 = .ok (.iaload, 1) := by decide +kernel
theorem dL_law_1278 : decode cL_law 1278 = .ok (.invokevirtual 134, 3) := by decide +kernel
theorem dL_law_1281 : decode cL_law 1281 = .ok (.aload_n 2, 1) := by decide +kernel
theorem dL_law_1282 : decode cL_law 1282 = .ok (.aload_n 0, 1) := by decide +kernel
theorem dL_law_1283 : decode cL_law 1283 = .ok (.iload_n 3, 1) := by decide +kernel
theorem dL_law_1284 : decode cL_law 1284 = .ok (.iconst 1, 1) := by decide +kernel
theorem dL_law_1285 : decode cL_law 1285 = .ok (.iadd, 1) := by decide +kernel
theorem dL_law_1286 : decode cL_law 1286 = .ok (.iaload, 1) := by decide +kernel
theorem dL_law_1287 : decode cL_law 1287 = .ok (.aload_n 0, 1) := by decide +kernel
theorem dL_law_1288 : decode cL_law 1288 = .ok (.iload_n 3, 1) := by decide +kernel
theorem dL_law_1289 : decode cL_law 1289 = .ok (.iconst 2, 1) := by decide +kernel
theorem dL_law_1290 : decode cL_law 1290 = .ok (.iadd, 1) := by decide +kernel
theorem dL_law_1291 : decode cL_law 1291 = .ok (.iaload, 1) := by decide +kernel
theorem dL_law_1292 : decode cL_law 1292 = .ok (.aload_n 0, 1) := by decide +kernel
theorem dL_law_1293 : decode cL_law 1293 = .ok (.iload_n 3, 1) := by decide +kernel
theorem dL_law_1294 : decode cL_law 1294 = .ok (.iconst 3, 1) := by decide +kernel
theorem dL_law_1295 : decode cL_law 1295 = .ok (.iadd, 1) := by decide +kernel
theorem dL_law_1296 : decode cL_law 1296 = .ok (.iaload, 1) := by decide +kernel
theorem dL_law_1297 : decode cL_law 1297 = .ok (.aload_n 0, 1) := by decide +kernel
theorem dL_law_1298 : decode cL_law 1298 = .ok (.iload_n 3, 1) := by decide +kernel
theorem dL_law_1299 : decode cL_law 1299 = .ok (.iconst 4, 1) := by decide +kernel
theorem dL_law_1300 : decode cL_law 1300 = .ok (.iadd, 1) := by decide +kernel
theorem dL_law_1301 : decode cL_law 1301 = .ok (.iaload, 1) := by decide +kernel
theorem dL_law_1302 : decode cL_law 1302 = .ok (.invokevirtual 138, 3) := by decide +kernel
theorem dL_law_1305 : decode cL_law 1305 = .ok (.lcmp, 1) := by decide +kernel
theorem dL_law_1306 : decode cL_law 1306 = .ok (.ifCond .eq 28, 3) := by decide +kernel
theorem dL_law_1309 : decode cL_law 1309 = .ok (.iconst 0, 1) := by decide +kernel
theorem dL_law_1310 : decode cL_law 1310 = .ok (.ireturn, 1) := by decide +kernel
theorem dL_law_1311 : decode cL_law 1311 = .ok (.aload_n 1, 1) := by decide +kernel
theorem dL_law_1312 : decode cL_law 1312 = .ok (.aload_n 0, 1) := by decide +kernel
theorem dL_law_1313 : decode cL_law 1313 = .ok (.iload_n 3, 1) := by decide +kernel
theorem dL_law_1314 : decode cL_law 1314 = .ok (.iconst 1, 1) := by decide +kernel
theorem dL_law_1315 : decode cL_law 1315 = .ok (.iadd, 1) := by decide +kernel
theorem dL_law_1316 : decode cL_law 1316 = .ok (.iaload, 1) := by decide +kernel
theorem dL_law_1317 : decode cL_law 1317 = .ok (.invokevirtual 139, 3) := by decide +kernel
theorem dL_law_1320 : decode cL_law 1320 = .ok (.aload_n 2, 1) := by decide +kernel
theorem dL_law_1321 : decode cL_law 1321 = .ok (.aload_n 0, 1) := by decide +kernel
theorem dL_law_1322 : decode cL_law 1322 = .ok (.iload_n 3, 1) := by decide +kernel
theorem dL_law_1323 : decode cL_law 1323 = .ok (.iconst 1, 1) := by decide +kernel
theorem dL_law_1324 : decode cL_law 1324 = .ok (.iadd, 1) := by decide +kernel
theorem dL_law_1325 : decode cL_law 1325 = .ok (.iaload, 1) := by decide +kernel
theorem dL_law_1326 : decode cL_law 1326 = .ok (.invokevirtual 142, 3) := by decide +kernel
theorem dL_law_1329 : decode cL_law 1329 = .ok (.if_icmp .eq 5, 3) := by decide +kernel
theorem dL_law_1332 : decode cL_law 1332 = .ok (.iconst 0, 1) := by decide +kernel
theorem dL_law_1333 : decode cL_law 1333 = .ok (.ireturn, 1) := by decide +kernel
theorem dL_law_1334 : decode cL_law 1334 = .ok (.iinc 3 7, 3) := by decide +kernel
theorem dL_law_1337 : decode cL_law 1337 = .ok (.goto (-1319), 3) := by decide +kernel
theorem dL_law_1340 : decode cL_law 1340 = .ok (.iconst 1, 1) := by decide +kernel
theorem dL_law_1341 : decode cL_law 1341 = .ok (.ireturn, 1) := by decide +kernel
end
section
theorem q_inX0 : ∀ w ∈ u_ws RX0 TX0 9, w ∈ q_WS := by
  intro w hw
  obtain ⟨k, hk, rfl⟩ := List.mem_map.mp hw
  have hk := List.mem_range.mp hk
  match k, hk with
  | 0, _ => exact q_w1 100 rfl rfl
  | 1, _ => exact q_w1 102 rfl rfl
  | 2, _ => exact q_w1 104 rfl rfl
  | 3, _ => exact q_w1 106 rfl rfl
  | 4, _ => exact q_w1 108 rfl rfl
  | 5, _ => exact q_w1 110 rfl rfl
  | 6, _ => exact q_w1 112 rfl rfl
  | 7, _ => exact q_w1 114 rfl rfl
  | 8, _ => exact q_w1 116 rfl rfl
  | n + 9, h => exact absurd h (by omega)
theorem q_inX1 : ∀ w ∈ u_ws RX1 TX1 2, w ∈ q_WS := by
  intro w hw
  obtain ⟨k, hk, rfl⟩ := List.mem_map.mp hw
  have hk := List.mem_range.mp hk
  match k, hk with
  | 0, _ => exact q_w1 34 rfl rfl
  | 1, _ => exact q_w1 36 rfl rfl
  | n + 2, h => exact absurd h (by omega)
theorem q_inX2 : ∀ w ∈ u_ws RX2 TX2 11, w ∈ q_WS := by
  intro w hw
  obtain ⟨k, hk, rfl⟩ := List.mem_map.mp hw
  have hk := List.mem_range.mp hk
  match k, hk with
  | 0, _ => exact q_w2 15 rfl rfl
  | 1, _ => exact q_w2 17 rfl rfl
  | 2, _ => exact q_w2 19 rfl rfl
  | 3, _ => exact q_w2 21 rfl rfl
  | 4, _ => exact q_w2 23 rfl rfl
  | 5, _ => exact q_w2 25 rfl rfl
  | 6, _ => exact q_w2 27 rfl rfl
  | 7, _ => exact q_w2 29 rfl rfl
  | 8, _ => exact q_w2 31 rfl rfl
  | 9, _ => exact q_w2 33 rfl rfl
  | 10, _ => exact q_w2 35 rfl rfl
  | n + 11, h => exact absurd h (by omega)
theorem q_inX3 : ∀ w ∈ u_ws RX3 TX3 11, w ∈ q_WS := by
  intro w hw
  obtain ⟨k, hk, rfl⟩ := List.mem_map.mp hw
  have hk := List.mem_range.mp hk
  match k, hk with
  | 0, _ => exact q_w1 146 rfl rfl
  | 1, _ => exact q_w1 148 rfl rfl
  | 2, _ => exact q_w1 150 rfl rfl
  | 3, _ => exact q_w1 152 rfl rfl
  | 4, _ => exact q_w1 154 rfl rfl
  | 5, _ => exact q_w1 156 rfl rfl
  | 6, _ => exact q_w1 158 rfl rfl
  | 7, _ => exact q_w1 160 rfl rfl
  | 8, _ => exact q_w1 162 rfl rfl
  | 9, _ => exact q_w1 164 rfl rfl
  | 10, _ => exact q_w1 166 rfl rfl
  | n + 11, h => exact absurd h (by omega)
theorem q_inX4 : ∀ w ∈ u_ws RX4 TX4 11, w ∈ q_WS := by
  intro w hw
  obtain ⟨k, hk, rfl⟩ := List.mem_map.mp hw
  have hk := List.mem_range.mp hk
  match k, hk with
  | 0, _ => exact q_w3 145 rfl rfl
  | 1, _ => exact q_w3 147 rfl rfl
  | 2, _ => exact q_w3 149 rfl rfl
  | 3, _ => exact q_w3 151 rfl rfl
  | 4, _ => exact q_w3 153 rfl rfl
  | 5, _ => exact q_w3 155 rfl rfl
  | 6, _ => exact q_w3 157 rfl rfl
  | 7, _ => exact q_w3 159 rfl rfl
  | 8, _ => exact q_w3 161 rfl rfl
  | 9, _ => exact q_w3 163 rfl rfl
  | 10, _ => exact q_w3 165 rfl rfl
  | n + 11, h => exact absurd h (by omega)
theorem q_inX5 : ∀ w ∈ u_ws RX5 TX5 3, w ∈ q_WS := by
  intro w hw
  obtain ⟨k, hk, rfl⟩ := List.mem_map.mp hw
  have hk := List.mem_range.mp hk
  match k, hk with
  | 0, _ => exact q_w2 52 rfl rfl
  | 1, _ => exact q_w2 54 rfl rfl
  | 2, _ => exact q_w2 56 rfl rfl
  | n + 3, h => exact absurd h (by omega)
theorem q_inX6 : ∀ w ∈ u_ws RX6 TX6 6, w ∈ q_WS := by
  intro w hw
  obtain ⟨k, hk, rfl⟩ := List.mem_map.mp hw
  have hk := List.mem_range.mp hk
  match k, hk with
  | 0, _ => exact q_w1 183 rfl rfl
  | 1, _ => exact q_w1 185 rfl rfl
  | 2, _ => exact q_w1 187 rfl rfl
  | 3, _ => exact q_w1 189 rfl rfl
  | 4, _ => exact q_w1 191 rfl rfl
  | 5, _ => exact q_w1 193 rfl rfl
  | n + 6, h => exact absurd h (by omega)
theorem q_inX7 : ∀ w ∈ u_ws RX7 TX7 7, w ∈ q_WS := by
  intro w hw
  obtain ⟨k, hk, rfl⟩ := List.mem_map.mp hw
  have hk := List.mem_range.mp hk
  match k, hk with
  | 0, _ => exact q_w1 68 rfl rfl
  | 1, _ => exact q_w1 70 rfl rfl
  | 2, _ => exact q_w1 72 rfl rfl
  | 3, _ => exact q_w1 74 rfl rfl
  | 4, _ => exact q_w1 76 rfl rfl
  | 5, _ => exact q_w1 78 rfl rfl
  | 6, _ => exact q_w1 80 rfl rfl
  | n + 7, h => exact absurd h (by omega)
theorem q_inX8 : ∀ w ∈ u_ws RX8 TX8 6, w ∈ q_WS := by
  intro w hw
  obtain ⟨k, hk, rfl⟩ := List.mem_map.mp hw
  have hk := List.mem_range.mp hk
  match k, hk with
  | 0, _ => exact q_w1 217 rfl rfl
  | 1, _ => exact q_w1 219 rfl rfl
  | 2, _ => exact q_w1 221 rfl rfl
  | 3, _ => exact q_w1 223 rfl rfl
  | 4, _ => exact q_w1 225 rfl rfl
  | 5, _ => exact q_w1 227 rfl rfl
  | n + 6, h => exact absurd h (by omega)
theorem q_inX9 : ∀ w ∈ u_ws RX9 TX9 12, w ∈ q_WS := by
  intro w hw
  obtain ⟨k, hk, rfl⟩ := List.mem_map.mp hw
  have hk := List.mem_range.mp hk
  match k, hk with
  | 0, _ => exact q_w2 71 rfl rfl
  | 1, _ => exact q_w2 73 rfl rfl
  | 2, _ => exact q_w2 75 rfl rfl
  | 3, _ => exact q_w2 77 rfl rfl
  | 4, _ => exact q_w2 79 rfl rfl
  | 5, _ => exact q_w2 81 rfl rfl
  | 6, _ => exact q_w2 83 rfl rfl
  | 7, _ => exact q_w2 85 rfl rfl
  | 8, _ => exact q_w2 87 rfl rfl
  | 9, _ => exact q_w2 89 rfl rfl
  | 10, _ => exact q_w2 91 rfl rfl
  | 11, _ => exact q_w2 93 rfl rfl
  | n + 12, h => exact absurd h (by omega)
theorem q_inX10 : ∀ w ∈ u_ws RX10 TX10 52, w ∈ q_WS := by
  intro w hw
  obtain ⟨k, hk, rfl⟩ := List.mem_map.mp hw
  have hk := List.mem_range.mp hk
  match k, hk with
  | 0, _ => exact q_w4 157 rfl rfl
  | 1, _ => exact q_w4 159 rfl rfl
  | 2, _ => exact q_w4 161 rfl rfl
  | 3, _ => exact q_w4 163 rfl rfl
  | 4, _ => exact q_w4 165 rfl rfl
  | 5, _ => exact q_w4 167 rfl rfl
  | 6, _ => exact q_w4 169 rfl rfl
  | 7, _ => exact q_w4 171 rfl rfl
  | 8, _ => exact q_w4 173 rfl rfl
  | 9, _ => exact q_w4 175 rfl rfl
  | 10, _ => exact q_w4 177 rfl rfl
  | 11, _ => exact q_w4 179 rfl rfl
  | 12, _ => exact q_w4 181 rfl rfl
  | 13, _ => exact q_w4 183 rfl rfl
  | 14, _ => exact q_w4 185 rfl rfl
  | 15, _ => exact q_w4 187 rfl rfl
  | 16, _ => exact q_w4 189 rfl rfl
  | 17, _ => exact q_w4 191 rfl rfl
  | 18, _ => exact q_w4 193 rfl rfl
  | 19, _ => exact q_w4 195 rfl rfl
  | 20, _ => exact q_w4 197 rfl rfl
  | 21, _ => exact q_w4 199 rfl rfl
  | 22, _ => exact q_w4 201 rfl rfl
  | 23, _ => exact q_w4 203 rfl rfl
  | 24, _ => exact q_w4 205 rfl rfl
  | 25, _ => exact q_w4 207 rfl rfl
  | 26, _ => exact q_w4 209 rfl rfl
  | 27, _ => exact q_w4 211 rfl rfl
  | 28, _ => exact q_w4 213 rfl rfl
  | 29, _ => exact q_w4 215 rfl rfl
  | 30, _ => exact q_w4 217 rfl rfl
  | 31, _ => exact q_w4 219 rfl rfl
  | 32, _ => exact q_w4 221 rfl rfl
  | 33, _ => exact q_w4 223 rfl rfl
  | 34, _ => exact q_w4 225 rfl rfl
  | 35, _ => exact q_w4 227 rfl rfl
  | 36, _ => exact q_w4 229 rfl rfl
  | 37, _ => exact q_w4 231 rfl rfl
  | 38, _ => exact q_w4 233 rfl rfl
  | 39, _ => exact q_w4 235 rfl rfl
  | 40, _ => exact q_w4 237 rfl rfl
  | 41, _ => exact q_w4 239 rfl rfl
  | 42, _ => exact q_w5 1 rfl rfl
  | 43, _ => exact q_w5 3 rfl rfl
  | 44, _ => exact q_w5 5 rfl rfl
  | 45, _ => exact q_w5 7 rfl rfl
  | 46, _ => exact q_w5 9 rfl rfl
  | 47, _ => exact q_w5 11 rfl rfl
  | 48, _ => exact q_w5 13 rfl rfl
  | 49, _ => exact q_w5 15 rfl rfl
  | 50, _ => exact q_w5 17 rfl rfl
  | 51, _ => exact q_w5 19 rfl rfl
  | n + 52, h => exact absurd h (by omega)
end
section
/-! THE SHADOW: all cells that the law makes stand in a row from address b on, in a known order (q_lay); what they hold are four functions. -/
/-- what the k-th cell is: (0, c) an object of class c; (1, n) n ints; (2, n) longs; (3, n) booleans; (4, n) Plans; (5, n) Ships -/
def q_lay : Nat → Nat × Nat := fun k => match k with
  | 0 => (0, 9) | 1 => (4, 4) | 2 => (0, 1) | 3 => (0, 0) | 4 => (5, 9)
  | 5 => (0, 7) | 6 => (1, 10) | 7 => (0, 7) | 8 => (1, 10) | 9 => (0, 7) | 10 => (1, 10)
  | 11 => (0, 7) | 12 => (1, 10) | 13 => (0, 7) | 14 => (1, 10) | 15 => (0, 7) | 16 => (1, 10)
  | 17 => (0, 7) | 18 => (1, 10) | 19 => (0, 7) | 20 => (1, 10) | 21 => (0, 7) | 22 => (1, 10)
  | 23 => (0, 3) | 24 => (2, 4) | 25 => (2, 4) | 26 => (1, 4) | 27 => (1, 4)
  | 28 => (0, 6) | 29 => (1, 10) | 30 => (1, 10) | 31 => (1, 10) | 32 => (1, 400)
  | 33 => (1, 144) | 34 => (0, 8) | 35 => (1, 41) | 36 => (0, 8) | 37 => (1, 41)
  | 38 => (0, 2) | 39 => (1, 12) | 40 => (1, 12) | 41 => (1, 12) | 42 => (0, 7) | 43 => (1, 10) | 44 => (2, 601) | 45 => (2, 601)
  | 46 => (0, 5) | 47 => (1, 12) | 48 => (1, 12) | 49 => (0, 5) | 50 => (1, 12) | 51 => (1, 12)
  | 52 => (0, 5) | 53 => (1, 12) | 54 => (1, 12) | 55 => (0, 5) | 56 => (1, 12) | 57 => (1, 12)
  | 58 => (0, 10) | 59 => (1, 48) | 60 => (1, 48) | 61 => (1, 4) | 62 => (1, 11)
  | 63 => (1, 9) | 64 => (1, 9) | 65 => (1, 9) | 66 => (1, 9) | 67 => (1, 20) | 68 => (1, 20) | 69 => (1, 20)
  | 70 => (2, 9) | 71 => (2, 9) | 72 => (2, 4) | 73 => (2, 4) | 74 => (1, 4) | 75 => (1, 4) | 76 => (1, 4)
  | 77 => (1, 10) | 78 => (1, 10) | 79 => (1, 10) | 80 => (1, 400) | 81 => (1, 144) | 82 => (1, 82) | 83 => (1, 2)
  | 84 => (3, 2) | 85 => (1, 242064) | 86 => (1, 12) | 87 => (1, 12) | 88 => (1, 12)
  | 89 => (0, 4) | 90 => (1, 5904) | 91 => (2, 3969)
  | _ => (1, 0)
def q_cl : Nat → vw_C := fun c => match c with
  | 0 => (RX0, TX0, 9) | 1 => (RX1, TX1, 2) | 2 => (RX2, TX2, 11) | 3 => (RX3, TX3, 11) | 4 => (RX4, TX4, 11) | 5 => (RX5, TX5, 3)
  | 6 => (RX6, TX6, 6) | 7 => (RX7, TX7, 7) | 8 => (RX8, TX8, 6) | 9 => (RX9, TX9, 12) | _ => (RX10, TX10, 52)
def q_ty : Nat → Nat → FieldType := fun c => match c with
  | 0 => tyX0 | 1 => tyX1 | 2 => tyX2 | 3 => tyX3 | 4 => tyX4 | 5 => tyX5 | 6 => tyX6 | 7 => tyX7 | 8 => tyX8 | 9 => tyX9 | _ => tyX10
theorem q_cl_at : ∀ c, c < 11 → vwCl[c]? = some (q_cl c) := by
  intro c h
  match c, h with
  | 0, _ => rfl | 1, _ => rfl | 2, _ => rfl | 3, _ => rfl | 4, _ => rfl | 5, _ => rfl | 6, _ => rfl | 7, _ => rfl | 8, _ => rfl | 9, _ => rfl | 10, _ => rfl
  | n + 11, h => exact absurd h (by omega)
theorem q_cl_in : ∀ c, c < 11 → ∀ w ∈ u_ws (q_cl c).1 (q_cl c).2.1 (q_cl c).2.2, w ∈ q_WS := by
  intro c h
  match c, h with
  | 0, _ => exact q_inX0 | 1, _ => exact q_inX1 | 2, _ => exact q_inX2 | 3, _ => exact q_inX3 | 4, _ => exact q_inX4 | 5, _ => exact q_inX5 | 6, _ => exact q_inX6 | 7, _ => exact q_inX7 | 8, _ => exact q_inX8 | 9, _ => exact q_inX9 | 10, _ => exact q_inX10
  | n + 11, h => exact absurd h (by omega)
theorem q_cl_ty : ∀ c, c < 11 → ∀ k, k < (q_cl c).2.2 → parseFieldDescriptor ((q_cl c).2.1 k).2.2.1 = some (q_ty c k) := by
  intro c h
  match c, h with
  | 0, _ => exact tyX0_ok | 1, _ => exact tyX1_ok | 2, _ => exact tyX2_ok | 3, _ => exact tyX3_ok | 4, _ => exact tyX4_ok | 5, _ => exact tyX5_ok | 6, _ => exact tyX6_ok | 7, _ => exact tyX7_ok | 8, _ => exact tyX8_ok | 9, _ => exact tyX9_ok | 10, _ => exact tyX10_ok
  | n + 11, h => exact absurd h (by omega)
theorem q_cl_nm : ∀ c, c < 11 → ∀ a, a < (q_cl c).2.2 → ∀ b, b < (q_cl c).2.2 → a ≠ b → ((q_cl c).2.1 a).2.1 ≠ ((q_cl c).2.1 b).2.1 := by
  intro c h
  match c, h with
  | 0, _ => exact nmX0 | 1, _ => exact nmX1 | 2, _ => exact nmX2 | 3, _ => exact nmX3 | 4, _ => exact nmX4 | 5, _ => exact nmX5 | 6, _ => exact nmX6 | 7, _ => exact nmX7 | 8, _ => exact nmX8 | 9, _ => exact nmX9 | 10, _ => exact nmX10
  | n + 11, h => exact absurd h (by omega)
/-- launch, b, the classes' numbers and slots, the array classes (ints, longs, booleans, Plans, Ships), the static rows' addresses -/
abbrev q_G : Type := Launch × Nat × va_G × (Nat → ClassId) × (Nat → Nat)
/-- how many cells, and what they hold: ints, longs, labels -/
abbrev q_S : Type := Nat × (Nat → Nat → Int32) × (Nat → Nat → Int64) × (Nat → Nat → Option Nat)
def q_A (g : q_G) : Nat → Prop := fun q => g.2.1 ≤ q
def q_r (g : q_G) (a : Nat) : Value := .ref (g.2.1 + a)
def q_s (g : q_G) (i : Nat) : Value := .ref (g.2.2.2.2 i)
def q_o (g : q_G) (x : Option Nat) : Option Nat := x.map (fun a => g.2.1 + a)
/-- 0 an int or boolean, 1 a long, 2 a reference -/
def q_kd : FieldType → Nat := fun t => match t with
  | .long => 1 | .object _ => 2 | .array _ => 2 | _ => 0
def q_val (g : q_G) (S : q_S) (t : FieldType) (k j : Nat) : Value := match q_kd t with
  | 0 => .int (S.2.1 k j) | 1 => .long (S.2.2.1 k j) | _ => va_rf (q_o g (S.2.2.2 k j))
def q_fs (g : q_G) (S : q_S) (c k : Nat) : List Value := (List.range (q_cl c).2.2).map (fun j => q_val g S (q_ty c j) k j)
def q_e (g : q_G) (S : q_S) (k : Nat) : va_E := match (q_lay k).1 with
  | 0 => .inr ((q_lay k).2, q_fs g S (q_lay k).2 k)
  | 1 => .inl (g.2.2.2.1 0, (q_lay k).2, .inl (S.2.1 k))
  | 2 => .inl (g.2.2.2.1 1, (q_lay k).2, .inr (.inl (S.2.2.1 k)))
  | 3 => .inl (g.2.2.2.1 2, (q_lay k).2, .inl (S.2.1 k))
  | 4 => .inl (g.2.2.2.1 3, (q_lay k).2, .inr (.inr (.inr (.inr (fun i => q_o g (S.2.2.2 k i))))))
  | _ => .inl (g.2.2.2.1 4, (q_lay k).2, .inr (.inr (.inr (.inr (fun i => q_o g (S.2.2.2 k i))))))
def q_ws (g : q_G) (S : q_S) : va_W := (List.range S.1).map (fun k => (g.2.1 + k, q_e g S k))
def q_tl (g : q_G) : List (ClassId × FieldType) := [(g.2.2.2.1 0, .int), (g.2.2.2.1 1, .long), (g.2.2.2.1 2, .boolean), (g.2.2.2.1 3, .object RX5), (g.2.2.2.1 4, .object RX7)]
def q_P (g : q_G) (S : q_S) (H : Heap) : Prop := H.size = g.2.1 + S.1 ∧ va_P g.2.2.1 vwCl (q_ws g S) H
/-- the static rows: AHEAD, ACROSS, STEP_X, STEP_Y, CLOCKS -/
def q_sC : Nat → String := fun i => match i with | 0 => RX9 | 1 => RX9 | 2 => RX4 | 3 => RX4 | _ => RX2
def q_sn : Nat → String := fun i => match i with | 0 => "AHEAD" | 1 => "ACROSS" | 2 => "STEP_X" | 3 => "STEP_Y" | _ => "CLOCKS"
def q_sN : Nat → Nat := fun i => match i with | 0 => 5 | 1 => 5 | 2 => 9 | 3 => 9 | _ => 11
def q_sL : Nat → List Int32 := fun i => match i with
  | 0 => [1000, 924, 707, 383, 0] | 1 => [0, 383, 707, 924, 1000]
  | 2 => [0, -1, 0, 1, -1, 1, -1, 0, 1] | 3 => [0, -1, -1, -1, 0, 0, 1, 1, 1]
  | _ => [0, -1, 1, -2, 2, -3, 3, -4, 4, -5, 5]
def q_sv (i j : Nat) : Int32 := (q_sL i).getD j 0
/-- calls of nest mates -/
def q_nest : List (String × Nat × MethodName) := [(RX9, 21, yX1_init), (RX0, 43, yX7_init), (RX9, 38, yX3_init), (RX9, 45, yX6_init), (RX9, 56, yX8_init), (RX9, 70, yX2_init), (RX2, 27, yX7_init), (RX9, 75, yX5_init), (RX5, 22, yX9_pace), (RX7, 45, yX9_pace), (RX0, 71, yX9_squareOf), (RX3, 50, yX9_squareOf), (RX6, 35, yX9_squareOf), (RX2, 98, yX9_pace)]
/-- what the tables say, at a state -/
def q_K (g : q_G) (U : State) : Prop := va_K g.2.2.1 vwCl (q_tl g) U ∧ (∀ i, i < 5 → va_Z (q_sC i) (q_sn i) "[I" (q_s g i) (q_A g) U U.heap ∧ va_T .int (g.2.2.2.2 i) (q_sN i) (fun j => .int (q_sv i j)) (q_A g) U U.heap) ∧ (∀ w ∈ q_nest, va_Nw (.methodLinkNest w.1 w.2.1 w.2.2 RX9) U) ∧ va_AO RX5 U ∧ va_AO RX7 U
theorem q_K_warm {g : q_G} {s U : State} (h : q_K g s) (hW : s.WarmedH U.vm) (hh : ∀ q : Nat, q < s.heap.size → ¬ q_A g q → U.heap[q]? = s.heap[q]?) : q_K g U := by
  obtain ⟨h1, h2, h3, h4, h5⟩ := h
  refine ⟨va_K.moved hW.alike h1, fun i hi => ⟨((h2 i hi).1.moved hW.alike).kept hh, ((h2 i hi).2.moved hW.alike).kept hh⟩, fun w hw => va_Nw.warmM hW (h3 w hw), h4.moved hW.alike, h5.moved hW.alike⟩
theorem q_K_same {g : q_G} {s U : State} (h : q_K g s) (hv : s.vm = U.vm) (hh : U.heap = s.heap) : q_K g U := by
  obtain ⟨h1, h2, h3, h4, h5⟩ := h
  have ha : s.vm.Alike U.vm := by rw [hv]; exact Vm.Alike.refl _
  refine ⟨va_K.moved ha h1, fun i hi => ⟨((h2 i hi).1.moved ha).kept (fun _ _ _ => by rw [hh]), ((h2 i hi).2.moved ha).kept (fun _ _ _ => by rw [hh])⟩, fun w hw => (h3 w hw).same rfl hv, h4.moved ha, h5.moved ha⟩
/-- a method: its name, its bytes, its locals, what it returns, frames and words below it, the cells and slots that it makes -/
abbrev q_M : Type := MethodName × ByteArray × Nat × Option FieldType × Nat × Nat × Nat × Nat
def q_R (M : q_M) : Room := { frames := M.2.2.2.2.1, cells := M.2.2.2.2.2.2.1, slots := M.2.2.2.2.2.2.2, locals := M.2.2.2.2.2.1 }
def q_C (g : q_G) (M : q_M) (E : State → Prop) (p : Program) (s : State) (m : MethodId) (args : Array Value) (meth : Method) (c : Code) : Prop :=
  p.tables.exec = Jvm.exec ∧ c.code = M.2.1 ∧ meth.sig.returnType = M.2.2.2.1 ∧ c.maxLocals = M.2.2.1 ∧ s.vm.findClass M.1.cls = some m.cls ∧ (∀ w ∈ q_WS, w.before args s = true) ∧ meth.locks = false ∧ (M.1.name = "<init>" → meth.name = "<init>") ∧ q_K g s ∧ E s ∧ g.2.1 ≤ s.heap.size
/-- the machine, in method M at pc, with these locals, this stack and this shadow, comes to Z -/
def q_V (g : q_G) (M : q_M) (E : State → Prop) (Z : List Frame → Array Value → State → State → Prop) (kc ks pc : Nat) (ls : List (Nat × Value)) (st : List Value) (S : q_S) : Prop :=
  ∀ (p : Program) (e : Env) (s : State) (m : MethodId) (args : Array Value) (below : List Frame) (meth : Method) (c : Code) (H : Heap) (locs : List Loc) (cells slots : Nat) (la : Array Slot),
    q_C g M E p s m args meth c → q_P g S H → va_S (q_A g) s.heap H locs → cells + kc ≤ (q_R M).cells → slots + ks ≤ (q_R M).slots → lv_has la M.2.2.1 ls →
    W p g.1 e (q_R M) s m args below meth c H locs cells slots (Z below args s) (F0 m pc la st)
/-- a method's end -/
def q_Qc (g : q_G) (Q : Option Value → q_S → Prop) : Array Value → State → Outcome → State → Prop := fun _ st oc t => ∃ (v : Option Value) (S : q_S), oc = .returned v ∧ Q v S ∧ q_P g S t.heap ∧ va_F (q_A g) st t
def q_Z (g : q_G) (M : q_M) (Q : Option Value → q_S → Prop) : List Frame → Array Value → State → State → Prop := fun below args s => MQ below (q_Qc g Q) args s (q_R M).cells (q_R M).slots (q_A g)
def q_T : State → Prop := fun _ => True
/-- the contract of a method from its entry on -/
abbrev q_Cn (g : q_G) (M : q_M) (as : List Value) (S : q_S) (Q : Option Value → q_S → Prop) : Prop := q_V g M q_T (q_Z g M Q) (q_R M).cells (q_R M).slots 0 (lv_args 0 as) [] S
def q_ws1 (M : q_M) : List Cond := Cond.code M.1 M.2.1 M.2.2.1 M.2.2.2.1 :: q_WS
/-- what a method's name must be to be called -/
def q_ok (M : q_M) (np : Nat) : Prop := plainName M.1.cls = true ∧ Cond.code M.1 M.2.1 M.2.2.1 M.2.2.2.1 ∈ q_WS ∧ Cond.initialized M.1.cls ∈ q_WS ∧ (M.1.cls ≠ "java/lang/invoke/MethodHandle" ∧ M.1.cls ≠ "java/lang/invoke/VarHandle") ∧ (parseMethodDescriptor M.1.desc).map (fun d => d.parameters.length) = some np
theorem q_met {g : q_G} {M : q_M} {np : Nat} (hM : q_ok M np) {as : List Value} {S : q_S} {Q : Option Value → q_S → Prop} (hlen : (lg_sl as).length ≤ M.2.2.1) (h : q_Cn g M as S Q) :
    Met g.1 M.1 (q_ws1 M) (q_R M) (va_Pc as (fun U => q_K g U ∧ q_P g S U.heap)) (q_Qc g Q) (q_R M).cells (q_R M).slots (q_A g) := by
  refine Met.ofW (cc := M.2.1) (maxL := M.2.2.1) (ret := M.2.2.2.1) hM.1 rfl ?_
  intro p e s m args below meth c s₁ B hml hv
  obtain ⟨rfl, hK, hP⟩ := hv
  have hl := lv_entry as hlen
  rw [lg_entry_eq]
  generalize (lg_sl as ++ List.replicate (M.2.2.1 - (lg_sl as).length) Slot.unset).toArray = la at hl ⊢
  have hts := atoms_spec (ws := q_ws1 M) B.pre
  refine h p e s m _ below meth c s.heap [] 0 0 la ⟨B.exec, B.bytes, B.returns, hml, findClass_of_methodNamed B.named, fun w hw => hts w (List.mem_cons_of_mem _ hw), B.notSynchronized, fun hn => ?_, hK, trivial, by rw [hP.1]; exact Nat.le_add_right _ _⟩ hP va_S.rf (by omega) (by omega) hl
  rw [← hn]
  exact (name_of_methodNamed B.named B.method).1
end
section
def q_lk : List (Nat × Value) → Nat → Option Value
  | [], _ => none
  | q :: l, i => cond (Nat.beq q.1 i) (some q.2) (q_lk l i)
theorem q_lk_mem : ∀ {l : List (Nat × Value)} {i : Nat} {v : Value}, q_lk l i = some v → (i, v) ∈ l := by
  intro l
  induction l with
  | nil => intro i v h; cases h
  | cons q l ih =>
    intro i v h
    unfold q_lk at h
    cases hb : Nat.beq q.1 i with
    | true =>
      rw [hb] at h
      have e := Nat.eq_of_beq_eq_true hb
      have h : some q.2 = some v := h
      cases h
      subst e
      exact List.mem_cons_self
    | false =>
      rw [hb] at h
      exact List.mem_cons_of_mem _ (ih h)
/-- the listed locals by their slots -/
def q_pk (l : List (Nat × Value)) : List Nat → List (Nat × Value)
  | [] => []
  | j :: js => match q_lk l j with
    | some v => (j, v) :: q_pk l js
    | none => q_pk l js
theorem q_pk_mem {l : List (Nat × Value)} : ∀ {js : List Nat} {q : Nat × Value}, q ∈ q_pk l js → q ∈ l := by
  intro js
  induction js with
  | nil => intro q h; cases h
  | cons j js ih =>
    intro q h
    unfold q_pk at h
    cases hk : q_lk l j with
    | none => rw [hk] at h; exact ih h
    | some v =>
      rw [hk] at h
      rcases List.mem_cons.mp h with rfl | h
      · exact q_lk_mem hk
      · exact ih h
theorem q_has_pk {la : Array Slot} {nL : Nat} {l l' : List (Nat × Value)} {js : List Nat} (h : lv_has la nL l) (e : q_pk l js = l') : lv_has la nL l' := ⟨h.1, h.2.1, fun q hq => h.2.2 q (q_pk_mem (by rw [e]; exact hq))⟩
def q_up {α : Type} (f : Nat → Nat → α) (a j : Nat) (x : α) : Nat → Nat → α := fun k i => if k = a ∧ i = j then x else f k i
def q_pi (S : q_S) (a j : Nat) (x : Int32) : q_S := (S.1, q_up S.2.1 a j x, S.2.2.1, S.2.2.2)
def q_pl (S : q_S) (a j : Nat) (x : Int64) : q_S := (S.1, S.2.1, q_up S.2.2.1 a j x, S.2.2.2)
def q_pr (S : q_S) (a j : Nat) (x : Option Nat) : q_S := (S.1, S.2.1, S.2.2.1, q_up S.2.2.2 a j x)
theorem q_up_row {α : Type} {f : Nat → Nat → α} {a j k : Nat} {x : α} (h : ¬ k = a) : q_up f a j x k = f k := by
  funext i
  simp [q_up, h]
theorem q_up_own {α : Type} {f : Nat → Nat → α} {a j : Nat} {x : α} : q_up f a j x a = fun i => if i = j then x else f a i := by
  funext i
  simp [q_up]
theorem q_e_congr {g : q_G} {S S' : q_S} {k : Nat} (h1 : S'.2.1 k = S.2.1 k) (h2 : S'.2.2.1 k = S.2.2.1 k) (h3 : S'.2.2.2 k = S.2.2.2 k) : q_e g S' k = q_e g S k := by
  unfold q_e q_fs q_val
  rw [h1, h2, h3]
theorem q_ws_at {g : q_G} {S : q_S} {a : Nat} (h : a < S.1) : (q_ws g S)[a]? = some (g.2.1 + a, q_e g S a) := by
  simp [q_ws, h]
theorem q_ws_of {g : q_G} {S : q_S} {k : Nat} {q : Nat × va_E} (h : (q_ws g S)[k]? = some q) : k < S.1 ∧ q = (g.2.1 + k, q_e g S k) := by
  have hk : k < S.1 := by
    have := (List.getElem?_eq_some_iff.mp h).1
    simpa [q_ws] using this
  rw [q_ws_at hk] at h
  exact ⟨hk, (Option.some.inj h).symm⟩
theorem q_ws_D {g : q_G} {S : q_S} : va_D (q_A g) (q_ws g S) := by
  refine ⟨fun i j p q hi hj hpq => ?_, fun k q hk => ?_⟩
  · obtain ⟨-, rfl⟩ := q_ws_of hi
    obtain ⟨-, rfl⟩ := q_ws_of hj
    have : g.2.1 + i = g.2.1 + j := hpq
    omega
  · obtain ⟨-, rfl⟩ := q_ws_of hk
    exact Nat.le_add_right _ _
theorem q_ws_set {g : q_G} {S S' : q_S} {a : Nat} {e : va_E} (ha : a < S.1) (hn : S'.1 = S.1) (he : q_e g S' a = e) (hr : ∀ k, ¬ k = a → q_e g S' k = q_e g S k) : (q_ws g S).set a (g.2.1 + a, e) = q_ws g S' := by
  apply List.ext_getElem?
  intro k
  by_cases hk : k < S.1
  · rw [q_ws_at (S := S') (by rw [hn]; exact hk)]
    by_cases hka : k = a
    · subst hka
      rw [List.getElem?_set_self (by simpa [q_ws] using hk), he]
    · rw [List.getElem?_set_ne (fun h => hka h.symm), q_ws_at hk, hr k hka]
  · rw [List.getElem?_eq_none (by simp [q_ws]; omega), List.getElem?_eq_none (by simp [q_ws]; omega)]
theorem q_fs_at {g : q_G} {S : q_S} {ci a j : Nat} (h : j < (q_cl ci).2.2) : (q_fs g S ci a)[j]? = some (q_val g S (q_ty ci j) a j) := by
  simp [q_fs, h]
theorem q_fs_set {g : q_G} {S S' : q_S} {ci a j : Nat} {v : Value} (h : j < (q_cl ci).2.2) (hv : q_val g S' (q_ty ci j) a j = v) (hr : ∀ i, ¬ i = j → q_val g S' (q_ty ci i) a i = q_val g S (q_ty ci i) a i) : (q_fs g S ci a).set j v = q_fs g S' ci a := by
  apply List.ext_getElem?
  intro k
  by_cases hk : k < (q_cl ci).2.2
  · rw [q_fs_at (S := S') hk]
    by_cases hkj : k = j
    · subst hkj
      rw [List.getElem?_set_self (by simpa [q_fs] using hk), hv]
    · rw [List.getElem?_set_ne (fun h => hkj h.symm), q_fs_at hk, hr k hkj]
  · rw [List.getElem?_eq_none (by simp [q_fs]; omega), List.getElem?_eq_none (by simp [q_fs]; omega)]
/-- a field's link: the own class's entry idx is field j of class ci -/
def q_FL (own : String) (idx ci j : Nat) : Prop := ci < 11 ∧ j < (q_cl ci).2.2 ∧ Cond.fieldLink own idx (q_cl ci).1 ((q_cl ci).2.1 j).2.1 ((q_cl ci).2.1 j).2.2.1 ∈ q_WS ∧ ((q_cl ci).2.1 j).1 = (q_cl ci).1
section QV
variable {g : q_G} {M : q_M} {E : State → Prop} {Z : List Frame → Array Value → State → State → Prop} {kc ks pc : Nat} {ls : List (Nat × Value)} {st : List Value} {S : q_S}
theorem q_iconst {n : Int} {v : Int32} (hd : decode M.2.1 pc = .ok (.iconst n, 1)) (hv : Int32.ofInt n = v) (k : q_V g M E Z kc ks (pc + 1) ls (.int v :: st) S) : q_V g M E Z kc ks pc ls (st) S := by
  intro p e s m args below meth c H locs cells slots la C P hS c1 c2 hl
  exact lv_iconst C.1 C.2.1 hd hv (k p e s m args below meth c H locs cells slots la C P hS c1 c2 hl)
theorem q_bipush {n : Int} {v : Int32} (hd : decode M.2.1 pc = .ok (.bipush n, 2)) (hv : (Int8.ofInt n).toInt32 = v) (k : q_V g M E Z kc ks (pc + 2) ls (.int v :: st) S) : q_V g M E Z kc ks pc ls (st) S := by
  intro p e s m args below meth c H locs cells slots la C P hS c1 c2 hl
  exact lv_bipush C.1 C.2.1 hd hv (k p e s m args below meth c H locs cells slots la C P hS c1 c2 hl)
theorem q_sipush {n : Int} {v : Int32} (hd : decode M.2.1 pc = .ok (.sipush n, 3)) (hv : (Int16.ofInt n).toInt32 = v) (k : q_V g M E Z kc ks (pc + 3) ls (.int v :: st) S) : q_V g M E Z kc ks pc ls (st) S := by
  intro p e s m args below meth c H locs cells slots la C P hS c1 c2 hl
  exact lv_sipush C.1 C.2.1 hd hv (k p e s m args below meth c H locs cells slots la C P hS c1 c2 hl)
theorem q_lconst {n : Fin 2} {v : Int64} (hd : decode M.2.1 pc = .ok (.lconst n, 1)) (hv : Int64.ofNat (n : Nat) = v) (k : q_V g M E Z kc ks (pc + 1) ls (.long v :: st) S) : q_V g M E Z kc ks pc ls (st) S := by
  intro p e s m args below meth c H locs cells slots la C P hS c1 c2 hl
  exact lv_lconst C.1 C.2.1 hd hv (k p e s m args below meth c H locs cells slots la C P hS c1 c2 hl)
theorem q_ldc {i : Nat} {v : Int32} (hd : decode M.2.1 pc = .ok (.ldc i, 2)) (hw : Cond.constant M.1.cls i v ∈ q_WS) (k : q_V g M E Z kc ks (pc + 2) ls (.int v :: st) S) : q_V g M E Z kc ks pc ls (st) S := by
  intro p e s m args below meth c H locs cells slots la C P hS c1 c2 hl
  exact lv_ldc C.1 C.2.1 C.2.2.2.2.1 (C.2.2.2.2.2.1 _ hw) hd (k p e s m args below meth c H locs cells slots la C P hS c1 c2 hl)
theorem q_ldcw {i : Nat} {v : Int32} (hd : decode M.2.1 pc = .ok (.ldc_w i, 3)) (hw : Cond.constant M.1.cls i v ∈ q_WS) (k : q_V g M E Z kc ks (pc + 3) ls (.int v :: st) S) : q_V g M E Z kc ks pc ls (st) S := by
  intro p e s m args below meth c H locs cells slots la C P hS c1 c2 hl
  exact lv_ldcw C.1 C.2.1 C.2.2.2.2.1 (C.2.2.2.2.2.1 _ hw) hd (k p e s m args below meth c H locs cells slots la C P hS c1 c2 hl)
theorem q_ldc2 {i : Nat} {v : Int64} (hd : decode M.2.1 pc = .ok (.ldc2_w i, 3)) (hw : Cond.constantLong M.1.cls i v ∈ q_WS) (k : q_V g M E Z kc ks (pc + 3) ls (.long v :: st) S) : q_V g M E Z kc ks pc ls (st) S := by
  intro p e s m args below meth c H locs cells slots la C P hS c1 c2 hl
  exact lv_ldc2 C.1 C.2.1 C.2.2.2.2.1 (C.2.2.2.2.2.1 _ hw) hd (k p e s m args below meth c H locs cells slots la C P hS c1 c2 hl)
theorem q_iload {i : Nat} {x : Int32} (hd : decode M.2.1 pc = .ok (.iload i, 2)) (hx : q_lk ls i = some (.int x)) (k : q_V g M E Z kc ks (pc + 2) ls (.int x :: st) S) : q_V g M E Z kc ks pc ls (st) S := by
  intro p e s m args below meth c H locs cells slots la C P hS c1 c2 hl
  exact lv_iload C.1 C.2.1 hd (hl.2.2 _ (q_lk_mem hx)) (k p e s m args below meth c H locs cells slots la C P hS c1 c2 hl)
theorem q_iload_n {i : Fin 4} {x : Int32} (hd : decode M.2.1 pc = .ok (.iload_n i, 1)) (hx : q_lk ls (i : Nat) = some (.int x)) (k : q_V g M E Z kc ks (pc + 1) ls (.int x :: st) S) : q_V g M E Z kc ks pc ls st S := by
  intro p e s m args below meth c H locs cells slots la C P hS c1 c2 hl
  exact lv_iload_n C.1 C.2.1 hd rfl (hl.2.2 _ (q_lk_mem hx)) (k p e s m args below meth c H locs cells slots la C P hS c1 c2 hl)
theorem q_lload {i : Nat} {x : Int64} (hd : decode M.2.1 pc = .ok (.lload i, 2)) (hx : q_lk ls i = some (.long x)) (k : q_V g M E Z kc ks (pc + 2) ls (.long x :: st) S) : q_V g M E Z kc ks pc ls (st) S := by
  intro p e s m args below meth c H locs cells slots la C P hS c1 c2 hl
  exact lv_lload C.1 C.2.1 hd (hl.2.2 _ (q_lk_mem hx)) (k p e s m args below meth c H locs cells slots la C P hS c1 c2 hl)
theorem q_lload_n {i : Fin 4} {x : Int64} (hd : decode M.2.1 pc = .ok (.lload_n i, 1)) (hx : q_lk ls (i : Nat) = some (.long x)) (k : q_V g M E Z kc ks (pc + 1) ls (.long x :: st) S) : q_V g M E Z kc ks pc ls st S := by
  intro p e s m args below meth c H locs cells slots la C P hS c1 c2 hl
  exact lv_lload_n C.1 C.2.1 hd rfl (hl.2.2 _ (q_lk_mem hx)) (k p e s m args below meth c H locs cells slots la C P hS c1 c2 hl)
theorem q_aload {i a : Nat} (hd : decode M.2.1 pc = .ok (.aload i, 2)) (hx : q_lk ls i = some (q_r g a)) (k : q_V g M E Z kc ks (pc + 2) ls (q_r g a :: st) S) : q_V g M E Z kc ks pc ls st S := by
  intro p e s m args below meth c H locs cells slots la C P hS c1 c2 hl
  exact lv_aload (x := g.2.1 + a) C.1 C.2.1 hd (hl.2.2 _ (q_lk_mem hx)) (k p e s m args below meth c H locs cells slots la C P hS c1 c2 hl)
theorem q_aload_n {i : Fin 4} {a : Nat} (hd : decode M.2.1 pc = .ok (.aload_n i, 1)) (hx : q_lk ls (i : Nat) = some (q_r g a)) (k : q_V g M E Z kc ks (pc + 1) ls (q_r g a :: st) S) : q_V g M E Z kc ks pc ls st S := by
  intro p e s m args below meth c H locs cells slots la C P hS c1 c2 hl
  exact lv_aload_n (x := g.2.1 + a) C.1 C.2.1 hd rfl (hl.2.2 _ (q_lk_mem hx)) (k p e s m args below meth c H locs cells slots la C P hS c1 c2 hl)
theorem q_aloadX_n {i : Fin 4} {a : Nat} (hd : decode M.2.1 pc = .ok (.aload_n i, 1)) (hx : q_lk ls (i : Nat) = some (.ref a)) (k : q_V g M E Z kc ks (pc + 1) ls (.ref a :: st) S) : q_V g M E Z kc ks pc ls st S := by
  intro p e s m args below meth c H locs cells slots la C P hS c1 c2 hl
  exact lv_aload_n (x := a) C.1 C.2.1 hd rfl (hl.2.2 _ (q_lk_mem hx)) (k p e s m args below meth c H locs cells slots la C P hS c1 c2 hl)
theorem q_istore {i : Nat} {x : Int32} {ls' : List (Nat × Value)} (js : List Nat) (hd : decode M.2.1 pc = .ok (.istore i, 2)) (hn : i < M.2.2.1) (hs : q_pk ((i, .int x) :: ls.filter (fun q => !(q.1 == i) && !(q.1 + 1 == i && q.2.category == 2))) js = ls') (k : q_V g M E Z kc ks (pc + 2) ls' st S) : q_V g M E Z kc ks pc ls (.int x :: st) S := by
  intro p e s m args below meth c H locs cells slots la C P hS c1 c2 hl
  exact lv_istore C.1 C.2.1 hd hl hn rfl (fun la hl => k p e s m args below meth c H locs cells slots la C P hS c1 c2 (q_has_pk hl hs))
theorem q_istore_n {i : Fin 4} {x : Int32} {ls' : List (Nat × Value)} (js : List Nat) (hd : decode M.2.1 pc = .ok (.istore_n i, 1)) (hn : (i : Nat) < M.2.2.1) (hs : q_pk (((i : Nat), .int x) :: ls.filter (fun q => !(q.1 == (i : Nat)) && !(q.1 + 1 == (i : Nat) && q.2.category == 2))) js = ls') (k : q_V g M E Z kc ks (pc + 1) ls' st S) : q_V g M E Z kc ks pc ls (.int x :: st) S := by
  intro p e s m args below meth c H locs cells slots la C P hS c1 c2 hl
  exact lv_istore_n C.1 C.2.1 hd rfl hl hn rfl (fun la hl => k p e s m args below meth c H locs cells slots la C P hS c1 c2 (q_has_pk hl hs))
theorem q_lstore {i : Nat} {x : Int64} {ls' : List (Nat × Value)} (js : List Nat) (hd : decode M.2.1 pc = .ok (.lstore i, 2)) (hn : i + 1 < M.2.2.1) (hs : q_pk ((i, .long x) :: ls.filter (fun q => !(q.1 == i) && (!(q.1 == i + 1) && !(q.1 + 1 == i && q.2.category == 2)))) js = ls') (k : q_V g M E Z kc ks (pc + 2) ls' st S) : q_V g M E Z kc ks pc ls (.long x :: st) S := by
  intro p e s m args below meth c H locs cells slots la C P hS c1 c2 hl
  exact lv_lstore C.1 C.2.1 hd hl hn rfl (fun la hl => k p e s m args below meth c H locs cells slots la C P hS c1 c2 (q_has_pk hl hs))
theorem q_lstore_n {i : Fin 4} {x : Int64} {ls' : List (Nat × Value)} (js : List Nat) (hd : decode M.2.1 pc = .ok (.lstore_n i, 1)) (hn : (i : Nat) + 1 < M.2.2.1) (hs : q_pk (((i : Nat), .long x) :: ls.filter (fun q => !(q.1 == (i : Nat)) && (!(q.1 == (i : Nat) + 1) && !(q.1 + 1 == (i : Nat) && q.2.category == 2)))) js = ls') (k : q_V g M E Z kc ks (pc + 1) ls' st S) : q_V g M E Z kc ks pc ls (.long x :: st) S := by
  intro p e s m args below meth c H locs cells slots la C P hS c1 c2 hl
  exact lv_lstore_n C.1 C.2.1 hd rfl hl hn rfl (fun la hl => k p e s m args below meth c H locs cells slots la C P hS c1 c2 (q_has_pk hl hs))
theorem q_astore {i : Nat} {x : Nat} {ls' : List (Nat × Value)} (js : List Nat) (hd : decode M.2.1 pc = .ok (.astore i, 2)) (hn : i < M.2.2.1) (hs : q_pk ((i, q_r g x) :: ls.filter (fun q => !(q.1 == i) && !(q.1 + 1 == i && q.2.category == 2))) js = ls') (k : q_V g M E Z kc ks (pc + 2) ls' st S) : q_V g M E Z kc ks pc ls (q_r g x :: st) S := by
  intro p e s m args below meth c H locs cells slots la C P hS c1 c2 hl
  exact lv_astore (x := g.2.1 + x) C.1 C.2.1 hd hl hn rfl (fun la hl => k p e s m args below meth c H locs cells slots la C P hS c1 c2 (q_has_pk hl hs))
theorem q_astore_n {i : Fin 4} {x : Nat} {ls' : List (Nat × Value)} (js : List Nat) (hd : decode M.2.1 pc = .ok (.astore_n i, 1)) (hn : (i : Nat) < M.2.2.1) (hs : q_pk (((i : Nat), q_r g x) :: ls.filter (fun q => !(q.1 == (i : Nat)) && !(q.1 + 1 == (i : Nat) && q.2.category == 2))) js = ls') (k : q_V g M E Z kc ks (pc + 1) ls' st S) : q_V g M E Z kc ks pc ls (q_r g x :: st) S := by
  intro p e s m args below meth c H locs cells slots la C P hS c1 c2 hl
  exact lv_astore_n (x := g.2.1 + x) C.1 C.2.1 hd rfl hl hn rfl (fun la hl => k p e s m args below meth c H locs cells slots la C P hS c1 c2 (q_has_pk hl hs))
theorem q_iinc {i : Nat} {n : Int} {x : Int32} {ls' : List (Nat × Value)} (js : List Nat) (hd : decode M.2.1 pc = .ok (.iinc i n, 3)) (hx : q_lk ls i = some (.int x)) (hn : i < M.2.2.1) (hs : q_pk ((i, .int (x + Int32.ofInt n)) :: ls.filter (fun q => !(q.1 == i) && !(q.1 + 1 == i && q.2.category == 2))) js = ls') (k : q_V g M E Z kc ks (pc + 3) ls' st S) : q_V g M E Z kc ks pc ls st S := by
  intro p e s m args below meth c H locs cells slots la C P hS c1 c2 hl
  obtain ⟨j, hj⟩ := List.getElem?_of_mem (q_lk_mem hx)
  exact lv_iinc C.1 C.2.1 hd hl (k := j) hj rfl hn rfl (fun la hl => k p e s m args below meth c H locs cells slots la C P hS c1 c2 (q_has_pk hl hs))
theorem q_drop {ls' : List (Nat × Value)} (js : List Nat) (hs : q_pk ls js = ls') (k : q_V g M E Z kc ks pc ls' st S) : q_V g M E Z kc ks pc ls st S := by
  intro p e s m args below meth c H locs cells slots la C P hS c1 c2 hl
  exact k p e s m args below meth c H locs cells slots la C P hS c1 c2 (q_has_pk hl hs)
theorem q_iadd {x y : Int32} (hd : decode M.2.1 pc = .ok (.iadd, 1))  (k : q_V g M E Z kc ks (pc + 1) ls (.int (x + y) :: st) S) : q_V g M E Z kc ks pc ls (.int y :: .int x :: st) S := by
  intro p e s m args below meth c H locs cells slots la C P hS c1 c2 hl
  exact lv_iadd C.1 C.2.1 hd (k p e s m args below meth c H locs cells slots la C P hS c1 c2 hl)
theorem q_isub {x y : Int32} (hd : decode M.2.1 pc = .ok (.isub, 1))  (k : q_V g M E Z kc ks (pc + 1) ls (.int (x - y) :: st) S) : q_V g M E Z kc ks pc ls (.int y :: .int x :: st) S := by
  intro p e s m args below meth c H locs cells slots la C P hS c1 c2 hl
  exact lv_isub C.1 C.2.1 hd (k p e s m args below meth c H locs cells slots la C P hS c1 c2 hl)
theorem q_imul {x y : Int32} (hd : decode M.2.1 pc = .ok (.imul, 1))  (k : q_V g M E Z kc ks (pc + 1) ls (.int (x * y) :: st) S) : q_V g M E Z kc ks pc ls (.int y :: .int x :: st) S := by
  intro p e s m args below meth c H locs cells slots la C P hS c1 c2 hl
  exact lv_imul C.1 C.2.1 hd (k p e s m args below meth c H locs cells slots la C P hS c1 c2 hl)
theorem q_iand {x y : Int32} (hd : decode M.2.1 pc = .ok (.iand, 1))  (k : q_V g M E Z kc ks (pc + 1) ls (.int (x &&& y) :: st) S) : q_V g M E Z kc ks pc ls (.int y :: .int x :: st) S := by
  intro p e s m args below meth c H locs cells slots la C P hS c1 c2 hl
  exact lv_iand C.1 C.2.1 hd (k p e s m args below meth c H locs cells slots la C P hS c1 c2 hl)
theorem q_ior {x y : Int32} (hd : decode M.2.1 pc = .ok (.ior, 1))  (k : q_V g M E Z kc ks (pc + 1) ls (.int (x ||| y) :: st) S) : q_V g M E Z kc ks pc ls (.int y :: .int x :: st) S := by
  intro p e s m args below meth c H locs cells slots la C P hS c1 c2 hl
  exact lv_ior C.1 C.2.1 hd (k p e s m args below meth c H locs cells slots la C P hS c1 c2 hl)
theorem q_ishl {x y : Int32} (hd : decode M.2.1 pc = .ok (.ishl, 1))  (k : q_V g M E Z kc ks (pc + 1) ls (.int (x <<< (y &&& 31)) :: st) S) : q_V g M E Z kc ks pc ls (.int y :: .int x :: st) S := by
  intro p e s m args below meth c H locs cells slots la C P hS c1 c2 hl
  exact lv_ishl C.1 C.2.1 hd (k p e s m args below meth c H locs cells slots la C P hS c1 c2 hl)
theorem q_ishr {x y : Int32} (hd : decode M.2.1 pc = .ok (.ishr, 1))  (k : q_V g M E Z kc ks (pc + 1) ls (.int (x >>> (y &&& 31)) :: st) S) : q_V g M E Z kc ks pc ls (.int y :: .int x :: st) S := by
  intro p e s m args below meth c H locs cells slots la C P hS c1 c2 hl
  exact lv_ishr C.1 C.2.1 hd (k p e s m args below meth c H locs cells slots la C P hS c1 c2 hl)
theorem q_iushr {x y : Int32} (hd : decode M.2.1 pc = .ok (.iushr, 1))  (k : q_V g M E Z kc ks (pc + 1) ls (.int (x.toUInt32 >>> (y.toUInt32 &&& Int32.toUInt32 31)).toInt32 :: st) S) : q_V g M E Z kc ks pc ls (.int y :: .int x :: st) S := by
  intro p e s m args below meth c H locs cells slots la C P hS c1 c2 hl
  exact lv_iushr C.1 C.2.1 hd rfl (k p e s m args below meth c H locs cells slots la C P hS c1 c2 hl)
theorem q_idiv {x y : Int32} (hd : decode M.2.1 pc = .ok (.idiv, 1)) (hne : ¬ y = 0) (k : q_V g M E Z kc ks (pc + 1) ls (.int (x / y) :: st) S) : q_V g M E Z kc ks pc ls (.int y :: .int x :: st) S := by
  intro p e s m args below meth c H locs cells slots la C P hS c1 c2 hl
  exact lv_idiv C.1 C.2.1 hd hne (k p e s m args below meth c H locs cells slots la C P hS c1 c2 hl)
theorem q_irem {x y : Int32} (hd : decode M.2.1 pc = .ok (.irem, 1)) (hne : ¬ y = 0) (k : q_V g M E Z kc ks (pc + 1) ls (.int (x - x / y * y) :: st) S) : q_V g M E Z kc ks pc ls (.int y :: .int x :: st) S := by
  intro p e s m args below meth c H locs cells slots la C P hS c1 c2 hl
  exact lv_irem C.1 C.2.1 hd hne (k p e s m args below meth c H locs cells slots la C P hS c1 c2 hl)
theorem q_ineg {x : Int32} (hd : decode M.2.1 pc = .ok (.ineg, 1))  (k : q_V g M E Z kc ks (pc + 1) ls (.int (-x) :: st) S) : q_V g M E Z kc ks pc ls (.int x :: st) S := by
  intro p e s m args below meth c H locs cells slots la C P hS c1 c2 hl
  exact lv_ineg C.1 C.2.1 hd (k p e s m args below meth c H locs cells slots la C P hS c1 c2 hl)
theorem q_lneg {x : Int64} (hd : decode M.2.1 pc = .ok (.lneg, 1))  (k : q_V g M E Z kc ks (pc + 1) ls (.long (-x) :: st) S) : q_V g M E Z kc ks pc ls (.long x :: st) S := by
  intro p e s m args below meth c H locs cells slots la C P hS c1 c2 hl
  exact lv_lneg C.1 C.2.1 hd (k p e s m args below meth c H locs cells slots la C P hS c1 c2 hl)
theorem q_ladd {x y : Int64} (hd : decode M.2.1 pc = .ok (.ladd, 1))  (k : q_V g M E Z kc ks (pc + 1) ls (.long (x + y) :: st) S) : q_V g M E Z kc ks pc ls (.long y :: .long x :: st) S := by
  intro p e s m args below meth c H locs cells slots la C P hS c1 c2 hl
  exact lv_ladd C.1 C.2.1 hd (k p e s m args below meth c H locs cells slots la C P hS c1 c2 hl)
theorem q_lsub {x y : Int64} (hd : decode M.2.1 pc = .ok (.lsub, 1))  (k : q_V g M E Z kc ks (pc + 1) ls (.long (x - y) :: st) S) : q_V g M E Z kc ks pc ls (.long y :: .long x :: st) S := by
  intro p e s m args below meth c H locs cells slots la C P hS c1 c2 hl
  exact lv_lsub C.1 C.2.1 hd (k p e s m args below meth c H locs cells slots la C P hS c1 c2 hl)
theorem q_lmul {x y : Int64} (hd : decode M.2.1 pc = .ok (.lmul, 1))  (k : q_V g M E Z kc ks (pc + 1) ls (.long (x * y) :: st) S) : q_V g M E Z kc ks pc ls (.long y :: .long x :: st) S := by
  intro p e s m args below meth c H locs cells slots la C P hS c1 c2 hl
  exact lv_lmul C.1 C.2.1 hd (k p e s m args below meth c H locs cells slots la C P hS c1 c2 hl)
theorem q_land {x y : Int64} (hd : decode M.2.1 pc = .ok (.land, 1))  (k : q_V g M E Z kc ks (pc + 1) ls (.long (x &&& y) :: st) S) : q_V g M E Z kc ks pc ls (.long y :: .long x :: st) S := by
  intro p e s m args below meth c H locs cells slots la C P hS c1 c2 hl
  exact lv_land C.1 C.2.1 hd (k p e s m args below meth c H locs cells slots la C P hS c1 c2 hl)
theorem q_lor {x y : Int64} (hd : decode M.2.1 pc = .ok (.lor, 1))  (k : q_V g M E Z kc ks (pc + 1) ls (.long (x ||| y) :: st) S) : q_V g M E Z kc ks pc ls (.long y :: .long x :: st) S := by
  intro p e s m args below meth c H locs cells slots la C P hS c1 c2 hl
  exact lv_lor C.1 C.2.1 hd (k p e s m args below meth c H locs cells slots la C P hS c1 c2 hl)
theorem q_lxor {x y : Int64} (hd : decode M.2.1 pc = .ok (.lxor, 1))  (k : q_V g M E Z kc ks (pc + 1) ls (.long (x ^^^ y) :: st) S) : q_V g M E Z kc ks pc ls (.long y :: .long x :: st) S := by
  intro p e s m args below meth c H locs cells slots la C P hS c1 c2 hl
  exact lv_lxor C.1 C.2.1 hd (k p e s m args below meth c H locs cells slots la C P hS c1 c2 hl)
theorem q_lshl {x : Int64} {y : Int32} (hd : decode M.2.1 pc = .ok (.lshl, 1))  (k : q_V g M E Z kc ks (pc + 1) ls (.long (x <<< (y.toInt64 &&& 63)) :: st) S) : q_V g M E Z kc ks pc ls (.int y :: .long x :: st) S := by
  intro p e s m args below meth c H locs cells slots la C P hS c1 c2 hl
  exact lv_lshl C.1 C.2.1 hd rfl (k p e s m args below meth c H locs cells slots la C P hS c1 c2 hl)
theorem q_lshr {x : Int64} {y : Int32} (hd : decode M.2.1 pc = .ok (.lshr, 1))  (k : q_V g M E Z kc ks (pc + 1) ls (.long (x >>> (y.toInt64 &&& 63)) :: st) S) : q_V g M E Z kc ks pc ls (.int y :: .long x :: st) S := by
  intro p e s m args below meth c H locs cells slots la C P hS c1 c2 hl
  exact lv_lshr C.1 C.2.1 hd rfl (k p e s m args below meth c H locs cells slots la C P hS c1 c2 hl)
theorem q_i2l {x : Int32} (hd : decode M.2.1 pc = .ok (.i2l, 1))  (k : q_V g M E Z kc ks (pc + 1) ls (.long x.toInt64 :: st) S) : q_V g M E Z kc ks pc ls (.int x :: st) S := by
  intro p e s m args below meth c H locs cells slots la C P hS c1 c2 hl
  exact lv_i2l C.1 C.2.1 hd rfl (k p e s m args below meth c H locs cells slots la C P hS c1 c2 hl)
theorem q_l2i {x : Int64} (hd : decode M.2.1 pc = .ok (.l2i, 1))  (k : q_V g M E Z kc ks (pc + 1) ls (.int x.toInt32 :: st) S) : q_V g M E Z kc ks pc ls (.long x :: st) S := by
  intro p e s m args below meth c H locs cells slots la C P hS c1 c2 hl
  exact lv_l2i C.1 C.2.1 hd rfl (k p e s m args below meth c H locs cells slots la C P hS c1 c2 hl)
theorem q_dup {va : Value} (hd : decode M.2.1 pc = .ok (.dup, 1)) (hv : va.category = 1) (k : q_V g M E Z kc ks (pc + 1) ls (va :: va :: st) S) : q_V g M E Z kc ks pc ls (va :: st) S := by
  intro p e s m args below meth c H locs cells slots la C P hS c1 c2 hl
  exact lv_dup C.1 C.2.1 hd hv (k p e s m args below meth c H locs cells slots la C P hS c1 c2 hl)
theorem q_dup2 {va vb : Value} (hd : decode M.2.1 pc = .ok (.dup2, 1)) (hv : va.category = 1) (hb : vb.category = 1) (k : q_V g M E Z kc ks (pc + 1) ls (va :: vb :: va :: vb :: st) S) : q_V g M E Z kc ks pc ls (va :: vb :: st) S := by
  intro p e s m args below meth c H locs cells slots la C P hS c1 c2 hl
  exact lv_dup2_11 C.1 C.2.1 hd hv hb (k p e s m args below meth c H locs cells slots la C P hS c1 c2 hl)
theorem q_null  (hd : decode M.2.1 pc = .ok (.aconst_null, 1))  (k : q_V g M E Z kc ks (pc + 1) ls (.null :: st) S) : q_V g M E Z kc ks pc ls (st) S := by
  intro p e s m args below meth c H locs cells slots la C P hS c1 c2 hl
  exact lv_null C.1 C.2.1 hd (k p e s m args below meth c H locs cells slots la C P hS c1 c2 hl)
theorem q_ifnonnullN {off : Int} (hd : decode M.2.1 pc = .ok (.ifnonnull off, 3))  (k : q_V g M E Z kc ks (pc + 3) ls (st) S) : q_V g M E Z kc ks pc ls (.null :: st) S := by
  intro p e s m args below meth c H locs cells slots la C P hS c1 c2 hl
  exact lv_ifnonnullN C.1 C.2.1 hd (k p e s m args below meth c H locs cells slots la C P hS c1 c2 hl)
theorem q_ifnonnull {a : Nat} {off : Int} (tgt : Nat) (hd : decode M.2.1 pc = .ok (.ifnonnull off, 3)) (ht : (pc : Int) + off = (tgt : Int)) (k : q_V g M E Z kc ks tgt ls st S) : q_V g M E Z kc ks pc ls (q_r g a :: st) S := by
  intro p e s m args below meth c H locs cells slots la C P hS c1 c2 hl
  exact lv_ifnonnull C.1 C.2.1 hd ht (k p e s m args below meth c H locs cells slots la C P hS c1 c2 hl)
theorem q_goto {off : Int} (tgt : Nat) (hd : decode M.2.1 pc = .ok (.goto off, 3)) (ht : (pc : Int) + off = (tgt : Int)) (k : q_V g M E Z kc ks tgt ls st S) : q_V g M E Z kc ks pc ls st S := by
  intro p e s m args below meth c H locs cells slots la C P hS c1 c2 hl
  exact lv_goto C.1 C.2.1 hd ht (k p e s m args below meth c H locs cells slots la C P hS c1 c2 hl)
theorem q_if_eq {x : Int32} {off : Int} (tgt : Nat) (hd : decode M.2.1 pc = .ok (.ifCond .eq off, 3)) (ht : (pc : Int) + off = (tgt : Int)) (kt : x = 0 → q_V g M E Z kc ks tgt ls st S) (kf : ¬ x = 0 → q_V g M E Z kc ks (pc + 3) ls st S) : q_V g M E Z kc ks pc ls (.int x :: st) S := by
  intro p e s m args below meth c H locs cells slots la C P hS c1 c2 hl
  exact lv_if_eq C.1 C.2.1 hd ht (fun h => kt h p e s m args below meth c H locs cells slots la C P hS c1 c2 hl) (fun h => kf h p e s m args below meth c H locs cells slots la C P hS c1 c2 hl)
theorem q_if_ne {x : Int32} {off : Int} (tgt : Nat) (hd : decode M.2.1 pc = .ok (.ifCond .ne off, 3)) (ht : (pc : Int) + off = (tgt : Int)) (kt : ¬ x = 0 → q_V g M E Z kc ks tgt ls st S) (kf : x = 0 → q_V g M E Z kc ks (pc + 3) ls st S) : q_V g M E Z kc ks pc ls (.int x :: st) S := by
  intro p e s m args below meth c H locs cells slots la C P hS c1 c2 hl
  exact lv_if_ne C.1 C.2.1 hd ht (fun h => kt h p e s m args below meth c H locs cells slots la C P hS c1 c2 hl) (fun h => kf h p e s m args below meth c H locs cells slots la C P hS c1 c2 hl)
theorem q_if_lt {x : Int32} {off : Int} (tgt : Nat) (hd : decode M.2.1 pc = .ok (.ifCond .lt off, 3)) (ht : (pc : Int) + off = (tgt : Int)) (kt : x < 0 → q_V g M E Z kc ks tgt ls st S) (kf : ¬ x < 0 → q_V g M E Z kc ks (pc + 3) ls st S) : q_V g M E Z kc ks pc ls (.int x :: st) S := by
  intro p e s m args below meth c H locs cells slots la C P hS c1 c2 hl
  exact lv_if_lt C.1 C.2.1 hd ht (fun h => kt h p e s m args below meth c H locs cells slots la C P hS c1 c2 hl) (fun h => kf h p e s m args below meth c H locs cells slots la C P hS c1 c2 hl)
theorem q_if_ge {x : Int32} {off : Int} (tgt : Nat) (hd : decode M.2.1 pc = .ok (.ifCond .ge off, 3)) (ht : (pc : Int) + off = (tgt : Int)) (kt : 0 ≤ x → q_V g M E Z kc ks tgt ls st S) (kf : ¬ 0 ≤ x → q_V g M E Z kc ks (pc + 3) ls st S) : q_V g M E Z kc ks pc ls (.int x :: st) S := by
  intro p e s m args below meth c H locs cells slots la C P hS c1 c2 hl
  exact lv_if_ge C.1 C.2.1 hd ht (fun h => kt h p e s m args below meth c H locs cells slots la C P hS c1 c2 hl) (fun h => kf h p e s m args below meth c H locs cells slots la C P hS c1 c2 hl)
theorem q_if_gt {x : Int32} {off : Int} (tgt : Nat) (hd : decode M.2.1 pc = .ok (.ifCond .gt off, 3)) (ht : (pc : Int) + off = (tgt : Int)) (kt : 0 < x → q_V g M E Z kc ks tgt ls st S) (kf : ¬ 0 < x → q_V g M E Z kc ks (pc + 3) ls st S) : q_V g M E Z kc ks pc ls (.int x :: st) S := by
  intro p e s m args below meth c H locs cells slots la C P hS c1 c2 hl
  exact lv_if_gt C.1 C.2.1 hd ht (fun h => kt h p e s m args below meth c H locs cells slots la C P hS c1 c2 hl) (fun h => kf h p e s m args below meth c H locs cells slots la C P hS c1 c2 hl)
theorem q_if_le {x : Int32} {off : Int} (tgt : Nat) (hd : decode M.2.1 pc = .ok (.ifCond .le off, 3)) (ht : (pc : Int) + off = (tgt : Int)) (kt : x ≤ 0 → q_V g M E Z kc ks tgt ls st S) (kf : ¬ x ≤ 0 → q_V g M E Z kc ks (pc + 3) ls st S) : q_V g M E Z kc ks pc ls (.int x :: st) S := by
  intro p e s m args below meth c H locs cells slots la C P hS c1 c2 hl
  exact lv_if_le C.1 C.2.1 hd ht (fun h => kt h p e s m args below meth c H locs cells slots la C P hS c1 c2 hl) (fun h => kf h p e s m args below meth c H locs cells slots la C P hS c1 c2 hl)
theorem q_icmp_eq {x y : Int32} {off : Int} (tgt : Nat) (hd : decode M.2.1 pc = .ok (.if_icmp .eq off, 3)) (ht : (pc : Int) + off = (tgt : Int)) (kt : x = y → q_V g M E Z kc ks tgt ls st S) (kf : ¬ x = y → q_V g M E Z kc ks (pc + 3) ls st S) : q_V g M E Z kc ks pc ls (.int y :: .int x :: st) S := by
  intro p e s m args below meth c H locs cells slots la C P hS c1 c2 hl
  exact lv_icmp_eq C.1 C.2.1 hd ht (fun h => kt h p e s m args below meth c H locs cells slots la C P hS c1 c2 hl) (fun h => kf h p e s m args below meth c H locs cells slots la C P hS c1 c2 hl)
theorem q_icmp_ne {x y : Int32} {off : Int} (tgt : Nat) (hd : decode M.2.1 pc = .ok (.if_icmp .ne off, 3)) (ht : (pc : Int) + off = (tgt : Int)) (kt : ¬ x = y → q_V g M E Z kc ks tgt ls st S) (kf : x = y → q_V g M E Z kc ks (pc + 3) ls st S) : q_V g M E Z kc ks pc ls (.int y :: .int x :: st) S := by
  intro p e s m args below meth c H locs cells slots la C P hS c1 c2 hl
  exact lv_icmp_ne C.1 C.2.1 hd ht (fun h => kt h p e s m args below meth c H locs cells slots la C P hS c1 c2 hl) (fun h => kf h p e s m args below meth c H locs cells slots la C P hS c1 c2 hl)
theorem q_icmp_lt {x y : Int32} {off : Int} (tgt : Nat) (hd : decode M.2.1 pc = .ok (.if_icmp .lt off, 3)) (ht : (pc : Int) + off = (tgt : Int)) (kt : x < y → q_V g M E Z kc ks tgt ls st S) (kf : ¬ x < y → q_V g M E Z kc ks (pc + 3) ls st S) : q_V g M E Z kc ks pc ls (.int y :: .int x :: st) S := by
  intro p e s m args below meth c H locs cells slots la C P hS c1 c2 hl
  exact lv_icmp_lt C.1 C.2.1 hd ht (fun h => kt h p e s m args below meth c H locs cells slots la C P hS c1 c2 hl) (fun h => kf h p e s m args below meth c H locs cells slots la C P hS c1 c2 hl)
theorem q_icmp_ge {x y : Int32} {off : Int} (tgt : Nat) (hd : decode M.2.1 pc = .ok (.if_icmp .ge off, 3)) (ht : (pc : Int) + off = (tgt : Int)) (kt : y ≤ x → q_V g M E Z kc ks tgt ls st S) (kf : ¬ y ≤ x → q_V g M E Z kc ks (pc + 3) ls st S) : q_V g M E Z kc ks pc ls (.int y :: .int x :: st) S := by
  intro p e s m args below meth c H locs cells slots la C P hS c1 c2 hl
  exact lv_icmp_ge C.1 C.2.1 hd ht (fun h => kt h p e s m args below meth c H locs cells slots la C P hS c1 c2 hl) (fun h => kf h p e s m args below meth c H locs cells slots la C P hS c1 c2 hl)
theorem q_icmp_gt {x y : Int32} {off : Int} (tgt : Nat) (hd : decode M.2.1 pc = .ok (.if_icmp .gt off, 3)) (ht : (pc : Int) + off = (tgt : Int)) (kt : y < x → q_V g M E Z kc ks tgt ls st S) (kf : ¬ y < x → q_V g M E Z kc ks (pc + 3) ls st S) : q_V g M E Z kc ks pc ls (.int y :: .int x :: st) S := by
  intro p e s m args below meth c H locs cells slots la C P hS c1 c2 hl
  exact lv_icmp_gt C.1 C.2.1 hd ht (fun h => kt h p e s m args below meth c H locs cells slots la C P hS c1 c2 hl) (fun h => kf h p e s m args below meth c H locs cells slots la C P hS c1 c2 hl)
theorem q_icmp_le {x y : Int32} {off : Int} (tgt : Nat) (hd : decode M.2.1 pc = .ok (.if_icmp .le off, 3)) (ht : (pc : Int) + off = (tgt : Int)) (kt : x ≤ y → q_V g M E Z kc ks tgt ls st S) (kf : ¬ x ≤ y → q_V g M E Z kc ks (pc + 3) ls st S) : q_V g M E Z kc ks pc ls (.int y :: .int x :: st) S := by
  intro p e s m args below meth c H locs cells slots la C P hS c1 c2 hl
  exact lv_icmp_le C.1 C.2.1 hd ht (fun h => kt h p e s m args below meth c H locs cells slots la C P hS c1 c2 hl) (fun h => kf h p e s m args below meth c H locs cells slots la C P hS c1 c2 hl)
theorem q_lcmp_eq {x y : Int64} {off : Int} (tgt : Nat) (hd0 : decode M.2.1 pc = .ok (.lcmp, 1)) (hd : decode M.2.1 (pc + 1) = .ok (.ifCond .eq off, 3)) (ht : ((pc + 1 : Nat) : Int) + off = (tgt : Int)) (kt : x = y → q_V g M E Z kc ks tgt ls st S) (kf : ¬ x = y → q_V g M E Z kc ks (pc + 4) ls st S) : q_V g M E Z kc ks pc ls (.long y :: .long x :: st) S := by
  intro p e s m args below meth c H locs cells slots la C P hS c1 c2 hl
  exact W.lcmp C.1 C.2.1 hd0 (lv_if_eq C.1 C.2.1 hd ht (fun h => kt ((lg_cmp_eq x y).mp h) p e s m args below meth c H locs cells slots la C P hS c1 c2 hl) (fun h => kf (fun e => h ((lg_cmp_eq x y).mpr e)) p e s m args below meth c H locs cells slots la C P hS c1 c2 hl))
theorem q_lcmp_ne {x y : Int64} {off : Int} (tgt : Nat) (hd0 : decode M.2.1 pc = .ok (.lcmp, 1)) (hd : decode M.2.1 (pc + 1) = .ok (.ifCond .ne off, 3)) (ht : ((pc + 1 : Nat) : Int) + off = (tgt : Int)) (kt : ¬ x = y → q_V g M E Z kc ks tgt ls st S) (kf : x = y → q_V g M E Z kc ks (pc + 4) ls st S) : q_V g M E Z kc ks pc ls (.long y :: .long x :: st) S := by
  intro p e s m args below meth c H locs cells slots la C P hS c1 c2 hl
  exact W.lcmp C.1 C.2.1 hd0 (lv_if_ne C.1 C.2.1 hd ht (fun h => kt (fun e => h ((lg_cmp_eq x y).mpr e)) p e s m args below meth c H locs cells slots la C P hS c1 c2 hl) (fun h => kf ((lg_cmp_eq x y).mp h) p e s m args below meth c H locs cells slots la C P hS c1 c2 hl))
theorem q_lcmp_lt {x y : Int64} {off : Int} (tgt : Nat) (hd0 : decode M.2.1 pc = .ok (.lcmp, 1)) (hd : decode M.2.1 (pc + 1) = .ok (.ifCond .lt off, 3)) (ht : ((pc + 1 : Nat) : Int) + off = (tgt : Int)) (kt : x < y → q_V g M E Z kc ks tgt ls st S) (kf : ¬ x < y → q_V g M E Z kc ks (pc + 4) ls st S) : q_V g M E Z kc ks pc ls (.long y :: .long x :: st) S := by
  intro p e s m args below meth c H locs cells slots la C P hS c1 c2 hl
  exact W.lcmp C.1 C.2.1 hd0 (lv_if_lt C.1 C.2.1 hd ht (fun h => kt ((lg_cmp_lt x y).mp h) p e s m args below meth c H locs cells slots la C P hS c1 c2 hl) (fun h => kf (fun e => h ((lg_cmp_lt x y).mpr e)) p e s m args below meth c H locs cells slots la C P hS c1 c2 hl))
theorem q_lcmp_ge {x y : Int64} {off : Int} (tgt : Nat) (hd0 : decode M.2.1 pc = .ok (.lcmp, 1)) (hd : decode M.2.1 (pc + 1) = .ok (.ifCond .ge off, 3)) (ht : ((pc + 1 : Nat) : Int) + off = (tgt : Int)) (kt : y ≤ x → q_V g M E Z kc ks tgt ls st S) (kf : ¬ y ≤ x → q_V g M E Z kc ks (pc + 4) ls st S) : q_V g M E Z kc ks pc ls (.long y :: .long x :: st) S := by
  intro p e s m args below meth c H locs cells slots la C P hS c1 c2 hl
  exact W.lcmp C.1 C.2.1 hd0 (lv_if_ge C.1 C.2.1 hd ht (fun h => kt ((lg_cmp_ge x y).mp h) p e s m args below meth c H locs cells slots la C P hS c1 c2 hl) (fun h => kf (fun e => h ((lg_cmp_ge x y).mpr e)) p e s m args below meth c H locs cells slots la C P hS c1 c2 hl))
theorem q_lcmp_gt {x y : Int64} {off : Int} (tgt : Nat) (hd0 : decode M.2.1 pc = .ok (.lcmp, 1)) (hd : decode M.2.1 (pc + 1) = .ok (.ifCond .gt off, 3)) (ht : ((pc + 1 : Nat) : Int) + off = (tgt : Int)) (kt : y < x → q_V g M E Z kc ks tgt ls st S) (kf : ¬ y < x → q_V g M E Z kc ks (pc + 4) ls st S) : q_V g M E Z kc ks pc ls (.long y :: .long x :: st) S := by
  intro p e s m args below meth c H locs cells slots la C P hS c1 c2 hl
  exact W.lcmp C.1 C.2.1 hd0 (lv_if_gt C.1 C.2.1 hd ht (fun h => kt ((lg_cmp_gt x y).mp h) p e s m args below meth c H locs cells slots la C P hS c1 c2 hl) (fun h => kf (fun e => h ((lg_cmp_gt x y).mpr e)) p e s m args below meth c H locs cells slots la C P hS c1 c2 hl))
theorem q_lcmp_le {x y : Int64} {off : Int} (tgt : Nat) (hd0 : decode M.2.1 pc = .ok (.lcmp, 1)) (hd : decode M.2.1 (pc + 1) = .ok (.ifCond .le off, 3)) (ht : ((pc + 1 : Nat) : Int) + off = (tgt : Int)) (kt : x ≤ y → q_V g M E Z kc ks tgt ls st S) (kf : ¬ x ≤ y → q_V g M E Z kc ks (pc + 4) ls st S) : q_V g M E Z kc ks pc ls (.long y :: .long x :: st) S := by
  intro p e s m args below meth c H locs cells slots la C P hS c1 c2 hl
  exact W.lcmp C.1 C.2.1 hd0 (lv_if_le C.1 C.2.1 hd ht (fun h => kt ((lg_cmp_le x y).mp h) p e s m args below meth c H locs cells slots la C P hS c1 c2 hl) (fun h => kf (fun e => h ((lg_cmp_le x y).mpr e)) p e s m args below meth c H locs cells slots la C P hS c1 c2 hl))
theorem q_tblIn {dflt lo hi off : Int} {offs : Array Int} {len : Nat} {x : Int32} (tgt : Nat) (hd : decode M.2.1 pc = .ok (.tableswitch dflt lo hi offs, len)) (h1 : ¬ x.toInt < lo) (h2 : ¬ hi < x.toInt) (ho : offs[(x.toInt - lo).toNat]? = some off) (ht : (pc : Int) + off = (tgt : Int)) (k : q_V g M E Z kc ks tgt ls st S) : q_V g M E Z kc ks pc ls (.int x :: st) S := by
  intro p e s m args below meth c H locs cells slots la C P hS c1 c2 hl
  exact lv_tableIn C.1 C.2.1 hd h1 h2 ho ht (k p e s m args below meth c H locs cells slots la C P hS c1 c2 hl)
theorem q_tblOut {dflt lo hi : Int} {offs : Array Int} {len : Nat} {x : Int32} (tgt : Nat) (hd : decode M.2.1 pc = .ok (.tableswitch dflt lo hi offs, len)) (h : x.toInt < lo ∨ hi < x.toInt) (ht : (pc : Int) + dflt = (tgt : Int)) (k : q_V g M E Z kc ks tgt ls st S) : q_V g M E Z kc ks pc ls (.int x :: st) S := by
  intro p e s m args below meth c H locs cells slots la C P hS c1 c2 hl
  exact lv_tableOut C.1 C.2.1 hd h ht (k p e s m args below meth c H locs cells slots la C P hS c1 c2 hl)
theorem q_getv {a ci j idx : Nat} (hd : decode M.2.1 pc = .ok (.getfield idx, 3)) (hF : q_FL M.1.cls idx ci j) (hy : q_lay a = (0, ci)) (ha : a < S.1) (k : q_V g M E Z kc ks (pc + 3) ls (q_val g S (q_ty ci j) a j :: st) S) : q_V g M E Z kc ks pc ls (q_r g a :: st) S := by
  intro p e s m args below meth c H locs cells slots la C P hS c1 c2 hl
  have he : (q_ws g S)[a]? = some (g.2.1 + a, .inr (ci, q_fs g S ci a)) := by rw [q_ws_at ha]; simp [q_e, hy]
  exact va_get (C := (q_cl ci).1) (T := (q_cl ci).2.1) (N := (q_cl ci).2.2) C.1 C.2.1 C.2.2.2.2.2.1 (q_cl_in ci hF.1) C.2.2.2.2.1 C.2.2.2.2.2.2.2.2.1.1 P.2 a he (q_cl_at ci hF.1) j hF.2.1 (C.2.2.2.2.2.1 _ hF.2.2.1) (fun x h => by rw [hF.2.2.2] at h; exact h) (q_fs_at hF.2.1) hd (k p e s m args below meth c H locs cells slots la C P hS c1 c2 hl)
theorem q_geti {a ci j idx : Nat} (hd : decode M.2.1 pc = .ok (.getfield idx, 3)) (hF : q_FL M.1.cls idx ci j) (ht : q_kd (q_ty ci j) = 0) (hy : q_lay a = (0, ci)) (ha : a < S.1) (k : q_V g M E Z kc ks (pc + 3) ls (.int (S.2.1 a j) :: st) S) : q_V g M E Z kc ks pc ls (q_r g a :: st) S :=
  q_getv hd hF hy ha (by rw [show q_val g S (q_ty ci j) a j = .int (S.2.1 a j) by simp [q_val, ht]]; exact k)
theorem q_getl {a ci j idx : Nat} (hd : decode M.2.1 pc = .ok (.getfield idx, 3)) (hF : q_FL M.1.cls idx ci j) (ht : q_kd (q_ty ci j) = 1) (hy : q_lay a = (0, ci)) (ha : a < S.1) (k : q_V g M E Z kc ks (pc + 3) ls (.long (S.2.2.1 a j) :: st) S) : q_V g M E Z kc ks pc ls (q_r g a :: st) S :=
  q_getv hd hF hy ha (by rw [show q_val g S (q_ty ci j) a j = .long (S.2.2.1 a j) by simp [q_val, ht]]; exact k)
theorem q_getr {a ci j idx t : Nat} (hd : decode M.2.1 pc = .ok (.getfield idx, 3)) (hF : q_FL M.1.cls idx ci j) (ht : q_kd (q_ty ci j) = 2) (hy : q_lay a = (0, ci)) (ha : a < S.1) (hf : S.2.2.2 a j = some t) (k : q_V g M E Z kc ks (pc + 3) ls (q_r g t :: st) S) : q_V g M E Z kc ks pc ls (q_r g a :: st) S :=
  q_getv hd hF hy ha (by rw [show q_val g S (q_ty ci j) a j = q_r g t by simp [q_val, ht, hf, q_o, va_rf, q_r]]; exact k)
theorem q_getn {a ci j idx : Nat} (hd : decode M.2.1 pc = .ok (.getfield idx, 3)) (hF : q_FL M.1.cls idx ci j) (ht : q_kd (q_ty ci j) = 2) (hy : q_lay a = (0, ci)) (ha : a < S.1) (hf : S.2.2.2 a j = none) (k : q_V g M E Z kc ks (pc + 3) ls (.null :: st) S) : q_V g M E Z kc ks pc ls (q_r g a :: st) S :=
  q_getv hd hF hy ha (by rw [show q_val g S (q_ty ci j) a j = .null by simp [q_val, ht, hf, q_o, va_rf]]; exact k)
/-- writing a field: the general rows (the kit's, with the heap's size) -/
theorem q_putv {a ci j idx : Nat} {v : Value} {S' : q_S} (hd : decode M.2.1 pc = .ok (.putfield idx, 3)) (hF : q_FL M.1.cls idx ci j) (hy : q_lay a = (0, ci)) (ha : a < S.1) (hfin : ((q_cl ci).2.1 j).2.2.2 = false ∨ (((q_cl ci).2.1 j).2.2.2 = true ∧ M.1.name = "<init>" ∧ (q_cl ci).1 = M.1.cls)) (hn : narrow (q_ty ci j) v = v) (hfit : fits (q_ty ci j) v = true)
    (hn1 : S'.1 = S.1) (hv : q_val g S' (q_ty ci j) a j = v) (hr : ∀ i, ¬ i = j → q_val g S' (q_ty ci i) a i = q_val g S (q_ty ci i) a i) (he : ∀ k, ¬ k = a → q_e g S' k = q_e g S k) (k : q_V g M E Z kc ks (pc + 3) ls st S') : q_V g M E Z kc ks pc ls (v :: q_r g a :: st) S := by
  intro p e s m args below meth c H locs cells slots la C P hS c1 c2 hl
  have hat : (q_ws g S)[a]? = some (g.2.1 + a, .inr (ci, q_fs g S ci a)) := by rw [q_ws_at ha]; simp [q_e, hy]
  have hset : (q_ws g S).set a (g.2.1 + a, .inr (ci, (q_fs g S ci a).set j v)) = q_ws g S' := q_ws_set ha hn1 (by rw [q_fs_set hF.2.1 hv hr]; simp [q_e, hy]) he
  have hts := C.2.2.2.2.2.1
  have hown := C.2.2.2.2.1
  have hK := C.2.2.2.2.2.2.2.2.1.1
  have hc := q_cl_at ci hF.1
  have hin := q_cl_in ci hF.1
  have hap := va_apart (own := M.1.cls) hts hin (q_ty ci) (q_cl_ty ci hF.1) (q_cl_nm ci hF.1) hK hc
  obtain ⟨r, h1, cell, q1, q2, q3, q4⟩ := P.2 a _ hat
  have hr2 : r = q_cl ci := Option.some.inj (h1.symm.trans hc)
  subst hr2
  obtain ⟨hS2, hfc, kC, hkC, hkind⟩ := hK.1 ci _ hc
  obtain ⟨cf, kf, fi, f, hi, hsl⟩ := hS2 j hF.2.1
  have hlay := hts _ (hin _ (u_in_lay hF.2.1))
  have hlink := hts _ hF.2.2.1
  have hi' := hi
  rw [hF.2.2.2] at hi'
  have hst := (u_facts hfc hkC (u_lays hts hin hF.2.1) hi).1
  have hlen : j < (q_fs g S ci a).length := by simp [q_fs]; exact hF.2.1
  have fin : ∀ (H' : Heap) (e1 : H'[g.2.1 + a]? = some (cell.setSlot f.slot v)) (e2 : H'.size = H.size) (e3 : ∀ q, q ≠ g.2.1 + a → H'[q]? = H[q]?), W p g.1 e (q_R M) s m args below meth c H' (locs ++ [⟨g.2.1 + a, f.slot⟩]) cells slots (Z below args s) (F0 m (pc + 3) la st) := by
    intro H' e1 e2 e3
    rw [hsl] at e1 ⊢
    have hP1 := P.2.set q_ws_D hat (e := .inr (ci, (q_fs g S ci a).set j v)) ⟨_, hc, t_OB.to (V := updV (vp_V (q_fs g S ci a)) j v) ⟨_, e1, q2, q3, t_set q4 hap hF.2.1 v⟩ (fun j _ => vp_updV_set hlen v j)⟩ e3
    rw [hset] at hP1
    exact k p e s m args below meth c H' _ cells slots la C ⟨by rw [e2, P.1, hn1], hP1⟩ (hS.put e2 e3 (Nat.le_add_right _ _)) c1 c2 hl
  rcases hfin with hfin | ⟨hfin, hin2, hdecl⟩
  · unfold u_lay at hlay
    rw [if_neg (by rw [hfin]; decide)] at hlay
    have h6 := u_store hfc hkC hkind hlay hi (q_cl_ty ci hF.1 j hF.2.1) hn hfit
    exact W.putK C.1 C.2.1 (f := f) ⟨hown, hlink, ⟨_, _, _, hi'⟩, hst⟩ (by rw [q2]; exact h6) q1 q3 (by rw [hsl]; exact k2_hasslot (q4 j hF.2.1)) rfl rfl hd fin
  · unfold u_lay at hlay
    rw [if_pos hfin] at hlay
    have hcf : m.cls = cf := by
      obtain ⟨_, _, c', _, _, _, -, -, hf', -, -, -, hown2, -⟩ := Cond.laysFinal_spec hlay
      have e1 : c' = cf := by have := hi.symm.trans hf'; simp at this; exact this.1.symm
      rw [hF.2.2.2, hdecl] at hown2
      rw [← e1]; exact Option.some.inj (hown.symm.trans hown2)
    have h6 := u_fits hfc hkC hkind (Or.inr hlay) hi (q_cl_ty ci hF.1 j hF.2.1) hn hfit
    exact W.putFinK C.1 C.2.1 hown hlink hi' hst hcf (C.2.2.2.2.2.2.2.1 hin2) (by rw [q2]; exact h6) q1 q3 (by rw [hsl]; exact k2_hasslot (q4 j hF.2.1)) rfl rfl hd fin
theorem q_puti {a ci j idx : Nat} {x : Int32} (hd : decode M.2.1 pc = .ok (.putfield idx, 3)) (hF : q_FL M.1.cls idx ci j) (ht : q_kd (q_ty ci j) = 0) (hy : q_lay a = (0, ci)) (ha : a < S.1) (hfin : ((q_cl ci).2.1 j).2.2.2 = false) (hn : narrow (q_ty ci j) (.int x) = .int x) (hfit : fits (q_ty ci j) (.int x) = true) (k : q_V g M E Z kc ks (pc + 3) ls st (q_pi S a j x)) : q_V g M E Z kc ks pc ls (.int x :: q_r g a :: st) S :=
  q_putv (S' := q_pi S a j x) hd hF hy ha (Or.inl hfin) hn hfit rfl (by simp [q_val, ht, q_pi, q_up]) (fun i hi => by simp [q_val, q_pi, q_up, hi]) (fun k hk => q_e_congr (by simp [q_pi, q_up_row hk]) (by simp [q_pi, q_up_row hk]) (by simp [q_pi, q_up_row hk])) k
theorem q_putl {a ci j idx : Nat} {x : Int64} (hd : decode M.2.1 pc = .ok (.putfield idx, 3)) (hF : q_FL M.1.cls idx ci j) (ht : q_kd (q_ty ci j) = 1) (hy : q_lay a = (0, ci)) (ha : a < S.1) (hfin : ((q_cl ci).2.1 j).2.2.2 = false) (hn : narrow (q_ty ci j) (.long x) = .long x) (hfit : fits (q_ty ci j) (.long x) = true) (k : q_V g M E Z kc ks (pc + 3) ls st (q_pl S a j x)) : q_V g M E Z kc ks pc ls (.long x :: q_r g a :: st) S :=
  q_putv (S' := q_pl S a j x) hd hF hy ha (Or.inl hfin) hn hfit rfl (by simp [q_val, ht, q_pl, q_up]) (fun i hi => by simp [q_val, q_pl, q_up, hi]) (fun k hk => q_e_congr (by simp [q_pl, q_up_row hk]) (by simp [q_pl, q_up_row hk]) (by simp [q_pl, q_up_row hk])) k
theorem q_putr {a ci j idx : Nat} {x : Nat} (hd : decode M.2.1 pc = .ok (.putfield idx, 3)) (hF : q_FL M.1.cls idx ci j) (ht : q_kd (q_ty ci j) = 2) (hy : q_lay a = (0, ci)) (ha : a < S.1) (hfin : ((q_cl ci).2.1 j).2.2.2 = false) (hn : narrow (q_ty ci j) (q_r g x) = q_r g x) (hfit : fits (q_ty ci j) (q_r g x) = true) (k : q_V g M E Z kc ks (pc + 3) ls st (q_pr S a j (some x))) : q_V g M E Z kc ks pc ls (q_r g x :: q_r g a :: st) S :=
  q_putv (S' := q_pr S a j (some x)) hd hF hy ha (Or.inl hfin) hn hfit rfl (by simp [q_val, ht, q_pr, q_up, q_o, va_rf, q_r]) (fun i hi => by simp [q_val, q_pr, q_up, hi]) (fun k hk => q_e_congr (by simp [q_pr, q_up_row hk]) (by simp [q_pr, q_up_row hk]) (by simp [q_pr, q_up_row hk])) k
theorem q_putn {a ci j idx : Nat}  (hd : decode M.2.1 pc = .ok (.putfield idx, 3)) (hF : q_FL M.1.cls idx ci j) (ht : q_kd (q_ty ci j) = 2) (hy : q_lay a = (0, ci)) (ha : a < S.1) (hfin : ((q_cl ci).2.1 j).2.2.2 = false) (hn : narrow (q_ty ci j) (.null) = .null) (hfit : fits (q_ty ci j) (.null) = true) (k : q_V g M E Z kc ks (pc + 3) ls st (q_pr S a j none)) : q_V g M E Z kc ks pc ls (.null :: q_r g a :: st) S :=
  q_putv (S' := q_pr S a j none) hd hF hy ha (Or.inl hfin) hn hfit rfl (by simp [q_val, ht, q_pr, q_up, q_o, va_rf, q_r]) (fun i hi => by simp [q_val, q_pr, q_up, hi]) (fun k hk => q_e_congr (by simp [q_pr, q_up_row hk]) (by simp [q_pr, q_up_row hk]) (by simp [q_pr, q_up_row hk])) k
theorem q_putrF {a ci j idx : Nat} {x : Nat} (hd : decode M.2.1 pc = .ok (.putfield idx, 3)) (hF : q_FL M.1.cls idx ci j) (ht : q_kd (q_ty ci j) = 2) (hy : q_lay a = (0, ci)) (ha : a < S.1) (hfin : ((q_cl ci).2.1 j).2.2.2 = true) (hin : M.1.name = "<init>") (hown : (q_cl ci).1 = M.1.cls) (hn : narrow (q_ty ci j) (q_r g x) = q_r g x) (hfit : fits (q_ty ci j) (q_r g x) = true) (k : q_V g M E Z kc ks (pc + 3) ls st (q_pr S a j (some x))) : q_V g M E Z kc ks pc ls (q_r g x :: q_r g a :: st) S :=
  q_putv (S' := q_pr S a j (some x)) hd hF hy ha (Or.inr ⟨hfin, hin, hown⟩) hn hfit rfl (by simp [q_val, ht, q_pr, q_up, q_o, va_rf, q_r]) (fun i hi => by simp [q_val, q_pr, q_up, hi]) (fun k hk => q_e_congr (by simp [q_pr, q_up_row hk]) (by simp [q_pr, q_up_row hk]) (by simp [q_pr, q_up_row hk])) k
theorem q_iald {a len : Nat} {i : Int32} (hd : decode M.2.1 pc = .ok (.iaload, 1)) (hy : q_lay a = (1, len)) (ha : a < S.1) (hin : vp_in i len) (k : q_V g M E Z kc ks (pc + 1) ls (.int (S.2.1 a i.toNatClampNeg) :: st) S) : q_V g M E Z kc ks pc ls (.int i :: q_r g a :: st) S := by
  intro p e s m args below meth c H locs cells slots la C P hS c1 c2 hl
  exact va_iald C.1 C.2.1 C.2.2.2.2.2.2.2.2.1.1 P.2 a 0 (f := S.2.1 a) (n := len) (by rw [q_ws_at ha]; simp [q_e, hy]) rfl hin hd (k p e s m args below meth c H locs cells slots la C P hS c1 c2 hl)
theorem q_zald {a len : Nat} {i : Int32} (hd : decode M.2.1 pc = .ok (.baload, 1)) (hy : q_lay a = (3, len)) (ha : a < S.1) (hin : vp_in i len) (k : q_V g M E Z kc ks (pc + 1) ls (.int (S.2.1 a i.toNatClampNeg) :: st) S) : q_V g M E Z kc ks pc ls (.int i :: q_r g a :: st) S := by
  intro p e s m args below meth c H locs cells slots la C P hS c1 c2 hl
  exact va_zald C.1 C.2.1 C.2.2.2.2.2.2.2.2.1.1 P.2 a 2 (f := S.2.1 a) (n := len) (by rw [q_ws_at ha]; simp [q_e, hy]) rfl hin hd (k p e s m args below meth c H locs cells slots la C P hS c1 c2 hl)
theorem q_lald {a len : Nat} {i : Int32} (hd : decode M.2.1 pc = .ok (.laload, 1)) (hy : q_lay a = (2, len)) (ha : a < S.1) (hin : vp_in i len) (k : q_V g M E Z kc ks (pc + 1) ls (.long (S.2.2.1 a i.toNatClampNeg) :: st) S) : q_V g M E Z kc ks pc ls (.int i :: q_r g a :: st) S := by
  intro p e s m args below meth c H locs cells slots la C P hS c1 c2 hl
  exact va_lald C.1 C.2.1 C.2.2.2.2.2.2.2.2.1.1 P.2 a 1 (f := S.2.2.1 a) (n := len) (by rw [q_ws_at ha]; simp [q_e, hy]) rfl hin hd (k p e s m args below meth c H locs cells slots la C P hS c1 c2 hl)
theorem q_aald {a len t : Nat} {i : Int32} (hd : decode M.2.1 pc = .ok (.aaload, 1)) (hy : q_lay a = (4, len) ∨ q_lay a = (5, len)) (ha : a < S.1) (hin : vp_in i len) (hf : S.2.2.2 a i.toNatClampNeg = some t) (k : q_V g M E Z kc ks (pc + 1) ls (q_r g t :: st) S) : q_V g M E Z kc ks pc ls (.int i :: q_r g a :: st) S := by
  intro p e s m args below meth c H locs cells slots la C P hS c1 c2 hl
  have hv : va_rf ((fun i => q_o g (S.2.2.2 a i)) i.toNatClampNeg) = q_r g t := by simp [hf, q_o, va_rf, q_r]
  rcases hy with hy | hy
  · refine va_aldq C.1 C.2.1 C.2.2.2.2.2.2.2.2.1.1 P.2 a 3 (f := fun i => q_o g (S.2.2.2 a i)) (n := len) (by rw [q_ws_at ha]; simp [q_e, hy]) rfl hin hd ?_
    rw [hv]
    exact k p e s m args below meth c H locs cells slots la C P hS c1 c2 hl
  · refine va_aldq C.1 C.2.1 C.2.2.2.2.2.2.2.2.1.1 P.2 a 4 (f := fun i => q_o g (S.2.2.2 a i)) (n := len) (by rw [q_ws_at ha]; simp [q_e, hy]) rfl hin hd ?_
    rw [hv]
    exact k p e s m args below meth c H locs cells slots la C P hS c1 c2 hl
theorem q_alen {a len c : Nat} {v : Int32} (hd : decode M.2.1 pc = .ok (.arraylength, 1)) (hy : q_lay a = (1, len)) (ha : a < S.1) (hv : Int32.ofNat len = v) (k : q_V g M E Z kc ks (pc + 1) ls (.int v :: st) S) : q_V g M E Z kc ks pc ls (q_r g a :: st) S := by
  intro p e s m args below meth c H locs cells slots la C P hS c1 c2 hl
  exact va_alen C.1 C.2.1 C.2.2.2.2.2.2.2.2.1.1 P.2 a 0 (x := (len, .inl (S.2.1 a))) (by rw [q_ws_at ha]; simp [q_e, hy]) (ty := .int) rfl hv hd (k p e s m args below meth c H locs cells slots la C P hS c1 c2 hl)
theorem q_iast {a len : Nat} {i : Int32} {x : Int32} (hd : decode M.2.1 pc = .ok (.iastore, 1)) (hy : q_lay a = (1, len)) (ha : a < S.1) (hin : vp_in i len) (k : q_V g M E Z kc ks (pc + 1) ls st (q_pi S a i.toNatClampNeg x)) : q_V g M E Z kc ks pc ls (.int x :: .int i :: q_r g a :: st) S := by
  intro p e s m args below meth c H locs cells slots la C P hS c1 c2 hl
  have hat : (q_ws g S)[a]? = some (g.2.1 + a, .inl (g.2.2.2.1 0, len, .inl (S.2.1 a))) := by rw [q_ws_at ha]; simp [q_e, hy]
  have hK := C.2.2.2.2.2.2.2.2.1.1
  have hset : ∀ e : va_E, q_e g (q_pi S a i.toNatClampNeg x) a = e → (q_ws g S).set a (g.2.1 + a, e) = q_ws g (q_pi S a i.toNatClampNeg x) := fun e he => q_ws_set ha rfl he (fun k hk => q_e_congr (by simp [q_pi, q_up_row hk]) (by simp [q_pi, q_up_row hk]) (by simp [q_pi, q_up_row hk]))
  refine W.iast C.1 C.2.1 (P.2 a _ hat) ((hK.2 0 _ rfl).1 len (fun j => .int (S.2.1 a j))) (fun q => by cases q) (by show ¬ (i < 0 ∨ (arrV _ _ _).slots.size ≤ _); rw [arrV_size]; exact hin) rfl rfl hd fun H1 e1 z oq => ?_
  refine k p e s m args below meth c H1 _ cells slots la C ⟨by rw [z, P.1]; rfl, ?_⟩ (hS.put z oq (Nat.le_add_right _ _)) c1 c2 hl
  rw [← hset _ rfl]
  refine P.2.set q_ws_D hat ?_ oq
  have hq : q_e g (q_pi S a i.toNatClampNeg x) a = .inl (g.2.2.2.1 0, len, .inl (q_up S.2.1 a i.toNatClampNeg x a)) := by simp [q_e, hy, q_pi]
  rw [hq]
  show H1[g.2.1 + a]? = some (vp_cell _ _)
  rw [e1]
  rw [vp_cell_i, vp_cell_i, arrV_store]
  congr 2
  funext q
  by_cases hq : q = i.toNatClampNeg
  · subst hq
    simp [updV, q_up]
  · simp [updV, q_up, hq]
theorem q_last {a len : Nat} {i : Int32} {x : Int64} (hd : decode M.2.1 pc = .ok (.lastore, 1)) (hy : q_lay a = (2, len)) (ha : a < S.1) (hin : vp_in i len) (k : q_V g M E Z kc ks (pc + 1) ls st (q_pl S a i.toNatClampNeg x)) : q_V g M E Z kc ks pc ls (.long x :: .int i :: q_r g a :: st) S := by
  intro p e s m args below meth c H locs cells slots la C P hS c1 c2 hl
  have hat : (q_ws g S)[a]? = some (g.2.1 + a, .inl (g.2.2.2.1 1, len, .inr (.inl (S.2.2.1 a)))) := by rw [q_ws_at ha]; simp [q_e, hy]
  have hK := C.2.2.2.2.2.2.2.2.1.1
  have hset : ∀ e : va_E, q_e g (q_pl S a i.toNatClampNeg x) a = e → (q_ws g S).set a (g.2.1 + a, e) = q_ws g (q_pl S a i.toNatClampNeg x) := fun e he => q_ws_set ha rfl he (fun k hk => q_e_congr (by simp [q_pl, q_up_row hk]) (by simp [q_pl, q_up_row hk]) (by simp [q_pl, q_up_row hk]))
  refine W.last C.1 C.2.1 (P.2 a _ hat) ((hK.2 1 _ rfl).1 len (fun j => .long (S.2.2.1 a j))) (fun q => by cases q) (by show ¬ (i < 0 ∨ (arrV _ _ _).slots.size ≤ _); rw [arrV_size]; exact hin) rfl rfl hd fun H1 e1 z oq => ?_
  refine k p e s m args below meth c H1 _ cells slots la C ⟨by rw [z, P.1]; rfl, ?_⟩ (hS.put z oq (Nat.le_add_right _ _)) c1 c2 hl
  rw [← hset _ rfl]
  refine P.2.set q_ws_D hat ?_ oq
  have hq : q_e g (q_pl S a i.toNatClampNeg x) a = .inl (g.2.2.2.1 1, len, .inr (.inl (q_up S.2.2.1 a i.toNatClampNeg x a))) := by simp [q_e, hy, q_pl]
  rw [hq]
  show H1[g.2.1 + a]? = some (vp_cell _ _)
  rw [e1]
  rw [vp_cell_l, vp_cell_l, arrV_store]
  congr 2
  funext q
  by_cases hq : q = i.toNatClampNeg
  · subst hq
    simp [updV, q_up]
  · simp [updV, q_up, hq]
theorem q_zast {a len : Nat} {i : Int32} {x : Int32} (hd : decode M.2.1 pc = .ok (.bastore, 1)) (hy : q_lay a = (3, len)) (ha : a < S.1) (hin : vp_in i len) (hnar : narrow .boolean (.int x) = .int x) (k : q_V g M E Z kc ks (pc + 1) ls st (q_pi S a i.toNatClampNeg x)) : q_V g M E Z kc ks pc ls (.int x :: .int i :: q_r g a :: st) S := by
  intro p e s m args below meth c H locs cells slots la C P hS c1 c2 hl
  have hat : (q_ws g S)[a]? = some (g.2.1 + a, .inl (g.2.2.2.1 2, len, .inl (S.2.1 a))) := by rw [q_ws_at ha]; simp [q_e, hy]
  have hK := C.2.2.2.2.2.2.2.2.1.1
  have hset : ∀ e : va_E, q_e g (q_pi S a i.toNatClampNeg x) a = e → (q_ws g S).set a (g.2.1 + a, e) = q_ws g (q_pi S a i.toNatClampNeg x) := fun e he => q_ws_set ha rfl he (fun k hk => q_e_congr (by simp [q_pi, q_up_row hk]) (by simp [q_pi, q_up_row hk]) (by simp [q_pi, q_up_row hk]))
  refine W.zast C.1 C.2.1 (P.2 a _ hat) ((hK.2 2 _ rfl).1 len (fun j => .int (S.2.1 a j))) (fun q => by cases q) (by show ¬ (i < 0 ∨ (arrV _ _ _).slots.size ≤ _); rw [arrV_size]; exact hin) rfl rfl hd fun H1 e1 z oq => ?_
  refine k p e s m args below meth c H1 _ cells slots la C ⟨by rw [z, P.1]; rfl, ?_⟩ (hS.put z oq (Nat.le_add_right _ _)) c1 c2 hl
  rw [← hset _ rfl]
  refine P.2.set q_ws_D hat ?_ oq
  have hq : q_e g (q_pi S a i.toNatClampNeg x) a = .inl (g.2.2.2.1 2, len, .inl (q_up S.2.1 a i.toNatClampNeg x a)) := by simp [q_e, hy, q_pi]
  rw [hq]
  show H1[g.2.1 + a]? = some (vp_cell _ _)
  rw [e1]
  rw [vp_cell_i, vp_cell_i, arrV_store]
  congr 2
  funext q
  by_cases hq : q = i.toNatClampNeg
  · subst hq
    simp [updV, q_up, hnar]
  · simp [updV, q_up, hq]
theorem q_gets {i idx : Nat} (hd : decode M.2.1 pc = .ok (.getstatic idx, 3)) (hi : i < 5) (hw : Cond.fieldLink M.1.cls idx (q_sC i) (q_sn i) "[I" ∈ q_WS) (k : q_V g M E Z kc ks (pc + 3) ls (q_s g i :: st) S) : q_V g M E Z kc ks pc ls st S := by
  intro p e s m args below meth c H locs cells slots la C P hS c1 c2 hl
  exact va_gets C.1 C.2.1 (C.2.2.2.2.2.2.2.2.1.2.1 i hi).1 hS C.2.2.2.2.1 (C.2.2.2.2.2.1 _ hw) (fun _ h => h) hd (k p e s m args below meth c H locs cells slots la C P hS c1 c2 hl)
theorem q_sald {i : Nat} {x : Int32} (hd : decode M.2.1 pc = .ok (.iaload, 1)) (hi : i < 5) (hin : vp_in x (q_sN i)) (k : q_V g M E Z kc ks (pc + 1) ls (.int (q_sv i x.toNatClampNeg) :: st) S) : q_V g M E Z kc ks pc ls (.int x :: q_s g i :: st) S := by
  intro p e s m args below meth c H locs cells slots la C P hS c1 c2 hl
  exact va_ti C.1 C.2.1 (C.2.2.2.2.2.2.2.2.1.2.1 i hi).2 hS hin rfl hd (k p e s m args below meth c H locs cells slots la C P hS c1 c2 hl)
theorem q_slen {i : Nat} {v : Int32} (hd : decode M.2.1 pc = .ok (.arraylength, 1)) (hi : i < 5) (hv : Int32.ofNat (q_sN i) = v) (k : q_V g M E Z kc ks (pc + 1) ls (.int v :: st) S) : q_V g M E Z kc ks pc ls (q_s g i :: st) S := by
  intro p e s m args below meth c H locs cells slots la C P hS c1 c2 hl
  exact va_tlen C.1 C.2.1 (C.2.2.2.2.2.2.2.2.1.2.1 i hi).2 hS hv hd (k p e s m args below meth c H locs cells slots la C P hS c1 c2 hl)
theorem q_iret {x : Int32} {Q : Option Value → q_S → Prop} (hd : decode M.2.1 pc = .ok (.ireturn, 1)) (hr : M.2.2.2.1 = some .int)  (hq : Q (some (.int x)) S) : q_V g M E (q_Z g M Q) kc ks pc ls [.int x] S := by
  intro p e s m args below meth c H locs cells slots la C P hS c1 c2 hl
  refine W.widen (k := (q_R M).cells) (n := (q_R M).slots) (by omega) (by omega) ?_
  exact W.iret (v := x) C.1 C.2.1 (C.2.2.1.trans hr)  (fun t ht hW => ⟨_, S, rfl, hq, by rw [ht]; exact P, hS.F ht⟩) hS.2.2 hd C.2.2.2.2.2.2.1
theorem q_zret {x : Int32} {Q : Option Value → q_S → Prop} (hd : decode M.2.1 pc = .ok (.ireturn, 1)) (hr : M.2.2.2.1 = some .boolean) (hn : narrow .boolean (.int x) = .int x) (hq : Q (some (.int x)) S) : q_V g M E (q_Z g M Q) kc ks pc ls [.int x] S := by
  intro p e s m args below meth c H locs cells slots la C P hS c1 c2 hl
  refine W.widen (k := (q_R M).cells) (n := (q_R M).slots) (by omega) (by omega) ?_
  exact W.zret (v := x) C.1 C.2.1 (C.2.2.1.trans hr) hn (fun t ht hW => ⟨_, S, rfl, hq, by rw [ht]; exact P, hS.F ht⟩) hS.2.2 hd C.2.2.2.2.2.2.1
theorem q_lret {x : Int64} {Q : Option Value → q_S → Prop} (hd : decode M.2.1 pc = .ok (.lreturn, 1)) (hr : M.2.2.2.1 = some .long)  (hq : Q (some (.long x)) S) : q_V g M E (q_Z g M Q) kc ks pc ls [.long x] S := by
  intro p e s m args below meth c H locs cells slots la C P hS c1 c2 hl
  refine W.widen (k := (q_R M).cells) (n := (q_R M).slots) (by omega) (by omega) ?_
  exact W.lret (v := x) C.1 C.2.1 (C.2.2.1.trans hr)  (fun t ht hW => ⟨_, S, rfl, hq, by rw [ht]; exact P, hS.F ht⟩) hS.2.2 hd C.2.2.2.2.2.2.1
theorem q_vret  {Q : Option Value → q_S → Prop} (hd : decode M.2.1 pc = .ok (.return_, 1)) (hr : M.2.2.2.1 = none)  (hq : Q none S) : q_V g M E (q_Z g M Q) kc ks pc ls [] S := by
  intro p e s m args below meth c H locs cells slots la C P hS c1 c2 hl
  refine W.widen (k := (q_R M).cells) (n := (q_R M).slots) (by omega) (by omega) ?_
  exact W.vret C.1 C.2.1 (C.2.2.1.trans hr)  (fun t ht hW => ⟨_, S, rfl, hq, by rw [ht]; exact P, hS.F ht⟩) hS.2.2 hd C.2.2.2.2.2.2.1
theorem q_aret {a : Nat} {C0 : String} {Q : Option Value → q_S → Prop} (hd : decode M.2.1 pc = .ok (.areturn, 1)) (hr : M.2.2.2.1 = some (.object C0))  (hq : Q (some (q_r g a)) S) : q_V g M E (q_Z g M Q) kc ks pc ls [q_r g a] S := by
  intro p e s m args below meth c H locs cells slots la C P hS c1 c2 hl
  refine W.widen (k := (q_R M).cells) (n := (q_R M).slots) (by omega) (by omega) ?_
  exact W.aret (v := q_r g a) C.1 C.2.1 (C.2.2.1.trans hr) (Or.inl ⟨_, rfl⟩) (Or.inr ⟨_, rfl⟩) (fun t ht hW => ⟨_, S, rfl, hq, by rw [ht]; exact P, hS.F ht⟩) hS.2.2 hd C.2.2.2.2.2.2.1
end QV
end
section
theorem q_good {K : q_M} (h : Cond.code K.1 K.2.1 K.2.2.1 K.2.2.2.1 ∈ q_WS) : GoodIn q_WS (q_ws1 K) := fun w hw => by
  have hm : w ∈ q_WS := by
    rcases List.mem_cons.mp hw with rfl | hw
    · exact h
    · exact hw
  exact ⟨hm, good_of_word (List.mem_filter.mp hm).2⟩
theorem q_blind {g : q_G} {as : List Value} {S : q_S} : FrameBlind (va_Pc as (fun U => q_K g U ∧ q_P g S U.heap)) := fun _ _ _ _ h => ⟨h.1, q_K_same h.2.1 rfl rfl, h.2.2⟩
section QA
variable {p : Program} {l : Launch} {e : Env} {R : Room} {s : State} {m : MethodId} {args : Array Value} {below : List Frame} {meth : Method} {c : Code} {H : Heap} {locs : List Loc} {cells slots mc ms pc : Nat} {Zq : State → Prop} {la : Array Slot} {st0 rest : List Value} {a : Array Value} {g : q_G} {Q : Option Value → q_S → Prop}
theorem q_after (hr : va_Run p l e R s m args below meth c H locs cells slots mc ms (F0 m pc la st0) rest (q_Qc g Q a) (q_A g)) (hS : va_S (q_A g) s.heap H locs)
    (kk : ∀ (v : Option Value) (S' : q_S) (H1 : Heap) (locs1 : List Loc), Q v S' → q_P g S' H1 → va_S (q_A g) s.heap H1 locs1 → W p l e R s m args below meth c H1 locs1 (cells + mc) (slots + ms) Zq (F0 m (pc + 3) la (v.toList ++ rest))) : W p l e R s m args below meth c H locs cells slots Zq (F0 m pc la st0) := by
  intro T hT X
  obtain ⟨v, st₀, t, T', L, h0, X', hL, e1, e2, ⟨v', S', hv, hq, hP, hz, hk⟩, st⟩ := hr T hT X
  cases hv
  rw [h0] at hz hk
  obtain ⟨t2, a1, b1⟩ := kk v S' T'.heap (locs ++ L) hq (by rw [e1]; exact hP)
    ⟨Nat.le_trans hS.1 (by rw [e1]; exact hz), fun q h1 h2 => by rw [e1, hk q (Nat.lt_of_lt_of_le h1 hS.1) h2]; exact hS.2.1 q h1 h2, fun q hq => by
      rcases List.mem_append.mp hq with h | h
      · exact hS.2.2 q h
      · exact hL q h⟩ T' rfl X'
  exact ⟨t2, st t2 a1, b1⟩
end QA
section QC
variable {g : q_G} {M : q_M} {E : State → Prop} {Z : List Frame → Array Value → State → State → Prop} {kc ks pc : Nat} {ls : List (Nat × Value)} {st : List Value} {S : q_S}
/-- how deep a call may go -/
def q_fit (M K : q_M) : Prop := (q_R K).frames + 1 ≤ (q_R M).frames ∧ 8 + (K.2.2.1 + 11) + (q_R K).locals ≤ (q_R M).locals
theorem q_callV {K : q_M} {np idx a ci : Nat} {as : List Value} {Q : Option Value → q_S → Prop} {st0 : List Value} (kc' ks' : Nat) (hkc : kc' + (q_R K).cells ≤ kc) (hks : ks' + (q_R K).slots ≤ ks) (hd : decode M.2.1 pc = .ok (.invokevirtual idx, 3)) (hK : q_ok K np) (hL : Cond.methodLink M.1.cls idx K.1 ∈ q_WS ∧ Cond.instanceMethod K.1 ∈ q_WS ∧ Cond.selects K.1.cls K.1 K.1 ∈ q_WS) (hR : q_fit M K) (hlt : ci < 11) (hci : (q_cl ci).1 = K.1.cls) (hy : q_lay a = (0, ci)) (ha : a < S.1) (hst : st0 = as.reverse ++ q_r g a :: st) (hnp : as.length = np) (hcat : (st.map fun v => v.category).sum ≤ 8) (hlen : (lg_sl (q_r g a :: as)).length ≤ K.2.2.1) (hc : q_Cn g K (q_r g a :: as) S Q) (k : ∀ (v : Option Value) (S' : q_S), Q v S' → q_V g M E Z kc' ks' (pc + 3) ls (v.toList ++ st) S') : q_V g M E Z kc ks pc ls st0 S := by
  intro p e s m args below meth c H locs cells slots la C P hS c1 c2 hl
  have hM := q_met hK hlen hc
  have hts := C.2.2.2.2.2.1
  have hpar : ∀ sig, parseMethodDescriptor K.1.desc = some sig → np = sig.parameters.length := fun sig h => by
    have h2 := hK.2.2.2.2
    rw [h] at h2
    exact (Option.some.inj h2).symm
  have hpay := pay_in hts (q_good hK.2.1)
  have hpre : ∀ U : State, U.heap = H → s.WarmedH U.vm → va_Pc (q_r g a :: as) (fun U => q_K g U ∧ q_P g S U.heap) (q_r g a :: as).toArray U := fun U hU hW => ⟨rfl, q_K_warm C.2.2.2.2.2.2.2.2.1 hW (fun q h1 h2 => by rw [hU]; exact hS.2.1 q h1 h2), by rw [hU]; exact P⟩
  have hgo : ∀ (v : Option Value) (S' : q_S) (H1 : Heap) (locs1 : List Loc), Q v S' → q_P g S' H1 → va_S (q_A g) s.heap H1 locs1 → W p g.1 e (q_R M) s m args below meth c H1 locs1 (cells + (q_R K).cells) (slots + (q_R K).slots) (Z below args s) (F0 m (pc + 3) la (v.toList ++ st)) := fun v S' H1 locs1 hq hP1 hS1 => k v S' hq p e s m args below meth c H1 locs1 _ _ la C hP1 hS1 (by omega) (by omega) hl
  have hat : (q_ws g S)[a]? = some (g.2.1 + a, .inr (ci, q_fs g S ci a)) := by rw [q_ws_at ha]; simp [q_e, hy]
  have hrc := va_recv C.2.2.2.2.2.2.2.2.1.1 P.2 (q_cl_at ci hlt) hat
  rw [hci] at hrc
  exact q_after (va_runV (C := K.1.cls) (b := g.2.1 + a) (As := as) (rest := st) ⟨C.1, C.2.1, C.2.2.2.1, C.2.2.2.2.1, hts⟩ hM (n := np) ⟨⟨rfl, rfl, hR.1, hR.2, hpay, List.mem_cons_self, hts _ hK.2.1, hts _ hK.2.2.1, hK.2.2.2.1, hpar, hts _ hL.1⟩, hts _ hL.2.1, hts _ hL.2.2⟩ ⟨q_blind, hrc, hpre⟩ rfl hnp hl.1 hst (lv_room hcat) hd ⟨by omega, by omega⟩) hS hgo
theorem q_callS {K : q_M} {np idx : Nat} {as : List Value} {Q : Option Value → q_S → Prop} {st0 : List Value} (kc' ks' : Nat) (hkc : kc' + (q_R K).cells ≤ kc) (hks : ks' + (q_R K).slots ≤ ks) (hd : decode M.2.1 pc = .ok (.invokestatic idx, 3)) (hK : q_ok K np) (hL : Cond.methodLink M.1.cls idx K.1 ∈ q_WS ∧ Cond.static K.1 ∈ q_WS) (hR : q_fit M K) (hst : st0 = as.reverse ++ st) (hnp : as.length = np) (hcat : (st.map fun v => v.category).sum ≤ 8) (hlen : (lg_sl as).length ≤ K.2.2.1) (hc : q_Cn g K as S Q) (k : ∀ (v : Option Value) (S' : q_S), Q v S' → q_V g M E Z kc' ks' (pc + 3) ls (v.toList ++ st) S') : q_V g M E Z kc ks pc ls st0 S := by
  intro p e s m args below meth c H locs cells slots la C P hS c1 c2 hl
  have hM := q_met hK hlen hc
  have hts := C.2.2.2.2.2.1
  have hpar : ∀ sig, parseMethodDescriptor K.1.desc = some sig → np = sig.parameters.length := fun sig h => by
    have h2 := hK.2.2.2.2
    rw [h] at h2
    exact (Option.some.inj h2).symm
  have hpay := pay_in hts (q_good hK.2.1)
  have hpre : ∀ U : State, U.heap = H → s.WarmedH U.vm → va_Pc (as) (fun U => q_K g U ∧ q_P g S U.heap) (as).toArray U := fun U hU hW => ⟨rfl, q_K_warm C.2.2.2.2.2.2.2.2.1 hW (fun q h1 h2 => by rw [hU]; exact hS.2.1 q h1 h2), by rw [hU]; exact P⟩
  have hgo : ∀ (v : Option Value) (S' : q_S) (H1 : Heap) (locs1 : List Loc), Q v S' → q_P g S' H1 → va_S (q_A g) s.heap H1 locs1 → W p g.1 e (q_R M) s m args below meth c H1 locs1 (cells + (q_R K).cells) (slots + (q_R K).slots) (Z below args s) (F0 m (pc + 3) la (v.toList ++ st)) := fun v S' H1 locs1 hq hP1 hS1 => k v S' hq p e s m args below meth c H1 locs1 _ _ la C hP1 hS1 (by omega) (by omega) hl
  exact q_after (va_runS (As := as) (rest := st) ⟨C.1, C.2.1, C.2.2.2.1, C.2.2.2.2.1, hts⟩ hM (n := np) ⟨⟨rfl, rfl, hR.1, hR.2, hpay, List.mem_cons_self, hts _ hK.2.1, hts _ hK.2.2.1, hK.2.2.2.1, hpar, hts _ hL.1⟩, hts _ hL.2⟩ ⟨q_blind, hpre⟩ rfl hnp hl.1 hst (lv_room hcat) hd ⟨by omega, by omega⟩) hS hgo
theorem q_callI {K : q_M} {np idx a : Nat} {as : List Value} {Q : Option Value → q_S → Prop} {st0 : List Value} (kc' ks' : Nat) (hkc : kc' + (q_R K).cells ≤ kc) (hks : ks' + (q_R K).slots ≤ ks) (hd : decode M.2.1 pc = .ok (.invokespecial idx, 3)) (hK : q_ok K np) (hL : Cond.methodLink M.1.cls idx K.1 ∈ q_WS ∧ Cond.instanceMethod K.1 ∈ q_WS) (hin : K.1.name = "<init>") (hrt : K.2.2.2.1 = none) (hR : q_fit M K) (hst : st0 = as.reverse ++ q_r g a :: st) (hnp : as.length = np) (hcat : (st.map fun v => v.category).sum ≤ 8) (hlen : (lg_sl (q_r g a :: as)).length ≤ K.2.2.1) (hc : q_Cn g K (q_r g a :: as) S Q) (k : ∀ (v : Option Value) (S' : q_S), Q v S' → q_V g M E Z kc' ks' (pc + 3) ls (v.toList ++ st) S') : q_V g M E Z kc ks pc ls st0 S := by
  intro p e s m args below meth c H locs cells slots la C P hS c1 c2 hl
  have hM := q_met hK hlen hc
  have hts := C.2.2.2.2.2.1
  have hpar : ∀ sig, parseMethodDescriptor K.1.desc = some sig → np = sig.parameters.length := fun sig h => by
    have h2 := hK.2.2.2.2
    rw [h] at h2
    exact (Option.some.inj h2).symm
  have hpay := pay_in hts (q_good hK.2.1)
  have hpre : ∀ U : State, U.heap = H → s.WarmedH U.vm → va_Pc (q_r g a :: as) (fun U => q_K g U ∧ q_P g S U.heap) (q_r g a :: as).toArray U := fun U hU hW => ⟨rfl, q_K_warm C.2.2.2.2.2.2.2.2.1 hW (fun q h1 h2 => by rw [hU]; exact hS.2.1 q h1 h2), by rw [hU]; exact P⟩
  have hgo : ∀ (v : Option Value) (S' : q_S) (H1 : Heap) (locs1 : List Loc), Q v S' → q_P g S' H1 → va_S (q_A g) s.heap H1 locs1 → W p g.1 e (q_R M) s m args below meth c H1 locs1 (cells + (q_R K).cells) (slots + (q_R K).slots) (Z below args s) (F0 m (pc + 3) la (v.toList ++ st)) := fun v S' H1 locs1 hq hP1 hS1 => k v S' hq p e s m args below meth c H1 locs1 _ _ la C hP1 hS1 (by omega) (by omega) hl
  have hcw := hts _ hK.2.1
  have hmem : Cond.code K.1 K.2.1 K.2.2.1 none ∈ q_ws1 K := by rw [← hrt]; exact List.mem_cons_self
  rw [hrt] at hcw
  exact q_after (va_runI (b := g.2.1 + a) (As := as) (rest := st) ⟨C.1, C.2.1, C.2.2.2.1, C.2.2.2.2.1, hts⟩ hM (n := np) ⟨⟨rfl, rfl, hR.1, hR.2, hpay, hmem, hcw, hts _ hK.2.2.1, hK.2.2.2.1, hpar, hts _ hL.1⟩, hin, hts _ hL.2⟩ ⟨q_blind, hpre⟩ rfl hnp hl.1 hst (lv_room hcat) hd ⟨by omega, by omega⟩) hS hgo
theorem q_callSN {K : q_M} {np idx : Nat} {as : List Value} {Q : Option Value → q_S → Prop} {st0 : List Value} (kc' ks' : Nat) (hkc : kc' + (q_R K).cells ≤ kc) (hks : ks' + (q_R K).slots ≤ ks) (hd : decode M.2.1 pc = .ok (.invokestatic idx, 3)) (hK : q_ok K np) (hL : (M.1.cls, idx, K.1) ∈ q_nest ∧ Cond.static K.1 ∈ q_WS) (hR : q_fit M K) (hst : st0 = as.reverse ++ st) (hnp : as.length = np) (hcat : (st.map fun v => v.category).sum ≤ 8) (hlen : (lg_sl as).length ≤ K.2.2.1) (hc : q_Cn g K as S Q) (k : ∀ (v : Option Value) (S' : q_S), Q v S' → q_V g M E Z kc' ks' (pc + 3) ls (v.toList ++ st) S') : q_V g M E Z kc ks pc ls st0 S := by
  intro p e s m args below meth c H locs cells slots la C P hS c1 c2 hl
  have hM := q_met hK hlen hc
  have hts := C.2.2.2.2.2.1
  have hpar : ∀ sig, parseMethodDescriptor K.1.desc = some sig → np = sig.parameters.length := fun sig h => by
    have h2 := hK.2.2.2.2
    rw [h] at h2
    exact (Option.some.inj h2).symm
  have hpay := pay_in hts (q_good hK.2.1)
  have hpre : ∀ U : State, U.heap = H → s.WarmedH U.vm → va_Pc (as) (fun U => q_K g U ∧ q_P g S U.heap) (as).toArray U := fun U hU hW => ⟨rfl, q_K_warm C.2.2.2.2.2.2.2.2.1 hW (fun q h1 h2 => by rw [hU]; exact hS.2.1 q h1 h2), by rw [hU]; exact P⟩
  have hgo : ∀ (v : Option Value) (S' : q_S) (H1 : Heap) (locs1 : List Loc), Q v S' → q_P g S' H1 → va_S (q_A g) s.heap H1 locs1 → W p g.1 e (q_R M) s m args below meth c H1 locs1 (cells + (q_R K).cells) (slots + (q_R K).slots) (Z below args s) (F0 m (pc + 3) la (v.toList ++ st)) := fun v S' H1 locs1 hq hP1 hS1 => k v S' hq p e s m args below meth c H1 locs1 _ _ la C hP1 hS1 (by omega) (by omega) hl
  exact q_after (va_runSN (host := RX9) (As := as) (rest := st) ⟨C.1, C.2.1, C.2.2.2.1, C.2.2.2.2.1, hts⟩ hM (n := np) ⟨⟨⟨rfl, rfl, hR.1, hR.2, hpay, List.mem_cons_self⟩, hts _ hK.2.1, hts _ hK.2.2.1, hK.2.2.2.1, hpar, va_Nw.use rfl (C.2.2.2.2.2.2.2.2.1.2.2.1 _ hL.1)⟩, hts _ hL.2, trivial⟩ ⟨q_blind, hpre⟩ rfl hnp hl.1 hst (lv_room hcat) hd ⟨by omega, by omega⟩) hS hgo
theorem q_callIN {K : q_M} {np idx a : Nat} {as : List Value} {Q : Option Value → q_S → Prop} {st0 : List Value} (kc' ks' : Nat) (hkc : kc' + (q_R K).cells ≤ kc) (hks : ks' + (q_R K).slots ≤ ks) (hd : decode M.2.1 pc = .ok (.invokespecial idx, 3)) (hK : q_ok K np) (hL : (M.1.cls, idx, K.1) ∈ q_nest ∧ Cond.instanceMethod K.1 ∈ q_WS) (hin : K.1.name = "<init>") (hrt : K.2.2.2.1 = none) (hR : q_fit M K) (hst : st0 = as.reverse ++ q_r g a :: st) (hnp : as.length = np) (hcat : (st.map fun v => v.category).sum ≤ 8) (hlen : (lg_sl (q_r g a :: as)).length ≤ K.2.2.1) (hc : q_Cn g K (q_r g a :: as) S Q) (k : ∀ (v : Option Value) (S' : q_S), Q v S' → q_V g M E Z kc' ks' (pc + 3) ls (v.toList ++ st) S') : q_V g M E Z kc ks pc ls st0 S := by
  intro p e s m args below meth c H locs cells slots la C P hS c1 c2 hl
  have hM := q_met hK hlen hc
  have hts := C.2.2.2.2.2.1
  have hpar : ∀ sig, parseMethodDescriptor K.1.desc = some sig → np = sig.parameters.length := fun sig h => by
    have h2 := hK.2.2.2.2
    rw [h] at h2
    exact (Option.some.inj h2).symm
  have hpay := pay_in hts (q_good hK.2.1)
  have hpre : ∀ U : State, U.heap = H → s.WarmedH U.vm → va_Pc (q_r g a :: as) (fun U => q_K g U ∧ q_P g S U.heap) (q_r g a :: as).toArray U := fun U hU hW => ⟨rfl, q_K_warm C.2.2.2.2.2.2.2.2.1 hW (fun q h1 h2 => by rw [hU]; exact hS.2.1 q h1 h2), by rw [hU]; exact P⟩
  have hgo : ∀ (v : Option Value) (S' : q_S) (H1 : Heap) (locs1 : List Loc), Q v S' → q_P g S' H1 → va_S (q_A g) s.heap H1 locs1 → W p g.1 e (q_R M) s m args below meth c H1 locs1 (cells + (q_R K).cells) (slots + (q_R K).slots) (Z below args s) (F0 m (pc + 3) la (v.toList ++ st)) := fun v S' H1 locs1 hq hP1 hS1 => k v S' hq p e s m args below meth c H1 locs1 _ _ la C hP1 hS1 (by omega) (by omega) hl
  have hcw := hts _ hK.2.1
  have hmem : Cond.code K.1 K.2.1 K.2.2.1 none ∈ q_ws1 K := by rw [← hrt]; exact List.mem_cons_self
  rw [hrt] at hcw
  exact q_after (va_runIN (host := RX9) (b := g.2.1 + a) (As := as) (rest := st) ⟨C.1, C.2.1, C.2.2.2.1, C.2.2.2.2.1, hts⟩ hM (n := np) ⟨⟨⟨rfl, rfl, hR.1, hR.2, hpay, hmem⟩, hcw, hts _ hK.2.2.1, hK.2.2.2.1, hpar, va_Nw.use rfl (C.2.2.2.2.2.2.2.2.1.2.2.1 _ hL.1)⟩, hin, hts _ hL.2⟩ ⟨q_blind, hpre⟩ rfl hnp hl.1 hst (lv_room hcat) hd ⟨by omega, by omega⟩) hS hgo
def q_dvb : FieldType → Bool := fun t => match t with
  | .int => true | .boolean => true | .long => true | .object _ => true | .array _ => true | _ => false
theorem q_dv : ∀ c, c < 11 → ∀ j, j < (q_cl c).2.2 → q_dvb (q_ty c j) = true := by decide +kernel
theorem q_dv0 {g : q_G} {S : q_S} {t : FieldType} (h : q_dvb t = true) (k j : Nat) (h1 : S.2.1 k j = 0) (h2 : S.2.2.1 k j = 0) (h3 : S.2.2.2 k j = none) : defaultValue t = q_val g S t k j := by
  cases t <;> first | (exfalso; revert h; simp [q_dvb]; done) | simp [q_val, q_kd, h1, h2, h3, defaultValue, q_o, va_rf]
theorem q_objInit {idx a : Nat} (hd : decode M.2.1 pc = .ok (.invokespecial idx, 3)) (hL : Cond.methodLink M.1.cls idx objectInit ∈ q_WS ∧ Cond.instanceMethod objectInit ∈ q_WS ∧ Cond.code objectInit ⟨#[0xb1]⟩ 1 none ∈ q_WS) (hfr : 1 ≤ (q_R M).frames) (hlo : (st.map fun v => v.category).sum + 12 ≤ (q_R M).locals) (k : q_V g M E Z kc ks (pc + 3) ls st S) : q_V g M E Z kc ks pc ls (q_r g a :: st) S := by
  intro p e s m args below meth c H locs cells slots la C P hS c1 c2 hl
  have hts := C.2.2.2.2.2.1
  exact W.objInit (a := g.2.1 + a) C.1 C.2.1 C.2.2.2.2.1 (hts _ hL.1) (hts _ hL.2.1) (hts _ hL.2.2) rfl (hl.1.trans C.2.2.2.1.symm) rfl hd hfr (by show 2 * 0 + _ + 12 ≤ _; omega) (k p e s m args below meth c H locs cells slots la C P hS c1 c2 hl)
/-- one cell more, all zero -/
def q_nw (S : q_S) : q_S := (S.1 + 1, fun k => if k = S.1 then (fun _ => 0) else S.2.1 k, fun k => if k = S.1 then (fun _ => 0) else S.2.2.1 k, fun k => if k = S.1 then (fun _ => none) else S.2.2.2 k)
theorem q_P_new {g : q_G} {S : q_S} {H H1 : Heap} (P : q_P g S H) (z1 : H1.size = H.size + 1) (o1 : ∀ q, q < H.size → H1[q]? = H[q]?) (hn : va_at g.2.2.1 vwCl (g.2.1 + S.1, q_e g (q_nw S) S.1) H1) : q_P g (q_nw S) H1 := by
  refine ⟨by rw [z1, P.1]; rfl, fun k q hk => ?_⟩
  obtain ⟨h1, rfl⟩ := q_ws_of hk
  by_cases hk : k < S.1
  · rw [q_e_congr (S := S) (by simp [q_nw, Nat.ne_of_lt hk]) (by simp [q_nw, Nat.ne_of_lt hk]) (by simp [q_nw, Nat.ne_of_lt hk])]
    exact (P.2 k _ (q_ws_at hk)).kept (o1 _ (by rw [P.1]; exact Nat.add_lt_add_left hk _))
  · have h1 : k < S.1 + 1 := h1
    have e : k = S.1 := by omega
    subst e
    exact hn
theorem q_new {idx ci N : Nat} (hd : decode M.2.1 pc = .ok (.new idx, 3)) (hlt : ci < 11) (hw : Cond.classLink M.1.cls idx (q_cl ci).1 ∈ q_WS ∧ Cond.instantiable (q_cl ci).1 (q_cl ci).2.2 ∈ q_WS ∧ Cond.initialized (q_cl ci).1 ∈ q_WS) (hN : (q_cl ci).2.2 = N) (hy : q_lay S.1 = (0, ci)) (k : q_V g M E Z kc ks (pc + 3) ls (q_r g S.1 :: st) (q_nw S)) : q_V g M E Z (kc + 1) (ks + N) pc ls st S := by
  intro p e s m args below meth c H locs cells slots la C P hS c1 c2 hl
  have hts := C.2.2.2.2.2.1
  have hK := C.2.2.2.2.2.2.2.2.1.1
  have hc := q_cl_at ci hlt
  have hKn := hK.1 ci _ hc
  refine W.newcK C.1 C.2.1 C.2.2.2.2.1 (hts _ hw.1) (hts _ hw.2.1) (hts _ hw.2.2) rfl hd (by omega) (by omega) hKn.2.1 P.1 fun H1 kC hkC e1 z1 o1 => ?_
  refine k p e s m args below meth c H1 locs _ _ la C (q_P_new P (by rw [P.1]; exact z1) (by rw [P.1]; exact o1) ?_) ⟨Nat.le_trans hS.1 (by rw [P.1, z1]; exact Nat.le_succ _), fun x h1 h2 => (o1 x (by rw [← P.1]; exact Nat.lt_of_lt_of_le h1 hS.1)).trans (hS.2.1 x h1 h2), hS.2.2⟩ (by omega) (by omega) hl
  have hq : q_e g (q_nw S) S.1 = .inr (ci, q_fs g (q_nw S) ci S.1) := by simp [q_e, hy]
  rw [hq]
  refine ⟨_, hc, (u_born (q_ty ci) hts (q_cl_in ci hlt) hKn hkC e1 (q_cl_ty ci hlt)).to (fun j hj => ?_)⟩
  show defaultValue (q_ty ci j) = vp_V _ j
  unfold vp_V
  rw [List.getD_eq_getElem?_getD, q_fs_at hj]
  exact q_dv0 (q_dv ci hlt j hj) S.1 j (by simp [q_nw]) (by simp [q_nw]) (by simp [q_nw])
theorem q_newI {n : Int32} {len : Nat} (hd : decode M.2.1 pc = .ok (.newarray .int, 2)) (hw : Cond.arrayClass .int ∈ q_WS) (hy : q_lay S.1 = (1, len)) (hn : ¬ n < 0) (hN : n.toNatClampNeg = len) (hB : len ≤ 1000000) (k : q_V g M E Z kc ks (pc + 2) ls (q_r g S.1 :: st) (q_nw S)) : q_V g M E Z (kc + 1) (ks + len) pc ls (.int n :: st) S := by
  intro p e s m args below meth c H locs cells slots la C P hS c1 c2 hl
  have hts := C.2.2.2.2.2.1
  have hK := C.2.2.2.2.2.2.2.2.1.1
  refine va_newaK (atype := .int) C.1 C.2.1 (hts _ hw) rfl hd rfl hn hN (by show len * _ ≤ _; simp [newarray.typeOf, componentBytes]; omega) (by omega) (by omega) P.1 fun H1 cA e1 z1 o1 hAr hNm => ?_
  refine k p e s m args below meth c H1 locs _ _ la C (q_P_new P (by rw [P.1]; exact z1) (by rw [P.1]; exact o1) ?_) ⟨Nat.le_trans hS.1 (by rw [P.1, z1]; exact Nat.le_succ _), fun x h1 h2 => (o1 x (by rw [← P.1]; exact Nat.lt_of_lt_of_le h1 hS.1)).trans (hS.2.1 x h1 h2), hS.2.2⟩ (by omega) (by omega) hl
  have hq : q_e g (q_nw S) S.1 = .inl (g.2.2.2.1 0, len, .inl (fun _ => 0)) := by simp [q_e, hy, q_nw]
  rw [hq]
  have hc : cA = g.2.2.2.1 0 := Option.some.inj (hNm.symm.trans (hK.2 0 _ rfl).2)
  subst hc
  show H1[g.2.1 + S.1]? = some (vp_cell _ _)
  rw [vp_cell_i]
  exact e1
theorem q_newL {n : Int32} {len : Nat} (hd : decode M.2.1 pc = .ok (.newarray .long, 2)) (hw : Cond.arrayClass .long ∈ q_WS) (hy : q_lay S.1 = (2, len)) (hn : ¬ n < 0) (hN : n.toNatClampNeg = len) (hB : len ≤ 1000000) (k : q_V g M E Z kc ks (pc + 2) ls (q_r g S.1 :: st) (q_nw S)) : q_V g M E Z (kc + 1) (ks + len) pc ls (.int n :: st) S := by
  intro p e s m args below meth c H locs cells slots la C P hS c1 c2 hl
  have hts := C.2.2.2.2.2.1
  have hK := C.2.2.2.2.2.2.2.2.1.1
  refine va_newaK (atype := .long) C.1 C.2.1 (hts _ hw) rfl hd rfl hn hN (by show len * _ ≤ _; simp [newarray.typeOf, componentBytes]; omega) (by omega) (by omega) P.1 fun H1 cA e1 z1 o1 hAr hNm => ?_
  refine k p e s m args below meth c H1 locs _ _ la C (q_P_new P (by rw [P.1]; exact z1) (by rw [P.1]; exact o1) ?_) ⟨Nat.le_trans hS.1 (by rw [P.1, z1]; exact Nat.le_succ _), fun x h1 h2 => (o1 x (by rw [← P.1]; exact Nat.lt_of_lt_of_le h1 hS.1)).trans (hS.2.1 x h1 h2), hS.2.2⟩ (by omega) (by omega) hl
  have hq : q_e g (q_nw S) S.1 = .inl (g.2.2.2.1 1, len, .inr (.inl (fun _ => 0))) := by simp [q_e, hy, q_nw]
  rw [hq]
  have hc : cA = g.2.2.2.1 1 := Option.some.inj (hNm.symm.trans (hK.2 1 _ rfl).2)
  subst hc
  show H1[g.2.1 + S.1]? = some (vp_cell _ _)
  rw [vp_cell_l]
  exact e1
theorem q_newZ {n : Int32} {len : Nat} (hd : decode M.2.1 pc = .ok (.newarray .boolean, 2)) (hw : Cond.arrayClass .boolean ∈ q_WS) (hy : q_lay S.1 = (3, len)) (hn : ¬ n < 0) (hN : n.toNatClampNeg = len) (hB : len ≤ 1000000) (k : q_V g M E Z kc ks (pc + 2) ls (q_r g S.1 :: st) (q_nw S)) : q_V g M E Z (kc + 1) (ks + len) pc ls (.int n :: st) S := by
  intro p e s m args below meth c H locs cells slots la C P hS c1 c2 hl
  have hts := C.2.2.2.2.2.1
  have hK := C.2.2.2.2.2.2.2.2.1.1
  refine va_newaK (atype := .boolean) C.1 C.2.1 (hts _ hw) rfl hd rfl hn hN (by show len * _ ≤ _; simp [newarray.typeOf, componentBytes]; omega) (by omega) (by omega) P.1 fun H1 cA e1 z1 o1 hAr hNm => ?_
  refine k p e s m args below meth c H1 locs _ _ la C (q_P_new P (by rw [P.1]; exact z1) (by rw [P.1]; exact o1) ?_) ⟨Nat.le_trans hS.1 (by rw [P.1, z1]; exact Nat.le_succ _), fun x h1 h2 => (o1 x (by rw [← P.1]; exact Nat.lt_of_lt_of_le h1 hS.1)).trans (hS.2.1 x h1 h2), hS.2.2⟩ (by omega) (by omega) hl
  have hq : q_e g (q_nw S) S.1 = .inl (g.2.2.2.1 2, len, .inl (fun _ => 0)) := by simp [q_e, hy, q_nw]
  rw [hq]
  have hc : cA = g.2.2.2.1 2 := Option.some.inj (hNm.symm.trans (hK.2 2 _ rfl).2)
  subst hc
  show H1[g.2.1 + S.1]? = some (vp_cell _ _)
  rw [vp_cell_i]
  exact e1
theorem q_newP {n : Int32} {len idx : Nat} (hd : decode M.2.1 pc = .ok (.anewarray idx, 3)) (hw : Cond.classLink M.1.cls idx RX5 ∈ q_WS) (hy : q_lay S.1 = (4, len)) (hn : ¬ n < 0) (hN : n.toNatClampNeg = len) (hB : len ≤ 1000000) (k : q_V g M E Z kc ks (pc + 3) ls (q_r g S.1 :: st) (q_nw S)) : q_V g M E Z (kc + 1) (ks + len) pc ls (.int n :: st) S := by
  intro p e s m args below meth c H locs cells slots la C P hS c1 c2 hl
  have hts := C.2.2.2.2.2.1
  have hK := C.2.2.2.2.2.2.2.2.1.1
  subst hN
  refine W.anew C.1 C.2.1 C.2.2.2.2.1 (hts _ hw) (va_AO.use C.2.2.2.2.2.2.2.2.1.2.2.2.1) rfl hd rfl hn (by omega) (by omega) (by omega) fun cA kA comp f1 f2 f3 f4 => ?_
  generalize hH1 : H.push ({ cls := cA, slots := Array.replicate n.toNatClampNeg .null, vm := .none } : Cell) = H1
  have z1 : H1.size = H.size + 1 := by rw [← hH1, Array.size_push]
  have e1 : H1[H.size]? = some (arrV cA n.toNatClampNeg (fun _ => .null)) := by rw [← hH1, Array.getElem?_push_size, ← arrV_new]
  have o1 : ∀ q : Nat, q < H.size → H1[q]? = H[q]? := fun q hq => by rw [← hH1, Array.getElem?_push, if_neg (Nat.ne_of_lt hq)]
  have hc : cA = g.2.2.2.1 3 := by
    obtain ⟨kA2, comp2, k1, k2, k3, k4⟩ := (hK.2 3 _ rfl).2
    exact Option.some.inj (f1.symm.trans k4)
  subst hc
  have hgo := k p e s m args below meth c H1 locs (cells + 1) (slots + n.toNatClampNeg) la C (q_P_new P z1 o1 (by
    have hq : q_e g (q_nw S) S.1 = .inl (g.2.2.2.1 3, n.toNatClampNeg, .inr (.inr (.inr (.inr (fun _ => none))))) := by simp [q_e, hy, q_nw, q_o]
    rw [hq]
    show H1[g.2.1 + S.1]? = some (vp_cell _ _)
    rw [vp_cell_q, ← P.1]
    exact e1)) ⟨Nat.le_trans hS.1 (by rw [z1]; exact Nat.le_succ _), fun x h1 h2 => (o1 x (Nat.lt_of_lt_of_le h1 hS.1)).trans (hS.2.1 x h1 h2), hS.2.2⟩ (by omega) (by omega) hl
  rw [P.1]
  exact hgo
theorem q_newS {n : Int32} {len idx : Nat} (hd : decode M.2.1 pc = .ok (.anewarray idx, 3)) (hw : Cond.classLink M.1.cls idx RX7 ∈ q_WS) (hy : q_lay S.1 = (5, len)) (hn : ¬ n < 0) (hN : n.toNatClampNeg = len) (hB : len ≤ 1000000) (k : q_V g M E Z kc ks (pc + 3) ls (q_r g S.1 :: st) (q_nw S)) : q_V g M E Z (kc + 1) (ks + len) pc ls (.int n :: st) S := by
  intro p e s m args below meth c H locs cells slots la C P hS c1 c2 hl
  have hts := C.2.2.2.2.2.1
  have hK := C.2.2.2.2.2.2.2.2.1.1
  subst hN
  refine W.anew C.1 C.2.1 C.2.2.2.2.1 (hts _ hw) (va_AO.use C.2.2.2.2.2.2.2.2.1.2.2.2.2) rfl hd rfl hn (by omega) (by omega) (by omega) fun cA kA comp f1 f2 f3 f4 => ?_
  generalize hH1 : H.push ({ cls := cA, slots := Array.replicate n.toNatClampNeg .null, vm := .none } : Cell) = H1
  have z1 : H1.size = H.size + 1 := by rw [← hH1, Array.size_push]
  have e1 : H1[H.size]? = some (arrV cA n.toNatClampNeg (fun _ => .null)) := by rw [← hH1, Array.getElem?_push_size, ← arrV_new]
  have o1 : ∀ q : Nat, q < H.size → H1[q]? = H[q]? := fun q hq => by rw [← hH1, Array.getElem?_push, if_neg (Nat.ne_of_lt hq)]
  have hc : cA = g.2.2.2.1 4 := by
    obtain ⟨kA2, comp2, k1, k2, k3, k4⟩ := (hK.2 4 _ rfl).2
    exact Option.some.inj (f1.symm.trans k4)
  subst hc
  have hgo := k p e s m args below meth c H1 locs (cells + 1) (slots + n.toNatClampNeg) la C (q_P_new P z1 o1 (by
    have hq : q_e g (q_nw S) S.1 = .inl (g.2.2.2.1 4, n.toNatClampNeg, .inr (.inr (.inr (.inr (fun _ => none))))) := by simp [q_e, hy, q_nw, q_o]
    rw [hq]
    show H1[g.2.1 + S.1]? = some (vp_cell _ _)
    rw [vp_cell_q, ← P.1]
    exact e1)) ⟨Nat.le_trans hS.1 (by rw [z1]; exact Nat.le_succ _), fun x h1 h2 => (o1 x (Nat.lt_of_lt_of_le h1 hS.1)).trans (hS.2.1 x h1 h2), hS.2.2⟩ (by omega) (by omega) hl
  rw [P.1]
  exact hgo
theorem q_aastP {a len v : Nat} {i : Int32} (hd : decode M.2.1 pc = .ok (.aastore, 1)) (hy : q_lay a = (4, len)) (ha : a < S.1) (hv : q_lay v = (0, 5)) (hva : v < S.1) (hin : vp_in i len) (k : q_V g M E Z kc ks (pc + 1) ls st (q_pr S a i.toNatClampNeg (some v))) : q_V g M E Z kc ks pc ls (q_r g v :: .int i :: q_r g a :: st) S := by
  intro p e s m args below meth c H locs cells slots la C P hS c1 c2 hl
  have hat : (q_ws g S)[a]? = some (g.2.1 + a, .inl (g.2.2.2.1 3, len, .inr (.inr (.inr (.inr (fun i => q_o g (S.2.2.2 a i))))))) := by rw [q_ws_at ha]; simp [q_e, hy]
  have hvt : (q_ws g S)[v]? = some (g.2.1 + v, .inr (5, q_fs g S 5 v)) := by rw [q_ws_at hva]; simp [q_e, hv]
  have hK := C.2.2.2.2.2.2.2.2.1.1
  have hlt : i.toNatClampNeg < len := Nat.not_le.mp fun q => hin (Or.inr q)
  have h0 : ¬ i < 0 := fun q => hin (Or.inl q)
  obtain ⟨r', hr', cellV, g1, g2, g3, -⟩ := P.2 v _ hvt
  have hcls := (hK.1 5 (q_cl 5) rfl).2
  obtain ⟨kA, comp, k1, k2, k3, -⟩ := (hK.2 3 _ rfl).2
  have hcomp : comp = g.2.2.1.1 5 := Option.some.inj (k3.symm.trans hcls.1)
  subst hcomp
  obtain ⟨kC, hkC, -⟩ := id hcls.2
  refine W.aast C.1 C.2.1 (P.2 a _ hat) (fun q h => by cases h) (fun h => by cases h) k1 k2 rfl hkC ⟨h0, by show _ < (arrV _ _ _).slots.size; rw [arrV_size]; exact hlt⟩ g1 (fun q h => by rw [g3] at h; cases h) (by rw [g2]; exact hkC) (by rw [g2]; exact va_assign hcls) rfl rfl hd fun H1 e1 z oq => ?_
  have hset : ∀ e : va_E, q_e g (q_pr S a i.toNatClampNeg (some v)) a = e → (q_ws g S).set a (g.2.1 + a, e) = q_ws g (q_pr S a i.toNatClampNeg (some v)) := fun e he => q_ws_set ha rfl he (fun k hk => q_e_congr (by simp [q_pr, q_up_row hk]) (by simp [q_pr, q_up_row hk]) (by simp [q_pr, q_up_row hk]))
  refine k p e s m args below meth c H1 _ cells slots la C ⟨by rw [z, P.1]; rfl, ?_⟩ (hS.put z oq (Nat.le_add_right _ _)) c1 c2 hl
  rw [← hset _ rfl]
  refine P.2.set q_ws_D hat ?_ oq
  have hq : q_e g (q_pr S a i.toNatClampNeg (some v)) a = .inl (g.2.2.2.1 3, len, .inr (.inr (.inr (.inr (fun j => q_o g (q_up S.2.2.2 a i.toNatClampNeg (some v) a j)))))) := by simp [q_e, hy, q_pr]
  rw [hq]
  show H1[g.2.1 + a]? = some (vp_cell _ _)
  rw [e1]
  rw [vp_cell_q, vp_cell_q, arrV_store]
  congr 2
  funext q
  by_cases hq : q = i.toNatClampNeg
  · subst hq
    simp [updV, q_up, va_rf, q_o]
  · simp [updV, q_up, hq]
theorem q_aastS {a len v : Nat} {i : Int32} (hd : decode M.2.1 pc = .ok (.aastore, 1)) (hy : q_lay a = (5, len)) (ha : a < S.1) (hv : q_lay v = (0, 7)) (hva : v < S.1) (hin : vp_in i len) (k : q_V g M E Z kc ks (pc + 1) ls st (q_pr S a i.toNatClampNeg (some v))) : q_V g M E Z kc ks pc ls (q_r g v :: .int i :: q_r g a :: st) S := by
  intro p e s m args below meth c H locs cells slots la C P hS c1 c2 hl
  have hat : (q_ws g S)[a]? = some (g.2.1 + a, .inl (g.2.2.2.1 4, len, .inr (.inr (.inr (.inr (fun i => q_o g (S.2.2.2 a i))))))) := by rw [q_ws_at ha]; simp [q_e, hy]
  have hvt : (q_ws g S)[v]? = some (g.2.1 + v, .inr (7, q_fs g S 7 v)) := by rw [q_ws_at hva]; simp [q_e, hv]
  have hK := C.2.2.2.2.2.2.2.2.1.1
  have hlt : i.toNatClampNeg < len := Nat.not_le.mp fun q => hin (Or.inr q)
  have h0 : ¬ i < 0 := fun q => hin (Or.inl q)
  obtain ⟨r', hr', cellV, g1, g2, g3, -⟩ := P.2 v _ hvt
  have hcls := (hK.1 7 (q_cl 7) rfl).2
  obtain ⟨kA, comp, k1, k2, k3, -⟩ := (hK.2 4 _ rfl).2
  have hcomp : comp = g.2.2.1.1 7 := Option.some.inj (k3.symm.trans hcls.1)
  subst hcomp
  obtain ⟨kC, hkC, -⟩ := id hcls.2
  refine W.aast C.1 C.2.1 (P.2 a _ hat) (fun q h => by cases h) (fun h => by cases h) k1 k2 rfl hkC ⟨h0, by show _ < (arrV _ _ _).slots.size; rw [arrV_size]; exact hlt⟩ g1 (fun q h => by rw [g3] at h; cases h) (by rw [g2]; exact hkC) (by rw [g2]; exact va_assign hcls) rfl rfl hd fun H1 e1 z oq => ?_
  have hset : ∀ e : va_E, q_e g (q_pr S a i.toNatClampNeg (some v)) a = e → (q_ws g S).set a (g.2.1 + a, e) = q_ws g (q_pr S a i.toNatClampNeg (some v)) := fun e he => q_ws_set ha rfl he (fun k hk => q_e_congr (by simp [q_pr, q_up_row hk]) (by simp [q_pr, q_up_row hk]) (by simp [q_pr, q_up_row hk]))
  refine k p e s m args below meth c H1 _ cells slots la C ⟨by rw [z, P.1]; rfl, ?_⟩ (hS.put z oq (Nat.le_add_right _ _)) c1 c2 hl
  rw [← hset _ rfl]
  refine P.2.set q_ws_D hat ?_ oq
  have hq : q_e g (q_pr S a i.toNatClampNeg (some v)) a = .inl (g.2.2.2.1 4, len, .inr (.inr (.inr (.inr (fun j => q_o g (q_up S.2.2.2 a i.toNatClampNeg (some v) a j)))))) := by simp [q_e, hy, q_pr]
  rw [hq]
  show H1[g.2.1 + a]? = some (vp_cell _ _)
  rw [e1]
  rw [vp_cell_q, vp_cell_q, arrV_store]
  congr 2
  funext q
  by_cases hq : q = i.toNatClampNeg
  · subst hq
    simp [updV, q_up, va_rf, q_o]
  · simp [updV, q_up, hq]
end QC
end
section
abbrev mX0_init : q_M := (yX0_init, cX0_init, 2, none, 2, 44, 19, 162)
theorem okX0_init : q_ok mX0_init 0 := ⟨by decide +kernel, q_w1 43 rfl rfl, q_w1 3 rfl rfl, ⟨by decide +kernel, by decide +kernel⟩, by decide +kernel⟩
abbrev mX0_findNearest : q_M := (yX0_findNearest, cX0_findNearest, 7, none, 4, 95, 0, 0)
theorem okX0_findNearest : q_ok mX0_findNearest 3 := ⟨by decide +kernel, q_w2 221 rfl rfl, q_w1 3 rfl rfl, ⟨by decide +kernel, by decide +kernel⟩, by decide +kernel⟩
abbrev mX0_minutesNearer : q_M := (yX0_minutesNearer, cX0_minutesNearer, 9, some .int, 4, 95, 0, 0)
theorem okX0_minutesNearer : q_ok mX0_minutesNearer 4 := ⟨by decide +kernel, q_w3 8 rfl rfl, q_w1 3 rfl rfl, ⟨by decide +kernel, by decide +kernel⟩, by decide +kernel⟩
abbrev mX0_beginAll : q_M := (yX0_beginAll, cX0_beginAll, 2, none, 1, 20, 0, 0)
theorem okX0_beginAll : q_ok mX0_beginAll 0 := ⟨by decide +kernel, q_w2 226 rfl rfl, q_w1 3 rfl rfl, ⟨by decide +kernel, by decide +kernel⟩, by decide +kernel⟩
abbrev mX0_moveAll : q_M := (yX0_moveAll, cX0_moveAll, 5, none, 3, 71, 0, 0)
theorem okX0_moveAll : q_ok mX0_moveAll 3 := ⟨by decide +kernel, q_w2 238 rfl rfl, q_w1 3 rfl rfl, ⟨by decide +kernel, by decide +kernel⟩, by decide +kernel⟩
abbrev mX0_squareOfPair : q_M := (yX0_squareOfPair, cX0_squareOfPair, 7, some .long, 1, 23, 0, 0)
theorem okX0_squareOfPair : q_ok mX0_squareOfPair 0 := ⟨by decide +kernel, q_w2 231 rfl rfl, q_w1 3 rfl rfl, ⟨by decide +kernel, by decide +kernel⟩, by decide +kernel⟩
abbrev mX1_init : q_M := (yX1_init, cX1_init, 1, none, 1, 24, 0, 0)
theorem okX1_init : q_ok mX1_init 0 := ⟨by decide +kernel, q_w1 28 rfl rfl, q_w1 2 rfl rfl, ⟨by decide +kernel, by decide +kernel⟩, by decide +kernel⟩
abbrev mX1_hides : q_M := (yX1_hides, cX1_hides, 2, some .boolean, 0, 0, 0, 0)
theorem okX1_hides : q_ok mX1_hides 1 := ⟨by decide +kernel, q_w2 206 rfl rfl, q_w1 2 rfl rfl, ⟨by decide +kernel, by decide +kernel⟩, by decide +kernel⟩
abbrev mX1_clearMinutes : q_M := (yX1_clearMinutes, cX1_clearMinutes, 4, some .int, 1, 24, 0, 0)
theorem okX1_clearMinutes : q_ok mX1_clearMinutes 2 := ⟨by decide +kernel, q_w4 67 rfl rfl, q_w1 2 rfl rfl, ⟨by decide +kernel, by decide +kernel⟩, by decide +kernel⟩
abbrev mX2_init : q_M := (yX2_init, cX2_init, 1, none, 2, 44, 7, 1255)
theorem okX2_init : q_ok mX2_init 0 := ⟨by decide +kernel, q_w1 234 rfl rfl, q_w1 8 rfl rfl, ⟨by decide +kernel, by decide +kernel⟩, by decide +kernel⟩
abbrev mX2_add : q_M := (yX2_add, cX2_add, 4, none, 0, 0, 0, 0)
theorem okX2_add : q_ok mX2_add 3 := ⟨by decide +kernel, q_w4 37 rfl rfl, q_w1 8 rfl rfl, ⟨by decide +kernel, by decide +kernel⟩, by decide +kernel⟩
abbrev mX2_explain : q_M := (yX2_explain, cX2_explain, 5, none, 4, 107, 0, 0)
theorem okX2_explain : q_ok mX2_explain 2 := ⟨by decide +kernel, q_w4 49 rfl rfl, q_w1 8 rfl rfl, ⟨by decide +kernel, by decide +kernel⟩, by decide +kernel⟩
abbrev mX2_goTheWay : q_M := (yX2_goTheWay, cX2_goTheWay, 4, none, 3, 71, 0, 0)
theorem okX2_goTheWay : q_ok mX2_goTheWay 2 := ⟨by decide +kernel, q_w4 56 rfl rfl, q_w1 8 rfl rfl, ⟨by decide +kernel, by decide +kernel⟩, by decide +kernel⟩
abbrev mX2_considerMisses : q_M := (yX2_considerMisses, cX2_considerMisses, 10, none, 3, 78, 0, 0)
theorem okX2_considerMisses : q_ok mX2_considerMisses 3 := ⟨by decide +kernel, q_w4 80 rfl rfl, q_w1 8 rfl rfl, ⟨by decide +kernel, by decide +kernel⟩, by decide +kernel⟩
abbrev mX2_misfitLess : q_M := (yX2_misfitLess, cX2_misfitLess, 12, some .long, 2, 47, 0, 0)
theorem okX2_misfitLess : q_ok mX2_misfitLess 5 := ⟨by decide +kernel, q_w4 62 rfl rfl, q_w1 8 rfl rfl, ⟨by decide +kernel, by decide +kernel⟩, by decide +kernel⟩
abbrev mX2_consider : q_M := (yX2_consider, cX2_consider, 5, none, 0, 0, 0, 0)
theorem okX2_consider : q_ok mX2_consider 3 := ⟨by decide +kernel, q_w4 76 rfl rfl, q_w1 8 rfl rfl, ⟨by decide +kernel, by decide +kernel⟩, by decide +kernel⟩
abbrev mX3_init : q_M := (yX3_init, cX3_init, 1, none, 1, 24, 4, 16)
theorem okX3_init : q_ok mX3_init 0 := ⟨by decide +kernel, q_w1 123 rfl rfl, q_w1 5 rfl rfl, ⟨by decide +kernel, by decide +kernel⟩, by decide +kernel⟩
abbrev mX3_canBeWithin : q_M := (yX3_canBeWithin, cX3_canBeWithin, 9, some .boolean, 1, 23, 0, 0)
theorem okX3_canBeWithin : q_ok mX3_canBeWithin 4 := ⟨by decide +kernel, q_w3 27 rfl rfl, q_w1 5 rfl rfl, ⟨by decide +kernel, by decide +kernel⟩, by decide +kernel⟩
abbrev mX3_waitAt : q_M := (yX3_waitAt, cX3_waitAt, 5, none, 3, 76, 0, 0)
theorem okX3_waitAt : q_ok mX3_waitAt 3 := ⟨by decide +kernel, q_w3 37 rfl rfl, q_w1 5 rfl rfl, ⟨by decide +kernel, by decide +kernel⟩, by decide +kernel⟩
abbrev mX3_plansInReach : q_M := (yX3_plansInReach, cX3_plansInReach, 6, some .int, 1, 23, 0, 0)
theorem okX3_plansInReach : q_ok mX3_plansInReach 1 := ⟨by decide +kernel, q_w3 43 rfl rfl, q_w1 5 rfl rfl, ⟨by decide +kernel, by decide +kernel⟩, by decide +kernel⟩
abbrev mX3_choose : q_M := (yX3_choose, cX3_choose, 8, none, 0, 0, 0, 0)
theorem okX3_choose : q_ok mX3_choose 4 := ⟨by decide +kernel, q_w3 54 rfl rfl, q_w1 5 rfl rfl, ⟨by decide +kernel, by decide +kernel⟩, by decide +kernel⟩
abbrev mX3_findMix : q_M := (yX3_findMix, cX3_findMix, 5, none, 2, 51, 0, 0)
theorem okX3_findMix : q_ok mX3_findMix 1 := ⟨by decide +kernel, q_w3 62 rfl rfl, q_w1 5 rfl rfl, ⟨by decide +kernel, by decide +kernel⟩, by decide +kernel⟩
abbrev mX3_considerMix : q_M := (yX3_considerMix, cX3_considerMix, 5, none, 1, 27, 0, 0)
theorem okX3_considerMix : q_ok mX3_considerMix 4 := ⟨by decide +kernel, q_w3 67 rfl rfl, q_w1 5 rfl rfl, ⟨by decide +kernel, by decide +kernel⟩, by decide +kernel⟩
abbrev mX4_init : q_M := (yX4_init, cX4_init, 3, none, 1, 24, 2, 9873)
theorem okX4_init : q_ok mX4_init 2 := ⟨by decide +kernel, q_w3 131 rfl rfl, q_w1 13 rfl rfl, ⟨by decide +kernel, by decide +kernel⟩, by decide +kernel⟩
abbrev mX4_foundDanger : q_M := (yX4_foundDanger, cX4_foundDanger, 1, some .int, 0, 0, 0, 0)
theorem okX4_foundDanger : q_ok mX4_foundDanger 0 := ⟨by decide +kernel, q_w4 6 rfl rfl, q_w1 13 rfl rfl, ⟨by decide +kernel, by decide +kernel⟩, by decide +kernel⟩
abbrev mX4_foundFuel : q_M := (yX4_foundFuel, cX4_foundFuel, 1, some .int, 0, 0, 0, 0)
theorem okX4_foundFuel : q_ok mX4_foundFuel 0 := ⟨by decide +kernel, q_w4 2 rfl rfl, q_w1 13 rfl rfl, ⟨by decide +kernel, by decide +kernel⟩, by decide +kernel⟩
abbrev mX4_findAlone : q_M := (yX4_findAlone, cX4_findAlone, 5, some .boolean, 5, 134, 0, 0)
theorem okX4_findAlone : q_ok mX4_findAlone 4 := ⟨by decide +kernel, q_w3 171 rfl rfl, q_w1 13 rfl rfl, ⟨by decide +kernel, by decide +kernel⟩, by decide +kernel⟩
abbrev mX4_findApart : q_M := (yX4_findApart, cX4_findApart, 7, some .boolean, 5, 134, 0, 0)
theorem okX4_findApart : q_ok mX4_findApart 5 := ⟨by decide +kernel, q_w4 14 rfl rfl, q_w1 13 rfl rfl, ⟨by decide +kernel, by decide +kernel⟩, by decide +kernel⟩
abbrev mX4_search : q_M := (yX4_search, cX4_search, 5, none, 4, 110, 0, 0)
theorem okX4_search : q_ok mX4_search 2 := ⟨by decide +kernel, q_w3 176 rfl rfl, q_w1 13 rfl rfl, ⟨by decide +kernel, by decide +kernel⟩, by decide +kernel⟩
abbrev mX4_weighRow : q_M := (yX4_weighRow, cX4_weighRow, 11, none, 3, 80, 0, 0)
theorem okX4_weighRow : q_ok mX4_weighRow 2 := ⟨by decide +kernel, q_w3 181 rfl rfl, q_w1 13 rfl rfl, ⟨by decide +kernel, by decide +kernel⟩, by decide +kernel⟩
abbrev mX4_weigh : q_M := (yX4_weigh, cX4_weigh, 11, some .int, 2, 50, 0, 0)
theorem okX4_weigh : q_ok mX4_weigh 4 := ⟨by decide +kernel, q_w3 185 rfl rfl, q_w1 13 rfl rfl, ⟨by decide +kernel, by decide +kernel⟩, by decide +kernel⟩
abbrev mX4_worthOfStaying : q_M := (yX4_worthOfStaying, cX4_worthOfStaying, 5, some .int, 0, 0, 0, 0)
theorem okX4_worthOfStaying : q_ok mX4_worthOfStaying 3 := ⟨by decide +kernel, q_w3 209 rfl rfl, q_w1 13 rfl rfl, ⟨by decide +kernel, by decide +kernel⟩, by decide +kernel⟩
abbrev mX4_worthOfGoing : q_M := (yX4_worthOfGoing, cX4_worthOfGoing, 6, some .int, 0, 0, 0, 0)
theorem okX4_worthOfGoing : q_ok mX4_worthOfGoing 3 := ⟨by decide +kernel, q_w3 217 rfl rfl, q_w1 13 rfl rfl, ⟨by decide +kernel, by decide +kernel⟩, by decide +kernel⟩
abbrev mX4_dayOf : q_M := (yX4_dayOf, cX4_dayOf, 3, some .int, 0, 0, 0, 0)
theorem okX4_dayOf : q_ok mX4_dayOf 2 := ⟨by decide +kernel, q_w3 189 rfl rfl, q_w1 13 rfl rfl, ⟨by decide +kernel, by decide +kernel⟩, by decide +kernel⟩
abbrev mX4_endsAt : q_M := (yX4_endsAt, cX4_endsAt, 3, some .boolean, 0, 0, 0, 0)
theorem okX4_endsAt : q_ok mX4_endsAt 2 := ⟨by decide +kernel, q_w3 205 rfl rfl, q_w1 13 rfl rfl, ⟨by decide +kernel, by decide +kernel⟩, by decide +kernel⟩
abbrev mX4_isApart : q_M := (yX4_isApart, cX4_isApart, 3, some .boolean, 1, 24, 0, 0)
theorem okX4_isApart : q_ok mX4_isApart 2 := ⟨by decide +kernel, q_w3 193 rfl rfl, q_w1 13 rfl rfl, ⟨by decide +kernel, by decide +kernel⟩, by decide +kernel⟩
abbrev mX4_isBeyondGap : q_M := (yX4_isBeyondGap, cX4_isBeyondGap, 5, some .boolean, 0, 0, 0, 0)
theorem okX4_isBeyondGap : q_ok mX4_isBeyondGap 2 := ⟨by decide +kernel, q_w3 201 rfl rfl, q_w1 13 rfl rfl, ⟨by decide +kernel, by decide +kernel⟩, by decide +kernel⟩
abbrev mX4_longOf : q_M := (yX4_longOf, cX4_longOf, 4, some .int, 0, 0, 0, 0)
theorem okX4_longOf : q_ok mX4_longOf 3 := ⟨by decide +kernel, q_w3 225 rfl rfl, q_w1 13 rfl rfl, ⟨by decide +kernel, by decide +kernel⟩, by decide +kernel⟩
abbrev mX4_shiftOf : q_M := (yX4_shiftOf, cX4_shiftOf, 1, some .int, 0, 0, 0, 0)
theorem okX4_shiftOf : q_ok mX4_shiftOf 1 := ⟨by decide +kernel, q_w3 229 rfl rfl, q_w1 13 rfl rfl, ⟨by decide +kernel, by decide +kernel⟩, by decide +kernel⟩
abbrev mX4_keepMove : q_M := (yX4_keepMove, cX4_keepMove, 8, none, 1, 23, 0, 0)
theorem okX4_keepMove : q_ok mX4_keepMove 4 := ⟨by decide +kernel, q_w3 221 rfl rfl, q_w1 13 rfl rfl, ⟨by decide +kernel, by decide +kernel⟩, by decide +kernel⟩
abbrev mX4_keptMove : q_M := (yX4_keptMove, cX4_keptMove, 4, some .int, 1, 23, 0, 0)
theorem okX4_keptMove : q_ok mX4_keptMove 3 := ⟨by decide +kernel, q_w3 238 rfl rfl, q_w1 13 rfl rfl, ⟨by decide +kernel, by decide +kernel⟩, by decide +kernel⟩
abbrev mX4_write : q_M := (yX4_write, cX4_write, 9, none, 2, 46, 0, 0)
theorem okX4_write : q_ok mX4_write 3 := ⟨by decide +kernel, q_w3 234 rfl rfl, q_w1 13 rfl rfl, ⟨by decide +kernel, by decide +kernel⟩, by decide +kernel⟩
abbrev mX5_init : q_M := (yX5_init, cX5_init, 1, none, 1, 24, 2, 24)
theorem okX5_init : q_ok mX5_init 0 := ⟨by decide +kernel, q_w2 41 rfl rfl, q_w1 9 rfl rfl, ⟨by decide +kernel, by decide +kernel⟩, by decide +kernel⟩
abbrev mX5_turnsAt : q_M := (yX5_turnsAt, cX5_turnsAt, 3, some .boolean, 0, 0, 0, 0)
theorem okX5_turnsAt : q_ok mX5_turnsAt 1 := ⟨by decide +kernel, q_w2 110 rfl rfl, q_w1 9 rfl rfl, ⟨by decide +kernel, by decide +kernel⟩, by decide +kernel⟩
abbrev mX5_insert : q_M := (yX5_insert, cX5_insert, 4, none, 0, 0, 0, 0)
theorem okX5_insert : q_ok mX5_insert 2 := ⟨by decide +kernel, q_w2 114 rfl rfl, q_w1 9 rfl rfl, ⟨by decide +kernel, by decide +kernel⟩, by decide +kernel⟩
abbrev mX5_heading : q_M := (yX5_heading, cX5_heading, 5, some .int, 0, 0, 0, 0)
theorem okX5_heading : q_ok mX5_heading 2 := ⟨by decide +kernel, q_w2 130 rfl rfl, q_w1 9 rfl rfl, ⟨by decide +kernel, by decide +kernel⟩, by decide +kernel⟩
abbrev mX5_legEnd : q_M := (yX5_legEnd, cX5_legEnd, 2, some .int, 0, 0, 0, 0)
theorem okX5_legEnd : q_ok mX5_legEnd 1 := ⟨by decide +kernel, q_w2 157 rfl rfl, q_w1 9 rfl rfl, ⟨by decide +kernel, by decide +kernel⟩, by decide +kernel⟩
abbrev mX5_courseAhead : q_M := (yX5_courseAhead, cX5_courseAhead, 2, some .int, 0, 0, 0, 0)
theorem okX5_courseAhead : q_ok mX5_courseAhead 1 := ⟨by decide +kernel, q_w4 84 rfl rfl, q_w1 9 rfl rfl, ⟨by decide +kernel, by decide +kernel⟩, by decide +kernel⟩
abbrev mX5_gain : q_M := (yX5_gain, cX5_gain, 11, some .long, 2, 46, 0, 0)
theorem okX5_gain : q_ok mX5_gain 2 := ⟨by decide +kernel, q_w2 140 rfl rfl, q_w1 9 rfl rfl, ⟨by decide +kernel, by decide +kernel⟩, by decide +kernel⟩
abbrev mX6_init : q_M := (yX6_init, cX6_init, 1, none, 1, 24, 4, 430)
theorem okX6_init : q_ok mX6_init 0 := ⟨by decide +kernel, q_w1 174 rfl rfl, q_w1 6 rfl rfl, ⟨by decide +kernel, by decide +kernel⟩, by decide +kernel⟩
abbrev mX6_add : q_M := (yX6_add, cX6_add, 4, none, 0, 0, 0, 0)
theorem okX6_add : q_ok mX6_add 3 := ⟨by decide +kernel, q_w3 76 rfl rfl, q_w1 6 rfl rfl, ⟨by decide +kernel, by decide +kernel⟩, by decide +kernel⟩
abbrev mX6_watchRing : q_M := (yX6_watchRing, cX6_watchRing, 3, none, 2, 47, 0, 0)
theorem okX6_watchRing : q_ok mX6_watchRing 1 := ⟨by decide +kernel, q_w3 84 rfl rfl, q_w1 6 rfl rfl, ⟨by decide +kernel, by decide +kernel⟩, by decide +kernel⟩
abbrev mX6_watchPoint : q_M := (yX6_watchPoint, cX6_watchPoint, 5, none, 1, 23, 0, 0)
theorem okX6_watchPoint : q_ok mX6_watchPoint 2 := ⟨by decide +kernel, q_w3 88 rfl rfl, q_w1 6 rfl rfl, ⟨by decide +kernel, by decide +kernel⟩, by decide +kernel⟩
abbrev mX6_pointsSeen : q_M := (yX6_pointsSeen, cX6_pointsSeen, 4, some .int, 0, 0, 0, 0)
theorem okX6_pointsSeen : q_ok mX6_pointsSeen 1 := ⟨by decide +kernel, q_w3 93 rfl rfl, q_w1 6 rfl rfl, ⟨by decide +kernel, by decide +kernel⟩, by decide +kernel⟩
abbrev mX6_bestPosts : q_M := (yX6_bestPosts, cX6_bestPosts, 6, some .int, 1, 23, 0, 0)
theorem okX6_bestPosts : q_ok mX6_bestPosts 1 := ⟨by decide +kernel, q_w3 101 rfl rfl, q_w1 6 rfl rfl, ⟨by decide +kernel, by decide +kernel⟩, by decide +kernel⟩
abbrev mX7_init : q_M := (yX7_init, cX7_init, 1, none, 1, 24, 1, 10)
theorem okX7_init : q_ok mX7_init 0 := ⟨by decide +kernel, q_w1 50 rfl rfl, q_w1 4 rfl rfl, ⟨by decide +kernel, by decide +kernel⟩, by decide +kernel⟩
abbrev mX7_set : q_M := (yX7_set, cX7_set, 5, none, 0, 0, 0, 0)
theorem okX7_set : q_ok mX7_set 4 := ⟨by decide +kernel, q_w2 178 rfl rfl, q_w1 4 rfl rfl, ⟨by decide +kernel, by decide +kernel⟩, by decide +kernel⟩
abbrev mX7_begin : q_M := (yX7_begin, cX7_begin, 1, none, 0, 0, 0, 0)
theorem okX7_begin : q_ok mX7_begin 0 := ⟨by decide +kernel, q_w2 198 rfl rfl, q_w1 4 rfl rfl, ⟨by decide +kernel, by decide +kernel⟩, by decide +kernel⟩
abbrev mX7_move : q_M := (yX7_move, cX7_move, 5, none, 2, 47, 0, 0)
theorem okX7_move : q_ok mX7_move 3 := ⟨by decide +kernel, q_w2 202 rfl rfl, q_w1 4 rfl rfl, ⟨by decide +kernel, by decide +kernel⟩, by decide +kernel⟩
abbrev mX7_heading : q_M := (yX7_heading, cX7_heading, 4, some .int, 1, 24, 0, 0)
theorem okX7_heading : q_ok mX7_heading 2 := ⟨by decide +kernel, q_w2 210 rfl rfl, q_w1 4 rfl rfl, ⟨by decide +kernel, by decide +kernel⟩, by decide +kernel⟩
abbrev mX8_init : q_M := (yX8_init, cX8_init, 1, none, 1, 24, 1, 41)
theorem okX8_init : q_ok mX8_init 0 := ⟨by decide +kernel, q_w1 200 rfl rfl, q_w1 7 rfl rfl, ⟨by decide +kernel, by decide +kernel⟩, by decide +kernel⟩
abbrev mX8_cellOn : q_M := (yX8_cellOn, cX8_cellOn, 2, some .int, 0, 0, 0, 0)
theorem okX8_cellOn : q_ok mX8_cellOn 1 := ⟨by decide +kernel, q_w3 197 rfl rfl, q_w1 7 rfl rfl, ⟨by decide +kernel, by decide +kernel⟩, by decide +kernel⟩
abbrev mX8_fuelTill : q_M := (yX8_fuelTill, cX8_fuelTill, 4, some .int, 0, 0, 0, 0)
theorem okX8_fuelTill : q_ok mX8_fuelTill 1 := ⟨by decide +kernel, q_w4 27 rfl rfl, q_w1 7 rfl rfl, ⟨by decide +kernel, by decide +kernel⟩, by decide +kernel⟩
abbrev mX9_init : q_M := (yX9_init, cX9_init, 2, none, 3, 65, 57, 2252)
theorem okX9_init : q_ok mX9_init 0 := ⟨by decide +kernel, q_w1 18 rfl rfl, q_w1 1 rfl rfl, ⟨by decide +kernel, by decide +kernel⟩, by decide +kernel⟩
abbrev mX9_turn : q_M := (yX9_turn, cX9_turn, 5, some .int, 1, 23, 0, 0)
theorem okX9_turn : q_ok mX9_turn 3 := ⟨by decide +kernel, q_w2 99 rfl rfl, q_w1 1 rfl rfl, ⟨by decide +kernel, by decide +kernel⟩, by decide +kernel⟩
abbrev mX9_clear : q_M := (yX9_clear, cX9_clear, 3, some .int, 1, 21, 0, 0)
theorem okX9_clear : q_ok mX9_clear 1 := ⟨by decide +kernel, q_w2 118 rfl rfl, q_w1 1 rfl rfl, ⟨by decide +kernel, by decide +kernel⟩, by decide +kernel⟩
abbrev mX9_ofTurn : q_M := (yX9_ofTurn, cX9_ofTurn, 4, some .int, 1, 22, 0, 0)
theorem okX9_ofTurn : q_ok mX9_ofTurn 3 := ⟨by decide +kernel, q_w2 122 rfl rfl, q_w1 1 rfl rfl, ⟨by decide +kernel, by decide +kernel⟩, by decide +kernel⟩
abbrev mX9_course : q_M := (yX9_course, cX9_course, 3, some .int, 1, 24, 0, 0)
theorem okX9_course : q_ok mX9_course 2 := ⟨by decide +kernel, q_w2 126 rfl rfl, q_w1 1 rfl rfl, ⟨by decide +kernel, by decide +kernel⟩, by decide +kernel⟩
abbrev mX9_ground : q_M := (yX9_ground, cX9_ground, 4, some .long, 3, 76, 0, 0)
theorem okX9_ground : q_ok mX9_ground 3 := ⟨by decide +kernel, q_w2 134 rfl rfl, q_w1 1 rfl rfl, ⟨by decide +kernel, by decide +kernel⟩, by decide +kernel⟩
abbrev mX9_steer : q_M := (yX9_steer, cX9_steer, 3, some .int, 1, 21, 0, 0)
theorem okX9_steer : q_ok mX9_steer 1 := ⟨by decide +kernel, q_w2 165 rfl rfl, q_w1 1 rfl rfl, ⟨by decide +kernel, by decide +kernel⟩, by decide +kernel⟩
abbrev mX9_ship : q_M := (yX9_ship, cX9_ship, 5, some .int, 2, 44, 0, 0)
theorem okX9_ship : q_ok mX9_ship 4 := ⟨by decide +kernel, q_w2 169 rfl rfl, q_w1 1 rfl rfl, ⟨by decide +kernel, by decide +kernel⟩, by decide +kernel⟩
abbrev mX9_miss : q_M := (yX9_miss, cX9_miss, 5, some .int, 2, 43, 0, 0)
theorem okX9_miss : q_ok mX9_miss 3 := ⟨by decide +kernel, q_w2 182 rfl rfl, q_w1 1 rfl rfl, ⟨by decide +kernel, by decide +kernel⟩, by decide +kernel⟩
abbrev mX9_fog : q_M := (yX9_fog, cX9_fog, 3, some .int, 1, 22, 0, 0)
theorem okX9_fog : q_ok mX9_fog 2 := ⟨by decide +kernel, q_w2 190 rfl rfl, q_w1 1 rfl rfl, ⟨by decide +kernel, by decide +kernel⟩, by decide +kernel⟩
abbrev mX9_place : q_M := (yX9_place, cX9_place, 6, some .long, 3, 71, 0, 0)
theorem okX9_place : q_ok mX9_place 3 := ⟨by decide +kernel, q_w2 194 rfl rfl, q_w1 1 rfl rfl, ⟨by decide +kernel, by decide +kernel⟩, by decide +kernel⟩
abbrev mX9_nearest : q_M := (yX9_nearest, cX9_nearest, 3, some .long, 5, 121, 0, 0)
theorem okX9_nearest : q_ok mX9_nearest 2 := ⟨by decide +kernel, q_w2 216 rfl rfl, q_w1 1 rfl rfl, ⟨by decide +kernel, by decide +kernel⟩, by decide +kernel⟩
abbrev mX9_close : q_M := (yX9_close, cX9_close, 3, some .int, 5, 123, 0, 0)
theorem okX9_close : q_ok mX9_close 2 := ⟨by decide +kernel, q_w3 3 rfl rfl, q_w1 1 rfl rfl, ⟨by decide +kernel, by decide +kernel⟩, by decide +kernel⟩
abbrev mX9_centre : q_M := (yX9_centre, cX9_centre, 3, some .int, 1, 22, 0, 0)
theorem okX9_centre : q_ok mX9_centre 1 := ⟨by decide +kernel, q_w3 12 rfl rfl, q_w1 1 rfl rfl, ⟨by decide +kernel, by decide +kernel⟩, by decide +kernel⟩
abbrev mX9_lurk : q_M := (yX9_lurk, cX9_lurk, 5, some .int, 1, 22, 0, 0)
theorem okX9_lurk : q_ok mX9_lurk 4 := ⟨by decide +kernel, q_w3 16 rfl rfl, q_w1 1 rfl rfl, ⟨by decide +kernel, by decide +kernel⟩, by decide +kernel⟩
abbrev mX9_comes : q_M := (yX9_comes, cX9_comes, 7, some .int, 3, 76, 0, 0)
theorem okX9_comes : q_ok mX9_comes 1 := ⟨by decide +kernel, q_w3 23 rfl rfl, q_w1 1 rfl rfl, ⟨by decide +kernel, by decide +kernel⟩, by decide +kernel⟩
abbrev mX9_gets : q_M := (yX9_gets, cX9_gets, 3, some .int, 4, 100, 0, 0)
theorem okX9_gets : q_ok mX9_gets 2 := ⟨by decide +kernel, q_w3 33 rfl rfl, q_w1 1 rfl rfl, ⟨by decide +kernel, by decide +kernel⟩, by decide +kernel⟩
abbrev mX9_worst : q_M := (yX9_worst, cX9_worst, 7, some .int, 4, 100, 0, 0)
theorem okX9_worst : q_ok mX9_worst 6 := ⟨by decide +kernel, q_w3 47 rfl rfl, q_w1 1 rfl rfl, ⟨by decide +kernel, by decide +kernel⟩, by decide +kernel⟩
abbrev mX9_mix : q_M := (yX9_mix, cX9_mix, 4, some .int, 4, 100, 0, 0)
theorem okX9_mix : q_ok mX9_mix 3 := ⟨by decide +kernel, q_w3 58 rfl rfl, q_w1 1 rfl rfl, ⟨by decide +kernel, by decide +kernel⟩, by decide +kernel⟩
abbrev mX9_post : q_M := (yX9_post, cX9_post, 4, some .int, 1, 23, 0, 0)
theorem okX9_post : q_ok mX9_post 3 := ⟨by decide +kernel, q_w3 72 rfl rfl, q_w1 1 rfl rfl, ⟨by decide +kernel, by decide +kernel⟩, by decide +kernel⟩
abbrev mX9_seen : q_M := (yX9_seen, cX9_seen, 3, some .int, 3, 69, 0, 0)
theorem okX9_seen : q_ok mX9_seen 2 := ⟨by decide +kernel, q_w3 80 rfl rfl, q_w1 1 rfl rfl, ⟨by decide +kernel, by decide +kernel⟩, by decide +kernel⟩
abbrev mX9_best : q_M := (yX9_best, cX9_best, 3, some .int, 3, 69, 0, 0)
theorem okX9_best : q_ok mX9_best 2 := ⟨by decide +kernel, q_w3 97 rfl rfl, q_w1 1 rfl rfl, ⟨by decide +kernel, by decide +kernel⟩, by decide +kernel⟩
abbrev mX9_danger : q_M := (yX9_danger, cX9_danger, 5, some .int, 1, 22, 0, 0)
theorem okX9_danger : q_ok mX9_danger 3 := ⟨by decide +kernel, q_w3 112 rfl rfl, q_w1 1 rfl rfl, ⟨by decide +kernel, by decide +kernel⟩, by decide +kernel⟩
abbrev mX9_route : q_M := (yX9_route, cX9_route, 6, some .int, 6, 158, 3, 9884)
theorem okX9_route : q_ok mX9_route 4 := ⟨by decide +kernel, q_w3 116 rfl rfl, q_w1 1 rfl rfl, ⟨by decide +kernel, by decide +kernel⟩, by decide +kernel⟩
abbrev mX9_apart : q_M := (yX9_apart, cX9_apart, 7, some .int, 6, 160, 3, 9884)
theorem okX9_apart : q_ok mX9_apart 5 := ⟨by decide +kernel, q_w4 10 rfl rfl, q_w1 1 rfl rfl, ⟨by decide +kernel, by decide +kernel⟩, by decide +kernel⟩
abbrev mX9_cell : q_M := (yX9_cell, cX9_cell, 4, some .int, 1, 22, 0, 0)
theorem okX9_cell : q_ok mX9_cell 2 := ⟨by decide +kernel, q_w4 18 rfl rfl, q_w1 1 rfl rfl, ⟨by decide +kernel, by decide +kernel⟩, by decide +kernel⟩
abbrev mX9_word : q_M := (yX9_word, cX9_word, 5, some .int, 6, 158, 3, 9884)
theorem okX9_word : q_ok mX9_word 2 := ⟨by decide +kernel, q_w4 23 rfl rfl, q_w1 1 rfl rfl, ⟨by decide +kernel, by decide +kernel⟩, by decide +kernel⟩
abbrev mX9_sight : q_M := (yX9_sight, cX9_sight, 4, some .int, 1, 23, 0, 0)
theorem okX9_sight : q_ok mX9_sight 3 := ⟨by decide +kernel, q_w4 31 rfl rfl, q_w1 1 rfl rfl, ⟨by decide +kernel, by decide +kernel⟩, by decide +kernel⟩
abbrev mX9_forget : q_M := (yX9_forget, cX9_forget, 2, some .int, 0, 0, 0, 0)
theorem okX9_forget : q_ok mX9_forget 0 := ⟨by decide +kernel, q_w4 41 rfl rfl, q_w1 1 rfl rfl, ⟨by decide +kernel, by decide +kernel⟩, by decide +kernel⟩
abbrev mX9_told : q_M := (yX9_told, cX9_told, 5, some .long, 5, 131, 0, 0)
theorem okX9_told : q_ok mX9_told 4 := ⟨by decide +kernel, q_w4 45 rfl rfl, q_w1 1 rfl rfl, ⟨by decide +kernel, by decide +kernel⟩, by decide +kernel⟩
abbrev mX9_about : q_M := (yX9_about, cX9_about, 2, some .int, 1, 22, 0, 0)
theorem okX9_about : q_ok mX9_about 1 := ⟨by decide +kernel, q_w4 91 rfl rfl, q_w1 1 rfl rfl, ⟨by decide +kernel, by decide +kernel⟩, by decide +kernel⟩
abbrev mX9_within : q_M := (yX9_within, cX9_within, 3, some .boolean, 0, 0, 0, 0)
theorem okX9_within : q_ok mX9_within 3 := ⟨by decide +kernel, q_w2 106 rfl rfl, q_w1 1 rfl rfl, ⟨by decide +kernel, by decide +kernel⟩, by decide +kernel⟩
abbrev mX9_isPlan : q_M := (yX9_isPlan, cX9_isPlan, 2, some .boolean, 0, 0, 0, 0)
theorem okX9_isPlan : q_ok mX9_isPlan 1 := ⟨by decide +kernel, q_w2 102 rfl rfl, q_w1 1 rfl rfl, ⟨by decide +kernel, by decide +kernel⟩, by decide +kernel⟩
abbrev mX9_isShip : q_M := (yX9_isShip, cX9_isShip, 2, some .boolean, 1, 22, 0, 0)
theorem okX9_isShip : q_ok mX9_isShip 1 := ⟨by decide +kernel, q_w2 186 rfl rfl, q_w1 1 rfl rfl, ⟨by decide +kernel, by decide +kernel⟩, by decide +kernel⟩
abbrev mX9_isStart : q_M := (yX9_isStart, cX9_isStart, 3, some .boolean, 1, 22, 0, 0)
theorem okX9_isStart : q_ok mX9_isStart 3 := ⟨by decide +kernel, q_w2 172 rfl rfl, q_w1 1 rfl rfl, ⟨by decide +kernel, by decide +kernel⟩, by decide +kernel⟩
abbrev mX9_isWeight : q_M := (yX9_isWeight, cX9_isWeight, 1, some .boolean, 1, 22, 0, 0)
theorem okX9_isWeight : q_ok mX9_isWeight 1 := ⟨by decide +kernel, q_w3 50 rfl rfl, q_w1 1 rfl rfl, ⟨by decide +kernel, by decide +kernel⟩, by decide +kernel⟩
abbrev mX9_isCell : q_M := (yX9_isCell, cX9_isCell, 1, some .boolean, 1, 22, 0, 0)
theorem okX9_isCell : q_ok mX9_isCell 1 := ⟨by decide +kernel, q_w3 119 rfl rfl, q_w1 1 rfl rfl, ⟨by decide +kernel, by decide +kernel⟩, by decide +kernel⟩
abbrev mX9_isVoyage : q_M := (yX9_isVoyage, cX9_isVoyage, 2, some .boolean, 1, 22, 0, 0)
theorem okX9_isVoyage : q_ok mX9_isVoyage 2 := ⟨by decide +kernel, q_w3 122 rfl rfl, q_w1 1 rfl rfl, ⟨by decide +kernel, by decide +kernel⟩, by decide +kernel⟩
abbrev mX9_landCells : q_M := (yX9_landCells, cX9_landCells, 3, some .int, 0, 0, 0, 0)
theorem okX9_landCells : q_ok mX9_landCells 0 := ⟨by decide +kernel, q_w4 95 rfl rfl, q_w1 1 rfl rfl, ⟨by decide +kernel, by decide +kernel⟩, by decide +kernel⟩
abbrev mX9_readyPilot : q_M := (yX9_readyPilot, cX9_readyPilot, 1, some (.object "ConvoyRoom$Pilot"), 2, 46, 3, 9884)
theorem okX9_readyPilot : q_ok mX9_readyPilot 0 := ⟨by decide +kernel, q_w3 126 rfl rfl, q_w1 1 rfl rfl, ⟨by decide +kernel, by decide +kernel⟩, by decide +kernel⟩
abbrev mX9_pace : q_M := (yX9_pace, cX9_pace, 3, some .int, 1, 24, 0, 0)
theorem okX9_pace : q_ok mX9_pace 2 := ⟨by decide +kernel, q_w2 143 rfl rfl, q_w1 1 rfl rfl, ⟨by decide +kernel, by decide +kernel⟩, by decide +kernel⟩
abbrev mX9_squareOf : q_M := (yX9_squareOf, cX9_squareOf, 4, some .long, 0, 0, 0, 0)
theorem okX9_squareOf : q_ok mX9_squareOf 2 := ⟨by decide +kernel, q_w2 234 rfl rfl, q_w1 1 rfl rfl, ⟨by decide +kernel, by decide +kernel⟩, by decide +kernel⟩
abbrev mX10_init : q_M := (yX10_init, cX10_init, 1, none, 1, 24, 30, 243005)
theorem okX10_init : q_ok mX10_init 0 := ⟨by decide +kernel, q_w4 101 rfl rfl, q_w1 10 rfl rfl, ⟨by decide +kernel, by decide +kernel⟩, by decide +kernel⟩
abbrev mX10_in : q_M := (yX10_in, cX10_in, 6, some .boolean, 0, 0, 0, 0)
theorem okX10_in : q_ok mX10_in 3 := ⟨by decide +kernel, q_w5 33 rfl rfl, q_w1 10 rfl rfl, ⟨by decide +kernel, by decide +kernel⟩, by decide +kernel⟩
abbrev mX10_size : q_M := (yX10_size, cX10_size, 1, some .int, 0, 0, 0, 0)
theorem okX10_size : q_ok mX10_size 1 := ⟨by decide +kernel, q_w5 77 rfl rfl, q_w1 10 rfl rfl, ⟨by decide +kernel, by decide +kernel⟩, by decide +kernel⟩
abbrev mX10_isPlan : q_M := (yX10_isPlan, cX10_isPlan, 1, some .boolean, 1, 25, 0, 0)
theorem okX10_isPlan : q_ok mX10_isPlan 1 := ⟨by decide +kernel, q_w5 29 rfl rfl, q_w1 10 rfl rfl, ⟨by decide +kernel, by decide +kernel⟩, by decide +kernel⟩
abbrev mX10_turn : q_M := (yX10_turn, cX10_turn, 7, some .int, 2, 45, 0, 0)
theorem okX10_turn : q_ok mX10_turn 3 := ⟨by decide +kernel, q_w5 26 rfl rfl, q_w1 10 rfl rfl, ⟨by decide +kernel, by decide +kernel⟩, by decide +kernel⟩
abbrev mX10_clear : q_M := (yX10_clear, cX10_clear, 3, some .int, 2, 45, 0, 0)
theorem okX10_clear : q_ok mX10_clear 1 := ⟨by decide +kernel, q_w5 40 rfl rfl, q_w1 10 rfl rfl, ⟨by decide +kernel, by decide +kernel⟩, by decide +kernel⟩
abbrev mX10_ofTurn : q_M := (yX10_ofTurn, cX10_ofTurn, 4, some .int, 2, 45, 0, 0)
theorem okX10_ofTurn : q_ok mX10_ofTurn 3 := ⟨by decide +kernel, q_w5 44 rfl rfl, q_w1 10 rfl rfl, ⟨by decide +kernel, by decide +kernel⟩, by decide +kernel⟩
abbrev mX10_missNone : q_M := (yX10_missNone, cX10_missNone, 2, none, 0, 0, 0, 0)
theorem okX10_missNone : q_ok mX10_missNone 0 := ⟨by decide +kernel, q_w5 53 rfl rfl, q_w1 10 rfl rfl, ⟨by decide +kernel, by decide +kernel⟩, by decide +kernel⟩
abbrev mX10_courseAt : q_M := (yX10_courseAt, cX10_courseAt, 7, some .int, 0, 0, 0, 0)
theorem okX10_courseAt : q_ok mX10_courseAt 2 := ⟨by decide +kernel, q_w5 57 rfl rfl, q_w1 10 rfl rfl, ⟨by decide +kernel, by decide +kernel⟩, by decide +kernel⟩
abbrev mX10_course : q_M := (yX10_course, cX10_course, 3, some .int, 2, 45, 0, 0)
theorem okX10_course : q_ok mX10_course 2 := ⟨by decide +kernel, q_w5 48 rfl rfl, q_w1 10 rfl rfl, ⟨by decide +kernel, by decide +kernel⟩, by decide +kernel⟩
abbrev mX10_part : q_M := (yX10_part, cX10_part, 1, some .int, 0, 0, 0, 0)
theorem okX10_part : q_ok mX10_part 1 := ⟨by decide +kernel, q_w5 80 rfl rfl, q_w1 10 rfl rfl, ⟨by decide +kernel, by decide +kernel⟩, by decide +kernel⟩
abbrev mX10_alongOf : q_M := (yX10_alongOf, cX10_alongOf, 1, some .int, 1, 20, 0, 0)
theorem okX10_alongOf : q_ok mX10_alongOf 1 := ⟨by decide +kernel, q_w5 74 rfl rfl, q_w1 10 rfl rfl, ⟨by decide +kernel, by decide +kernel⟩, by decide +kernel⟩
abbrev mX10_acrossOf : q_M := (yX10_acrossOf, cX10_acrossOf, 2, some .int, 1, 20, 0, 0)
theorem okX10_acrossOf : q_ok mX10_acrossOf 1 := ⟨by decide +kernel, q_w5 83 rfl rfl, q_w1 10 rfl rfl, ⟨by decide +kernel, by decide +kernel⟩, by decide +kernel⟩
abbrev mX10_go : q_M := (yX10_go, cX10_go, 3, none, 2, 41, 0, 0)
theorem okX10_go : q_ok mX10_go 2 := ⟨by decide +kernel, q_w5 71 rfl rfl, q_w1 10 rfl rfl, ⟨by decide +kernel, by decide +kernel⟩, by decide +kernel⟩
abbrev mX10_runPlan : q_M := (yX10_runPlan, cX10_runPlan, 5, none, 3, 63, 0, 0)
theorem okX10_runPlan : q_ok mX10_runPlan 3 := ⟨by decide +kernel, q_w5 67 rfl rfl, q_w1 10 rfl rfl, ⟨by decide +kernel, by decide +kernel⟩, by decide +kernel⟩
abbrev mX10_ground : q_M := (yX10_ground, cX10_ground, 4, some .long, 4, 87, 0, 0)
theorem okX10_ground : q_ok mX10_ground 3 := ⟨by decide +kernel, q_w5 61 rfl rfl, q_w1 10 rfl rfl, ⟨by decide +kernel, by decide +kernel⟩, by decide +kernel⟩
abbrev mX10_steer : q_M := (yX10_steer, cX10_steer, 3, some .int, 2, 45, 0, 0)
theorem okX10_steer : q_ok mX10_steer 1 := ⟨by decide +kernel, q_w5 87 rfl rfl, q_w1 10 rfl rfl, ⟨by decide +kernel, by decide +kernel⟩, by decide +kernel⟩
abbrev mX10_isStart : q_M := (yX10_isStart, cX10_isStart, 3, some .boolean, 1, 25, 0, 0)
theorem okX10_isStart : q_ok mX10_isStart 3 := ⟨by decide +kernel, q_w5 94 rfl rfl, q_w1 10 rfl rfl, ⟨by decide +kernel, by decide +kernel⟩, by decide +kernel⟩
abbrev mX10_ship : q_M := (yX10_ship, cX10_ship, 5, some .int, 2, 47, 0, 0)
theorem okX10_ship : q_ok mX10_ship 4 := ⟨by decide +kernel, q_w5 91 rfl rfl, q_w1 10 rfl rfl, ⟨by decide +kernel, by decide +kernel⟩, by decide +kernel⟩
abbrev mX10_miss : q_M := (yX10_miss, cX10_miss, 5, some .int, 1, 25, 0, 0)
theorem okX10_miss : q_ok mX10_miss 3 := ⟨by decide +kernel, q_w5 103 rfl rfl, q_w1 10 rfl rfl, ⟨by decide +kernel, by decide +kernel⟩, by decide +kernel⟩
abbrev mX10_fog : q_M := (yX10_fog, cX10_fog, 3, some .int, 1, 25, 0, 0)
theorem okX10_fog : q_ok mX10_fog 2 := ⟨by decide +kernel, q_w5 109 rfl rfl, q_w1 10 rfl rfl, ⟨by decide +kernel, by decide +kernel⟩, by decide +kernel⟩
abbrev mX10_step : q_M := (yX10_step, cX10_step, 5, none, 3, 63, 0, 0)
theorem okX10_step : q_ok mX10_step 3 := ⟨by decide +kernel, q_w5 121 rfl rfl, q_w1 10 rfl rfl, ⟨by decide +kernel, by decide +kernel⟩, by decide +kernel⟩
abbrev mX10_layMisses : q_M := (yX10_layMisses, cX10_layMisses, 3, none, 1, 21, 0, 0)
theorem okX10_layMisses : q_ok mX10_layMisses 1 := ⟨by decide +kernel, q_w5 117 rfl rfl, q_w1 10 rfl rfl, ⟨by decide +kernel, by decide +kernel⟩, by decide +kernel⟩
abbrev mX10_place : q_M := (yX10_place, cX10_place, 5, some .long, 4, 87, 0, 0)
theorem okX10_place : q_ok mX10_place 3 := ⟨by decide +kernel, q_w5 113 rfl rfl, q_w1 10 rfl rfl, ⟨by decide +kernel, by decide +kernel⟩, by decide +kernel⟩
abbrev mX10_begin : q_M := (yX10_begin, cX10_begin, 2, none, 0, 0, 0, 0)
theorem okX10_begin : q_ok mX10_begin 0 := ⟨by decide +kernel, q_w5 131 rfl rfl, q_w1 10 rfl rfl, ⟨by decide +kernel, by decide +kernel⟩, by decide +kernel⟩
abbrev mX10_stepAll : q_M := (yX10_stepAll, cX10_stepAll, 3, none, 4, 87, 0, 0)
theorem okX10_stepAll : q_ok mX10_stepAll 1 := ⟨by decide +kernel, q_w5 139 rfl rfl, q_w1 10 rfl rfl, ⟨by decide +kernel, by decide +kernel⟩, by decide +kernel⟩
abbrev mX10_apartOf : q_M := (yX10_apartOf, cX10_apartOf, 7, some .long, 0, 0, 0, 0)
theorem okX10_apartOf : q_ok mX10_apartOf 2 := ⟨by decide +kernel, q_w5 135 rfl rfl, q_w1 10 rfl rfl, ⟨by decide +kernel, by decide +kernel⟩, by decide +kernel⟩
abbrev mX10_nearest : q_M := (yX10_nearest, cX10_nearest, 11, some .long, 5, 109, 0, 0)
theorem okX10_nearest : q_ok mX10_nearest 2 := ⟨by decide +kernel, q_w5 125 rfl rfl, q_w1 10 rfl rfl, ⟨by decide +kernel, by decide +kernel⟩, by decide +kernel⟩
abbrev mX10_close : q_M := (yX10_close, cX10_close, 8, some .int, 5, 109, 0, 0)
theorem okX10_close : q_ok mX10_close 2 := ⟨by decide +kernel, q_w5 143 rfl rfl, q_w1 10 rfl rfl, ⟨by decide +kernel, by decide +kernel⟩, by decide +kernel⟩
abbrev mX10_centre : q_M := (yX10_centre, cX10_centre, 3, some .int, 1, 25, 0, 0)
theorem okX10_centre : q_ok mX10_centre 1 := ⟨by decide +kernel, q_w5 148 rfl rfl, q_w1 10 rfl rfl, ⟨by decide +kernel, by decide +kernel⟩, by decide +kernel⟩
abbrev mX10_lurk : q_M := (yX10_lurk, cX10_lurk, 5, some .int, 1, 25, 0, 0)
theorem okX10_lurk : q_ok mX10_lurk 4 := ⟨by decide +kernel, q_w5 152 rfl rfl, q_w1 10 rfl rfl, ⟨by decide +kernel, by decide +kernel⟩, by decide +kernel⟩
abbrev mX10_isWithin : q_M := (yX10_isWithin, cX10_isWithin, 6, some .boolean, 0, 0, 0, 0)
theorem okX10_isWithin : q_ok mX10_isWithin 3 := ⟨by decide +kernel, q_w5 163 rfl rfl, q_w1 10 rfl rfl, ⟨by decide +kernel, by decide +kernel⟩, by decide +kernel⟩
abbrev mX10_comes : q_M := (yX10_comes, cX10_comes, 3, some .int, 3, 63, 0, 0)
theorem okX10_comes : q_ok mX10_comes 1 := ⟨by decide +kernel, q_w5 159 rfl rfl, q_w1 10 rfl rfl, ⟨by decide +kernel, by decide +kernel⟩, by decide +kernel⟩
abbrev mX10_layPlans : q_M := (yX10_layPlans, cX10_layPlans, 3, none, 4, 87, 0, 0)
theorem okX10_layPlans : q_ok mX10_layPlans 1 := ⟨by decide +kernel, q_w5 171 rfl rfl, q_w1 10 rfl rfl, ⟨by decide +kernel, by decide +kernel⟩, by decide +kernel⟩
abbrev mX10_canBe : q_M := (yX10_canBe, cX10_canBe, 3, some .boolean, 1, 25, 0, 0)
theorem okX10_canBe : q_ok mX10_canBe 2 := ⟨by decide +kernel, q_w5 179 rfl rfl, q_w1 10 rfl rfl, ⟨by decide +kernel, by decide +kernel⟩, by decide +kernel⟩
abbrev mX10_getsAt : q_M := (yX10_getsAt, cX10_getsAt, 5, some .int, 2, 47, 0, 0)
theorem okX10_getsAt : q_ok mX10_getsAt 2 := ⟨by decide +kernel, q_w5 175 rfl rfl, q_w1 10 rfl rfl, ⟨by decide +kernel, by decide +kernel⟩, by decide +kernel⟩
abbrev mX10_gets : q_M := (yX10_gets, cX10_gets, 3, some .int, 5, 109, 0, 0)
theorem okX10_gets : q_ok mX10_gets 2 := ⟨by decide +kernel, q_w5 167 rfl rfl, q_w1 10 rfl rfl, ⟨by decide +kernel, by decide +kernel⟩, by decide +kernel⟩
abbrev mX10_layCaught : q_M := (yX10_layCaught, cX10_layCaught, 3, none, 5, 109, 0, 0)
theorem okX10_layCaught : q_ok mX10_layCaught 1 := ⟨by decide +kernel, q_w5 187 rfl rfl, q_w1 10 rfl rfl, ⟨by decide +kernel, by decide +kernel⟩, by decide +kernel⟩
abbrev mX10_worstOf : q_M := (yX10_worstOf, cX10_worstOf, 5, some .int, 0, 0, 0, 0)
theorem okX10_worstOf : q_ok mX10_worstOf 0 := ⟨by decide +kernel, q_w5 191 rfl rfl, q_w1 10 rfl rfl, ⟨by decide +kernel, by decide +kernel⟩, by decide +kernel⟩
abbrev mX10_worst : q_M := (yX10_worst, cX10_worst, 8, some .int, 6, 131, 0, 0)
theorem okX10_worst : q_ok mX10_worst 6 := ⟨by decide +kernel, q_w5 183 rfl rfl, q_w1 10 rfl rfl, ⟨by decide +kernel, by decide +kernel⟩, by decide +kernel⟩
abbrev mX10_mix : q_M := (yX10_mix, cX10_mix, 8, some .int, 6, 131, 0, 0)
theorem okX10_mix : q_ok mX10_mix 3 := ⟨by decide +kernel, q_w5 195 rfl rfl, q_w1 10 rfl rfl, ⟨by decide +kernel, by decide +kernel⟩, by decide +kernel⟩
abbrev mX10_post : q_M := (yX10_post, cX10_post, 4, some .int, 1, 25, 0, 0)
theorem okX10_post : q_ok mX10_post 3 := ⟨by decide +kernel, q_w5 200 rfl rfl, q_w1 10 rfl rfl, ⟨by decide +kernel, by decide +kernel⟩, by decide +kernel⟩
abbrev mX10_findSeers : q_M := (yX10_findSeers, cX10_findSeers, 6, none, 1, 25, 0, 0)
theorem okX10_findSeers : q_ok mX10_findSeers 1 := ⟨by decide +kernel, q_w5 211 rfl rfl, q_w1 10 rfl rfl, ⟨by decide +kernel, by decide +kernel⟩, by decide +kernel⟩
abbrev mX10_seenBy : q_M := (yX10_seenBy, cX10_seenBy, 5, some .int, 0, 0, 0, 0)
theorem okX10_seenBy : q_ok mX10_seenBy 2 := ⟨by decide +kernel, q_w5 215 rfl rfl, q_w1 10 rfl rfl, ⟨by decide +kernel, by decide +kernel⟩, by decide +kernel⟩
abbrev mX10_seen : q_M := (yX10_seen, cX10_seen, 3, some .int, 2, 50, 0, 0)
theorem okX10_seen : q_ok mX10_seen 2 := ⟨by decide +kernel, q_w5 207 rfl rfl, q_w1 10 rfl rfl, ⟨by decide +kernel, by decide +kernel⟩, by decide +kernel⟩
abbrev mX10_ones : q_M := (yX10_ones, cX10_ones, 3, some .int, 0, 0, 0, 0)
theorem okX10_ones : q_ok mX10_ones 1 := ⟨by decide +kernel, q_w5 222 rfl rfl, q_w1 10 rfl rfl, ⟨by decide +kernel, by decide +kernel⟩, by decide +kernel⟩
abbrev mX10_best : q_M := (yX10_best, cX10_best, 6, some .int, 2, 50, 0, 0)
theorem okX10_best : q_ok mX10_best 2 := ⟨by decide +kernel, q_w5 219 rfl rfl, q_w1 10 rfl rfl, ⟨by decide +kernel, by decide +kernel⟩, by decide +kernel⟩
abbrev mX10_danger : q_M := (yX10_danger, cX10_danger, 5, some .int, 1, 25, 0, 0)
theorem okX10_danger : q_ok mX10_danger 3 := ⟨by decide +kernel, q_w5 226 rfl rfl, q_w1 10 rfl rfl, ⟨by decide +kernel, by decide +kernel⟩, by decide +kernel⟩
abbrev mX10_isCell : q_M := (yX10_isCell, cX10_isCell, 1, some .boolean, 1, 25, 0, 0)
theorem okX10_isCell : q_ok mX10_isCell 1 := ⟨by decide +kernel, q_w5 234 rfl rfl, q_w1 10 rfl rfl, ⟨by decide +kernel, by decide +kernel⟩, by decide +kernel⟩
abbrev mX10_areBeside : q_M := (yX10_areBeside, cX10_areBeside, 2, some .boolean, 1, 20, 0, 0)
theorem okX10_areBeside : q_ok mX10_areBeside 2 := ⟨by decide +kernel, q_w6 41 rfl rfl, q_w1 10 rfl rfl, ⟨by decide +kernel, by decide +kernel⟩, by decide +kernel⟩
abbrev mX10_cellOf : q_M := (yX10_cellOf, cX10_cellOf, 3, some .int, 0, 0, 0, 0)
theorem okX10_cellOf : q_ok mX10_cellOf 2 := ⟨by decide +kernel, q_w6 14 rfl rfl, q_w1 10 rfl rfl, ⟨by decide +kernel, by decide +kernel⟩, by decide +kernel⟩
abbrev mX10_isNear : q_M := (yX10_isNear, cX10_isNear, 4, some .boolean, 1, 22, 0, 0)
theorem okX10_isNear : q_ok mX10_isNear 2 := ⟨by decide +kernel, q_w6 10 rfl rfl, q_w1 10 rfl rfl, ⟨by decide +kernel, by decide +kernel⟩, by decide +kernel⟩
abbrev mX10_isFree : q_M := (yX10_isFree, cX10_isFree, 3, some .boolean, 2, 45, 0, 0)
theorem okX10_isFree : q_ok mX10_isFree 2 := ⟨by decide +kernel, q_w6 6 rfl rfl, q_w1 10 rfl rfl, ⟨by decide +kernel, by decide +kernel⟩, by decide +kernel⟩
abbrev mX10_canStay : q_M := (yX10_canStay, cX10_canStay, 5, some .boolean, 3, 67, 0, 0)
theorem okX10_canStay : q_ok mX10_canStay 2 := ⟨by decide +kernel, q_w6 26 rfl rfl, q_w1 10 rfl rfl, ⟨by decide +kernel, by decide +kernel⟩, by decide +kernel⟩
abbrev mX10_placeOf : q_M := (yX10_placeOf, cX10_placeOf, 3, some .int, 0, 0, 0, 0)
theorem okX10_placeOf : q_ok mX10_placeOf 3 := ⟨by decide +kernel, q_w6 22 rfl rfl, q_w1 10 rfl rfl, ⟨by decide +kernel, by decide +kernel⟩, by decide +kernel⟩
abbrev mX10_byMove : q_M := (yX10_byMove, cX10_byMove, 7, some .int, 3, 67, 0, 0)
theorem okX10_byMove : q_ok mX10_byMove 4 := ⟨by decide +kernel, q_w6 34 rfl rfl, q_w1 10 rfl rfl, ⟨by decide +kernel, by decide +kernel⟩, by decide +kernel⟩
abbrev mX10_findCosts : q_M := (yX10_findCosts, cX10_findCosts, 7, none, 5, 122, 0, 0)
theorem okX10_findCosts : q_ok mX10_findCosts 3 := ⟨by decide +kernel, q_w6 19 rfl rfl, q_w1 10 rfl rfl, ⟨by decide +kernel, by decide +kernel⟩, by decide +kernel⟩
abbrev mX10_cheapest : q_M := (yX10_cheapest, cX10_cheapest, 10, some .int, 4, 93, 0, 0)
theorem okX10_cheapest : q_ok mX10_cheapest 3 := ⟨by decide +kernel, q_w6 30 rfl rfl, q_w1 10 rfl rfl, ⟨by decide +kernel, by decide +kernel⟩, by decide +kernel⟩
abbrev mX10_firstMove : q_M := (yX10_firstMove, cX10_firstMove, 6, some .int, 4, 93, 0, 0)
theorem okX10_firstMove : q_ok mX10_firstMove 3 := ⟨by decide +kernel, q_w6 38 rfl rfl, q_w1 10 rfl rfl, ⟨by decide +kernel, by decide +kernel⟩, by decide +kernel⟩
abbrev mX10_find : q_M := (yX10_find, cX10_find, 12, some .int, 6, 148, 0, 0)
theorem okX10_find : q_ok mX10_find 6 := ⟨by decide +kernel, q_w6 2 rfl rfl, q_w1 10 rfl rfl, ⟨by decide +kernel, by decide +kernel⟩, by decide +kernel⟩
abbrev mX10_isAllowed : q_M := (yX10_isAllowed, cX10_isAllowed, 2, some .boolean, 1, 25, 0, 0)
theorem okX10_isAllowed : q_ok mX10_isAllowed 2 := ⟨by decide +kernel, q_w5 238 rfl rfl, q_w1 10 rfl rfl, ⟨by decide +kernel, by decide +kernel⟩, by decide +kernel⟩
abbrev mX10_route : q_M := (yX10_route, cX10_route, 6, some .int, 7, 179, 0, 0)
theorem okX10_route : q_ok mX10_route 4 := ⟨by decide +kernel, q_w5 231 rfl rfl, q_w1 10 rfl rfl, ⟨by decide +kernel, by decide +kernel⟩, by decide +kernel⟩
abbrev mX10_apart : q_M := (yX10_apart, cX10_apart, 7, some .int, 7, 179, 0, 0)
theorem okX10_apart : q_ok mX10_apart 5 := ⟨by decide +kernel, q_w6 45 rfl rfl, q_w1 10 rfl rfl, ⟨by decide +kernel, by decide +kernel⟩, by decide +kernel⟩
abbrev mX10_fuelTill : q_M := (yX10_fuelTill, cX10_fuelTill, 5, some .int, 0, 0, 0, 0)
theorem okX10_fuelTill : q_ok mX10_fuelTill 2 := ⟨by decide +kernel, q_w6 54 rfl rfl, q_w1 10 rfl rfl, ⟨by decide +kernel, by decide +kernel⟩, by decide +kernel⟩
abbrev mX10_cell : q_M := (yX10_cell, cX10_cell, 3, some .int, 1, 25, 0, 0)
theorem okX10_cell : q_ok mX10_cell 2 := ⟨by decide +kernel, q_w6 49 rfl rfl, q_w1 10 rfl rfl, ⟨by decide +kernel, by decide +kernel⟩, by decide +kernel⟩
abbrev mX10_word : q_M := (yX10_word, cX10_word, 4, some .int, 7, 179, 0, 0)
theorem okX10_word : q_ok mX10_word 2 := ⟨by decide +kernel, q_w6 58 rfl rfl, q_w1 10 rfl rfl, ⟨by decide +kernel, by decide +kernel⟩, by decide +kernel⟩
abbrev mX10_sight : q_M := (yX10_sight, cX10_sight, 4, some .int, 1, 25, 0, 0)
theorem okX10_sight : q_ok mX10_sight 3 := ⟨by decide +kernel, q_w6 62 rfl rfl, q_w1 10 rfl rfl, ⟨by decide +kernel, by decide +kernel⟩, by decide +kernel⟩
abbrev mX10_forget : q_M := (yX10_forget, cX10_forget, 2, some .int, 0, 0, 0, 0)
theorem okX10_forget : q_ok mX10_forget 0 := ⟨by decide +kernel, q_w6 68 rfl rfl, q_w1 10 rfl rfl, ⟨by decide +kernel, by decide +kernel⟩, by decide +kernel⟩
abbrev mX10_far : q_M := (yX10_far, cX10_far, 4, some .long, 0, 0, 0, 0)
theorem okX10_far : q_ok mX10_far 2 := ⟨by decide +kernel, q_w6 83 rfl rfl, q_w1 10 rfl rfl, ⟨by decide +kernel, by decide +kernel⟩, by decide +kernel⟩
abbrev mX10_misfit : q_M := (yX10_misfit, cX10_misfit, 9, some .long, 4, 87, 0, 0)
theorem okX10_misfit : q_ok mX10_misfit 4 := ⟨by decide +kernel, q_w6 80 rfl rfl, q_w1 10 rfl rfl, ⟨by decide +kernel, by decide +kernel⟩, by decide +kernel⟩
abbrev mX10_tryFit : q_M := (yX10_tryFit, cX10_tryFit, 9, none, 5, 115, 0, 0)
theorem okX10_tryFit : q_ok mX10_tryFit 6 := ⟨by decide +kernel, q_w6 76 rfl rfl, q_w1 10 rfl rfl, ⟨by decide +kernel, by decide +kernel⟩, by decide +kernel⟩
abbrev mX10_told : q_M := (yX10_told, cX10_told, 9, some .long, 6, 143, 0, 0)
theorem okX10_told : q_ok mX10_told 4 := ⟨by decide +kernel, q_w6 72 rfl rfl, q_w1 10 rfl rfl, ⟨by decide +kernel, by decide +kernel⟩, by decide +kernel⟩
abbrev mX10_about : q_M := (yX10_about, cX10_about, 4, some .int, 1, 25, 0, 0)
theorem okX10_about : q_ok mX10_about 1 := ⟨by decide +kernel, q_w6 87 rfl rfl, q_w1 10 rfl rfl, ⟨by decide +kernel, by decide +kernel⟩, by decide +kernel⟩
abbrev mJ6_bitCount_0f7a4 : q_M := (yJ6_bitCount_0f7a4, cJ6_bitCount_0f7a4, 1, some .int, 0, 0, 0, 0)
theorem okJ6_bitCount_0f7a4 : q_ok mJ6_bitCount_0f7a4 1 := ⟨by decide +kernel, q_w3 104 rfl rfl, q_w1 12 rfl rfl, ⟨by decide +kernel, by decide +kernel⟩, by decide +kernel⟩
theorem fX1_7 : q_FL RX1 7 1 0 := ⟨by decide, by decide, q_w1 30 rfl rfl, rfl⟩
theorem fX9_136 : q_FL RX9 136 1 0 := ⟨by decide, by decide, q_w1 31 rfl rfl, rfl⟩
theorem fX1_13 : q_FL RX1 13 1 1 := ⟨by decide, by decide, q_w1 32 rfl rfl, rfl⟩
theorem fX9_139 : q_FL RX9 139 1 1 := ⟨by decide, by decide, q_w1 33 rfl rfl, rfl⟩
theorem fX7_9 : q_FL RX7 9 7 0 := ⟨by decide, by decide, q_w1 52 rfl rfl, rfl⟩
theorem fX7_15 : q_FL RX7 15 7 1 := ⟨by decide, by decide, q_w1 53 rfl rfl, rfl⟩
theorem fX7_18 : q_FL RX7 18 7 2 := ⟨by decide, by decide, q_w1 54 rfl rfl, rfl⟩
theorem fX2_95 : q_FL RX2 95 7 2 := ⟨by decide, by decide, q_w1 55 rfl rfl, rfl⟩
theorem fX7_21 : q_FL RX7 21 7 3 := ⟨by decide, by decide, q_w1 56 rfl rfl, rfl⟩
theorem fX2_59 : q_FL RX2 59 7 3 := ⟨by decide, by decide, q_w1 57 rfl rfl, rfl⟩
theorem fX7_24 : q_FL RX7 24 7 4 := ⟨by decide, by decide, q_w1 58 rfl rfl, rfl⟩
theorem fX9_133 : q_FL RX9 133 7 4 := ⟨by decide, by decide, q_w1 59 rfl rfl, rfl⟩
theorem fX7_28 : q_FL RX7 28 7 5 := ⟨by decide, by decide, q_w1 60 rfl rfl, rfl⟩
theorem fX2_79 : q_FL RX2 79 7 5 := ⟨by decide, by decide, q_w1 61 rfl rfl, rfl⟩
theorem fX0_65 : q_FL RX0 65 7 5 := ⟨by decide, by decide, q_w1 62 rfl rfl, rfl⟩
theorem fX9_149 : q_FL RX9 149 7 5 := ⟨by decide, by decide, q_w1 63 rfl rfl, rfl⟩
theorem fX7_32 : q_FL RX7 32 7 6 := ⟨by decide, by decide, q_w1 64 rfl rfl, rfl⟩
theorem fX2_82 : q_FL RX2 82 7 6 := ⟨by decide, by decide, q_w1 65 rfl rfl, rfl⟩
theorem fX0_68 : q_FL RX0 68 7 6 := ⟨by decide, by decide, q_w1 66 rfl rfl, rfl⟩
theorem fX9_153 : q_FL RX9 153 7 6 := ⟨by decide, by decide, q_w1 67 rfl rfl, rfl⟩
theorem fX0_11 : q_FL RX0 11 0 0 := ⟨by decide, by decide, q_w1 84 rfl rfl, rfl⟩
theorem fX9_117 : q_FL RX9 117 0 0 := ⟨by decide, by decide, q_w1 85 rfl rfl, rfl⟩
theorem fX0_17 : q_FL RX0 17 0 1 := ⟨by decide, by decide, q_w1 86 rfl rfl, rfl⟩
theorem fX9_116 : q_FL RX9 116 0 1 := ⟨by decide, by decide, q_w1 87 rfl rfl, rfl⟩
theorem fX0_21 : q_FL RX0 21 0 2 := ⟨by decide, by decide, q_w1 88 rfl rfl, rfl⟩
theorem fX9_130 : q_FL RX9 130 0 2 := ⟨by decide, by decide, q_w1 89 rfl rfl, rfl⟩
theorem fX0_24 : q_FL RX0 24 0 3 := ⟨by decide, by decide, q_w1 90 rfl rfl, rfl⟩
theorem fX0_27 : q_FL RX0 27 0 4 := ⟨by decide, by decide, q_w1 91 rfl rfl, rfl⟩
theorem fX0_30 : q_FL RX0 30 0 5 := ⟨by decide, by decide, q_w1 92 rfl rfl, rfl⟩
theorem fX9_161 : q_FL RX9 161 0 5 := ⟨by decide, by decide, q_w1 93 rfl rfl, rfl⟩
theorem fX0_34 : q_FL RX0 34 0 6 := ⟨by decide, by decide, q_w1 94 rfl rfl, rfl⟩
theorem fX9_164 : q_FL RX9 164 0 6 := ⟨by decide, by decide, q_w1 95 rfl rfl, rfl⟩
theorem fX0_37 : q_FL RX0 37 0 7 := ⟨by decide, by decide, q_w1 96 rfl rfl, rfl⟩
theorem fX9_167 : q_FL RX9 167 0 7 := ⟨by decide, by decide, q_w1 97 rfl rfl, rfl⟩
theorem fX0_40 : q_FL RX0 40 0 8 := ⟨by decide, by decide, q_w1 98 rfl rfl, rfl⟩
theorem fX9_170 : q_FL RX9 170 0 8 := ⟨by decide, by decide, q_w1 99 rfl rfl, rfl⟩
theorem fX3_10 : q_FL RX3 10 3 0 := ⟨by decide, by decide, q_w1 126 rfl rfl, rfl⟩
theorem fX9_181 : q_FL RX9 181 3 0 := ⟨by decide, by decide, q_w1 127 rfl rfl, rfl⟩
theorem fX3_16 : q_FL RX3 16 3 1 := ⟨by decide, by decide, q_w1 128 rfl rfl, rfl⟩
theorem fX9_184 : q_FL RX9 184 3 1 := ⟨by decide, by decide, q_w1 129 rfl rfl, rfl⟩
theorem fX3_19 : q_FL RX3 19 3 2 := ⟨by decide, by decide, q_w1 130 rfl rfl, rfl⟩
theorem fX9_187 : q_FL RX9 187 3 2 := ⟨by decide, by decide, q_w1 131 rfl rfl, rfl⟩
theorem fX3_22 : q_FL RX3 22 3 3 := ⟨by decide, by decide, q_w1 132 rfl rfl, rfl⟩
theorem fX9_190 : q_FL RX9 190 3 3 := ⟨by decide, by decide, q_w1 133 rfl rfl, rfl⟩
theorem fX3_25 : q_FL RX3 25 3 4 := ⟨by decide, by decide, q_w1 134 rfl rfl, rfl⟩
theorem fX3_29 : q_FL RX3 29 3 5 := ⟨by decide, by decide, q_w1 135 rfl rfl, rfl⟩
theorem fX3_32 : q_FL RX3 32 3 6 := ⟨by decide, by decide, q_w1 136 rfl rfl, rfl⟩
theorem fX9_201 : q_FL RX9 201 3 6 := ⟨by decide, by decide, q_w1 137 rfl rfl, rfl⟩
theorem fX3_36 : q_FL RX3 36 3 7 := ⟨by decide, by decide, q_w1 138 rfl rfl, rfl⟩
theorem fX9_210 : q_FL RX9 210 3 7 := ⟨by decide, by decide, q_w1 139 rfl rfl, rfl⟩
theorem fX3_39 : q_FL RX3 39 3 8 := ⟨by decide, by decide, q_w1 140 rfl rfl, rfl⟩
theorem fX9_213 : q_FL RX9 213 3 8 := ⟨by decide, by decide, q_w1 141 rfl rfl, rfl⟩
theorem fX3_42 : q_FL RX3 42 3 9 := ⟨by decide, by decide, q_w1 142 rfl rfl, rfl⟩
theorem fX9_223 : q_FL RX9 223 3 9 := ⟨by decide, by decide, q_w1 143 rfl rfl, rfl⟩
theorem fX3_45 : q_FL RX3 45 3 10 := ⟨by decide, by decide, q_w1 144 rfl rfl, rfl⟩
theorem fX9_220 : q_FL RX9 220 3 10 := ⟨by decide, by decide, q_w1 145 rfl rfl, rfl⟩
theorem fX6_9 : q_FL RX6 9 6 0 := ⟨by decide, by decide, q_w1 176 rfl rfl, rfl⟩
theorem fX6_15 : q_FL RX6 15 6 1 := ⟨by decide, by decide, q_w1 177 rfl rfl, rfl⟩
theorem fX6_18 : q_FL RX6 18 6 2 := ⟨by decide, by decide, q_w1 178 rfl rfl, rfl⟩
theorem fX6_21 : q_FL RX6 21 6 3 := ⟨by decide, by decide, q_w1 179 rfl rfl, rfl⟩
theorem fX9_226 : q_FL RX9 226 6 3 := ⟨by decide, by decide, q_w1 180 rfl rfl, rfl⟩
theorem fX6_25 : q_FL RX6 25 6 4 := ⟨by decide, by decide, q_w1 181 rfl rfl, rfl⟩
theorem fX6_28 : q_FL RX6 28 6 5 := ⟨by decide, by decide, q_w1 182 rfl rfl, rfl⟩
theorem fX8_9 : q_FL RX8 9 8 0 := ⟨by decide, by decide, q_w1 202 rfl rfl, rfl⟩
theorem fX4_131 : q_FL RX4 131 8 0 := ⟨by decide, by decide, q_w1 203 rfl rfl, rfl⟩
theorem fX9_272 : q_FL RX9 272 8 0 := ⟨by decide, by decide, q_w1 204 rfl rfl, rfl⟩
theorem fX8_15 : q_FL RX8 15 8 1 := ⟨by decide, by decide, q_w1 205 rfl rfl, rfl⟩
theorem fX4_119 : q_FL RX4 119 8 1 := ⟨by decide, by decide, q_w1 206 rfl rfl, rfl⟩
theorem fX8_19 : q_FL RX8 19 8 2 := ⟨by decide, by decide, q_w1 207 rfl rfl, rfl⟩
theorem fX4_125 : q_FL RX4 125 8 2 := ⟨by decide, by decide, q_w1 208 rfl rfl, rfl⟩
theorem fX9_280 : q_FL RX9 280 8 2 := ⟨by decide, by decide, q_w1 209 rfl rfl, rfl⟩
theorem fX8_23 : q_FL RX8 23 8 3 := ⟨by decide, by decide, q_w1 210 rfl rfl, rfl⟩
theorem fX4_128 : q_FL RX4 128 8 3 := ⟨by decide, by decide, q_w1 211 rfl rfl, rfl⟩
theorem fX9_283 : q_FL RX9 283 8 3 := ⟨by decide, by decide, q_w1 212 rfl rfl, rfl⟩
theorem fX8_26 : q_FL RX8 26 8 4 := ⟨by decide, by decide, q_w1 213 rfl rfl, rfl⟩
theorem fX9_262 : q_FL RX9 262 8 4 := ⟨by decide, by decide, q_w1 214 rfl rfl, rfl⟩
theorem fX8_29 : q_FL RX8 29 8 5 := ⟨by decide, by decide, q_w1 215 rfl rfl, rfl⟩
theorem fX9_265 : q_FL RX9 265 8 5 := ⟨by decide, by decide, q_w1 216 rfl rfl, rfl⟩
theorem fX2_9 : q_FL RX2 9 2 0 := ⟨by decide, by decide, q_w1 238 rfl rfl, rfl⟩
theorem fX2_15 : q_FL RX2 15 2 1 := ⟨by decide, by decide, q_w1 239 rfl rfl, rfl⟩
theorem fX2_18 : q_FL RX2 18 2 2 := ⟨by decide, by decide, q_w2 0 rfl rfl, rfl⟩
theorem fX2_21 : q_FL RX2 21 2 3 := ⟨by decide, by decide, q_w2 1 rfl rfl, rfl⟩
theorem fX9_294 : q_FL RX9 294 2 3 := ⟨by decide, by decide, q_w2 2 rfl rfl, rfl⟩
theorem fX2_28 : q_FL RX2 28 2 4 := ⟨by decide, by decide, q_w2 3 rfl rfl, rfl⟩
theorem fX9_296 : q_FL RX9 296 2 4 := ⟨by decide, by decide, q_w2 4 rfl rfl, rfl⟩
theorem fX2_32 : q_FL RX2 32 2 5 := ⟨by decide, by decide, q_w2 5 rfl rfl, rfl⟩
theorem fX2_36 : q_FL RX2 36 2 6 := ⟨by decide, by decide, q_w2 6 rfl rfl, rfl⟩
theorem fX2_39 : q_FL RX2 39 2 7 := ⟨by decide, by decide, q_w2 7 rfl rfl, rfl⟩
theorem fX9_304 : q_FL RX9 304 2 7 := ⟨by decide, by decide, q_w2 8 rfl rfl, rfl⟩
theorem fX2_43 : q_FL RX2 43 2 8 := ⟨by decide, by decide, q_w2 9 rfl rfl, rfl⟩
theorem fX9_307 : q_FL RX9 307 2 8 := ⟨by decide, by decide, q_w2 10 rfl rfl, rfl⟩
theorem fX2_46 : q_FL RX2 46 2 9 := ⟨by decide, by decide, q_w2 11 rfl rfl, rfl⟩
theorem fX9_310 : q_FL RX9 310 2 9 := ⟨by decide, by decide, q_w2 12 rfl rfl, rfl⟩
theorem fX2_49 : q_FL RX2 49 2 10 := ⟨by decide, by decide, q_w2 13 rfl rfl, rfl⟩
theorem fX9_313 : q_FL RX9 313 2 10 := ⟨by decide, by decide, q_w2 14 rfl rfl, rfl⟩
theorem fX5_9 : q_FL RX5 9 5 0 := ⟨by decide, by decide, q_w2 43 rfl rfl, rfl⟩
theorem fX9_95 : q_FL RX9 95 5 0 := ⟨by decide, by decide, q_w2 44 rfl rfl, rfl⟩
theorem fX2_105 : q_FL RX2 105 5 0 := ⟨by decide, by decide, q_w2 45 rfl rfl, rfl⟩
theorem fX5_15 : q_FL RX5 15 5 1 := ⟨by decide, by decide, q_w2 46 rfl rfl, rfl⟩
theorem fX9_98 : q_FL RX9 98 5 1 := ⟨by decide, by decide, q_w2 47 rfl rfl, rfl⟩
theorem fX2_102 : q_FL RX2 102 5 1 := ⟨by decide, by decide, q_w2 48 rfl rfl, rfl⟩
theorem fX5_18 : q_FL RX5 18 5 2 := ⟨by decide, by decide, q_w2 49 rfl rfl, rfl⟩
theorem fX9_84 : q_FL RX9 84 5 2 := ⟨by decide, by decide, q_w2 50 rfl rfl, rfl⟩
theorem fX2_88 : q_FL RX2 88 5 2 := ⟨by decide, by decide, q_w2 51 rfl rfl, rfl⟩
theorem fX9_11 : q_FL RX9 11 9 0 := ⟨by decide, by decide, q_w2 59 rfl rfl, rfl⟩
theorem fX9_15 : q_FL RX9 15 9 1 := ⟨by decide, by decide, q_w2 60 rfl rfl, rfl⟩
theorem fX9_22 : q_FL RX9 22 9 2 := ⟨by decide, by decide, q_w2 61 rfl rfl, rfl⟩
theorem fX9_29 : q_FL RX9 29 9 3 := ⟨by decide, by decide, q_w2 62 rfl rfl, rfl⟩
theorem fX9_33 : q_FL RX9 33 9 4 := ⟨by decide, by decide, q_w2 63 rfl rfl, rfl⟩
theorem fX9_39 : q_FL RX9 39 9 5 := ⟨by decide, by decide, q_w2 64 rfl rfl, rfl⟩
theorem fX9_46 : q_FL RX9 46 9 6 := ⟨by decide, by decide, q_w2 65 rfl rfl, rfl⟩
theorem fX9_50 : q_FL RX9 50 9 7 := ⟨by decide, by decide, q_w2 66 rfl rfl, rfl⟩
theorem fX9_57 : q_FL RX9 57 9 8 := ⟨by decide, by decide, q_w2 67 rfl rfl, rfl⟩
theorem fX9_61 : q_FL RX9 61 9 9 := ⟨by decide, by decide, q_w2 68 rfl rfl, rfl⟩
theorem fX9_64 : q_FL RX9 64 9 10 := ⟨by decide, by decide, q_w2 69 rfl rfl, rfl⟩
theorem fX9_71 : q_FL RX9 71 9 11 := ⟨by decide, by decide, q_w2 70 rfl rfl, rfl⟩
theorem fX9_336 : Cond.fieldLink RX9 336 (q_sC 0) (q_sn 0) "[I" ∈ q_WS := q_w2 150 rfl rfl
theorem fX9_339 : Cond.fieldLink RX9 339 (q_sC 1) (q_sn 1) "[I" ∈ q_WS := q_w2 152 rfl rfl
theorem fX4_42 : q_FL RX4 42 4 0 := ⟨by decide, by decide, q_w3 134 rfl rfl, rfl⟩
theorem fX4_45 : q_FL RX4 45 4 1 := ⟨by decide, by decide, q_w3 135 rfl rfl, rfl⟩
theorem fX4_11 : q_FL RX4 11 4 2 := ⟨by decide, by decide, q_w3 136 rfl rfl, rfl⟩
theorem fX4_15 : q_FL RX4 15 4 3 := ⟨by decide, by decide, q_w3 137 rfl rfl, rfl⟩
theorem fX4_19 : q_FL RX4 19 4 4 := ⟨by decide, by decide, q_w3 138 rfl rfl, rfl⟩
theorem fX4_23 : q_FL RX4 23 4 5 := ⟨by decide, by decide, q_w3 139 rfl rfl, rfl⟩
theorem fX4_26 : q_FL RX4 26 4 6 := ⟨by decide, by decide, q_w3 140 rfl rfl, rfl⟩
theorem fX4_29 : q_FL RX4 29 4 7 := ⟨by decide, by decide, q_w3 141 rfl rfl, rfl⟩
theorem fX4_32 : q_FL RX4 32 4 8 := ⟨by decide, by decide, q_w3 142 rfl rfl, rfl⟩
theorem fX4_35 : q_FL RX4 35 4 9 := ⟨by decide, by decide, q_w3 143 rfl rfl, rfl⟩
theorem fX4_39 : q_FL RX4 39 4 10 := ⟨by decide, by decide, q_w3 144 rfl rfl, rfl⟩
theorem fX4_87 : Cond.fieldLink RX4 87 (q_sC 2) (q_sn 2) "[I" ∈ q_WS := q_w3 210 rfl rfl
theorem fX4_90 : Cond.fieldLink RX4 90 (q_sC 3) (q_sn 3) "[I" ∈ q_WS := q_w3 212 rfl rfl
theorem fX2_56 : Cond.fieldLink RX2 56 (q_sC 4) (q_sn 4) "[I" ∈ q_WS := q_w4 51 rfl rfl
theorem fX10_7 : q_FL RX10 7 10 0 := ⟨by decide, by decide, q_w4 105 rfl rfl, rfl⟩
theorem fX10_13 : q_FL RX10 13 10 1 := ⟨by decide, by decide, q_w4 106 rfl rfl, rfl⟩
theorem fX10_16 : q_FL RX10 16 10 2 := ⟨by decide, by decide, q_w4 107 rfl rfl, rfl⟩
theorem fX10_177 : q_FL RX10 177 10 3 := ⟨by decide, by decide, q_w4 108 rfl rfl, rfl⟩
theorem fX10_19 : q_FL RX10 19 10 4 := ⟨by decide, by decide, q_w4 109 rfl rfl, rfl⟩
theorem fX10_152 : q_FL RX10 152 10 5 := ⟨by decide, by decide, q_w4 110 rfl rfl, rfl⟩
theorem fX10_159 : q_FL RX10 159 10 6 := ⟨by decide, by decide, q_w4 111 rfl rfl, rfl⟩
theorem fX10_22 : q_FL RX10 22 10 7 := ⟨by decide, by decide, q_w4 112 rfl rfl, rfl⟩
theorem fX10_25 : q_FL RX10 25 10 8 := ⟨by decide, by decide, q_w4 113 rfl rfl, rfl⟩
theorem fX10_28 : q_FL RX10 28 10 9 := ⟨by decide, by decide, q_w4 114 rfl rfl, rfl⟩
theorem fX10_31 : q_FL RX10 31 10 10 := ⟨by decide, by decide, q_w4 115 rfl rfl, rfl⟩
theorem fX10_194 : q_FL RX10 194 10 11 := ⟨by decide, by decide, q_w4 116 rfl rfl, rfl⟩
theorem fX10_34 : q_FL RX10 34 10 12 := ⟨by decide, by decide, q_w4 117 rfl rfl, rfl⟩
theorem fX10_37 : q_FL RX10 37 10 13 := ⟨by decide, by decide, q_w4 118 rfl rfl, rfl⟩
theorem fX10_40 : q_FL RX10 40 10 14 := ⟨by decide, by decide, q_w4 119 rfl rfl, rfl⟩
theorem fX10_201 : q_FL RX10 201 10 15 := ⟨by decide, by decide, q_w4 120 rfl rfl, rfl⟩
theorem fX10_204 : q_FL RX10 204 10 16 := ⟨by decide, by decide, q_w4 121 rfl rfl, rfl⟩
theorem fX10_207 : q_FL RX10 207 10 17 := ⟨by decide, by decide, q_w4 122 rfl rfl, rfl⟩
theorem fX10_43 : q_FL RX10 43 10 18 := ⟨by decide, by decide, q_w4 123 rfl rfl, rfl⟩
theorem fX10_47 : q_FL RX10 47 10 19 := ⟨by decide, by decide, q_w4 124 rfl rfl, rfl⟩
theorem fX10_50 : q_FL RX10 50 10 20 := ⟨by decide, by decide, q_w4 125 rfl rfl, rfl⟩
theorem fX10_55 : q_FL RX10 55 10 21 := ⟨by decide, by decide, q_w4 126 rfl rfl, rfl⟩
theorem fX10_239 : q_FL RX10 239 10 22 := ⟨by decide, by decide, q_w4 127 rfl rfl, rfl⟩
theorem fX10_58 : q_FL RX10 58 10 23 := ⟨by decide, by decide, q_w4 128 rfl rfl, rfl⟩
theorem fX10_61 : q_FL RX10 61 10 24 := ⟨by decide, by decide, q_w4 129 rfl rfl, rfl⟩
theorem fX10_64 : q_FL RX10 64 10 25 := ⟨by decide, by decide, q_w4 130 rfl rfl, rfl⟩
theorem fX10_67 : q_FL RX10 67 10 26 := ⟨by decide, by decide, q_w4 131 rfl rfl, rfl⟩
theorem fX10_70 : q_FL RX10 70 10 27 := ⟨by decide, by decide, q_w4 132 rfl rfl, rfl⟩
theorem fX10_257 : q_FL RX10 257 10 28 := ⟨by decide, by decide, q_w4 133 rfl rfl, rfl⟩
theorem fX10_73 : q_FL RX10 73 10 29 := ⟨by decide, by decide, q_w4 134 rfl rfl, rfl⟩
theorem fX10_76 : q_FL RX10 76 10 30 := ⟨by decide, by decide, q_w4 135 rfl rfl, rfl⟩
theorem fX10_79 : q_FL RX10 79 10 31 := ⟨by decide, by decide, q_w4 136 rfl rfl, rfl⟩
theorem fX10_82 : q_FL RX10 82 10 32 := ⟨by decide, by decide, q_w4 137 rfl rfl, rfl⟩
theorem fX10_85 : q_FL RX10 85 10 33 := ⟨by decide, by decide, q_w4 138 rfl rfl, rfl⟩
theorem fX10_275 : q_FL RX10 275 10 34 := ⟨by decide, by decide, q_w4 139 rfl rfl, rfl⟩
theorem fX10_88 : q_FL RX10 88 10 35 := ⟨by decide, by decide, q_w4 140 rfl rfl, rfl⟩
theorem fX10_91 : q_FL RX10 91 10 36 := ⟨by decide, by decide, q_w4 141 rfl rfl, rfl⟩
theorem fX10_94 : q_FL RX10 94 10 37 := ⟨by decide, by decide, q_w4 142 rfl rfl, rfl⟩
theorem fX10_97 : q_FL RX10 97 10 38 := ⟨by decide, by decide, q_w4 143 rfl rfl, rfl⟩
theorem fX10_100 : q_FL RX10 100 10 39 := ⟨by decide, by decide, q_w4 144 rfl rfl, rfl⟩
theorem fX10_334 : q_FL RX10 334 10 40 := ⟨by decide, by decide, q_w4 145 rfl rfl, rfl⟩
theorem fX10_337 : q_FL RX10 337 10 41 := ⟨by decide, by decide, q_w4 146 rfl rfl, rfl⟩
theorem fX10_104 : q_FL RX10 104 10 42 := ⟨by decide, by decide, q_w4 147 rfl rfl, rfl⟩
theorem fX10_108 : q_FL RX10 108 10 43 := ⟨by decide, by decide, q_w4 148 rfl rfl, rfl⟩
theorem fX10_111 : q_FL RX10 111 10 44 := ⟨by decide, by decide, q_w4 149 rfl rfl, rfl⟩
theorem fX10_114 : q_FL RX10 114 10 45 := ⟨by decide, by decide, q_w4 150 rfl rfl, rfl⟩
theorem fX10_117 : q_FL RX10 117 10 46 := ⟨by decide, by decide, q_w4 151 rfl rfl, rfl⟩
theorem fX10_349 : q_FL RX10 349 10 47 := ⟨by decide, by decide, q_w4 152 rfl rfl, rfl⟩
theorem fX10_360 : q_FL RX10 360 10 48 := ⟨by decide, by decide, q_w4 153 rfl rfl, rfl⟩
theorem fX10_363 : q_FL RX10 363 10 49 := ⟨by decide, by decide, q_w4 154 rfl rfl, rfl⟩
theorem fX10_366 : q_FL RX10 366 10 50 := ⟨by decide, by decide, q_w4 155 rfl rfl, rfl⟩
theorem fX10_369 : q_FL RX10 369 10 51 := ⟨by decide, by decide, q_w4 156 rfl rfl, rfl⟩
theorem lL_9 : Cond.methodLink RL 9 yX9_init ∈ q_WS ∧ Cond.instanceMethod yX9_init ∈ q_WS := ⟨q_w1 16 rfl rfl, q_w1 17 rfl rfl⟩
theorem lX9_3 : Cond.methodLink RX9 3 objectInit ∈ q_WS ∧ Cond.instanceMethod objectInit ∈ q_WS ∧ Cond.code objectInit ⟨#[0xb1]⟩ 1 none ∈ q_WS := ⟨q_w1 19 rfl rfl, q_w1 20 rfl rfl, q_w1 21 rfl rfl⟩
theorem lX9_21 : (RX9, 21, yX1_init) ∈ q_nest ∧ Cond.instanceMethod yX1_init ∈ q_WS := ⟨List.mem_of_getElem? (i := 0) rfl, q_w1 27 rfl rfl⟩
theorem lX1_1 : Cond.methodLink RX1 1 objectInit ∈ q_WS ∧ Cond.instanceMethod objectInit ∈ q_WS ∧ Cond.code objectInit ⟨#[0xb1]⟩ 1 none ∈ q_WS := ⟨q_w1 29 rfl rfl, q_w1 20 rfl rfl, q_w1 21 rfl rfl⟩
theorem lX9_28 : Cond.methodLink RX9 28 yX0_init ∈ q_WS ∧ Cond.instanceMethod yX0_init ∈ q_WS := ⟨q_w1 41 rfl rfl, q_w1 42 rfl rfl⟩
theorem lX0_3 : Cond.methodLink RX0 3 objectInit ∈ q_WS ∧ Cond.instanceMethod objectInit ∈ q_WS ∧ Cond.code objectInit ⟨#[0xb1]⟩ 1 none ∈ q_WS := ⟨q_w1 44 rfl rfl, q_w1 20 rfl rfl, q_w1 21 rfl rfl⟩
theorem lX0_43 : (RX0, 43, yX7_init) ∈ q_nest ∧ Cond.instanceMethod yX7_init ∈ q_WS := ⟨List.mem_of_getElem? (i := 1) rfl, q_w1 49 rfl rfl⟩
theorem lX7_3 : Cond.methodLink RX7 3 objectInit ∈ q_WS ∧ Cond.instanceMethod objectInit ∈ q_WS ∧ Cond.code objectInit ⟨#[0xb1]⟩ 1 none ∈ q_WS := ⟨q_w1 51 rfl rfl, q_w1 20 rfl rfl, q_w1 21 rfl rfl⟩
theorem lX9_38 : (RX9, 38, yX3_init) ∈ q_nest ∧ Cond.instanceMethod yX3_init ∈ q_WS := ⟨List.mem_of_getElem? (i := 2) rfl, q_w1 122 rfl rfl⟩
theorem lX3_3 : Cond.methodLink RX3 3 objectInit ∈ q_WS ∧ Cond.instanceMethod objectInit ∈ q_WS ∧ Cond.code objectInit ⟨#[0xb1]⟩ 1 none ∈ q_WS := ⟨q_w1 124 rfl rfl, q_w1 20 rfl rfl, q_w1 21 rfl rfl⟩
theorem lX9_45 : (RX9, 45, yX6_init) ∈ q_nest ∧ Cond.instanceMethod yX6_init ∈ q_WS := ⟨List.mem_of_getElem? (i := 3) rfl, q_w1 173 rfl rfl⟩
theorem lX6_3 : Cond.methodLink RX6 3 objectInit ∈ q_WS ∧ Cond.instanceMethod objectInit ∈ q_WS ∧ Cond.code objectInit ⟨#[0xb1]⟩ 1 none ∈ q_WS := ⟨q_w1 175 rfl rfl, q_w1 20 rfl rfl, q_w1 21 rfl rfl⟩
theorem lX9_56 : (RX9, 56, yX8_init) ∈ q_nest ∧ Cond.instanceMethod yX8_init ∈ q_WS := ⟨List.mem_of_getElem? (i := 4) rfl, q_w1 199 rfl rfl⟩
theorem lX8_3 : Cond.methodLink RX8 3 objectInit ∈ q_WS ∧ Cond.instanceMethod objectInit ∈ q_WS ∧ Cond.code objectInit ⟨#[0xb1]⟩ 1 none ∈ q_WS := ⟨q_w1 201 rfl rfl, q_w1 20 rfl rfl, q_w1 21 rfl rfl⟩
theorem lX9_70 : (RX9, 70, yX2_init) ∈ q_nest ∧ Cond.instanceMethod yX2_init ∈ q_WS := ⟨List.mem_of_getElem? (i := 5) rfl, q_w1 233 rfl rfl⟩
theorem lX2_3 : Cond.methodLink RX2 3 objectInit ∈ q_WS ∧ Cond.instanceMethod objectInit ∈ q_WS ∧ Cond.code objectInit ⟨#[0xb1]⟩ 1 none ∈ q_WS := ⟨q_w1 235 rfl rfl, q_w1 20 rfl rfl, q_w1 21 rfl rfl⟩
theorem lX2_27 : (RX2, 27, yX7_init) ∈ q_nest ∧ Cond.instanceMethod yX7_init ∈ q_WS := ⟨List.mem_of_getElem? (i := 6) rfl, q_w1 49 rfl rfl⟩
theorem lX9_75 : (RX9, 75, yX5_init) ∈ q_nest ∧ Cond.instanceMethod yX5_init ∈ q_WS := ⟨List.mem_of_getElem? (i := 7) rfl, q_w2 40 rfl rfl⟩
theorem lX5_3 : Cond.methodLink RX5 3 objectInit ∈ q_WS ∧ Cond.instanceMethod objectInit ∈ q_WS ∧ Cond.code objectInit ⟨#[0xb1]⟩ 1 none ∈ q_WS := ⟨q_w2 42 rfl rfl, q_w1 20 rfl rfl, q_w1 21 rfl rfl⟩
theorem lL_13 : Cond.methodLink RL 13 yX9_turn ∈ q_WS ∧ Cond.instanceMethod yX9_turn ∈ q_WS ∧ Cond.selects yX9_turn.cls yX9_turn yX9_turn ∈ q_WS := ⟨q_w2 96 rfl rfl, q_w2 97 rfl rfl, q_w2 98 rfl rfl⟩
theorem lX9_76 : Cond.methodLink RX9 76 yX9_isPlan ∈ q_WS ∧ Cond.static yX9_isPlan ∈ q_WS := ⟨q_w2 100 rfl rfl, q_w2 101 rfl rfl⟩
theorem lX9_80 : Cond.methodLink RX9 80 yX9_within ∈ q_WS ∧ Cond.static yX9_within ∈ q_WS := ⟨q_w2 104 rfl rfl, q_w2 105 rfl rfl⟩
theorem lX9_87 : Cond.methodLink RX9 87 yX5_turnsAt ∈ q_WS ∧ Cond.instanceMethod yX5_turnsAt ∈ q_WS ∧ Cond.selects yX5_turnsAt.cls yX5_turnsAt yX5_turnsAt ∈ q_WS := ⟨q_w2 107 rfl rfl, q_w2 108 rfl rfl, q_w2 109 rfl rfl⟩
theorem lX9_91 : Cond.methodLink RX9 91 yX5_insert ∈ q_WS ∧ Cond.instanceMethod yX5_insert ∈ q_WS ∧ Cond.selects yX5_insert.cls yX5_insert yX5_insert ∈ q_WS := ⟨q_w2 111 rfl rfl, q_w2 112 rfl rfl, q_w2 113 rfl rfl⟩
theorem lL_18 : Cond.methodLink RL 18 yX9_clear ∈ q_WS ∧ Cond.instanceMethod yX9_clear ∈ q_WS ∧ Cond.selects yX9_clear.cls yX9_clear yX9_clear ∈ q_WS := ⟨q_w2 115 rfl rfl, q_w2 116 rfl rfl, q_w2 117 rfl rfl⟩
theorem lL_23 : Cond.methodLink RL 23 yX9_ofTurn ∈ q_WS ∧ Cond.instanceMethod yX9_ofTurn ∈ q_WS ∧ Cond.selects yX9_ofTurn.cls yX9_ofTurn yX9_ofTurn ∈ q_WS := ⟨q_w2 119 rfl rfl, q_w2 120 rfl rfl, q_w2 121 rfl rfl⟩
theorem lL_27 : Cond.methodLink RL 27 yX9_course ∈ q_WS ∧ Cond.instanceMethod yX9_course ∈ q_WS ∧ Cond.selects yX9_course.cls yX9_course yX9_course ∈ q_WS := ⟨q_w2 123 rfl rfl, q_w2 124 rfl rfl, q_w2 125 rfl rfl⟩
theorem lX9_101 : Cond.methodLink RX9 101 yX5_heading ∈ q_WS ∧ Cond.instanceMethod yX5_heading ∈ q_WS ∧ Cond.selects yX5_heading.cls yX5_heading yX5_heading ∈ q_WS := ⟨q_w2 127 rfl rfl, q_w2 128 rfl rfl, q_w2 129 rfl rfl⟩
theorem lL_32 : Cond.methodLink RL 32 yX9_ground ∈ q_WS ∧ Cond.instanceMethod yX9_ground ∈ q_WS ∧ Cond.selects yX9_ground.cls yX9_ground yX9_ground ∈ q_WS := ⟨q_w2 131 rfl rfl, q_w2 132 rfl rfl, q_w2 133 rfl rfl⟩
theorem lX9_109 : Cond.methodLink RX9 109 yX5_gain ∈ q_WS ∧ Cond.instanceMethod yX5_gain ∈ q_WS ∧ Cond.selects yX5_gain.cls yX5_gain yX5_gain ∈ q_WS := ⟨q_w2 137 rfl rfl, q_w2 138 rfl rfl, q_w2 139 rfl rfl⟩
theorem lX5_22 : (RX5, 22, yX9_pace) ∈ q_nest ∧ Cond.static yX9_pace ∈ q_WS := ⟨List.mem_of_getElem? (i := 8) rfl, q_w2 142 rfl rfl⟩
theorem lX9_328 : Cond.methodLink RX9 328 Lib.Math.abs.name ∈ q_WS ∧ Cond.static Lib.Math.abs.name ∈ q_WS := ⟨q_w2 144 rfl rfl, q_w2 145 rfl rfl⟩
theorem lX9_333 : Cond.methodLink RX9 333 Lib.Math.min.name ∈ q_WS ∧ Cond.static Lib.Math.min.name ∈ q_WS := ⟨q_w2 147 rfl rfl, q_w2 148 rfl rfl⟩
theorem lX5_26 : Cond.methodLink RX5 26 yX5_legEnd ∈ q_WS ∧ Cond.instanceMethod yX5_legEnd ∈ q_WS ∧ Cond.selects yX5_legEnd.cls yX5_legEnd yX5_legEnd ∈ q_WS := ⟨q_w2 154 rfl rfl, q_w2 155 rfl rfl, q_w2 156 rfl rfl⟩
theorem lX5_30 : Cond.methodLink RX5 30 Lib.Math.min.name ∈ q_WS ∧ Cond.static Lib.Math.min.name ∈ q_WS := ⟨q_w2 158 rfl rfl, q_w2 148 rfl rfl⟩
theorem lX5_35 : Cond.methodLink RX5 35 Lib.Math.max.name ∈ q_WS ∧ Cond.static Lib.Math.max.name ∈ q_WS := ⟨q_w2 159 rfl rfl, q_w2 160 rfl rfl⟩
theorem lL_37 : Cond.methodLink RL 37 yX9_steer ∈ q_WS ∧ Cond.instanceMethod yX9_steer ∈ q_WS ∧ Cond.selects yX9_steer.cls yX9_steer yX9_steer ∈ q_WS := ⟨q_w2 162 rfl rfl, q_w2 163 rfl rfl, q_w2 164 rfl rfl⟩
theorem lL_41 : Cond.methodLink RL 41 yX9_ship ∈ q_WS ∧ Cond.instanceMethod yX9_ship ∈ q_WS ∧ Cond.selects yX9_ship.cls yX9_ship yX9_ship ∈ q_WS := ⟨q_w2 166 rfl rfl, q_w2 167 rfl rfl, q_w2 168 rfl rfl⟩
theorem lX9_113 : Cond.methodLink RX9 113 yX9_isStart ∈ q_WS ∧ Cond.static yX9_isStart ∈ q_WS := ⟨q_w2 170 rfl rfl, q_w2 171 rfl rfl⟩
theorem lX9_121 : Cond.methodLink RX9 121 yX7_set ∈ q_WS ∧ Cond.instanceMethod yX7_set ∈ q_WS ∧ Cond.selects yX7_set.cls yX7_set yX7_set ∈ q_WS := ⟨q_w2 175 rfl rfl, q_w2 176 rfl rfl, q_w2 177 rfl rfl⟩
theorem lL_46 : Cond.methodLink RL 46 yX9_miss ∈ q_WS ∧ Cond.instanceMethod yX9_miss ∈ q_WS ∧ Cond.selects yX9_miss.cls yX9_miss yX9_miss ∈ q_WS := ⟨q_w2 179 rfl rfl, q_w2 180 rfl rfl, q_w2 181 rfl rfl⟩
theorem lX9_127 : Cond.methodLink RX9 127 yX9_isShip ∈ q_WS ∧ Cond.instanceMethod yX9_isShip ∈ q_WS ∧ Cond.selects yX9_isShip.cls yX9_isShip yX9_isShip ∈ q_WS := ⟨q_w2 183 rfl rfl, q_w2 185 rfl rfl, q_w0 0 rfl rfl⟩
theorem lL_50 : Cond.methodLink RL 50 yX9_fog ∈ q_WS ∧ Cond.instanceMethod yX9_fog ∈ q_WS ∧ Cond.selects yX9_fog.cls yX9_fog yX9_fog ∈ q_WS := ⟨q_w2 187 rfl rfl, q_w2 188 rfl rfl, q_w2 189 rfl rfl⟩
theorem lL_54 : Cond.methodLink RL 54 yX9_place ∈ q_WS ∧ Cond.instanceMethod yX9_place ∈ q_WS ∧ Cond.selects yX9_place.cls yX9_place yX9_place ∈ q_WS := ⟨q_w2 191 rfl rfl, q_w2 192 rfl rfl, q_w2 193 rfl rfl⟩
theorem lX9_142 : Cond.methodLink RX9 142 yX7_begin ∈ q_WS ∧ Cond.instanceMethod yX7_begin ∈ q_WS ∧ Cond.selects yX7_begin.cls yX7_begin yX7_begin ∈ q_WS := ⟨q_w2 195 rfl rfl, q_w2 196 rfl rfl, q_w2 197 rfl rfl⟩
theorem lX9_145 : Cond.methodLink RX9 145 yX7_move ∈ q_WS ∧ Cond.instanceMethod yX7_move ∈ q_WS ∧ Cond.selects yX7_move.cls yX7_move yX7_move ∈ q_WS := ⟨q_w2 199 rfl rfl, q_w2 200 rfl rfl, q_w2 201 rfl rfl⟩
theorem lX7_35 : Cond.methodLink RX7 35 yX1_hides ∈ q_WS ∧ Cond.instanceMethod yX1_hides ∈ q_WS ∧ Cond.selects yX1_hides.cls yX1_hides yX1_hides ∈ q_WS := ⟨q_w2 203 rfl rfl, q_w2 204 rfl rfl, q_w2 205 rfl rfl⟩
theorem lX7_41 : Cond.methodLink RX7 41 yX7_heading ∈ q_WS ∧ Cond.instanceMethod yX7_heading ∈ q_WS ∧ Cond.selects yX7_heading.cls yX7_heading yX7_heading ∈ q_WS := ⟨q_w2 207 rfl rfl, q_w2 209 rfl rfl, q_w0 1 rfl rfl⟩
theorem lX7_49 : Cond.methodLink RX7 49 yX5_heading ∈ q_WS ∧ Cond.instanceMethod yX5_heading ∈ q_WS ∧ Cond.selects yX5_heading.cls yX5_heading yX5_heading ∈ q_WS := ⟨q_w2 211 rfl rfl, q_w2 128 rfl rfl, q_w2 129 rfl rfl⟩
theorem lX7_45 : (RX7, 45, yX9_pace) ∈ q_nest ∧ Cond.static yX9_pace ∈ q_WS := ⟨List.mem_of_getElem? (i := 9) rfl, q_w2 142 rfl rfl⟩
theorem lL_58 : Cond.methodLink RL 58 yX9_nearest ∈ q_WS ∧ Cond.instanceMethod yX9_nearest ∈ q_WS ∧ Cond.selects yX9_nearest.cls yX9_nearest yX9_nearest ∈ q_WS := ⟨q_w2 213 rfl rfl, q_w2 214 rfl rfl, q_w2 215 rfl rfl⟩
theorem lX9_158 : Cond.methodLink RX9 158 yX0_findNearest ∈ q_WS ∧ Cond.instanceMethod yX0_findNearest ∈ q_WS ∧ Cond.selects yX0_findNearest.cls yX0_findNearest yX0_findNearest ∈ q_WS := ⟨q_w2 218 rfl rfl, q_w2 219 rfl rfl, q_w2 220 rfl rfl⟩
theorem lX0_48 : Cond.methodLink RX0 48 yX0_beginAll ∈ q_WS ∧ Cond.instanceMethod yX0_beginAll ∈ q_WS ∧ Cond.selects yX0_beginAll.cls yX0_beginAll yX0_beginAll ∈ q_WS := ⟨q_w2 223 rfl rfl, q_w2 225 rfl rfl, q_w0 2 rfl rfl⟩
theorem lX0_59 : Cond.methodLink RX0 59 yX7_begin ∈ q_WS ∧ Cond.instanceMethod yX7_begin ∈ q_WS ∧ Cond.selects yX7_begin.cls yX7_begin yX7_begin ∈ q_WS := ⟨q_w2 227 rfl rfl, q_w2 196 rfl rfl, q_w2 197 rfl rfl⟩
theorem lX0_51 : Cond.methodLink RX0 51 yX0_squareOfPair ∈ q_WS ∧ Cond.instanceMethod yX0_squareOfPair ∈ q_WS ∧ Cond.selects yX0_squareOfPair.cls yX0_squareOfPair yX0_squareOfPair ∈ q_WS := ⟨q_w2 228 rfl rfl, q_w2 230 rfl rfl, q_w0 3 rfl rfl⟩
theorem lX0_71 : (RX0, 71, yX9_squareOf) ∈ q_nest ∧ Cond.static yX9_squareOf ∈ q_WS := ⟨List.mem_of_getElem? (i := 10) rfl, q_w2 233 rfl rfl⟩
theorem lX0_55 : Cond.methodLink RX0 55 yX0_moveAll ∈ q_WS ∧ Cond.instanceMethod yX0_moveAll ∈ q_WS ∧ Cond.selects yX0_moveAll.cls yX0_moveAll yX0_moveAll ∈ q_WS := ⟨q_w2 235 rfl rfl, q_w2 237 rfl rfl, q_w0 4 rfl rfl⟩
theorem lX0_62 : Cond.methodLink RX0 62 yX7_move ∈ q_WS ∧ Cond.instanceMethod yX7_move ∈ q_WS ∧ Cond.selects yX7_move.cls yX7_move yX7_move ∈ q_WS := ⟨q_w2 239 rfl rfl, q_w2 200 rfl rfl, q_w2 201 rfl rfl⟩
theorem lL_63 : Cond.methodLink RL 63 yX9_close ∈ q_WS ∧ Cond.instanceMethod yX9_close ∈ q_WS ∧ Cond.selects yX9_close.cls yX9_close yX9_close ∈ q_WS := ⟨q_w3 0 rfl rfl, q_w3 1 rfl rfl, q_w3 2 rfl rfl⟩
theorem lX9_174 : Cond.methodLink RX9 174 yX0_minutesNearer ∈ q_WS ∧ Cond.instanceMethod yX0_minutesNearer ∈ q_WS ∧ Cond.selects yX0_minutesNearer.cls yX0_minutesNearer yX0_minutesNearer ∈ q_WS := ⟨q_w3 5 rfl rfl, q_w3 6 rfl rfl, q_w3 7 rfl rfl⟩
theorem lL_67 : Cond.methodLink RL 67 yX9_centre ∈ q_WS ∧ Cond.instanceMethod yX9_centre ∈ q_WS ∧ Cond.selects yX9_centre.cls yX9_centre yX9_centre ∈ q_WS := ⟨q_w3 9 rfl rfl, q_w3 10 rfl rfl, q_w3 11 rfl rfl⟩
theorem lL_71 : Cond.methodLink RL 71 yX9_lurk ∈ q_WS ∧ Cond.instanceMethod yX9_lurk ∈ q_WS ∧ Cond.selects yX9_lurk.cls yX9_lurk yX9_lurk ∈ q_WS := ⟨q_w3 13 rfl rfl, q_w3 14 rfl rfl, q_w3 15 rfl rfl⟩
theorem lL_75 : Cond.methodLink RL 75 yX9_comes ∈ q_WS ∧ Cond.instanceMethod yX9_comes ∈ q_WS ∧ Cond.selects yX9_comes.cls yX9_comes yX9_comes ∈ q_WS := ⟨q_w3 20 rfl rfl, q_w3 21 rfl rfl, q_w3 22 rfl rfl⟩
theorem lX9_193 : Cond.methodLink RX9 193 yX3_canBeWithin ∈ q_WS ∧ Cond.instanceMethod yX3_canBeWithin ∈ q_WS ∧ Cond.selects yX3_canBeWithin.cls yX3_canBeWithin yX3_canBeWithin ∈ q_WS := ⟨q_w3 24 rfl rfl, q_w3 25 rfl rfl, q_w3 26 rfl rfl⟩
theorem lX3_50 : (RX3, 50, yX9_squareOf) ∈ q_nest ∧ Cond.static yX9_squareOf ∈ q_WS := ⟨List.mem_of_getElem? (i := 11) rfl, q_w2 233 rfl rfl⟩
theorem lL_79 : Cond.methodLink RL 79 yX9_gets ∈ q_WS ∧ Cond.instanceMethod yX9_gets ∈ q_WS ∧ Cond.selects yX9_gets.cls yX9_gets yX9_gets ∈ q_WS := ⟨q_w3 30 rfl rfl, q_w3 31 rfl rfl, q_w3 32 rfl rfl⟩
theorem lX9_197 : Cond.methodLink RX9 197 yX3_waitAt ∈ q_WS ∧ Cond.instanceMethod yX3_waitAt ∈ q_WS ∧ Cond.selects yX3_waitAt.cls yX3_waitAt yX3_waitAt ∈ q_WS := ⟨q_w3 34 rfl rfl, q_w3 35 rfl rfl, q_w3 36 rfl rfl⟩
theorem lX3_54 : Cond.methodLink RX3 54 yX5_gain ∈ q_WS ∧ Cond.instanceMethod yX5_gain ∈ q_WS ∧ Cond.selects yX5_gain.cls yX5_gain yX5_gain ∈ q_WS := ⟨q_w3 38 rfl rfl, q_w2 138 rfl rfl, q_w2 139 rfl rfl⟩
theorem lX3_60 : Cond.methodLink RX3 60 yX3_canBeWithin ∈ q_WS ∧ Cond.instanceMethod yX3_canBeWithin ∈ q_WS ∧ Cond.selects yX3_canBeWithin.cls yX3_canBeWithin yX3_canBeWithin ∈ q_WS := ⟨q_w3 39 rfl rfl, q_w3 25 rfl rfl, q_w3 26 rfl rfl⟩
theorem lX3_64 : Cond.methodLink RX3 64 yX3_plansInReach ∈ q_WS ∧ Cond.instanceMethod yX3_plansInReach ∈ q_WS ∧ Cond.selects yX3_plansInReach.cls yX3_plansInReach yX3_plansInReach ∈ q_WS := ⟨q_w3 40 rfl rfl, q_w3 42 rfl rfl, q_w0 5 rfl rfl⟩
theorem lL_83 : Cond.methodLink RL 83 yX9_worst ∈ q_WS ∧ Cond.instanceMethod yX9_worst ∈ q_WS ∧ Cond.selects yX9_worst.cls yX9_worst yX9_worst ∈ q_WS := ⟨q_w3 44 rfl rfl, q_w3 45 rfl rfl, q_w3 46 rfl rfl⟩
theorem lX9_204 : Cond.methodLink RX9 204 yX9_isWeight ∈ q_WS ∧ Cond.static yX9_isWeight ∈ q_WS := ⟨q_w3 48 rfl rfl, q_w3 49 rfl rfl⟩
theorem lX9_207 : Cond.methodLink RX9 207 yX3_choose ∈ q_WS ∧ Cond.instanceMethod yX3_choose ∈ q_WS ∧ Cond.selects yX3_choose.cls yX3_choose yX3_choose ∈ q_WS := ⟨q_w3 51 rfl rfl, q_w3 52 rfl rfl, q_w3 53 rfl rfl⟩
theorem lL_88 : Cond.methodLink RL 88 yX9_mix ∈ q_WS ∧ Cond.instanceMethod yX9_mix ∈ q_WS ∧ Cond.selects yX9_mix.cls yX9_mix yX9_mix ∈ q_WS := ⟨q_w3 55 rfl rfl, q_w3 56 rfl rfl, q_w3 57 rfl rfl⟩
theorem lX9_216 : Cond.methodLink RX9 216 yX3_findMix ∈ q_WS ∧ Cond.instanceMethod yX3_findMix ∈ q_WS ∧ Cond.selects yX3_findMix.cls yX3_findMix yX3_findMix ∈ q_WS := ⟨q_w3 59 rfl rfl, q_w3 60 rfl rfl, q_w3 61 rfl rfl⟩
theorem lX3_71 : Cond.methodLink RX3 71 yX3_considerMix ∈ q_WS ∧ Cond.instanceMethod yX3_considerMix ∈ q_WS ∧ Cond.selects yX3_considerMix.cls yX3_considerMix yX3_considerMix ∈ q_WS := ⟨q_w3 64 rfl rfl, q_w3 66 rfl rfl, q_w0 6 rfl rfl⟩
theorem lX3_75 : Cond.methodLink RX3 75 yX3_choose ∈ q_WS ∧ Cond.instanceMethod yX3_choose ∈ q_WS ∧ Cond.selects yX3_choose.cls yX3_choose yX3_choose ∈ q_WS := ⟨q_w3 68 rfl rfl, q_w3 52 rfl rfl, q_w3 53 rfl rfl⟩
theorem lL_92 : Cond.methodLink RL 92 yX9_post ∈ q_WS ∧ Cond.instanceMethod yX9_post ∈ q_WS ∧ Cond.selects yX9_post.cls yX9_post yX9_post ∈ q_WS := ⟨q_w3 69 rfl rfl, q_w3 70 rfl rfl, q_w3 71 rfl rfl⟩
theorem lX9_227 : Cond.methodLink RX9 227 yX6_add ∈ q_WS ∧ Cond.instanceMethod yX6_add ∈ q_WS ∧ Cond.selects yX6_add.cls yX6_add yX6_add ∈ q_WS := ⟨q_w3 73 rfl rfl, q_w3 74 rfl rfl, q_w3 75 rfl rfl⟩
theorem lL_96 : Cond.methodLink RL 96 yX9_seen ∈ q_WS ∧ Cond.instanceMethod yX9_seen ∈ q_WS ∧ Cond.selects yX9_seen.cls yX9_seen yX9_seen ∈ q_WS := ⟨q_w3 77 rfl rfl, q_w3 78 rfl rfl, q_w3 79 rfl rfl⟩
theorem lX9_231 : Cond.methodLink RX9 231 yX6_watchRing ∈ q_WS ∧ Cond.instanceMethod yX6_watchRing ∈ q_WS ∧ Cond.selects yX6_watchRing.cls yX6_watchRing yX6_watchRing ∈ q_WS := ⟨q_w3 81 rfl rfl, q_w3 82 rfl rfl, q_w3 83 rfl rfl⟩
theorem lX6_31 : Cond.methodLink RX6 31 yX6_watchPoint ∈ q_WS ∧ Cond.instanceMethod yX6_watchPoint ∈ q_WS ∧ Cond.selects yX6_watchPoint.cls yX6_watchPoint yX6_watchPoint ∈ q_WS := ⟨q_w3 85 rfl rfl, q_w3 87 rfl rfl, q_w0 7 rfl rfl⟩
theorem lX6_35 : (RX6, 35, yX9_squareOf) ∈ q_nest ∧ Cond.static yX9_squareOf ∈ q_WS := ⟨List.mem_of_getElem? (i := 12) rfl, q_w2 233 rfl rfl⟩
theorem lX9_234 : Cond.methodLink RX9 234 yX6_pointsSeen ∈ q_WS ∧ Cond.instanceMethod yX6_pointsSeen ∈ q_WS ∧ Cond.selects yX6_pointsSeen.cls yX6_pointsSeen yX6_pointsSeen ∈ q_WS := ⟨q_w3 90 rfl rfl, q_w3 91 rfl rfl, q_w3 92 rfl rfl⟩
theorem lL_100 : Cond.methodLink RL 100 yX9_best ∈ q_WS ∧ Cond.instanceMethod yX9_best ∈ q_WS ∧ Cond.selects yX9_best.cls yX9_best yX9_best ∈ q_WS := ⟨q_w3 94 rfl rfl, q_w3 95 rfl rfl, q_w3 96 rfl rfl⟩
theorem lX9_238 : Cond.methodLink RX9 238 yX6_bestPosts ∈ q_WS ∧ Cond.instanceMethod yX6_bestPosts ∈ q_WS ∧ Cond.selects yX6_bestPosts.cls yX6_bestPosts yX6_bestPosts ∈ q_WS := ⟨q_w3 98 rfl rfl, q_w3 99 rfl rfl, q_w3 100 rfl rfl⟩
theorem lX6_39 : Cond.methodLink RX6 39 yJ6_bitCount_0f7a4 ∈ q_WS ∧ Cond.static yJ6_bitCount_0f7a4 ∈ q_WS := ⟨q_w3 102 rfl rfl, q_w3 103 rfl rfl⟩
theorem lX6_45 : Cond.methodLink RX6 45 yX6_pointsSeen ∈ q_WS ∧ Cond.instanceMethod yX6_pointsSeen ∈ q_WS ∧ Cond.selects yX6_pointsSeen.cls yX6_pointsSeen yX6_pointsSeen ∈ q_WS := ⟨q_w3 108 rfl rfl, q_w3 91 rfl rfl, q_w3 92 rfl rfl⟩
theorem lL_104 : Cond.methodLink RL 104 yX9_danger ∈ q_WS ∧ Cond.instanceMethod yX9_danger ∈ q_WS ∧ Cond.selects yX9_danger.cls yX9_danger yX9_danger ∈ q_WS := ⟨q_w3 109 rfl rfl, q_w3 110 rfl rfl, q_w3 111 rfl rfl⟩
theorem lL_108 : Cond.methodLink RL 108 yX9_route ∈ q_WS ∧ Cond.instanceMethod yX9_route ∈ q_WS ∧ Cond.selects yX9_route.cls yX9_route yX9_route ∈ q_WS := ⟨q_w3 113 rfl rfl, q_w3 114 rfl rfl, q_w3 115 rfl rfl⟩
theorem lX9_241 : Cond.methodLink RX9 241 yX9_isCell ∈ q_WS ∧ Cond.static yX9_isCell ∈ q_WS := ⟨q_w3 117 rfl rfl, q_w3 118 rfl rfl⟩
theorem lX9_244 : Cond.methodLink RX9 244 yX9_isVoyage ∈ q_WS ∧ Cond.static yX9_isVoyage ∈ q_WS := ⟨q_w3 120 rfl rfl, q_w3 121 rfl rfl⟩
theorem lX9_248 : Cond.methodLink RX9 248 yX9_readyPilot ∈ q_WS ∧ Cond.instanceMethod yX9_readyPilot ∈ q_WS ∧ Cond.selects yX9_readyPilot.cls yX9_readyPilot yX9_readyPilot ∈ q_WS := ⟨q_w3 123 rfl rfl, q_w3 125 rfl rfl, q_w0 8 rfl rfl⟩
theorem lX9_325 : Cond.methodLink RX9 325 yX4_init ∈ q_WS ∧ Cond.instanceMethod yX4_init ∈ q_WS := ⟨q_w3 129 rfl rfl, q_w3 130 rfl rfl⟩
theorem lX4_5 : Cond.methodLink RX4 5 objectInit ∈ q_WS ∧ Cond.instanceMethod objectInit ∈ q_WS ∧ Cond.code objectInit ⟨#[0xb1]⟩ 1 none ∈ q_WS := ⟨q_w3 132 rfl rfl, q_w1 20 rfl rfl, q_w1 21 rfl rfl⟩
theorem lX9_252 : Cond.methodLink RX9 252 yX4_findAlone ∈ q_WS ∧ Cond.instanceMethod yX4_findAlone ∈ q_WS ∧ Cond.selects yX4_findAlone.cls yX4_findAlone yX4_findAlone ∈ q_WS := ⟨q_w3 168 rfl rfl, q_w3 169 rfl rfl, q_w3 170 rfl rfl⟩
theorem lX4_49 : Cond.methodLink RX4 49 Lib.Math.min.name ∈ q_WS ∧ Cond.static Lib.Math.min.name ∈ q_WS := ⟨q_w3 172 rfl rfl, q_w2 148 rfl rfl⟩
theorem lX4_55 : Cond.methodLink RX4 55 yX4_search ∈ q_WS ∧ Cond.instanceMethod yX4_search ∈ q_WS ∧ Cond.selects yX4_search.cls yX4_search yX4_search ∈ q_WS := ⟨q_w3 173 rfl rfl, q_w3 175 rfl rfl, q_w0 9 rfl rfl⟩
theorem lX4_67 : Cond.methodLink RX4 67 Lib.Math.max.name ∈ q_WS ∧ Cond.static Lib.Math.max.name ∈ q_WS := ⟨q_w3 177 rfl rfl, q_w2 160 rfl rfl⟩
theorem lX4_70 : Cond.methodLink RX4 70 yX4_weighRow ∈ q_WS ∧ Cond.instanceMethod yX4_weighRow ∈ q_WS ∧ Cond.selects yX4_weighRow.cls yX4_weighRow yX4_weighRow ∈ q_WS := ⟨q_w3 178 rfl rfl, q_w3 180 rfl rfl, q_w0 10 rfl rfl⟩
theorem lX4_73 : Cond.methodLink RX4 73 yX4_weigh ∈ q_WS ∧ Cond.instanceMethod yX4_weigh ∈ q_WS ∧ Cond.selects yX4_weigh.cls yX4_weigh yX4_weigh ∈ q_WS := ⟨q_w3 182 rfl rfl, q_w3 184 rfl rfl, q_w0 11 rfl rfl⟩
theorem lX4_77 : Cond.methodLink RX4 77 yX4_dayOf ∈ q_WS ∧ Cond.instanceMethod yX4_dayOf ∈ q_WS ∧ Cond.selects yX4_dayOf.cls yX4_dayOf yX4_dayOf ∈ q_WS := ⟨q_w3 186 rfl rfl, q_w3 188 rfl rfl, q_w0 12 rfl rfl⟩
theorem lX4_59 : Cond.methodLink RX4 59 yX4_isApart ∈ q_WS ∧ Cond.instanceMethod yX4_isApart ∈ q_WS ∧ Cond.selects yX4_isApart.cls yX4_isApart yX4_isApart ∈ q_WS := ⟨q_w3 190 rfl rfl, q_w3 192 rfl rfl, q_w0 13 rfl rfl⟩
theorem lX4_100 : Cond.methodLink RX4 100 yX8_cellOn ∈ q_WS ∧ Cond.instanceMethod yX8_cellOn ∈ q_WS ∧ Cond.selects yX8_cellOn.cls yX8_cellOn yX8_cellOn ∈ q_WS := ⟨q_w3 194 rfl rfl, q_w3 195 rfl rfl, q_w3 196 rfl rfl⟩
theorem lX4_106 : Cond.methodLink RX4 106 yX4_isBeyondGap ∈ q_WS ∧ Cond.instanceMethod yX4_isBeyondGap ∈ q_WS ∧ Cond.selects yX4_isBeyondGap.cls yX4_isBeyondGap yX4_isBeyondGap ∈ q_WS := ⟨q_w3 198 rfl rfl, q_w3 200 rfl rfl, q_w0 14 rfl rfl⟩
theorem lX4_80 : Cond.methodLink RX4 80 yX4_endsAt ∈ q_WS ∧ Cond.instanceMethod yX4_endsAt ∈ q_WS ∧ Cond.selects yX4_endsAt.cls yX4_endsAt yX4_endsAt ∈ q_WS := ⟨q_w3 202 rfl rfl, q_w3 204 rfl rfl, q_w0 15 rfl rfl⟩
theorem lX4_83 : Cond.methodLink RX4 83 yX4_worthOfStaying ∈ q_WS ∧ Cond.instanceMethod yX4_worthOfStaying ∈ q_WS ∧ Cond.selects yX4_worthOfStaying.cls yX4_worthOfStaying yX4_worthOfStaying ∈ q_WS := ⟨q_w3 206 rfl rfl, q_w3 208 rfl rfl, q_w0 16 rfl rfl⟩
theorem lX4_93 : Cond.methodLink RX4 93 yX4_worthOfGoing ∈ q_WS ∧ Cond.instanceMethod yX4_worthOfGoing ∈ q_WS ∧ Cond.selects yX4_worthOfGoing.cls yX4_worthOfGoing yX4_worthOfGoing ∈ q_WS := ⟨q_w3 214 rfl rfl, q_w3 216 rfl rfl, q_w0 17 rfl rfl⟩
theorem lX4_96 : Cond.methodLink RX4 96 yX4_keepMove ∈ q_WS ∧ Cond.instanceMethod yX4_keepMove ∈ q_WS ∧ Cond.selects yX4_keepMove.cls yX4_keepMove yX4_keepMove ∈ q_WS := ⟨q_w3 218 rfl rfl, q_w3 220 rfl rfl, q_w0 18 rfl rfl⟩
theorem lX4_109 : Cond.methodLink RX4 109 yX4_longOf ∈ q_WS ∧ Cond.instanceMethod yX4_longOf ∈ q_WS ∧ Cond.selects yX4_longOf.cls yX4_longOf yX4_longOf ∈ q_WS := ⟨q_w3 222 rfl rfl, q_w3 224 rfl rfl, q_w0 19 rfl rfl⟩
theorem lX4_114 : Cond.methodLink RX4 114 yX4_shiftOf ∈ q_WS ∧ Cond.static yX4_shiftOf ∈ q_WS := ⟨q_w3 227 rfl rfl, q_w3 228 rfl rfl⟩
theorem lX9_258 : Cond.methodLink RX9 258 yX4_write ∈ q_WS ∧ Cond.instanceMethod yX4_write ∈ q_WS ∧ Cond.selects yX4_write.cls yX4_write yX4_write ∈ q_WS := ⟨q_w3 231 rfl rfl, q_w3 232 rfl rfl, q_w3 233 rfl rfl⟩
theorem lX4_122 : Cond.methodLink RX4 122 yX4_keptMove ∈ q_WS ∧ Cond.instanceMethod yX4_keptMove ∈ q_WS ∧ Cond.selects yX4_keptMove.cls yX4_keptMove yX4_keptMove ∈ q_WS := ⟨q_w3 235 rfl rfl, q_w3 237 rfl rfl, q_w0 20 rfl rfl⟩
theorem lX4_63 : Cond.methodLink RX4 63 yX4_foundFuel ∈ q_WS ∧ Cond.instanceMethod yX4_foundFuel ∈ q_WS ∧ Cond.selects yX4_foundFuel.cls yX4_foundFuel yX4_foundFuel ∈ q_WS := ⟨q_w3 239 rfl rfl, q_w4 1 rfl rfl, q_w0 21 rfl rfl⟩
theorem lX9_268 : Cond.methodLink RX9 268 yX4_foundDanger ∈ q_WS ∧ Cond.instanceMethod yX4_foundDanger ∈ q_WS ∧ Cond.selects yX4_foundDanger.cls yX4_foundDanger yX4_foundDanger ∈ q_WS := ⟨q_w4 3 rfl rfl, q_w4 4 rfl rfl, q_w4 5 rfl rfl⟩
theorem lL_112 : Cond.methodLink RL 112 yX9_apart ∈ q_WS ∧ Cond.instanceMethod yX9_apart ∈ q_WS ∧ Cond.selects yX9_apart.cls yX9_apart yX9_apart ∈ q_WS := ⟨q_w4 7 rfl rfl, q_w4 8 rfl rfl, q_w4 9 rfl rfl⟩
theorem lX9_276 : Cond.methodLink RX9 276 yX4_findApart ∈ q_WS ∧ Cond.instanceMethod yX4_findApart ∈ q_WS ∧ Cond.selects yX4_findApart.cls yX4_findApart yX4_findApart ∈ q_WS := ⟨q_w4 11 rfl rfl, q_w4 12 rfl rfl, q_w4 13 rfl rfl⟩
theorem lL_117 : Cond.methodLink RL 117 yX9_cell ∈ q_WS ∧ Cond.instanceMethod yX9_cell ∈ q_WS ∧ Cond.selects yX9_cell.cls yX9_cell yX9_cell ∈ q_WS := ⟨q_w4 15 rfl rfl, q_w4 16 rfl rfl, q_w4 17 rfl rfl⟩
theorem lX9_286 : Cond.methodLink RX9 286 yX8_cellOn ∈ q_WS ∧ Cond.instanceMethod yX8_cellOn ∈ q_WS ∧ Cond.selects yX8_cellOn.cls yX8_cellOn yX8_cellOn ∈ q_WS := ⟨q_w4 19 rfl rfl, q_w3 195 rfl rfl, q_w3 196 rfl rfl⟩
theorem lL_121 : Cond.methodLink RL 121 yX9_word ∈ q_WS ∧ Cond.instanceMethod yX9_word ∈ q_WS ∧ Cond.selects yX9_word.cls yX9_word yX9_word ∈ q_WS := ⟨q_w4 20 rfl rfl, q_w4 21 rfl rfl, q_w4 22 rfl rfl⟩
theorem lX9_289 : Cond.methodLink RX9 289 yX8_fuelTill ∈ q_WS ∧ Cond.instanceMethod yX8_fuelTill ∈ q_WS ∧ Cond.selects yX8_fuelTill.cls yX8_fuelTill yX8_fuelTill ∈ q_WS := ⟨q_w4 24 rfl rfl, q_w4 25 rfl rfl, q_w4 26 rfl rfl⟩
theorem lL_125 : Cond.methodLink RL 125 yX9_sight ∈ q_WS ∧ Cond.instanceMethod yX9_sight ∈ q_WS ∧ Cond.selects yX9_sight.cls yX9_sight yX9_sight ∈ q_WS := ⟨q_w4 28 rfl rfl, q_w4 29 rfl rfl, q_w4 30 rfl rfl⟩
theorem lX9_295 : Cond.methodLink RX9 295 yX2_add ∈ q_WS ∧ Cond.instanceMethod yX2_add ∈ q_WS ∧ Cond.selects yX2_add.cls yX2_add yX2_add ∈ q_WS := ⟨q_w4 34 rfl rfl, q_w4 35 rfl rfl, q_w4 36 rfl rfl⟩
theorem lL_129 : Cond.methodLink RL 129 yX9_forget ∈ q_WS ∧ Cond.instanceMethod yX9_forget ∈ q_WS ∧ Cond.selects yX9_forget.cls yX9_forget yX9_forget ∈ q_WS := ⟨q_w4 38 rfl rfl, q_w4 39 rfl rfl, q_w4 40 rfl rfl⟩
theorem lL_134 : Cond.methodLink RL 134 yX9_told ∈ q_WS ∧ Cond.instanceMethod yX9_told ∈ q_WS ∧ Cond.selects yX9_told.cls yX9_told yX9_told ∈ q_WS := ⟨q_w4 42 rfl rfl, q_w4 43 rfl rfl, q_w4 44 rfl rfl⟩
theorem lX9_300 : Cond.methodLink RX9 300 yX2_explain ∈ q_WS ∧ Cond.instanceMethod yX2_explain ∈ q_WS ∧ Cond.selects yX2_explain.cls yX2_explain yX2_explain ∈ q_WS := ⟨q_w4 46 rfl rfl, q_w4 47 rfl rfl, q_w4 48 rfl rfl⟩
theorem lX2_60 : Cond.methodLink RX2 60 yX2_goTheWay ∈ q_WS ∧ Cond.instanceMethod yX2_goTheWay ∈ q_WS ∧ Cond.selects yX2_goTheWay.cls yX2_goTheWay yX2_goTheWay ∈ q_WS := ⟨q_w4 53 rfl rfl, q_w4 55 rfl rfl, q_w0 22 rfl rfl⟩
theorem lX2_76 : Cond.methodLink RX2 76 yX7_begin ∈ q_WS ∧ Cond.instanceMethod yX7_begin ∈ q_WS ∧ Cond.selects yX7_begin.cls yX7_begin yX7_begin ∈ q_WS := ⟨q_w4 57 rfl rfl, q_w2 196 rfl rfl, q_w2 197 rfl rfl⟩
theorem lX2_85 : Cond.methodLink RX2 85 yX7_move ∈ q_WS ∧ Cond.instanceMethod yX7_move ∈ q_WS ∧ Cond.selects yX7_move.cls yX7_move yX7_move ∈ q_WS := ⟨q_w4 58 rfl rfl, q_w2 200 rfl rfl, q_w2 201 rfl rfl⟩
theorem lX2_64 : Cond.methodLink RX2 64 yX2_misfitLess ∈ q_WS ∧ Cond.instanceMethod yX2_misfitLess ∈ q_WS ∧ Cond.selects yX2_misfitLess.cls yX2_misfitLess yX2_misfitLess ∈ q_WS := ⟨q_w4 59 rfl rfl, q_w4 61 rfl rfl, q_w0 23 rfl rfl⟩
theorem lX2_114 : Cond.methodLink RX2 114 Lib.Math.min.name ∈ q_WS ∧ Cond.static Lib.Math.min.name ∈ q_WS := ⟨q_w4 63 rfl rfl, q_w2 148 rfl rfl⟩
theorem lX2_117 : Cond.methodLink RX2 117 yX1_clearMinutes ∈ q_WS ∧ Cond.instanceMethod yX1_clearMinutes ∈ q_WS ∧ Cond.selects yX1_clearMinutes.cls yX1_clearMinutes yX1_clearMinutes ∈ q_WS := ⟨q_w4 64 rfl rfl, q_w4 65 rfl rfl, q_w4 66 rfl rfl⟩
theorem lX1_16 : Cond.methodLink RX1 16 Lib.Math.max.name ∈ q_WS ∧ Cond.static Lib.Math.max.name ∈ q_WS := ⟨q_w4 68 rfl rfl, q_w2 160 rfl rfl⟩
theorem lX1_22 : Cond.methodLink RX1 22 Lib.Math.min.name ∈ q_WS ∧ Cond.static Lib.Math.min.name ∈ q_WS := ⟨q_w4 69 rfl rfl, q_w2 148 rfl rfl⟩
theorem lX2_122 : Cond.methodLink RX2 122 Lib.MathLoose.abs_long.x ∈ q_WS ∧ Cond.static Lib.MathLoose.abs_long.x ∈ q_WS := ⟨q_w4 70 rfl rfl, q_w4 71 rfl rfl⟩
theorem lX2_68 : Cond.methodLink RX2 68 yX2_consider ∈ q_WS ∧ Cond.instanceMethod yX2_consider ∈ q_WS ∧ Cond.selects yX2_consider.cls yX2_consider yX2_consider ∈ q_WS := ⟨q_w4 73 rfl rfl, q_w4 75 rfl rfl, q_w0 24 rfl rfl⟩
theorem lX2_72 : Cond.methodLink RX2 72 yX2_considerMisses ∈ q_WS ∧ Cond.instanceMethod yX2_considerMisses ∈ q_WS ∧ Cond.selects yX2_considerMisses.cls yX2_considerMisses yX2_considerMisses ∈ q_WS := ⟨q_w4 77 rfl rfl, q_w4 79 rfl rfl, q_w0 25 rfl rfl⟩
theorem lX2_91 : Cond.methodLink RX2 91 yX5_courseAhead ∈ q_WS ∧ Cond.instanceMethod yX5_courseAhead ∈ q_WS ∧ Cond.selects yX5_courseAhead.cls yX5_courseAhead yX5_courseAhead ∈ q_WS := ⟨q_w4 81 rfl rfl, q_w4 82 rfl rfl, q_w4 83 rfl rfl⟩
theorem lX2_98 : (RX2, 98, yX9_pace) ∈ q_nest ∧ Cond.static yX9_pace ∈ q_WS := ⟨List.mem_of_getElem? (i := 13) rfl, q_w2 142 rfl rfl⟩
theorem lX2_106 : Cond.methodLink RX2 106 Lib.Math.max.name ∈ q_WS ∧ Cond.static Lib.Math.max.name ∈ q_WS := ⟨q_w4 86 rfl rfl, q_w2 160 rfl rfl⟩
theorem lX2_111 : Cond.methodLink RX2 111 yX5_legEnd ∈ q_WS ∧ Cond.instanceMethod yX5_legEnd ∈ q_WS ∧ Cond.selects yX5_legEnd.cls yX5_legEnd yX5_legEnd ∈ q_WS := ⟨q_w4 87 rfl rfl, q_w2 155 rfl rfl, q_w2 156 rfl rfl⟩
theorem lL_139 : Cond.methodLink RL 139 yX9_about ∈ q_WS ∧ Cond.instanceMethod yX9_about ∈ q_WS ∧ Cond.selects yX9_about.cls yX9_about yX9_about ∈ q_WS := ⟨q_w4 88 rfl rfl, q_w4 89 rfl rfl, q_w4 90 rfl rfl⟩
theorem lX9_316 : Cond.methodLink RX9 316 yX9_landCells ∈ q_WS ∧ Cond.instanceMethod yX9_landCells ∈ q_WS ∧ Cond.selects yX9_landCells.cls yX9_landCells yX9_landCells ∈ q_WS := ⟨q_w4 92 rfl rfl, q_w4 94 rfl rfl, q_w0 26 rfl rfl⟩
theorem lL_12 : Cond.methodLink RL 12 yX10_init ∈ q_WS ∧ Cond.instanceMethod yX10_init ∈ q_WS := ⟨q_w4 99 rfl rfl, q_w4 100 rfl rfl⟩
theorem lX10_1 : Cond.methodLink RX10 1 objectInit ∈ q_WS ∧ Cond.instanceMethod objectInit ∈ q_WS ∧ Cond.code objectInit ⟨#[0xb1]⟩ 1 none ∈ q_WS := ⟨q_w4 102 rfl rfl, q_w1 20 rfl rfl, q_w1 21 rfl rfl⟩
theorem lL_17 : Cond.methodLink RL 17 yX10_turn ∈ q_WS ∧ Cond.instanceMethod yX10_turn ∈ q_WS ∧ Cond.selects yX10_turn.cls yX10_turn yX10_turn ∈ q_WS := ⟨q_w5 23 rfl rfl, q_w5 24 rfl rfl, q_w5 25 rfl rfl⟩
theorem lX10_126 : Cond.methodLink RX10 126 yX10_isPlan ∈ q_WS ∧ Cond.static yX10_isPlan ∈ q_WS := ⟨q_w5 27 rfl rfl, q_w5 28 rfl rfl⟩
theorem lX10_122 : Cond.methodLink RX10 122 yX10_in ∈ q_WS ∧ Cond.static yX10_in ∈ q_WS := ⟨q_w5 31 rfl rfl, q_w5 32 rfl rfl⟩
theorem lL_22 : Cond.methodLink RL 22 yX10_clear ∈ q_WS ∧ Cond.instanceMethod yX10_clear ∈ q_WS ∧ Cond.selects yX10_clear.cls yX10_clear yX10_clear ∈ q_WS := ⟨q_w5 37 rfl rfl, q_w5 38 rfl rfl, q_w5 39 rfl rfl⟩
theorem lL_26 : Cond.methodLink RL 26 yX10_ofTurn ∈ q_WS ∧ Cond.instanceMethod yX10_ofTurn ∈ q_WS ∧ Cond.selects yX10_ofTurn.cls yX10_ofTurn yX10_ofTurn ∈ q_WS := ⟨q_w5 41 rfl rfl, q_w5 42 rfl rfl, q_w5 43 rfl rfl⟩
theorem lL_31 : Cond.methodLink RL 31 yX10_course ∈ q_WS ∧ Cond.instanceMethod yX10_course ∈ q_WS ∧ Cond.selects yX10_course.cls yX10_course yX10_course ∈ q_WS := ⟨q_w5 45 rfl rfl, q_w5 46 rfl rfl, q_w5 47 rfl rfl⟩
theorem lX10_138 : Cond.methodLink RX10 138 yX10_missNone ∈ q_WS ∧ Cond.instanceMethod yX10_missNone ∈ q_WS ∧ Cond.selects yX10_missNone.cls yX10_missNone yX10_missNone ∈ q_WS := ⟨q_w5 50 rfl rfl, q_w5 52 rfl rfl, q_w0 27 rfl rfl⟩
theorem lX10_141 : Cond.methodLink RX10 141 yX10_courseAt ∈ q_WS ∧ Cond.instanceMethod yX10_courseAt ∈ q_WS ∧ Cond.selects yX10_courseAt.cls yX10_courseAt yX10_courseAt ∈ q_WS := ⟨q_w5 54 rfl rfl, q_w5 56 rfl rfl, q_w0 28 rfl rfl⟩
theorem lL_36 : Cond.methodLink RL 36 yX10_ground ∈ q_WS ∧ Cond.instanceMethod yX10_ground ∈ q_WS ∧ Cond.selects yX10_ground.cls yX10_ground yX10_ground ∈ q_WS := ⟨q_w5 58 rfl rfl, q_w5 59 rfl rfl, q_w5 60 rfl rfl⟩
theorem lX10_173 : Cond.methodLink RX10 173 yX10_runPlan ∈ q_WS ∧ Cond.instanceMethod yX10_runPlan ∈ q_WS ∧ Cond.selects yX10_runPlan.cls yX10_runPlan yX10_runPlan ∈ q_WS := ⟨q_w5 64 rfl rfl, q_w5 66 rfl rfl, q_w0 29 rfl rfl⟩
theorem lX10_165 : Cond.methodLink RX10 165 yX10_go ∈ q_WS ∧ Cond.instanceMethod yX10_go ∈ q_WS ∧ Cond.selects yX10_go.cls yX10_go yX10_go ∈ q_WS := ⟨q_w5 68 rfl rfl, q_w5 70 rfl rfl, q_w0 30 rfl rfl⟩
theorem lX10_156 : Cond.methodLink RX10 156 yX10_alongOf ∈ q_WS ∧ Cond.static yX10_alongOf ∈ q_WS := ⟨q_w5 72 rfl rfl, q_w5 73 rfl rfl⟩
theorem lX10_145 : Cond.methodLink RX10 145 yX10_size ∈ q_WS ∧ Cond.static yX10_size ∈ q_WS := ⟨q_w5 75 rfl rfl, q_w5 76 rfl rfl⟩
theorem lX10_149 : Cond.methodLink RX10 149 yX10_part ∈ q_WS ∧ Cond.static yX10_part ∈ q_WS := ⟨q_w5 78 rfl rfl, q_w5 79 rfl rfl⟩
theorem lX10_162 : Cond.methodLink RX10 162 yX10_acrossOf ∈ q_WS ∧ Cond.static yX10_acrossOf ∈ q_WS := ⟨q_w5 81 rfl rfl, q_w5 82 rfl rfl⟩
theorem lL_40 : Cond.methodLink RL 40 yX10_steer ∈ q_WS ∧ Cond.instanceMethod yX10_steer ∈ q_WS ∧ Cond.selects yX10_steer.cls yX10_steer yX10_steer ∈ q_WS := ⟨q_w5 84 rfl rfl, q_w5 85 rfl rfl, q_w5 86 rfl rfl⟩
theorem lL_45 : Cond.methodLink RL 45 yX10_ship ∈ q_WS ∧ Cond.instanceMethod yX10_ship ∈ q_WS ∧ Cond.selects yX10_ship.cls yX10_ship yX10_ship ∈ q_WS := ⟨q_w5 88 rfl rfl, q_w5 89 rfl rfl, q_w5 90 rfl rfl⟩
theorem lX10_186 : Cond.methodLink RX10 186 yX10_isStart ∈ q_WS ∧ Cond.static yX10_isStart ∈ q_WS := ⟨q_w5 92 rfl rfl, q_w5 93 rfl rfl⟩
theorem lL_49 : Cond.methodLink RL 49 yX10_miss ∈ q_WS ∧ Cond.instanceMethod yX10_miss ∈ q_WS ∧ Cond.selects yX10_miss.cls yX10_miss yX10_miss ∈ q_WS := ⟨q_w5 100 rfl rfl, q_w5 101 rfl rfl, q_w5 102 rfl rfl⟩
theorem lL_53 : Cond.methodLink RL 53 yX10_fog ∈ q_WS ∧ Cond.instanceMethod yX10_fog ∈ q_WS ∧ Cond.selects yX10_fog.cls yX10_fog yX10_fog ∈ q_WS := ⟨q_w5 106 rfl rfl, q_w5 107 rfl rfl, q_w5 108 rfl rfl⟩
theorem lL_57 : Cond.methodLink RL 57 yX10_place ∈ q_WS ∧ Cond.instanceMethod yX10_place ∈ q_WS ∧ Cond.selects yX10_place.cls yX10_place yX10_place ∈ q_WS := ⟨q_w5 110 rfl rfl, q_w5 111 rfl rfl, q_w5 112 rfl rfl⟩
theorem lX10_210 : Cond.methodLink RX10 210 yX10_layMisses ∈ q_WS ∧ Cond.instanceMethod yX10_layMisses ∈ q_WS ∧ Cond.selects yX10_layMisses.cls yX10_layMisses yX10_layMisses ∈ q_WS := ⟨q_w5 114 rfl rfl, q_w5 116 rfl rfl, q_w0 31 rfl rfl⟩
theorem lX10_214 : Cond.methodLink RX10 214 yX10_step ∈ q_WS ∧ Cond.instanceMethod yX10_step ∈ q_WS ∧ Cond.selects yX10_step.cls yX10_step yX10_step ∈ q_WS := ⟨q_w5 118 rfl rfl, q_w5 120 rfl rfl, q_w0 32 rfl rfl⟩
theorem lL_62 : Cond.methodLink RL 62 yX10_nearest ∈ q_WS ∧ Cond.instanceMethod yX10_nearest ∈ q_WS ∧ Cond.selects yX10_nearest.cls yX10_nearest yX10_nearest ∈ q_WS := ⟨q_w5 122 rfl rfl, q_w5 123 rfl rfl, q_w5 124 rfl rfl⟩
theorem lX10_221 : Cond.methodLink RX10 221 yX10_begin ∈ q_WS ∧ Cond.instanceMethod yX10_begin ∈ q_WS ∧ Cond.selects yX10_begin.cls yX10_begin yX10_begin ∈ q_WS := ⟨q_w5 128 rfl rfl, q_w5 130 rfl rfl, q_w0 33 rfl rfl⟩
theorem lX10_224 : Cond.methodLink RX10 224 yX10_apartOf ∈ q_WS ∧ Cond.instanceMethod yX10_apartOf ∈ q_WS ∧ Cond.selects yX10_apartOf.cls yX10_apartOf yX10_apartOf ∈ q_WS := ⟨q_w5 132 rfl rfl, q_w5 134 rfl rfl, q_w0 34 rfl rfl⟩
theorem lX10_228 : Cond.methodLink RX10 228 yX10_stepAll ∈ q_WS ∧ Cond.instanceMethod yX10_stepAll ∈ q_WS ∧ Cond.selects yX10_stepAll.cls yX10_stepAll yX10_stepAll ∈ q_WS := ⟨q_w5 136 rfl rfl, q_w5 138 rfl rfl, q_w0 35 rfl rfl⟩
theorem lL_66 : Cond.methodLink RL 66 yX10_close ∈ q_WS ∧ Cond.instanceMethod yX10_close ∈ q_WS ∧ Cond.selects yX10_close.cls yX10_close yX10_close ∈ q_WS := ⟨q_w5 140 rfl rfl, q_w5 141 rfl rfl, q_w5 142 rfl rfl⟩
theorem lL_70 : Cond.methodLink RL 70 yX10_centre ∈ q_WS ∧ Cond.instanceMethod yX10_centre ∈ q_WS ∧ Cond.selects yX10_centre.cls yX10_centre yX10_centre ∈ q_WS := ⟨q_w5 145 rfl rfl, q_w5 146 rfl rfl, q_w5 147 rfl rfl⟩
theorem lL_74 : Cond.methodLink RL 74 yX10_lurk ∈ q_WS ∧ Cond.instanceMethod yX10_lurk ∈ q_WS ∧ Cond.selects yX10_lurk.cls yX10_lurk yX10_lurk ∈ q_WS := ⟨q_w5 149 rfl rfl, q_w5 150 rfl rfl, q_w5 151 rfl rfl⟩
theorem lL_78 : Cond.methodLink RL 78 yX10_comes ∈ q_WS ∧ Cond.instanceMethod yX10_comes ∈ q_WS ∧ Cond.selects yX10_comes.cls yX10_comes yX10_comes ∈ q_WS := ⟨q_w5 156 rfl rfl, q_w5 157 rfl rfl, q_w5 158 rfl rfl⟩
theorem lX10_244 : Cond.methodLink RX10 244 yX10_isWithin ∈ q_WS ∧ Cond.static yX10_isWithin ∈ q_WS := ⟨q_w5 161 rfl rfl, q_w5 162 rfl rfl⟩
theorem lL_82 : Cond.methodLink RL 82 yX10_gets ∈ q_WS ∧ Cond.instanceMethod yX10_gets ∈ q_WS ∧ Cond.selects yX10_gets.cls yX10_gets yX10_gets ∈ q_WS := ⟨q_w5 164 rfl rfl, q_w5 165 rfl rfl, q_w5 166 rfl rfl⟩
theorem lX10_251 : Cond.methodLink RX10 251 yX10_layPlans ∈ q_WS ∧ Cond.instanceMethod yX10_layPlans ∈ q_WS ∧ Cond.selects yX10_layPlans.cls yX10_layPlans yX10_layPlans ∈ q_WS := ⟨q_w5 168 rfl rfl, q_w5 170 rfl rfl, q_w0 36 rfl rfl⟩
theorem lX10_254 : Cond.methodLink RX10 254 yX10_getsAt ∈ q_WS ∧ Cond.instanceMethod yX10_getsAt ∈ q_WS ∧ Cond.selects yX10_getsAt.cls yX10_getsAt yX10_getsAt ∈ q_WS := ⟨q_w5 172 rfl rfl, q_w5 174 rfl rfl, q_w0 37 rfl rfl⟩
theorem lX10_247 : Cond.methodLink RX10 247 yX10_canBe ∈ q_WS ∧ Cond.instanceMethod yX10_canBe ∈ q_WS ∧ Cond.selects yX10_canBe.cls yX10_canBe yX10_canBe ∈ q_WS := ⟨q_w5 176 rfl rfl, q_w5 178 rfl rfl, q_w0 38 rfl rfl⟩
theorem lL_87 : Cond.methodLink RL 87 yX10_worst ∈ q_WS ∧ Cond.instanceMethod yX10_worst ∈ q_WS ∧ Cond.selects yX10_worst.cls yX10_worst yX10_worst ∈ q_WS := ⟨q_w5 180 rfl rfl, q_w5 181 rfl rfl, q_w5 182 rfl rfl⟩
theorem lX10_260 : Cond.methodLink RX10 260 yX10_layCaught ∈ q_WS ∧ Cond.instanceMethod yX10_layCaught ∈ q_WS ∧ Cond.selects yX10_layCaught.cls yX10_layCaught yX10_layCaught ∈ q_WS := ⟨q_w5 184 rfl rfl, q_w5 186 rfl rfl, q_w0 39 rfl rfl⟩
theorem lX10_263 : Cond.methodLink RX10 263 yX10_worstOf ∈ q_WS ∧ Cond.instanceMethod yX10_worstOf ∈ q_WS ∧ Cond.selects yX10_worstOf.cls yX10_worstOf yX10_worstOf ∈ q_WS := ⟨q_w5 188 rfl rfl, q_w5 190 rfl rfl, q_w0 40 rfl rfl⟩
theorem lL_91 : Cond.methodLink RL 91 yX10_mix ∈ q_WS ∧ Cond.instanceMethod yX10_mix ∈ q_WS ∧ Cond.selects yX10_mix.cls yX10_mix yX10_mix ∈ q_WS := ⟨q_w5 192 rfl rfl, q_w5 193 rfl rfl, q_w5 194 rfl rfl⟩
theorem lL_95 : Cond.methodLink RL 95 yX10_post ∈ q_WS ∧ Cond.instanceMethod yX10_post ∈ q_WS ∧ Cond.selects yX10_post.cls yX10_post yX10_post ∈ q_WS := ⟨q_w5 197 rfl rfl, q_w5 198 rfl rfl, q_w5 199 rfl rfl⟩
theorem lL_99 : Cond.methodLink RL 99 yX10_seen ∈ q_WS ∧ Cond.instanceMethod yX10_seen ∈ q_WS ∧ Cond.selects yX10_seen.cls yX10_seen yX10_seen ∈ q_WS := ⟨q_w5 204 rfl rfl, q_w5 205 rfl rfl, q_w5 206 rfl rfl⟩
theorem lX10_278 : Cond.methodLink RX10 278 yX10_findSeers ∈ q_WS ∧ Cond.instanceMethod yX10_findSeers ∈ q_WS ∧ Cond.selects yX10_findSeers.cls yX10_findSeers yX10_findSeers ∈ q_WS := ⟨q_w5 208 rfl rfl, q_w5 210 rfl rfl, q_w0 41 rfl rfl⟩
theorem lX10_281 : Cond.methodLink RX10 281 yX10_seenBy ∈ q_WS ∧ Cond.instanceMethod yX10_seenBy ∈ q_WS ∧ Cond.selects yX10_seenBy.cls yX10_seenBy yX10_seenBy ∈ q_WS := ⟨q_w5 212 rfl rfl, q_w5 214 rfl rfl, q_w0 42 rfl rfl⟩
theorem lL_103 : Cond.methodLink RL 103 yX10_best ∈ q_WS ∧ Cond.instanceMethod yX10_best ∈ q_WS ∧ Cond.selects yX10_best.cls yX10_best yX10_best ∈ q_WS := ⟨q_w5 216 rfl rfl, q_w5 217 rfl rfl, q_w5 218 rfl rfl⟩
theorem lX10_284 : Cond.methodLink RX10 284 yX10_ones ∈ q_WS ∧ Cond.static yX10_ones ∈ q_WS := ⟨q_w5 220 rfl rfl, q_w5 221 rfl rfl⟩
theorem lL_107 : Cond.methodLink RL 107 yX10_danger ∈ q_WS ∧ Cond.instanceMethod yX10_danger ∈ q_WS ∧ Cond.selects yX10_danger.cls yX10_danger yX10_danger ∈ q_WS := ⟨q_w5 223 rfl rfl, q_w5 224 rfl rfl, q_w5 225 rfl rfl⟩
theorem lL_111 : Cond.methodLink RL 111 yX10_route ∈ q_WS ∧ Cond.instanceMethod yX10_route ∈ q_WS ∧ Cond.selects yX10_route.cls yX10_route yX10_route ∈ q_WS := ⟨q_w5 228 rfl rfl, q_w5 229 rfl rfl, q_w5 230 rfl rfl⟩
theorem lX10_324 : Cond.methodLink RX10 324 yX10_isCell ∈ q_WS ∧ Cond.static yX10_isCell ∈ q_WS := ⟨q_w5 232 rfl rfl, q_w5 233 rfl rfl⟩
theorem lX10_327 : Cond.methodLink RX10 327 yX10_isAllowed ∈ q_WS ∧ Cond.static yX10_isAllowed ∈ q_WS := ⟨q_w5 236 rfl rfl, q_w5 237 rfl rfl⟩
theorem lX10_330 : Cond.methodLink RX10 330 yX10_find ∈ q_WS ∧ Cond.instanceMethod yX10_find ∈ q_WS ∧ Cond.selects yX10_find.cls yX10_find yX10_find ∈ q_WS := ⟨q_w5 239 rfl rfl, q_w6 1 rfl rfl, q_w0 43 rfl rfl⟩
theorem lX10_297 : Cond.methodLink RX10 297 yX10_isFree ∈ q_WS ∧ Cond.instanceMethod yX10_isFree ∈ q_WS ∧ Cond.selects yX10_isFree.cls yX10_isFree yX10_isFree ∈ q_WS := ⟨q_w6 3 rfl rfl, q_w6 5 rfl rfl, q_w0 44 rfl rfl⟩
theorem lX10_294 : Cond.methodLink RX10 294 yX10_isNear ∈ q_WS ∧ Cond.instanceMethod yX10_isNear ∈ q_WS ∧ Cond.selects yX10_isNear.cls yX10_isNear yX10_isNear ∈ q_WS := ⟨q_w6 7 rfl rfl, q_w6 9 rfl rfl, q_w0 45 rfl rfl⟩
theorem lX10_291 : Cond.methodLink RX10 291 yX10_cellOf ∈ q_WS ∧ Cond.instanceMethod yX10_cellOf ∈ q_WS ∧ Cond.selects yX10_cellOf.cls yX10_cellOf yX10_cellOf ∈ q_WS := ⟨q_w6 11 rfl rfl, q_w6 13 rfl rfl, q_w0 46 rfl rfl⟩
theorem lX10_318 : Cond.methodLink RX10 318 yX10_findCosts ∈ q_WS ∧ Cond.instanceMethod yX10_findCosts ∈ q_WS ∧ Cond.selects yX10_findCosts.cls yX10_findCosts yX10_findCosts ∈ q_WS := ⟨q_w6 16 rfl rfl, q_w6 18 rfl rfl, q_w0 47 rfl rfl⟩
theorem lX10_301 : Cond.methodLink RX10 301 yX10_placeOf ∈ q_WS ∧ Cond.static yX10_placeOf ∈ q_WS := ⟨q_w6 20 rfl rfl, q_w6 21 rfl rfl⟩
theorem lX10_305 : Cond.methodLink RX10 305 yX10_canStay ∈ q_WS ∧ Cond.instanceMethod yX10_canStay ∈ q_WS ∧ Cond.selects yX10_canStay.cls yX10_canStay yX10_canStay ∈ q_WS := ⟨q_w6 23 rfl rfl, q_w6 25 rfl rfl, q_w0 48 rfl rfl⟩
theorem lX10_308 : Cond.methodLink RX10 308 yX10_cheapest ∈ q_WS ∧ Cond.instanceMethod yX10_cheapest ∈ q_WS ∧ Cond.selects yX10_cheapest.cls yX10_cheapest yX10_cheapest ∈ q_WS := ⟨q_w6 27 rfl rfl, q_w6 29 rfl rfl, q_w0 49 rfl rfl⟩
theorem lX10_311 : Cond.methodLink RX10 311 yX10_byMove ∈ q_WS ∧ Cond.instanceMethod yX10_byMove ∈ q_WS ∧ Cond.selects yX10_byMove.cls yX10_byMove yX10_byMove ∈ q_WS := ⟨q_w6 31 rfl rfl, q_w6 33 rfl rfl, q_w0 50 rfl rfl⟩
theorem lX10_321 : Cond.methodLink RX10 321 yX10_firstMove ∈ q_WS ∧ Cond.instanceMethod yX10_firstMove ∈ q_WS ∧ Cond.selects yX10_firstMove.cls yX10_firstMove yX10_firstMove ∈ q_WS := ⟨q_w6 35 rfl rfl, q_w6 37 rfl rfl, q_w0 51 rfl rfl⟩
theorem lX10_315 : Cond.methodLink RX10 315 yX10_areBeside ∈ q_WS ∧ Cond.static yX10_areBeside ∈ q_WS := ⟨q_w6 39 rfl rfl, q_w6 40 rfl rfl⟩
theorem lL_116 : Cond.methodLink RL 116 yX10_apart ∈ q_WS ∧ Cond.instanceMethod yX10_apart ∈ q_WS ∧ Cond.selects yX10_apart.cls yX10_apart yX10_apart ∈ q_WS := ⟨q_w6 42 rfl rfl, q_w6 43 rfl rfl, q_w6 44 rfl rfl⟩
theorem lL_120 : Cond.methodLink RL 120 yX10_cell ∈ q_WS ∧ Cond.instanceMethod yX10_cell ∈ q_WS ∧ Cond.selects yX10_cell.cls yX10_cell yX10_cell ∈ q_WS := ⟨q_w6 46 rfl rfl, q_w6 47 rfl rfl, q_w6 48 rfl rfl⟩
theorem lX10_342 : Cond.methodLink RX10 342 yX10_fuelTill ∈ q_WS ∧ Cond.instanceMethod yX10_fuelTill ∈ q_WS ∧ Cond.selects yX10_fuelTill.cls yX10_fuelTill yX10_fuelTill ∈ q_WS := ⟨q_w6 51 rfl rfl, q_w6 53 rfl rfl, q_w0 52 rfl rfl⟩
theorem lL_124 : Cond.methodLink RL 124 yX10_word ∈ q_WS ∧ Cond.instanceMethod yX10_word ∈ q_WS ∧ Cond.selects yX10_word.cls yX10_word yX10_word ∈ q_WS := ⟨q_w6 55 rfl rfl, q_w6 56 rfl rfl, q_w6 57 rfl rfl⟩
theorem lL_128 : Cond.methodLink RL 128 yX10_sight ∈ q_WS ∧ Cond.instanceMethod yX10_sight ∈ q_WS ∧ Cond.selects yX10_sight.cls yX10_sight yX10_sight ∈ q_WS := ⟨q_w6 59 rfl rfl, q_w6 60 rfl rfl, q_w6 61 rfl rfl⟩
theorem lL_133 : Cond.methodLink RL 133 yX10_forget ∈ q_WS ∧ Cond.instanceMethod yX10_forget ∈ q_WS ∧ Cond.selects yX10_forget.cls yX10_forget yX10_forget ∈ q_WS := ⟨q_w6 65 rfl rfl, q_w6 66 rfl rfl, q_w6 67 rfl rfl⟩
theorem lL_138 : Cond.methodLink RL 138 yX10_told ∈ q_WS ∧ Cond.instanceMethod yX10_told ∈ q_WS ∧ Cond.selects yX10_told.cls yX10_told yX10_told ∈ q_WS := ⟨q_w6 69 rfl rfl, q_w6 70 rfl rfl, q_w6 71 rfl rfl⟩
theorem lX10_372 : Cond.methodLink RX10 372 yX10_tryFit ∈ q_WS ∧ Cond.instanceMethod yX10_tryFit ∈ q_WS ∧ Cond.selects yX10_tryFit.cls yX10_tryFit yX10_tryFit ∈ q_WS := ⟨q_w6 73 rfl rfl, q_w6 75 rfl rfl, q_w0 53 rfl rfl⟩
theorem lX10_356 : Cond.methodLink RX10 356 yX10_misfit ∈ q_WS ∧ Cond.instanceMethod yX10_misfit ∈ q_WS ∧ Cond.selects yX10_misfit.cls yX10_misfit yX10_misfit ∈ q_WS := ⟨q_w6 77 rfl rfl, q_w6 79 rfl rfl, q_w0 54 rfl rfl⟩
theorem lX10_352 : Cond.methodLink RX10 352 yX10_far ∈ q_WS ∧ Cond.static yX10_far ∈ q_WS := ⟨q_w6 81 rfl rfl, q_w6 82 rfl rfl⟩
theorem lL_142 : Cond.methodLink RL 142 yX10_about ∈ q_WS ∧ Cond.instanceMethod yX10_about ∈ q_WS ∧ Cond.selects yX10_about.cls yX10_about yX10_about ∈ q_WS := ⟨q_w6 84 rfl rfl, q_w6 85 rfl rfl, q_w6 86 rfl rfl⟩
theorem kX3_9 : Cond.constant RX3 9 (300000) ∈ q_WS := q_w1 125 rfl rfl
theorem kX9_323 : Cond.constant RX9 323 (-100000) ∈ q_WS := q_w2 173 rfl rfl
theorem kX9_324 : Cond.constant RX9 324 (100000) ∈ q_WS := q_w2 174 rfl rfl
theorem kX9_173 : Cond.constant RX9 173 (1000000) ∈ q_WS := q_w3 4 rfl rfl
theorem kX9_178 : Cond.constant RX9 178 (-2000000) ∈ q_WS := q_w3 17 rfl rfl
theorem kX9_179 : Cond.constant RX9 179 (2000000) ∈ q_WS := q_w3 18 rfl rfl
theorem kX9_180 : Cond.constant RX9 180 (200000) ∈ q_WS := q_w3 19 rfl rfl
theorem kX3_70 : Cond.constant RX3 70 (2147483647) ∈ q_WS := q_w3 63 rfl rfl
theorem kJ6_265 : Cond.constant RJ6 265 (1431655765) ∈ q_WS := q_w3 105 rfl rfl
theorem kJ6_266 : Cond.constant RJ6 266 (858993459) ∈ q_WS := q_w3 106 rfl rfl
theorem kJ6_267 : Cond.constant RJ6 267 (252645135) ∈ q_WS := q_w3 107 rfl rfl
theorem kX4_38 : Cond.constant RX4 38 (536870912) ∈ q_WS := q_w3 133 rfl rfl
theorem kX9_292 : Cond.constant RX9 292 (-10000000) ∈ q_WS := q_w4 32 rfl rfl
theorem kX9_293 : Cond.constant RX9 293 (10000000) ∈ q_WS := q_w4 33 rfl rfl
theorem kX10_54 : Cond.constant RX10 54 (300000) ∈ q_WS := q_w4 103 rfl rfl
theorem kX10_107 : Cond.constant RX10 107 (242064) ∈ q_WS := q_w4 104 rfl rfl
theorem kX10_300 : Cond.constant RX10 300 (1000000000) ∈ q_WS := q_w6 15 rfl rfl
theorem kX9_321 : Cond.constantLong RX9 321 (4) ∈ q_WS := q_w2 103 rfl rfl
theorem kX9_105 : Cond.constantLong RX9 105 (-1000000000001) ∈ q_WS := q_w2 135 rfl rfl
theorem kX9_107 : Cond.constantLong RX9 107 (-1000000000002) ∈ q_WS := q_w2 136 rfl rfl
theorem kX9_156 : Cond.constantLong RX9 156 (-1000000000003) ∈ q_WS := q_w2 217 rfl rfl
theorem kX0_46 : Cond.constantLong RX0 46 (9223372036854775807) ∈ q_WS := q_w2 222 rfl rfl
theorem kX3_48 : Cond.constantLong RX3 48 (1000) ∈ q_WS := q_w3 28 rfl rfl
theorem kX4_112 : Cond.constantLong RX4 112 (15) ∈ q_WS := q_w3 226 rfl rfl
theorem kX4_117 : Cond.constantLong RX4 117 (-1) ∈ q_WS := q_w3 230 rfl rfl
theorem kX2_54 : Cond.constantLong RX2 54 (9223372036854775807) ∈ q_WS := q_w4 50 rfl rfl
theorem kX9_319 : Cond.constantLong RX9 319 (10) ∈ q_WS := q_w4 96 rfl rfl
theorem kX10_120 : Cond.constantLong RX10 120 (3) ∈ q_WS := q_w5 30 rfl rfl
theorem kX10_130 : Cond.constantLong RX10 130 (59) ∈ q_WS := q_w5 34 rfl rfl
theorem kX10_132 : Cond.constantLong RX10 132 (-4) ∈ q_WS := q_w5 35 rfl rfl
theorem kX10_134 : Cond.constantLong RX10 134 (4) ∈ q_WS := q_w5 36 rfl rfl
theorem kX10_136 : Cond.constantLong RX10 136 (600) ∈ q_WS := q_w5 49 rfl rfl
theorem kX10_169 : Cond.constantLong RX10 169 (-1000000000001) ∈ q_WS := q_w5 62 rfl rfl
theorem kX10_171 : Cond.constantLong RX10 171 (-1000000000002) ∈ q_WS := q_w5 63 rfl rfl
theorem kX10_180 : Cond.constantLong RX10 180 (-100000) ∈ q_WS := q_w5 95 rfl rfl
theorem kX10_182 : Cond.constantLong RX10 182 (100000) ∈ q_WS := q_w5 96 rfl rfl
theorem kX10_184 : Cond.constantLong RX10 184 (20) ∈ q_WS := q_w5 97 rfl rfl
theorem kX10_190 : Cond.constantLong RX10 190 (-5) ∈ q_WS := q_w5 98 rfl rfl
theorem kX10_192 : Cond.constantLong RX10 192 (5) ∈ q_WS := q_w5 99 rfl rfl
theorem kX10_197 : Cond.constantLong RX10 197 (9) ∈ q_WS := q_w5 104 rfl rfl
theorem kX10_199 : Cond.constantLong RX10 199 (11) ∈ q_WS := q_w5 105 rfl rfl
theorem kX10_217 : Cond.constantLong RX10 217 (-1000000000003) ∈ q_WS := q_w5 126 rfl rfl
theorem kX10_219 : Cond.constantLong RX10 219 (-1) ∈ q_WS := q_w5 127 rfl rfl
theorem kX10_231 : Cond.constantLong RX10 231 (1000000) ∈ q_WS := q_w5 144 rfl rfl
theorem kX10_233 : Cond.constantLong RX10 233 (-2000000) ∈ q_WS := q_w5 153 rfl rfl
theorem kX10_235 : Cond.constantLong RX10 235 (2000000) ∈ q_WS := q_w5 154 rfl rfl
theorem kX10_237 : Cond.constantLong RX10 237 (200000) ∈ q_WS := q_w5 155 rfl rfl
theorem kX10_242 : Cond.constantLong RX10 242 (1000) ∈ q_WS := q_w5 160 rfl rfl
theorem kX10_267 : Cond.constantLong RX10 267 (12) ∈ q_WS := q_w5 196 rfl rfl
theorem kX10_269 : Cond.constantLong RX10 269 (-50) ∈ q_WS := q_w5 201 rfl rfl
theorem kX10_271 : Cond.constantLong RX10 271 (50) ∈ q_WS := q_w5 202 rfl rfl
theorem kX10_273 : Cond.constantLong RX10 273 (40) ∈ q_WS := q_w5 203 rfl rfl
theorem kX10_287 : Cond.constantLong RX10 287 (99) ∈ q_WS := q_w5 227 rfl rfl
theorem kX10_289 : Cond.constantLong RX10 289 (143) ∈ q_WS := q_w5 235 rfl rfl
theorem kX10_340 : Cond.constantLong RX10 340 (-2) ∈ q_WS := q_w6 50 rfl rfl
theorem kX10_345 : Cond.constantLong RX10 345 (-10000000) ∈ q_WS := q_w6 63 rfl rfl
theorem kX10_347 : Cond.constantLong RX10 347 (10000000) ∈ q_WS := q_w6 64 rfl rfl
theorem kX10_376 : Cond.constantLong RX10 376 (10) ∈ q_WS := q_w6 88 rfl rfl
theorem kX10_378 : Cond.constantLong RX10 378 (13) ∈ q_WS := q_w6 89 rfl rfl
theorem nL_7 : Cond.classLink RL 7 (q_cl 9).1 ∈ q_WS ∧ Cond.instantiable (q_cl 9).1 (q_cl 9).2.2 ∈ q_WS ∧ Cond.initialized (q_cl 9).1 ∈ q_WS := ⟨q_w1 14 rfl rfl, q_w1 15 rfl rfl, q_w1 1 rfl rfl⟩
theorem nX9_9 : Cond.classLink RX9 9 (q_cl 5).1 ∈ q_WS ∧ Cond.instantiable (q_cl 5).1 (q_cl 5).2.2 ∈ q_WS ∧ Cond.initialized (q_cl 5).1 ∈ q_WS := ⟨q_w1 22 rfl rfl, q_w2 38 rfl rfl, q_w1 9 rfl rfl⟩
theorem nX9_19 : Cond.classLink RX9 19 (q_cl 1).1 ∈ q_WS ∧ Cond.instantiable (q_cl 1).1 (q_cl 1).2.2 ∈ q_WS ∧ Cond.initialized (q_cl 1).1 ∈ q_WS := ⟨q_w1 24 rfl rfl, q_w1 25 rfl rfl, q_w1 2 rfl rfl⟩
theorem nX9_26 : Cond.classLink RX9 26 (q_cl 0).1 ∈ q_WS ∧ Cond.instantiable (q_cl 0).1 (q_cl 0).2.2 ∈ q_WS ∧ Cond.initialized (q_cl 0).1 ∈ q_WS := ⟨q_w1 39 rfl rfl, q_w1 40 rfl rfl, q_w1 3 rfl rfl⟩
theorem nX0_9 : Cond.classLink RX0 9 (q_cl 7).1 ∈ q_WS ∧ Cond.instantiable (q_cl 7).1 (q_cl 7).2.2 ∈ q_WS ∧ Cond.initialized (q_cl 7).1 ∈ q_WS := ⟨q_w1 45 rfl rfl, q_w1 47 rfl rfl, q_w1 4 rfl rfl⟩
theorem nX9_36 : Cond.classLink RX9 36 (q_cl 3).1 ∈ q_WS ∧ Cond.instantiable (q_cl 3).1 (q_cl 3).2.2 ∈ q_WS ∧ Cond.initialized (q_cl 3).1 ∈ q_WS := ⟨q_w1 119 rfl rfl, q_w1 120 rfl rfl, q_w1 5 rfl rfl⟩
theorem nX9_43 : Cond.classLink RX9 43 (q_cl 6).1 ∈ q_WS ∧ Cond.instantiable (q_cl 6).1 (q_cl 6).2.2 ∈ q_WS ∧ Cond.initialized (q_cl 6).1 ∈ q_WS := ⟨q_w1 170 rfl rfl, q_w1 171 rfl rfl, q_w1 6 rfl rfl⟩
theorem nX9_54 : Cond.classLink RX9 54 (q_cl 8).1 ∈ q_WS ∧ Cond.instantiable (q_cl 8).1 (q_cl 8).2.2 ∈ q_WS ∧ Cond.initialized (q_cl 8).1 ∈ q_WS := ⟨q_w1 196 rfl rfl, q_w1 197 rfl rfl, q_w1 7 rfl rfl⟩
theorem nX9_68 : Cond.classLink RX9 68 (q_cl 2).1 ∈ q_WS ∧ Cond.instantiable (q_cl 2).1 (q_cl 2).2.2 ∈ q_WS ∧ Cond.initialized (q_cl 2).1 ∈ q_WS := ⟨q_w1 230 rfl rfl, q_w1 231 rfl rfl, q_w1 8 rfl rfl⟩
theorem nX2_25 : Cond.classLink RX2 25 (q_cl 7).1 ∈ q_WS ∧ Cond.instantiable (q_cl 7).1 (q_cl 7).2.2 ∈ q_WS ∧ Cond.initialized (q_cl 7).1 ∈ q_WS := ⟨q_w1 236 rfl rfl, q_w1 47 rfl rfl, q_w1 4 rfl rfl⟩
theorem nX9_253 : Cond.classLink RX9 253 (q_cl 4).1 ∈ q_WS ∧ Cond.instantiable (q_cl 4).1 (q_cl 4).2.2 ∈ q_WS ∧ Cond.initialized (q_cl 4).1 ∈ q_WS := ⟨q_w3 127 rfl rfl, q_w3 128 rfl rfl, q_w1 13 rfl rfl⟩
theorem nL_10 : Cond.classLink RL 10 (q_cl 10).1 ∈ q_WS ∧ Cond.instantiable (q_cl 10).1 (q_cl 10).2.2 ∈ q_WS ∧ Cond.initialized (q_cl 10).1 ∈ q_WS := ⟨q_w4 97 rfl rfl, q_w4 98 rfl rfl, q_w1 10 rfl rfl⟩
theorem q_wAI : Cond.arrayClass .int ∈ q_WS := q_w1 83 rfl rfl
theorem q_wAJ : Cond.arrayClass .long ∈ q_WS := q_w1 169 rfl rfl
theorem q_wAZ : Cond.arrayClass .boolean ∈ q_WS := q_w5 22 rfl rfl
theorem q_wMmaxI : Cond.code Lib.Math.max.name Lib.Math.max.code 2 (some .int) ∈ q_WS := q_w2 161 rfl rfl
theorem q_wMminI : Cond.code Lib.Math.min.name Lib.Math.min.code 2 (some .int) ∈ q_WS := q_w2 149 rfl rfl
theorem q_wMabsI : Cond.code Lib.Math.abs.name Lib.Math.abs.code 1 (some .int) ∈ q_WS := q_w2 146 rfl rfl
theorem q_wMabsJ : Cond.code Lib.MathLoose.abs_long.x Lib.MathLoose.abs_long.code 2 (some .long) ∈ q_WS := q_w4 72 rfl rfl
theorem q_wMini : Cond.initialized "java/lang/Math" ∈ q_WS := q_w1 11 rfl rfl
def q_max (x y : Int32) : Int32 := if x < y then y else x
def q_min (x y : Int32) : Int32 := if y < x then y else x
def q_abs (x : Int32) : Int32 := if 0 ≤ x then x else 0 - x
def q_absL (x : Int64) : Int64 := if 0 < x then x else -x
def q_rm (x y : Int32) : Int32 := x - x / y * y
section QM
variable {g : q_G} {M : q_M} {E : State → Prop} {Z : List Frame → Array Value → State → State → Prop} {kc ks pc : Nat} {ls : List (Nat × Value)} {st : List Value} {S : q_S}
theorem q_mmax {x y : Int32} {idx : Nat} (hd : decode M.2.1 pc = .ok (.invokestatic idx, 3)) (hL : Cond.methodLink M.1.cls idx Lib.Math.max.name ∈ q_WS ∧ Cond.static Lib.Math.max.name ∈ q_WS) (hfr : 1 ≤ (q_R M).frames) (hlo : (st.map fun v => v.category).sum + 13 ≤ (q_R M).locals) (k : q_V g M E Z kc ks (pc + 3) ls (.int (q_max x y) :: st) S) : q_V g M E Z kc ks pc ls (.int y :: .int x :: st) S := by
  intro p e s m args below meth c H locs cells slots la C P hS c1 c2 hl
  have hts := C.2.2.2.2.2.1
  exact va_mmax C.1 C.2.1 (C.2.2.2.1.trans hl.1.symm) C.2.2.2.2.1 (hts _ hL.1) (hts _ hL.2) (hts _ q_wMini) (hts _ q_wMmaxI) hfr hlo (by omega) (by omega) hd (k p e s m args below meth c H locs cells slots la C P hS c1 c2 hl)
theorem q_mmin {x y : Int32} {idx : Nat} (hd : decode M.2.1 pc = .ok (.invokestatic idx, 3)) (hL : Cond.methodLink M.1.cls idx Lib.Math.min.name ∈ q_WS ∧ Cond.static Lib.Math.min.name ∈ q_WS) (hfr : 1 ≤ (q_R M).frames) (hlo : (st.map fun v => v.category).sum + 13 ≤ (q_R M).locals) (k : q_V g M E Z kc ks (pc + 3) ls (.int (q_min x y) :: st) S) : q_V g M E Z kc ks pc ls (.int y :: .int x :: st) S := by
  intro p e s m args below meth c H locs cells slots la C P hS c1 c2 hl
  have hts := C.2.2.2.2.2.1
  exact va_mmin C.1 C.2.1 (C.2.2.2.1.trans hl.1.symm) C.2.2.2.2.1 (hts _ hL.1) (hts _ hL.2) (hts _ q_wMini) (hts _ q_wMminI) hfr hlo (by omega) (by omega) hd (k p e s m args below meth c H locs cells slots la C P hS c1 c2 hl)
theorem q_mabs {x : Int32} {idx : Nat} (hd : decode M.2.1 pc = .ok (.invokestatic idx, 3)) (hL : Cond.methodLink M.1.cls idx Lib.Math.abs.name ∈ q_WS ∧ Cond.static Lib.Math.abs.name ∈ q_WS) (hfr : 1 ≤ (q_R M).frames) (hlo : (st.map fun v => v.category).sum + 13 ≤ (q_R M).locals) (k : q_V g M E Z kc ks (pc + 3) ls (.int (q_abs x) :: st) S) : q_V g M E Z kc ks pc ls (.int x :: st) S := by
  intro p e s m args below meth c H locs cells slots la C P hS c1 c2 hl
  have hts := C.2.2.2.2.2.1
  exact va_mabs C.1 C.2.1 (C.2.2.2.1.trans hl.1.symm) C.2.2.2.2.1 (hts _ hL.1) (hts _ hL.2) (hts _ q_wMini) (hts _ q_wMabsI) hfr hlo (by omega) (by omega) hd (k p e s m args below meth c H locs cells slots la C P hS c1 c2 hl)
theorem q_mabsL {x : Int64} {idx : Nat} (hd : decode M.2.1 pc = .ok (.invokestatic idx, 3)) (hL : Cond.methodLink M.1.cls idx Lib.MathLoose.abs_long.x ∈ q_WS ∧ Cond.static Lib.MathLoose.abs_long.x ∈ q_WS) (hfr : 1 ≤ (q_R M).frames) (hlo : (st.map fun v => v.category).sum + 13 ≤ (q_R M).locals) (k : q_V g M E Z kc ks (pc + 3) ls (.long (q_absL x) :: st) S) : q_V g M E Z kc ks pc ls (.long x :: st) S := by
  intro p e s m args below meth c H locs cells slots la C P hS c1 c2 hl
  have hts := C.2.2.2.2.2.1
  exact va_mabs_long C.1 C.2.1 (C.2.2.2.1.trans hl.1.symm) C.2.2.2.2.1 (hts _ hL.1) (hts _ hL.2) (hts _ q_wMini) (hts _ q_wMabsJ) hfr hlo (by omega) (by omega) hd (k p e s m args below meth c H locs cells slots la C P hS c1 c2 hl)
theorem q_irm {x y : Int32} (hd : decode M.2.1 pc = .ok (.irem, 1)) (hne : ¬ y = 0) (k : q_V g M E Z kc ks (pc + 1) ls (.int (q_rm x y) :: st) S) : q_V g M E Z kc ks pc ls (.int y :: .int x :: st) S := q_irem hd hne k
theorem q_iinc1 {i : Nat} {n : Int} {x w : Int32} {ls' : List (Nat × Value)} (js : List Nat) (hd : decode M.2.1 pc = .ok (.iinc i n, 3)) (hx : q_lk ls i = some (.int x)) (hw : Int32.ofInt n = w) (hn : i < M.2.2.1) (hs : q_pk ((i, .int (x + w)) :: ls.filter (fun q => !(q.1 == i) && !(q.1 + 1 == i && q.2.category == 2))) js = ls') (k : q_V g M E Z kc ks (pc + 3) ls' st S) : q_V g M E Z kc ks pc ls st S := q_iinc js hd hx hn (by rw [hw]; exact hs) k
end QM
end
section
def q_F0 : Nat → Nat → Option Nat := fun k j => match k with
  | 0 => (match j with | 0 => some 1 | 2 => some 2 | 3 => some 3 | 5 => some 23 | 6 => some 28 | 7 => some 33 | 8 => some 34 | 9 => some 36 | 11 => some 38 | _ => none)
  | 1 => (match j with | 0 => some 46 | 1 => some 49 | 2 => some 52 | 3 => some 55 | _ => none)
  | 3 => (match j with | 0 => some 4 | _ => none)
  | 4 => (match j with | 0 => some 5 | 1 => some 7 | 2 => some 9 | 3 => some 11 | 4 => some 13 | 5 => some 15 | 6 => some 17 | 7 => some 19 | 8 => some 21 | _ => none)
  | 5 => (match j with | 4 => some 6 | _ => none)
  | 7 => (match j with | 4 => some 8 | _ => none)
  | 9 => (match j with | 4 => some 10 | _ => none)
  | 11 => (match j with | 4 => some 12 | _ => none)
  | 13 => (match j with | 4 => some 14 | _ => none)
  | 15 => (match j with | 4 => some 16 | _ => none)
  | 17 => (match j with | 4 => some 18 | _ => none)
  | 19 => (match j with | 4 => some 20 | _ => none)
  | 21 => (match j with | 4 => some 22 | _ => none)
  | 23 => (match j with | 4 => some 24 | 5 => some 25 | 6 => some 26 | 9 => some 27 | _ => none)
  | 28 => (match j with | 0 => some 29 | 1 => some 30 | 2 => some 31 | 4 => some 32 | _ => none)
  | 34 => (match j with | 1 => some 35 | _ => none)
  | 36 => (match j with | 1 => some 37 | _ => none)
  | 38 => (match j with | 0 => some 39 | 1 => some 40 | 2 => some 41 | 4 => some 42 | 5 => some 44 | 6 => some 45 | _ => none)
  | 42 => (match j with | 4 => some 43 | _ => none)
  | 46 => (match j with | 0 => some 47 | 1 => some 48 | _ => none)
  | 49 => (match j with | 0 => some 50 | 1 => some 51 | _ => none)
  | 52 => (match j with | 0 => some 53 | 1 => some 54 | _ => none)
  | 55 => (match j with | 0 => some 56 | 1 => some 57 | _ => none)
  | 58 => (match j with | 0 => some 59 | 1 => some 60 | 2 => some 61 | 4 => some 62 | 7 => some 63 | 8 => some 64 | 9 => some 65 | 10 => some 66 | 12 => some 67 | 13 => some 68 | 14 => some 69 | 18 => some 70 | 19 => some 71 | 25 => some 72 | 26 => some 73 | 27 => some 74 | 29 => some 75 | 30 => some 76 | 31 => some 77 | 32 => some 78 | 33 => some 79 | 35 => some 80 | 36 => some 81 | 37 => some 82 | 38 => some 83 | 39 => some 84 | 43 => some 85 | 44 => some 86 | 45 => some 87 | 46 => some 88 | _ => none)
  | _ => none
def q_F1 : Nat → Nat → Option Nat := fun k j => match k with
  | 0 => (match j with | 10 => some 89 | _ => none)
  | 89 => (match j with | 0 => some 33 | 1 => some 34 | 2 => some 90 | 3 => some 91 | _ => none)
  | _ => none
/-- the references as the constructors left them -/
def q_FF (F : Nat → Nat → Option Nat) : Prop := ∀ k j t, q_F0 k j = some t → F k j = some t
def q_FP (F : Nat → Nat → Option Nat) : Prop := ∀ k j t, q_F1 k j = some t → F k j = some t
def q_isPlan (a : Nat) : Prop := a = 46 ∨ a = 49 ∨ a = 52 ∨ a = 55
def q_isShip (a : Nat) : Prop := a = 5 ∨ a = 7 ∨ a = 9 ∨ a = 11 ∨ a = 13 ∨ a = 15 ∨ a = 17 ∨ a = 19 ∨ a = 21 ∨ a = 42
def q_isVoy (a : Nat) : Prop := a = 34 ∨ a = 36
theorem q_is34 : q_isVoy 34 := Or.inl rfl
theorem q_is36 : q_isVoy 36 := Or.inr rfl
theorem q_is42 : q_isShip 42 := by simp [q_isShip]
theorem q_plan_0 {a : Nat} (h : q_isPlan a) : q_lay a = (0, 5) := by rcases h with rfl | rfl | rfl | rfl <;> rfl
theorem q_plan_1 {a : Nat} (h : q_isPlan a) : q_lay (a + 1) = (1, 12) := by rcases h with rfl | rfl | rfl | rfl <;> rfl
theorem q_plan_2 {a : Nat} (h : q_isPlan a) : q_lay (a + 2) = (1, 12) := by rcases h with rfl | rfl | rfl | rfl <;> rfl
theorem q_ship_0 {a : Nat} (h : q_isShip a) : q_lay a = (0, 7) := by rcases h with rfl | rfl | rfl | rfl | rfl | rfl | rfl | rfl | rfl | rfl <;> rfl
theorem q_ship_1 {a : Nat} (h : q_isShip a) : q_lay (a + 1) = (1, 10) := by rcases h with rfl | rfl | rfl | rfl | rfl | rfl | rfl | rfl | rfl | rfl <;> rfl
theorem q_voy_0 {a : Nat} (h : q_isVoy a) : q_lay a = (0, 8) := by rcases h with rfl | rfl <;> rfl
theorem q_voy_1 {a : Nat} (h : q_isVoy a) : q_lay (a + 1) = (1, 41) := by rcases h with rfl | rfl <;> rfl
theorem q_plan_n {a n : Nat} (h : q_isPlan a) (hn : 89 ≤ n) : a + 2 < n := by unfold q_isPlan at h; omega
theorem q_ship_n {a n : Nat} (h : q_isShip a) (hn : 89 ≤ n) : a + 2 < n := by unfold q_isShip at h; omega
theorem q_voy_n {a n : Nat} (h : q_isVoy a) (hn : 89 ≤ n) : a + 2 < n := by unfold q_isVoy at h; omega
theorem q_lt0 {a n : Nat} (h : a + 2 < n) : a < n := by omega
theorem q_lt1 {a n : Nat} (h : a + 2 < n) : a + 1 < n := by omega
theorem q_lt2 {a n : Nat} (h : a + 2 < n) : a + 2 < n := h
theorem q_plan_F1 {F : Nat → Nat → Option Nat} (hF : q_FF F) {a : Nat} (h : q_isPlan a) : F a 0 = some (a + 1) := by rcases h with rfl | rfl | rfl | rfl <;> exact hF _ _ _ rfl
theorem q_plan_F2 {F : Nat → Nat → Option Nat} (hF : q_FF F) {a : Nat} (h : q_isPlan a) : F a 1 = some (a + 2) := by rcases h with rfl | rfl | rfl | rfl <;> exact hF _ _ _ rfl
theorem q_ship_F1 {F : Nat → Nat → Option Nat} (hF : q_FF F) {a : Nat} (h : q_isShip a) : F a 4 = some (a + 1) := by rcases h with rfl | rfl | rfl | rfl | rfl | rfl | rfl | rfl | rfl | rfl <;> exact hF _ _ _ rfl
theorem q_voy_F1 {F : Nat → Nat → Option Nat} (hF : q_FF F) {a : Nat} (h : q_isVoy a) : F a 1 = some (a + 1) := by rcases h with rfl | rfl <;> exact hF _ _ _ rfl
/-- an index is in a row of n -/
def q_in (i : Int32) (n : Nat) : Bool := decide (0 ≤ i) && decide (i.toNatClampNeg < n)
theorem q_in_vp {i : Int32} {n : Nat} (h : q_in i n = true) : vp_in i n := by
  simp only [q_in, Bool.and_eq_true, decide_eq_true_eq] at h
  rintro (h1 | h1)
  · rw [Int32.lt_iff_toInt_lt] at h1
    have := h.1
    rw [Int32.le_iff_toInt_le] at this
    omega
  · omega
theorem q_in_lt {i : Int32} {n : Nat} (h : q_in i n = true) : i.toNatClampNeg < n := by
  simp only [q_in, Bool.and_eq_true, decide_eq_true_eq] at h
  exact h.2
theorem q_at_plan {i : Int32} (h : q_in i 4 = true) : q_isPlan (46 + 3 * i.toNatClampNeg) := by
  have := q_in_lt h
  unfold q_isPlan
  omega
theorem q_at_ship {i : Int32} (h : q_in i 9 = true) : q_isShip (5 + 2 * i.toNatClampNeg) := by
  have := q_in_lt h
  unfold q_isShip
  omega
theorem q_at_planF {F : Nat → Nat → Option Nat} (hF : q_FF F) {i : Int32} (h : q_in i 4 = true) : F 1 i.toNatClampNeg = some (46 + 3 * i.toNatClampNeg) := by
  have := q_in_lt h
  generalize i.toNatClampNeg = k at *
  match k, this with
  | 0, _ => exact hF _ _ _ rfl
  | 1, _ => exact hF _ _ _ rfl
  | 2, _ => exact hF _ _ _ rfl
  | 3, _ => exact hF _ _ _ rfl
theorem q_at_shipF {F : Nat → Nat → Option Nat} (hF : q_FF F) {i : Int32} (h : q_in i 9 = true) : F 4 i.toNatClampNeg = some (5 + 2 * i.toNatClampNeg) := by
  have := q_in_lt h
  generalize i.toNatClampNeg = k at *
  match k, this with
  | 0, _ => exact hF _ _ _ rfl
  | 1, _ => exact hF _ _ _ rfl
  | 2, _ => exact hF _ _ _ rfl
  | 3, _ => exact hF _ _ _ rfl
  | 4, _ => exact hF _ _ _ rfl
  | 5, _ => exact hF _ _ _ rfl
  | 6, _ => exact hF _ _ _ rfl
  | 7, _ => exact hF _ _ _ rfl
  | 8, _ => exact hF _ _ _ rfl
/-- ints and longs -/
abbrev q_Mm : Type := (Nat → Nat → Int32) × (Nat → Nat → Int64)
def q_wi (m : q_Mm) (a j : Nat) (x : Int32) : q_Mm := (q_up m.1 a j x, m.2)
def q_wl (m : q_Mm) (a j : Nat) (x : Int64) : q_Mm := (m.1, q_up m.2 a j x)
abbrev q_mk (n : Nat) (F : Nat → Nat → Option Nat) (m : q_Mm) : q_S := (n, m.1, m.2, F)
def q_Q (v0 : Option Value) (S0 : q_S) : Option Value → q_S → Prop := fun v S => v = v0 ∧ S = S0
theorem q_it {α : Type} {c : Prop} {i : Decidable c} {x y z : α} (hc : c) (h : @ite α c i x y = z) : x = z := by rw [if_pos hc] at h; exact h
theorem q_if {α : Type} {c : Prop} {i : Decidable c} {x y z : α} (hc : ¬ c) (h : @ite α c i x y = z) : y = z := by rw [if_neg hc] at h; exact h
theorem q_is {α : Type} {c : Prop} {i : Decidable c} {x : Option α} {z : α} (h : @ite (Option α) c i x none = some z) : c ∧ x = some z := by
  by_cases hc : c
  · rw [if_pos hc] at h; exact ⟨hc, h⟩
  · rw [if_neg hc] at h; cases h
theorem q_bd {α β : Type} {o : Option α} {f : α → Option β} {z : β} (h : o.bind f = some z) : ∃ x, o = some x ∧ f x = some z := by
  cases o with
  | none => cases h
  | some x => exact ⟨x, rfl, h⟩
theorem q_out {x : Int32} {lo hi : Int} (N : Nat) (hN : lo + N = hi + 1) (h : ∀ k : Nat, k < N → ¬ x = Int32.ofInt (lo + k)) : x.toInt < lo ∨ hi < x.toInt := by
  by_cases h1 : x.toInt < lo
  · exact Or.inl h1
  · by_cases h2 : hi < x.toInt
    · exact Or.inr h2
    · refine absurd ?_ (h (x.toInt - lo).toNat (by omega))
      rw [show lo + ((x.toInt - lo).toNat : Int) = x.toInt by omega, Int32.ofInt_toInt]
/-- 0 or 1 -/
def q_bo (x : Int32) : Prop := x = 0 ∨ x = 1
theorem q_bo_n {x : Int32} (h : q_bo x) : narrow .boolean (.int x) = .int x := by rcases h with rfl | rfl <;> rfl
section QU
variable {g : q_G} {M : q_M} {E : State → Prop} {Z : List Frame → Array Value → State → State → Prop} {kc ks pc : Nat} {ls : List (Nat × Value)} {st : List Value} {S : q_S} {n : Nat} {F : Nat → Nat → Option Nat} {m : q_Mm}
theorem u_geti {a ci j idx : Nat} (hd : decode M.2.1 pc = .ok (.getfield idx, 3)) (hF : q_FL M.1.cls idx ci j) (ht : q_kd (q_ty ci j) = 0) (hy : q_lay a = (0, ci)) (ha : a < n) (k : q_V g M E Z kc ks (pc + 3) ls (.int (m.1 a j) :: st) (q_mk n F m)) : q_V g M E Z kc ks pc ls (q_r g a :: st) (q_mk n F m) := q_geti (S := (q_mk n F m)) hd hF ht hy ha k
theorem u_getl {a ci j idx : Nat} (hd : decode M.2.1 pc = .ok (.getfield idx, 3)) (hF : q_FL M.1.cls idx ci j) (ht : q_kd (q_ty ci j) = 1) (hy : q_lay a = (0, ci)) (ha : a < n) (k : q_V g M E Z kc ks (pc + 3) ls (.long (m.2 a j) :: st) (q_mk n F m)) : q_V g M E Z kc ks pc ls (q_r g a :: st) (q_mk n F m) := q_getl (S := (q_mk n F m)) hd hF ht hy ha k
theorem u_getr {t : Nat} {a ci j idx : Nat} (hd : decode M.2.1 pc = .ok (.getfield idx, 3)) (hF : q_FL M.1.cls idx ci j) (ht : q_kd (q_ty ci j) = 2) (hy : q_lay a = (0, ci)) (ha : a < n) (hf : F a j = some t) (k : q_V g M E Z kc ks (pc + 3) ls (q_r g t :: st) (q_mk n F m)) : q_V g M E Z kc ks pc ls (q_r g a :: st) (q_mk n F m) := q_getr (S := (q_mk n F m)) hd hF ht hy ha hf k
theorem u_puti {x : Int32} {a ci j idx : Nat} (hd : decode M.2.1 pc = .ok (.putfield idx, 3)) (hF : q_FL M.1.cls idx ci j) (ht : q_kd (q_ty ci j) = 0) (hy : q_lay a = (0, ci)) (ha : a < n) (hfin : ((q_cl ci).2.1 j).2.2.2 = false) (hn : narrow (q_ty ci j) (.int x) = .int x) (hfit : fits (q_ty ci j) (.int x) = true) (k : q_V g M E Z kc ks (pc + 3) ls st (q_mk n F (q_wi m a j x))) : q_V g M E Z kc ks pc ls (.int x :: q_r g a :: st) (q_mk n F m) := q_puti (S := (q_mk n F m)) hd hF ht hy ha hfin hn hfit k
theorem u_putl {x : Int64} {a ci j idx : Nat} (hd : decode M.2.1 pc = .ok (.putfield idx, 3)) (hF : q_FL M.1.cls idx ci j) (ht : q_kd (q_ty ci j) = 1) (hy : q_lay a = (0, ci)) (ha : a < n) (hfin : ((q_cl ci).2.1 j).2.2.2 = false) (hn : narrow (q_ty ci j) (.long x) = .long x) (hfit : fits (q_ty ci j) (.long x) = true) (k : q_V g M E Z kc ks (pc + 3) ls st (q_mk n F (q_wl m a j x))) : q_V g M E Z kc ks pc ls (.long x :: q_r g a :: st) (q_mk n F m) := q_putl (S := (q_mk n F m)) hd hF ht hy ha hfin hn hfit k
theorem u_iald {a len : Nat} {i : Int32} (hd : decode M.2.1 pc = .ok (.iaload, 1)) (hy : q_lay a = (1, len)) (ha : a < n) (hin : vp_in i len) (k : q_V g M E Z kc ks (pc + 1) ls (.int (m.1 a i.toNatClampNeg) :: st) (q_mk n F m)) : q_V g M E Z kc ks pc ls (.int i :: q_r g a :: st) (q_mk n F m) := q_iald (S := (q_mk n F m)) hd hy ha hin k
theorem u_zald {a len : Nat} {i : Int32} (hd : decode M.2.1 pc = .ok (.baload, 1)) (hy : q_lay a = (3, len)) (ha : a < n) (hin : vp_in i len) (k : q_V g M E Z kc ks (pc + 1) ls (.int (m.1 a i.toNatClampNeg) :: st) (q_mk n F m)) : q_V g M E Z kc ks pc ls (.int i :: q_r g a :: st) (q_mk n F m) := q_zald (S := (q_mk n F m)) hd hy ha hin k
theorem u_lald {a len : Nat} {i : Int32} (hd : decode M.2.1 pc = .ok (.laload, 1)) (hy : q_lay a = (2, len)) (ha : a < n) (hin : vp_in i len) (k : q_V g M E Z kc ks (pc + 1) ls (.long (m.2 a i.toNatClampNeg) :: st) (q_mk n F m)) : q_V g M E Z kc ks pc ls (.int i :: q_r g a :: st) (q_mk n F m) := q_lald (S := (q_mk n F m)) hd hy ha hin k
theorem u_aald {a len t : Nat} {i : Int32} (hd : decode M.2.1 pc = .ok (.aaload, 1)) (hy : q_lay a = (4, len) ∨ q_lay a = (5, len)) (ha : a < n) (hin : vp_in i len) (hf : F a i.toNatClampNeg = some t) (k : q_V g M E Z kc ks (pc + 1) ls (q_r g t :: st) (q_mk n F m)) : q_V g M E Z kc ks pc ls (.int i :: q_r g a :: st) (q_mk n F m) := q_aald (S := (q_mk n F m)) hd hy ha hin hf k
theorem u_iast {a len : Nat} {i : Int32} {x : Int32} (hd : decode M.2.1 pc = .ok (.iastore, 1)) (hy : q_lay a = (1, len)) (ha : a < n) (hin : vp_in i len) (k : q_V g M E Z kc ks (pc + 1) ls st (q_mk n F (q_wi m a i.toNatClampNeg x))) : q_V g M E Z kc ks pc ls (.int x :: .int i :: q_r g a :: st) (q_mk n F m) := q_iast (S := (q_mk n F m)) hd hy ha hin k
theorem u_zast {a len : Nat} {i : Int32} {x : Int32} (hd : decode M.2.1 pc = .ok (.bastore, 1)) (hy : q_lay a = (3, len)) (ha : a < n) (hin : vp_in i len) (hnar : narrow .boolean (.int x) = .int x) (k : q_V g M E Z kc ks (pc + 1) ls st (q_mk n F (q_wi m a i.toNatClampNeg x))) : q_V g M E Z kc ks pc ls (.int x :: .int i :: q_r g a :: st) (q_mk n F m) := q_zast (S := (q_mk n F m)) hd hy ha hin hnar k
theorem u_last {a len : Nat} {i : Int32} {x : Int64} (hd : decode M.2.1 pc = .ok (.lastore, 1)) (hy : q_lay a = (2, len)) (ha : a < n) (hin : vp_in i len) (k : q_V g M E Z kc ks (pc + 1) ls st (q_mk n F (q_wl m a i.toNatClampNeg x))) : q_V g M E Z kc ks pc ls (.long x :: .int i :: q_r g a :: st) (q_mk n F m) := q_last (S := (q_mk n F m)) hd hy ha hin k
theorem c_V1 {v : Value} {S' : q_S} {K : q_M} {np idx a ci : Nat} {as : List Value} {st0 : List Value} (hd : decode M.2.1 pc = .ok (.invokevirtual idx, 3)) (hK : q_ok K np) (hL : Cond.methodLink M.1.cls idx K.1 ∈ q_WS ∧ Cond.instanceMethod K.1 ∈ q_WS ∧ Cond.selects K.1.cls K.1 K.1 ∈ q_WS) (h0 : (q_R K).cells = 0 ∧ (q_R K).slots = 0) (hR : q_fit M K) (hlt : ci < 11) (hci : (q_cl ci).1 = K.1.cls) (hy : q_lay a = (0, ci)) (ha : a < S.1) (hst : st0 = as.reverse ++ q_r g a :: st) (hnp : as.length = np) (hcat : (st.map fun v => v.category).sum ≤ 8) (hlen : (lg_sl (q_r g a :: as)).length ≤ K.2.2.1) (hc : q_Cn g K (q_r g a :: as) S (q_Q (some v) S')) (k : q_V g M E Z kc ks (pc + 3) ls (v :: st) S') : q_V g M E Z kc ks pc ls st0 S :=
  q_callV kc ks (by rw [h0.1]; exact Nat.le_refl _) (by rw [h0.2]; exact Nat.le_refl _) hd hK hL hR hlt hci hy ha hst hnp hcat hlen hc (by rintro _ _ ⟨rfl, rfl⟩; exact k)
theorem c_S1 {v : Value} {S' : q_S} {K : q_M} {np idx : Nat} {as : List Value} {st0 : List Value} (hd : decode M.2.1 pc = .ok (.invokestatic idx, 3)) (hK : q_ok K np) (hL : Cond.methodLink M.1.cls idx K.1 ∈ q_WS ∧ Cond.static K.1 ∈ q_WS) (h0 : (q_R K).cells = 0 ∧ (q_R K).slots = 0) (hR : q_fit M K) (hst : st0 = as.reverse ++ st) (hnp : as.length = np) (hcat : (st.map fun v => v.category).sum ≤ 8) (hlen : (lg_sl as).length ≤ K.2.2.1) (hc : q_Cn g K as S (q_Q (some v) S')) (k : q_V g M E Z kc ks (pc + 3) ls (v :: st) S') : q_V g M E Z kc ks pc ls st0 S :=
  q_callS kc ks (by rw [h0.1]; exact Nat.le_refl _) (by rw [h0.2]; exact Nat.le_refl _) hd hK hL hR hst hnp hcat hlen hc (by rintro _ _ ⟨rfl, rfl⟩; exact k)
theorem c_SN1 {v : Value} {S' : q_S} {K : q_M} {np idx : Nat} {as : List Value} {st0 : List Value} (hd : decode M.2.1 pc = .ok (.invokestatic idx, 3)) (hK : q_ok K np) (hL : (M.1.cls, idx, K.1) ∈ q_nest ∧ Cond.static K.1 ∈ q_WS) (h0 : (q_R K).cells = 0 ∧ (q_R K).slots = 0) (hR : q_fit M K) (hst : st0 = as.reverse ++ st) (hnp : as.length = np) (hcat : (st.map fun v => v.category).sum ≤ 8) (hlen : (lg_sl as).length ≤ K.2.2.1) (hc : q_Cn g K as S (q_Q (some v) S')) (k : q_V g M E Z kc ks (pc + 3) ls (v :: st) S') : q_V g M E Z kc ks pc ls st0 S :=
  q_callSN kc ks (by rw [h0.1]; exact Nat.le_refl _) (by rw [h0.2]; exact Nat.le_refl _) hd hK hL hR hst hnp hcat hlen hc (by rintro _ _ ⟨rfl, rfl⟩; exact k)
theorem c_V0 {S' : q_S} {K : q_M} {np idx a ci : Nat} {as : List Value} {st0 : List Value} (hd : decode M.2.1 pc = .ok (.invokevirtual idx, 3)) (hK : q_ok K np) (hL : Cond.methodLink M.1.cls idx K.1 ∈ q_WS ∧ Cond.instanceMethod K.1 ∈ q_WS ∧ Cond.selects K.1.cls K.1 K.1 ∈ q_WS) (h0 : (q_R K).cells = 0 ∧ (q_R K).slots = 0) (hR : q_fit M K) (hlt : ci < 11) (hci : (q_cl ci).1 = K.1.cls) (hy : q_lay a = (0, ci)) (ha : a < S.1) (hst : st0 = as.reverse ++ q_r g a :: st) (hnp : as.length = np) (hcat : (st.map fun v => v.category).sum ≤ 8) (hlen : (lg_sl (q_r g a :: as)).length ≤ K.2.2.1) (hc : q_Cn g K (q_r g a :: as) S (q_Q none S')) (k : q_V g M E Z kc ks (pc + 3) ls (st) S') : q_V g M E Z kc ks pc ls st0 S :=
  q_callV kc ks (by rw [h0.1]; exact Nat.le_refl _) (by rw [h0.2]; exact Nat.le_refl _) hd hK hL hR hlt hci hy ha hst hnp hcat hlen hc (by rintro _ _ ⟨rfl, rfl⟩; exact k)
theorem c_S0 {S' : q_S} {K : q_M} {np idx : Nat} {as : List Value} {st0 : List Value} (hd : decode M.2.1 pc = .ok (.invokestatic idx, 3)) (hK : q_ok K np) (hL : Cond.methodLink M.1.cls idx K.1 ∈ q_WS ∧ Cond.static K.1 ∈ q_WS) (h0 : (q_R K).cells = 0 ∧ (q_R K).slots = 0) (hR : q_fit M K) (hst : st0 = as.reverse ++ st) (hnp : as.length = np) (hcat : (st.map fun v => v.category).sum ≤ 8) (hlen : (lg_sl as).length ≤ K.2.2.1) (hc : q_Cn g K as S (q_Q none S')) (k : q_V g M E Z kc ks (pc + 3) ls (st) S') : q_V g M E Z kc ks pc ls st0 S :=
  q_callS kc ks (by rw [h0.1]; exact Nat.le_refl _) (by rw [h0.2]; exact Nat.le_refl _) hd hK hL hR hst hnp hcat hlen hc (by rintro _ _ ⟨rfl, rfl⟩; exact k)
theorem c_SN0 {S' : q_S} {K : q_M} {np idx : Nat} {as : List Value} {st0 : List Value} (hd : decode M.2.1 pc = .ok (.invokestatic idx, 3)) (hK : q_ok K np) (hL : (M.1.cls, idx, K.1) ∈ q_nest ∧ Cond.static K.1 ∈ q_WS) (h0 : (q_R K).cells = 0 ∧ (q_R K).slots = 0) (hR : q_fit M K) (hst : st0 = as.reverse ++ st) (hnp : as.length = np) (hcat : (st.map fun v => v.category).sum ≤ 8) (hlen : (lg_sl as).length ≤ K.2.2.1) (hc : q_Cn g K as S (q_Q none S')) (k : q_V g M E Z kc ks (pc + 3) ls (st) S') : q_V g M E Z kc ks pc ls st0 S :=
  q_callSN kc ks (by rw [h0.1]; exact Nat.le_refl _) (by rw [h0.2]; exact Nat.le_refl _) hd hK hL hR hst hnp hcat hlen hc (by rintro _ _ ⟨rfl, rfl⟩; exact k)
end QU
end
section
theorem q_dummy : True := trivial
end
