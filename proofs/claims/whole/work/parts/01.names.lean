-- ===== PART A: goes FIRST, ahead of the names: the tables' words, and 'selects' of the private methods out of them =====
/-- a private method of a class that the tables say can be made, by its rows of tables_1 -/
def lw_okq (q : MethodName × Nat) : Prop := (q.1.cls ≠ "java/lang/invoke/MethodHandle" ∧ q.1.cls ≠ "java/lang/invoke/VarHandle") ∧ Cond.instantiable q.1.cls q.2 ∈ tables_1 ∧ Cond.privateMethod q.1 ∈ tables_1 ∧ Cond.instanceMethod q.1 ∈ tables_1
theorem lw_p0 : lw_okq (⟨"LastToWince$Auction", "wincing", "(LLastToWince$World;LLastToWince$Room;IIIZ)I"⟩, 3) := ⟨⟨by decide +kernel, by decide +kernel⟩, List.mem_of_getElem? (i := 403) (by decide +kernel), List.mem_of_getElem? (i := 612) (by decide +kernel), List.mem_of_getElem? (i := 613) (by decide +kernel)⟩
theorem lw_p1 : lw_okq (⟨"LastToWince$Law", "answer", "(I)I"⟩, 10) := ⟨⟨by decide +kernel, by decide +kernel⟩, List.mem_of_getElem? (i := 134) (by decide +kernel), List.mem_of_getElem? (i := 628) (by decide +kernel), List.mem_of_getElem? (i := 629) (by decide +kernel)⟩
theorem lw_p2 : lw_okq (⟨"LastToWince$Law", "value", "(II)I"⟩, 10) := ⟨⟨by decide +kernel, by decide +kernel⟩, List.mem_of_getElem? (i := 134) (by decide +kernel), List.mem_of_getElem? (i := 632) (by decide +kernel), List.mem_of_getElem? (i := 633) (by decide +kernel)⟩
theorem lw_p3 : lw_okq (⟨"LastToWince$Auction", "remaining", "(LLastToWince$World;LLastToWince$Room;IIIZ)I"⟩, 3) := ⟨⟨by decide +kernel, by decide +kernel⟩, List.mem_of_getElem? (i := 403) (by decide +kernel), List.mem_of_getElem? (i := 653) (by decide +kernel), List.mem_of_getElem? (i := 654) (by decide +kernel)⟩
theorem lw_p4 : lw_okq (⟨"LastToWince$Auction", "settle", "(LLastToWince$World;LLastToWince$Room;IIZ)V"⟩, 3) := ⟨⟨by decide +kernel, by decide +kernel⟩, List.mem_of_getElem? (i := 403) (by decide +kernel), List.mem_of_getElem? (i := 667) (by decide +kernel), List.mem_of_getElem? (i := 668) (by decide +kernel)⟩
theorem lw_p5 : lw_okq (⟨"LastToWince", "saleLine", "(III)Z"⟩, 10) := ⟨⟨by decide +kernel, by decide +kernel⟩, List.mem_of_getElem? (i := 24) (by decide +kernel), List.mem_of_getElem? (i := 682) (by decide +kernel), List.mem_of_getElem? (i := 683) (by decide +kernel)⟩
theorem lw_p6 : lw_okq (⟨"LastToWince$Reader", "cut", "()V"⟩, 17) := ⟨⟨by decide +kernel, by decide +kernel⟩, List.mem_of_getElem? (i := 332) (by decide +kernel), List.mem_of_getElem? (i := 709) (by decide +kernel), List.mem_of_getElem? (i := 710) (by decide +kernel)⟩
theorem lw_p7 : lw_okq (⟨"LastToWince$Reader", "cutToken", "(I)I"⟩, 17) := ⟨⟨by decide +kernel, by decide +kernel⟩, List.mem_of_getElem? (i := 332) (by decide +kernel), List.mem_of_getElem? (i := 713) (by decide +kernel), List.mem_of_getElem? (i := 714) (by decide +kernel)⟩
theorem lw_p8 : lw_okq (⟨"LastToWince$Reader", "keyword", "(II)I"⟩, 17) := ⟨⟨by decide +kernel, by decide +kernel⟩, List.mem_of_getElem? (i := 332) (by decide +kernel), List.mem_of_getElem? (i := 720) (by decide +kernel), List.mem_of_getElem? (i := 721) (by decide +kernel)⟩
theorem lw_p9 : lw_okq (⟨"LastToWince$Reader", "put", "(III)V"⟩, 17) := ⟨⟨by decide +kernel, by decide +kernel⟩, List.mem_of_getElem? (i := 332) (by decide +kernel), List.mem_of_getElem? (i := 772) (by decide +kernel), List.mem_of_getElem? (i := 773) (by decide +kernel)⟩
theorem lw_p10 : lw_okq (⟨"LastToWince$Reader", "step", "()V"⟩, 17) := ⟨⟨by decide +kernel, by decide +kernel⟩, List.mem_of_getElem? (i := 332) (by decide +kernel), List.mem_of_getElem? (i := 835) (by decide +kernel), List.mem_of_getElem? (i := 836) (by decide +kernel)⟩
theorem lw_p11 : lw_okq (⟨"LastToWince$Reader", "wrong", "(I)Z"⟩, 17) := ⟨⟨by decide +kernel, by decide +kernel⟩, List.mem_of_getElem? (i := 332) (by decide +kernel), List.mem_of_getElem? (i := 839) (by decide +kernel), List.mem_of_getElem? (i := 840) (by decide +kernel)⟩
theorem lw_p12 : lw_okq (⟨"LastToWince$Reader", "lawLine", "(I)Z"⟩, 17) := ⟨⟨by decide +kernel, by decide +kernel⟩, List.mem_of_getElem? (i := 332) (by decide +kernel), List.mem_of_getElem? (i := 843) (by decide +kernel), List.mem_of_getElem? (i := 844) (by decide +kernel)⟩
theorem lw_p13 : lw_okq (⟨"LastToWince$Reader", "sum", "()Z"⟩, 17) := ⟨⟨by decide +kernel, by decide +kernel⟩, List.mem_of_getElem? (i := 332) (by decide +kernel), List.mem_of_getElem? (i := 847) (by decide +kernel), List.mem_of_getElem? (i := 848) (by decide +kernel)⟩
theorem lw_p14 : lw_okq (⟨"LastToWince$Reader", "term", "()Z"⟩, 17) := ⟨⟨by decide +kernel, by decide +kernel⟩, List.mem_of_getElem? (i := 332) (by decide +kernel), List.mem_of_getElem? (i := 851) (by decide +kernel), List.mem_of_getElem? (i := 852) (by decide +kernel)⟩
theorem lw_p15 : lw_okq (⟨"LastToWince$Reader", "isSign", "(C)Z"⟩, 17) := ⟨⟨by decide +kernel, by decide +kernel⟩, List.mem_of_getElem? (i := 332) (by decide +kernel), List.mem_of_getElem? (i := 859) (by decide +kernel), List.mem_of_getElem? (i := 860) (by decide +kernel)⟩
def lw_privs_1 : List (MethodName × Nat) := [(⟨"LastToWince$Auction", "wincing", "(LLastToWince$World;LLastToWince$Room;IIIZ)I"⟩, 3), (⟨"LastToWince$Law", "answer", "(I)I"⟩, 10), (⟨"LastToWince$Law", "value", "(II)I"⟩, 10), (⟨"LastToWince$Auction", "remaining", "(LLastToWince$World;LLastToWince$Room;IIIZ)I"⟩, 3), (⟨"LastToWince$Auction", "settle", "(LLastToWince$World;LLastToWince$Room;IIZ)V"⟩, 3), (⟨"LastToWince", "saleLine", "(III)Z"⟩, 10), (⟨"LastToWince$Reader", "cut", "()V"⟩, 17), (⟨"LastToWince$Reader", "cutToken", "(I)I"⟩, 17), (⟨"LastToWince$Reader", "keyword", "(II)I"⟩, 17), (⟨"LastToWince$Reader", "put", "(III)V"⟩, 17), (⟨"LastToWince$Reader", "step", "()V"⟩, 17), (⟨"LastToWince$Reader", "wrong", "(I)Z"⟩, 17), (⟨"LastToWince$Reader", "lawLine", "(I)Z"⟩, 17), (⟨"LastToWince$Reader", "sum", "()Z"⟩, 17), (⟨"LastToWince$Reader", "term", "()Z"⟩, 17), (⟨"LastToWince$Reader", "isSign", "(C)Z"⟩, 17)]
theorem lw_r1 : ∀ q ∈ lw_privs_1, lw_okq q := List.forall_mem_cons.mpr ⟨lw_p0, List.forall_mem_cons.mpr ⟨lw_p1, List.forall_mem_cons.mpr ⟨lw_p2, List.forall_mem_cons.mpr ⟨lw_p3, List.forall_mem_cons.mpr ⟨lw_p4, List.forall_mem_cons.mpr ⟨lw_p5, List.forall_mem_cons.mpr ⟨lw_p6, List.forall_mem_cons.mpr ⟨lw_p7, List.forall_mem_cons.mpr ⟨lw_p8, List.forall_mem_cons.mpr ⟨lw_p9, List.forall_mem_cons.mpr ⟨lw_p10, List.forall_mem_cons.mpr ⟨lw_p11, List.forall_mem_cons.mpr ⟨lw_p12, List.forall_mem_cons.mpr ⟨lw_p13, List.forall_mem_cons.mpr ⟨lw_p14, List.forall_mem_cons.mpr ⟨lw_p15, fun _ h => absurd h List.not_mem_nil⟩⟩⟩⟩⟩⟩⟩⟩⟩⟩⟩⟩⟩⟩⟩⟩
theorem lw_p16 : lw_okq (⟨"LastToWince$Reader", "isWord", "(I)Z"⟩, 17) := ⟨⟨by decide +kernel, by decide +kernel⟩, List.mem_of_getElem? (i := 332) (by decide +kernel), List.mem_of_getElem? (i := 863) (by decide +kernel), List.mem_of_getElem? (i := 864) (by decide +kernel)⟩
theorem lw_p17 : lw_okq (⟨"LastToWince$Reader", "chain", "(II)Z"⟩, 17) := ⟨⟨by decide +kernel, by decide +kernel⟩, List.mem_of_getElem? (i := 332) (by decide +kernel), List.mem_of_getElem? (i := 867) (by decide +kernel), List.mem_of_getElem? (i := 868) (by decide +kernel)⟩
theorem lw_p18 : lw_okq (⟨"LastToWince$Reader", "condition", "(I)Z"⟩, 17) := ⟨⟨by decide +kernel, by decide +kernel⟩, List.mem_of_getElem? (i := 332) (by decide +kernel), List.mem_of_getElem? (i := 871) (by decide +kernel), List.mem_of_getElem? (i := 872) (by decide +kernel)⟩
theorem lw_p19 : lw_okq (⟨"LastToWince$Reader", "closes", "(C)Z"⟩, 17) := ⟨⟨by decide +kernel, by decide +kernel⟩, List.mem_of_getElem? (i := 332) (by decide +kernel), List.mem_of_getElem? (i := 875) (by decide +kernel), List.mem_of_getElem? (i := 876) (by decide +kernel)⟩
theorem lw_p20 : lw_okq (⟨"LastToWince$Reader", "speechLine", "()Z"⟩, 17) := ⟨⟨by decide +kernel, by decide +kernel⟩, List.mem_of_getElem? (i := 332) (by decide +kernel), List.mem_of_getElem? (i := 879) (by decide +kernel), List.mem_of_getElem? (i := 880) (by decide +kernel)⟩
theorem lw_p21 : lw_okq (⟨"LastToWince$Reader", "takesNumber", "(II)Z"⟩, 17) := ⟨⟨by decide +kernel, by decide +kernel⟩, List.mem_of_getElem? (i := 332) (by decide +kernel), List.mem_of_getElem? (i := 883) (by decide +kernel), List.mem_of_getElem? (i := 884) (by decide +kernel)⟩
theorem lw_p22 : lw_okq (⟨"LastToWince$Reader", "pinchesLine", "()Z"⟩, 17) := ⟨⟨by decide +kernel, by decide +kernel⟩, List.mem_of_getElem? (i := 332) (by decide +kernel), List.mem_of_getElem? (i := 891) (by decide +kernel), List.mem_of_getElem? (i := 892) (by decide +kernel)⟩
theorem lw_p23 : lw_okq (⟨"LastToWince$Reader", "saleLine", "()Z"⟩, 17) := ⟨⟨by decide +kernel, by decide +kernel⟩, List.mem_of_getElem? (i := 332) (by decide +kernel), List.mem_of_getElem? (i := 895) (by decide +kernel), List.mem_of_getElem? (i := 896) (by decide +kernel)⟩
theorem lw_p24 : lw_okq (⟨"LastToWince$Sets", "reachAlong", "(ILLastToWince$Lines;)V"⟩, 6) := ⟨⟨by decide +kernel, by decide +kernel⟩, List.mem_of_getElem? (i := 422) (by decide +kernel), List.mem_of_getElem? (i := 963) (by decide +kernel), List.mem_of_getElem? (i := 964) (by decide +kernel)⟩
theorem lw_p25 : lw_okq (⟨"LastToWince$Sets", "fewestCovering", "(I[II)I"⟩, 6) := ⟨⟨by decide +kernel, by decide +kernel⟩, List.mem_of_getElem? (i := 422) (by decide +kernel), List.mem_of_getElem? (i := 972) (by decide +kernel), List.mem_of_getElem? (i := 973) (by decide +kernel)⟩
theorem lw_p26 : lw_okq (⟨"LastToWince$Sets", "partsOfSets", "()[I"⟩, 6) := ⟨⟨by decide +kernel, by decide +kernel⟩, List.mem_of_getElem? (i := 422) (by decide +kernel), List.mem_of_getElem? (i := 976) (by decide +kernel), List.mem_of_getElem? (i := 977) (by decide +kernel)⟩
theorem lw_p27 : lw_okq (⟨"LastToWince$Orders", "gather", "(I)V"⟩, 9) := ⟨⟨by decide +kernel, by decide +kernel⟩, List.mem_of_getElem? (i := 448) (by decide +kernel), List.mem_of_getElem? (i := 990) (by decide +kernel), List.mem_of_getElem? (i := 991) (by decide +kernel)⟩
theorem lw_p28 : lw_okq (⟨"LastToWince$Orders", "learnSeats", "(ILLastToWince$Lines;)V"⟩, 9) := ⟨⟨by decide +kernel, by decide +kernel⟩, List.mem_of_getElem? (i := 448) (by decide +kernel), List.mem_of_getElem? (i := 996) (by decide +kernel), List.mem_of_getElem? (i := 997) (by decide +kernel)⟩
theorem lw_p29 : lw_okq (⟨"LastToWince$Orders", "bestSeat", "(II)I"⟩, 9) := ⟨⟨by decide +kernel, by decide +kernel⟩, List.mem_of_getElem? (i := 448) (by decide +kernel), List.mem_of_getElem? (i := 1004) (by decide +kernel), List.mem_of_getElem? (i := 1005) (by decide +kernel)⟩
theorem lw_p30 : lw_okq (⟨"LastToWince$Orders", "costBehind", "(III)I"⟩, 9) := ⟨⟨by decide +kernel, by decide +kernel⟩, List.mem_of_getElem? (i := 448) (by decide +kernel), List.mem_of_getElem? (i := 1008) (by decide +kernel), List.mem_of_getElem? (i := 1009) (by decide +kernel)⟩
theorem lw_p31 : lw_okq (⟨"LastToWince$Orders", "learnSightings", "(LLastToWince$Thoughts;)I"⟩, 9) := ⟨⟨by decide +kernel, by decide +kernel⟩, List.mem_of_getElem? (i := 448) (by decide +kernel), List.mem_of_getElem? (i := 1028) (by decide +kernel), List.mem_of_getElem? (i := 1029) (by decide +kernel)⟩
def lw_privs_2 : List (MethodName × Nat) := [(⟨"LastToWince$Reader", "isWord", "(I)Z"⟩, 17), (⟨"LastToWince$Reader", "chain", "(II)Z"⟩, 17), (⟨"LastToWince$Reader", "condition", "(I)Z"⟩, 17), (⟨"LastToWince$Reader", "closes", "(C)Z"⟩, 17), (⟨"LastToWince$Reader", "speechLine", "()Z"⟩, 17), (⟨"LastToWince$Reader", "takesNumber", "(II)Z"⟩, 17), (⟨"LastToWince$Reader", "pinchesLine", "()Z"⟩, 17), (⟨"LastToWince$Reader", "saleLine", "()Z"⟩, 17), (⟨"LastToWince$Sets", "reachAlong", "(ILLastToWince$Lines;)V"⟩, 6), (⟨"LastToWince$Sets", "fewestCovering", "(I[II)I"⟩, 6), (⟨"LastToWince$Sets", "partsOfSets", "()[I"⟩, 6), (⟨"LastToWince$Orders", "gather", "(I)V"⟩, 9), (⟨"LastToWince$Orders", "learnSeats", "(ILLastToWince$Lines;)V"⟩, 9), (⟨"LastToWince$Orders", "bestSeat", "(II)I"⟩, 9), (⟨"LastToWince$Orders", "costBehind", "(III)I"⟩, 9), (⟨"LastToWince$Orders", "learnSightings", "(LLastToWince$Thoughts;)I"⟩, 9)]
theorem lw_r2 : ∀ q ∈ lw_privs_2, lw_okq q := List.forall_mem_cons.mpr ⟨lw_p16, List.forall_mem_cons.mpr ⟨lw_p17, List.forall_mem_cons.mpr ⟨lw_p18, List.forall_mem_cons.mpr ⟨lw_p19, List.forall_mem_cons.mpr ⟨lw_p20, List.forall_mem_cons.mpr ⟨lw_p21, List.forall_mem_cons.mpr ⟨lw_p22, List.forall_mem_cons.mpr ⟨lw_p23, List.forall_mem_cons.mpr ⟨lw_p24, List.forall_mem_cons.mpr ⟨lw_p25, List.forall_mem_cons.mpr ⟨lw_p26, List.forall_mem_cons.mpr ⟨lw_p27, List.forall_mem_cons.mpr ⟨lw_p28, List.forall_mem_cons.mpr ⟨lw_p29, List.forall_mem_cons.mpr ⟨lw_p30, List.forall_mem_cons.mpr ⟨lw_p31, fun _ h => absurd h List.not_mem_nil⟩⟩⟩⟩⟩⟩⟩⟩⟩⟩⟩⟩⟩⟩⟩⟩
theorem lw_p32 : lw_okq (⟨"LastToWince$Orders", "learnAgainst", "(II)V"⟩, 9) := ⟨⟨by decide +kernel, by decide +kernel⟩, List.mem_of_getElem? (i := 448) (by decide +kernel), List.mem_of_getElem? (i := 1032) (by decide +kernel), List.mem_of_getElem? (i := 1033) (by decide +kernel)⟩
theorem lw_p33 : lw_okq (⟨"LastToWince$Orders", "bestRank", "(I)I"⟩, 9) := ⟨⟨by decide +kernel, by decide +kernel⟩, List.mem_of_getElem? (i := 448) (by decide +kernel), List.mem_of_getElem? (i := 1036) (by decide +kernel), List.mem_of_getElem? (i := 1037) (by decide +kernel)⟩
theorem lw_p34 : lw_okq (⟨"LastToWince$Sets", "sumsOfSets", "()[J"⟩, 6) := ⟨⟨by decide +kernel, by decide +kernel⟩, List.mem_of_getElem? (i := 422) (by decide +kernel), List.mem_of_getElem? (i := 1048) (by decide +kernel), List.mem_of_getElem? (i := 1049) (by decide +kernel)⟩
theorem lw_p35 : lw_okq (⟨"LastToWince$Orders", "tiredBy", "(LLastToWince$Thoughts;I)I"⟩, 9) := ⟨⟨by decide +kernel, by decide +kernel⟩, List.mem_of_getElem? (i := 448) (by decide +kernel), List.mem_of_getElem? (i := 1147) (by decide +kernel), List.mem_of_getElem? (i := 1148) (by decide +kernel)⟩
theorem lw_p36 : lw_okq (⟨"LastToWince$Orders", "bestLot", "(LLastToWince$Thoughts;II)I"⟩, 9) := ⟨⟨by decide +kernel, by decide +kernel⟩, List.mem_of_getElem? (i := 448) (by decide +kernel), List.mem_of_getElem? (i := 1151) (by decide +kernel), List.mem_of_getElem? (i := 1152) (by decide +kernel)⟩
theorem lw_p37 : lw_okq (⟨"LastToWince$Orders", "gain", "(LLastToWince$Thoughts;III)I"⟩, 9) := ⟨⟨by decide +kernel, by decide +kernel⟩, List.mem_of_getElem? (i := 448) (by decide +kernel), List.mem_of_getElem? (i := 1155) (by decide +kernel), List.mem_of_getElem? (i := 1156) (by decide +kernel)⟩
theorem lw_p38 : lw_okq (⟨"LastToWince$Sets", "learnMisplaced", "([II)V"⟩, 6) := ⟨⟨by decide +kernel, by decide +kernel⟩, List.mem_of_getElem? (i := 422) (by decide +kernel), List.mem_of_getElem? (i := 1172) (by decide +kernel), List.mem_of_getElem? (i := 1173) (by decide +kernel)⟩
theorem lw_p39 : lw_okq (⟨"LastToWince$Sets", "weight", "(II)J"⟩, 6) := ⟨⟨by decide +kernel, by decide +kernel⟩, List.mem_of_getElem? (i := 422) (by decide +kernel), List.mem_of_getElem? (i := 1179) (by decide +kernel), List.mem_of_getElem? (i := 1180) (by decide +kernel)⟩
theorem lw_p40 : lw_okq (⟨"LastToWince$Figures", "balance", "(LLastToWince$Room;)I"⟩, 2) := ⟨⟨by decide +kernel, by decide +kernel⟩, List.mem_of_getElem? (i := 482) (by decide +kernel), List.mem_of_getElem? (i := 1200) (by decide +kernel), List.mem_of_getElem? (i := 1201) (by decide +kernel)⟩
theorem lw_p41 : lw_okq (⟨"LastToWince$Figures", "nimber", "(I)I"⟩, 2) := ⟨⟨by decide +kernel, by decide +kernel⟩, List.mem_of_getElem? (i := 482) (by decide +kernel), List.mem_of_getElem? (i := 1204) (by decide +kernel), List.mem_of_getElem? (i := 1205) (by decide +kernel)⟩
theorem lw_p42 : lw_okq (⟨"LastToWinceModel", "isIn", "(III)Z"⟩, 67) := ⟨⟨by decide +kernel, by decide +kernel⟩, List.mem_of_getElem? (i := 1263) (by decide +kernel), List.mem_of_getElem? (i := 1483) (by decide +kernel), List.mem_of_getElem? (i := 1484) (by decide +kernel)⟩
theorem lw_p43 : lw_okq (⟨"LastToWinceModel", "canSet", "(III)Z"⟩, 67) := ⟨⟨by decide +kernel, by decide +kernel⟩, List.mem_of_getElem? (i := 1263) (by decide +kernel), List.mem_of_getElem? (i := 1495) (by decide +kernel), List.mem_of_getElem? (i := 1496) (by decide +kernel)⟩
theorem lw_p44 : lw_okq (⟨"LastToWinceModel", "isDealer", "(I)Z"⟩, 67) := ⟨⟨by decide +kernel, by decide +kernel⟩, List.mem_of_getElem? (i := 1263) (by decide +kernel), List.mem_of_getElem? (i := 1499) (by decide +kernel), List.mem_of_getElem? (i := 1500) (by decide +kernel)⟩
theorem lw_p45 : lw_okq (⟨"LastToWinceModel", "isLot", "(I)Z"⟩, 67) := ⟨⟨by decide +kernel, by decide +kernel⟩, List.mem_of_getElem? (i := 1263) (by decide +kernel), List.mem_of_getElem? (i := 1503) (by decide +kernel), List.mem_of_getElem? (i := 1504) (by decide +kernel)⟩
theorem lw_p46 : lw_okq (⟨"LastToWinceModel", "types", "(I)V"⟩, 67) := ⟨⟨by decide +kernel, by decide +kernel⟩, List.mem_of_getElem? (i := 1263) (by decide +kernel), List.mem_of_getElem? (i := 1511) (by decide +kernel), List.mem_of_getElem? (i := 1512) (by decide +kernel)⟩
theorem lw_p47 : lw_okq (⟨"LastToWinceModel", "readsText", "(I)I"⟩, 67) := ⟨⟨by decide +kernel, by decide +kernel⟩, List.mem_of_getElem? (i := 1263) (by decide +kernel), List.mem_of_getElem? (i := 1523) (by decide +kernel), List.mem_of_getElem? (i := 1524) (by decide +kernel)⟩
def lw_privs_3 : List (MethodName × Nat) := [(⟨"LastToWince$Orders", "learnAgainst", "(II)V"⟩, 9), (⟨"LastToWince$Orders", "bestRank", "(I)I"⟩, 9), (⟨"LastToWince$Sets", "sumsOfSets", "()[J"⟩, 6), (⟨"LastToWince$Orders", "tiredBy", "(LLastToWince$Thoughts;I)I"⟩, 9), (⟨"LastToWince$Orders", "bestLot", "(LLastToWince$Thoughts;II)I"⟩, 9), (⟨"LastToWince$Orders", "gain", "(LLastToWince$Thoughts;III)I"⟩, 9), (⟨"LastToWince$Sets", "learnMisplaced", "([II)V"⟩, 6), (⟨"LastToWince$Sets", "weight", "(II)J"⟩, 6), (⟨"LastToWince$Figures", "balance", "(LLastToWince$Room;)I"⟩, 2), (⟨"LastToWince$Figures", "nimber", "(I)I"⟩, 2), (⟨"LastToWinceModel", "isIn", "(III)Z"⟩, 67), (⟨"LastToWinceModel", "canSet", "(III)Z"⟩, 67), (⟨"LastToWinceModel", "isDealer", "(I)Z"⟩, 67), (⟨"LastToWinceModel", "isLot", "(I)Z"⟩, 67), (⟨"LastToWinceModel", "types", "(I)V"⟩, 67), (⟨"LastToWinceModel", "readsText", "(I)I"⟩, 67)]
theorem lw_r3 : ∀ q ∈ lw_privs_3, lw_okq q := List.forall_mem_cons.mpr ⟨lw_p32, List.forall_mem_cons.mpr ⟨lw_p33, List.forall_mem_cons.mpr ⟨lw_p34, List.forall_mem_cons.mpr ⟨lw_p35, List.forall_mem_cons.mpr ⟨lw_p36, List.forall_mem_cons.mpr ⟨lw_p37, List.forall_mem_cons.mpr ⟨lw_p38, List.forall_mem_cons.mpr ⟨lw_p39, List.forall_mem_cons.mpr ⟨lw_p40, List.forall_mem_cons.mpr ⟨lw_p41, List.forall_mem_cons.mpr ⟨lw_p42, List.forall_mem_cons.mpr ⟨lw_p43, List.forall_mem_cons.mpr ⟨lw_p44, List.forall_mem_cons.mpr ⟨lw_p45, List.forall_mem_cons.mpr ⟨lw_p46, List.forall_mem_cons.mpr ⟨lw_p47, fun _ h => absurd h List.not_mem_nil⟩⟩⟩⟩⟩⟩⟩⟩⟩⟩⟩⟩⟩⟩⟩⟩
theorem lw_p48 : lw_okq (⟨"LastToWinceModel", "reads", "()V"⟩, 67) := ⟨⟨by decide +kernel, by decide +kernel⟩, List.mem_of_getElem? (i := 1263) (by decide +kernel), List.mem_of_getElem? (i := 1527) (by decide +kernel), List.mem_of_getElem? (i := 1528) (by decide +kernel)⟩
theorem lw_p49 : lw_okq (⟨"LastToWinceModel", "raw", "(I)I"⟩, 67) := ⟨⟨by decide +kernel, by decide +kernel⟩, List.mem_of_getElem? (i := 1263) (by decide +kernel), List.mem_of_getElem? (i := 1531) (by decide +kernel), List.mem_of_getElem? (i := 1532) (by decide +kernel)⟩
theorem lw_p50 : lw_okq (⟨"LastToWinceModel", "isLetter", "(I)Z"⟩, 67) := ⟨⟨by decide +kernel, by decide +kernel⟩, List.mem_of_getElem? (i := 1263) (by decide +kernel), List.mem_of_getElem? (i := 1535) (by decide +kernel), List.mem_of_getElem? (i := 1536) (by decide +kernel)⟩
theorem lw_p51 : lw_okq (⟨"LastToWinceModel", "wordAt", "(II)I"⟩, 67) := ⟨⟨by decide +kernel, by decide +kernel⟩, List.mem_of_getElem? (i := 1263) (by decide +kernel), List.mem_of_getElem? (i := 1539) (by decide +kernel), List.mem_of_getElem? (i := 1540) (by decide +kernel)⟩
theorem lw_p52 : lw_okq (⟨"LastToWinceModel", "isDigit", "(I)Z"⟩, 67) := ⟨⟨by decide +kernel, by decide +kernel⟩, List.mem_of_getElem? (i := 1263) (by decide +kernel), List.mem_of_getElem? (i := 1543) (by decide +kernel), List.mem_of_getElem? (i := 1544) (by decide +kernel)⟩
theorem lw_p53 : lw_okq (⟨"LastToWinceModel", "isMarkSign", "(I)Z"⟩, 67) := ⟨⟨by decide +kernel, by decide +kernel⟩, List.mem_of_getElem? (i := 1263) (by decide +kernel), List.mem_of_getElem? (i := 1547) (by decide +kernel), List.mem_of_getElem? (i := 1548) (by decide +kernel)⟩
theorem lw_p54 : lw_okq (⟨"LastToWinceModel", "readSpeech", "()I"⟩, 67) := ⟨⟨by decide +kernel, by decide +kernel⟩, List.mem_of_getElem? (i := 1263) (by decide +kernel), List.mem_of_getElem? (i := 1551) (by decide +kernel), List.mem_of_getElem? (i := 1552) (by decide +kernel)⟩
theorem lw_p55 : lw_okq (⟨"LastToWinceModel", "isWord", "(I)Z"⟩, 67) := ⟨⟨by decide +kernel, by decide +kernel⟩, List.mem_of_getElem? (i := 1263) (by decide +kernel), List.mem_of_getElem? (i := 1555) (by decide +kernel), List.mem_of_getElem? (i := 1556) (by decide +kernel)⟩
theorem lw_p56 : lw_okq (⟨"LastToWinceModel", "errs", "(I)I"⟩, 67) := ⟨⟨by decide +kernel, by decide +kernel⟩, List.mem_of_getElem? (i := 1263) (by decide +kernel), List.mem_of_getElem? (i := 1559) (by decide +kernel), List.mem_of_getElem? (i := 1560) (by decide +kernel)⟩
theorem lw_p57 : lw_okq (⟨"LastToWinceModel", "readSay", "(I)I"⟩, 67) := ⟨⟨by decide +kernel, by decide +kernel⟩, List.mem_of_getElem? (i := 1263) (by decide +kernel), List.mem_of_getElem? (i := 1563) (by decide +kernel), List.mem_of_getElem? (i := 1564) (by decide +kernel)⟩
theorem lw_p58 : lw_okq (⟨"LastToWinceModel", "readTold", "(III)I"⟩, 67) := ⟨⟨by decide +kernel, by decide +kernel⟩, List.mem_of_getElem? (i := 1263) (by decide +kernel), List.mem_of_getElem? (i := 1567) (by decide +kernel), List.mem_of_getElem? (i := 1568) (by decide +kernel)⟩
theorem lw_p59 : lw_okq (⟨"LastToWinceModel", "readNumber", "(II)I"⟩, 67) := ⟨⟨by decide +kernel, by decide +kernel⟩, List.mem_of_getElem? (i := 1263) (by decide +kernel), List.mem_of_getElem? (i := 1571) (by decide +kernel), List.mem_of_getElem? (i := 1572) (by decide +kernel)⟩
theorem lw_p60 : lw_okq (⟨"LastToWinceModel", "readMark", "(I)I"⟩, 67) := ⟨⟨by decide +kernel, by decide +kernel⟩, List.mem_of_getElem? (i := 1263) (by decide +kernel), List.mem_of_getElem? (i := 1575) (by decide +kernel), List.mem_of_getElem? (i := 1576) (by decide +kernel)⟩
theorem lw_p61 : lw_okq (⟨"LastToWinceModel", "isSign", "(I)Z"⟩, 67) := ⟨⟨by decide +kernel, by decide +kernel⟩, List.mem_of_getElem? (i := 1263) (by decide +kernel), List.mem_of_getElem? (i := 1579) (by decide +kernel), List.mem_of_getElem? (i := 1580) (by decide +kernel)⟩
theorem lw_p62 : lw_okq (⟨"LastToWinceModel", "readPinches", "()I"⟩, 67) := ⟨⟨by decide +kernel, by decide +kernel⟩, List.mem_of_getElem? (i := 1263) (by decide +kernel), List.mem_of_getElem? (i := 1583) (by decide +kernel), List.mem_of_getElem? (i := 1584) (by decide +kernel)⟩
theorem lw_p63 : lw_okq (⟨"LastToWinceModel", "readPinch", "()I"⟩, 67) := ⟨⟨by decide +kernel, by decide +kernel⟩, List.mem_of_getElem? (i := 1263) (by decide +kernel), List.mem_of_getElem? (i := 1587) (by decide +kernel), List.mem_of_getElem? (i := 1588) (by decide +kernel)⟩
def lw_privs_4 : List (MethodName × Nat) := [(⟨"LastToWinceModel", "reads", "()V"⟩, 67), (⟨"LastToWinceModel", "raw", "(I)I"⟩, 67), (⟨"LastToWinceModel", "isLetter", "(I)Z"⟩, 67), (⟨"LastToWinceModel", "wordAt", "(II)I"⟩, 67), (⟨"LastToWinceModel", "isDigit", "(I)Z"⟩, 67), (⟨"LastToWinceModel", "isMarkSign", "(I)Z"⟩, 67), (⟨"LastToWinceModel", "readSpeech", "()I"⟩, 67), (⟨"LastToWinceModel", "isWord", "(I)Z"⟩, 67), (⟨"LastToWinceModel", "errs", "(I)I"⟩, 67), (⟨"LastToWinceModel", "readSay", "(I)I"⟩, 67), (⟨"LastToWinceModel", "readTold", "(III)I"⟩, 67), (⟨"LastToWinceModel", "readNumber", "(II)I"⟩, 67), (⟨"LastToWinceModel", "readMark", "(I)I"⟩, 67), (⟨"LastToWinceModel", "isSign", "(I)Z"⟩, 67), (⟨"LastToWinceModel", "readPinches", "()I"⟩, 67), (⟨"LastToWinceModel", "readPinch", "()I"⟩, 67)]
theorem lw_r4 : ∀ q ∈ lw_privs_4, lw_okq q := List.forall_mem_cons.mpr ⟨lw_p48, List.forall_mem_cons.mpr ⟨lw_p49, List.forall_mem_cons.mpr ⟨lw_p50, List.forall_mem_cons.mpr ⟨lw_p51, List.forall_mem_cons.mpr ⟨lw_p52, List.forall_mem_cons.mpr ⟨lw_p53, List.forall_mem_cons.mpr ⟨lw_p54, List.forall_mem_cons.mpr ⟨lw_p55, List.forall_mem_cons.mpr ⟨lw_p56, List.forall_mem_cons.mpr ⟨lw_p57, List.forall_mem_cons.mpr ⟨lw_p58, List.forall_mem_cons.mpr ⟨lw_p59, List.forall_mem_cons.mpr ⟨lw_p60, List.forall_mem_cons.mpr ⟨lw_p61, List.forall_mem_cons.mpr ⟨lw_p62, List.forall_mem_cons.mpr ⟨lw_p63, fun _ h => absurd h List.not_mem_nil⟩⟩⟩⟩⟩⟩⟩⟩⟩⟩⟩⟩⟩⟩⟩⟩
theorem lw_p64 : lw_okq (⟨"LastToWinceModel", "readSale", "()I"⟩, 67) := ⟨⟨by decide +kernel, by decide +kernel⟩, List.mem_of_getElem? (i := 1263) (by decide +kernel), List.mem_of_getElem? (i := 1591) (by decide +kernel), List.mem_of_getElem? (i := 1592) (by decide +kernel)⟩
theorem lw_p65 : lw_okq (⟨"LastToWinceModel", "readDeed", "(I)I"⟩, 67) := ⟨⟨by decide +kernel, by decide +kernel⟩, List.mem_of_getElem? (i := 1263) (by decide +kernel), List.mem_of_getElem? (i := 1595) (by decide +kernel), List.mem_of_getElem? (i := 1596) (by decide +kernel)⟩
theorem lw_p66 : lw_okq (⟨"LastToWinceModel", "readLaw", "()I"⟩, 67) := ⟨⟨by decide +kernel, by decide +kernel⟩, List.mem_of_getElem? (i := 1263) (by decide +kernel), List.mem_of_getElem? (i := 1599) (by decide +kernel), List.mem_of_getElem? (i := 1600) (by decide +kernel)⟩
theorem lw_p67 : lw_okq (⟨"LastToWinceModel", "isLineWord", "()Z"⟩, 67) := ⟨⟨by decide +kernel, by decide +kernel⟩, List.mem_of_getElem? (i := 1263) (by decide +kernel), List.mem_of_getElem? (i := 1603) (by decide +kernel), List.mem_of_getElem? (i := 1604) (by decide +kernel)⟩
theorem lw_p68 : lw_okq (⟨"LastToWinceModel", "readSum", "()I"⟩, 67) := ⟨⟨by decide +kernel, by decide +kernel⟩, List.mem_of_getElem? (i := 1263) (by decide +kernel), List.mem_of_getElem? (i := 1607) (by decide +kernel), List.mem_of_getElem? (i := 1608) (by decide +kernel)⟩
theorem lw_p69 : lw_okq (⟨"LastToWinceModel", "readProduct", "()I"⟩, 67) := ⟨⟨by decide +kernel, by decide +kernel⟩, List.mem_of_getElem? (i := 1263) (by decide +kernel), List.mem_of_getElem? (i := 1611) (by decide +kernel), List.mem_of_getElem? (i := 1612) (by decide +kernel)⟩
theorem lw_p70 : lw_okq (⟨"LastToWinceModel", "readUnit", "()I"⟩, 67) := ⟨⟨by decide +kernel, by decide +kernel⟩, List.mem_of_getElem? (i := 1263) (by decide +kernel), List.mem_of_getElem? (i := 1615) (by decide +kernel), List.mem_of_getElem? (i := 1616) (by decide +kernel)⟩
theorem lw_p71 : lw_okq (⟨"LastToWinceModel", "canAsk", "(I)Z"⟩, 67) := ⟨⟨by decide +kernel, by decide +kernel⟩, List.mem_of_getElem? (i := 1263) (by decide +kernel), List.mem_of_getElem? (i := 1619) (by decide +kernel), List.mem_of_getElem? (i := 1620) (by decide +kernel)⟩
theorem lw_p72 : lw_okq (⟨"LastToWinceModel", "emits", "(II)V"⟩, 67) := ⟨⟨by decide +kernel, by decide +kernel⟩, List.mem_of_getElem? (i := 1263) (by decide +kernel), List.mem_of_getElem? (i := 1623) (by decide +kernel), List.mem_of_getElem? (i := 1624) (by decide +kernel)⟩
theorem lw_p73 : lw_okq (⟨"LastToWinceModel", "readAny", "()I"⟩, 67) := ⟨⟨by decide +kernel, by decide +kernel⟩, List.mem_of_getElem? (i := 1263) (by decide +kernel), List.mem_of_getElem? (i := 1627) (by decide +kernel), List.mem_of_getElem? (i := 1628) (by decide +kernel)⟩
theorem lw_p74 : lw_okq (⟨"LastToWinceModel", "waits", "(I)V"⟩, 67) := ⟨⟨by decide +kernel, by decide +kernel⟩, List.mem_of_getElem? (i := 1263) (by decide +kernel), List.mem_of_getElem? (i := 1631) (by decide +kernel), List.mem_of_getElem? (i := 1632) (by decide +kernel)⟩
theorem lw_p75 : lw_okq (⟨"LastToWinceModel", "readCompared", "()I"⟩, 67) := ⟨⟨by decide +kernel, by decide +kernel⟩, List.mem_of_getElem? (i := 1263) (by decide +kernel), List.mem_of_getElem? (i := 1635) (by decide +kernel), List.mem_of_getElem? (i := 1636) (by decide +kernel)⟩
theorem lw_p76 : lw_okq (⟨"LastToWinceModel", "settles", "(I)V"⟩, 67) := ⟨⟨by decide +kernel, by decide +kernel⟩, List.mem_of_getElem? (i := 1263) (by decide +kernel), List.mem_of_getElem? (i := 1639) (by decide +kernel), List.mem_of_getElem? (i := 1640) (by decide +kernel)⟩
theorem lw_p77 : lw_okq (⟨"LastToWinceModel", "takesLaw", "(I)V"⟩, 67) := ⟨⟨by decide +kernel, by decide +kernel⟩, List.mem_of_getElem? (i := 1263) (by decide +kernel), List.mem_of_getElem? (i := 1643) (by decide +kernel), List.mem_of_getElem? (i := 1644) (by decide +kernel)⟩
theorem lw_p78 : lw_okq (⟨"LastToWinceModel", "takesOther", "(II)V"⟩, 67) := ⟨⟨by decide +kernel, by decide +kernel⟩, List.mem_of_getElem? (i := 1263) (by decide +kernel), List.mem_of_getElem? (i := 1647) (by decide +kernel), List.mem_of_getElem? (i := 1648) (by decide +kernel)⟩
theorem lw_p79 : lw_okq (⟨"LastToWinceModel", "soldTo", "(I)I"⟩, 67) := ⟨⟨by decide +kernel, by decide +kernel⟩, List.mem_of_getElem? (i := 1263) (by decide +kernel), List.mem_of_getElem? (i := 1659) (by decide +kernel), List.mem_of_getElem? (i := 1660) (by decide +kernel)⟩
def lw_privs_5 : List (MethodName × Nat) := [(⟨"LastToWinceModel", "readSale", "()I"⟩, 67), (⟨"LastToWinceModel", "readDeed", "(I)I"⟩, 67), (⟨"LastToWinceModel", "readLaw", "()I"⟩, 67), (⟨"LastToWinceModel", "isLineWord", "()Z"⟩, 67), (⟨"LastToWinceModel", "readSum", "()I"⟩, 67), (⟨"LastToWinceModel", "readProduct", "()I"⟩, 67), (⟨"LastToWinceModel", "readUnit", "()I"⟩, 67), (⟨"LastToWinceModel", "canAsk", "(I)Z"⟩, 67), (⟨"LastToWinceModel", "emits", "(II)V"⟩, 67), (⟨"LastToWinceModel", "readAny", "()I"⟩, 67), (⟨"LastToWinceModel", "waits", "(I)V"⟩, 67), (⟨"LastToWinceModel", "readCompared", "()I"⟩, 67), (⟨"LastToWinceModel", "settles", "(I)V"⟩, 67), (⟨"LastToWinceModel", "takesLaw", "(I)V"⟩, 67), (⟨"LastToWinceModel", "takesOther", "(II)V"⟩, 67), (⟨"LastToWinceModel", "soldTo", "(I)I"⟩, 67)]
theorem lw_r5 : ∀ q ∈ lw_privs_5, lw_okq q := List.forall_mem_cons.mpr ⟨lw_p64, List.forall_mem_cons.mpr ⟨lw_p65, List.forall_mem_cons.mpr ⟨lw_p66, List.forall_mem_cons.mpr ⟨lw_p67, List.forall_mem_cons.mpr ⟨lw_p68, List.forall_mem_cons.mpr ⟨lw_p69, List.forall_mem_cons.mpr ⟨lw_p70, List.forall_mem_cons.mpr ⟨lw_p71, List.forall_mem_cons.mpr ⟨lw_p72, List.forall_mem_cons.mpr ⟨lw_p73, List.forall_mem_cons.mpr ⟨lw_p74, List.forall_mem_cons.mpr ⟨lw_p75, List.forall_mem_cons.mpr ⟨lw_p76, List.forall_mem_cons.mpr ⟨lw_p77, List.forall_mem_cons.mpr ⟨lw_p78, List.forall_mem_cons.mpr ⟨lw_p79, fun _ h => absurd h List.not_mem_nil⟩⟩⟩⟩⟩⟩⟩⟩⟩⟩⟩⟩⟩⟩⟩⟩
theorem lw_p80 : lw_okq (⟨"LastToWinceModel", "keepsAhead", "()V"⟩, 67) := ⟨⟨by decide +kernel, by decide +kernel⟩, List.mem_of_getElem? (i := 1263) (by decide +kernel), List.mem_of_getElem? (i := 1663) (by decide +kernel), List.mem_of_getElem? (i := 1664) (by decide +kernel)⟩
theorem lw_p81 : lw_okq (⟨"LastToWinceModel", "sells", "(I)I"⟩, 67) := ⟨⟨by decide +kernel, by decide +kernel⟩, List.mem_of_getElem? (i := 1263) (by decide +kernel), List.mem_of_getElem? (i := 1667) (by decide +kernel), List.mem_of_getElem? (i := 1668) (by decide +kernel)⟩
theorem lw_p82 : lw_okq (⟨"LastToWinceModel", "insideSet", "()I"⟩, 67) := ⟨⟨by decide +kernel, by decide +kernel⟩, List.mem_of_getElem? (i := 1263) (by decide +kernel), List.mem_of_getElem? (i := 1671) (by decide +kernel), List.mem_of_getElem? (i := 1672) (by decide +kernel)⟩
theorem lw_p83 : lw_okq (⟨"LastToWinceModel", "outlasts", "(II)I"⟩, 67) := ⟨⟨by decide +kernel, by decide +kernel⟩, List.mem_of_getElem? (i := 1263) (by decide +kernel), List.mem_of_getElem? (i := 1675) (by decide +kernel), List.mem_of_getElem? (i := 1676) (by decide +kernel)⟩
theorem lw_p84 : lw_okq (⟨"LastToWinceModel", "onesOf", "(I)I"⟩, 67) := ⟨⟨by decide +kernel, by decide +kernel⟩, List.mem_of_getElem? (i := 1263) (by decide +kernel), List.mem_of_getElem? (i := 1679) (by decide +kernel), List.mem_of_getElem? (i := 1680) (by decide +kernel)⟩
theorem lw_p85 : lw_okq (⟨"LastToWinceModel", "wincers", "(III)I"⟩, 67) := ⟨⟨by decide +kernel, by decide +kernel⟩, List.mem_of_getElem? (i := 1263) (by decide +kernel), List.mem_of_getElem? (i := 1683) (by decide +kernel), List.mem_of_getElem? (i := 1684) (by decide +kernel)⟩
theorem lw_p86 : lw_okq (⟨"LastToWinceModel", "wordAt", "(I)I"⟩, 67) := ⟨⟨by decide +kernel, by decide +kernel⟩, List.mem_of_getElem? (i := 1263) (by decide +kernel), List.mem_of_getElem? (i := 1687) (by decide +kernel), List.mem_of_getElem? (i := 1688) (by decide +kernel)⟩
theorem lw_p87 : lw_okq (⟨"LastToWinceModel", "has", "(II)Z"⟩, 67) := ⟨⟨by decide +kernel, by decide +kernel⟩, List.mem_of_getElem? (i := 1263) (by decide +kernel), List.mem_of_getElem? (i := 1691) (by decide +kernel), List.mem_of_getElem? (i := 1692) (by decide +kernel)⟩
theorem lw_p88 : lw_okq (⟨"LastToWinceModel", "winceOf", "(IIIII)I"⟩, 67) := ⟨⟨by decide +kernel, by decide +kernel⟩, List.mem_of_getElem? (i := 1263) (by decide +kernel), List.mem_of_getElem? (i := 1695) (by decide +kernel), List.mem_of_getElem? (i := 1696) (by decide +kernel)⟩
theorem lw_p89 : lw_okq (⟨"LastToWinceModel", "asks", "(IIIII)V"⟩, 67) := ⟨⟨by decide +kernel, by decide +kernel⟩, List.mem_of_getElem? (i := 1263) (by decide +kernel), List.mem_of_getElem? (i := 1699) (by decide +kernel), List.mem_of_getElem? (i := 1700) (by decide +kernel)⟩
theorem lw_p90 : lw_okq (⟨"LastToWinceModel", "lawTells", "(III)I"⟩, 67) := ⟨⟨by decide +kernel, by decide +kernel⟩, List.mem_of_getElem? (i := 1263) (by decide +kernel), List.mem_of_getElem? (i := 1703) (by decide +kernel), List.mem_of_getElem? (i := 1704) (by decide +kernel)⟩
theorem lw_p91 : lw_okq (⟨"LastToWinceModel", "lineOf", "(I)I"⟩, 67) := ⟨⟨by decide +kernel, by decide +kernel⟩, List.mem_of_getElem? (i := 1263) (by decide +kernel), List.mem_of_getElem? (i := 1707) (by decide +kernel), List.mem_of_getElem? (i := 1708) (by decide +kernel)⟩
theorem lw_p92 : lw_okq (⟨"LastToWinceModel", "runs", "(III)I"⟩, 67) := ⟨⟨by decide +kernel, by decide +kernel⟩, List.mem_of_getElem? (i := 1263) (by decide +kernel), List.mem_of_getElem? (i := 1711) (by decide +kernel), List.mem_of_getElem? (i := 1712) (by decide +kernel)⟩
theorem lw_p93 : lw_okq (⟨"LastToWinceModel", "twoOf", "(III)I"⟩, 67) := ⟨⟨by decide +kernel, by decide +kernel⟩, List.mem_of_getElem? (i := 1263) (by decide +kernel), List.mem_of_getElem? (i := 1715) (by decide +kernel), List.mem_of_getElem? (i := 1716) (by decide +kernel)⟩
theorem lw_p94 : lw_okq (⟨"LastToWinceModel", "held", "(III)I"⟩, 67) := ⟨⟨by decide +kernel, by decide +kernel⟩, List.mem_of_getElem? (i := 1263) (by decide +kernel), List.mem_of_getElem? (i := 1719) (by decide +kernel), List.mem_of_getElem? (i := 1720) (by decide +kernel)⟩
theorem lw_p95 : lw_okq (⟨"LastToWinceModel", "isWincing", "(I)Z"⟩, 67) := ⟨⟨by decide +kernel, by decide +kernel⟩, List.mem_of_getElem? (i := 1263) (by decide +kernel), List.mem_of_getElem? (i := 1723) (by decide +kernel), List.mem_of_getElem? (i := 1724) (by decide +kernel)⟩
def lw_privs_6 : List (MethodName × Nat) := [(⟨"LastToWinceModel", "keepsAhead", "()V"⟩, 67), (⟨"LastToWinceModel", "sells", "(I)I"⟩, 67), (⟨"LastToWinceModel", "insideSet", "()I"⟩, 67), (⟨"LastToWinceModel", "outlasts", "(II)I"⟩, 67), (⟨"LastToWinceModel", "onesOf", "(I)I"⟩, 67), (⟨"LastToWinceModel", "wincers", "(III)I"⟩, 67), (⟨"LastToWinceModel", "wordAt", "(I)I"⟩, 67), (⟨"LastToWinceModel", "has", "(II)Z"⟩, 67), (⟨"LastToWinceModel", "winceOf", "(IIIII)I"⟩, 67), (⟨"LastToWinceModel", "asks", "(IIIII)V"⟩, 67), (⟨"LastToWinceModel", "lawTells", "(III)I"⟩, 67), (⟨"LastToWinceModel", "lineOf", "(I)I"⟩, 67), (⟨"LastToWinceModel", "runs", "(III)I"⟩, 67), (⟨"LastToWinceModel", "twoOf", "(III)I"⟩, 67), (⟨"LastToWinceModel", "held", "(III)I"⟩, 67), (⟨"LastToWinceModel", "isWincing", "(I)Z"⟩, 67)]
theorem lw_r6 : ∀ q ∈ lw_privs_6, lw_okq q := List.forall_mem_cons.mpr ⟨lw_p80, List.forall_mem_cons.mpr ⟨lw_p81, List.forall_mem_cons.mpr ⟨lw_p82, List.forall_mem_cons.mpr ⟨lw_p83, List.forall_mem_cons.mpr ⟨lw_p84, List.forall_mem_cons.mpr ⟨lw_p85, List.forall_mem_cons.mpr ⟨lw_p86, List.forall_mem_cons.mpr ⟨lw_p87, List.forall_mem_cons.mpr ⟨lw_p88, List.forall_mem_cons.mpr ⟨lw_p89, List.forall_mem_cons.mpr ⟨lw_p90, List.forall_mem_cons.mpr ⟨lw_p91, List.forall_mem_cons.mpr ⟨lw_p92, List.forall_mem_cons.mpr ⟨lw_p93, List.forall_mem_cons.mpr ⟨lw_p94, List.forall_mem_cons.mpr ⟨lw_p95, fun _ h => absurd h List.not_mem_nil⟩⟩⟩⟩⟩⟩⟩⟩⟩⟩⟩⟩⟩⟩⟩⟩
theorem lw_p96 : lw_okq (⟨"LastToWinceModel", "draw", "(I)I"⟩, 67) := ⟨⟨by decide +kernel, by decide +kernel⟩, List.mem_of_getElem? (i := 1263) (by decide +kernel), List.mem_of_getElem? (i := 1727) (by decide +kernel), List.mem_of_getElem? (i := 1728) (by decide +kernel)⟩
theorem lw_p97 : lw_okq (⟨"LastToWinceModel", "notes", "(III)V"⟩, 67) := ⟨⟨by decide +kernel, by decide +kernel⟩, List.mem_of_getElem? (i := 1263) (by decide +kernel), List.mem_of_getElem? (i := 1733) (by decide +kernel), List.mem_of_getElem? (i := 1734) (by decide +kernel)⟩
theorem lw_p98 : lw_okq (⟨"LastToWinceModel", "dragged", "(III)I"⟩, 67) := ⟨⟨by decide +kernel, by decide +kernel⟩, List.mem_of_getElem? (i := 1263) (by decide +kernel), List.mem_of_getElem? (i := 1737) (by decide +kernel), List.mem_of_getElem? (i := 1738) (by decide +kernel)⟩
theorem lw_p99 : lw_okq (⟨"LastToWinceModel", "boldest", "(I)I"⟩, 67) := ⟨⟨by decide +kernel, by decide +kernel⟩, List.mem_of_getElem? (i := 1263) (by decide +kernel), List.mem_of_getElem? (i := 1741) (by decide +kernel), List.mem_of_getElem? (i := 1742) (by decide +kernel)⟩
theorem lw_p100 : lw_okq (⟨"LastToWinceModel", "priceOf", "(III)I"⟩, 67) := ⟨⟨by decide +kernel, by decide +kernel⟩, List.mem_of_getElem? (i := 1263) (by decide +kernel), List.mem_of_getElem? (i := 1745) (by decide +kernel), List.mem_of_getElem? (i := 1746) (by decide +kernel)⟩
theorem lw_p101 : lw_okq (⟨"LastToWinceModel", "lesser", "(II)I"⟩, 67) := ⟨⟨by decide +kernel, by decide +kernel⟩, List.mem_of_getElem? (i := 1263) (by decide +kernel), List.mem_of_getElem? (i := 1749) (by decide +kernel), List.mem_of_getElem? (i := 1750) (by decide +kernel)⟩
theorem lw_p102 : lw_okq (⟨"LastToWinceModel", "calmOf", "(III)I"⟩, 67) := ⟨⟨by decide +kernel, by decide +kernel⟩, List.mem_of_getElem? (i := 1263) (by decide +kernel), List.mem_of_getElem? (i := 1753) (by decide +kernel), List.mem_of_getElem? (i := 1754) (by decide +kernel)⟩
theorem lw_p103 : lw_okq (⟨"LastToWinceModel", "greater", "(II)I"⟩, 67) := ⟨⟨by decide +kernel, by decide +kernel⟩, List.mem_of_getElem? (i := 1263) (by decide +kernel), List.mem_of_getElem? (i := 1757) (by decide +kernel), List.mem_of_getElem? (i := 1758) (by decide +kernel)⟩
theorem lw_p104 : lw_okq (⟨"LastToWinceModel", "acts", "(II)Z"⟩, 67) := ⟨⟨by decide +kernel, by decide +kernel⟩, List.mem_of_getElem? (i := 1263) (by decide +kernel), List.mem_of_getElem? (i := 1765) (by decide +kernel), List.mem_of_getElem? (i := 1766) (by decide +kernel)⟩
theorem lw_p105 : lw_okq (⟨"LastToWinceModel", "isSoldBy", "(I)Z"⟩, 67) := ⟨⟨by decide +kernel, by decide +kernel⟩, List.mem_of_getElem? (i := 1263) (by decide +kernel), List.mem_of_getElem? (i := 1773) (by decide +kernel), List.mem_of_getElem? (i := 1774) (by decide +kernel)⟩
theorem lw_p106 : lw_okq (⟨"LastToWinceModel", "lotsOf", "(I)I"⟩, 67) := ⟨⟨by decide +kernel, by decide +kernel⟩, List.mem_of_getElem? (i := 1263) (by decide +kernel), List.mem_of_getElem? (i := 1781) (by decide +kernel), List.mem_of_getElem? (i := 1782) (by decide +kernel)⟩
theorem lw_p107 : lw_okq (⟨"LastToWinceModel", "thinks", "()V"⟩, 67) := ⟨⟨by decide +kernel, by decide +kernel⟩, List.mem_of_getElem? (i := 1263) (by decide +kernel), List.mem_of_getElem? (i := 1805) (by decide +kernel), List.mem_of_getElem? (i := 1806) (by decide +kernel)⟩
theorem lw_p108 : lw_okq (⟨"LastToWinceModel", "endsThought", "()V"⟩, 67) := ⟨⟨by decide +kernel, by decide +kernel⟩, List.mem_of_getElem? (i := 1263) (by decide +kernel), List.mem_of_getElem? (i := 1809) (by decide +kernel), List.mem_of_getElem? (i := 1810) (by decide +kernel)⟩
theorem lw_p109 : lw_okq (⟨"LastToWinceModel", "presentSet", "()I"⟩, 67) := ⟨⟨by decide +kernel, by decide +kernel⟩, List.mem_of_getElem? (i := 1263) (by decide +kernel), List.mem_of_getElem? (i := 1821) (by decide +kernel), List.mem_of_getElem? (i := 1822) (by decide +kernel)⟩
theorem lw_p110 : lw_okq (⟨"LastToWinceModel", "draggedBy", "(II)I"⟩, 67) := ⟨⟨by decide +kernel, by decide +kernel⟩, List.mem_of_getElem? (i := 1263) (by decide +kernel), List.mem_of_getElem? (i := 1825) (by decide +kernel), List.mem_of_getElem? (i := 1826) (by decide +kernel)⟩
theorem lw_p111 : lw_okq (⟨"LastToWinceModel", "findsSat", "(I)V"⟩, 67) := ⟨⟨by decide +kernel, by decide +kernel⟩, List.mem_of_getElem? (i := 1263) (by decide +kernel), List.mem_of_getElem? (i := 1833) (by decide +kernel), List.mem_of_getElem? (i := 1834) (by decide +kernel)⟩
def lw_privs_7 : List (MethodName × Nat) := [(⟨"LastToWinceModel", "draw", "(I)I"⟩, 67), (⟨"LastToWinceModel", "notes", "(III)V"⟩, 67), (⟨"LastToWinceModel", "dragged", "(III)I"⟩, 67), (⟨"LastToWinceModel", "boldest", "(I)I"⟩, 67), (⟨"LastToWinceModel", "priceOf", "(III)I"⟩, 67), (⟨"LastToWinceModel", "lesser", "(II)I"⟩, 67), (⟨"LastToWinceModel", "calmOf", "(III)I"⟩, 67), (⟨"LastToWinceModel", "greater", "(II)I"⟩, 67), (⟨"LastToWinceModel", "acts", "(II)Z"⟩, 67), (⟨"LastToWinceModel", "isSoldBy", "(I)Z"⟩, 67), (⟨"LastToWinceModel", "lotsOf", "(I)I"⟩, 67), (⟨"LastToWinceModel", "thinks", "()V"⟩, 67), (⟨"LastToWinceModel", "endsThought", "()V"⟩, 67), (⟨"LastToWinceModel", "presentSet", "()I"⟩, 67), (⟨"LastToWinceModel", "draggedBy", "(II)I"⟩, 67), (⟨"LastToWinceModel", "findsSat", "(I)V"⟩, 67)]
theorem lw_r7 : ∀ q ∈ lw_privs_7, lw_okq q := List.forall_mem_cons.mpr ⟨lw_p96, List.forall_mem_cons.mpr ⟨lw_p97, List.forall_mem_cons.mpr ⟨lw_p98, List.forall_mem_cons.mpr ⟨lw_p99, List.forall_mem_cons.mpr ⟨lw_p100, List.forall_mem_cons.mpr ⟨lw_p101, List.forall_mem_cons.mpr ⟨lw_p102, List.forall_mem_cons.mpr ⟨lw_p103, List.forall_mem_cons.mpr ⟨lw_p104, List.forall_mem_cons.mpr ⟨lw_p105, List.forall_mem_cons.mpr ⟨lw_p106, List.forall_mem_cons.mpr ⟨lw_p107, List.forall_mem_cons.mpr ⟨lw_p108, List.forall_mem_cons.mpr ⟨lw_p109, List.forall_mem_cons.mpr ⟨lw_p110, List.forall_mem_cons.mpr ⟨lw_p111, fun _ h => absurd h List.not_mem_nil⟩⟩⟩⟩⟩⟩⟩⟩⟩⟩⟩⟩⟩⟩⟩⟩
theorem lw_p112 : lw_okq (⟨"LastToWinceModel", "leastSat", "(III)I"⟩, 67) := ⟨⟨by decide +kernel, by decide +kernel⟩, List.mem_of_getElem? (i := 1263) (by decide +kernel), List.mem_of_getElem? (i := 1837) (by decide +kernel), List.mem_of_getElem? (i := 1838) (by decide +kernel)⟩
theorem lw_p113 : lw_okq (⟨"LastToWinceModel", "satBy", "(III)I"⟩, 67) := ⟨⟨by decide +kernel, by decide +kernel⟩, List.mem_of_getElem? (i := 1263) (by decide +kernel), List.mem_of_getElem? (i := 1842) (by decide +kernel), List.mem_of_getElem? (i := 1843) (by decide +kernel)⟩
theorem lw_p114 : lw_okq (⟨"LastToWinceModel", "pinchesBetween", "(II)I"⟩, 67) := ⟨⟨by decide +kernel, by decide +kernel⟩, List.mem_of_getElem? (i := 1263) (by decide +kernel), List.mem_of_getElem? (i := 1846) (by decide +kernel), List.mem_of_getElem? (i := 1847) (by decide +kernel)⟩
theorem lw_p115 : lw_okq (⟨"LastToWinceModel", "seenSet", "()I"⟩, 67) := ⟨⟨by decide +kernel, by decide +kernel⟩, List.mem_of_getElem? (i := 1263) (by decide +kernel), List.mem_of_getElem? (i := 1858) (by decide +kernel), List.mem_of_getElem? (i := 1859) (by decide +kernel)⟩
theorem lw_p116 : lw_okq (⟨"LastToWinceModel", "findsRanked", "(I)V"⟩, 67) := ⟨⟨by decide +kernel, by decide +kernel⟩, List.mem_of_getElem? (i := 1263) (by decide +kernel), List.mem_of_getElem? (i := 1862) (by decide +kernel), List.mem_of_getElem? (i := 1863) (by decide +kernel)⟩
theorem lw_p117 : lw_okq (⟨"LastToWinceModel", "rankedBy", "(III)I"⟩, 67) := ⟨⟨by decide +kernel, by decide +kernel⟩, List.mem_of_getElem? (i := 1263) (by decide +kernel), List.mem_of_getElem? (i := 1866) (by decide +kernel), List.mem_of_getElem? (i := 1867) (by decide +kernel)⟩
theorem lw_p118 : lw_okq (⟨"LastToWinceModel", "otherwise", "(II)I"⟩, 67) := ⟨⟨by decide +kernel, by decide +kernel⟩, List.mem_of_getElem? (i := 1263) (by decide +kernel), List.mem_of_getElem? (i := 1870) (by decide +kernel), List.mem_of_getElem? (i := 1871) (by decide +kernel)⟩
theorem lw_p119 : lw_okq (⟨"LastToWinceModel", "unsoldSet", "()I"⟩, 67) := ⟨⟨by decide +kernel, by decide +kernel⟩, List.mem_of_getElem? (i := 1263) (by decide +kernel), List.mem_of_getElem? (i := 1878) (by decide +kernel), List.mem_of_getElem? (i := 1879) (by decide +kernel)⟩
theorem lw_p120 : lw_okq (⟨"LastToWinceModel", "worthOf", "(II)I"⟩, 67) := ⟨⟨by decide +kernel, by decide +kernel⟩, List.mem_of_getElem? (i := 1263) (by decide +kernel), List.mem_of_getElem? (i := 1882) (by decide +kernel), List.mem_of_getElem? (i := 1883) (by decide +kernel)⟩
theorem lw_p121 : lw_okq (⟨"LastToWinceModel", "shareOf", "(II)I"⟩, 67) := ⟨⟨by decide +kernel, by decide +kernel⟩, List.mem_of_getElem? (i := 1263) (by decide +kernel), List.mem_of_getElem? (i := 1894) (by decide +kernel), List.mem_of_getElem? (i := 1895) (by decide +kernel)⟩
theorem lw_p122 : lw_okq (⟨"LastToWinceModel", "claimsOf", "(I)I"⟩, 67) := ⟨⟨by decide +kernel, by decide +kernel⟩, List.mem_of_getElem? (i := 1263) (by decide +kernel), List.mem_of_getElem? (i := 1898) (by decide +kernel), List.mem_of_getElem? (i := 1899) (by decide +kernel)⟩
theorem lw_p123 : lw_okq (⟨"LastToWinceModel", "orders", "(I)I"⟩, 67) := ⟨⟨by decide +kernel, by decide +kernel⟩, List.mem_of_getElem? (i := 1263) (by decide +kernel), List.mem_of_getElem? (i := 1902) (by decide +kernel), List.mem_of_getElem? (i := 1903) (by decide +kernel)⟩
theorem lw_p124 : lw_okq (⟨"LastToWinceModel", "likelyOf", "(III)I"⟩, 67) := ⟨⟨by decide +kernel, by decide +kernel⟩, List.mem_of_getElem? (i := 1263) (by decide +kernel), List.mem_of_getElem? (i := 1910) (by decide +kernel), List.mem_of_getElem? (i := 1911) (by decide +kernel)⟩
theorem lw_p125 : lw_okq (⟨"LastToWinceModel", "palsied", "(III)I"⟩, 67) := ⟨⟨by decide +kernel, by decide +kernel⟩, List.mem_of_getElem? (i := 1263) (by decide +kernel), List.mem_of_getElem? (i := 1914) (by decide +kernel), List.mem_of_getElem? (i := 1915) (by decide +kernel)⟩
theorem lw_p126 : lw_okq (⟨"LastToWinceModel", "partOf", "(II)I"⟩, 67) := ⟨⟨by decide +kernel, by decide +kernel⟩, List.mem_of_getElem? (i := 1263) (by decide +kernel), List.mem_of_getElem? (i := 1919) (by decide +kernel), List.mem_of_getElem? (i := 1920) (by decide +kernel)⟩
theorem lw_p127 : lw_okq (⟨"LastToWinceModel", "outBy", "(I)I"⟩, 67) := ⟨⟨by decide +kernel, by decide +kernel⟩, List.mem_of_getElem? (i := 1263) (by decide +kernel), List.mem_of_getElem? (i := 1936) (by decide +kernel), List.mem_of_getElem? (i := 1937) (by decide +kernel)⟩
def lw_privs_8 : List (MethodName × Nat) := [(⟨"LastToWinceModel", "leastSat", "(III)I"⟩, 67), (⟨"LastToWinceModel", "satBy", "(III)I"⟩, 67), (⟨"LastToWinceModel", "pinchesBetween", "(II)I"⟩, 67), (⟨"LastToWinceModel", "seenSet", "()I"⟩, 67), (⟨"LastToWinceModel", "findsRanked", "(I)V"⟩, 67), (⟨"LastToWinceModel", "rankedBy", "(III)I"⟩, 67), (⟨"LastToWinceModel", "otherwise", "(II)I"⟩, 67), (⟨"LastToWinceModel", "unsoldSet", "()I"⟩, 67), (⟨"LastToWinceModel", "worthOf", "(II)I"⟩, 67), (⟨"LastToWinceModel", "shareOf", "(II)I"⟩, 67), (⟨"LastToWinceModel", "claimsOf", "(I)I"⟩, 67), (⟨"LastToWinceModel", "orders", "(I)I"⟩, 67), (⟨"LastToWinceModel", "likelyOf", "(III)I"⟩, 67), (⟨"LastToWinceModel", "palsied", "(III)I"⟩, 67), (⟨"LastToWinceModel", "partOf", "(II)I"⟩, 67), (⟨"LastToWinceModel", "outBy", "(I)I"⟩, 67)]
theorem lw_r8 : ∀ q ∈ lw_privs_8, lw_okq q := List.forall_mem_cons.mpr ⟨lw_p112, List.forall_mem_cons.mpr ⟨lw_p113, List.forall_mem_cons.mpr ⟨lw_p114, List.forall_mem_cons.mpr ⟨lw_p115, List.forall_mem_cons.mpr ⟨lw_p116, List.forall_mem_cons.mpr ⟨lw_p117, List.forall_mem_cons.mpr ⟨lw_p118, List.forall_mem_cons.mpr ⟨lw_p119, List.forall_mem_cons.mpr ⟨lw_p120, List.forall_mem_cons.mpr ⟨lw_p121, List.forall_mem_cons.mpr ⟨lw_p122, List.forall_mem_cons.mpr ⟨lw_p123, List.forall_mem_cons.mpr ⟨lw_p124, List.forall_mem_cons.mpr ⟨lw_p125, List.forall_mem_cons.mpr ⟨lw_p126, List.forall_mem_cons.mpr ⟨lw_p127, fun _ h => absurd h List.not_mem_nil⟩⟩⟩⟩⟩⟩⟩⟩⟩⟩⟩⟩⟩⟩⟩⟩
theorem lw_p128 : lw_okq (⟨"LastToWinceModel", "toldApart", "(I)I"⟩, 67) := ⟨⟨by decide +kernel, by decide +kernel⟩, List.mem_of_getElem? (i := 1263) (by decide +kernel), List.mem_of_getElem? (i := 1944) (by decide +kernel), List.mem_of_getElem? (i := 1945) (by decide +kernel)⟩
theorem lw_p129 : lw_okq (⟨"LastToWinceModel", "areToldApart", "(III)Z"⟩, 67) := ⟨⟨by decide +kernel, by decide +kernel⟩, List.mem_of_getElem? (i := 1263) (by decide +kernel), List.mem_of_getElem? (i := 1948) (by decide +kernel), List.mem_of_getElem? (i := 1949) (by decide +kernel)⟩
theorem lw_p130 : lw_okq (⟨"LastToWinceModel", "findsBrought", "()V"⟩, 67) := ⟨⟨by decide +kernel, by decide +kernel⟩, List.mem_of_getElem? (i := 1263) (by decide +kernel), List.mem_of_getElem? (i := 1960) (by decide +kernel), List.mem_of_getElem? (i := 1961) (by decide +kernel)⟩
theorem lw_p131 : lw_okq (⟨"LastToWinceModel", "broughtBy", "(II)I"⟩, 67) := ⟨⟨by decide +kernel, by decide +kernel⟩, List.mem_of_getElem? (i := 1263) (by decide +kernel), List.mem_of_getElem? (i := 1964) (by decide +kernel), List.mem_of_getElem? (i := 1965) (by decide +kernel)⟩
theorem lw_p132 : lw_okq (⟨"LastToWinceModel", "swaps", "()I"⟩, 67) := ⟨⟨by decide +kernel, by decide +kernel⟩, List.mem_of_getElem? (i := 1263) (by decide +kernel), List.mem_of_getElem? (i := 1976) (by decide +kernel), List.mem_of_getElem? (i := 1977) (by decide +kernel)⟩
theorem lw_p133 : lw_okq (⟨"LastToWinceModel", "stands", "()V"⟩, 67) := ⟨⟨by decide +kernel, by decide +kernel⟩, List.mem_of_getElem? (i := 1263) (by decide +kernel), List.mem_of_getElem? (i := 1980) (by decide +kernel), List.mem_of_getElem? (i := 1981) (by decide +kernel)⟩
theorem lw_p134 : lw_okq (⟨"LastToWinceModel", "isRound", "(I)Z"⟩, 67) := ⟨⟨by decide +kernel, by decide +kernel⟩, List.mem_of_getElem? (i := 1263) (by decide +kernel), List.mem_of_getElem? (i := 1984) (by decide +kernel), List.mem_of_getElem? (i := 1985) (by decide +kernel)⟩
theorem lw_p135 : lw_okq (⟨"LastToWinceModel", "findsNimbers", "()V"⟩, 67) := ⟨⟨by decide +kernel, by decide +kernel⟩, List.mem_of_getElem? (i := 1263) (by decide +kernel), List.mem_of_getElem? (i := 1992) (by decide +kernel), List.mem_of_getElem? (i := 1993) (by decide +kernel)⟩
theorem lw_p136 : lw_okq (⟨"LastToWinceModel", "richesOf", "(I)I"⟩, 67) := ⟨⟨by decide +kernel, by decide +kernel⟩, List.mem_of_getElem? (i := 1263) (by decide +kernel), List.mem_of_getElem? (i := 2000) (by decide +kernel), List.mem_of_getElem? (i := 2001) (by decide +kernel)⟩
theorem lw_p137 : lw_okq (⟨"LastToWinceModel", "below", "(I)I"⟩, 67) := ⟨⟨by decide +kernel, by decide +kernel⟩, List.mem_of_getElem? (i := 1263) (by decide +kernel), List.mem_of_getElem? (i := 2004) (by decide +kernel), List.mem_of_getElem? (i := 2005) (by decide +kernel)⟩
theorem lw_p138 : lw_okq (⟨"LastToWinceModel", "keeps", "(I)I"⟩, 67) := ⟨⟨by decide +kernel, by decide +kernel⟩, List.mem_of_getElem? (i := 1263) (by decide +kernel), List.mem_of_getElem? (i := 2012) (by decide +kernel), List.mem_of_getElem? (i := 2013) (by decide +kernel)⟩
theorem lw_p139 : lw_okq (⟨"LastToWinceModel", "keepsMany", "()V"⟩, 67) := ⟨⟨by decide +kernel, by decide +kernel⟩, List.mem_of_getElem? (i := 1263) (by decide +kernel), List.mem_of_getElem? (i := 2016) (by decide +kernel), List.mem_of_getElem? (i := 2017) (by decide +kernel)⟩
theorem lw_p140 : lw_okq (⟨"LastToWinceModel", "keepsTold", "()V"⟩, 67) := ⟨⟨by decide +kernel, by decide +kernel⟩, List.mem_of_getElem? (i := 1263) (by decide +kernel), List.mem_of_getElem? (i := 2020) (by decide +kernel), List.mem_of_getElem? (i := 2021) (by decide +kernel)⟩
theorem lw_p141 : lw_okq (⟨"LastToWinceModel", "keepsLaw", "()V"⟩, 67) := ⟨⟨by decide +kernel, by decide +kernel⟩, List.mem_of_getElem? (i := 1263) (by decide +kernel), List.mem_of_getElem? (i := 2024) (by decide +kernel), List.mem_of_getElem? (i := 2025) (by decide +kernel)⟩
def lw_privs_9 : List (MethodName × Nat) := [(⟨"LastToWinceModel", "toldApart", "(I)I"⟩, 67), (⟨"LastToWinceModel", "areToldApart", "(III)Z"⟩, 67), (⟨"LastToWinceModel", "findsBrought", "()V"⟩, 67), (⟨"LastToWinceModel", "broughtBy", "(II)I"⟩, 67), (⟨"LastToWinceModel", "swaps", "()I"⟩, 67), (⟨"LastToWinceModel", "stands", "()V"⟩, 67), (⟨"LastToWinceModel", "isRound", "(I)Z"⟩, 67), (⟨"LastToWinceModel", "findsNimbers", "()V"⟩, 67), (⟨"LastToWinceModel", "richesOf", "(I)I"⟩, 67), (⟨"LastToWinceModel", "below", "(I)I"⟩, 67), (⟨"LastToWinceModel", "keeps", "(I)I"⟩, 67), (⟨"LastToWinceModel", "keepsMany", "()V"⟩, 67), (⟨"LastToWinceModel", "keepsTold", "()V"⟩, 67), (⟨"LastToWinceModel", "keepsLaw", "()V"⟩, 67)]
theorem lw_r9 : ∀ q ∈ lw_privs_9, lw_okq q := List.forall_mem_cons.mpr ⟨lw_p128, List.forall_mem_cons.mpr ⟨lw_p129, List.forall_mem_cons.mpr ⟨lw_p130, List.forall_mem_cons.mpr ⟨lw_p131, List.forall_mem_cons.mpr ⟨lw_p132, List.forall_mem_cons.mpr ⟨lw_p133, List.forall_mem_cons.mpr ⟨lw_p134, List.forall_mem_cons.mpr ⟨lw_p135, List.forall_mem_cons.mpr ⟨lw_p136, List.forall_mem_cons.mpr ⟨lw_p137, List.forall_mem_cons.mpr ⟨lw_p138, List.forall_mem_cons.mpr ⟨lw_p139, List.forall_mem_cons.mpr ⟨lw_p140, List.forall_mem_cons.mpr ⟨lw_p141, fun _ h => absurd h List.not_mem_nil⟩⟩⟩⟩⟩⟩⟩⟩⟩⟩⟩⟩⟩⟩
def lw_privs : List (MethodName × Nat) := lw_privs_1 ++ (lw_privs_2 ++ (lw_privs_3 ++ (lw_privs_4 ++ (lw_privs_5 ++ (lw_privs_6 ++ (lw_privs_7 ++ (lw_privs_8 ++ (lw_privs_9))))))))
def lw_tbl : List Cond := k2_sels lw_privs ++ tables_1
theorem lw_privs_ok : ∀ q ∈ lw_privs, lw_okq q := by
  show ∀ q ∈ lw_privs_1 ++ (lw_privs_2 ++ (lw_privs_3 ++ (lw_privs_4 ++ (lw_privs_5 ++ (lw_privs_6 ++ (lw_privs_7 ++ (lw_privs_8 ++ (lw_privs_9)))))))), lw_okq q
  exact List.forall_mem_append.mpr ⟨lw_r1, List.forall_mem_append.mpr ⟨lw_r2, List.forall_mem_append.mpr ⟨lw_r3, List.forall_mem_append.mpr ⟨lw_r4, List.forall_mem_append.mpr ⟨lw_r5, List.forall_mem_append.mpr ⟨lw_r6, List.forall_mem_append.mpr ⟨lw_r7, List.forall_mem_append.mpr ⟨lw_r8, lw_r9⟩⟩⟩⟩⟩⟩⟩⟩
def RX0 : String := "LastToWince$Auction"
def TX0 : u_T := fun k => match k with
  | 0 => ("LastToWince$Auction", "winner", "I", false)
  | 1 => ("LastToWince$Auction", "minutes", "I", false)
  | _ => ("LastToWince$Auction", "paid", "I", false)
def tyX0 : Nat → FieldType := fun k => match k with
  | 0 => .int
  | 1 => .int
  | _ => .int
abbrev wsX00 : List Cond := u_ws RX0 TX0 3
theorem nmX0 : ∀ a, a < 3 → ∀ b, b < 3 → a ≠ b → (TX0 a).2.1 ≠ (TX0 b).2.1 := by decide +kernel
theorem tyX0_ok : ∀ k, k < 3 → parseFieldDescriptor (TX0 k).2.2.1 = some (tyX0 k) := by decide +kernel
abbrev cX0_init : ByteArray := prog_2_method_1_code
def yX0_init : MethodName := ⟨RX0, "<init>", "()V"⟩
abbrev cX0_hold : ByteArray := prog_2_method_2_code
def yX0_hold : MethodName := ⟨RX0, "hold", "(LLastToWince$World;LLastToWince$Room;IZ)V"⟩
abbrev cX0_wincing : ByteArray := prog_2_method_3_code
def yX0_wincing : MethodName := ⟨RX0, "wincing", "(LLastToWince$World;LLastToWince$Room;IIIZ)I"⟩
abbrev cX0_remaining : ByteArray := prog_2_method_4_code
def yX0_remaining : MethodName := ⟨RX0, "remaining", "(LLastToWince$World;LLastToWince$Room;IIIZ)I"⟩
abbrev cX0_settle : ByteArray := prog_2_method_5_code
def yX0_settle : MethodName := ⟨RX0, "settle", "(LLastToWince$World;LLastToWince$Room;IIZ)V"⟩
def RX1 : String := "LastToWince$Figures"
def TX1 : u_T := fun k => match k with
  | 0 => ("LastToWince$Figures", "nimbers", "[I", true)
  | _ => ("LastToWince$Figures", "sorted", "[I", true)
def tyX1 : Nat → FieldType := fun k => match k with
  | 0 => .array .int
  | _ => .array .int
abbrev wsX10 : List Cond := u_ws RX1 TX1 2
theorem nmX1 : ∀ a, a < 2 → ∀ b, b < 2 → a ≠ b → (TX1 a).2.1 ≠ (TX1 b).2.1 := by decide +kernel
theorem tyX1_ok : ∀ k, k < 2 → parseFieldDescriptor (TX1 k).2.2.1 = some (tyX1 k) := by decide +kernel
abbrev cX1_init : ByteArray := prog_3_method_1_code
def yX1_init : MethodName := ⟨RX1, "<init>", "()V"⟩
abbrev cX1_share : ByteArray := prog_3_method_2_code
def yX1_share : MethodName := ⟨RX1, "share", "(LLastToWince$Thoughts;II)I"⟩
abbrev cX1_ordersOf : ByteArray := prog_3_method_3_code
def yX1_ordersOf : MethodName := ⟨RX1, "ordersOf", "(I)I"⟩
abbrev cX1_palsy : ByteArray := prog_3_method_4_code
def yX1_palsy : MethodName := ⟨RX1, "palsy", "(III)I"⟩
abbrev cX1_weighed : ByteArray := prog_3_method_5_code
def yX1_weighed : MethodName := ⟨RX1, "weighed", "(JII)J"⟩
abbrev cX1_wrongCouples : ByteArray := prog_3_method_6_code
def yX1_wrongCouples : MethodName := ⟨RX1, "wrongCouples", "([II)I"⟩
abbrev cX1_nimber : ByteArray := prog_3_method_7_code
def yX1_nimber : MethodName := ⟨RX1, "nimber", "(I)I"⟩
abbrev cX1_balance : ByteArray := prog_3_method_8_code
def yX1_balance : MethodName := ⟨RX1, "balance", "(LLastToWince$Room;)I"⟩
abbrev cX1_goodHeap : ByteArray := prog_3_method_9_code
def yX1_goodHeap : MethodName := ⟨RX1, "goodHeap", "(LLastToWince$Room;)I"⟩
abbrev cX1_goodTake : ByteArray := prog_3_method_10_code
def yX1_goodTake : MethodName := ⟨RX1, "goodTake", "(LLastToWince$Room;I)I"⟩
abbrev cX1_median : ByteArray := prog_3_method_11_code
def yX1_median : MethodName := ⟨RX1, "median", "([II)I"⟩
def RX2 : String := "LastToWince$Law"
def TX2 : u_T := fun k => match k with
  | 0 => ("LastToWince$Law", "lines", "I", false)
  | 1 => ("LastToWince$Law", "length", "I", false)
  | 2 => ("LastToWince$Law", "told", "[I", true)
  | 3 => ("LastToWince$Law", "begin", "[I", true)
  | 4 => ("LastToWince$Law", "when", "[I", true)
  | 5 => ("LastToWince$Law", "close", "[I", true)
  | 6 => ("LastToWince$Law", "ops", "[I", true)
  | 7 => ("LastToWince$Law", "args", "[I", true)
  | 8 => ("LastToWince$Law", "facts", "[I", true)
  | _ => ("LastToWince$Law", "stack", "[I", true)
def tyX2 : Nat → FieldType := fun k => match k with
  | 0 => .int
  | 1 => .int
  | 2 => .array .int
  | 3 => .array .int
  | 4 => .array .int
  | 5 => .array .int
  | 6 => .array .int
  | 7 => .array .int
  | 8 => .array .int
  | _ => .array .int
abbrev wsX20 : List Cond := u_ws RX2 TX2 10
theorem nmX2 : ∀ a, a < 10 → ∀ b, b < 10 → a ≠ b → (TX2 a).2.1 ≠ (TX2 b).2.1 := by decide +kernel
theorem tyX2_ok : ∀ k, k < 10 → parseFieldDescriptor (TX2 k).2.2.1 = some (tyX2 k) := by decide +kernel
abbrev cX2_init : ByteArray := prog_4_method_1_code
def yX2_init : MethodName := ⟨RX2, "<init>", "()V"⟩
abbrev cX2_emit : ByteArray := prog_4_method_2_code
def yX2_emit : MethodName := ⟨RX2, "emit", "(II)V"⟩
abbrev cX2_asked : ByteArray := prog_4_method_3_code
def yX2_asked : MethodName := ⟨RX2, "asked", "(LLastToWince$Room;IIIIII)I"⟩
abbrev cX2_answer : ByteArray := prog_4_method_4_code
def yX2_answer : MethodName := ⟨RX2, "answer", "(I)I"⟩
abbrev cX2_value : ByteArray := prog_4_method_5_code
def yX2_value : MethodName := ⟨RX2, "value", "(II)I"⟩
abbrev cX2_joined : ByteArray := prog_4_method_6_code
def yX2_joined : MethodName := ⟨RX2, "joined", "(III)I"⟩
abbrev cX2_copy : ByteArray := prog_4_method_7_code
def yX2_copy : MethodName := ⟨RX2, "copy", "(LLastToWince$Law;)V"⟩
def RX3 : String := "LastToWince$Lines"
def TX3 : u_T := fun k => match k with
  | 0 => ("LastToWince$Lines", "count", "I", false)
  | 1 => ("LastToWince$Lines", "kind", "[I", true)
  | 2 => ("LastToWince$Lines", "first", "[I", true)
  | _ => ("LastToWince$Lines", "second", "[I", true)
def tyX3 : Nat → FieldType := fun k => match k with
  | 0 => .int
  | 1 => .array .int
  | 2 => .array .int
  | _ => .array .int
abbrev wsX30 : List Cond := u_ws RX3 TX3 4
theorem nmX3 : ∀ a, a < 4 → ∀ b, b < 4 → a ≠ b → (TX3 a).2.1 ≠ (TX3 b).2.1 := by decide +kernel
theorem tyX3_ok : ∀ k, k < 4 → parseFieldDescriptor (TX3 k).2.2.1 = some (tyX3 k) := by decide +kernel
abbrev cX3_init : ByteArray := prog_5_method_1_code
def yX3_init : MethodName := ⟨RX3, "<init>", "()V"⟩
abbrev cX3_add : ByteArray := prog_5_method_2_code
def yX3_add : MethodName := ⟨RX3, "add", "(III)V"⟩
abbrev cX3_copy : ByteArray := prog_5_method_3_code
def yX3_copy : MethodName := ⟨RX3, "copy", "(LLastToWince$Lines;)V"⟩
def RX4 : String := "LastToWince$Orders"
def TX4 : u_T := fun k => match k with
  | 0 => ("LastToWince$Orders", "size", "I", false)
  | 1 => ("LastToWince$Orders", "total", "I", false)
  | 2 => ("LastToWince$Orders", "order", "[I", true)
  | 3 => ("LastToWince$Orders", "members", "[I", true)
  | 4 => ("LastToWince$Orders", "against", "[I", true)
  | 5 => ("LastToWince$Orders", "cost", "[I", true)
  | 6 => ("LastToWince$Orders", "winners", "[I", true)
  | 7 => ("LastToWince$Orders", "losers", "[I", true)
  | _ => ("LastToWince$Orders", "best", "[I", true)
def tyX4 : Nat → FieldType := fun k => match k with
  | 0 => .int
  | 1 => .int
  | 2 => .array .int
  | 3 => .array .int
  | 4 => .array .int
  | 5 => .array .int
  | 6 => .array .int
  | 7 => .array .int
  | _ => .array .int
abbrev wsX40 : List Cond := u_ws RX4 TX4 9
theorem nmX4 : ∀ a, a < 9 → ∀ b, b < 9 → a ≠ b → (TX4 a).2.1 ≠ (TX4 b).2.1 := by decide +kernel
theorem tyX4_ok : ∀ k, k < 9 → parseFieldDescriptor (TX4 k).2.2.1 = some (tyX4 k) := by decide +kernel
abbrev cX4_init : ByteArray := prog_6_method_1_code
def yX4_init : MethodName := ⟨RX4, "<init>", "()V"⟩
abbrev cX4_told : ByteArray := prog_6_method_2_code
def yX4_told : MethodName := ⟨RX4, "told", "(I)I"⟩
abbrev cX4_gather : ByteArray := prog_6_method_3_code
def yX4_gather : MethodName := ⟨RX4, "gather", "(I)V"⟩
abbrev cX4_placeIn : ByteArray := prog_6_method_4_code
def yX4_placeIn : MethodName := ⟨RX4, "placeIn", "(II)I"⟩
abbrev cX4_seat : ByteArray := prog_6_method_5_code
def yX4_seat : MethodName := ⟨RX4, "seat", "(ILLastToWince$Lines;)V"⟩
abbrev cX4_learnSeats : ByteArray := prog_6_method_6_code
def yX4_learnSeats : MethodName := ⟨RX4, "learnSeats", "(ILLastToWince$Lines;)V"⟩
abbrev cX4_costBehind : ByteArray := prog_6_method_7_code
def yX4_costBehind : MethodName := ⟨RX4, "costBehind", "(III)I"⟩
abbrev cX4_bestSeat : ByteArray := prog_6_method_8_code
def yX4_bestSeat : MethodName := ⟨RX4, "bestSeat", "(II)I"⟩
abbrev cX4_rank : ByteArray := prog_6_method_9_code
def yX4_rank : MethodName := ⟨RX4, "rank", "(LLastToWince$Thoughts;)V"⟩
abbrev cX4_learnSightings : ByteArray := prog_6_method_10_code
def yX4_learnSightings : MethodName := ⟨RX4, "learnSightings", "(LLastToWince$Thoughts;)I"⟩
abbrev cX4_learnAgainst : ByteArray := prog_6_method_11_code
def yX4_learnAgainst : MethodName := ⟨RX4, "learnAgainst", "(II)V"⟩
abbrev cX4_bestRank : ByteArray := prog_6_method_12_code
def yX4_bestRank : MethodName := ⟨RX4, "bestRank", "(I)I"⟩
abbrev cX4_sellBest : ByteArray := prog_6_method_13_code
def yX4_sellBest : MethodName := ⟨RX4, "sellBest", "(LLastToWince$Thoughts;)V"⟩
abbrev cX4_tiredBy : ByteArray := prog_6_method_14_code
def yX4_tiredBy : MethodName := ⟨RX4, "tiredBy", "(LLastToWince$Thoughts;I)I"⟩
abbrev cX4_gain : ByteArray := prog_6_method_15_code
def yX4_gain : MethodName := ⟨RX4, "gain", "(LLastToWince$Thoughts;III)I"⟩
abbrev cX4_bestLot : ByteArray := prog_6_method_16_code
def yX4_bestLot : MethodName := ⟨RX4, "bestLot", "(LLastToWince$Thoughts;II)I"⟩
def RX5 : String := "LastToWince$Past"
def TX5 : u_T := fun k => match k with
  | 0 => ("LastToWince$Past", "count", "I", false)
  | 1 => ("LastToWince$Past", "next", "I", false)
  | _ => ("LastToWince$Past", "kept", "[LLastToWince$Room;", true)
def tyX5 : Nat → FieldType := fun k => match k with
  | 0 => .int
  | 1 => .int
  | _ => .array (.object "LastToWince$Room")
abbrev wsX50 : List Cond := u_ws RX5 TX5 3
theorem nmX5 : ∀ a, a < 3 → ∀ b, b < 3 → a ≠ b → (TX5 a).2.1 ≠ (TX5 b).2.1 := by decide +kernel
theorem tyX5_ok : ∀ k, k < 3 → parseFieldDescriptor (TX5 k).2.2.1 = some (tyX5 k) := by decide +kernel
abbrev cX5_init : ByteArray := prog_7_method_1_code
def yX5_init : MethodName := ⟨RX5, "<init>", "()V"⟩
abbrev cX5_keep : ByteArray := prog_7_method_2_code
def yX5_keep : MethodName := ⟨RX5, "keep", "(LLastToWince$Room;)V"⟩
abbrev cX5_goBack : ByteArray := prog_7_method_3_code
def yX5_goBack : MethodName := ⟨RX5, "goBack", "(LLastToWince$Room;)Z"⟩
abbrev cX5_forget : ByteArray := prog_7_method_4_code
def yX5_forget : MethodName := ⟨RX5, "forget", "()V"⟩
def RX6 : String := "LastToWince$Reader"
def TX6 : u_T := fun k => match k with
  | 0 => ("LastToWince$Reader", "length", "I", false)
  | 1 => ("LastToWince$Reader", "fault", "I", false)
  | 2 => ("LastToWince$Reader", "place", "I", false)
  | 3 => ("LastToWince$Reader", "law", "LLastToWince$Law;", true)
  | 4 => ("LastToWince$Reader", "lines", "LLastToWince$Lines;", true)
  | 5 => ("LastToWince$Reader", "tape", "[B", true)
  | 6 => ("LastToWince$Reader", "words", "Ljava/lang/String;", false)
  | 7 => ("LastToWince$Reader", "dealers", "I", false)
  | 8 => ("LastToWince$Reader", "lots", "I", false)
  | 9 => ("LastToWince$Reader", "tokens", "I", false)
  | 10 => ("LastToWince$Reader", "next", "I", false)
  | 11 => ("LastToWince$Reader", "kind", "I", false)
  | 12 => ("LastToWince$Reader", "value", "I", false)
  | 13 => ("LastToWince$Reader", "begin", "I", false)
  | 14 => ("LastToWince$Reader", "kinds", "[I", true)
  | 15 => ("LastToWince$Reader", "values", "[I", true)
  | _ => ("LastToWince$Reader", "places", "[I", true)
def tyX6 : Nat → FieldType := fun k => match k with
  | 0 => .int
  | 1 => .int
  | 2 => .int
  | 3 => .object "LastToWince$Law"
  | 4 => .object "LastToWince$Lines"
  | 5 => .array .byte
  | 6 => .object "java/lang/String"
  | 7 => .int
  | 8 => .int
  | 9 => .int
  | 10 => .int
  | 11 => .int
  | 12 => .int
  | 13 => .int
  | 14 => .array .int
  | 15 => .array .int
  | _ => .array .int
abbrev wsX60 : List Cond := u_ws RX6 TX6 17
theorem nmX6 : ∀ a, a < 17 → ∀ b, b < 17 → a ≠ b → (TX6 a).2.1 ≠ (TX6 b).2.1 := by decide +kernel
theorem tyX6_ok : ∀ k, k < 17 → parseFieldDescriptor (TX6 k).2.2.1 = some (tyX6 k) := by decide +kernel
abbrev cX6_init : ByteArray := prog_8_method_1_code
def yX6_init : MethodName := ⟨RX6, "<init>", "()V"⟩
abbrev cX6_take : ByteArray := prog_8_method_2_code
def yX6_take : MethodName := ⟨RX6, "take", "(I)V"⟩
abbrev cX6_reads : ByteArray := prog_8_method_3_code
def yX6_reads : MethodName := ⟨RX6, "reads", "(III)Z"⟩
abbrev cX6_cut : ByteArray := prog_8_method_4_code
def yX6_cut : MethodName := ⟨RX6, "cut", "()V"⟩
abbrev cX6_cutToken : ByteArray := prog_8_method_5_code
def yX6_cutToken : MethodName := ⟨RX6, "cutToken", "(I)I"⟩
abbrev cX6_put : ByteArray := prog_8_method_6_code
def yX6_put : MethodName := ⟨RX6, "put", "(III)V"⟩
abbrev cX6_isLetter : ByteArray := prog_8_method_7_code
def yX6_isLetter : MethodName := ⟨RX6, "isLetter", "(I)Z"⟩
abbrev cX6_isDigit : ByteArray := prog_8_method_8_code
def yX6_isDigit : MethodName := ⟨RX6, "isDigit", "(I)Z"⟩
abbrev cX6_keyword : ByteArray := prog_8_method_9_code
def yX6_keyword : MethodName := ⟨RX6, "keyword", "(II)I"⟩
abbrev cX6_step : ByteArray := prog_8_method_10_code
def yX6_step : MethodName := ⟨RX6, "step", "()V"⟩
abbrev cX6_isSign : ByteArray := prog_8_method_11_code
def yX6_isSign : MethodName := ⟨RX6, "isSign", "(C)Z"⟩
abbrev cX6_isWord : ByteArray := prog_8_method_12_code
def yX6_isWord : MethodName := ⟨RX6, "isWord", "(I)Z"⟩
abbrev cX6_wrong : ByteArray := prog_8_method_13_code
def yX6_wrong : MethodName := ⟨RX6, "wrong", "(I)Z"⟩
abbrev cX6_closes : ByteArray := prog_8_method_14_code
def yX6_closes : MethodName := ⟨RX6, "closes", "(C)Z"⟩
abbrev cX6_takesNumber : ByteArray := prog_8_method_15_code
def yX6_takesNumber : MethodName := ⟨RX6, "takesNumber", "(II)Z"⟩
abbrev cX6_lawLine : ByteArray := prog_8_method_16_code
def yX6_lawLine : MethodName := ⟨RX6, "lawLine", "(I)Z"⟩
abbrev cX6_chain : ByteArray := prog_8_method_17_code
def yX6_chain : MethodName := ⟨RX6, "chain", "(II)Z"⟩
abbrev cX6_condition : ByteArray := prog_8_method_18_code
def yX6_condition : MethodName := ⟨RX6, "condition", "(I)Z"⟩
abbrev cX6_sum : ByteArray := prog_8_method_19_code
def yX6_sum : MethodName := ⟨RX6, "sum", "()Z"⟩
abbrev cX6_term : ByteArray := prog_8_method_20_code
def yX6_term : MethodName := ⟨RX6, "term", "()Z"⟩
abbrev cX6_speechLine : ByteArray := prog_8_method_21_code
def yX6_speechLine : MethodName := ⟨RX6, "speechLine", "()Z"⟩
abbrev cX6_pinchesLine : ByteArray := prog_8_method_22_code
def yX6_pinchesLine : MethodName := ⟨RX6, "pinchesLine", "()Z"⟩
abbrev cX6_saleLine : ByteArray := prog_8_method_23_code
def yX6_saleLine : MethodName := ⟨RX6, "saleLine", "()Z"⟩
def RX7 : String := "LastToWince$Room"
def TX7 : u_T := fun k => match k with
  | 0 => ("LastToWince$Room", "dealers", "I", false)
  | 1 => ("LastToWince$Room", "lots", "I", false)
  | 2 => ("LastToWince$Room", "dark", "I", false)
  | 3 => ("LastToWince$Room", "minute", "I", false)
  | 4 => ("LastToWince$Room", "taken", "I", false)
  | 5 => ("LastToWince$Room", "draws", "I", false)
  | 6 => ("LastToWince$Room", "bookLines", "I", false)
  | 7 => ("LastToWince$Room", "nerve", "[I", true)
  | 8 => ("LastToWince$Room", "skin", "[I", true)
  | 9 => ("LastToWince$Room", "purse", "[I", true)
  | 10 => ("LastToWince$Room", "blind", "[I", true)
  | 11 => ("LastToWince$Room", "barred", "[I", true)
  | 12 => ("LastToWince$Room", "winced", "[I", true)
  | 13 => ("LastToWince$Room", "owned", "[I", true)
  | 14 => ("LastToWince$Room", "kind", "[I", true)
  | 15 => ("LastToWince$Room", "worth", "[I", true)
  | _ => ("LastToWince$Room", "sold", "[I", true)
def tyX7 : Nat → FieldType := fun k => match k with
  | 0 => .int
  | 1 => .int
  | 2 => .int
  | 3 => .int
  | 4 => .int
  | 5 => .int
  | 6 => .int
  | 7 => .array .int
  | 8 => .array .int
  | 9 => .array .int
  | 10 => .array .int
  | 11 => .array .int
  | 12 => .array .int
  | 13 => .array .int
  | 14 => .array .int
  | 15 => .array .int
  | _ => .array .int
abbrev wsX70 : List Cond := u_ws RX7 TX7 17
theorem nmX7 : ∀ a, a < 17 → ∀ b, b < 17 → a ≠ b → (TX7 a).2.1 ≠ (TX7 b).2.1 := by decide +kernel
theorem tyX7_ok : ∀ k, k < 17 → parseFieldDescriptor (TX7 k).2.2.1 = some (tyX7 k) := by decide +kernel
abbrev cX7_init : ByteArray := prog_9_method_1_code
def yX7_init : MethodName := ⟨RX7, "<init>", "()V"⟩
abbrev cX7_isDealer : ByteArray := prog_9_method_2_code
def yX7_isDealer : MethodName := ⟨RX7, "isDealer", "(I)Z"⟩
abbrev cX7_isLot : ByteArray := prog_9_method_3_code
def yX7_isLot : MethodName := ⟨RX7, "isLot", "(I)Z"⟩
abbrev cX7_addDealer : ByteArray := prog_9_method_4_code
def yX7_addDealer : MethodName := ⟨RX7, "addDealer", "(IIII)I"⟩
abbrev cX7_addLot : ByteArray := prog_9_method_5_code
def yX7_addLot : MethodName := ⟨RX7, "addLot", "(II)I"⟩
abbrev cX7_draw : ByteArray := prog_9_method_6_code
def yX7_draw : MethodName := ⟨RX7, "draw", "(I)I"⟩
abbrev cX7_everyone : ByteArray := prog_9_method_7_code
def yX7_everyone : MethodName := ⟨RX7, "everyone", "()I"⟩
abbrev cX7_admitted : ByteArray := prog_9_method_8_code
def yX7_admitted : MethodName := ⟨RX7, "admitted", "()I"⟩
abbrev cX7_entrants : ByteArray := prog_9_method_9_code
def yX7_entrants : MethodName := ⟨RX7, "entrants", "()I"⟩
abbrev cX7_unsold : ByteArray := prog_9_method_10_code
def yX7_unsold : MethodName := ⟨RX7, "unsold", "()I"⟩
abbrev cX7_calmest : ByteArray := prog_9_method_11_code
def yX7_calmest : MethodName := ⟨RX7, "calmest", "(I)I"⟩
abbrev cX7_worthOf : ByteArray := prog_9_method_12_code
def yX7_worthOf : MethodName := ⟨RX7, "worthOf", "(I)I"⟩
abbrev cX7_wealth : ByteArray := prog_9_method_13_code
def yX7_wealth : MethodName := ⟨RX7, "wealth", "(I)I"⟩
abbrev cX7_richest : ByteArray := prog_9_method_14_code
def yX7_richest : MethodName := ⟨RX7, "richest", "()I"⟩
abbrev cX7_copy : ByteArray := prog_9_method_15_code
def yX7_copy : MethodName := ⟨RX7, "copy", "(LLastToWince$Room;)V"⟩
def RX8 : String := "LastToWince$Sets"
def TX8 : u_T := fun k => match k with
  | 0 => ("LastToWince$Sets", "reach", "[I", true)
  | 1 => ("LastToWince$Sets", "couples", "[J", true)
  | 2 => ("LastToWince$Sets", "delta", "[J", true)
  | 3 => ("LastToWince$Sets", "sorted", "[I", true)
  | 4 => ("LastToWince$Sets", "sums", "[J", false)
  | _ => ("LastToWince$Sets", "parts", "[I", false)
def tyX8 : Nat → FieldType := fun k => match k with
  | 0 => .array .int
  | 1 => .array .long
  | 2 => .array .long
  | 3 => .array .int
  | 4 => .array .long
  | _ => .array .int
abbrev wsX80 : List Cond := u_ws RX8 TX8 6
theorem nmX8 : ∀ a, a < 6 → ∀ b, b < 6 → a ≠ b → (TX8 a).2.1 ≠ (TX8 b).2.1 := by decide +kernel
theorem tyX8_ok : ∀ k, k < 6 → parseFieldDescriptor (TX8 k).2.2.1 = some (tyX8 k) := by decide +kernel
abbrev cX8_init : ByteArray := prog_10_method_1_code
def yX8_init : MethodName := ⟨RX8, "<init>", "()V"⟩
abbrev cX8_sumsOfSets : ByteArray := prog_10_method_2_code
def yX8_sumsOfSets : MethodName := ⟨RX8, "sumsOfSets", "()[J"⟩
abbrev cX8_partsOfSets : ByteArray := prog_10_method_3_code
def yX8_partsOfSets : MethodName := ⟨RX8, "partsOfSets", "()[I"⟩
abbrev cX8_clearing : ByteArray := prog_10_method_4_code
def yX8_clearing : MethodName := ⟨RX8, "clearing", "(ILLastToWince$Lines;)I"⟩
abbrev cX8_emptying : ByteArray := prog_10_method_5_code
def yX8_emptying : MethodName := ⟨RX8, "emptying", "(I[I)I"⟩
abbrev cX8_fewestCovering : ByteArray := prog_10_method_6_code
def yX8_fewestCovering : MethodName := ⟨RX8, "fewestCovering", "(I[II)I"⟩
abbrev cX8_reachAlong : ByteArray := prog_10_method_7_code
def yX8_reachAlong : MethodName := ⟨RX8, "reachAlong", "(ILLastToWince$Lines;)V"⟩
abbrev cX8_learnCouples : ByteArray := prog_10_method_8_code
def yX8_learnCouples : MethodName := ⟨RX8, "learnCouples", "(I[I)V"⟩
abbrev cX8_toldApart : ByteArray := prog_10_method_9_code
def yX8_toldApart : MethodName := ⟨RX8, "toldApart", "(I)J"⟩
abbrev cX8_fewestTelling : ByteArray := prog_10_method_10_code
def yX8_fewestTelling : MethodName := ⟨RX8, "fewestTelling", "()I"⟩
abbrev cX8_bought : ByteArray := prog_10_method_11_code
def yX8_bought : MethodName := ⟨RX8, "bought", "(LLastToWince$Room;I)I"⟩
abbrev cX8_fewestSwaps : ByteArray := prog_10_method_12_code
def yX8_fewestSwaps : MethodName := ⟨RX8, "fewestSwaps", "([II)I"⟩
abbrev cX8_learnMisplaced : ByteArray := prog_10_method_13_code
def yX8_learnMisplaced : MethodName := ⟨RX8, "learnMisplaced", "([II)V"⟩
abbrev cX8_weight : ByteArray := prog_10_method_14_code
def yX8_weight : MethodName := ⟨RX8, "weight", "(II)J"⟩
def RX9 : String := "LastToWince$Thoughts"
def TX9 : u_T := fun k => match k with
  | 0 => ("LastToWince$Thoughts", "sightings", "I", false)
  | 1 => ("LastToWince$Thoughts", "outlasting", "[I", true)
  | 2 => ("LastToWince$Thoughts", "outlasted", "[I", true)
  | 3 => ("LastToWince$Thoughts", "claims", "I", false)
  | 4 => ("LastToWince$Thoughts", "claimed", "[I", true)
  | 5 => ("LastToWince$Thoughts", "putsOut", "[I", true)
  | 6 => ("LastToWince$Thoughts", "brought", "I", false)
  | 7 => ("LastToWince$Thoughts", "worth", "[I", true)
  | 8 => ("LastToWince$Thoughts", "tires", "[I", true)
  | 9 => ("LastToWince$Thoughts", "breaths", "I", false)
  | _ => ("LastToWince$Thoughts", "breathed", "[I", true)
def tyX9 : Nat → FieldType := fun k => match k with
  | 0 => .int
  | 1 => .array .int
  | 2 => .array .int
  | 3 => .int
  | 4 => .array .int
  | 5 => .array .int
  | 6 => .int
  | 7 => .array .int
  | 8 => .array .int
  | 9 => .int
  | _ => .array .int
abbrev wsX90 : List Cond := u_ws RX9 TX9 11
theorem nmX9 : ∀ a, a < 11 → ∀ b, b < 11 → a ≠ b → (TX9 a).2.1 ≠ (TX9 b).2.1 := by decide +kernel
theorem tyX9_ok : ∀ k, k < 11 → parseFieldDescriptor (TX9 k).2.2.1 = some (tyX9 k) := by decide +kernel
abbrev cX9_init : ByteArray := prog_11_method_1_code
def yX9_init : MethodName := ⟨RX9, "<init>", "()V"⟩
abbrev cX9_copy : ByteArray := prog_11_method_2_code
def yX9_copy : MethodName := ⟨RX9, "copy", "(LLastToWince$Thoughts;)V"⟩
def RX10 : String := "LastToWince$World"
def TX10 : u_T := fun k => match k with
  | 0 => ("LastToWince$World", "room", "LLastToWince$Room;", true)
  | 1 => ("LastToWince$World", "law", "LLastToWince$Law;", true)
  | 2 => ("LastToWince$World", "speech", "LLastToWince$Lines;", true)
  | 3 => ("LastToWince$World", "pinches", "LLastToWince$Lines;", true)
  | 4 => ("LastToWince$World", "sale", "LLastToWince$Lines;", true)
  | 5 => ("LastToWince$World", "thoughts", "LLastToWince$Thoughts;", true)
  | 6 => ("LastToWince$World", "bookMinute", "[I", true)
  | 7 => ("LastToWince$World", "bookWhat", "[I", true)
  | 8 => ("LastToWince$World", "bookDealer", "[I", true)
  | _ => ("LastToWince$World", "bookWhich", "[I", true)
def tyX10 : Nat → FieldType := fun k => match k with
  | 0 => .object "LastToWince$Room"
  | 1 => .object "LastToWince$Law"
  | 2 => .object "LastToWince$Lines"
  | 3 => .object "LastToWince$Lines"
  | 4 => .object "LastToWince$Lines"
  | 5 => .object "LastToWince$Thoughts"
  | 6 => .array .int
  | 7 => .array .int
  | 8 => .array .int
  | _ => .array .int
abbrev wsX100 : List Cond := u_ws RX10 TX10 10
theorem nmX10 : ∀ a, a < 10 → ∀ b, b < 10 → a ≠ b → (TX10 a).2.1 ≠ (TX10 b).2.1 := by decide +kernel
theorem tyX10_ok : ∀ k, k < 10 → parseFieldDescriptor (TX10 k).2.2.1 = some (tyX10 k) := by decide +kernel
abbrev cX10_init : ByteArray := prog_12_method_1_code
def yX10_init : MethodName := ⟨RX10, "<init>", "()V"⟩
abbrev cX10_write : ByteArray := prog_12_method_2_code
def yX10_write : MethodName := ⟨RX10, "write", "(III)V"⟩
abbrev cX10_linesOf : ByteArray := prog_12_method_3_code
def yX10_linesOf : MethodName := ⟨RX10, "linesOf", "(I)LLastToWince$Lines;"⟩
abbrev cX10_wordAt : ByteArray := prog_12_method_4_code
def yX10_wordAt : MethodName := ⟨RX10, "wordAt", "(I)I"⟩
abbrev cX10_pinchedBy : ByteArray := prog_12_method_5_code
def yX10_pinchedBy : MethodName := ⟨RX10, "pinchedBy", "(I)I"⟩
abbrev cX10_copy : ByteArray := prog_12_method_6_code
def yX10_copy : MethodName := ⟨RX10, "copy", "(LLastToWince$World;)V"⟩
def RX11 : String := "LastToWince"
def TX11 : u_T := fun k => match k with
  | 0 => ("LastToWince", "world", "LLastToWince$World;", true)
  | 1 => ("LastToWince", "image", "LLastToWince$World;", true)
  | 2 => ("LastToWince", "imageTaken", "Z", false)
  | 3 => ("LastToWince", "past", "LLastToWince$Past;", true)
  | 4 => ("LastToWince", "reader", "LLastToWince$Reader;", true)
  | 5 => ("LastToWince", "imagined", "LLastToWince$Room;", true)
  | 6 => ("LastToWince", "auction", "LLastToWince$Auction;", true)
  | 7 => ("LastToWince", "sets", "LLastToWince$Sets;", true)
  | 8 => ("LastToWince", "orders", "LLastToWince$Orders;", true)
  | _ => ("LastToWince", "figures", "LLastToWince$Figures;", true)
def tyX11 : Nat → FieldType := fun k => match k with
  | 0 => .object "LastToWince$World"
  | 1 => .object "LastToWince$World"
  | 2 => .boolean
  | 3 => .object "LastToWince$Past"
  | 4 => .object "LastToWince$Reader"
  | 5 => .object "LastToWince$Room"
  | 6 => .object "LastToWince$Auction"
  | 7 => .object "LastToWince$Sets"
  | 8 => .object "LastToWince$Orders"
  | _ => .object "LastToWince$Figures"
abbrev wsX110 : List Cond := u_ws RX11 TX11 10
theorem nmX11 : ∀ a, a < 10 → ∀ b, b < 10 → a ≠ b → (TX11 a).2.1 ≠ (TX11 b).2.1 := by decide +kernel
theorem tyX11_ok : ∀ k, k < 10 → parseFieldDescriptor (TX11 k).2.2.1 = some (tyX11 k) := by decide +kernel
abbrev cX11_init : ByteArray := prog_1_method_1_code
def yX11_init : MethodName := ⟨RX11, "<init>", "()V"⟩
abbrev cX11_state : ByteArray := prog_1_method_2_code
def yX11_state : MethodName := ⟨RX11, "state", "(I)I"⟩
abbrev cX11_dealer : ByteArray := prog_1_method_3_code
def yX11_dealer : MethodName := ⟨RX11, "dealer", "(IIIZ)I"⟩
abbrev cX11_lot : ByteArray := prog_1_method_4_code
def yX11_lot : MethodName := ⟨RX11, "lot", "(II)I"⟩
abbrev cX11_set : ByteArray := prog_1_method_5_code
def yX11_set : MethodName := ⟨RX11, "set", "(III)Z"⟩
abbrev cX11_sell : ByteArray := prog_1_method_6_code
def yX11_sell : MethodName := ⟨RX11, "sell", "(I)I"⟩
abbrev cX11_act : ByteArray := prog_1_method_7_code
def yX11_act : MethodName := ⟨RX11, "act", "(II)Z"⟩
abbrev cX11_house : ByteArray := prog_1_method_8_code
def yX11_house : MethodName := ⟨RX11, "house", "()I"⟩
abbrev cX11_saleLine : ByteArray := prog_1_method_9_code
def yX11_saleLine : MethodName := ⟨RX11, "saleLine", "(III)Z"⟩
abbrev cX11_feed : ByteArray := prog_1_method_10_code
def yX11_feed : MethodName := ⟨RX11, "feed", "(IIIII)I"⟩
abbrev cX11_end : ByteArray := prog_1_method_11_code
def yX11_end : MethodName := ⟨RX11, "end", "(I)Z"⟩
abbrev cX11_text : ByteArray := prog_1_method_12_code
def yX11_text : MethodName := ⟨RX11, "text", "(I)I"⟩
abbrev cX11_fault : ByteArray := prog_1_method_13_code
def yX11_fault : MethodName := ⟨RX11, "fault", "(I)I"⟩
abbrev cX11_of : ByteArray := prog_1_method_14_code
def yX11_of : MethodName := ⟨RX11, "of", "(II)I"⟩
abbrev cX11_lotOf : ByteArray := prog_1_method_15_code
def yX11_lotOf : MethodName := ⟨RX11, "lotOf", "(II)I"⟩
abbrev cX11_winces : ByteArray := prog_1_method_16_code
def yX11_winces : MethodName := ⟨RX11, "winces", "(III)I"⟩
abbrev cX11_word : ByteArray := prog_1_method_17_code
def yX11_word : MethodName := ⟨RX11, "word", "(I)I"⟩
abbrev cX11_book : ByteArray := prog_1_method_18_code
def yX11_book : MethodName := ⟨RX11, "book", "(II)I"⟩
abbrev cX11_would : ByteArray := prog_1_method_19_code
def yX11_would : MethodName := ⟨RX11, "would", "(II)I"⟩
abbrev cX11_worst : ByteArray := prog_1_method_20_code
def yX11_worst : MethodName := ⟨RX11, "worst", "(III)I"⟩
abbrev cX11_clears : ByteArray := prog_1_method_21_code
def yX11_clears : MethodName := ⟨RX11, "clears", "(I)I"⟩
abbrev cX11_sat : ByteArray := prog_1_method_22_code
def yX11_sat : MethodName := ⟨RX11, "sat", "(I)I"⟩
abbrev cX11_seen : ByteArray := prog_1_method_23_code
def yX11_seen : MethodName := ⟨RX11, "seen", "(II)I"⟩
abbrev cX11_ranks : ByteArray := prog_1_method_24_code
def yX11_ranks : MethodName := ⟨RX11, "ranks", "(I)I"⟩
abbrev cX11_buys : ByteArray := prog_1_method_25_code
def yX11_buys : MethodName := ⟨RX11, "buys", "(II)I"⟩
abbrev cX11_claim : ByteArray := prog_1_method_26_code
def yX11_claim : MethodName := ⟨RX11, "claim", "(I)I"⟩
abbrev cX11_shares : ByteArray := prog_1_method_27_code
def yX11_shares : MethodName := ⟨RX11, "shares", "(II)I"⟩
abbrev cX11_likely : ByteArray := prog_1_method_28_code
def yX11_likely : MethodName := ⟨RX11, "likely", "(III)I"⟩
abbrev cX11_quiet : ByteArray := prog_1_method_29_code
def yX11_quiet : MethodName := ⟨RX11, "quiet", "(I)I"⟩
abbrev cX11_puts : ByteArray := prog_1_method_30_code
def yX11_puts : MethodName := ⟨RX11, "puts", "(II)Z"⟩
abbrev cX11_outs : ByteArray := prog_1_method_31_code
def yX11_outs : MethodName := ⟨RX11, "outs", "(I)I"⟩
abbrev cX11_tells : ByteArray := prog_1_method_32_code
def yX11_tells : MethodName := ⟨RX11, "tells", "(I)I"⟩
abbrev cX11_bring : ByteArray := prog_1_method_33_code
def yX11_bring : MethodName := ⟨RX11, "bring", "(II)I"⟩
abbrev cX11_brings : ByteArray := prog_1_method_34_code
def yX11_brings : MethodName := ⟨RX11, "brings", "(I)I"⟩
abbrev cX11_breath : ByteArray := prog_1_method_35_code
def yX11_breath : MethodName := ⟨RX11, "breath", "(I)I"⟩
abbrev cX11_breaths : ByteArray := prog_1_method_36_code
def yX11_breaths : MethodName := ⟨RX11, "breaths", "(I)I"⟩
abbrev cX11_game : ByteArray := prog_1_method_37_code
def yX11_game : MethodName := ⟨RX11, "game", "(I)I"⟩
abbrev cX11_rich : ByteArray := prog_1_method_38_code
def yX11_rich : MethodName := ⟨RX11, "rich", "(I)I"⟩
abbrev cX11_undo : ByteArray := prog_1_method_39_code
def yX11_undo : MethodName := ⟨RX11, "undo", "()Z"⟩
abbrev cX11_image : ByteArray := prog_1_method_40_code
def yX11_image : MethodName := ⟨RX11, "image", "(Z)Z"⟩
abbrev cX11_look : ByteArray := prog_1_method_41_code
def yX11_look : MethodName := ⟨RX11, "look", "(I)I"⟩
abbrev cX11_within : ByteArray := prog_1_method_42_code
def yX11_within : MethodName := ⟨RX11, "within", "(II)Z"⟩
abbrev cX11_has : ByteArray := prog_1_method_43_code
def yX11_has : MethodName := ⟨RX11, "has", "(II)Z"⟩
abbrev cX11_copyRow : ByteArray := prog_1_method_44_code
def yX11_copyRow : MethodName := ⟨RX11, "copyRow", "([I[I)V"⟩
abbrev cX11_sortInto : ByteArray := prog_1_method_45_code
def yX11_sortInto : MethodName := ⟨RX11, "sortInto", "([I[II)V"⟩
def RX12 : String := "LastToWinceModel"
def TX12 : u_T := fun k => match k with
  | 0 => ("LastToWinceModel", "told", "I", false)
  | 1 => ("LastToWinceModel", "now", "[I", true)
  | 2 => ("LastToWinceModel", "rows", "[I", true)
  | 3 => ("LastToWinceModel", "undoable", "I", false)
  | 4 => ("LastToWinceModel", "waiting", "[I", true)
  | 5 => ("LastToWinceModel", "isThought", "Z", false)
  | 6 => ("LastToWinceModel", "dealers", "I", false)
  | 7 => ("LastToWinceModel", "lots", "I", false)
  | 8 => ("LastToWinceModel", "skin", "[I", true)
  | 9 => ("LastToWinceModel", "blind", "[I", true)
  | 10 => ("LastToWinceModel", "kind", "[I", true)
  | 11 => ("LastToWinceModel", "worth", "[I", true)
  | 12 => ("LastToWinceModel", "book", "[I", true)
  | 13 => ("LastToWinceModel", "tape", "[I", true)
  | 14 => ("LastToWinceModel", "taped", "I", false)
  | 15 => ("LastToWinceModel", "spot", "I", false)
  | 16 => ("LastToWinceModel", "from", "I", false)
  | 17 => ("LastToWinceModel", "token", "I", false)
  | 18 => ("LastToWinceModel", "value", "I", false)
  | 19 => ("LastToWinceModel", "words", "[I", true)
  | 20 => ("LastToWinceModel", "lineMany", "[I", true)
  | 21 => ("LastToWinceModel", "lineWord", "[I", true)
  | 22 => ("LastToWinceModel", "lineFrom", "[I", true)
  | 23 => ("LastToWinceModel", "lineWhen", "[I", true)
  | 24 => ("LastToWinceModel", "lineTo", "[I", true)
  | 25 => ("LastToWinceModel", "op", "[I", true)
  | 26 => ("LastToWinceModel", "arg", "[I", true)
  | 27 => ("LastToWinceModel", "which", "I", false)
  | 28 => ("LastToWinceModel", "codes", "I", false)
  | 29 => ("LastToWinceModel", "open", "I", false)
  | 30 => ("LastToWinceModel", "pending", "[I", true)
  | 31 => ("LastToWinceModel", "pendings", "I", false)
  | 32 => ("LastToWinceModel", "readFault", "I", false)
  | 33 => ("LastToWinceModel", "readPlace", "I", false)
  | 34 => ("LastToWinceModel", "faultKind", "I", false)
  | 35 => ("LastToWinceModel", "faultPlace", "I", false)
  | 36 => ("LastToWinceModel", "sayMany", "I", false)
  | 37 => ("LastToWinceModel", "says", "[I", true)
  | 38 => ("LastToWinceModel", "pinchMany", "I", false)
  | 39 => ("LastToWinceModel", "pinches", "[I", true)
  | 40 => ("LastToWinceModel", "deedMany", "I", false)
  | 41 => ("LastToWinceModel", "deeds", "[I", true)
  | 42 => ("LastToWinceModel", "asked", "[I", true)
  | 43 => ("LastToWinceModel", "stack", "[I", true)
  | 44 => ("LastToWinceModel", "soldIn", "I", false)
  | 45 => ("LastToWinceModel", "soldFor", "I", false)
  | 46 => ("LastToWinceModel", "wincedAt", "I", false)
  | 47 => ("LastToWinceModel", "satFrom", "[I", true)
  | 48 => ("LastToWinceModel", "seenMany", "I", false)
  | 49 => ("LastToWinceModel", "outlasted", "[I", true)
  | 50 => ("LastToWinceModel", "ranked", "[I", true)
  | 51 => ("LastToWinceModel", "claimMany", "I", false)
  | 52 => ("LastToWinceModel", "claims", "[I", true)
  | 53 => ("LastToWinceModel", "putsOut", "[I", true)
  | 54 => ("LastToWinceModel", "bringMany", "I", false)
  | 55 => ("LastToWinceModel", "bringWorth", "[I", true)
  | 56 => ("LastToWinceModel", "bringTires", "[I", true)
  | 57 => ("LastToWinceModel", "broughtFrom", "[I", true)
  | 58 => ("LastToWinceModel", "breathMany", "I", false)
  | 59 => ("LastToWinceModel", "breaths", "[I", true)
  | 60 => ("LastToWinceModel", "standing", "[I", true)
  | 61 => ("LastToWinceModel", "roundsIn", "[I", true)
  | 62 => ("LastToWinceModel", "nimbers", "[I", true)
  | 63 => ("LastToWinceModel", "isTaking", "Z", false)
  | 64 => ("LastToWinceModel", "hasImage", "Z", false)
  | 65 => ("LastToWinceModel", "keptAt", "I", false)
  | _ => ("LastToWinceModel", "images", "[I", true)
def tyX12 : Nat → FieldType := fun k => match k with
  | 0 => .int
  | 1 => .array .int
  | 2 => .array .int
  | 3 => .int
  | 4 => .array .int
  | 5 => .boolean
  | 6 => .int
  | 7 => .int
  | 8 => .array .int
  | 9 => .array .int
  | 10 => .array .int
  | 11 => .array .int
  | 12 => .array .int
  | 13 => .array .int
  | 14 => .int
  | 15 => .int
  | 16 => .int
  | 17 => .int
  | 18 => .int
  | 19 => .array .int
  | 20 => .array .int
  | 21 => .array .int
  | 22 => .array .int
  | 23 => .array .int
  | 24 => .array .int
  | 25 => .array .int
  | 26 => .array .int
  | 27 => .int
  | 28 => .int
  | 29 => .int
  | 30 => .array .int
  | 31 => .int
  | 32 => .int
  | 33 => .int
  | 34 => .int
  | 35 => .int
  | 36 => .int
  | 37 => .array .int
  | 38 => .int
  | 39 => .array .int
  | 40 => .int
  | 41 => .array .int
  | 42 => .array .int
  | 43 => .array .int
  | 44 => .int
  | 45 => .int
  | 46 => .int
  | 47 => .array .int
  | 48 => .int
  | 49 => .array .int
  | 50 => .array .int
  | 51 => .int
  | 52 => .array .int
  | 53 => .array .int
  | 54 => .int
  | 55 => .array .int
  | 56 => .array .int
  | 57 => .array .int
  | 58 => .int
  | 59 => .array .int
  | 60 => .array .int
  | 61 => .array .int
  | 62 => .array .int
  | 63 => .boolean
  | 64 => .boolean
  | 65 => .int
  | _ => .array .int
abbrev wsX120 : List Cond := u_ws RX12 TX12 67
theorem nmX12 : ∀ a, a < 67 → ∀ b, b < 67 → a ≠ b → (TX12 a).2.1 ≠ (TX12 b).2.1 := by decide +kernel
theorem tyX12_ok : ∀ k, k < 67 → parseFieldDescriptor (TX12 k).2.2.1 = some (tyX12 k) := by decide +kernel
abbrev cX12_init : ByteArray := prog_14_method_1_code
def yX12_init : MethodName := ⟨RX12, "<init>", "()V"⟩
abbrev cX12_isIn : ByteArray := prog_14_method_3_code
def yX12_isIn : MethodName := ⟨RX12, "isIn", "(III)Z"⟩
abbrev cX12_held : ByteArray := prog_14_method_4_code
def yX12_held : MethodName := ⟨RX12, "held", "(III)I"⟩
abbrev cX12_greater : ByteArray := prog_14_method_5_code
def yX12_greater : MethodName := ⟨RX12, "greater", "(II)I"⟩
abbrev cX12_lesser : ByteArray := prog_14_method_6_code
def yX12_lesser : MethodName := ⟨RX12, "lesser", "(II)I"⟩
abbrev cX12_onesOf : ByteArray := prog_14_method_7_code
def yX12_onesOf : MethodName := ⟨RX12, "onesOf", "(I)I"⟩
abbrev cX12_has : ByteArray := prog_14_method_8_code
def yX12_has : MethodName := ⟨RX12, "has", "(II)Z"⟩
abbrev cX12_keepsAhead : ByteArray := prog_14_method_9_code
def yX12_keepsAhead : MethodName := ⟨RX12, "keepsAhead", "()V"⟩
abbrev cX12_undo : ByteArray := prog_14_method_10_code
def yX12_undo : MethodName := ⟨RX12, "undo", "()Z"⟩
abbrev cX12_thinks : ByteArray := prog_14_method_11_code
def yX12_thinks : MethodName := ⟨RX12, "thinks", "()V"⟩
abbrev cX12_endsThought : ByteArray := prog_14_method_12_code
def yX12_endsThought : MethodName := ⟨RX12, "endsThought", "()V"⟩
abbrev cX12_state : ByteArray := prog_14_method_13_code
def yX12_state : MethodName := ⟨RX12, "state", "(I)I"⟩
abbrev cX12_draw : ByteArray := prog_14_method_14_code
def yX12_draw : MethodName := ⟨RX12, "draw", "(I)I"⟩
abbrev cX12_isDealer : ByteArray := prog_14_method_15_code
def yX12_isDealer : MethodName := ⟨RX12, "isDealer", "(I)Z"⟩
abbrev cX12_isLot : ByteArray := prog_14_method_16_code
def yX12_isLot : MethodName := ⟨RX12, "isLot", "(I)Z"⟩
abbrev cX12_soldTo : ByteArray := prog_14_method_17_code
def yX12_soldTo : MethodName := ⟨RX12, "soldTo", "(I)I"⟩
abbrev cX12_lotsOf : ByteArray := prog_14_method_18_code
def yX12_lotsOf : MethodName := ⟨RX12, "lotsOf", "(I)I"⟩
abbrev cX12_presentSet : ByteArray := prog_14_method_19_code
def yX12_presentSet : MethodName := ⟨RX12, "presentSet", "()I"⟩
abbrev cX12_insideSet : ByteArray := prog_14_method_20_code
def yX12_insideSet : MethodName := ⟨RX12, "insideSet", "()I"⟩
abbrev cX12_dealer : ByteArray := prog_14_method_21_code
def yX12_dealer : MethodName := ⟨RX12, "dealer", "(IIIZ)I"⟩
abbrev cX12_lot : ByteArray := prog_14_method_22_code
def yX12_lot : MethodName := ⟨RX12, "lot", "(II)I"⟩
abbrev cX12_canSet : ByteArray := prog_14_method_23_code
def yX12_canSet : MethodName := ⟨RX12, "canSet", "(III)Z"⟩
abbrev cX12_set : ByteArray := prog_14_method_24_code
def yX12_set : MethodName := ⟨RX12, "set", "(III)Z"⟩
abbrev cX12_types : ByteArray := prog_14_method_25_code
def yX12_types : MethodName := ⟨RX12, "types", "(I)V"⟩
abbrev cX12_feed : ByteArray := prog_14_method_26_code
def yX12_feed : MethodName := ⟨RX12, "feed", "(IIIII)I"⟩
abbrev cX12_end : ByteArray := prog_14_method_27_code
def yX12_end : MethodName := ⟨RX12, "end", "(I)Z"⟩
abbrev cX12_raw : ByteArray := prog_14_method_28_code
def yX12_raw : MethodName := ⟨RX12, "raw", "(I)I"⟩
abbrev cX12_isLetter : ByteArray := prog_14_method_29_code
def yX12_isLetter : MethodName := ⟨RX12, "isLetter", "(I)Z"⟩
abbrev cX12_isDigit : ByteArray := prog_14_method_30_code
def yX12_isDigit : MethodName := ⟨RX12, "isDigit", "(I)Z"⟩
abbrev cX12_isMarkSign : ByteArray := prog_14_method_31_code
def yX12_isMarkSign : MethodName := ⟨RX12, "isMarkSign", "(I)Z"⟩
abbrev cX12_wordAt : ByteArray := prog_14_method_32_code
def yX12_wordAt : MethodName := ⟨RX12, "wordAt", "(II)I"⟩
abbrev cX12_reads : ByteArray := prog_14_method_33_code
def yX12_reads : MethodName := ⟨RX12, "reads", "()V"⟩
abbrev cX12_errs : ByteArray := prog_14_method_34_code
def yX12_errs : MethodName := ⟨RX12, "errs", "(I)I"⟩
abbrev cX12_isWord : ByteArray := prog_14_method_35_code
def yX12_isWord : MethodName := ⟨RX12, "isWord", "(I)Z"⟩
abbrev cX12_isSign : ByteArray := prog_14_method_36_code
def yX12_isSign : MethodName := ⟨RX12, "isSign", "(I)Z"⟩
abbrev cX12_emits : ByteArray := prog_14_method_37_code
def yX12_emits : MethodName := ⟨RX12, "emits", "(II)V"⟩
abbrev cX12_canAsk : ByteArray := prog_14_method_38_code
def yX12_canAsk : MethodName := ⟨RX12, "canAsk", "(I)Z"⟩
abbrev cX12_readUnit : ByteArray := prog_14_method_39_code
def yX12_readUnit : MethodName := ⟨RX12, "readUnit", "()I"⟩
abbrev cX12_readProduct : ByteArray := prog_14_method_40_code
def yX12_readProduct : MethodName := ⟨RX12, "readProduct", "()I"⟩
abbrev cX12_readSum : ByteArray := prog_14_method_41_code
def yX12_readSum : MethodName := ⟨RX12, "readSum", "()I"⟩
abbrev cX12_readCompared : ByteArray := prog_14_method_42_code
def yX12_readCompared : MethodName := ⟨RX12, "readCompared", "()I"⟩
abbrev cX12_waits : ByteArray := prog_14_method_43_code
def yX12_waits : MethodName := ⟨RX12, "waits", "(I)V"⟩
abbrev cX12_settles : ByteArray := prog_14_method_44_code
def yX12_settles : MethodName := ⟨RX12, "settles", "(I)V"⟩
abbrev cX12_readAny : ByteArray := prog_14_method_45_code
def yX12_readAny : MethodName := ⟨RX12, "readAny", "()I"⟩
abbrev cX12_isLineWord : ByteArray := prog_14_method_46_code
def yX12_isLineWord : MethodName := ⟨RX12, "isLineWord", "()Z"⟩
abbrev cX12_readLaw : ByteArray := prog_14_method_47_code
def yX12_readLaw : MethodName := ⟨RX12, "readLaw", "()I"⟩
abbrev cX12_takesLaw : ByteArray := prog_14_method_48_code
def yX12_takesLaw : MethodName := ⟨RX12, "takesLaw", "(I)V"⟩
abbrev cX12_readNumber : ByteArray := prog_14_method_49_code
def yX12_readNumber : MethodName := ⟨RX12, "readNumber", "(II)I"⟩
abbrev cX12_readMark : ByteArray := prog_14_method_50_code
def yX12_readMark : MethodName := ⟨RX12, "readMark", "(I)I"⟩
abbrev cX12_readTold : ByteArray := prog_14_method_51_code
def yX12_readTold : MethodName := ⟨RX12, "readTold", "(III)I"⟩
abbrev cX12_readSay : ByteArray := prog_14_method_52_code
def yX12_readSay : MethodName := ⟨RX12, "readSay", "(I)I"⟩
abbrev cX12_readSpeech : ByteArray := prog_14_method_53_code
def yX12_readSpeech : MethodName := ⟨RX12, "readSpeech", "()I"⟩
abbrev cX12_readPinch : ByteArray := prog_14_method_54_code
def yX12_readPinch : MethodName := ⟨RX12, "readPinch", "()I"⟩
abbrev cX12_readPinches : ByteArray := prog_14_method_55_code
def yX12_readPinches : MethodName := ⟨RX12, "readPinches", "()I"⟩
abbrev cX12_readDeed : ByteArray := prog_14_method_56_code
def yX12_readDeed : MethodName := ⟨RX12, "readDeed", "(I)I"⟩
abbrev cX12_readSale : ByteArray := prog_14_method_57_code
def yX12_readSale : MethodName := ⟨RX12, "readSale", "()I"⟩
abbrev cX12_readsText : ByteArray := prog_14_method_58_code
def yX12_readsText : MethodName := ⟨RX12, "readsText", "(I)I"⟩
abbrev cX12_takesOther : ByteArray := prog_14_method_59_code
def yX12_takesOther : MethodName := ⟨RX12, "takesOther", "(II)V"⟩
abbrev cX12_text : ByteArray := prog_14_method_60_code
def yX12_text : MethodName := ⟨RX12, "text", "(I)I"⟩
abbrev cX12_fault : ByteArray := prog_14_method_61_code
def yX12_fault : MethodName := ⟨RX12, "fault", "(I)I"⟩
abbrev cX12_twoOf : ByteArray := prog_14_method_62_code
def yX12_twoOf : MethodName := ⟨RX12, "twoOf", "(III)I"⟩
abbrev cX12_runs : ByteArray := prog_14_method_63_code
def yX12_runs : MethodName := ⟨RX12, "runs", "(III)I"⟩
abbrev cX12_lineOf : ByteArray := prog_14_method_64_code
def yX12_lineOf : MethodName := ⟨RX12, "lineOf", "(I)I"⟩
abbrev cX12_asks : ByteArray := prog_14_method_65_code
def yX12_asks : MethodName := ⟨RX12, "asks", "(IIIII)V"⟩
abbrev cX12_lawTells : ByteArray := prog_14_method_66_code
def yX12_lawTells : MethodName := ⟨RX12, "lawTells", "(III)I"⟩
abbrev cX12_winceOf : ByteArray := prog_14_method_67_code
def yX12_winceOf : MethodName := ⟨RX12, "winceOf", "(IIIII)I"⟩
abbrev cX12_priceOf : ByteArray := prog_14_method_68_code
def yX12_priceOf : MethodName := ⟨RX12, "priceOf", "(III)I"⟩
abbrev cX12_calmOf : ByteArray := prog_14_method_69_code
def yX12_calmOf : MethodName := ⟨RX12, "calmOf", "(III)I"⟩
abbrev cX12_wordAt_ : ByteArray := prog_14_method_70_code
def yX12_wordAt_ : MethodName := ⟨RX12, "wordAt", "(I)I"⟩
abbrev cX12_notes : ByteArray := prog_14_method_71_code
def yX12_notes : MethodName := ⟨RX12, "notes", "(III)V"⟩
abbrev cX12_boldest : ByteArray := prog_14_method_72_code
def yX12_boldest : MethodName := ⟨RX12, "boldest", "(I)I"⟩
abbrev cX12_isWincing : ByteArray := prog_14_method_73_code
def yX12_isWincing : MethodName := ⟨RX12, "isWincing", "(I)Z"⟩
abbrev cX12_wincers : ByteArray := prog_14_method_74_code
def yX12_wincers : MethodName := ⟨RX12, "wincers", "(III)I"⟩
abbrev cX12_dragged : ByteArray := prog_14_method_75_code
def yX12_dragged : MethodName := ⟨RX12, "dragged", "(III)I"⟩
abbrev cX12_outlasts : ByteArray := prog_14_method_76_code
def yX12_outlasts : MethodName := ⟨RX12, "outlasts", "(II)I"⟩
abbrev cX12_sells : ByteArray := prog_14_method_77_code
def yX12_sells : MethodName := ⟨RX12, "sells", "(I)I"⟩
abbrev cX12_sell : ByteArray := prog_14_method_78_code
def yX12_sell : MethodName := ⟨RX12, "sell", "(I)I"⟩
abbrev cX12_acts : ByteArray := prog_14_method_79_code
def yX12_acts : MethodName := ⟨RX12, "acts", "(II)Z"⟩
abbrev cX12_act : ByteArray := prog_14_method_80_code
def yX12_act : MethodName := ⟨RX12, "act", "(II)Z"⟩
abbrev cX12_isSoldBy : ByteArray := prog_14_method_81_code
def yX12_isSoldBy : MethodName := ⟨RX12, "isSoldBy", "(I)Z"⟩
abbrev cX12_house : ByteArray := prog_14_method_82_code
def yX12_house : MethodName := ⟨RX12, "house", "()I"⟩
abbrev cX12_of : ByteArray := prog_14_method_83_code
def yX12_of : MethodName := ⟨RX12, "of", "(II)I"⟩
abbrev cX12_lotOf : ByteArray := prog_14_method_84_code
def yX12_lotOf : MethodName := ⟨RX12, "lotOf", "(II)I"⟩
abbrev cX12_winces : ByteArray := prog_14_method_85_code
def yX12_winces : MethodName := ⟨RX12, "winces", "(III)I"⟩
abbrev cX12_word : ByteArray := prog_14_method_86_code
def yX12_word : MethodName := ⟨RX12, "word", "(I)I"⟩
abbrev cX12_book : ByteArray := prog_14_method_87_code
def yX12_book : MethodName := ⟨RX12, "book", "(II)I"⟩
abbrev cX12_would : ByteArray := prog_14_method_88_code
def yX12_would : MethodName := ⟨RX12, "would", "(II)I"⟩
abbrev cX12_worst : ByteArray := prog_14_method_89_code
def yX12_worst : MethodName := ⟨RX12, "worst", "(III)I"⟩
abbrev cX12_draggedBy : ByteArray := prog_14_method_90_code
def yX12_draggedBy : MethodName := ⟨RX12, "draggedBy", "(II)I"⟩
abbrev cX12_clears : ByteArray := prog_14_method_91_code
def yX12_clears : MethodName := ⟨RX12, "clears", "(I)I"⟩
abbrev cX12_pinchesBetween : ByteArray := prog_14_method_92_code
def yX12_pinchesBetween : MethodName := ⟨RX12, "pinchesBetween", "(II)I"⟩
abbrev cX12_satBy : ByteArray := prog_14_method_93_code
def yX12_satBy : MethodName := ⟨RX12, "satBy", "(III)I"⟩
abbrev cX12_leastSat : ByteArray := prog_14_method_94_code
def yX12_leastSat : MethodName := ⟨RX12, "leastSat", "(III)I"⟩
abbrev cX12_findsSat : ByteArray := prog_14_method_95_code
def yX12_findsSat : MethodName := ⟨RX12, "findsSat", "(I)V"⟩
abbrev cX12_sat : ByteArray := prog_14_method_96_code
def yX12_sat : MethodName := ⟨RX12, "sat", "(I)I"⟩
abbrev cX12_seen : ByteArray := prog_14_method_97_code
def yX12_seen : MethodName := ⟨RX12, "seen", "(II)I"⟩
abbrev cX12_seenSet : ByteArray := prog_14_method_98_code
def yX12_seenSet : MethodName := ⟨RX12, "seenSet", "()I"⟩
abbrev cX12_otherwise : ByteArray := prog_14_method_99_code
def yX12_otherwise : MethodName := ⟨RX12, "otherwise", "(II)I"⟩
abbrev cX12_rankedBy : ByteArray := prog_14_method_100_code
def yX12_rankedBy : MethodName := ⟨RX12, "rankedBy", "(III)I"⟩
abbrev cX12_findsRanked : ByteArray := prog_14_method_101_code
def yX12_findsRanked : MethodName := ⟨RX12, "findsRanked", "(I)V"⟩
abbrev cX12_ranks : ByteArray := prog_14_method_102_code
def yX12_ranks : MethodName := ⟨RX12, "ranks", "(I)I"⟩
abbrev cX12_unsoldSet : ByteArray := prog_14_method_103_code
def yX12_unsoldSet : MethodName := ⟨RX12, "unsoldSet", "()I"⟩
abbrev cX12_worthOf : ByteArray := prog_14_method_104_code
def yX12_worthOf : MethodName := ⟨RX12, "worthOf", "(II)I"⟩
abbrev cX12_buys : ByteArray := prog_14_method_105_code
def yX12_buys : MethodName := ⟨RX12, "buys", "(II)I"⟩
abbrev cX12_claim : ByteArray := prog_14_method_106_code
def yX12_claim : MethodName := ⟨RX12, "claim", "(I)I"⟩
abbrev cX12_orders : ByteArray := prog_14_method_107_code
def yX12_orders : MethodName := ⟨RX12, "orders", "(I)I"⟩
abbrev cX12_claimsOf : ByteArray := prog_14_method_108_code
def yX12_claimsOf : MethodName := ⟨RX12, "claimsOf", "(I)I"⟩
abbrev cX12_shareOf : ByteArray := prog_14_method_109_code
def yX12_shareOf : MethodName := ⟨RX12, "shareOf", "(II)I"⟩
abbrev cX12_shares : ByteArray := prog_14_method_110_code
def yX12_shares : MethodName := ⟨RX12, "shares", "(II)I"⟩
abbrev cX12_partOf : ByteArray := prog_14_method_111_code
def yX12_partOf : MethodName := ⟨RX12, "partOf", "(II)I"⟩
abbrev cX12_palsied : ByteArray := prog_14_method_112_code
def yX12_palsied : MethodName := ⟨RX12, "palsied", "(III)I"⟩
abbrev cX12_likelyOf : ByteArray := prog_14_method_113_code
def yX12_likelyOf : MethodName := ⟨RX12, "likelyOf", "(III)I"⟩
abbrev cX12_likely : ByteArray := prog_14_method_114_code
def yX12_likely : MethodName := ⟨RX12, "likely", "(III)I"⟩
abbrev cX12_quiet : ByteArray := prog_14_method_115_code
def yX12_quiet : MethodName := ⟨RX12, "quiet", "(I)I"⟩
abbrev cX12_puts : ByteArray := prog_14_method_116_code
def yX12_puts : MethodName := ⟨RX12, "puts", "(II)Z"⟩
abbrev cX12_outBy : ByteArray := prog_14_method_117_code
def yX12_outBy : MethodName := ⟨RX12, "outBy", "(I)I"⟩
abbrev cX12_outs : ByteArray := prog_14_method_118_code
def yX12_outs : MethodName := ⟨RX12, "outs", "(I)I"⟩
abbrev cX12_areToldApart : ByteArray := prog_14_method_119_code
def yX12_areToldApart : MethodName := ⟨RX12, "areToldApart", "(III)Z"⟩
abbrev cX12_toldApart : ByteArray := prog_14_method_120_code
def yX12_toldApart : MethodName := ⟨RX12, "toldApart", "(I)I"⟩
abbrev cX12_tells : ByteArray := prog_14_method_121_code
def yX12_tells : MethodName := ⟨RX12, "tells", "(I)I"⟩
abbrev cX12_bring : ByteArray := prog_14_method_122_code
def yX12_bring : MethodName := ⟨RX12, "bring", "(II)I"⟩
abbrev cX12_broughtBy : ByteArray := prog_14_method_123_code
def yX12_broughtBy : MethodName := ⟨RX12, "broughtBy", "(II)I"⟩
abbrev cX12_findsBrought : ByteArray := prog_14_method_124_code
def yX12_findsBrought : MethodName := ⟨RX12, "findsBrought", "()V"⟩
abbrev cX12_brings : ByteArray := prog_14_method_125_code
def yX12_brings : MethodName := ⟨RX12, "brings", "(I)I"⟩
abbrev cX12_breath : ByteArray := prog_14_method_126_code
def yX12_breath : MethodName := ⟨RX12, "breath", "(I)I"⟩
abbrev cX12_stands : ByteArray := prog_14_method_127_code
def yX12_stands : MethodName := ⟨RX12, "stands", "()V"⟩
abbrev cX12_isRound : ByteArray := prog_14_method_128_code
def yX12_isRound : MethodName := ⟨RX12, "isRound", "(I)Z"⟩
abbrev cX12_swaps : ByteArray := prog_14_method_129_code
def yX12_swaps : MethodName := ⟨RX12, "swaps", "()I"⟩
abbrev cX12_breaths : ByteArray := prog_14_method_130_code
def yX12_breaths : MethodName := ⟨RX12, "breaths", "(I)I"⟩
abbrev cX12_findsNimbers : ByteArray := prog_14_method_131_code
def yX12_findsNimbers : MethodName := ⟨RX12, "findsNimbers", "()V"⟩
abbrev cX12_game : ByteArray := prog_14_method_132_code
def yX12_game : MethodName := ⟨RX12, "game", "(I)I"⟩
abbrev cX12_richesOf : ByteArray := prog_14_method_133_code
def yX12_richesOf : MethodName := ⟨RX12, "richesOf", "(I)I"⟩
abbrev cX12_below : ByteArray := prog_14_method_134_code
def yX12_below : MethodName := ⟨RX12, "below", "(I)I"⟩
abbrev cX12_rich : ByteArray := prog_14_method_135_code
def yX12_rich : MethodName := ⟨RX12, "rich", "(I)I"⟩
abbrev cX12_keeps : ByteArray := prog_14_method_136_code
def yX12_keeps : MethodName := ⟨RX12, "keeps", "(I)I"⟩
abbrev cX12_keepsLaw : ByteArray := prog_14_method_137_code
def yX12_keepsLaw : MethodName := ⟨RX12, "keepsLaw", "()V"⟩
abbrev cX12_keepsMany : ByteArray := prog_14_method_138_code
def yX12_keepsMany : MethodName := ⟨RX12, "keepsMany", "()V"⟩
abbrev cX12_keepsTold : ByteArray := prog_14_method_139_code
def yX12_keepsTold : MethodName := ⟨RX12, "keepsTold", "()V"⟩
abbrev cX12_image : ByteArray := prog_14_method_140_code
def yX12_image : MethodName := ⟨RX12, "image", "(Z)Z"⟩
abbrev cX12_look : ByteArray := prog_14_method_141_code
def yX12_look : MethodName := ⟨RX12, "look", "(I)I"⟩
def RJ11 : String := "java/lang/Character"
abbrev cJ11_isValidCodePoint_9a6ad : ByteArray := prog_15_method_11_code
def yJ11_isValidCodePoint_9a6ad : MethodName := ⟨RJ11, "isValidCodePoint", "(I)Z"⟩
abbrev cJ11_highSurrogate_5068e : ByteArray := prog_15_method_28_code
def yJ11_highSurrogate_5068e : MethodName := ⟨RJ11, "highSurrogate", "(I)C"⟩
abbrev cJ11_lowSurrogate_5068e : ByteArray := prog_15_method_29_code
def yJ11_lowSurrogate_5068e : MethodName := ⟨RJ11, "lowSurrogate", "(I)C"⟩
def RJ6 : String := "java/lang/Integer"
abbrev cJ6_numberOfLeadingZeros_0f7a4 : ByteArray := prog_16_method_47_code
def yJ6_numberOfLeadingZeros_0f7a4 : MethodName := ⟨RJ6, "numberOfLeadingZeros", "(I)I"⟩
abbrev cJ6_numberOfTrailingZeros_0f7a4 : ByteArray := prog_16_method_48_code
def yJ6_numberOfTrailingZeros_0f7a4 : MethodName := ⟨RJ6, "numberOfTrailingZeros", "(I)I"⟩
abbrev cJ6_bitCount_0f7a4 : ByteArray := prog_16_method_49_code
def yJ6_bitCount_0f7a4 : MethodName := ⟨RJ6, "bitCount", "(I)I"⟩
def RJ13 : String := "java/lang/Long"
abbrev cJ13_bitCount_95d88 : ByteArray := prog_17_method_50_code
def yJ13_bitCount_95d88 : MethodName := ⟨RJ13, "bitCount", "(J)I"⟩
def RJ9 : String := "java/lang/Math"
abbrev cJ9_max_7cf53 : ByteArray := prog_18_method_65_code
def yJ9_max_7cf53 : MethodName := ⟨RJ9, "max", "(II)I"⟩
abbrev cJ9_min_7cf53 : ByteArray := prog_18_method_69_code
def yJ9_min_7cf53 : MethodName := ⟨RJ9, "min", "(II)I"⟩
def RJ0 : String := "java/lang/String"
abbrev cJ0_length_8abf5 : ByteArray := prog_19_method_54_code
def yJ0_length_8abf5 : MethodName := ⟨RJ0, "length", "()I"⟩
abbrev cJ0_charAt_5068e : ByteArray := prog_19_method_56_code
def yJ0_charAt_5068e : MethodName := ⟨RJ0, "charAt", "(I)C"⟩
abbrev cJ0_indexOf_0f7a4 : ByteArray := prog_19_method_79_code
def yJ0_indexOf_0f7a4 : MethodName := ⟨RJ0, "indexOf", "(I)I"⟩
abbrev cJ0_indexOf_7cf53 : ByteArray := prog_19_method_80_code
def yJ0_indexOf_7cf53 : MethodName := ⟨RJ0, "indexOf", "(II)I"⟩
abbrev cJ0_coder_7d493 : ByteArray := prog_19_method_152_code
def yJ0_coder_7d493 : MethodName := ⟨RJ0, "coder", "()B"⟩
abbrev cJ0_isLatin1_aae02 : ByteArray := prog_19_method_154_code
def yJ0_isLatin1_aae02 : MethodName := ⟨RJ0, "isLatin1", "()Z"⟩
abbrev cJ0_checkIndex_df160 : ByteArray := prog_19_method_155_code
def yJ0_checkIndex_df160 : MethodName := ⟨RJ0, "checkIndex", "(II)V"⟩
abbrev cJ0_checkBoundsBeginEnd_23922 : ByteArray := prog_19_method_158_code
def yJ0_checkBoundsBeginEnd_23922 : MethodName := ⟨RJ0, "checkBoundsBeginEnd", "(III)V"⟩
def RJ1 : String := "java/lang/StringLatin1"
abbrev cJ1_charAt_3b067 : ByteArray := prog_20_method_2_code
def yJ1_charAt_3b067 : MethodName := ⟨RJ1, "charAt", "([BI)C"⟩
abbrev cJ1_canEncode_9a6ad : ByteArray := prog_20_method_4_code
def yJ1_canEncode_9a6ad : MethodName := ⟨RJ1, "canEncode", "(I)Z"⟩
abbrev cJ1_indexOf_4cfef : ByteArray := prog_20_method_22_code
def yJ1_indexOf_4cfef : MethodName := ⟨RJ1, "indexOf", "([BIII)I"⟩
abbrev cJ1_indexOfChar_4cfef : ByteArray := prog_20_method_23_code
def yJ1_indexOfChar_4cfef : MethodName := ⟨RJ1, "indexOfChar", "([BIII)I"⟩
def RJ2 : String := "java/lang/StringUTF16"
abbrev cJ2_getChar_3b067 : ByteArray := prog_21_method_5_code
def yJ2_getChar_3b067 : MethodName := ⟨RJ2, "getChar", "([BI)C"⟩
abbrev cJ2_length_9d52b : ByteArray := prog_21_method_6_code
def yJ2_length_9d52b : MethodName := ⟨RJ2, "length", "([B)I"⟩
abbrev cJ2_indexOf_4cfef : ByteArray := prog_21_method_40_code
def yJ2_indexOf_4cfef : MethodName := ⟨RJ2, "indexOf", "([BIII)I"⟩
abbrev cJ2_indexOfChar_4cfef : ByteArray := prog_21_method_47_code
def yJ2_indexOfChar_4cfef : MethodName := ⟨RJ2, "indexOfChar", "([BIII)I"⟩
abbrev cJ2_indexOfCharUnsafe_4cfef : ByteArray := prog_21_method_48_code
def yJ2_indexOfCharUnsafe_4cfef : MethodName := ⟨RJ2, "indexOfCharUnsafe", "([BIII)I"⟩
abbrev cJ2_indexOfSupplementary_4cfef : ByteArray := prog_21_method_49_code
def yJ2_indexOfSupplementary_4cfef : MethodName := ⟨RJ2, "indexOfSupplementary", "([BIII)I"⟩
abbrev cJ2_charAt_3b067 : ByteArray := prog_21_method_83_code
def yJ2_charAt_3b067 : MethodName := ⟨RJ2, "charAt", "([BI)C"⟩
abbrev cJ2_checkIndex_2214a : ByteArray := prog_21_method_91_code
def yJ2_checkIndex_2214a : MethodName := ⟨RJ2, "checkIndex", "(I[B)V"⟩
abbrev cJ2_checkBoundsBeginEnd_d044e : ByteArray := prog_21_method_93_code
def yJ2_checkBoundsBeginEnd_d044e : MethodName := ⟨RJ2, "checkBoundsBeginEnd", "(II[B)V"⟩
def RJ10 : String := "java/lang/System"
def RJ3 : String := "jdk/internal/util/Preconditions"
abbrev cJ3_checkIndex_8e157 : ByteArray := prog_23_method_11_code
def yJ3_checkIndex_8e157 : MethodName := ⟨RJ3, "checkIndex", "(IILjava/util/function/BiFunction;)I"⟩
abbrev cJ3_checkFromToIndex_8c36e : ByteArray := prog_23_method_12_code
def yJ3_checkFromToIndex_8c36e : MethodName := ⟨RJ3, "checkFromToIndex", "(IIILjava/util/function/BiFunction;)I"⟩
def RL : String := "LastToWinceLaw"
abbrev cL_law : ByteArray := code
def yL_law : MethodName := ⟨RL, "law", "([I)Z"⟩
abbrev vwCl : List vw_C := [(RX0, TX0, 3), (RX1, TX1, 2), (RX2, TX2, 10), (RX3, TX3, 4), (RX4, TX4, 9), (RX5, TX5, 3), (RX6, TX6, 17), (RX7, TX7, 17), (RX8, TX8, 6), (RX9, TX9, 11), (RX10, TX10, 10), (RX11, TX11, 10), (RX12, TX12, 67)]
