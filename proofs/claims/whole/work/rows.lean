section
-- ===== PART A: goes FIRST, ahead of the names: the tables' words, and 'selects' of the private methods out of them =====
/-- a private method of a class that the tables say can be made, by its rows of tables_1 -/
def lw_okq (q : MethodName × Nat) : Prop := (q.1.cls ≠ "java/lang/invoke/MethodHandle" ∧ q.1.cls ≠ "java/lang/invoke/VarHandle") ∧ Cond.instantiable q.1.cls q.2 ∈ tables_1 ∧ Cond.privateMethod q.1 ∈ tables_1 ∧ Cond.instanceMethod q.1 ∈ tables_1
theorem lw_p0 : lw_okq (⟨"SmokeRoofs", "finding", "(I)I"⟩, 13) := ⟨⟨by decide +kernel, by decide +kernel⟩, List.mem_of_getElem? (i := 17) (by decide +kernel), List.mem_of_getElem? (i := 247) (by decide +kernel), List.mem_of_getElem? (i := 248) (by decide +kernel)⟩
theorem lw_p1 : lw_okq (⟨"SmokeRoofs", "isChimney", "(I)Z"⟩, 13) := ⟨⟨by decide +kernel, by decide +kernel⟩, List.mem_of_getElem? (i := 17) (by decide +kernel), List.mem_of_getElem? (i := 283) (by decide +kernel), List.mem_of_getElem? (i := 284) (by decide +kernel)⟩
theorem lw_p2 : lw_okq (⟨"SmokeRoofs", "isChimneyOrAll", "(I)Z"⟩, 13) := ⟨⟨by decide +kernel, by decide +kernel⟩, List.mem_of_getElem? (i := 17) (by decide +kernel), List.mem_of_getElem? (i := 332) (by decide +kernel), List.mem_of_getElem? (i := 333) (by decide +kernel)⟩
theorem lw_p3 : lw_okq (⟨"SmokeRoofs", "lastOf", "(I)I"⟩, 13) := ⟨⟨by decide +kernel, by decide +kernel⟩, List.mem_of_getElem? (i := 17) (by decide +kernel), List.mem_of_getElem? (i := 339) (by decide +kernel), List.mem_of_getElem? (i := 340) (by decide +kernel)⟩
theorem lw_p4 : lw_okq (⟨"SmokeRoofs", "hasHours", "(I)Z"⟩, 13) := ⟨⟨by decide +kernel, by decide +kernel⟩, List.mem_of_getElem? (i := 17) (by decide +kernel), List.mem_of_getElem? (i := 370) (by decide +kernel), List.mem_of_getElem? (i := 371) (by decide +kernel)⟩
theorem lw_p5 : lw_okq (⟨"SmokeRoofs", "richest", "(III)I"⟩, 13) := ⟨⟨by decide +kernel, by decide +kernel⟩, List.mem_of_getElem? (i := 17) (by decide +kernel), List.mem_of_getElem? (i := 443) (by decide +kernel), List.mem_of_getElem? (i := 444) (by decide +kernel)⟩
theorem lw_p6 : lw_okq (⟨"SmokeRoofs", "playWith", "(IIII)V"⟩, 13) := ⟨⟨by decide +kernel, by decide +kernel⟩, List.mem_of_getElem? (i := 17) (by decide +kernel), List.mem_of_getElem? (i := 447) (by decide +kernel), List.mem_of_getElem? (i := 448) (by decide +kernel)⟩
theorem lw_p7 : lw_okq (⟨"SmokeRoofs", "playCosts", "(II)V"⟩, 13) := ⟨⟨by decide +kernel, by decide +kernel⟩, List.mem_of_getElem? (i := 17) (by decide +kernel), List.mem_of_getElem? (i := 468) (by decide +kernel), List.mem_of_getElem? (i := 469) (by decide +kernel)⟩
theorem lw_p8 : lw_okq (⟨"SmokeRoofs", "addCosts", "(LSmokeRoofs$Chimney;)V"⟩, 13) := ⟨⟨by decide +kernel, by decide +kernel⟩, List.mem_of_getElem? (i := 17) (by decide +kernel), List.mem_of_getElem? (i := 473) (by decide +kernel), List.mem_of_getElem? (i := 474) (by decide +kernel)⟩
theorem lw_p9 : lw_okq (⟨"SmokeRoofs", "playDirt", "(II)V"⟩, 13) := ⟨⟨by decide +kernel, by decide +kernel⟩, List.mem_of_getElem? (i := 17) (by decide +kernel), List.mem_of_getElem? (i := 481) (by decide +kernel), List.mem_of_getElem? (i := 482) (by decide +kernel)⟩
theorem lw_p10 : lw_okq (⟨"SmokeRoofs", "fireOf", "(I)I"⟩, 13) := ⟨⟨by decide +kernel, by decide +kernel⟩, List.mem_of_getElem? (i := 17) (by decide +kernel), List.mem_of_getElem? (i := 485) (by decide +kernel), List.mem_of_getElem? (i := 486) (by decide +kernel)⟩
theorem lw_p11 : lw_okq (⟨"SmokeRoofs", "dirtWith", "(I)I"⟩, 13) := ⟨⟨by decide +kernel, by decide +kernel⟩, List.mem_of_getElem? (i := 17) (by decide +kernel), List.mem_of_getElem? (i := 489) (by decide +kernel), List.mem_of_getElem? (i := 490) (by decide +kernel)⟩
theorem lw_p12 : lw_okq (⟨"SmokeRoofs", "playAlone", "(III)V"⟩, 13) := ⟨⟨by decide +kernel, by decide +kernel⟩, List.mem_of_getElem? (i := 17) (by decide +kernel), List.mem_of_getElem? (i := 510) (by decide +kernel), List.mem_of_getElem? (i := 511) (by decide +kernel)⟩
theorem lw_p13 : lw_okq (⟨"SmokeRoofs", "playByHour", "(I)V"⟩, 13) := ⟨⟨by decide +kernel, by decide +kernel⟩, List.mem_of_getElem? (i := 17) (by decide +kernel), List.mem_of_getElem? (i := 747) (by decide +kernel), List.mem_of_getElem? (i := 748) (by decide +kernel)⟩
theorem lw_p14 : lw_okq (⟨"SmokeRoofsModel", "finds", "(I)I"⟩, 21) := ⟨⟨by decide +kernel, by decide +kernel⟩, List.mem_of_getElem? (i := 782) (by decide +kernel), List.mem_of_getElem? (i := 866) (by decide +kernel), List.mem_of_getElem? (i := 867) (by decide +kernel)⟩
theorem lw_p15 : lw_okq (⟨"SmokeRoofsModel", "newChimney", "(III)I"⟩, 21) := ⟨⟨by decide +kernel, by decide +kernel⟩, List.mem_of_getElem? (i := 782) (by decide +kernel), List.mem_of_getElem? (i := 888) (by decide +kernel), List.mem_of_getElem? (i := 889) (by decide +kernel)⟩
def lw_privs_1 : List (MethodName × Nat) := [(⟨"SmokeRoofs", "finding", "(I)I"⟩, 13), (⟨"SmokeRoofs", "isChimney", "(I)Z"⟩, 13), (⟨"SmokeRoofs", "isChimneyOrAll", "(I)Z"⟩, 13), (⟨"SmokeRoofs", "lastOf", "(I)I"⟩, 13), (⟨"SmokeRoofs", "hasHours", "(I)Z"⟩, 13), (⟨"SmokeRoofs", "richest", "(III)I"⟩, 13), (⟨"SmokeRoofs", "playWith", "(IIII)V"⟩, 13), (⟨"SmokeRoofs", "playCosts", "(II)V"⟩, 13), (⟨"SmokeRoofs", "addCosts", "(LSmokeRoofs$Chimney;)V"⟩, 13), (⟨"SmokeRoofs", "playDirt", "(II)V"⟩, 13), (⟨"SmokeRoofs", "fireOf", "(I)I"⟩, 13), (⟨"SmokeRoofs", "dirtWith", "(I)I"⟩, 13), (⟨"SmokeRoofs", "playAlone", "(III)V"⟩, 13), (⟨"SmokeRoofs", "playByHour", "(I)V"⟩, 13), (⟨"SmokeRoofsModel", "finds", "(I)I"⟩, 21), (⟨"SmokeRoofsModel", "newChimney", "(III)I"⟩, 21)]
theorem lw_r1 : ∀ q ∈ lw_privs_1, lw_okq q := List.forall_mem_cons.mpr ⟨lw_p0, List.forall_mem_cons.mpr ⟨lw_p1, List.forall_mem_cons.mpr ⟨lw_p2, List.forall_mem_cons.mpr ⟨lw_p3, List.forall_mem_cons.mpr ⟨lw_p4, List.forall_mem_cons.mpr ⟨lw_p5, List.forall_mem_cons.mpr ⟨lw_p6, List.forall_mem_cons.mpr ⟨lw_p7, List.forall_mem_cons.mpr ⟨lw_p8, List.forall_mem_cons.mpr ⟨lw_p9, List.forall_mem_cons.mpr ⟨lw_p10, List.forall_mem_cons.mpr ⟨lw_p11, List.forall_mem_cons.mpr ⟨lw_p12, List.forall_mem_cons.mpr ⟨lw_p13, List.forall_mem_cons.mpr ⟨lw_p14, List.forall_mem_cons.mpr ⟨lw_p15, fun _ h => absurd h List.not_mem_nil⟩⟩⟩⟩⟩⟩⟩⟩⟩⟩⟩⟩⟩⟩⟩⟩
theorem lw_p16 : lw_okq (⟨"SmokeRoofsModel", "isChimney", "(I)Z"⟩, 21) := ⟨⟨by decide +kernel, by decide +kernel⟩, List.mem_of_getElem? (i := 782) (by decide +kernel), List.mem_of_getElem? (i := 899) (by decide +kernel), List.mem_of_getElem? (i := 900) (by decide +kernel)⟩
theorem lw_p17 : lw_okq (⟨"SmokeRoofsModel", "its", "(II)I"⟩, 21) := ⟨⟨by decide +kernel, by decide +kernel⟩, List.mem_of_getElem? (i := 782) (by decide +kernel), List.mem_of_getElem? (i := 904) (by decide +kernel), List.mem_of_getElem? (i := 905) (by decide +kernel)⟩
theorem lw_p18 : lw_okq (⟨"SmokeRoofsModel", "worth", "(I)I"⟩, 21) := ⟨⟨by decide +kernel, by decide +kernel⟩, List.mem_of_getElem? (i := 782) (by decide +kernel), List.mem_of_getElem? (i := 908) (by decide +kernel), List.mem_of_getElem? (i := 909) (by decide +kernel)⟩
theorem lw_p19 : lw_okq (⟨"SmokeRoofsModel", "sooty", "(I)I"⟩, 21) := ⟨⟨by decide +kernel, by decide +kernel⟩, List.mem_of_getElem? (i := 782) (by decide +kernel), List.mem_of_getElem? (i := 912) (by decide +kernel), List.mem_of_getElem? (i := 913) (by decide +kernel)⟩
theorem lw_p20 : lw_okq (⟨"SmokeRoofsModel", "burns", "(II)I"⟩, 21) := ⟨⟨by decide +kernel, by decide +kernel⟩, List.mem_of_getElem? (i := 782) (by decide +kernel), List.mem_of_getElem? (i := 916) (by decide +kernel), List.mem_of_getElem? (i := 917) (by decide +kernel)⟩
theorem lw_p21 : lw_okq (⟨"SmokeRoofsModel", "isLit", "(II)Z"⟩, 21) := ⟨⟨by decide +kernel, by decide +kernel⟩, List.mem_of_getElem? (i := 782) (by decide +kernel), List.mem_of_getElem? (i := 920) (by decide +kernel), List.mem_of_getElem? (i := 921) (by decide +kernel)⟩
theorem lw_p22 : lw_okq (⟨"SmokeRoofsModel", "burnsAt", "(II)I"⟩, 21) := ⟨⟨by decide +kernel, by decide +kernel⟩, List.mem_of_getElem? (i := 782) (by decide +kernel), List.mem_of_getElem? (i := 924) (by decide +kernel), List.mem_of_getElem? (i := 925) (by decide +kernel)⟩
theorem lw_p23 : lw_okq (⟨"SmokeRoofsModel", "sums", "(III)I"⟩, 21) := ⟨⟨by decide +kernel, by decide +kernel⟩, List.mem_of_getElem? (i := 782) (by decide +kernel), List.mem_of_getElem? (i := 947) (by decide +kernel), List.mem_of_getElem? (i := 948) (by decide +kernel)⟩
theorem lw_p24 : lw_okq (⟨"SmokeRoofsModel", "isTooFar", "(I)Z"⟩, 21) := ⟨⟨by decide +kernel, by decide +kernel⟩, List.mem_of_getElem? (i := 782) (by decide +kernel), List.mem_of_getElem? (i := 973) (by decide +kernel), List.mem_of_getElem? (i := 974) (by decide +kernel)⟩
theorem lw_p25 : lw_okq (⟨"SmokeRoofsModel", "hoursGo", "(I)I"⟩, 21) := ⟨⟨by decide +kernel, by decide +kernel⟩, List.mem_of_getElem? (i := 782) (by decide +kernel), List.mem_of_getElem? (i := 978) (by decide +kernel), List.mem_of_getElem? (i := 979) (by decide +kernel)⟩
theorem lw_p26 : lw_okq (⟨"SmokeRoofsModel", "hour", "()I"⟩, 21) := ⟨⟨by decide +kernel, by decide +kernel⟩, List.mem_of_getElem? (i := 782) (by decide +kernel), List.mem_of_getElem? (i := 982) (by decide +kernel), List.mem_of_getElem? (i := 983) (by decide +kernel)⟩
theorem lw_p27 : lw_okq (⟨"SmokeRoofsModel", "goes", "(II)V"⟩, 21) := ⟨⟨by decide +kernel, by decide +kernel⟩, List.mem_of_getElem? (i := 782) (by decide +kernel), List.mem_of_getElem? (i := 986) (by decide +kernel), List.mem_of_getElem? (i := 987) (by decide +kernel)⟩
theorem lw_p28 : lw_okq (⟨"SmokeRoofsModel", "settles", "(I)I"⟩, 21) := ⟨⟨by decide +kernel, by decide +kernel⟩, List.mem_of_getElem? (i := 782) (by decide +kernel), List.mem_of_getElem? (i := 993) (by decide +kernel), List.mem_of_getElem? (i := 994) (by decide +kernel)⟩
theorem lw_p29 : lw_okq (⟨"SmokeRoofsModel", "puts", "()V"⟩, 21) := ⟨⟨by decide +kernel, by decide +kernel⟩, List.mem_of_getElem? (i := 782) (by decide +kernel), List.mem_of_getElem? (i := 1003) (by decide +kernel), List.mem_of_getElem? (i := 1004) (by decide +kernel)⟩
theorem lw_p30 : lw_okq (⟨"SmokeRoofsModel", "allOf", "(I)I"⟩, 21) := ⟨⟨by decide +kernel, by decide +kernel⟩, List.mem_of_getElem? (i := 782) (by decide +kernel), List.mem_of_getElem? (i := 1007) (by decide +kernel), List.mem_of_getElem? (i := 1008) (by decide +kernel)⟩
theorem lw_p31 : lw_okq (⟨"SmokeRoofsModel", "putsBack", "()V"⟩, 21) := ⟨⟨by decide +kernel, by decide +kernel⟩, List.mem_of_getElem? (i := 782) (by decide +kernel), List.mem_of_getElem? (i := 1011) (by decide +kernel), List.mem_of_getElem? (i := 1012) (by decide +kernel)⟩
def lw_privs_2 : List (MethodName × Nat) := [(⟨"SmokeRoofsModel", "isChimney", "(I)Z"⟩, 21), (⟨"SmokeRoofsModel", "its", "(II)I"⟩, 21), (⟨"SmokeRoofsModel", "worth", "(I)I"⟩, 21), (⟨"SmokeRoofsModel", "sooty", "(I)I"⟩, 21), (⟨"SmokeRoofsModel", "burns", "(II)I"⟩, 21), (⟨"SmokeRoofsModel", "isLit", "(II)Z"⟩, 21), (⟨"SmokeRoofsModel", "burnsAt", "(II)I"⟩, 21), (⟨"SmokeRoofsModel", "sums", "(III)I"⟩, 21), (⟨"SmokeRoofsModel", "isTooFar", "(I)Z"⟩, 21), (⟨"SmokeRoofsModel", "hoursGo", "(I)I"⟩, 21), (⟨"SmokeRoofsModel", "hour", "()I"⟩, 21), (⟨"SmokeRoofsModel", "goes", "(II)V"⟩, 21), (⟨"SmokeRoofsModel", "settles", "(I)I"⟩, 21), (⟨"SmokeRoofsModel", "puts", "()V"⟩, 21), (⟨"SmokeRoofsModel", "allOf", "(I)I"⟩, 21), (⟨"SmokeRoofsModel", "putsBack", "()V"⟩, 21)]
theorem lw_r2 : ∀ q ∈ lw_privs_2, lw_okq q := List.forall_mem_cons.mpr ⟨lw_p16, List.forall_mem_cons.mpr ⟨lw_p17, List.forall_mem_cons.mpr ⟨lw_p18, List.forall_mem_cons.mpr ⟨lw_p19, List.forall_mem_cons.mpr ⟨lw_p20, List.forall_mem_cons.mpr ⟨lw_p21, List.forall_mem_cons.mpr ⟨lw_p22, List.forall_mem_cons.mpr ⟨lw_p23, List.forall_mem_cons.mpr ⟨lw_p24, List.forall_mem_cons.mpr ⟨lw_p25, List.forall_mem_cons.mpr ⟨lw_p26, List.forall_mem_cons.mpr ⟨lw_p27, List.forall_mem_cons.mpr ⟨lw_p28, List.forall_mem_cons.mpr ⟨lw_p29, List.forall_mem_cons.mpr ⟨lw_p30, List.forall_mem_cons.mpr ⟨lw_p31, fun _ h => absurd h List.not_mem_nil⟩⟩⟩⟩⟩⟩⟩⟩⟩⟩⟩⟩⟩⟩⟩⟩
theorem lw_p32 : lw_okq (⟨"SmokeRoofsModel", "bestPart", "(III)I"⟩, 21) := ⟨⟨by decide +kernel, by decide +kernel⟩, List.mem_of_getElem? (i := 782) (by decide +kernel), List.mem_of_getElem? (i := 1032) (by decide +kernel), List.mem_of_getElem? (i := 1033) (by decide +kernel)⟩
theorem lw_p33 : lw_okq (⟨"SmokeRoofsModel", "bookBehind", "(II)I"⟩, 21) := ⟨⟨by decide +kernel, by decide +kernel⟩, List.mem_of_getElem? (i := 782) (by decide +kernel), List.mem_of_getElem? (i := 1036) (by decide +kernel), List.mem_of_getElem? (i := 1037) (by decide +kernel)⟩
theorem lw_p34 : lw_okq (⟨"SmokeRoofsModel", "dirtIn", "(II)I"⟩, 21) := ⟨⟨by decide +kernel, by decide +kernel⟩, List.mem_of_getElem? (i := 782) (by decide +kernel), List.mem_of_getElem? (i := 1052) (by decide +kernel), List.mem_of_getElem? (i := 1053) (by decide +kernel)⟩
theorem lw_p35 : lw_okq (⟨"SmokeRoofsModel", "isUnder", "(II)Z"⟩, 21) := ⟨⟨by decide +kernel, by decide +kernel⟩, List.mem_of_getElem? (i := 782) (by decide +kernel), List.mem_of_getElem? (i := 1080) (by decide +kernel), List.mem_of_getElem? (i := 1081) (by decide +kernel)⟩
theorem lw_p36 : lw_okq (⟨"SmokeRoofsModel", "next", "()I"⟩, 21) := ⟨⟨by decide +kernel, by decide +kernel⟩, List.mem_of_getElem? (i := 782) (by decide +kernel), List.mem_of_getElem? (i := 1092) (by decide +kernel), List.mem_of_getElem? (i := 1093) (by decide +kernel)⟩
theorem lw_p37 : lw_okq (⟨"SmokeRoofsModel", "token", "()V"⟩, 21) := ⟨⟨by decide +kernel, by decide +kernel⟩, List.mem_of_getElem? (i := 782) (by decide +kernel), List.mem_of_getElem? (i := 1113) (by decide +kernel), List.mem_of_getElem? (i := 1114) (by decide +kernel)⟩
theorem lw_p38 : lw_okq (⟨"SmokeRoofsModel", "byteAt", "(I)I"⟩, 21) := ⟨⟨by decide +kernel, by decide +kernel⟩, List.mem_of_getElem? (i := 782) (by decide +kernel), List.mem_of_getElem? (i := 1117) (by decide +kernel), List.mem_of_getElem? (i := 1118) (by decide +kernel)⟩
theorem lw_p39 : lw_okq (⟨"SmokeRoofsModel", "item", "()V"⟩, 21) := ⟨⟨by decide +kernel, by decide +kernel⟩, List.mem_of_getElem? (i := 782) (by decide +kernel), List.mem_of_getElem? (i := 1130) (by decide +kernel), List.mem_of_getElem? (i := 1131) (by decide +kernel)⟩
theorem lw_p40 : lw_okq (⟨"SmokeRoofsModel", "kindHere", "()I"⟩, 21) := ⟨⟨by decide +kernel, by decide +kernel⟩, List.mem_of_getElem? (i := 782) (by decide +kernel), List.mem_of_getElem? (i := 1134) (by decide +kernel), List.mem_of_getElem? (i := 1135) (by decide +kernel)⟩
theorem lw_p41 : lw_okq (⟨"SmokeRoofsModel", "word", "()J"⟩, 21) := ⟨⟨by decide +kernel, by decide +kernel⟩, List.mem_of_getElem? (i := 782) (by decide +kernel), List.mem_of_getElem? (i := 1138) (by decide +kernel), List.mem_of_getElem? (i := 1139) (by decide +kernel)⟩
theorem lw_p42 : lw_okq (⟨"SmokeRoofsModel", "chimneyItem", "(I)V"⟩, 21) := ⟨⟨by decide +kernel, by decide +kernel⟩, List.mem_of_getElem? (i := 782) (by decide +kernel), List.mem_of_getElem? (i := 1151) (by decide +kernel), List.mem_of_getElem? (i := 1152) (by decide +kernel)⟩
theorem lw_p43 : lw_okq (⟨"SmokeRoofsModel", "needs", "(Z)V"⟩, 21) := ⟨⟨by decide +kernel, by decide +kernel⟩, List.mem_of_getElem? (i := 782) (by decide +kernel), List.mem_of_getElem? (i := 1155) (by decide +kernel), List.mem_of_getElem? (i := 1156) (by decide +kernel)⟩
theorem lw_p44 : lw_okq (⟨"SmokeRoofsModel", "number", "(II)V"⟩, 21) := ⟨⟨by decide +kernel, by decide +kernel⟩, List.mem_of_getElem? (i := 782) (by decide +kernel), List.mem_of_getElem? (i := 1160) (by decide +kernel), List.mem_of_getElem? (i := 1161) (by decide +kernel)⟩
theorem lw_p45 : lw_okq (⟨"SmokeRoofsModel", "perhaps", "(ZII)I"⟩, 21) := ⟨⟨by decide +kernel, by decide +kernel⟩, List.mem_of_getElem? (i := 782) (by decide +kernel), List.mem_of_getElem? (i := 1166) (by decide +kernel), List.mem_of_getElem? (i := 1167) (by decide +kernel)⟩
theorem lw_p46 : lw_okq (⟨"SmokeRoofsModel", "roofItem", "()V"⟩, 21) := ⟨⟨by decide +kernel, by decide +kernel⟩, List.mem_of_getElem? (i := 782) (by decide +kernel), List.mem_of_getElem? (i := 1174) (by decide +kernel), List.mem_of_getElem? (i := 1175) (by decide +kernel)⟩
theorem lw_p47 : lw_okq (⟨"SmokeRoofsModel", "windItem", "()V"⟩, 21) := ⟨⟨by decide +kernel, by decide +kernel⟩, List.mem_of_getElem? (i := 782) (by decide +kernel), List.mem_of_getElem? (i := 1178) (by decide +kernel), List.mem_of_getElem? (i := 1179) (by decide +kernel)⟩
def lw_privs_3 : List (MethodName × Nat) := [(⟨"SmokeRoofsModel", "bestPart", "(III)I"⟩, 21), (⟨"SmokeRoofsModel", "bookBehind", "(II)I"⟩, 21), (⟨"SmokeRoofsModel", "dirtIn", "(II)I"⟩, 21), (⟨"SmokeRoofsModel", "isUnder", "(II)Z"⟩, 21), (⟨"SmokeRoofsModel", "next", "()I"⟩, 21), (⟨"SmokeRoofsModel", "token", "()V"⟩, 21), (⟨"SmokeRoofsModel", "byteAt", "(I)I"⟩, 21), (⟨"SmokeRoofsModel", "item", "()V"⟩, 21), (⟨"SmokeRoofsModel", "kindHere", "()I"⟩, 21), (⟨"SmokeRoofsModel", "word", "()J"⟩, 21), (⟨"SmokeRoofsModel", "chimneyItem", "(I)V"⟩, 21), (⟨"SmokeRoofsModel", "needs", "(Z)V"⟩, 21), (⟨"SmokeRoofsModel", "number", "(II)V"⟩, 21), (⟨"SmokeRoofsModel", "perhaps", "(ZII)I"⟩, 21), (⟨"SmokeRoofsModel", "roofItem", "()V"⟩, 21), (⟨"SmokeRoofsModel", "windItem", "()V"⟩, 21)]
theorem lw_r3 : ∀ q ∈ lw_privs_3, lw_okq q := List.forall_mem_cons.mpr ⟨lw_p32, List.forall_mem_cons.mpr ⟨lw_p33, List.forall_mem_cons.mpr ⟨lw_p34, List.forall_mem_cons.mpr ⟨lw_p35, List.forall_mem_cons.mpr ⟨lw_p36, List.forall_mem_cons.mpr ⟨lw_p37, List.forall_mem_cons.mpr ⟨lw_p38, List.forall_mem_cons.mpr ⟨lw_p39, List.forall_mem_cons.mpr ⟨lw_p40, List.forall_mem_cons.mpr ⟨lw_p41, List.forall_mem_cons.mpr ⟨lw_p42, List.forall_mem_cons.mpr ⟨lw_p43, List.forall_mem_cons.mpr ⟨lw_p44, List.forall_mem_cons.mpr ⟨lw_p45, List.forall_mem_cons.mpr ⟨lw_p46, List.forall_mem_cons.mpr ⟨lw_p47, fun _ h => absurd h List.not_mem_nil⟩⟩⟩⟩⟩⟩⟩⟩⟩⟩⟩⟩⟩⟩⟩⟩
theorem lw_p48 : lw_okq (⟨"SmokeRoofsModel", "wrong", "(I)I"⟩, 21) := ⟨⟨by decide +kernel, by decide +kernel⟩, List.mem_of_getElem? (i := 782) (by decide +kernel), List.mem_of_getElem? (i := 1206) (by decide +kernel), List.mem_of_getElem? (i := 1207) (by decide +kernel)⟩
def lw_privs_4 : List (MethodName × Nat) := [(⟨"SmokeRoofsModel", "wrong", "(I)I"⟩, 21)]
theorem lw_r4 : ∀ q ∈ lw_privs_4, lw_okq q := List.forall_mem_cons.mpr ⟨lw_p48, fun _ h => absurd h List.not_mem_nil⟩
def lw_privs : List (MethodName × Nat) := lw_privs_1 ++ (lw_privs_2 ++ (lw_privs_3 ++ (lw_privs_4)))
def lw_tbl : List Cond := k2_sels lw_privs ++ tables_1
theorem lw_privs_ok : ∀ q ∈ lw_privs, lw_okq q := by
  show ∀ q ∈ lw_privs_1 ++ (lw_privs_2 ++ (lw_privs_3 ++ (lw_privs_4))), lw_okq q
  exact List.forall_mem_append.mpr ⟨lw_r1, List.forall_mem_append.mpr ⟨lw_r2, List.forall_mem_append.mpr ⟨lw_r3, lw_r4⟩⟩⟩
end
section
/-! ===== BEGIN words of one list among another's, by their places ===== -/
theorem goodIn_r {big : List Cond} (ws : List Cond) (ps : List Nat) (hp : ws = ps.filterMap (fun i => big[i]?)) (h : ws.all goodWord = true) : GoodIn big ws := by
  intro w hw
  have h1 := List.all_eq_true.mp h w hw
  rw [hp] at hw
  obtain ⟨i, -, hi⟩ := List.mem_filterMap.mp hw
  have hm : w ∈ big := by first | exact List.mem_of_getElem? hi | exact List.getElem?_mem hi
  exact ⟨hm, good_of_word h1⟩
theorem goodIn_app {big a b : List Cond} (ha : GoodIn big a) (hb : GoodIn big b) : GoodIn big (a ++ b) := fun w h => (List.mem_append.mp h).elim (ha w) (hb w)
theorem goodIn_ca {big a b : List Cond} {c : Cond} (ha : GoodIn big (c :: a)) (hb : GoodIn big b) : GoodIn big (c :: (a ++ b)) := fun w h => (List.mem_cons.mp h).elim (fun e => ha w (List.mem_cons.mpr (Or.inl e))) (fun h => (List.mem_append.mp h).elim (fun h => ha w (List.mem_cons.mpr (Or.inr h))) (hb w))
theorem goodIn_sub {big ws : List Cond} (hm : ∀ w ∈ ws, w ∈ big) (h : ws.all goodWord = true) : GoodIn big ws := fun w hw => ⟨hm w hw, good_of_word (List.all_eq_true.mp h w hw)⟩
/-! ===== END ===== -/

/-! ===== BEGIN printed: names, fields, word lists, decode rows ===== -/
def RX0 : String := "SmokeRoofs$Chimney"
def TX0 : u_T := fun k => match k with
  | 0 => ("SmokeRoofs$Chimney", "traits", "[I", true)
  | 1 => ("SmokeRoofs$Chimney", "aloft", "[I", true)
  | 2 => ("SmokeRoofs$Chimney", "soot", "[I", true)
  | 3 => ("SmokeRoofs$Chimney", "gone", "I", false)
  | 4 => ("SmokeRoofs$Chimney", "cameDown", "I", false)
  | _ => ("SmokeRoofs$Chimney", "burnt", "I", false)
def tyX0 : Nat → FieldType := fun k => match k with
  | 0 => .array .int
  | 1 => .array .int
  | 2 => .array .int
  | 3 => .int
  | 4 => .int
  | _ => .int
abbrev wsX00 : List Cond := u_ws RX0 TX0 6
theorem nmX0 : ∀ a, a < 6 → ∀ b, b < 6 → a ≠ b → (TX0 a).2.1 ≠ (TX0 b).2.1 := by decide +kernel
theorem tyX0_ok : ∀ k, k < 6 → parseFieldDescriptor (TX0 k).2.2.1 = some (tyX0 k) := by decide +kernel
abbrev cX0_init : ByteArray := prog_2_method_1_code
def yX0_init : MethodName := ⟨RX0, "<init>", "()V"⟩
abbrev cX0_begin : ByteArray := prog_2_method_2_code
def yX0_begin : MethodName := ⟨RX0, "begin", "(III)V"⟩
abbrev cX0_take : ByteArray := prog_2_method_3_code
def yX0_take : MethodName := ⟨RX0, "take", "(LSmokeRoofs$Chimney;)V"⟩
abbrev cX0_worth : ByteArray := prog_2_method_4_code
def yX0_worth : MethodName := ⟨RX0, "worth", "()I"⟩
abbrev cX0_sooty : ByteArray := prog_2_method_5_code
def yX0_sooty : MethodName := ⟨RX0, "sooty", "()I"⟩
abbrev cX0_isLitAt : ByteArray := prog_2_method_6_code
def yX0_isLitAt : MethodName := ⟨RX0, "isLitAt", "(I)Z"⟩
abbrev cX0_burnsAt : ByteArray := prog_2_method_7_code
def yX0_burnsAt : MethodName := ⟨RX0, "burnsAt", "(I)I"⟩
abbrev cX0_burnAt : ByteArray := prog_2_method_8_code
def yX0_burnAt : MethodName := ⟨RX0, "burnAt", "(I)V"⟩
abbrev cX0_comeDown : ByteArray := prog_2_method_9_code
def yX0_comeDown : MethodName := ⟨RX0, "comeDown", "()V"⟩
abbrev cX0_drift : ByteArray := prog_2_method_10_code
def yX0_drift : MethodName := ⟨RX0, "drift", "(I)V"⟩
abbrev cX0_moveTo : ByteArray := prog_2_method_11_code
def yX0_moveTo : MethodName := ⟨RX0, "moveTo", "(II)V"⟩
abbrev cX0_settle : ByteArray := prog_2_method_12_code
def yX0_settle : MethodName := ⟨RX0, "settle", "([ILSmokeRoofs$Tally;)V"⟩
abbrev cX0_cellBeside : ByteArray := prog_2_method_13_code
def yX0_cellBeside : MethodName := ⟨RX0, "cellBeside", "(II)I"⟩
def RX1 : String := "SmokeRoofs$Reader"
def TX1 : u_T := fun k => match k with
  | 0 => ("SmokeRoofs$Reader", "tape", "LSmokeRoofs$Tape;", true)
  | 1 => ("SmokeRoofs$Reader", "isSure", "Z", false)
  | _ => ("SmokeRoofs$Reader", "chimneysTold", "I", false)
def tyX1 : Nat → FieldType := fun k => match k with
  | 0 => .object "SmokeRoofs$Tape"
  | 1 => .boolean
  | _ => .int
abbrev wsX10 : List Cond := u_ws RX1 TX1 3
theorem nmX1 : ∀ a, a < 3 → ∀ b, b < 3 → a ≠ b → (TX1 a).2.1 ≠ (TX1 b).2.1 := by decide +kernel
theorem tyX1_ok : ∀ k, k < 3 → parseFieldDescriptor (TX1 k).2.2.1 = some (tyX1 k) := by decide +kernel
abbrev cX1_init : ByteArray := prog_3_method_1_code
def yX1_init : MethodName := ⟨RX1, "<init>", "()V"⟩
abbrev cX1_read : ByteArray := prog_3_method_2_code
def yX1_read : MethodName := ⟨RX1, "read", "(LSmokeRoofs$Town;Z)I"⟩
abbrev cX1_readItem : ByteArray := prog_3_method_3_code
def yX1_readItem : MethodName := ⟨RX1, "readItem", "(LSmokeRoofs$Town;)V"⟩
abbrev cX1_readRoof : ByteArray := prog_3_method_4_code
def yX1_readRoof : MethodName := ⟨RX1, "readRoof", "(LSmokeRoofs$Town;)V"⟩
abbrev cX1_readWind : ByteArray := prog_3_method_5_code
def yX1_readWind : MethodName := ⟨RX1, "readWind", "(LSmokeRoofs$Town;)V"⟩
abbrev cX1_readChimney : ByteArray := prog_3_method_6_code
def yX1_readChimney : MethodName := ⟨RX1, "readChimney", "(LSmokeRoofs$Town;I)V"⟩
abbrev cX1_kindAtHand : ByteArray := prog_3_method_7_code
def yX1_kindAtHand : MethodName := ⟨RX1, "kindAtHand", "()I"⟩
abbrev cX1_wordOf : ByteArray := prog_3_method_8_code
def yX1_wordOf : MethodName := ⟨RX1, "wordOf", "(I)Ljava/lang/String;"⟩
def RX2 : String := "SmokeRoofs$Sheet"
def TX2 : u_T := fun k => match k with
  | 0 => ("SmokeRoofs$Sheet", "bits", "I", false)
  | 1 => ("SmokeRoofs$Sheet", "length", "I", false)
  | _ => ("SmokeRoofs$Sheet", "numbers", "[I", true)
def tyX2 : Nat → FieldType := fun k => match k with
  | 0 => .int
  | 1 => .int
  | _ => .array .int
abbrev wsX20 : List Cond := u_ws RX2 TX2 3
theorem nmX2 : ∀ a, a < 3 → ∀ b, b < 3 → a ≠ b → (TX2 a).2.1 ≠ (TX2 b).2.1 := by decide +kernel
theorem tyX2_ok : ∀ k, k < 3 → parseFieldDescriptor (TX2 k).2.2.1 = some (tyX2 k) := by decide +kernel
abbrev cX2_init : ByteArray := prog_4_method_1_code
def yX2_init : MethodName := ⟨RX2, "<init>", "()V"⟩
abbrev cX2_begin : ByteArray := prog_4_method_2_code
def yX2_begin : MethodName := ⟨RX2, "begin", "(II)V"⟩
abbrev cX2_isMissing : ByteArray := prog_4_method_3_code
def yX2_isMissing : MethodName := ⟨RX2, "isMissing", "()Z"⟩
abbrev cX2_put : ByteArray := prog_4_method_4_code
def yX2_put : MethodName := ⟨RX2, "put", "(II)V"⟩
abbrev cX2_hasPart : ByteArray := prog_4_method_5_code
def yX2_hasPart : MethodName := ⟨RX2, "hasPart", "(II)Z"⟩
def RX3 : String := "SmokeRoofs$Tally"
def TX3 : u_T := fun k => match k with
  | 0 => ("SmokeRoofs$Tally", "settled", "I", false)
  | 1 => ("SmokeRoofs$Tally", "coins", "[I", true)
  | 2 => ("SmokeRoofs$Tally", "onRoofs", "[I", true)
  | _ => ("SmokeRoofs$Tally", "dirt", "[I", true)
def tyX3 : Nat → FieldType := fun k => match k with
  | 0 => .int
  | 1 => .array .int
  | 2 => .array .int
  | _ => .array .int
abbrev wsX30 : List Cond := u_ws RX3 TX3 4
theorem nmX3 : ∀ a, a < 4 → ∀ b, b < 4 → a ≠ b → (TX3 a).2.1 ≠ (TX3 b).2.1 := by decide +kernel
theorem tyX3_ok : ∀ k, k < 4 → parseFieldDescriptor (TX3 k).2.2.1 = some (tyX3 k) := by decide +kernel
abbrev cX3_init : ByteArray := prog_5_method_1_code
def yX3_init : MethodName := ⟨RX3, "<init>", "()V"⟩
abbrev cX3_begin : ByteArray := prog_5_method_2_code
def yX3_begin : MethodName := ⟨RX3, "begin", "()V"⟩
abbrev cX3_add : ByteArray := prog_5_method_3_code
def yX3_add : MethodName := ⟨RX3, "add", "(IIII)V"⟩
def RX4 : String := "SmokeRoofs$Tape"
def TX4 : u_T := fun k => match k with
  | 0 => ("SmokeRoofs$Tape", "bytes", "[I", true)
  | 1 => ("SmokeRoofs$Tape", "length", "I", false)
  | 2 => ("SmokeRoofs$Tape", "fault", "I", false)
  | 3 => ("SmokeRoofs$Tape", "sort", "I", false)
  | 4 => ("SmokeRoofs$Tape", "start", "I", false)
  | _ => ("SmokeRoofs$Tape", "place", "I", false)
def tyX4 : Nat → FieldType := fun k => match k with
  | 0 => .array .int
  | 1 => .int
  | 2 => .int
  | 3 => .int
  | 4 => .int
  | _ => .int
abbrev wsX40 : List Cond := u_ws RX4 TX4 6
theorem nmX4 : ∀ a, a < 6 → ∀ b, b < 6 → a ≠ b → (TX4 a).2.1 ≠ (TX4 b).2.1 := by decide +kernel
theorem tyX4_ok : ∀ k, k < 6 → parseFieldDescriptor (TX4 k).2.2.1 = some (tyX4 k) := by decide +kernel
abbrev cX4_init : ByteArray := prog_6_method_1_code
def yX4_init : MethodName := ⟨RX4, "<init>", "()V"⟩
abbrev cX4_rewind : ByteArray := prog_6_method_2_code
def yX4_rewind : MethodName := ⟨RX4, "rewind", "()V"⟩
abbrev cX4_next : ByteArray := prog_6_method_3_code
def yX4_next : MethodName := ⟨RX4, "next", "()V"⟩
abbrev cX4_sortOf : ByteArray := prog_6_method_4_code
def yX4_sortOf : MethodName := ⟨RX4, "sortOf", "(I)I"⟩
abbrev cX4_numberAtHand : ByteArray := prog_6_method_5_code
def yX4_numberAtHand : MethodName := ⟨RX4, "numberAtHand", "()I"⟩
abbrev cX4_hasFault : ByteArray := prog_6_method_6_code
def yX4_hasFault : MethodName := ⟨RX4, "hasFault", "()Z"⟩
abbrev cX4_fail : ByteArray := prog_6_method_7_code
def yX4_fail : MethodName := ⟨RX4, "fail", "()V"⟩
abbrev cX4_isWord : ByteArray := prog_6_method_8_code
def yX4_isWord : MethodName := ⟨RX4, "isWord", "(Ljava/lang/String;)Z"⟩
abbrev cX4_passWord : ByteArray := prog_6_method_9_code
def yX4_passWord : MethodName := ⟨RX4, "passWord", "(Ljava/lang/String;)Z"⟩
abbrev cX4_passSign : ByteArray := prog_6_method_10_code
def yX4_passSign : MethodName := ⟨RX4, "passSign", "()Z"⟩
abbrev cX4_needWord : ByteArray := prog_6_method_11_code
def yX4_needWord : MethodName := ⟨RX4, "needWord", "(Ljava/lang/String;)V"⟩
abbrev cX4_needNumber : ByteArray := prog_6_method_12_code
def yX4_needNumber : MethodName := ⟨RX4, "needNumber", "(I)I"⟩
def RX5 : String := "SmokeRoofs$Town"
def TX5 : u_T := fun k => match k with
  | 0 => ("SmokeRoofs$Town", "hour", "I", false)
  | 1 => ("SmokeRoofs$Town", "z", "I", false)
  | 2 => ("SmokeRoofs$Town", "chimneyCount", "I", false)
  | 3 => ("SmokeRoofs$Town", "roofs", "[I", true)
  | 4 => ("SmokeRoofs$Town", "winds", "[I", true)
  | 5 => ("SmokeRoofs$Town", "books", "[I", true)
  | 6 => ("SmokeRoofs$Town", "spots", "[I", true)
  | _ => ("SmokeRoofs$Town", "chimneys", "[LSmokeRoofs$Chimney;", true)
def tyX5 : Nat → FieldType := fun k => match k with
  | 0 => .int
  | 1 => .int
  | 2 => .int
  | 3 => .array .int
  | 4 => .array .int
  | 5 => .array .int
  | 6 => .array .int
  | _ => .array (.object "SmokeRoofs$Chimney")
abbrev wsX50 : List Cond := u_ws RX5 TX5 8
theorem nmX5 : ∀ a, a < 8 → ∀ b, b < 8 → a ≠ b → (TX5 a).2.1 ≠ (TX5 b).2.1 := by decide +kernel
theorem tyX5_ok : ∀ k, k < 8 → parseFieldDescriptor (TX5 k).2.2.1 = some (tyX5 k) := by decide +kernel
abbrev cX5_init : ByteArray := prog_7_method_1_code
def yX5_init : MethodName := ⟨RX5, "<init>", "()V"⟩
abbrev cX5_take : ByteArray := prog_7_method_2_code
def yX5_take : MethodName := ⟨RX5, "take", "(LSmokeRoofs$Town;)V"⟩
abbrev cX5_isFull : ByteArray := prog_7_method_3_code
def yX5_isFull : MethodName := ⟨RX5, "isFull", "()Z"⟩
abbrev cX5_raise : ByteArray := prog_7_method_4_code
def yX5_raise : MethodName := ⟨RX5, "raise", "(III)I"⟩
abbrev cX5_aloftOver : ByteArray := prog_7_method_5_code
def yX5_aloftOver : MethodName := ⟨RX5, "aloftOver", "(I)I"⟩
abbrev cX5_draw : ByteArray := prog_7_method_6_code
def yX5_draw : MethodName := ⟨RX5, "draw", "()I"⟩
abbrev cX5_playHours : ByteArray := prog_7_method_7_code
def yX5_playHours : MethodName := ⟨RX5, "playHours", "(LSmokeRoofs$Chimney;IILSmokeRoofs$Tally;)V"⟩
abbrev cX5_playClock : ByteArray := prog_7_method_8_code
def yX5_playClock : MethodName := ⟨RX5, "playClock", "(LSmokeRoofs$Chimney;IZLSmokeRoofs$Tally;)V"⟩
abbrev cX5_cellBehind : ByteArray := prog_7_method_9_code
def yX5_cellBehind : MethodName := ⟨RX5, "cellBehind", "(III)I"⟩
def RX6 : String := "SmokeRoofs"
def TX6 : u_T := fun k => match k with
  | 0 => ("SmokeRoofs", "town", "LSmokeRoofs$Town;", true)
  | 1 => ("SmokeRoofs", "kept", "LSmokeRoofs$Town;", true)
  | 2 => ("SmokeRoofs", "isKept", "Z", false)
  | 3 => ("SmokeRoofs", "reader", "LSmokeRoofs$Reader;", true)
  | 4 => ("SmokeRoofs", "sheets", "[LSmokeRoofs$Sheet;", true)
  | 5 => ("SmokeRoofs", "findings", "[I", true)
  | 6 => ("SmokeRoofs", "trial", "LSmokeRoofs$Chimney;", true)
  | 7 => ("SmokeRoofs", "tally", "LSmokeRoofs$Tally;", true)
  | 8 => ("SmokeRoofs", "coinsBefore", "[I", true)
  | 9 => ("SmokeRoofs", "dirtLit", "[I", true)
  | 10 => ("SmokeRoofs", "dirtOut", "[I", true)
  | 11 => ("SmokeRoofs", "settledByHour", "[I", true)
  | _ => ("SmokeRoofs", "costs", "[I", true)
def tyX6 : Nat → FieldType := fun k => match k with
  | 0 => .object "SmokeRoofs$Town"
  | 1 => .object "SmokeRoofs$Town"
  | 2 => .boolean
  | 3 => .object "SmokeRoofs$Reader"
  | 4 => .array (.object "SmokeRoofs$Sheet")
  | 5 => .array .int
  | 6 => .object "SmokeRoofs$Chimney"
  | 7 => .object "SmokeRoofs$Tally"
  | 8 => .array .int
  | 9 => .array .int
  | 10 => .array .int
  | 11 => .array .int
  | _ => .array .int
abbrev wsX60 : List Cond := u_ws RX6 TX6 13
theorem nmX6 : ∀ a, a < 13 → ∀ b, b < 13 → a ≠ b → (TX6 a).2.1 ≠ (TX6 b).2.1 := by decide +kernel
theorem tyX6_ok : ∀ k, k < 13 → parseFieldDescriptor (TX6 k).2.2.1 = some (tyX6 k) := by decide +kernel
abbrev cX6_init : ByteArray := prog_1_method_1_code
def yX6_init : MethodName := ⟨RX6, "<init>", "()V"⟩
abbrev cX6_roof : ByteArray := prog_1_method_2_code
def yX6_roof : MethodName := ⟨RX6, "roof", "(II)I"⟩
abbrev cX6_wind : ByteArray := prog_1_method_3_code
def yX6_wind : MethodName := ⟨RX6, "wind", "(II)I"⟩
abbrev cX6_chimney : ByteArray := prog_1_method_4_code
def yX6_chimney : MethodName := ⟨RX6, "chimney", "(III)I"⟩
abbrev cX6_of : ByteArray := prog_1_method_5_code
def yX6_of : MethodName := ⟨RX6, "of", "(II)I"⟩
abbrev cX6_change : ByteArray := prog_1_method_6_code
def yX6_change : MethodName := ⟨RX6, "change", "(III)I"⟩
abbrev cX6_book : ByteArray := prog_1_method_7_code
def yX6_book : MethodName := ⟨RX6, "book", "(I)I"⟩
abbrev cX6_strike : ByteArray := prog_1_method_8_code
def yX6_strike : MethodName := ⟨RX6, "strike", "()I"⟩
abbrev cX6_air : ByteArray := prog_1_method_9_code
def yX6_air : MethodName := ⟨RX6, "air", "(II)I"⟩
abbrev cX6_settled : ByteArray := prog_1_method_10_code
def yX6_settled : MethodName := ⟨RX6, "settled", "(II)I"⟩
abbrev cX6_parts : ByteArray := prog_1_method_11_code
def yX6_parts : MethodName := ⟨RX6, "parts", "(II)I"⟩
abbrev cX6_thickest : ByteArray := prog_1_method_12_code
def yX6_thickest : MethodName := ⟨RX6, "thickest", "()I"⟩
abbrev cX6_touched : ByteArray := prog_1_method_13_code
def yX6_touched : MethodName := ⟨RX6, "touched", "(I)I"⟩
abbrev cX6_hours : ByteArray := prog_1_method_14_code
def yX6_hours : MethodName := ⟨RX6, "hours", "(I)I"⟩
abbrev cX6_ahead : ByteArray := prog_1_method_15_code
def yX6_ahead : MethodName := ⟨RX6, "ahead", "(II)I"⟩
abbrev cX6_clear : ByteArray := prog_1_method_16_code
def yX6_clear : MethodName := ⟨RX6, "clear", "(I)I"⟩
abbrev cX6_reaches : ByteArray := prog_1_method_17_code
def yX6_reaches : MethodName := ⟨RX6, "reaches", "(II)I"⟩
abbrev cX6_place : ByteArray := prog_1_method_18_code
def yX6_place : MethodName := ⟨RX6, "place", "(II)I"⟩
abbrev cX6_highFor : ByteArray := prog_1_method_19_code
def yX6_highFor : MethodName := ⟨RX6, "highFor", "(II)I"⟩
abbrev cX6_gains : ByteArray := prog_1_method_20_code
def yX6_gains : MethodName := ⟨RX6, "gains", "(II)I"⟩
abbrev cX6_when : ByteArray := prog_1_method_21_code
def yX6_when : MethodName := ⟨RX6, "when", "(III)I"⟩
abbrev cX6_build : ByteArray := prog_1_method_22_code
def yX6_build : MethodName := ⟨RX6, "build", "(II)I"⟩
abbrev cX6_washing : ByteArray := prog_1_method_23_code
def yX6_washing : MethodName := ⟨RX6, "washing", "(II)I"⟩
abbrev cX6_worst : ByteArray := prog_1_method_24_code
def yX6_worst : MethodName := ⟨RX6, "worst", "(II)I"⟩
abbrev cX6_over : ByteArray := prog_1_method_25_code
def yX6_over : MethodName := ⟨RX6, "over", "(I)I"⟩
abbrev cX6_canHave : ByteArray := prog_1_method_26_code
def yX6_canHave : MethodName := ⟨RX6, "canHave", "(IIII)I"⟩
abbrev cX6_clocks : ByteArray := prog_1_method_27_code
def yX6_clocks : MethodName := ⟨RX6, "clocks", "(III)I"⟩
abbrev cX6_weather : ByteArray := prog_1_method_28_code
def yX6_weather : MethodName := ⟨RX6, "weather", "(I)I"⟩
abbrev cX6_seed : ByteArray := prog_1_method_29_code
def yX6_seed : MethodName := ⟨RX6, "seed", "(I)I"⟩
abbrev cX6_feed : ByteArray := prog_1_method_30_code
def yX6_feed : MethodName := ⟨RX6, "feed", "(II)I"⟩
abbrev cX6_wipe : ByteArray := prog_1_method_31_code
def yX6_wipe : MethodName := ⟨RX6, "wipe", "()I"⟩
abbrev cX6_text : ByteArray := prog_1_method_32_code
def yX6_text : MethodName := ⟨RX6, "text", "()I"⟩
abbrev cX6_hold : ByteArray := prog_1_method_33_code
def yX6_hold : MethodName := ⟨RX6, "hold", "(II)I"⟩
abbrev cX6_as : ByteArray := prog_1_method_34_code
def yX6_as : MethodName := ⟨RX6, "as", "(II)I"⟩
abbrev cX6_sheet : ByteArray := prog_1_method_35_code
def yX6_sheet : MethodName := ⟨RX6, "sheet", "(III)I"⟩
abbrev cX6_write : ByteArray := prog_1_method_36_code
def yX6_write : MethodName := ⟨RX6, "write", "(III)I"⟩
abbrev cX6_copy : ByteArray := prog_1_method_37_code
def yX6_copy : MethodName := ⟨RX6, "copy", "(IIIII)I"⟩
abbrev cX6_load : ByteArray := prog_1_method_38_code
def yX6_load : MethodName := ⟨RX6, "load", "(I)I"⟩
abbrev cX6_judge : ByteArray := prog_1_method_39_code
def yX6_judge : MethodName := ⟨RX6, "judge", "(I)I"⟩
abbrev cX6_image : ByteArray := prog_1_method_40_code
def yX6_image : MethodName := ⟨RX6, "image", "()I"⟩
abbrev cX6_undo : ByteArray := prog_1_method_41_code
def yX6_undo : MethodName := ⟨RX6, "undo", "()I"⟩
abbrev cX6_tear : ByteArray := prog_1_method_42_code
def yX6_tear : MethodName := ⟨RX6, "tear", "()I"⟩
abbrev cX6_count : ByteArray := prog_1_method_43_code
def yX6_count : MethodName := ⟨RX6, "count", "(I)I"⟩
abbrev cX6_status : ByteArray := prog_1_method_44_code
def yX6_status : MethodName := ⟨RX6, "status", "(I)I"⟩
abbrev cX6_finding : ByteArray := prog_1_method_45_code
def yX6_finding : MethodName := ⟨RX6, "finding", "(I)I"⟩
abbrev cX6_isIn : ByteArray := prog_1_method_46_code
def yX6_isIn : MethodName := ⟨RX6, "isIn", "(III)Z"⟩
abbrev cX6_isCell : ByteArray := prog_1_method_47_code
def yX6_isCell : MethodName := ⟨RX6, "isCell", "(I)Z"⟩
abbrev cX6_isCellOrAll : ByteArray := prog_1_method_48_code
def yX6_isCellOrAll : MethodName := ⟨RX6, "isCellOrAll", "(I)Z"⟩
abbrev cX6_isOwner : ByteArray := prog_1_method_49_code
def yX6_isOwner : MethodName := ⟨RX6, "isOwner", "(I)Z"⟩
abbrev cX6_isKind : ByteArray := prog_1_method_50_code
def yX6_isKind : MethodName := ⟨RX6, "isKind", "(I)Z"⟩
abbrev cX6_isSpot : ByteArray := prog_1_method_51_code
def yX6_isSpot : MethodName := ⟨RX6, "isSpot", "(I)Z"⟩
abbrev cX6_isSheet : ByteArray := prog_1_method_52_code
def yX6_isSheet : MethodName := ⟨RX6, "isSheet", "(I)Z"⟩
abbrev cX6_isChimney : ByteArray := prog_1_method_53_code
def yX6_isChimney : MethodName := ⟨RX6, "isChimney", "(I)Z"⟩
abbrev cX6_isChimneyOrAll : ByteArray := prog_1_method_54_code
def yX6_isChimneyOrAll : MethodName := ⟨RX6, "isChimneyOrAll", "(I)Z"⟩
abbrev cX6_lastOf : ByteArray := prog_1_method_55_code
def yX6_lastOf : MethodName := ⟨RX6, "lastOf", "(I)I"⟩
abbrev cX6_hasHours : ByteArray := prog_1_method_56_code
def yX6_hasHours : MethodName := ⟨RX6, "hasHours", "(I)Z"⟩
abbrev cX6_isUnder : ByteArray := prog_1_method_57_code
def yX6_isUnder : MethodName := ⟨RX6, "isUnder", "(II)Z"⟩
abbrev cX6_partsOver : ByteArray := prog_1_method_58_code
def yX6_partsOver : MethodName := ⟨RX6, "partsOver", "([II)I"⟩
abbrev cX6_notBelowZero : ByteArray := prog_1_method_59_code
def yX6_notBelowZero : MethodName := ⟨RX6, "notBelowZero", "([I)I"⟩
abbrev cX6_playWith : ByteArray := prog_1_method_60_code
def yX6_playWith : MethodName := ⟨RX6, "playWith", "(IIII)V"⟩
abbrev cX6_richest : ByteArray := prog_1_method_61_code
def yX6_richest : MethodName := ⟨RX6, "richest", "(III)I"⟩
abbrev cX6_playCosts : ByteArray := prog_1_method_62_code
def yX6_playCosts : MethodName := ⟨RX6, "playCosts", "(II)V"⟩
abbrev cX6_addCosts : ByteArray := prog_1_method_63_code
def yX6_addCosts : MethodName := ⟨RX6, "addCosts", "(LSmokeRoofs$Chimney;)V"⟩
abbrev cX6_playDirt : ByteArray := prog_1_method_64_code
def yX6_playDirt : MethodName := ⟨RX6, "playDirt", "(II)V"⟩
abbrev cX6_dirtWith : ByteArray := prog_1_method_65_code
def yX6_dirtWith : MethodName := ⟨RX6, "dirtWith", "(I)I"⟩
abbrev cX6_fireOf : ByteArray := prog_1_method_66_code
def yX6_fireOf : MethodName := ⟨RX6, "fireOf", "(I)I"⟩
abbrev cX6_playAlone : ByteArray := prog_1_method_67_code
def yX6_playAlone : MethodName := ⟨RX6, "playAlone", "(III)V"⟩
abbrev cX6_playByHour : ByteArray := prog_1_method_68_code
def yX6_playByHour : MethodName := ⟨RX6, "playByHour", "(I)V"⟩
def RX7 : String := "SmokeRoofsModel"
def TX7 : u_T := fun k => match k with
  | 0 => ("SmokeRoofsModel", "s", "[I", true)
  | 1 => ("SmokeRoofsModel", "keptS", "[I", true)
  | 2 => ("SmokeRoofsModel", "other", "[I", true)
  | 3 => ("SmokeRoofsModel", "statuses", "[I", true)
  | 4 => ("SmokeRoofsModel", "isKept", "Z", false)
  | 5 => ("SmokeRoofsModel", "moved", "[I", true)
  | 6 => ("SmokeRoofsModel", "dirt", "[I", true)
  | 7 => ("SmokeRoofsModel", "lookedAt", "I", false)
  | 8 => ("SmokeRoofsModel", "lookedFor", "I", false)
  | 9 => ("SmokeRoofsModel", "isReached", "Z", false)
  | 10 => ("SmokeRoofsModel", "books", "[I", true)
  | 11 => ("SmokeRoofsModel", "tape", "[I", true)
  | 12 => ("SmokeRoofsModel", "taped", "I", false)
  | 13 => ("SmokeRoofsModel", "from", "I", false)
  | 14 => ("SmokeRoofsModel", "to", "I", false)
  | 15 => ("SmokeRoofsModel", "value", "I", false)
  | 16 => ("SmokeRoofsModel", "isWrong", "Z", false)
  | 17 => ("SmokeRoofsModel", "bitsOf", "[I", true)
  | 18 => ("SmokeRoofsModel", "sizeOf", "[I", true)
  | 19 => ("SmokeRoofsModel", "number", "[I", true)
  | _ => ("SmokeRoofsModel", "shifted", "[I", true)
def tyX7 : Nat → FieldType := fun k => match k with
  | 0 => .array .int
  | 1 => .array .int
  | 2 => .array .int
  | 3 => .array .int
  | 4 => .boolean
  | 5 => .array .int
  | 6 => .array .int
  | 7 => .int
  | 8 => .int
  | 9 => .boolean
  | 10 => .array .int
  | 11 => .array .int
  | 12 => .int
  | 13 => .int
  | 14 => .int
  | 15 => .int
  | 16 => .boolean
  | 17 => .array .int
  | 18 => .array .int
  | 19 => .array .int
  | _ => .array .int
abbrev wsX70 : List Cond := u_ws RX7 TX7 21
theorem nmX7 : ∀ a, a < 21 → ∀ b, b < 21 → a ≠ b → (TX7 a).2.1 ≠ (TX7 b).2.1 := by decide +kernel
theorem tyX7_ok : ∀ k, k < 21 → parseFieldDescriptor (TX7 k).2.2.1 = some (tyX7 k) := by decide +kernel
abbrev cX7_init : ByteArray := prog_9_method_1_code
def yX7_init : MethodName := ⟨RX7, "<init>", "()V"⟩
abbrev cX7_in : ByteArray := prog_9_method_2_code
def yX7_in : MethodName := ⟨RX7, "in", "(JJJ)Z"⟩
abbrev cX7_finds : ByteArray := prog_9_method_3_code
def yX7_finds : MethodName := ⟨RX7, "finds", "(I)I"⟩
abbrev cX7_isCell : ByteArray := prog_9_method_4_code
def yX7_isCell : MethodName := ⟨RX7, "isCell", "(I)Z"⟩
abbrev cX7_isOwner : ByteArray := prog_9_method_5_code
def yX7_isOwner : MethodName := ⟨RX7, "isOwner", "(I)Z"⟩
abbrev cX7_isClock : ByteArray := prog_9_method_6_code
def yX7_isClock : MethodName := ⟨RX7, "isClock", "(I)Z"⟩
abbrev cX7_isChimney : ByteArray := prog_9_method_7_code
def yX7_isChimney : MethodName := ⟨RX7, "isChimney", "(I)Z"⟩
abbrev cX7_has : ByteArray := prog_9_method_8_code
def yX7_has : MethodName := ⟨RX7, "has", "(II)Z"⟩
abbrev cX7_next : ByteArray := prog_9_method_9_code
def yX7_next : MethodName := ⟨RX7, "next", "()I"⟩
abbrev cX7_puts : ByteArray := prog_9_method_10_code
def yX7_puts : MethodName := ⟨RX7, "puts", "()V"⟩
abbrev cX7_putsBack : ByteArray := prog_9_method_11_code
def yX7_putsBack : MethodName := ⟨RX7, "putsBack", "()V"⟩
abbrev cX7_roof : ByteArray := prog_9_method_12_code
def yX7_roof : MethodName := ⟨RX7, "roof", "(II)I"⟩
abbrev cX7_wind : ByteArray := prog_9_method_13_code
def yX7_wind : MethodName := ⟨RX7, "wind", "(II)I"⟩
abbrev cX7_at : ByteArray := prog_9_method_14_code
def yX7_at : MethodName := ⟨RX7, "at", "(II)I"⟩
abbrev cX7_its : ByteArray := prog_9_method_15_code
def yX7_its : MethodName := ⟨RX7, "its", "(II)I"⟩
abbrev cX7_newChimney : ByteArray := prog_9_method_16_code
def yX7_newChimney : MethodName := ⟨RX7, "newChimney", "(III)I"⟩
abbrev cX7_mostOf : ByteArray := prog_9_method_17_code
def yX7_mostOf : MethodName := ⟨RX7, "mostOf", "(I)I"⟩
abbrev cX7_chimney : ByteArray := prog_9_method_18_code
def yX7_chimney : MethodName := ⟨RX7, "chimney", "(III)I"⟩
abbrev cX7_burnsAt : ByteArray := prog_9_method_19_code
def yX7_burnsAt : MethodName := ⟨RX7, "burnsAt", "(II)I"⟩
abbrev cX7_worth : ByteArray := prog_9_method_20_code
def yX7_worth : MethodName := ⟨RX7, "worth", "(I)I"⟩
abbrev cX7_sooty : ByteArray := prog_9_method_21_code
def yX7_sooty : MethodName := ⟨RX7, "sooty", "(I)I"⟩
abbrev cX7_isLit : ByteArray := prog_9_method_22_code
def yX7_isLit : MethodName := ⟨RX7, "isLit", "(II)Z"⟩
abbrev cX7_burns : ByteArray := prog_9_method_23_code
def yX7_burns : MethodName := ⟨RX7, "burns", "(II)I"⟩
abbrev cX7_of : ByteArray := prog_9_method_24_code
def yX7_of : MethodName := ⟨RX7, "of", "(II)I"⟩
abbrev cX7_change : ByteArray := prog_9_method_25_code
def yX7_change : MethodName := ⟨RX7, "change", "(III)I"⟩
abbrev cX7_book : ByteArray := prog_9_method_26_code
def yX7_book : MethodName := ⟨RX7, "book", "(I)I"⟩
abbrev cX7_strike : ByteArray := prog_9_method_27_code
def yX7_strike : MethodName := ⟨RX7, "strike", "()I"⟩
abbrev cX7_sums : ByteArray := prog_9_method_28_code
def yX7_sums : MethodName := ⟨RX7, "sums", "(III)I"⟩
abbrev cX7_air : ByteArray := prog_9_method_29_code
def yX7_air : MethodName := ⟨RX7, "air", "(II)I"⟩
abbrev cX7_settled : ByteArray := prog_9_method_30_code
def yX7_settled : MethodName := ⟨RX7, "settled", "(II)I"⟩
abbrev cX7_parts : ByteArray := prog_9_method_31_code
def yX7_parts : MethodName := ⟨RX7, "parts", "(II)I"⟩
abbrev cX7_thickest : ByteArray := prog_9_method_32_code
def yX7_thickest : MethodName := ⟨RX7, "thickest", "()I"⟩
abbrev cX7_touched : ByteArray := prog_9_method_33_code
def yX7_touched : MethodName := ⟨RX7, "touched", "(I)I"⟩
abbrev cX7_carried : ByteArray := prog_9_method_34_code
def yX7_carried : MethodName := ⟨RX7, "carried", "(II)I"⟩
abbrev cX7_goes : ByteArray := prog_9_method_35_code
def yX7_goes : MethodName := ⟨RX7, "goes", "(II)V"⟩
abbrev cX7_settles : ByteArray := prog_9_method_36_code
def yX7_settles : MethodName := ⟨RX7, "settles", "(I)I"⟩
abbrev cX7_hour : ByteArray := prog_9_method_37_code
def yX7_hour : MethodName := ⟨RX7, "hour", "()I"⟩
abbrev cX7_hoursGo : ByteArray := prog_9_method_38_code
def yX7_hoursGo : MethodName := ⟨RX7, "hoursGo", "(I)I"⟩
abbrev cX7_isTooFar : ByteArray := prog_9_method_39_code
def yX7_isTooFar : MethodName := ⟨RX7, "isTooFar", "(I)Z"⟩
abbrev cX7_hours : ByteArray := prog_9_method_40_code
def yX7_hours : MethodName := ⟨RX7, "hours", "(I)I"⟩
abbrev cX7_allOf : ByteArray := prog_9_method_41_code
def yX7_allOf : MethodName := ⟨RX7, "allOf", "(I)I"⟩
abbrev cX7_ahead : ByteArray := prog_9_method_42_code
def yX7_ahead : MethodName := ⟨RX7, "ahead", "(II)I"⟩
abbrev cX7_clear : ByteArray := prog_9_method_43_code
def yX7_clear : MethodName := ⟨RX7, "clear", "(I)I"⟩
abbrev cX7_reaches : ByteArray := prog_9_method_44_code
def yX7_reaches : MethodName := ⟨RX7, "reaches", "(II)I"⟩
abbrev cX7_bookBehind : ByteArray := prog_9_method_45_code
def yX7_bookBehind : MethodName := ⟨RX7, "bookBehind", "(II)I"⟩
abbrev cX7_dirtIn : ByteArray := prog_9_method_46_code
def yX7_dirtIn : MethodName := ⟨RX7, "dirtIn", "(II)I"⟩
abbrev cX7_isDay : ByteArray := prog_9_method_47_code
def yX7_isDay : MethodName := ⟨RX7, "isDay", "(I)Z"⟩
abbrev cX7_bestPart : ByteArray := prog_9_method_48_code
def yX7_bestPart : MethodName := ⟨RX7, "bestPart", "(III)I"⟩
abbrev cX7_place : ByteArray := prog_9_method_49_code
def yX7_place : MethodName := ⟨RX7, "place", "(II)I"⟩
abbrev cX7_highFor : ByteArray := prog_9_method_50_code
def yX7_highFor : MethodName := ⟨RX7, "highFor", "(II)I"⟩
abbrev cX7_gains : ByteArray := prog_9_method_51_code
def yX7_gains : MethodName := ⟨RX7, "gains", "(II)I"⟩
abbrev cX7_when : ByteArray := prog_9_method_52_code
def yX7_when : MethodName := ⟨RX7, "when", "(III)I"⟩
abbrev cX7_build : ByteArray := prog_9_method_53_code
def yX7_build : MethodName := ⟨RX7, "build", "(II)I"⟩
abbrev cX7_washing : ByteArray := prog_9_method_54_code
def yX7_washing : MethodName := ⟨RX7, "washing", "(II)I"⟩
abbrev cX7_worst : ByteArray := prog_9_method_55_code
def yX7_worst : MethodName := ⟨RX7, "worst", "(II)I"⟩
abbrev cX7_over : ByteArray := prog_9_method_56_code
def yX7_over : MethodName := ⟨RX7, "over", "(I)I"⟩
abbrev cX7_isUnder : ByteArray := prog_9_method_57_code
def yX7_isUnder : MethodName := ⟨RX7, "isUnder", "(II)Z"⟩
abbrev cX7_canHave : ByteArray := prog_9_method_58_code
def yX7_canHave : MethodName := ⟨RX7, "canHave", "(IIII)I"⟩
abbrev cX7_clocks : ByteArray := prog_9_method_59_code
def yX7_clocks : MethodName := ⟨RX7, "clocks", "(III)I"⟩
abbrev cX7_weather : ByteArray := prog_9_method_60_code
def yX7_weather : MethodName := ⟨RX7, "weather", "(I)I"⟩
abbrev cX7_seed : ByteArray := prog_9_method_61_code
def yX7_seed : MethodName := ⟨RX7, "seed", "(I)I"⟩
abbrev cX7_feed : ByteArray := prog_9_method_62_code
def yX7_feed : MethodName := ⟨RX7, "feed", "(II)I"⟩
abbrev cX7_wipe : ByteArray := prog_9_method_63_code
def yX7_wipe : MethodName := ⟨RX7, "wipe", "()I"⟩
abbrev cX7_byteAt : ByteArray := prog_9_method_64_code
def yX7_byteAt : MethodName := ⟨RX7, "byteAt", "(I)I"⟩
abbrev cX7_isLetter : ByteArray := prog_9_method_65_code
def yX7_isLetter : MethodName := ⟨RX7, "isLetter", "(I)Z"⟩
abbrev cX7_isDigit : ByteArray := prog_9_method_66_code
def yX7_isDigit : MethodName := ⟨RX7, "isDigit", "(I)Z"⟩
abbrev cX7_token : ByteArray := prog_9_method_67_code
def yX7_token : MethodName := ⟨RX7, "token", "()V"⟩
abbrev cX7_needs : ByteArray := prog_9_method_68_code
def yX7_needs : MethodName := ⟨RX7, "needs", "(Z)V"⟩
abbrev cX7_word : ByteArray := prog_9_method_69_code
def yX7_word : MethodName := ⟨RX7, "word", "()J"⟩
abbrev cX7_number : ByteArray := prog_9_method_70_code
def yX7_number : MethodName := ⟨RX7, "number", "(II)V"⟩
abbrev cX7_kindHere : ByteArray := prog_9_method_71_code
def yX7_kindHere : MethodName := ⟨RX7, "kindHere", "()I"⟩
abbrev cX7_perhaps : ByteArray := prog_9_method_72_code
def yX7_perhaps : MethodName := ⟨RX7, "perhaps", "(ZII)I"⟩
abbrev cX7_chimneyItem : ByteArray := prog_9_method_73_code
def yX7_chimneyItem : MethodName := ⟨RX7, "chimneyItem", "(I)V"⟩
abbrev cX7_roofItem : ByteArray := prog_9_method_74_code
def yX7_roofItem : MethodName := ⟨RX7, "roofItem", "()V"⟩
abbrev cX7_windItem : ByteArray := prog_9_method_75_code
def yX7_windItem : MethodName := ⟨RX7, "windItem", "()V"⟩
abbrev cX7_item : ByteArray := prog_9_method_76_code
def yX7_item : MethodName := ⟨RX7, "item", "()V"⟩
abbrev cX7_text : ByteArray := prog_9_method_77_code
def yX7_text : MethodName := ⟨RX7, "text", "()I"⟩
abbrev cX7_hold : ByteArray := prog_9_method_78_code
def yX7_hold : MethodName := ⟨RX7, "hold", "(II)I"⟩
abbrev cX7_as : ByteArray := prog_9_method_79_code
def yX7_as : MethodName := ⟨RX7, "as", "(II)I"⟩
abbrev cX7_isOne : ByteArray := prog_9_method_80_code
def yX7_isOne : MethodName := ⟨RX7, "isOne", "(I)Z"⟩
abbrev cX7_sheet : ByteArray := prog_9_method_81_code
def yX7_sheet : MethodName := ⟨RX7, "sheet", "(III)I"⟩
abbrev cX7_narrowed : ByteArray := prog_9_method_82_code
def yX7_narrowed : MethodName := ⟨RX7, "narrowed", "(II)I"⟩
abbrev cX7_wrong : ByteArray := prog_9_method_83_code
def yX7_wrong : MethodName := ⟨RX7, "wrong", "(I)I"⟩
abbrev cX7_write : ByteArray := prog_9_method_84_code
def yX7_write : MethodName := ⟨RX7, "write", "(III)I"⟩
abbrev cX7_copy : ByteArray := prog_9_method_85_code
def yX7_copy : MethodName := ⟨RX7, "copy", "(IIIII)I"⟩
abbrev cX7_load : ByteArray := prog_9_method_86_code
def yX7_load : MethodName := ⟨RX7, "load", "(I)I"⟩
abbrev cX7_judge : ByteArray := prog_9_method_87_code
def yX7_judge : MethodName := ⟨RX7, "judge", "(I)I"⟩
abbrev cX7_image : ByteArray := prog_9_method_88_code
def yX7_image : MethodName := ⟨RX7, "image", "()I"⟩
abbrev cX7_undo : ByteArray := prog_9_method_89_code
def yX7_undo : MethodName := ⟨RX7, "undo", "()I"⟩
abbrev cX7_tear : ByteArray := prog_9_method_90_code
def yX7_tear : MethodName := ⟨RX7, "tear", "()I"⟩
abbrev cX7_count : ByteArray := prog_9_method_91_code
def yX7_count : MethodName := ⟨RX7, "count", "(I)I"⟩
abbrev cX7_status : ByteArray := prog_9_method_92_code
def yX7_status : MethodName := ⟨RX7, "status", "(I)I"⟩
def RJx145de : String := "java/io/Serializable"
def TJx145de : u_T := fun k => match k with
  | _ => ("", "", "", false)
def tyJx145de : Nat → FieldType := fun k => match k with
  | _ => .int
abbrev wsJx145de0 : List Cond := u_ws RJx145de TJx145de 0
theorem nmJx145de : ∀ a, a < 0 → ∀ b, b < 0 → a ≠ b → (TJx145de a).2.1 ≠ (TJx145de b).2.1 := by decide +kernel
theorem tyJx145de_ok : ∀ k, k < 0 → parseFieldDescriptor (TJx145de k).2.2.1 = some (tyJx145de k) := by decide +kernel
def RJx9f9b0 : String := "java/lang/CharSequence"
def TJx9f9b0 : u_T := fun k => match k with
  | _ => ("", "", "", false)
def tyJx9f9b0 : Nat → FieldType := fun k => match k with
  | _ => .int
abbrev wsJx9f9b00 : List Cond := u_ws RJx9f9b0 TJx9f9b0 0
theorem nmJx9f9b0 : ∀ a, a < 0 → ∀ b, b < 0 → a ≠ b → (TJx9f9b0 a).2.1 ≠ (TJx9f9b0 b).2.1 := by decide +kernel
theorem tyJx9f9b0_ok : ∀ k, k < 0 → parseFieldDescriptor (TJx9f9b0 k).2.2.1 = some (tyJx9f9b0 k) := by decide +kernel
def RJxb160c : String := "java/lang/Comparable"
def TJxb160c : u_T := fun k => match k with
  | _ => ("", "", "", false)
def tyJxb160c : Nat → FieldType := fun k => match k with
  | _ => .int
abbrev wsJxb160c0 : List Cond := u_ws RJxb160c TJxb160c 0
theorem nmJxb160c : ∀ a, a < 0 → ∀ b, b < 0 → a ≠ b → (TJxb160c a).2.1 ≠ (TJxb160c b).2.1 := by decide +kernel
theorem tyJxb160c_ok : ∀ k, k < 0 → parseFieldDescriptor (TJxb160c k).2.2.1 = some (tyJxb160c k) := by decide +kernel
def RJ9 : String := "java/lang/Math"
def TJ9 : u_T := fun k => match k with
  | _ => ("", "", "", false)
def tyJ9 : Nat → FieldType := fun k => match k with
  | _ => .int
abbrev wsJ90 : List Cond := u_ws RJ9 TJ9 0
theorem nmJ9 : ∀ a, a < 0 → ∀ b, b < 0 → a ≠ b → (TJ9 a).2.1 ≠ (TJ9 b).2.1 := by decide +kernel
theorem tyJ9_ok : ∀ k, k < 0 → parseFieldDescriptor (TJ9 k).2.2.1 = some (tyJ9 k) := by decide +kernel
abbrev cJ9_floorMod_7cf53 : ByteArray := prog_10_method_50_code
def yJ9_floorMod_7cf53 : MethodName := ⟨RJ9, "floorMod", "(II)I"⟩
abbrev cJ9_max_7cf53 : ByteArray := prog_10_method_65_code
def yJ9_max_7cf53 : MethodName := ⟨RJ9, "max", "(II)I"⟩
abbrev cJ9_min_7cf53 : ByteArray := prog_10_method_69_code
def yJ9_min_7cf53 : MethodName := ⟨RJ9, "min", "(II)I"⟩
def RJ0 : String := "java/lang/String"
def TJ0 : u_T := fun k => match k with
  | _ => ("", "", "", false)
def tyJ0 : Nat → FieldType := fun k => match k with
  | _ => .int
abbrev wsJ00 : List Cond := u_ws RJ0 TJ0 0
theorem nmJ0 : ∀ a, a < 0 → ∀ b, b < 0 → a ≠ b → (TJ0 a).2.1 ≠ (TJ0 b).2.1 := by decide +kernel
theorem tyJ0_ok : ∀ k, k < 0 → parseFieldDescriptor (TJ0 k).2.2.1 = some (tyJ0 k) := by decide +kernel
abbrev cJ0_length_8abf5 : ByteArray := prog_11_method_54_code
def yJ0_length_8abf5 : MethodName := ⟨RJ0, "length", "()I"⟩
abbrev cJ0_charAt_5068e : ByteArray := prog_11_method_56_code
def yJ0_charAt_5068e : MethodName := ⟨RJ0, "charAt", "(I)C"⟩
abbrev cJ0_coder_7d493 : ByteArray := prog_11_method_152_code
def yJ0_coder_7d493 : MethodName := ⟨RJ0, "coder", "()B"⟩
abbrev cJ0_isLatin1_aae02 : ByteArray := prog_11_method_154_code
def yJ0_isLatin1_aae02 : MethodName := ⟨RJ0, "isLatin1", "()Z"⟩
abbrev cJ0_checkIndex_df160 : ByteArray := prog_11_method_155_code
def yJ0_checkIndex_df160 : MethodName := ⟨RJ0, "checkIndex", "(II)V"⟩
def RJ1 : String := "java/lang/StringLatin1"
def TJ1 : u_T := fun k => match k with
  | _ => ("", "", "", false)
def tyJ1 : Nat → FieldType := fun k => match k with
  | _ => .int
abbrev wsJ10 : List Cond := u_ws RJ1 TJ1 0
theorem nmJ1 : ∀ a, a < 0 → ∀ b, b < 0 → a ≠ b → (TJ1 a).2.1 ≠ (TJ1 b).2.1 := by decide +kernel
theorem tyJ1_ok : ∀ k, k < 0 → parseFieldDescriptor (TJ1 k).2.2.1 = some (tyJ1 k) := by decide +kernel
abbrev cJ1_charAt_3b067 : ByteArray := prog_12_method_2_code
def yJ1_charAt_3b067 : MethodName := ⟨RJ1, "charAt", "([BI)C"⟩
def RJ2 : String := "java/lang/StringUTF16"
def TJ2 : u_T := fun k => match k with
  | _ => ("", "", "", false)
def tyJ2 : Nat → FieldType := fun k => match k with
  | _ => .int
abbrev wsJ20 : List Cond := u_ws RJ2 TJ2 0
theorem nmJ2 : ∀ a, a < 0 → ∀ b, b < 0 → a ≠ b → (TJ2 a).2.1 ≠ (TJ2 b).2.1 := by decide +kernel
theorem tyJ2_ok : ∀ k, k < 0 → parseFieldDescriptor (TJ2 k).2.2.1 = some (tyJ2 k) := by decide +kernel
abbrev cJ2_getChar_3b067 : ByteArray := prog_13_method_5_code
def yJ2_getChar_3b067 : MethodName := ⟨RJ2, "getChar", "([BI)C"⟩
abbrev cJ2_length_9d52b : ByteArray := prog_13_method_6_code
def yJ2_length_9d52b : MethodName := ⟨RJ2, "length", "([B)I"⟩
abbrev cJ2_charAt_3b067 : ByteArray := prog_13_method_83_code
def yJ2_charAt_3b067 : MethodName := ⟨RJ2, "charAt", "([BI)C"⟩
abbrev cJ2_checkIndex_2214a : ByteArray := prog_13_method_91_code
def yJ2_checkIndex_2214a : MethodName := ⟨RJ2, "checkIndex", "(I[B)V"⟩
def RJ10 : String := "java/lang/System"
def TJ10 : u_T := fun k => match k with
  | _ => ("", "", "", false)
def tyJ10 : Nat → FieldType := fun k => match k with
  | _ => .int
abbrev wsJ100 : List Cond := u_ws RJ10 TJ10 0
theorem nmJ10 : ∀ a, a < 0 → ∀ b, b < 0 → a ≠ b → (TJ10 a).2.1 ≠ (TJ10 b).2.1 := by decide +kernel
theorem tyJ10_ok : ∀ k, k < 0 → parseFieldDescriptor (TJ10 k).2.2.1 = some (tyJ10 k) := by decide +kernel
def RJxfd54e : String := "java/lang/constant/Constable"
def TJxfd54e : u_T := fun k => match k with
  | _ => ("", "", "", false)
def tyJxfd54e : Nat → FieldType := fun k => match k with
  | _ => .int
abbrev wsJxfd54e0 : List Cond := u_ws RJxfd54e TJxfd54e 0
theorem nmJxfd54e : ∀ a, a < 0 → ∀ b, b < 0 → a ≠ b → (TJxfd54e a).2.1 ≠ (TJxfd54e b).2.1 := by decide +kernel
theorem tyJxfd54e_ok : ∀ k, k < 0 → parseFieldDescriptor (TJxfd54e k).2.2.1 = some (tyJxfd54e k) := by decide +kernel
def RJx3cf43 : String := "java/lang/constant/ConstantDesc"
def TJx3cf43 : u_T := fun k => match k with
  | _ => ("", "", "", false)
def tyJx3cf43 : Nat → FieldType := fun k => match k with
  | _ => .int
abbrev wsJx3cf430 : List Cond := u_ws RJx3cf43 TJx3cf43 0
theorem nmJx3cf43 : ∀ a, a < 0 → ∀ b, b < 0 → a ≠ b → (TJx3cf43 a).2.1 ≠ (TJx3cf43 b).2.1 := by decide +kernel
theorem tyJx3cf43_ok : ∀ k, k < 0 → parseFieldDescriptor (TJx3cf43 k).2.2.1 = some (tyJx3cf43 k) := by decide +kernel
def RJ7 : String := "java/util/Arrays"
def TJ7 : u_T := fun k => match k with
  | _ => ("", "", "", false)
def tyJ7 : Nat → FieldType := fun k => match k with
  | _ => .int
abbrev wsJ70 : List Cond := u_ws RJ7 TJ7 0
theorem nmJ7 : ∀ a, a < 0 → ∀ b, b < 0 → a ≠ b → (TJ7 a).2.1 ≠ (TJ7 b).2.1 := by decide +kernel
theorem tyJ7_ok : ∀ k, k < 0 → parseFieldDescriptor (TJ7 k).2.2.1 = some (tyJ7 k) := by decide +kernel
abbrev cJ7_fill_53178 : ByteArray := prog_15_method_103_code
def yJ7_fill_53178 : MethodName := ⟨RJ7, "fill", "([II)V"⟩
def RJ3 : String := "jdk/internal/util/Preconditions"
def TJ3 : u_T := fun k => match k with
  | _ => ("", "", "", false)
def tyJ3 : Nat → FieldType := fun k => match k with
  | _ => .int
abbrev wsJ30 : List Cond := u_ws RJ3 TJ3 0
theorem nmJ3 : ∀ a, a < 0 → ∀ b, b < 0 → a ≠ b → (TJ3 a).2.1 ≠ (TJ3 b).2.1 := by decide +kernel
theorem tyJ3_ok : ∀ k, k < 0 → parseFieldDescriptor (TJ3 k).2.2.1 = some (tyJ3 k) := by decide +kernel
abbrev cJ3_checkIndex_8e157 : ByteArray := prog_16_method_11_code
def yJ3_checkIndex_8e157 : MethodName := ⟨RJ3, "checkIndex", "(IILjava/util/function/BiFunction;)I"⟩
def RL : String := "SmokeRoofsLaw"
abbrev cL_law : ByteArray := code
def yL_law : MethodName := ⟨RL, "law", "([I)Z"⟩
abbrev vwCl : List vw_C := [(RX0, TX0, 6), (RX1, TX1, 3), (RX2, TX2, 3), (RX3, TX3, 4), (RX4, TX4, 6), (RX5, TX5, 8), (RX6, TX6, 13), (RX7, TX7, 21)]
end
section
/-! tables of the class: static arrays, String constants, links of nest mates (printed by wip/whole/gen.py) -/
def st_tab : List (String × List Int32) := [("TRAIT_LIMITS", [6, 5, 35, 9, 99, 23, 24]), ("KIND_ABOVE", [-1, 0, 0, 0, 1, 2, 3]), ("WORTHS", [0, 2, -3, -1, 3, -6, -1]), ("SOOTS", [30, 30, 30, 30, 30, 50, 60]), ("WIND_STEPS", [0, -6, 1, 6, -1])]
def str_tab : List (Nat × String × List Int32) := [(52, "roof", [114, 111, 111, 102]), (61, "wind", [119, 105, 110, 100]), (77, "of", [111, 102]), (93, "at", [97, 116]), (95, "high", [104, 105, 103, 104]), (100, "fire", [102, 105, 114, 101]), (102, "from", [102, 114, 111, 109]), (104, "long", [108, 111, 110, 103]), (129, "baker", [98, 97, 107, 101, 114]), (131, "tanner", [116, 97, 110, 110, 101, 114]), (133, "forge", [102, 111, 114, 103, 101]), (135, "oven", [111, 118, 101, 110]), (137, "tar", [116, 97, 114]), (139, "kiln", [107, 105, 108, 110]), (141, "chimney", [99, 104, 105, 109, 110, 101, 121])]
def nm_tab : List (String × Nat × MethodName) := [(RX6, 25, yX1_init), (RX6, 42, yX0_init), (RX6, 49, yX3_init), (RX6, 69, yX2_init), (RX1, 11, yX4_init), (RX5, 46, yX0_init)]
def nf_tab : List (String × Nat × String) := [(RX0, 43, "WORTHS"), (RX0, 46, "SOOTS"), (RX0, 62, "WIND_STEPS"), (RX1, 97, "TRAIT_LIMITS")]
end
section
/-! THE ABSTRACT MEMORY: cells by number; a cell is its kind and its slots. Kinds 0 to 7: objects of vwCl; 10: int[]; 11, 12: arrays of RX0, RX2. -/
abbrev GM : Type := List (Nat × List Value)
def gm_sz (M : GM) : Nat := (M.map (fun c => c.2.length)).sum
def gm_le (M N : GM) : Prop := M.length ≤ N.length ∧ gm_sz M ≤ gm_sz N
theorem gm_le.rf (M : GM) : gm_le M M := ⟨Nat.le_refl _, Nat.le_refl _⟩
theorem gm_le.tr {M N P : GM} (h : gm_le M N) (k : gm_le N P) : gm_le M P := ⟨Nat.le_trans h.1 k.1, Nat.le_trans h.2 k.2⟩
def SPB : Nat := 1048576
abbrev KX : Type := va_G × (Nat → Nat) × (Nat → ClassId) × Nat
abbrev k_D (K : KX) : va_G := K.1
abbrev k_ad (K : KX) : Nat → Nat := K.2.1
abbrev k_cA (K : KX) : Nat → ClassId := K.2.2.1
abbrev k_b (K : KX) : Nat := K.2.2.2
abbrev k_A (K : KX) : Nat → Prop := fun q => K.2.2.2 ≤ q
def tv (ad : Nat → Nat) (v : Value) : Value := match v with
  | .ref i => .ref (ad i)
  | .int x => .int x
  | .long x => .long x
  | w => w
theorem tv_cat (ad : Nat → Nat) (v : Value) : (tv ad v).category = v.category := by cases v <;> rfl
def iOf (v : Value) : Int32 := match v with
  | .int x => x
  | _ => 0
def rOf (ad : Nat → Nat) (v : Value) : Option Nat := match v with
  | .ref i => some (ad i)
  | _ => none
def gm_cv (K : KX) (c : Nat × List Value) : va_E :=
  if c.1 < 10 then .inr (c.1, c.2.map (tv (k_ad K))) else if c.1 = 10 then .inl (k_cA K 0, c.2.length, .inl (fun j => iOf (c.2.getD j .null))) else .inl (k_cA K (c.1 - 10), c.2.length, .inr (.inr (.inr (.inr (fun j => rOf (k_ad K) (c.2.getD j .null))))))
def gm_ws (K : KX) (M : GM) : va_W := M.mapIdx (fun i c => (k_ad K i, gm_cv K c))
def k_tys (K : KX) : List (ClassId × FieldType) := [(k_cA K 0, .int), (k_cA K 1, .object RX0), (k_cA K 2, .object RX2)]
def gm_H (K : KX) (M : GM) (H : Heap) : Prop := va_P (k_D K) vwCl (gm_ws K M) H ∧ H.size = k_b K + M.length
def k_ok (K : KX) : Prop := ∀ i, i < SPB → k_ad K i = k_b K + i
theorem gm_ws_at (K : KX) (M : GM) (i : Nat) : (gm_ws K M)[i]? = (M[i]?).map (fun c => (k_ad K i, gm_cv K c)) := by
  unfold gm_ws; rw [List.getElem?_mapIdx]
theorem gm_ws_of {K : KX} {M : GM} {i : Nat} {c : Nat × List Value} (h : M[i]? = some c) : (gm_ws K M)[i]? = some (k_ad K i, gm_cv K c) := by
  rw [gm_ws_at, h]; rfl
theorem gm_ws_set (K : KX) (M : GM) (i : Nat) (c : Nat × List Value) : (gm_ws K M).set i (k_ad K i, gm_cv K c) = gm_ws K (M.set i c) := by
  apply List.ext_getElem?
  intro j
  rw [gm_ws_at, List.getElem?_set, List.getElem?_set, gm_ws_at]
  by_cases hj : i = j
  · subst hj
    have hl : (gm_ws K M).length = M.length := by unfold gm_ws; rw [List.length_mapIdx]
    rw [if_pos rfl, if_pos rfl, hl]
    by_cases h : i < M.length
    · rw [if_pos h, if_pos h]; rfl
    · rw [if_neg h, if_neg h]; rfl
  · rw [if_neg hj, if_neg hj]
theorem gm_ws_push (K : KX) (M : GM) (c : Nat × List Value) : gm_ws K (M ++ [c]) = gm_ws K M ++ [(k_ad K M.length, gm_cv K c)] := by
  unfold gm_ws; rw [List.mapIdx_append]; simp
theorem gm_D {K : KX} {M : GM} (hK : k_ok K) (hM : M.length < SPB) : va_D (k_A K) (gm_ws K M) := by
  have key : ∀ (i : Nat) (p : Nat × va_E), (gm_ws K M)[i]? = some p → i < M.length ∧ p.1 = k_b K + i := by
    intro i p h
    rw [gm_ws_at] at h
    cases hc : M[i]? with
    | none => rw [hc] at h; cases h
    | some c =>
      rw [hc] at h
      have hl := (List.getElem?_eq_some_iff.mp hc).1
      have e := Option.some.inj h
      exact ⟨hl, by rw [← e]; exact hK i (Nat.lt_trans hl hM)⟩
  refine ⟨fun i j p q hi hj e => ?_, fun k q h => ?_⟩
  · have h1 := (key i p hi).2
    have h2 := (key j q hj).2
    omega
  · show k_b K ≤ q.1
    rw [(key k q h).2]; omega
/-! static tables and String constants -/
def k_st (K : KX) (U : State) (H : Heap) : Prop := ∀ (i : Nat) (q : String × List Int32), st_tab[i]? = some q → va_Z RX6 q.1 "[I" (.ref (k_ad K (SPB + i))) (k_A K) U H ∧ va_T .int (k_ad K (SPB + i)) q.2.length (fun j => .int (q.2.getD j 0)) (k_A K) U H
def k_str (K : KX) (U : State) (H : Heap) : Prop := vk_S 15 (str_tab.map (fun q => q.2.2.length)) (str_tab.map (fun q => q.2.2)) (fun i => k_ad K (SPB + 100 + i)) (fun i => k_ad K (SPB + 200 + i)) (k_A K) U H ∧ (∀ (i : Nat) (q : Nat × String × List Int32), str_tab[i]? = some q → vk_R RX1 q.1 q.2.1 (k_ad K (SPB + 100 + i)) U) ∧ va_Z "java/lang/String" "COMPACT_STRINGS" "Z" (.int 1) (k_A K) U H ∧ va_Zq "jdk/internal/util/Preconditions" "SIOOBE_FORMATTER" "Ljava/util/function/BiFunction;" (k_A K) U H
def k_nest (U : State) : Prop := (∀ q ∈ nm_tab, va_Nw (.methodLinkNest q.1 q.2.1 q.2.2 RX6) U) ∧ (∀ q ∈ nf_tab, va_Nw (.fieldLinkNest q.1 q.2.1 RX6 q.2.2 "[I" RX6) U) ∧ va_AO RX0 U ∧ va_AO RX2 U
theorem k_nest.warm {s U : State} (hW : s.WarmedH U.vm) (h : k_nest s) : k_nest U := ⟨fun q hq => va_Nw.warmM hW (h.1 q hq), fun q hq => va_Nw.warmF hW (h.2.1 q hq), va_AO.moved hW.alike h.2.2.1, va_AO.moved hW.alike h.2.2.2⟩
theorem k_nest.same {u U : State} (hv : U.vm = u.vm) (h : k_nest u) : k_nest U :=
  have ha : u.vm.Alike U.vm := by rw [hv]; exact Vm.Alike.refl _
  ⟨fun q hq => va_Nw.same rfl hv.symm (h.1 q hq), fun q hq => va_Nw.same rfl hv.symm (h.2.1 q hq), va_AO.moved ha h.2.2.1, va_AO.moved ha h.2.2.2⟩
def k_inv (K : KX) (U : State) (H : Heap) : Prop := k_st K U H ∧ k_str K U H ∧ k_nest U
theorem k_inv.warm {K : KX} {s U : State} {H : Heap} (hW : s.WarmedH U.vm) (h : k_inv K s H) : k_inv K U H :=
  ⟨fun i q hq => ⟨va_Z.moved hW.alike (h.1 i q hq).1, va_T.moved hW.alike (h.1 i q hq).2⟩, ⟨vk_S.moved hW.alike h.2.1.1, fun i q hq => vk_R.warm hW (h.2.1.2.1 i q hq), va_Z.moved hW.alike h.2.1.2.2.1, va_Zq.moved hW.alike h.2.1.2.2.2⟩, h.2.2.warm hW⟩
theorem k_inv.same {K : KX} {u U : State} {H : Heap} (hv : U.vm = u.vm) (h : k_inv K u H) : k_inv K U H :=
  have ha : u.vm.Alike U.vm := by rw [hv]; exact Vm.Alike.refl _
  ⟨fun i q hq => ⟨va_Z.moved ha (h.1 i q hq).1, va_T.moved ha (h.1 i q hq).2⟩, ⟨vk_S.moved ha h.2.1.1, fun i q hq => vk_R.same hv (h.2.1.2.1 i q hq), va_Z.moved ha h.2.1.2.2.1, va_Zq.moved ha h.2.1.2.2.2⟩, h.2.2.same hv⟩
theorem k_inv.kept {K : KX} {U : State} {H H1 : Heap} (h : k_inv K U H) (hq : ∀ a : Nat, a < H.size → ¬ k_A K a → H1[a]? = H[a]?) : k_inv K U H1 :=
  ⟨fun i q hi => ⟨(h.1 i q hi).1.kept hq, (h.1 i q hi).2.kept hq⟩, ⟨h.2.1.1.kept hq, h.2.1.2.1, h.2.1.2.2.1.kept hq, h.2.1.2.2.2.kept hq⟩, h.2.2⟩
end
section
/-! THE MACHINE, ABSTRACTLY: what is fixed of a method (CX), of a run of it (MX), and the judgement WA: from pc, with locals L, stack st, memory M, the machine comes to its end. -/
def lw_g : List Cond := lw_tbl.filter goodWord
theorem lw_g_of {w : Cond} (h : w ∈ lw_tbl) (hg : goodWord w = true) : w ∈ lw_g := List.mem_filter.mpr ⟨h, hg⟩
abbrev CX : Type := ByteArray × String × Nat × Nat × Nat × String × Option FieldType
abbrev c_cc (C : CX) : ByteArray := C.1
abbrev c_own (C : CX) : String := C.2.1
abbrev c_nL (C : CX) : Nat := C.2.2.1
abbrev c_fr (C : CX) : Nat := C.2.2.2.1
abbrev c_lo (C : CX) : Nat := C.2.2.2.2.1
abbrev c_nm (C : CX) : String := C.2.2.2.2.2.1
abbrev c_rt (C : CX) : Option FieldType := C.2.2.2.2.2.2
abbrev MX : Type := KX × Program × Launch × Env × Room × State × MethodId × Array Value × List Frame × Method × Code × (State → Prop) × GM × (Value × GM)
abbrev x_K (X : MX) : KX := X.1
abbrev x_p (X : MX) : Program := X.2.1
abbrev x_l (X : MX) : Launch := X.2.2.1
abbrev x_e (X : MX) : Env := X.2.2.2.1
abbrev x_R (X : MX) : Room := X.2.2.2.2.1
abbrev x_s (X : MX) : State := X.2.2.2.2.2.1
abbrev x_m (X : MX) : MethodId := X.2.2.2.2.2.2.1
abbrev x_args (X : MX) : Array Value := X.2.2.2.2.2.2.2.1
abbrev x_below (X : MX) : List Frame := X.2.2.2.2.2.2.2.2.1
abbrev x_meth (X : MX) : Method := X.2.2.2.2.2.2.2.2.2.1
abbrev x_c (X : MX) : Code := X.2.2.2.2.2.2.2.2.2.2.1
abbrev x_Q (X : MX) : State → Prop := X.2.2.2.2.2.2.2.2.2.2.2.1
abbrev x_M0 (X : MX) : GM := X.2.2.2.2.2.2.2.2.2.2.2.2.1
abbrev x_tg (X : MX) : Value × GM := X.2.2.2.2.2.2.2.2.2.2.2.2.2
def vnn (v : Value) : Bool := match v with
  | .null => false
  | _ => true
theorem vnn_tv (ad : Nat → Nat) (v : Value) : vnn (tv ad v) = vnn v := by cases v <;> rfl
def lvL (ad : Nat → Nat) (L : List Value) : List (Nat × Value) := (L.mapIdx (fun i v => (i, tv ad v))).filter (fun q => vnn q.2)
theorem lvL_mem {ad : Nat → Nat} {L : List Value} {q : Nat × Value} : q ∈ lvL ad L ↔ ∃ v, L[q.1]? = some v ∧ q.2 = tv ad v ∧ vnn v = true := by
  unfold lvL
  rw [List.mem_filter]
  constructor
  · rintro ⟨h, hn⟩
    obtain ⟨i, hi⟩ := List.getElem?_of_mem h
    rw [List.getElem?_mapIdx] at hi
    cases hv : L[i]? with
    | none => rw [hv] at hi; cases hi
    | some v =>
      rw [hv] at hi
      have e := Option.some.inj hi
      subst e
      exact ⟨v, hv, rfl, by rw [vnn_tv] at hn; exact hn⟩
  · rintro ⟨v, hv, e, hn⟩
    refine ⟨List.mem_of_getElem? (i := q.1) ?_, by rw [e, vnn_tv]; exact hn⟩
    rw [List.getElem?_mapIdx, hv]
    obtain ⟨a, b⟩ := q
    simp only at e
    subst e
    rfl
theorem lvL_at {ad : Nat → Nat} {L : List Value} {ls : Array Slot} {n i : Nat} {v : Value} (h : lv_has ls n (lvL ad L)) (hi : L[i]? = some v) (hv : vnn v = true) : ls[i]? = some (.val (tv ad v)) :=
  h.2.2 (i, tv ad v) (lvL_mem.mpr ⟨v, hi, rfl, hv⟩)
theorem lv_mono {ls : Array Slot} {n : Nat} {l l' : List (Nat × Value)} (h : lv_has ls n l) (hs : ∀ q ∈ l', q ∈ l) : lv_has ls n l' := ⟨h.1, h.2.1, fun q hq => h.2.2 q (hs q hq)⟩
def l_set (L : List Value) (i : Nat) (v : Value) : List Value := if i < L.length then L.set i v else L ++ List.replicate (i - L.length) .null ++ [v]
def l_ok (L : List Value) (i : Nat) : Bool := match i with
  | 0 => true
  | j + 1 => match L[j]? with
    | some w => w.category == 1
    | none => true
theorem l_set_at {L : List Value} {i j : Nat} {v w : Value} (h : (l_set L i v)[j]? = some w) (hw : vnn w = true) : (j = i ∧ w = v) ∨ (j ≠ i ∧ L[j]? = some w) := by
  unfold l_set at h
  by_cases hi : i < L.length
  · rw [if_pos hi, List.getElem?_set] at h
    by_cases hj : i = j
    · subst hj
      rw [if_pos rfl, if_pos hi] at h
      exact Or.inl ⟨rfl, (Option.some.inj h).symm⟩
    · rw [if_neg hj] at h
      exact Or.inr ⟨fun e => hj e.symm, h⟩
  · rw [if_neg hi] at h
    by_cases hj : j < L.length
    · rw [List.append_assoc, List.getElem?_append_left hj] at h
      exact Or.inr ⟨by omega, h⟩
    · rw [List.append_assoc, List.getElem?_append_right (by omega)] at h
      by_cases hk : j - L.length < i - L.length
      · rw [List.getElem?_append_left (by simp; exact hk), List.getElem?_replicate, if_pos hk] at h
        rw [← Option.some.inj h] at hw
        cases hw
      · rw [List.getElem?_append_right (by simp; omega)] at h
        have hz : j - L.length - (List.replicate (i - L.length) Value.null).length < 1 := (List.getElem?_eq_some_iff.mp h).1
        rw [List.length_replicate] at hz
        have e : j = i := by omega
        subst e
        simp only [List.length_replicate, Nat.sub_self] at h
        exact Or.inl ⟨rfl, (Option.some.inj h).symm⟩
theorem lv_stored1 {ad : Nat → Nat} {L : List Value} {ls : Array Slot} {n i : Nat} {v : Value} (h : lv_has ls n ((i, tv ad v) :: (lvL ad L).filter (fun q => !(q.1 == i) && !(q.1 + 1 == i && q.2.category == 2)))) (hok : l_ok L i = true) : lv_has ls n (lvL ad (l_set L i v)) := by
  refine lv_mono h fun q hq => ?_
  obtain ⟨w, hw, e, hn⟩ := lvL_mem.mp hq
  obtain ⟨a, b⟩ := q
  simp only at hw e
  subst e
  rcases l_set_at hw hn with ⟨rfl, rfl⟩ | ⟨hne, hL⟩
  · exact List.mem_cons_self
  · refine List.mem_cons_of_mem _ (List.mem_filter.mpr ⟨lvL_mem.mpr ⟨w, hL, rfl, hn⟩, ?_⟩)
    have h1 : (a == i) = false := by simp [hne]
    simp only [h1, Bool.not_false, Bool.true_and, Bool.not_eq_true', Bool.and_eq_false_iff]
    by_cases hs : a + 1 = i
    · right
      subst hs
      have h2 : (match L[a]? with | some w => w.category == 1 | none => true) = true := hok
      rw [hL] at h2
      simp only at h2
      rw [tv_cat]
      have h3 : w.category = 1 := by simpa using h2
      rw [h3]; rfl
    · left; simp [hs]
theorem lv_stored2 {ad : Nat → Nat} {L : List Value} {ls : Array Slot} {n i : Nat} {v : Value} (h : lv_has ls n ((i, tv ad v) :: (lvL ad L).filter (fun q => !(q.1 == i) && (!(q.1 == i + 1) && !(q.1 + 1 == i && q.2.category == 2))))) (hok : l_ok L i = true) : lv_has ls n (lvL ad (l_set (l_set L i v) (i + 1) .null)) := by
  refine lv_mono h fun q hq => ?_
  obtain ⟨w, hw, e, hn⟩ := lvL_mem.mp hq
  obtain ⟨a, b⟩ := q
  simp only at hw e
  subst e
  rcases l_set_at hw hn with ⟨rfl, rfl⟩ | ⟨hne1, hw1⟩
  · cases hn
  rcases l_set_at hw1 hn with ⟨rfl, rfl⟩ | ⟨hne, hL⟩
  · exact List.mem_cons_self
  · refine List.mem_cons_of_mem _ (List.mem_filter.mpr ⟨lvL_mem.mpr ⟨w, hL, rfl, hn⟩, ?_⟩)
    have h1 : (a == i) = false := by simp [hne]
    have h1' : (a == i + 1) = false := by simp [hne1]
    simp only [h1, h1', Bool.not_false, Bool.true_and, Bool.not_eq_true', Bool.and_eq_false_iff]
    by_cases hs : a + 1 = i
    · right
      subst hs
      have h2 : (match L[a]? with | some w => w.category == 1 | none => true) = true := hok
      rw [hL] at h2
      simp only at h2
      rw [tv_cat]
      have h3 : w.category = 1 := by simpa using h2
      rw [h3]; rfl
    · left; simp [hs]
def WA (X : MX) (pc : Nat) (L st : List Value) (M : GM) : Prop := gm_le (x_M0 X) M → ∀ (ls : Array Slot) (H : Heap) (locs : List Loc), lv_has ls (x_c X).maxLocals (lvL (k_ad (x_K X)) L) → gm_H (x_K X) M H → va_S (k_A (x_K X)) (x_s X).heap H locs →
  W (x_p X) (x_l X) (x_e X) (x_R X) (x_s X) (x_m X) (x_args X) (x_below X) (x_meth X) (x_c X) H locs (M.length - (x_M0 X).length) (gm_sz M - gm_sz (x_M0 X)) (x_Q X) (F0 (x_m X) pc ls (st.map (tv (k_ad (x_K X)))))
def retOp (t : Option FieldType) : Instr := match t with
  | none => .return_
  | some .long => .lreturn
  | some (.object _) => .areturn
  | some (.array _) => .areturn
  | some _ => .ireturn
def retSt (v : Value) : List Value := match v with
  | .null => []
  | w => [w]
def retFit (t : Option FieldType) (v : Value) : Prop := match t with
  | none => v = .null
  | some .long => ∃ x, v = .long x
  | some (.object _) => ∃ x, v = .ref x
  | some (.array _) => ∃ x, v = .ref x
  | some t => ∃ x, v = .int x ∧ narrow t (.int x) = .int x
def XOK (C : CX) (X : MX) : Prop :=
  (x_p X).tables.exec = Jvm.exec ∧ (x_c X).code = c_cc C ∧ (x_c X).maxLocals = c_nL C ∧ (x_s X).vm.findClass (c_own C) = some (x_m X).cls ∧ (∀ w ∈ lw_g, w.before (x_args X) (x_s X) = true) ∧
  va_K (k_D (x_K X)) vwCl (k_tys (x_K X)) (x_s X) ∧ k_ok (x_K X) ∧ k_inv (x_K X) (x_s X) (x_s X).heap ∧
  ((x_R X).frames = c_fr C ∧ (x_R X).locals = c_lo C ∧ (x_tg X).2.length - (x_M0 X).length ≤ (x_R X).cells ∧ gm_sz (x_tg X).2 - gm_sz (x_M0 X) ≤ (x_R X).slots) ∧
  (x_tg X).2.length < SPB ∧ (x_s X).heap.size = k_b (x_K X) + (x_M0 X).length ∧ (x_meth X).name = c_nm C ∧
  (∀ pc L, decode (c_cc C) pc = .ok (retOp (c_rt C), 1) → retFit (c_rt C) (x_tg X).1 → WA X pc L (retSt (x_tg X).1) (x_tg X).2)
theorem XOK.D {C : CX} {X : MX} (h : XOK C X) {M : GM} (hf : gm_le M (x_tg X).2) : va_D (k_A (x_K X)) (gm_ws (x_K X) M) := gm_D h.2.2.2.2.2.2.1 (Nat.lt_of_le_of_lt hf.1 h.2.2.2.2.2.2.2.2.2.1)
theorem XOK.K {C : CX} {X : MX} (h : XOK C X) : va_K (k_D (x_K X)) vwCl (k_tys (x_K X)) (x_s X) := h.2.2.2.2.2.1
theorem XOK.T {C : CX} {X : MX} (h : XOK C X) {w : Cond} (hw : w ∈ lw_g) : w.before (x_args X) (x_s X) = true := h.2.2.2.2.1 w hw
theorem XOK.I {C : CX} {X : MX} (h : XOK C X) : k_inv (x_K X) (x_s X) (x_s X).heap := h.2.2.2.2.2.2.2.1
/-! denotations, and what it is that code does them -/
abbrev DE (α : Type) : Type := List Value → GM → Option (α × GM)
abbrev SR : Type := (List Value × GM) ⊕ (Value × GM)
abbrev SD : Type := List Value → GM → Option SR
def csum (st : List Value) : Nat := (st.map fun v => v.category).sum
theorem csum_tv (ad : Nat → Nat) (st : List Value) : ((st.map (tv ad)).map fun v => v.category).sum = csum st := by
  unfold csum
  rw [List.map_map]
  congr 1
  apply List.map_congr_left
  intro v _
  exact tv_cat ad v
def EC (C : CX) {α : Type} (inj : α → Value) (k pc pc' : Nat) (e : DE α) : Prop := ∀ (L : List Value) (M : GM) (v : α) (M' : GM), e L M = some (v, M') → gm_le M M' ∧ ∀ X, XOK C X → ∀ st, csum st ≤ k → gm_le M' (x_tg X).2 → WA X pc' L (inj v :: st) M' → WA X pc L st M
def BC (C : CX) (k pc pT pF : Nat) (e : DE Bool) : Prop := ∀ (L : List Value) (M : GM) (v : Bool) (M' : GM), e L M = some (v, M') → gm_le M M' ∧ ∀ X, XOK C X → ∀ st, csum st ≤ k → gm_le M' (x_tg X).2 → WA X (if v then pT else pF) L st M' → WA X pc L st M
def SC (C : CX) (pc pc' : Nat) (s : SD) : Prop := ∀ (L : List Value) (M : GM) (r : SR), s L M = some r → match r with
  | .inl q => gm_le M q.2 ∧ ∀ X, XOK C X → gm_le q.2 (x_tg X).2 → WA X pc' q.1 [] q.2 → WA X pc L [] M
  | .inr q => gm_le M q.2 ∧ ∀ X, XOK C X → q = x_tg X → WA X pc L [] M
def AC (C : CX) (k n pc pc' : Nat) (e : DE (List Value)) : Prop := ∀ (L : List Value) (M : GM) (vs : List Value) (M' : GM), e L M = some (vs, M') → csum vs = n ∧ gm_le M M' ∧ ∀ X, XOK C X → ∀ st, csum st ≤ k → gm_le M' (x_tg X).2 → WA X pc' L (vs.reverse ++ st) M' → WA X pc L st M
end
section
theorem i32_nlt (x y : Int32) : (¬ x < y) = (y ≤ x) := propext Int32.not_lt
theorem i32_nle (x y : Int32) : (¬ x ≤ y) = (y < x) := propext Int32.not_le
/-! EXPRESSIONS -/
def e_c {α : Type} (v : α) : DE α := fun _ M => some (v, M)
def e_li (i : Nat) : DE Int32 := fun L M => match L[i]? with
  | some (.int v) => some (v, M)
  | _ => none
def e_lr (i : Nat) : DE Nat := fun L M => match L[i]? with
  | some (.ref v) => some (v, M)
  | _ => none
def e_lj (i : Nat) : DE Int64 := fun L M => match L[i]? with
  | some (.long v) => some (v, M)
  | _ => none
def e_un {α β : Type} (op : α → β) (a : DE α) : DE β := fun L M => (a L M).bind fun p => some (op p.1, p.2)
def e_bin {α β γ : Type} (op : α → β → γ) (a : DE α) (b : DE β) : DE γ := fun L M => (a L M).bind fun p => (b L p.2).bind fun q => some (op p.1 q.1, q.2)
def e_div (a b : DE Int32) : DE Int32 := fun L M => (a L M).bind fun p => (b L p.2).bind fun q => if q.1 = 0 then none else some (p.1 / q.1, q.2)
def e_rem (a b : DE Int32) : DE Int32 := fun L M => (a L M).bind fun p => (b L p.2).bind fun q => if q.1 = 0 then none else some (p.1 - p.1 / q.1 * q.1, q.2)
def e_if {α : Type} (b : DE Bool) (x y : DE α) : DE α := fun L M => (b L M).bind fun p => if p.1 then x L p.2 else y L p.2
theorem bind_some {α β : Type} {o : Option α} {f : α → Option β} {r : β} (h : o.bind f = some r) : ∃ a, o = some a ∧ f a = some r := by
  cases o with
  | none => cases h
  | some a => exact ⟨a, rfl, h⟩
theorem ec_c {C : CX} {α : Type} {inj : α → Value} {k pc pc' : Nat} {v : α} (h : ∀ X, XOK C X → ∀ L st M, WA X pc' L (inj v :: st) M → WA X pc L st M) : EC C inj k pc pc' (e_c v) := by
  intro L M v' M' he
  cases he
  exact ⟨gm_le.rf _, fun X hX st _ _ w => h X hX L st M w⟩
theorem ec_iconst {C : CX} {k pc : Nat} {n : Int} {v : Int32} (hd : decode (c_cc C) pc = .ok (.iconst n, 1)) (hv : Int32.ofInt n = v) : EC C Value.int k pc (pc + 1) (e_c v) := ec_c fun X hX L st M w hm ls H locs hl hP hS => lv_iconst hX.1 hX.2.1 hd hv (w hm ls H locs hl hP hS)
theorem ec_bipush {C : CX} {k pc : Nat} {n : Int} {v : Int32} (hd : decode (c_cc C) pc = .ok (.bipush n, 2)) (hv : (Int8.ofInt n).toInt32 = v) : EC C Value.int k pc (pc + 2) (e_c v) := ec_c fun X hX L st M w hm ls H locs hl hP hS => lv_bipush hX.1 hX.2.1 hd hv (w hm ls H locs hl hP hS)
theorem ec_sipush {C : CX} {k pc : Nat} {n : Int} {v : Int32} (hd : decode (c_cc C) pc = .ok (.sipush n, 3)) (hv : (Int16.ofInt n).toInt32 = v) : EC C Value.int k pc (pc + 3) (e_c v) := ec_c fun X hX L st M w hm ls H locs hl hP hS => lv_sipush hX.1 hX.2.1 hd hv (w hm ls H locs hl hP hS)
theorem ec_ldc {C : CX} {k pc : Nat} {n : Nat} {v : Int32} (hd : decode (c_cc C) pc = .ok (.ldc n, 2)) (hc : Cond.constant (c_own C) n v ∈ lw_g) : EC C Value.int k pc (pc + 2) (e_c v) := ec_c fun X hX L st M w hm ls H locs hl hP hS => lv_ldc hX.1 hX.2.1 hX.2.2.2.1 (hX.T hc) hd (w hm ls H locs hl hP hS)
theorem ec_ldcw {C : CX} {k pc : Nat} {n : Nat} {v : Int32} (hd : decode (c_cc C) pc = .ok (.ldc_w n, 3)) (hc : Cond.constant (c_own C) n v ∈ lw_g) : EC C Value.int k pc (pc + 3) (e_c v) := ec_c fun X hX L st M w hm ls H locs hl hP hS => lv_ldcw hX.1 hX.2.1 hX.2.2.2.1 (hX.T hc) hd (w hm ls H locs hl hP hS)
theorem ec_lconst {C : CX} {k pc : Nat} {n : Fin 2} {v : Int64} (hd : decode (c_cc C) pc = .ok (.lconst n, 1)) (hv : Int64.ofNat (n : Nat) = v) : EC C Value.long k pc (pc + 1) (e_c v) := ec_c fun X hX L st M w hm ls H locs hl hP hS => lv_lconst hX.1 hX.2.1 hd hv (w hm ls H locs hl hP hS)
theorem ec_ldc2 {C : CX} {k pc : Nat} {n : Nat} {v : Int64} (hd : decode (c_cc C) pc = .ok (.ldc2_w n, 3)) (hc : Cond.constantLong (c_own C) n v ∈ lw_g) : EC C Value.long k pc (pc + 3) (e_c v) := ec_c fun X hX L st M w hm ls H locs hl hP hS => lv_ldc2 hX.1 hX.2.1 hX.2.2.2.1 (hX.T hc) hd (w hm ls H locs hl hP hS)
theorem e_li_some {i : Nat} {L : List Value} {M M' : GM} {v : Int32} (h : e_li i L M = some (v, M')) : L[i]? = some (.int v) ∧ M' = M := by
  unfold e_li at h
  split at h
  · rename_i x hx; cases h; exact ⟨hx, rfl⟩
  · cases h
theorem ec_iload_n {C : CX} {k pc : Nat} {n : Fin 4} {i : Nat} (hd : decode (c_cc C) pc = .ok (.iload_n n, 1)) (hi : (n : Nat) = i) : EC C Value.int k pc (pc + 1) (e_li i) := by
  intro L M v M' he
  obtain ⟨hv, rfl⟩ := e_li_some he
  exact ⟨gm_le.rf _, fun X hX st _ _ w hm ls H locs hl hP hS => lv_iload_n hX.1 hX.2.1 hd hi (lvL_at hl hv rfl) (w hm ls H locs hl hP hS)⟩
theorem ec_iload {C : CX} {k pc : Nat} {i : Nat} (hd : decode (c_cc C) pc = .ok (.iload i, 2)) : EC C Value.int k pc (pc + 2) (e_li i) := by
  intro L M v M' he
  obtain ⟨hv, rfl⟩ := e_li_some he
  exact ⟨gm_le.rf _, fun X hX st _ _ w hm ls H locs hl hP hS => lv_iload hX.1 hX.2.1 hd (lvL_at hl hv rfl) (w hm ls H locs hl hP hS)⟩
theorem e_lr_some {i : Nat} {L : List Value} {M M' : GM} {v : Nat} (h : e_lr i L M = some (v, M')) : L[i]? = some (.ref v) ∧ M' = M := by
  unfold e_lr at h
  split at h
  · rename_i x hx; cases h; exact ⟨hx, rfl⟩
  · cases h
theorem ec_aload_n {C : CX} {k pc : Nat} {n : Fin 4} {i : Nat} (hd : decode (c_cc C) pc = .ok (.aload_n n, 1)) (hi : (n : Nat) = i) : EC C Value.ref k pc (pc + 1) (e_lr i) := by
  intro L M v M' he
  obtain ⟨hv, rfl⟩ := e_lr_some he
  exact ⟨gm_le.rf _, fun X hX st _ _ w hm ls H locs hl hP hS => lv_aload_n hX.1 hX.2.1 hd hi (lvL_at hl hv rfl) (w hm ls H locs hl hP hS)⟩
theorem ec_aload {C : CX} {k pc : Nat} {i : Nat} (hd : decode (c_cc C) pc = .ok (.aload i, 2)) : EC C Value.ref k pc (pc + 2) (e_lr i) := by
  intro L M v M' he
  obtain ⟨hv, rfl⟩ := e_lr_some he
  exact ⟨gm_le.rf _, fun X hX st _ _ w hm ls H locs hl hP hS => lv_aload hX.1 hX.2.1 hd (lvL_at hl hv rfl) (w hm ls H locs hl hP hS)⟩
theorem e_lj_some {i : Nat} {L : List Value} {M M' : GM} {v : Int64} (h : e_lj i L M = some (v, M')) : L[i]? = some (.long v) ∧ M' = M := by
  unfold e_lj at h
  split at h
  · rename_i x hx; cases h; exact ⟨hx, rfl⟩
  · cases h
theorem ec_lload_n {C : CX} {k pc : Nat} {n : Fin 4} {i : Nat} (hd : decode (c_cc C) pc = .ok (.lload_n n, 1)) (hi : (n : Nat) = i) : EC C Value.long k pc (pc + 1) (e_lj i) := by
  intro L M v M' he
  obtain ⟨hv, rfl⟩ := e_lj_some he
  exact ⟨gm_le.rf _, fun X hX st _ _ w hm ls H locs hl hP hS => lv_lload_n hX.1 hX.2.1 hd hi (lvL_at hl hv rfl) (w hm ls H locs hl hP hS)⟩
theorem ec_lload {C : CX} {k pc : Nat} {i : Nat} (hd : decode (c_cc C) pc = .ok (.lload i, 2)) : EC C Value.long k pc (pc + 2) (e_lj i) := by
  intro L M v M' he
  obtain ⟨hv, rfl⟩ := e_lj_some he
  exact ⟨gm_le.rf _, fun X hX st _ _ w hm ls H locs hl hP hS => lv_lload hX.1 hX.2.1 hd (lvL_at hl hv rfl) (w hm ls H locs hl hP hS)⟩
theorem csum_cons (v : Value) (st : List Value) : csum (v :: st) = v.category + csum st := by unfold csum; simp
theorem ec_un {C : CX} {α β : Type} {i1 : α → Value} {i2 : β → Value} {k pc p1 p2 : Nat} {a : DE α} {op : α → β} (ha : EC C i1 k pc p1 a) (hr : ∀ X, XOK C X → ∀ L st M x, WA X p2 L (i2 (op x) :: st) M → WA X p1 L (i1 x :: st) M) : EC C i2 k pc p2 (e_un op a) := by
  intro L M v M' he
  obtain ⟨⟨x, M1⟩, h1, h2⟩ := bind_some he
  cases h2
  obtain ⟨g1, w1⟩ := ha L M x _ h1
  exact ⟨g1, fun X hX st hk hf w => w1 X hX st hk hf (hr X hX L st _ x w)⟩
theorem ec_bin {C : CX} {α β γ : Type} {i1 : α → Value} {i2 : β → Value} {i3 : γ → Value} {k k2 pc p1 p2 p3 : Nat} {a : DE α} {b : DE β} {op : α → β → γ} (ha : EC C i1 k pc p1 a) (hb : EC C i2 k2 p1 p2 b) (hk2 : ∀ x, (i1 x).category + k = k2) (hr : ∀ X, XOK C X → ∀ L st M x y, WA X p3 L (i3 (op x y) :: st) M → WA X p2 L (i2 y :: i1 x :: st) M) : EC C i3 k pc p3 (e_bin op a b) := by
  intro L M v M' he
  obtain ⟨⟨x, M1⟩, h1, h2⟩ := bind_some he
  obtain ⟨⟨y, M2⟩, h3, h4⟩ := bind_some h2
  cases h4
  obtain ⟨g1, w1⟩ := ha L M x _ h1
  obtain ⟨g2, w2⟩ := hb L M1 y _ h3
  exact ⟨g1.tr g2, fun X hX st hk hf w => w1 X hX st hk (g2.tr hf) (w2 X hX (i1 x :: st) (by rw [csum_cons, ← hk2 x]; omega) hf (hr X hX L st _ x y w))⟩
theorem ec_iadd {C : CX} {k pc p1 p2 : Nat} {a b : DE Int32} (ha : EC C Value.int k pc p1 a) (hb : EC C Value.int (1 + k) p1 p2 b) (hd : decode (c_cc C) p2 = .ok (.iadd, 1)) : EC C Value.int k pc (p2 + 1) (e_bin (fun (x y : Int32) => x + y) a b) := ec_bin (i1 := Value.int) (i2 := Value.int) (i3 := Value.int) ha hb (fun _ => rfl) fun X hX L st M x y w hm ls H locs hl hP hS => lv_iadd hX.1 hX.2.1 hd (w hm ls H locs hl hP hS)
theorem ec_isub {C : CX} {k pc p1 p2 : Nat} {a b : DE Int32} (ha : EC C Value.int k pc p1 a) (hb : EC C Value.int (1 + k) p1 p2 b) (hd : decode (c_cc C) p2 = .ok (.isub, 1)) : EC C Value.int k pc (p2 + 1) (e_bin (fun (x y : Int32) => x - y) a b) := ec_bin (i1 := Value.int) (i2 := Value.int) (i3 := Value.int) ha hb (fun _ => rfl) fun X hX L st M x y w hm ls H locs hl hP hS => lv_isub hX.1 hX.2.1 hd (w hm ls H locs hl hP hS)
theorem ec_imul {C : CX} {k pc p1 p2 : Nat} {a b : DE Int32} (ha : EC C Value.int k pc p1 a) (hb : EC C Value.int (1 + k) p1 p2 b) (hd : decode (c_cc C) p2 = .ok (.imul, 1)) : EC C Value.int k pc (p2 + 1) (e_bin (fun (x y : Int32) => x * y) a b) := ec_bin (i1 := Value.int) (i2 := Value.int) (i3 := Value.int) ha hb (fun _ => rfl) fun X hX L st M x y w hm ls H locs hl hP hS => lv_imul hX.1 hX.2.1 hd (w hm ls H locs hl hP hS)
theorem ec_iand {C : CX} {k pc p1 p2 : Nat} {a b : DE Int32} (ha : EC C Value.int k pc p1 a) (hb : EC C Value.int (1 + k) p1 p2 b) (hd : decode (c_cc C) p2 = .ok (.iand, 1)) : EC C Value.int k pc (p2 + 1) (e_bin (fun (x y : Int32) => x &&& y) a b) := ec_bin (i1 := Value.int) (i2 := Value.int) (i3 := Value.int) ha hb (fun _ => rfl) fun X hX L st M x y w hm ls H locs hl hP hS => lv_iand hX.1 hX.2.1 hd (w hm ls H locs hl hP hS)
theorem ec_ior {C : CX} {k pc p1 p2 : Nat} {a b : DE Int32} (ha : EC C Value.int k pc p1 a) (hb : EC C Value.int (1 + k) p1 p2 b) (hd : decode (c_cc C) p2 = .ok (.ior, 1)) : EC C Value.int k pc (p2 + 1) (e_bin (fun (x y : Int32) => x ||| y) a b) := ec_bin (i1 := Value.int) (i2 := Value.int) (i3 := Value.int) ha hb (fun _ => rfl) fun X hX L st M x y w hm ls H locs hl hP hS => lv_ior hX.1 hX.2.1 hd (w hm ls H locs hl hP hS)
theorem ec_ixor {C : CX} {k pc p1 p2 : Nat} {a b : DE Int32} (ha : EC C Value.int k pc p1 a) (hb : EC C Value.int (1 + k) p1 p2 b) (hd : decode (c_cc C) p2 = .ok (.ixor, 1)) : EC C Value.int k pc (p2 + 1) (e_bin (fun (x y : Int32) => x ^^^ y) a b) := ec_bin (i1 := Value.int) (i2 := Value.int) (i3 := Value.int) ha hb (fun _ => rfl) fun X hX L st M x y w hm ls H locs hl hP hS => lv_ixor hX.1 hX.2.1 hd (w hm ls H locs hl hP hS)
theorem ec_ishl {C : CX} {k pc p1 p2 : Nat} {a b : DE Int32} (ha : EC C Value.int k pc p1 a) (hb : EC C Value.int (1 + k) p1 p2 b) (hd : decode (c_cc C) p2 = .ok (.ishl, 1)) : EC C Value.int k pc (p2 + 1) (e_bin (fun (x y : Int32) => x <<< (y &&& 31)) a b) := ec_bin (i1 := Value.int) (i2 := Value.int) (i3 := Value.int) ha hb (fun _ => rfl) fun X hX L st M x y w hm ls H locs hl hP hS => lv_ishl hX.1 hX.2.1 hd (w hm ls H locs hl hP hS)
theorem ec_ishr {C : CX} {k pc p1 p2 : Nat} {a b : DE Int32} (ha : EC C Value.int k pc p1 a) (hb : EC C Value.int (1 + k) p1 p2 b) (hd : decode (c_cc C) p2 = .ok (.ishr, 1)) : EC C Value.int k pc (p2 + 1) (e_bin (fun (x y : Int32) => x >>> (y &&& 31)) a b) := ec_bin (i1 := Value.int) (i2 := Value.int) (i3 := Value.int) ha hb (fun _ => rfl) fun X hX L st M x y w hm ls H locs hl hP hS => lv_ishr hX.1 hX.2.1 hd (w hm ls H locs hl hP hS)
theorem ec_iushr {C : CX} {k pc p1 p2 : Nat} {a b : DE Int32} (ha : EC C Value.int k pc p1 a) (hb : EC C Value.int (1 + k) p1 p2 b) (hd : decode (c_cc C) p2 = .ok (.iushr, 1)) : EC C Value.int k pc (p2 + 1) (e_bin (fun x y => (x.toUInt32 >>> (y.toUInt32 &&& Int32.toUInt32 31)).toInt32) a b) := ec_bin ha hb (fun _ => rfl) fun X hX L st M x y w hm ls H locs hl hP hS => lv_iushr hX.1 hX.2.1 hd rfl (w hm ls H locs hl hP hS)
theorem ec_ladd {C : CX} {k pc p1 p2 : Nat} {a b : DE Int64} (ha : EC C Value.long k pc p1 a) (hb : EC C Value.long (2 + k) p1 p2 b) (hd : decode (c_cc C) p2 = .ok (.ladd, 1)) : EC C Value.long k pc (p2 + 1) (e_bin (fun x y => x + y) a b) := ec_bin ha hb (fun _ => rfl) fun X hX L st M x y w hm ls H locs hl hP hS => lv_ladd hX.1 hX.2.1 hd (w hm ls H locs hl hP hS)
theorem ec_lmul {C : CX} {k pc p1 p2 : Nat} {a b : DE Int64} (ha : EC C Value.long k pc p1 a) (hb : EC C Value.long (2 + k) p1 p2 b) (hd : decode (c_cc C) p2 = .ok (.lmul, 1)) : EC C Value.long k pc (p2 + 1) (e_bin (fun x y => x * y) a b) := ec_bin ha hb (fun _ => rfl) fun X hX L st M x y w hm ls H locs hl hP hS => lv_lmul hX.1 hX.2.1 hd (w hm ls H locs hl hP hS)
theorem ec_lcmp {C : CX} {k pc p1 p2 : Nat} {a b : DE Int64} (ha : EC C Value.long k pc p1 a) (hb : EC C Value.long (2 + k) p1 p2 b) (hd : decode (c_cc C) p2 = .ok (.lcmp, 1)) : EC C Value.int k pc (p2 + 1) (e_bin (fun x y => lg_cmp x y) a b) := ec_bin ha hb (fun _ => rfl) fun X hX L st M x y w hm ls H locs hl hP hS => W.lcmp hX.1 hX.2.1 hd (w hm ls H locs hl hP hS)
theorem ec_i2b {C : CX} {k pc p1 : Nat} {a : DE Int32} (ha : EC C Value.int k pc p1 a) (hd : decode (c_cc C) p1 = .ok (.i2b, 1)) : EC C Value.int k pc (p1 + 1) (e_un (fun x => x.toInt8.toInt32) a) := ec_un ha fun X hX L st M x w hm ls H locs hl hP hS => lv_i2b hX.1 hX.2.1 hd rfl (w hm ls H locs hl hP hS)
theorem ec_i2s {C : CX} {k pc p1 : Nat} {a : DE Int32} (ha : EC C Value.int k pc p1 a) (hd : decode (c_cc C) p1 = .ok (.i2s, 1)) : EC C Value.int k pc (p1 + 1) (e_un (fun x => x.toInt16.toInt32) a) := ec_un ha fun X hX L st M x w hm ls H locs hl hP hS => lv_i2s hX.1 hX.2.1 hd rfl (w hm ls H locs hl hP hS)
theorem ec_i2c {C : CX} {k pc p1 : Nat} {a : DE Int32} (ha : EC C Value.int k pc p1 a) (hd : decode (c_cc C) p1 = .ok (.i2c, 1)) : EC C Value.int k pc (p1 + 1) (e_un (fun x => (x.toUInt32 % 65536).toInt32) a) := ec_un ha fun X hX L st M x w hm ls H locs hl hP hS => lv_i2c hX.1 hX.2.1 hd rfl (w hm ls H locs hl hP hS)
theorem ec_i2l {C : CX} {k pc p1 : Nat} {a : DE Int32} (ha : EC C Value.int k pc p1 a) (hd : decode (c_cc C) p1 = .ok (.i2l, 1)) : EC C Value.long k pc (p1 + 1) (e_un (fun x => x.toInt64) a) := ec_un ha fun X hX L st M x w hm ls H locs hl hP hS => lv_i2l hX.1 hX.2.1 hd rfl (w hm ls H locs hl hP hS)
theorem ec_idiv {C : CX} {k pc p1 p2 : Nat} {a b : DE Int32} (ha : EC C Value.int k pc p1 a) (hb : EC C Value.int (1 + k) p1 p2 b) (hd : decode (c_cc C) p2 = .ok (.idiv, 1)) : EC C Value.int k pc (p2 + 1) (e_div a b) := by
  intro L M v M' he
  obtain ⟨⟨x, M1⟩, h1, h2⟩ := bind_some he
  obtain ⟨⟨y, M2⟩, h3, h4⟩ := bind_some h2
  by_cases hy : y = 0
  · rw [if_pos hy] at h4; cases h4
  · rw [if_neg hy] at h4
    cases h4
    obtain ⟨g1, w1⟩ := ha L M x _ h1
    obtain ⟨g2, w2⟩ := hb L M1 y _ h3
    exact ⟨g1.tr g2, fun X hX st hk hf w => w1 X hX st hk (g2.tr hf) (w2 X hX (.int x :: st) (by rw [csum_cons]; show 1 + csum st ≤ 1 + k; omega) hf (fun hm ls H locs hl hP hS => lv_idiv hX.1 hX.2.1 hd hy (w hm ls H locs hl hP hS)))⟩
theorem ec_irem {C : CX} {k pc p1 p2 : Nat} {a b : DE Int32} (ha : EC C Value.int k pc p1 a) (hb : EC C Value.int (1 + k) p1 p2 b) (hd : decode (c_cc C) p2 = .ok (.irem, 1)) : EC C Value.int k pc (p2 + 1) (e_rem a b) := by
  intro L M v M' he
  obtain ⟨⟨x, M1⟩, h1, h2⟩ := bind_some he
  obtain ⟨⟨y, M2⟩, h3, h4⟩ := bind_some h2
  by_cases hy : y = 0
  · rw [if_pos hy] at h4; cases h4
  · rw [if_neg hy] at h4
    cases h4
    obtain ⟨g1, w1⟩ := ha L M x _ h1
    obtain ⟨g2, w2⟩ := hb L M1 y _ h3
    exact ⟨g1.tr g2, fun X hX st hk hf w => w1 X hX st hk (g2.tr hf) (w2 X hX (.int x :: st) (by rw [csum_cons]; show 1 + csum st ≤ 1 + k; omega) hf (fun hm ls H locs hl hP hS => lv_irem hX.1 hX.2.1 hd hy (w hm ls H locs hl hP hS)))⟩
/-! CONDITIONS -/
def b_not (a : DE Bool) : DE Bool := fun L M => (a L M).bind fun p => some (!p.1, p.2)
def b_and (a b : DE Bool) : DE Bool := fun L M => (a L M).bind fun p => if p.1 then b L p.2 else some (false, p.2)
def b_or (a b : DE Bool) : DE Bool := fun L M => (a L M).bind fun p => if p.1 then some (true, p.2) else b L p.2
def b_of (a : DE Int32) : DE Bool := fun L M => (a L M).bind fun p => some (decide (p.1 ≠ 0), p.2)
def b_tt : DE Bool := fun _ M => some (true, M)
def e_b (b : DE Bool) : DE Int32 := fun L M => (b L M).bind fun p => some (if p.1 then 1 else 0, p.2)
theorem bc_not {C : CX} {k pc pT pF : Nat} {a : DE Bool} (h : BC C k pc pF pT a) : BC C k pc pT pF (b_not a) := by
  intro L M v M' he
  obtain ⟨⟨x, M1⟩, h1, h2⟩ := bind_some he
  cases h2
  obtain ⟨g, w⟩ := h L M x _ h1
  refine ⟨g, fun X hX st hk hf ww => w X hX st hk hf ?_⟩
  cases x <;> exact ww
theorem bc_and {C : CX} {k pc p1 pT pF : Nat} {a b : DE Bool} (ha : BC C k pc p1 pF a) (hb : BC C k p1 pT pF b) : BC C k pc pT pF (b_and a b) := by
  intro L M v M' he
  obtain ⟨⟨x, M1⟩, h1, h2⟩ := bind_some he
  obtain ⟨g, w⟩ := ha L M x _ h1
  cases x with
  | false =>
    cases h2
    exact ⟨g, fun X hX st hk hf ww => w X hX st hk hf ww⟩
  | true =>
    obtain ⟨g2, w2⟩ := hb L M1 v _ h2
    exact ⟨g.tr g2, fun X hX st hk hf ww => w X hX st hk (g2.tr hf) (w2 X hX st hk hf ww)⟩
theorem bc_or {C : CX} {k pc p1 pT pF : Nat} {a b : DE Bool} (ha : BC C k pc pT p1 a) (hb : BC C k p1 pT pF b) : BC C k pc pT pF (b_or a b) := by
  intro L M v M' he
  obtain ⟨⟨x, M1⟩, h1, h2⟩ := bind_some he
  obtain ⟨g, w⟩ := ha L M x _ h1
  cases x with
  | true =>
    cases h2
    exact ⟨g, fun X hX st hk hf ww => w X hX st hk hf ww⟩
  | false =>
    obtain ⟨g2, w2⟩ := hb L M1 v _ h2
    exact ⟨g.tr g2, fun X hX st hk hf ww => w X hX st hk (g2.tr hf) (w2 X hX st hk hf ww)⟩
theorem bc_tt {C : CX} {k pc pF : Nat} : BC C k pc pc pF b_tt := by
  intro L M v M' he
  cases he
  exact ⟨gm_le.rf _, fun X hX st hk hf ww => ww⟩
theorem bc_rel {C : CX} {k pc p1 p2 pT pF : Nat} {a b : DE Int32} {r : Int32 → Int32 → Bool} (ha : EC C Value.int k pc p1 a) (hb : EC C Value.int (1 + k) p1 p2 b) (hr : ∀ X, XOK C X → ∀ L st M x y, WA X (if r x y then pT else pF) L st M → WA X p2 L (.int y :: .int x :: st) M) : BC C k pc pT pF (e_bin r a b) := by
  intro L M v M' he
  obtain ⟨⟨x, M1⟩, h1, h2⟩ := bind_some he
  obtain ⟨⟨y, M2⟩, h3, h4⟩ := bind_some h2
  cases h4
  obtain ⟨g1, w1⟩ := ha L M x _ h1
  obtain ⟨g2, w2⟩ := hb L M1 y _ h3
  exact ⟨g1.tr g2, fun X hX st hk hf w => w1 X hX st hk (g2.tr hf) (w2 X hX (.int x :: st) (by rw [csum_cons]; show 1 + csum st ≤ 1 + k; omega) hf (hr X hX L st _ x y w))⟩
theorem bc_rel0 {C : CX} {k pc p1 pT pF : Nat} {a : DE Int32} {r : Int32 → Bool} (ha : EC C Value.int k pc p1 a) (hr : ∀ X, XOK C X → ∀ L st M x, WA X (if r x then pT else pF) L st M → WA X p1 L (.int x :: st) M) : BC C k pc pT pF (e_un r a) := by
  intro L M v M' he
  obtain ⟨⟨x, M1⟩, h1, h2⟩ := bind_some he
  cases h2
  obtain ⟨g1, w1⟩ := ha L M x _ h1
  exact ⟨g1, fun X hX st hk hf w => w1 X hX st hk hf (hr X hX L st _ x w)⟩
theorem bc_icmp_eq_T {C : CX} {k pc p1 p2 tgt : Nat} {off : Int} {a b : DE Int32} (ha : EC C Value.int k pc p1 a) (hb : EC C Value.int (1 + k) p1 p2 b) (hd : decode (c_cc C) p2 = .ok (.if_icmp .eq off, 3)) (ht : (p2 : Int) + off = (tgt : Int)) : BC C k pc tgt (p2 + 3) (e_bin (fun x y => decide (x = y)) a b) := bc_rel ha hb fun X hX L st M x y w hm ls H locs hl hP hS => lv_icmp_eq hX.1 hX.2.1 hd ht (fun h => by rw [show (decide (x = y)) = true from decide_eq_true h] at w; exact w hm ls H locs hl hP hS) (fun h => by rw [show (decide (x = y)) = false from decide_eq_false h] at w; exact w hm ls H locs hl hP hS)
theorem bc_if_eq_T {C : CX} {k pc p2 tgt : Nat} {off : Int} {a : DE Int32} (ha : EC C Value.int k pc p2 a) (hd : decode (c_cc C) p2 = .ok (.ifCond .eq off, 3)) (ht : (p2 : Int) + off = (tgt : Int)) : BC C k pc tgt (p2 + 3) (e_un (fun x => decide (x = 0)) a) := bc_rel0 ha fun X hX L st M x w hm ls H locs hl hP hS => lv_if_eq hX.1 hX.2.1 hd ht (fun h => by rw [show (decide (x = 0)) = true from decide_eq_true h] at w; exact w hm ls H locs hl hP hS) (fun h => by rw [show (decide (x = 0)) = false from decide_eq_false h] at w; exact w hm ls H locs hl hP hS)
theorem bc_icmp_eq_F {C : CX} {k pc p1 p2 tgt : Nat} {off : Int} {a b : DE Int32} (ha : EC C Value.int k pc p1 a) (hb : EC C Value.int (1 + k) p1 p2 b) (hd : decode (c_cc C) p2 = .ok (.if_icmp .eq off, 3)) (ht : (p2 : Int) + off = (tgt : Int)) : BC C k pc (p2 + 3) tgt (e_bin (fun x y => decide (x ≠ y)) a b) := bc_rel ha hb fun X hX L st M x y w hm ls H locs hl hP hS => lv_icmp_eq hX.1 hX.2.1 hd ht (fun h => by rw [show (decide (x ≠ y)) = false from decide_eq_false (fun n => n h)] at w; exact w hm ls H locs hl hP hS) (fun h => by rw [show (decide (x ≠ y)) = true from decide_eq_true h] at w; exact w hm ls H locs hl hP hS)
theorem bc_if_eq_F {C : CX} {k pc p2 tgt : Nat} {off : Int} {a : DE Int32} (ha : EC C Value.int k pc p2 a) (hd : decode (c_cc C) p2 = .ok (.ifCond .eq off, 3)) (ht : (p2 : Int) + off = (tgt : Int)) : BC C k pc (p2 + 3) tgt (e_un (fun x => decide (x ≠ 0)) a) := bc_rel0 ha fun X hX L st M x w hm ls H locs hl hP hS => lv_if_eq hX.1 hX.2.1 hd ht (fun h => by rw [show (decide (x ≠ 0)) = false from decide_eq_false (fun n => n h)] at w; exact w hm ls H locs hl hP hS) (fun h => by rw [show (decide (x ≠ 0)) = true from decide_eq_true h] at w; exact w hm ls H locs hl hP hS)
theorem bc_icmp_ne_T {C : CX} {k pc p1 p2 tgt : Nat} {off : Int} {a b : DE Int32} (ha : EC C Value.int k pc p1 a) (hb : EC C Value.int (1 + k) p1 p2 b) (hd : decode (c_cc C) p2 = .ok (.if_icmp .ne off, 3)) (ht : (p2 : Int) + off = (tgt : Int)) : BC C k pc tgt (p2 + 3) (e_bin (fun x y => decide (x ≠ y)) a b) := bc_rel ha hb fun X hX L st M x y w hm ls H locs hl hP hS => lv_icmp_ne hX.1 hX.2.1 hd ht (fun h => by rw [show (decide (x ≠ y)) = true from decide_eq_true h] at w; exact w hm ls H locs hl hP hS) (fun h => by rw [show (decide (x ≠ y)) = false from decide_eq_false (fun n => n h)] at w; exact w hm ls H locs hl hP hS)
theorem bc_if_ne_T {C : CX} {k pc p2 tgt : Nat} {off : Int} {a : DE Int32} (ha : EC C Value.int k pc p2 a) (hd : decode (c_cc C) p2 = .ok (.ifCond .ne off, 3)) (ht : (p2 : Int) + off = (tgt : Int)) : BC C k pc tgt (p2 + 3) (e_un (fun x => decide (x ≠ 0)) a) := bc_rel0 ha fun X hX L st M x w hm ls H locs hl hP hS => lv_if_ne hX.1 hX.2.1 hd ht (fun h => by rw [show (decide (x ≠ 0)) = true from decide_eq_true h] at w; exact w hm ls H locs hl hP hS) (fun h => by rw [show (decide (x ≠ 0)) = false from decide_eq_false (fun n => n h)] at w; exact w hm ls H locs hl hP hS)
theorem bc_icmp_ne_F {C : CX} {k pc p1 p2 tgt : Nat} {off : Int} {a b : DE Int32} (ha : EC C Value.int k pc p1 a) (hb : EC C Value.int (1 + k) p1 p2 b) (hd : decode (c_cc C) p2 = .ok (.if_icmp .ne off, 3)) (ht : (p2 : Int) + off = (tgt : Int)) : BC C k pc (p2 + 3) tgt (e_bin (fun x y => decide (x = y)) a b) := bc_rel ha hb fun X hX L st M x y w hm ls H locs hl hP hS => lv_icmp_ne hX.1 hX.2.1 hd ht (fun h => by rw [show (decide (x = y)) = false from decide_eq_false h] at w; exact w hm ls H locs hl hP hS) (fun h => by rw [show (decide (x = y)) = true from decide_eq_true h] at w; exact w hm ls H locs hl hP hS)
theorem bc_if_ne_F {C : CX} {k pc p2 tgt : Nat} {off : Int} {a : DE Int32} (ha : EC C Value.int k pc p2 a) (hd : decode (c_cc C) p2 = .ok (.ifCond .ne off, 3)) (ht : (p2 : Int) + off = (tgt : Int)) : BC C k pc (p2 + 3) tgt (e_un (fun x => decide (x = 0)) a) := bc_rel0 ha fun X hX L st M x w hm ls H locs hl hP hS => lv_if_ne hX.1 hX.2.1 hd ht (fun h => by rw [show (decide (x = 0)) = false from decide_eq_false h] at w; exact w hm ls H locs hl hP hS) (fun h => by rw [show (decide (x = 0)) = true from decide_eq_true h] at w; exact w hm ls H locs hl hP hS)
theorem bc_icmp_lt_T {C : CX} {k pc p1 p2 tgt : Nat} {off : Int} {a b : DE Int32} (ha : EC C Value.int k pc p1 a) (hb : EC C Value.int (1 + k) p1 p2 b) (hd : decode (c_cc C) p2 = .ok (.if_icmp .lt off, 3)) (ht : (p2 : Int) + off = (tgt : Int)) : BC C k pc tgt (p2 + 3) (e_bin (fun x y => decide (x < y)) a b) := bc_rel ha hb fun X hX L st M x y w hm ls H locs hl hP hS => lv_icmp_lt hX.1 hX.2.1 hd ht (fun h => by rw [show (decide (x < y)) = true from decide_eq_true h] at w; exact w hm ls H locs hl hP hS) (fun h => by rw [show (decide (x < y)) = false from decide_eq_false h] at w; exact w hm ls H locs hl hP hS)
theorem bc_if_lt_T {C : CX} {k pc p2 tgt : Nat} {off : Int} {a : DE Int32} (ha : EC C Value.int k pc p2 a) (hd : decode (c_cc C) p2 = .ok (.ifCond .lt off, 3)) (ht : (p2 : Int) + off = (tgt : Int)) : BC C k pc tgt (p2 + 3) (e_un (fun x => decide (x < 0)) a) := bc_rel0 ha fun X hX L st M x w hm ls H locs hl hP hS => lv_if_lt hX.1 hX.2.1 hd ht (fun h => by rw [show (decide (x < 0)) = true from decide_eq_true h] at w; exact w hm ls H locs hl hP hS) (fun h => by rw [show (decide (x < 0)) = false from decide_eq_false h] at w; exact w hm ls H locs hl hP hS)
theorem bc_icmp_lt_F {C : CX} {k pc p1 p2 tgt : Nat} {off : Int} {a b : DE Int32} (ha : EC C Value.int k pc p1 a) (hb : EC C Value.int (1 + k) p1 p2 b) (hd : decode (c_cc C) p2 = .ok (.if_icmp .lt off, 3)) (ht : (p2 : Int) + off = (tgt : Int)) : BC C k pc (p2 + 3) tgt (e_bin (fun x y => decide (y ≤ x)) a b) := bc_rel ha hb fun X hX L st M x y w hm ls H locs hl hP hS => lv_icmp_lt hX.1 hX.2.1 hd ht (fun h => by rw [show (decide (y ≤ x)) = false from decide_eq_false (Int32.not_le.mpr h)] at w; exact w hm ls H locs hl hP hS) (fun h => by rw [show (decide (y ≤ x)) = true from decide_eq_true (Int32.not_lt.mp h)] at w; exact w hm ls H locs hl hP hS)
theorem bc_if_lt_F {C : CX} {k pc p2 tgt : Nat} {off : Int} {a : DE Int32} (ha : EC C Value.int k pc p2 a) (hd : decode (c_cc C) p2 = .ok (.ifCond .lt off, 3)) (ht : (p2 : Int) + off = (tgt : Int)) : BC C k pc (p2 + 3) tgt (e_un (fun x => decide (0 ≤ x)) a) := bc_rel0 ha fun X hX L st M x w hm ls H locs hl hP hS => lv_if_lt hX.1 hX.2.1 hd ht (fun h => by rw [show (decide (0 ≤ x)) = false from decide_eq_false (Int32.not_le.mpr h)] at w; exact w hm ls H locs hl hP hS) (fun h => by rw [show (decide (0 ≤ x)) = true from decide_eq_true (Int32.not_lt.mp h)] at w; exact w hm ls H locs hl hP hS)
theorem bc_icmp_ge_T {C : CX} {k pc p1 p2 tgt : Nat} {off : Int} {a b : DE Int32} (ha : EC C Value.int k pc p1 a) (hb : EC C Value.int (1 + k) p1 p2 b) (hd : decode (c_cc C) p2 = .ok (.if_icmp .ge off, 3)) (ht : (p2 : Int) + off = (tgt : Int)) : BC C k pc tgt (p2 + 3) (e_bin (fun x y => decide (y ≤ x)) a b) := bc_rel ha hb fun X hX L st M x y w hm ls H locs hl hP hS => lv_icmp_ge hX.1 hX.2.1 hd ht (fun h => by rw [show (decide (y ≤ x)) = true from decide_eq_true h] at w; exact w hm ls H locs hl hP hS) (fun h => by rw [show (decide (y ≤ x)) = false from decide_eq_false h] at w; exact w hm ls H locs hl hP hS)
theorem bc_if_ge_T {C : CX} {k pc p2 tgt : Nat} {off : Int} {a : DE Int32} (ha : EC C Value.int k pc p2 a) (hd : decode (c_cc C) p2 = .ok (.ifCond .ge off, 3)) (ht : (p2 : Int) + off = (tgt : Int)) : BC C k pc tgt (p2 + 3) (e_un (fun x => decide (0 ≤ x)) a) := bc_rel0 ha fun X hX L st M x w hm ls H locs hl hP hS => lv_if_ge hX.1 hX.2.1 hd ht (fun h => by rw [show (decide (0 ≤ x)) = true from decide_eq_true h] at w; exact w hm ls H locs hl hP hS) (fun h => by rw [show (decide (0 ≤ x)) = false from decide_eq_false h] at w; exact w hm ls H locs hl hP hS)
theorem bc_icmp_ge_F {C : CX} {k pc p1 p2 tgt : Nat} {off : Int} {a b : DE Int32} (ha : EC C Value.int k pc p1 a) (hb : EC C Value.int (1 + k) p1 p2 b) (hd : decode (c_cc C) p2 = .ok (.if_icmp .ge off, 3)) (ht : (p2 : Int) + off = (tgt : Int)) : BC C k pc (p2 + 3) tgt (e_bin (fun x y => decide (x < y)) a b) := bc_rel ha hb fun X hX L st M x y w hm ls H locs hl hP hS => lv_icmp_ge hX.1 hX.2.1 hd ht (fun h => by rw [show (decide (x < y)) = false from decide_eq_false (Int32.not_lt.mpr h)] at w; exact w hm ls H locs hl hP hS) (fun h => by rw [show (decide (x < y)) = true from decide_eq_true (Int32.not_le.mp h)] at w; exact w hm ls H locs hl hP hS)
theorem bc_if_ge_F {C : CX} {k pc p2 tgt : Nat} {off : Int} {a : DE Int32} (ha : EC C Value.int k pc p2 a) (hd : decode (c_cc C) p2 = .ok (.ifCond .ge off, 3)) (ht : (p2 : Int) + off = (tgt : Int)) : BC C k pc (p2 + 3) tgt (e_un (fun x => decide (x < 0)) a) := bc_rel0 ha fun X hX L st M x w hm ls H locs hl hP hS => lv_if_ge hX.1 hX.2.1 hd ht (fun h => by rw [show (decide (x < 0)) = false from decide_eq_false (Int32.not_lt.mpr h)] at w; exact w hm ls H locs hl hP hS) (fun h => by rw [show (decide (x < 0)) = true from decide_eq_true (Int32.not_le.mp h)] at w; exact w hm ls H locs hl hP hS)
theorem bc_icmp_gt_T {C : CX} {k pc p1 p2 tgt : Nat} {off : Int} {a b : DE Int32} (ha : EC C Value.int k pc p1 a) (hb : EC C Value.int (1 + k) p1 p2 b) (hd : decode (c_cc C) p2 = .ok (.if_icmp .gt off, 3)) (ht : (p2 : Int) + off = (tgt : Int)) : BC C k pc tgt (p2 + 3) (e_bin (fun x y => decide (y < x)) a b) := bc_rel ha hb fun X hX L st M x y w hm ls H locs hl hP hS => lv_icmp_gt hX.1 hX.2.1 hd ht (fun h => by rw [show (decide (y < x)) = true from decide_eq_true h] at w; exact w hm ls H locs hl hP hS) (fun h => by rw [show (decide (y < x)) = false from decide_eq_false h] at w; exact w hm ls H locs hl hP hS)
theorem bc_if_gt_T {C : CX} {k pc p2 tgt : Nat} {off : Int} {a : DE Int32} (ha : EC C Value.int k pc p2 a) (hd : decode (c_cc C) p2 = .ok (.ifCond .gt off, 3)) (ht : (p2 : Int) + off = (tgt : Int)) : BC C k pc tgt (p2 + 3) (e_un (fun x => decide (0 < x)) a) := bc_rel0 ha fun X hX L st M x w hm ls H locs hl hP hS => lv_if_gt hX.1 hX.2.1 hd ht (fun h => by rw [show (decide (0 < x)) = true from decide_eq_true h] at w; exact w hm ls H locs hl hP hS) (fun h => by rw [show (decide (0 < x)) = false from decide_eq_false h] at w; exact w hm ls H locs hl hP hS)
theorem bc_icmp_gt_F {C : CX} {k pc p1 p2 tgt : Nat} {off : Int} {a b : DE Int32} (ha : EC C Value.int k pc p1 a) (hb : EC C Value.int (1 + k) p1 p2 b) (hd : decode (c_cc C) p2 = .ok (.if_icmp .gt off, 3)) (ht : (p2 : Int) + off = (tgt : Int)) : BC C k pc (p2 + 3) tgt (e_bin (fun x y => decide (x ≤ y)) a b) := bc_rel ha hb fun X hX L st M x y w hm ls H locs hl hP hS => lv_icmp_gt hX.1 hX.2.1 hd ht (fun h => by rw [show (decide (x ≤ y)) = false from decide_eq_false (Int32.not_le.mpr h)] at w; exact w hm ls H locs hl hP hS) (fun h => by rw [show (decide (x ≤ y)) = true from decide_eq_true (Int32.not_lt.mp h)] at w; exact w hm ls H locs hl hP hS)
theorem bc_if_gt_F {C : CX} {k pc p2 tgt : Nat} {off : Int} {a : DE Int32} (ha : EC C Value.int k pc p2 a) (hd : decode (c_cc C) p2 = .ok (.ifCond .gt off, 3)) (ht : (p2 : Int) + off = (tgt : Int)) : BC C k pc (p2 + 3) tgt (e_un (fun x => decide (x ≤ 0)) a) := bc_rel0 ha fun X hX L st M x w hm ls H locs hl hP hS => lv_if_gt hX.1 hX.2.1 hd ht (fun h => by rw [show (decide (x ≤ 0)) = false from decide_eq_false (Int32.not_le.mpr h)] at w; exact w hm ls H locs hl hP hS) (fun h => by rw [show (decide (x ≤ 0)) = true from decide_eq_true (Int32.not_lt.mp h)] at w; exact w hm ls H locs hl hP hS)
theorem bc_icmp_le_T {C : CX} {k pc p1 p2 tgt : Nat} {off : Int} {a b : DE Int32} (ha : EC C Value.int k pc p1 a) (hb : EC C Value.int (1 + k) p1 p2 b) (hd : decode (c_cc C) p2 = .ok (.if_icmp .le off, 3)) (ht : (p2 : Int) + off = (tgt : Int)) : BC C k pc tgt (p2 + 3) (e_bin (fun x y => decide (x ≤ y)) a b) := bc_rel ha hb fun X hX L st M x y w hm ls H locs hl hP hS => lv_icmp_le hX.1 hX.2.1 hd ht (fun h => by rw [show (decide (x ≤ y)) = true from decide_eq_true h] at w; exact w hm ls H locs hl hP hS) (fun h => by rw [show (decide (x ≤ y)) = false from decide_eq_false h] at w; exact w hm ls H locs hl hP hS)
theorem bc_if_le_T {C : CX} {k pc p2 tgt : Nat} {off : Int} {a : DE Int32} (ha : EC C Value.int k pc p2 a) (hd : decode (c_cc C) p2 = .ok (.ifCond .le off, 3)) (ht : (p2 : Int) + off = (tgt : Int)) : BC C k pc tgt (p2 + 3) (e_un (fun x => decide (x ≤ 0)) a) := bc_rel0 ha fun X hX L st M x w hm ls H locs hl hP hS => lv_if_le hX.1 hX.2.1 hd ht (fun h => by rw [show (decide (x ≤ 0)) = true from decide_eq_true h] at w; exact w hm ls H locs hl hP hS) (fun h => by rw [show (decide (x ≤ 0)) = false from decide_eq_false h] at w; exact w hm ls H locs hl hP hS)
theorem bc_icmp_le_F {C : CX} {k pc p1 p2 tgt : Nat} {off : Int} {a b : DE Int32} (ha : EC C Value.int k pc p1 a) (hb : EC C Value.int (1 + k) p1 p2 b) (hd : decode (c_cc C) p2 = .ok (.if_icmp .le off, 3)) (ht : (p2 : Int) + off = (tgt : Int)) : BC C k pc (p2 + 3) tgt (e_bin (fun x y => decide (y < x)) a b) := bc_rel ha hb fun X hX L st M x y w hm ls H locs hl hP hS => lv_icmp_le hX.1 hX.2.1 hd ht (fun h => by rw [show (decide (y < x)) = false from decide_eq_false (Int32.not_lt.mpr h)] at w; exact w hm ls H locs hl hP hS) (fun h => by rw [show (decide (y < x)) = true from decide_eq_true (Int32.not_le.mp h)] at w; exact w hm ls H locs hl hP hS)
theorem bc_if_le_F {C : CX} {k pc p2 tgt : Nat} {off : Int} {a : DE Int32} (ha : EC C Value.int k pc p2 a) (hd : decode (c_cc C) p2 = .ok (.ifCond .le off, 3)) (ht : (p2 : Int) + off = (tgt : Int)) : BC C k pc (p2 + 3) tgt (e_un (fun x => decide (0 < x)) a) := bc_rel0 ha fun X hX L st M x w hm ls H locs hl hP hS => lv_if_le hX.1 hX.2.1 hd ht (fun h => by rw [show (decide (0 < x)) = false from decide_eq_false (Int32.not_lt.mpr h)] at w; exact w hm ls H locs hl hP hS) (fun h => by rw [show (decide (0 < x)) = true from decide_eq_true (Int32.not_le.mp h)] at w; exact w hm ls H locs hl hP hS)
theorem bc_of_T {C : CX} {k pc p2 tgt : Nat} {off : Int} {a : DE Int32} (ha : EC C Value.int k pc p2 a) (hd : decode (c_cc C) p2 = .ok (.ifCond .ne off, 3)) (ht : (p2 : Int) + off = (tgt : Int)) : BC C k pc tgt (p2 + 3) (b_of a) := bc_if_ne_T ha hd ht
theorem bc_of_F {C : CX} {k pc p2 tgt : Nat} {off : Int} {a : DE Int32} (ha : EC C Value.int k pc p2 a) (hd : decode (c_cc C) p2 = .ok (.ifCond .eq off, 3)) (ht : (p2 : Int) + off = (tgt : Int)) : BC C k pc (p2 + 3) tgt (b_of a) := bc_if_eq_F ha hd ht
theorem ec_b {C : CX} {k pc pT pF pE : Nat} {b : DE Bool} (hb : BC C k pc pT pF b) (hT : ∀ X, XOK C X → ∀ L st M, WA X pE L (.int 1 :: st) M → WA X pT L st M) (hF : ∀ X, XOK C X → ∀ L st M, WA X pE L (.int 0 :: st) M → WA X pF L st M) : EC C Value.int k pc pE (e_b b) := by
  intro L M v M' he
  obtain ⟨⟨x, M1⟩, h1, h2⟩ := bind_some he
  cases h2
  obtain ⟨g, w⟩ := hb L M x _ h1
  refine ⟨g, fun X hX st hk hf ww => w X hX st hk hf ?_⟩
  cases x
  · exact hF X hX L st _ ww
  · exact hT X hX L st _ ww
theorem ec_bm {C : CX} {k pc pT : Nat} {off : Int} {b : DE Bool} (hb : BC C k pc pT (pT + 4) b) (d1 : decode (c_cc C) pT = .ok (.iconst 1, 1)) (d2 : decode (c_cc C) (pT + 1) = .ok (.goto off, 3)) (ht : ((pT + 1 : Nat) : Int) + off = ((pT + 5 : Nat) : Int)) (d3 : decode (c_cc C) (pT + 4) = .ok (.iconst 0, 1)) : EC C Value.int k pc (pT + 5) (e_b b) :=
  ec_b hb (fun X hX L st M w hm ls H locs hl hP hS => lv_iconst (v := 1) hX.1 hX.2.1 d1 (by decide) (lv_goto (tgt := pT + 5) hX.1 hX.2.1 d2 ht (w hm ls H locs hl hP hS))) (fun X hX L st M w hm ls H locs hl hP hS => lv_iconst (v := 0) hX.1 hX.2.1 d3 (by decide) (w hm ls H locs hl hP hS))
theorem ec_if {C : CX} {α : Type} {inj : α → Value} {k pc pT pF p1 pE : Nat} {off : Int} {b : DE Bool} {x y : DE α} (hb : BC C k pc pT pF b) (hx : EC C inj k pT p1 x) (hd : decode (c_cc C) p1 = .ok (.goto off, 3)) (ht : (p1 : Int) + off = (pE : Int)) (hy : EC C inj k pF pE y) : EC C inj k pc pE (e_if b x y) := by
  intro L M v M' he
  obtain ⟨⟨z, M1⟩, h1, h2⟩ := bind_some he
  obtain ⟨g, w⟩ := hb L M z _ h1
  cases z with
  | true =>
    obtain ⟨g2, w2⟩ := hx L M1 v _ h2
    exact ⟨g.tr g2, fun X hX st hk hf ww => w X hX st hk (g2.tr hf) (w2 X hX st hk hf (fun hm ls H locs hl hP hS => lv_goto hX.1 hX.2.1 hd ht (ww hm ls H locs hl hP hS)))⟩
  | false =>
    obtain ⟨g2, w2⟩ := hy L M1 v _ h2
    exact ⟨g.tr g2, fun X hX st hk hf ww => w X hX st hk (g2.tr hf) (w2 X hX st hk hf ww)⟩
/-! STATEMENTS -/
def s_skip : SD := fun L M => some (.inl (L, M))
def s_seq (a b : SD) : SD := fun L M => (a L M).bind fun r => match r with
  | .inl q => b q.1 q.2
  | .inr q => some (.inr q)
def s_if (c : DE Bool) (a b : SD) : SD := fun L M => (c L M).bind fun p => if p.1 then a L p.2 else b L p.2
def s_st {α : Type} (inj : α → Value) (i : Nat) (e : DE α) : SD := fun L M => (e L M).bind fun p => if l_ok L i then some (.inl (l_set L i (inj p.1), p.2)) else none
def s_stj (i : Nat) (e : DE Int64) : SD := fun L M => (e L M).bind fun p => if l_ok L i then some (.inl (l_set (l_set L i (.long p.1)) (i + 1) .null, p.2)) else none
def s_inc (i : Nat) (n : Int32) : SD := fun L M => match L[i]? with
  | some (.int x) => if l_ok L i then some (.inl (l_set L i (.int (x + n)), M)) else none
  | _ => none
def s_ret {α : Type} (inj : α → Value) (e : DE α) : SD := fun L M => (e L M).bind fun p => some (.inr (inj p.1, p.2))
def s_retz (e : DE Int32) : SD := fun L M => (e L M).bind fun p => if p.1 = 0 ∨ p.1 = 1 then some (.inr (.int p.1, p.2)) else none
def s_retv : SD := fun _ M => some (.inr (.null, M))
def s_sc (n : Nat) (s : SD) : SD := fun L M => (s L M).bind fun r => match r with
  | .inl q => some (.inl (q.1.take n, q.2))
  | .inr q => some (.inr q)
def s_while (b : DE Bool) (s : SD) : Nat → SD
  | 0 => fun _ _ => none
  | n + 1 => fun L M => (b L M).bind fun p => if p.1 then (s L p.2).bind fun r => match r with
    | .inl q => s_while b s n q.1 q.2
    | .inr q => some (.inr q)
    else some (.inl (L, p.2))
def s_do (s : SD) (b : DE Bool) : Nat → SD
  | 0 => fun _ _ => none
  | n + 1 => fun L M => (s L M).bind fun r => match r with
    | .inl q => (b q.1 q.2).bind fun p => if p.1 then s_do s b n q.1 p.2 else some (.inl (q.1, p.2))
    | .inr q => some (.inr q)
theorem sc_skip {C : CX} {pc : Nat} : SC C pc pc s_skip := by
  intro L M r he
  cases he
  exact ⟨gm_le.rf _, fun X hX hf w => w⟩
theorem sc_goto {C : CX} {pc p1 tgt : Nat} {off : Int} {s : SD} (hs : SC C pc p1 s) (hd : decode (c_cc C) p1 = .ok (.goto off, 3)) (ht : (p1 : Int) + off = (tgt : Int)) : SC C pc tgt s := by
  intro L M r he
  have h := hs L M r he
  cases r with
  | inl q => exact ⟨h.1, fun X hX hf w => h.2 X hX hf (fun hm ls H locs hl hP hS => lv_goto hX.1 hX.2.1 hd ht (w hm ls H locs hl hP hS))⟩
  | inr q => exact h
theorem sc_seq {C : CX} {pc p1 p2 : Nat} {a b : SD} (ha : SC C pc p1 a) (hb : SC C p1 p2 b) : SC C pc p2 (s_seq a b) := by
  intro L M r he
  obtain ⟨r1, h1, h2⟩ := bind_some he
  have g1 := ha L M r1 h1
  cases r1 with
  | inr q => cases h2; exact g1
  | inl q =>
    have g2 := hb q.1 q.2 r h2
    cases r with
    | inl q2 => exact ⟨g1.1.tr g2.1, fun X hX hf w => g1.2 X hX (g2.1.tr hf) (g2.2 X hX hf w)⟩
    | inr q2 => exact ⟨g1.1.tr g2.1, fun X hX e => g1.2 X hX (by rw [← e]; exact g2.1) (g2.2 X hX e)⟩
theorem sc_if {C : CX} {pc pT pF p2 : Nat} {c : DE Bool} {a b : SD} (hc : BC C 0 pc pT pF c) (ha : SC C pT p2 a) (hb : SC C pF p2 b) : SC C pc p2 (s_if c a b) := by
  intro L M r he
  obtain ⟨⟨z, M1⟩, h1, h2⟩ := bind_some he
  obtain ⟨g, w⟩ := hc L M z _ h1
  cases z with
  | true =>
    have g2 := ha L M1 r h2
    cases r with
    | inl q => exact ⟨g.tr g2.1, fun X hX hf ww => w X hX [] (Nat.le_refl _) (g2.1.tr hf) (g2.2 X hX hf ww)⟩
    | inr q => exact ⟨g.tr g2.1, fun X hX e => w X hX [] (Nat.le_refl _) (by rw [← e]; exact g2.1) (g2.2 X hX e)⟩
  | false =>
    have g2 := hb L M1 r h2
    cases r with
    | inl q => exact ⟨g.tr g2.1, fun X hX hf ww => w X hX [] (Nat.le_refl _) (g2.1.tr hf) (g2.2 X hX hf ww)⟩
    | inr q => exact ⟨g.tr g2.1, fun X hX e => w X hX [] (Nat.le_refl _) (by rw [← e]; exact g2.1) (g2.2 X hX e)⟩
theorem sc_sc {C : CX} {pc p1 n : Nat} {s : SD} (hs : SC C pc p1 s) : SC C pc p1 (s_sc n s) := by
  intro L M r he
  obtain ⟨r1, h1, h2⟩ := bind_some he
  have g1 := hs L M r1 h1
  cases r1 with
  | inr q => cases h2; exact g1
  | inl q =>
    cases h2
    refine ⟨g1.1, fun X hX hf w => g1.2 X hX hf (fun hm ls H locs hl hP hS => w hm ls H locs (lv_mono hl fun z hz => ?_) hP hS)⟩
    obtain ⟨v, a1, a2, a3⟩ := lvL_mem.mp hz
    rw [List.getElem?_take] at a1
    split at a1
    · exact lvL_mem.mpr ⟨v, a1, a2, a3⟩
    · cases a1
theorem sc_while {C : CX} {pc pB pE : Nat} {b : DE Bool} {s : SD} (hb : BC C 0 pc pB pE b) (hs : SC C pB pc s) : ∀ n, SC C pc pE (s_while b s n) := by
  intro n
  induction n with
  | zero => intro L M r he; cases he
  | succ n ih =>
    intro L M r he
    obtain ⟨⟨z, M1⟩, h1, h2⟩ := bind_some he
    obtain ⟨g, w⟩ := hb L M z _ h1
    cases z with
    | false =>
      cases h2
      exact ⟨g, fun X hX hf ww => w X hX [] (Nat.le_refl _) hf ww⟩
    | true =>
      obtain ⟨r1, h3, h4⟩ := bind_some h2
      have g1 := hs L M1 r1 h3
      cases r1 with
      | inr q =>
        cases h4
        exact ⟨g.tr g1.1, fun X hX e => w X hX [] (Nat.le_refl _) (by rw [← e]; exact g1.1) (g1.2 X hX e)⟩
      | inl q =>
        have g2 := ih q.1 q.2 r h4
        cases r with
        | inl q2 => exact ⟨g.tr (g1.1.tr g2.1), fun X hX hf ww => w X hX [] (Nat.le_refl _) (g1.1.tr (g2.1.tr hf)) (g1.2 X hX (g2.1.tr hf) (g2.2 X hX hf ww))⟩
        | inr q2 => exact ⟨g.tr (g1.1.tr g2.1), fun X hX e => w X hX [] (Nat.le_refl _) (by rw [← e]; exact g1.1.tr g2.1) (g1.2 X hX (by rw [← e]; exact g2.1) (g2.2 X hX e))⟩
theorem sc_do {C : CX} {pc p1 pE : Nat} {b : DE Bool} {s : SD} (hs : SC C pc p1 s) (hb : BC C 0 p1 pc pE b) : ∀ n, SC C pc pE (s_do s b n) := by
  intro n
  induction n with
  | zero => intro L M r he; cases he
  | succ n ih =>
    intro L M r he
    obtain ⟨r1, h1, h2⟩ := bind_some he
    have g1 := hs L M r1 h1
    cases r1 with
    | inr q => cases h2; exact g1
    | inl q =>
      obtain ⟨⟨z, M1⟩, h3, h4⟩ := bind_some h2
      obtain ⟨g, w⟩ := hb q.1 q.2 z _ h3
      cases z with
      | false =>
        cases h4
        exact ⟨g1.1.tr g, fun X hX hf ww => g1.2 X hX (g.tr hf) (w X hX [] (Nat.le_refl _) hf ww)⟩
      | true =>
        have g2 := ih q.1 M1 r h4
        cases r with
        | inl q2 => exact ⟨g1.1.tr (g.tr g2.1), fun X hX hf ww => g1.2 X hX (g.tr (g2.1.tr hf)) (w X hX [] (Nat.le_refl _) (g2.1.tr hf) (g2.2 X hX hf ww))⟩
        | inr q2 => exact ⟨g1.1.tr (g.tr g2.1), fun X hX e => g1.2 X hX (by rw [← e]; exact g.tr g2.1) (w X hX [] (Nat.le_refl _) (by rw [← e]; exact g2.1) (g2.2 X hX e))⟩
theorem sc_stW {C : CX} {α : Type} {inj : α → Value} {pc p1 p2 i : Nat} {e : DE α} (he0 : EC C inj 0 pc p1 e) (hr : ∀ X, XOK C X → ∀ L M x, l_ok L i = true → WA X p2 (l_set L i (inj x)) [] M → WA X p1 L [inj x] M) : SC C pc p2 (s_st inj i e) := by
  intro L M r he
  obtain ⟨⟨x, M1⟩, h1, h2⟩ := bind_some he
  obtain ⟨g, w⟩ := he0 L M x _ h1
  by_cases hok : l_ok L i = true
  · rw [if_pos hok] at h2
    cases h2
    exact ⟨g, fun X hX hf ww => w X hX [] (Nat.le_refl _) hf (hr X hX L _ x hok ww)⟩
  · rw [if_neg hok] at h2; cases h2
theorem sc_istore_n {C : CX} {pc p1 i : Nat} {n : Fin 4} {e : DE Int32} (he : EC C Value.int 0 pc p1 e) (hd : decode (c_cc C) p1 = .ok (.istore_n n, 1)) (hi : (n : Nat) = i) (hn : i < c_nL C) : SC C pc (p1 + 1) (s_st Value.int i e) := sc_stW he fun X hX L M x hok w hm ls H locs hl hP hS => lv_istore_n hX.1 hX.2.1 hd hi hl (by rw [hX.2.2.1]; exact hn) rfl (fun ls' hl' => w hm ls' H locs (lv_stored1 (v := .int x) hl' hok) hP hS)
theorem sc_istore {C : CX} {pc p1 i : Nat} {e : DE Int32} (he : EC C Value.int 0 pc p1 e) (hd : decode (c_cc C) p1 = .ok (.istore i, 2)) (hn : i < c_nL C) : SC C pc (p1 + 2) (s_st Value.int i e) := sc_stW he fun X hX L M x hok w hm ls H locs hl hP hS => lv_istore hX.1 hX.2.1 hd hl (by rw [hX.2.2.1]; exact hn) rfl (fun ls' hl' => w hm ls' H locs (lv_stored1 (v := .int x) hl' hok) hP hS)
theorem sc_astore_n {C : CX} {pc p1 i : Nat} {n : Fin 4} {e : DE Nat} (he : EC C Value.ref 0 pc p1 e) (hd : decode (c_cc C) p1 = .ok (.astore_n n, 1)) (hi : (n : Nat) = i) (hn : i < c_nL C) : SC C pc (p1 + 1) (s_st Value.ref i e) := sc_stW he fun X hX L M x hok w hm ls H locs hl hP hS => lv_astore_n hX.1 hX.2.1 hd hi hl (by rw [hX.2.2.1]; exact hn) rfl (fun ls' hl' => w hm ls' H locs (lv_stored1 (v := .ref x) hl' hok) hP hS)
theorem sc_astore {C : CX} {pc p1 i : Nat} {e : DE Nat} (he : EC C Value.ref 0 pc p1 e) (hd : decode (c_cc C) p1 = .ok (.astore i, 2)) (hn : i < c_nL C) : SC C pc (p1 + 2) (s_st Value.ref i e) := sc_stW he fun X hX L M x hok w hm ls H locs hl hP hS => lv_astore hX.1 hX.2.1 hd hl (by rw [hX.2.2.1]; exact hn) rfl (fun ls' hl' => w hm ls' H locs (lv_stored1 (v := .ref x) hl' hok) hP hS)
theorem sc_lstore_n {C : CX} {pc p1 i : Nat} {n : Fin 4} {e : DE Int64} (he0 : EC C Value.long 0 pc p1 e) (hd : decode (c_cc C) p1 = .ok (.lstore_n n, 1)) (hi : (n : Nat) = i) (hn : i + 1 < c_nL C) : SC C pc (p1 + 1) (s_stj i e) := by
  intro L M r he
  obtain ⟨⟨x, M1⟩, h1, h2⟩ := bind_some he
  obtain ⟨g, w⟩ := he0 L M x _ h1
  by_cases hok : l_ok L i = true
  · rw [if_pos hok] at h2
    cases h2
    exact ⟨g, fun X hX hf ww => w X hX [] (Nat.le_refl _) hf (fun hm ls H locs hl hP hS => lv_lstore_n hX.1 hX.2.1 hd hi hl (by rw [hX.2.2.1]; exact hn) rfl (fun ls' hl' => ww hm ls' H locs (lv_stored2 (v := .long x) hl' hok) hP hS))⟩
  · rw [if_neg hok] at h2; cases h2
theorem sc_iinc {C : CX} {pc i : Nat} {n : Int} {v : Int32} (hd : decode (c_cc C) pc = .ok (.iinc i n, 3)) (hv : Int32.ofInt n = v) (hn : i < c_nL C) : SC C pc (pc + 3) (s_inc i v) := by
  intro L M r he
  unfold s_inc at he
  split at he
  · rename_i x hx
    by_cases hok : l_ok L i = true
    · rw [if_pos hok] at he
      cases he
      refine ⟨gm_le.rf _, fun X hX hf w hm ls H locs hl hP hS => ?_⟩
      obtain ⟨k, hk⟩ := List.getElem?_of_mem (lvL_mem (ad := k_ad (x_K X)) (q := (i, Value.int x)).mpr ⟨.int x, hx, rfl, rfl⟩)
      exact lv_iinc (v := x + v) hX.1 hX.2.1 hd hl hk (by rw [hv]) (by rw [hX.2.2.1]; exact hn) rfl (fun ls' hl' => w hm ls' H locs (lv_stored1 (v := .int (x + v)) hl' hok) hP hS)
    · rw [if_neg hok] at he; cases he
  · cases he
theorem sc_retW {C : CX} {α : Type} {inj : α → Value} {pc p1 p2 : Nat} {e : DE α} (he0 : EC C inj 0 pc p1 e) (hd : decode (c_cc C) p1 = .ok (retOp (c_rt C), 1)) (hs : ∀ x, retSt (inj x) = [inj x]) (hf : ∀ x, retFit (c_rt C) (inj x)) : SC C pc p2 (s_ret inj e) := by
  intro L M r he
  obtain ⟨⟨x, M1⟩, h1, h2⟩ := bind_some he
  cases h2
  obtain ⟨g, w⟩ := he0 L M x _ h1
  refine ⟨g, fun X hX e => ?_⟩
  have hr := hX.2.2.2.2.2.2.2.2.2.2.2.2 p1 L hd (by rw [← e]; exact hf x)
  rw [← e] at hr
  refine w X hX [] (Nat.le_refl _) (by rw [← e]; exact gm_le.rf _) ?_
  rw [← hs x]
  exact hr
theorem sc_iret {C : CX} {pc p1 p2 : Nat} {e : DE Int32} (he0 : EC C Value.int 0 pc p1 e) (hd : decode (c_cc C) p1 = .ok (.ireturn, 1)) (hr : c_rt C = some .int) : SC C pc p2 (s_ret Value.int e) := sc_retW he0 (by rw [hr]; exact hd) (fun _ => rfl) (fun x => by rw [hr]; exact ⟨x, rfl, rfl⟩)
theorem sc_lret {C : CX} {pc p1 p2 : Nat} {e : DE Int64} (he0 : EC C Value.long 0 pc p1 e) (hd : decode (c_cc C) p1 = .ok (.lreturn, 1)) (hr : c_rt C = some .long) : SC C pc p2 (s_ret Value.long e) := sc_retW he0 (by rw [hr]; exact hd) (fun _ => rfl) (fun x => by rw [hr]; exact ⟨x, rfl⟩)
theorem sc_aret {C : CX} {pc p1 p2 : Nat} {t : String} {e : DE Nat} (he0 : EC C Value.ref 0 pc p1 e) (hd : decode (c_cc C) p1 = .ok (.areturn, 1)) (hr : c_rt C = some (.object t)) : SC C pc p2 (s_ret Value.ref e) := sc_retW he0 (by rw [hr]; exact hd) (fun _ => rfl) (fun x => by rw [hr]; exact ⟨x, rfl⟩)
theorem sc_zret {C : CX} {pc p1 p2 : Nat} {e : DE Int32} (he0 : EC C Value.int 0 pc p1 e) (hd : decode (c_cc C) p1 = .ok (.ireturn, 1)) (hr : c_rt C = some .boolean) : SC C pc p2 (s_retz e) := by
  intro L M r he
  obtain ⟨⟨x, M1⟩, h1, h2⟩ := bind_some he
  obtain ⟨g, w⟩ := he0 L M x _ h1
  by_cases hx : x = 0 ∨ x = 1
  · rw [if_pos hx] at h2
    cases h2
    refine ⟨g, fun X hX e => ?_⟩
    have hr := hX.2.2.2.2.2.2.2.2.2.2.2.2 p1 L (by rw [hr]; exact hd) (by rw [← e, hr]; refine ⟨x, rfl, ?_⟩; rcases hx with rfl | rfl <;> rfl)
    rw [← e] at hr
    exact w X hX [] (Nat.le_refl _) (by rw [← e]; exact gm_le.rf _) hr
  · rw [if_neg hx] at h2; cases h2
theorem sc_vret {C : CX} {pc p2 : Nat} (hd : decode (c_cc C) pc = .ok (.return_, 1)) (hr : c_rt C = none) : SC C pc p2 s_retv := by
  intro L M r he
  cases he
  refine ⟨gm_le.rf _, fun X hX e => ?_⟩
  have hr := hX.2.2.2.2.2.2.2.2.2.2.2.2 pc L (by rw [hr]; exact hd) (by rw [← e, hr]; rfl)
  rw [← e] at hr
  exact hr
/-- a switch over a table -/
def s_tab (e : DE Int32) (lo hi : Int) (arms : List (Nat × SD)) (dfl : SD) : SD := fun L M => (e L M).bind fun p => if p.1.toInt < lo ∨ hi < p.1.toInt then dfl L p.2 else match arms[(p.1.toInt - lo).toNat]? with
  | some a => a.2 L p.2
  | none => none
def arms_ok (C : CX) (p2 : Nat) : List (Nat × SD) → Prop
  | [] => True
  | a :: as => SC C a.1 p2 a.2 ∧ arms_ok C p2 as
theorem arms_at {C : CX} {p2 : Nat} : ∀ {as : List (Nat × SD)} {i : Nat} {a : Nat × SD}, arms_ok C p2 as → as[i]? = some a → SC C a.1 p2 a.2
  | [], _, _, _, h => by simp at h
  | x :: xs, 0, a, h, hi => by cases hi; exact h.1
  | x :: xs, i + 1, a, h, hi => arms_at h.2 hi
theorem sc_tab {C : CX} {pc p1 pD p2 len : Nat} {dflt lo hi : Int} {offs : Array Int} {e : DE Int32} {arms : List (Nat × SD)} {dfl : SD} (he0 : EC C Value.int 0 pc p1 e) (hd : decode (c_cc C) p1 = .ok (.tableswitch dflt lo hi offs, len)) (hD : (p1 : Int) + dflt = (pD : Int)) (hdf : SC C pD p2 dfl) (ho : offs.toList.map (fun o => (p1 : Int) + o) = arms.map (fun a => (a.1 : Int))) (ha : arms_ok C p2 arms) : SC C pc p2 (s_tab e lo hi arms dfl) := by
  intro L M r he
  obtain ⟨⟨x, M1⟩, h1, h2⟩ := bind_some he
  obtain ⟨g, w⟩ := he0 L M x _ h1
  by_cases hx : x.toInt < lo ∨ hi < x.toInt
  · rw [if_pos hx] at h2
    have g2 := hdf L M1 r h2
    have hgo : ∀ X, XOK C X → WA X pD L [] M1 → WA X p1 L [.int x] M1 := fun X hX w hm ls H locs hl hP hS => lv_tableOut hX.1 hX.2.1 hd hx hD (w hm ls H locs hl hP hS)
    cases r with
    | inl q => exact ⟨g.tr g2.1, fun X hX hf ww => w X hX [] (Nat.le_refl _) (g2.1.tr hf) (hgo X hX (g2.2 X hX hf ww))⟩
    | inr q => exact ⟨g.tr g2.1, fun X hX e => w X hX [] (Nat.le_refl _) (by rw [← e]; exact g2.1) (hgo X hX (g2.2 X hX e))⟩
  · rw [if_neg hx] at h2
    cases hq : arms[(x.toInt - lo).toNat]? with
    | none => rw [hq] at h2; cases h2
    | some a =>
      rw [hq] at h2
      have g2 := arms_at ha hq L M1 r h2
      have h3 : (offs.toList.map (fun o => (p1 : Int) + o))[(x.toInt - lo).toNat]? = some ((a.1 : Nat) : Int) := by rw [ho, List.getElem?_map, hq]; rfl
      rw [List.getElem?_map] at h3
      obtain ⟨off, h4, h5⟩ : ∃ off, offs.toList[(x.toInt - lo).toNat]? = some off ∧ (p1 : Int) + off = ((a.1 : Nat) : Int) := by
        cases hz : offs.toList[(x.toInt - lo).toNat]? with
        | none => rw [hz] at h3; cases h3
        | some off => rw [hz] at h3; exact ⟨off, rfl, Option.some.inj h3⟩
      have hgo : ∀ X, XOK C X → WA X a.1 L [] M1 → WA X p1 L [.int x] M1 := fun X hX w hm ls H locs hl hP hS => lv_tableIn hX.1 hX.2.1 hd (fun h => hx (Or.inl h)) (fun h => hx (Or.inr h)) (by rw [← Array.getElem?_toList]; exact h4) h5 (w hm ls H locs hl hP hS)
      cases r with
      | inl q => exact ⟨g.tr g2.1, fun X hX hf ww => w X hX [] (Nat.le_refl _) (g2.1.tr hf) (hgo X hX (g2.2 X hX hf ww))⟩
      | inr q => exact ⟨g.tr g2.1, fun X hX e => w X hX [] (Nat.le_refl _) (by rw [← e]; exact g2.1) (hgo X hX (g2.2 X hX e))⟩
end
section
/-! MEMORY: fields, arrays, making -/
theorem gm_ob {K : KX} {M : GM} {id ci : Nat} {sl : List Value} (h : M[id]? = some (ci, sl)) (hc : ci < 10) : (gm_ws K M)[id]? = some (k_ad K id, .inr (ci, sl.map (tv (k_ad K)))) := by
  rw [gm_ws_of h]; simp [gm_cv, hc]
theorem gm_ia {K : KX} {M : GM} {id : Nat} {sl : List Value} (h : M[id]? = some (10, sl)) : (gm_ws K M)[id]? = some (k_ad K id, .inl (k_cA K 0, sl.length, .inl (fun j => iOf (sl.getD j .null)))) := by
  rw [gm_ws_of h]; rfl
theorem gm_ra {K : KX} {M : GM} {id t : Nat} {sl : List Value} (h : M[id]? = some (11 + t, sl)) : (gm_ws K M)[id]? = some (k_ad K id, .inl (k_cA K (1 + t), sl.length, .inr (.inr (.inr (.inr (fun j => rOf (k_ad K) (sl.getD j .null))))))) := by
  rw [gm_ws_of h]
  have h1 : ¬ (11 + t < 10) := by omega
  have h2 : ¬ (11 + t = 10) := by omega
  have h3 : 11 + t - 10 = 1 + t := by omega
  simp only [gm_cv, if_neg h1, if_neg h2, h3]
theorem gm_set_le {M : GM} {id kd : Nat} {sl sl' : List Value} (h : M[id]? = some (kd, sl)) (hl : sl'.length = sl.length) : (M.set id (kd, sl')).length = M.length ∧ gm_sz (M.set id (kd, sl')) = gm_sz M := by
  refine ⟨List.length_set, ?_⟩
  unfold gm_sz
  have e : (M.set id (kd, sl')).map (fun c => c.2.length) = M.map (fun c => c.2.length) := by
    apply List.ext_getElem?
    intro j
    rw [List.getElem?_map, List.getElem?_map, List.getElem?_set]
    by_cases hj : id = j
    · subst hj
      have hlt := (List.getElem?_eq_some_iff.mp h).1
      rw [if_pos rfl, if_pos hlt, h]
      simp [hl]
    · rw [if_neg hj]
  rw [e]
/-- a field of a class, as a method of a class links it -/
def FL (own : String) (idx ci k : Nat) (t : FieldType) (fin : Bool) : Prop := ∃ (Cn : String) (T : u_T) (N : Nat) (ty : Nat → FieldType), vwCl[ci]? = some (Cn, T, N) ∧ ci < 10 ∧ (∀ w ∈ u_ws Cn T N, w ∈ lw_g) ∧ k < N ∧ Cond.fieldLink own idx (T k).1 (T k).2.1 (T k).2.2.1 ∈ lw_g ∧ (∀ k, k < N → parseFieldDescriptor (T k).2.2.1 = some (ty k)) ∧ (∀ a, a < N → ∀ b, b < N → a ≠ b → (T a).2.1 ≠ (T b).2.1) ∧ ty k = t ∧ (T k).2.2.2 = fin ∧ (T k).1 = Cn
theorem wa_get {C : CX} {X : MX} (h : XOK C X) {pc idx ci k : Nat} {t : FieldType} {fin : Bool} (hf : FL (c_own C) idx ci k t fin) (hd : decode (c_cc C) pc = .ok (.getfield idx, 3)) {L st : List Value} {M : GM} {id : Nat} {sl : List Value} {v : Value} (hM : M[id]? = some (ci, sl)) (hv : sl[k]? = some v) (w : WA X (pc + 3) L (v :: st) M) : WA X pc L (.ref id :: st) M := by
  obtain ⟨Cn, T, N, ty, f1, f2, f3, f4, f5, f6, f7, f8, f9, f10⟩ := hf
  intro hm ls H locs hl hP hS
  exact va_get (ref := (T k).1) h.1 h.2.1 h.2.2.2.2.1 f3 h.2.2.2.1 h.K hP.1 id (gm_ob hM f2) f1 k f4 (h.T f5) (fun x hx => hx) (by rw [List.getElem?_map, hv]; rfl) hd (w hm ls H locs hl hP hS)
theorem vmap_set (ad : Nat → Nat) (sl : List Value) (k : Nat) (v : Value) : (sl.map (tv ad)).set k (tv ad v) = (sl.set k v).map (tv ad) := (List.map_set).symm
theorem wa_put {C : CX} {X : MX} (h : XOK C X) {pc idx ci k : Nat} {t : FieldType} (hf : FL (c_own C) idx ci k t false) (hd : decode (c_cc C) pc = .ok (.putfield idx, 3)) {L st : List Value} {M : GM} {id : Nat} {sl : List Value} {v : Value} (hM : M[id]? = some (ci, sl)) (hk : k < sl.length) (hle : gm_le M (x_tg X).2) (hn : narrow t (tv (k_ad (x_K X)) v) = tv (k_ad (x_K X)) v) (hfit : fits t (tv (k_ad (x_K X)) v) = true) (w : WA X (pc + 3) L st (M.set id (ci, sl.set k v))) : WA X pc L (v :: .ref id :: st) M := by
  obtain ⟨Cn, T, N, ty, f1, f2, f3, f4, f5, f6, f7, f8, f9, f10⟩ := hf
  intro hm ls H locs hl hP hS
  have hset := gm_set_le (sl' := sl.set k v) hM List.length_set
  have hD := h.D hle
  have he := gm_ob (K := x_K X) hM f2
  have hap := va_apart (own := c_own C) h.2.2.2.2.1 f3 ty f6 f7 h.K f1
  obtain ⟨r, h1, cell, q1, q2, q3, q4⟩ := hP.1 id _ he
  have hr : r = (Cn, T, N) := Option.some.inj (h1.symm.trans f1)
  subst hr
  obtain ⟨hS1, hfc, kC, hkC, hkind⟩ := h.K.1 ci _ f1
  obtain ⟨cf, kf, fi, f, hi, hsl⟩ := hS1 k f4
  have hlay := h.2.2.2.2.1 _ (f3 _ (u_in_lay f4))
  unfold u_lay at hlay
  rw [if_neg (by rw [f9]; decide)] at hlay
  have hst := (u_facts hfc hkC (u_lays h.2.2.2.2.1 f3 f4) hi).1
  have h6 := u_store hfc hkC hkind hlay hi (by rw [← f8]; exact f6 k f4) hn hfit
  refine W.putK h.1 h.2.1 (f := f) ⟨h.2.2.2.1, h.T f5, ⟨_, _, _, hi⟩, hst⟩ (by rw [q2]; exact h6) q1 q3 (by rw [hsl]; exact k2_hasslot (q4 k f4)) rfl rfl hd fun H' e1 e2 e3 => ?_
  rw [hsl] at e1 ⊢
  have hP' := hP.1.set hD he (e := .inr (ci, (sl.map (tv (k_ad (x_K X)))).set k (tv (k_ad (x_K X)) v))) ⟨_, f1, t_OB.to (V := updV (vp_V (sl.map (tv (k_ad (x_K X))))) k (tv (k_ad (x_K X)) v)) ⟨_, e1, q2, q3, t_set q4 hap f4 _⟩ (fun j _ => vp_updV_set (by rw [List.length_map]; exact hk) _ j)⟩ e3
  have e4 : (gm_ws (x_K X) M).set id (k_ad (x_K X) id, .inr (ci, (sl.map (tv (k_ad (x_K X)))).set k (tv (k_ad (x_K X)) v))) = gm_ws (x_K X) (M.set id (ci, sl.set k v)) := by
    rw [← gm_ws_set]
    congr 2
    simp only [gm_cv, if_pos f2, vmap_set]
  rw [e4] at hP'
  have w' := fun lc hS' => w (by unfold gm_le; rw [hset.1, hset.2]; exact hm) ls H' lc hl ⟨hP', by rw [e2, hP.2, hset.1]⟩ hS'
  simp only [hset.1, hset.2] at w'
  exact w' _ (hS.put e2 e3 (hD.2 id _ he))
theorem wa_putF {C : CX} {X : MX} (h : XOK C X) {pc idx ci k : Nat} {t : FieldType} (hf : FL (c_own C) idx ci k t true) (hcn : ∀ q, vwCl[ci]? = some q → q.1 = c_own C) (hnm : c_nm C = "<init>") (hd : decode (c_cc C) pc = .ok (.putfield idx, 3)) {L st : List Value} {M : GM} {id : Nat} {sl : List Value} {v : Value} (hM : M[id]? = some (ci, sl)) (hk : k < sl.length) (hle : gm_le M (x_tg X).2) (hn : narrow t (tv (k_ad (x_K X)) v) = tv (k_ad (x_K X)) v) (hfit : fits t (tv (k_ad (x_K X)) v) = true) (w : WA X (pc + 3) L st (M.set id (ci, sl.set k v))) : WA X pc L (v :: .ref id :: st) M := by
  obtain ⟨Cn, T, N, ty, f1, f2, f3, f4, f5, f6, f7, f8, f9, f10⟩ := hf
  intro hm ls H locs hl hP hS
  have hset := gm_set_le (sl' := sl.set k v) hM List.length_set
  have hD := h.D hle
  have he := gm_ob (K := x_K X) hM f2
  have hap := va_apart (own := c_own C) h.2.2.2.2.1 f3 ty f6 f7 h.K f1
  obtain ⟨r, h1, cell, q1, q2, q3, q4⟩ := hP.1 id _ he
  have hr : r = (Cn, T, N) := Option.some.inj (h1.symm.trans f1)
  subst hr
  obtain ⟨hS1, hfc, kC, hkC, hkind⟩ := h.K.1 ci _ f1
  obtain ⟨cf, kf, fi, f, hi, hsl⟩ := hS1 k f4
  have hlay := h.2.2.2.2.1 _ (f3 _ (u_in_lay f4))
  unfold u_lay at hlay
  rw [if_pos f9] at hlay
  have hst := (u_facts hfc hkC (u_lays h.2.2.2.2.1 f3 f4) hi).1
  have hcf : (x_m X).cls = cf := by
    obtain ⟨_, _, c', _, _, _, -, -, hf', -, -, -, hown2, -⟩ := Cond.laysFinal_spec hlay
    have e1 : c' = cf := by have := hi.symm.trans hf'; simp at this; exact this.1.symm
    rw [f10, show Cn = c_own C from hcn _ f1] at hown2
    rw [← e1]; exact Option.some.inj (h.2.2.2.1.symm.trans hown2)
  have h6 := u_fits hfc hkC hkind (Or.inr hlay) hi (by rw [← f8]; exact f6 k f4) hn hfit
  refine W.putFinK h.1 h.2.1 h.2.2.2.1 (h.T f5) hi hst hcf (by rw [h.2.2.2.2.2.2.2.2.2.2.2.1]; exact hnm) (by rw [q2]; exact h6) q1 q3 (by rw [hsl]; exact k2_hasslot (q4 k f4)) rfl rfl hd fun H' e1 e2 e3 => ?_
  rw [hsl] at e1 ⊢
  have hP' := hP.1.set hD he (e := .inr (ci, (sl.map (tv (k_ad (x_K X)))).set k (tv (k_ad (x_K X)) v))) ⟨_, f1, t_OB.to (V := updV (vp_V (sl.map (tv (k_ad (x_K X))))) k (tv (k_ad (x_K X)) v)) ⟨_, e1, q2, q3, t_set q4 hap f4 _⟩ (fun j _ => vp_updV_set (by rw [List.length_map]; exact hk) _ j)⟩ e3
  have e4 : (gm_ws (x_K X) M).set id (k_ad (x_K X) id, .inr (ci, (sl.map (tv (k_ad (x_K X)))).set k (tv (k_ad (x_K X)) v))) = gm_ws (x_K X) (M.set id (ci, sl.set k v)) := by
    rw [← gm_ws_set]
    congr 2
    simp only [gm_cv, if_pos f2, vmap_set]
  rw [e4] at hP'
  have w' := fun lc hS' => w (by unfold gm_le; rw [hset.1, hset.2]; exact hm) ls H' lc hl ⟨hP', by rw [e2, hP.2, hset.1]⟩ hS'
  simp only [hset.1, hset.2] at w'
  exact w' _ (hS.put e2 e3 (hD.2 id _ he))
theorem iOf_set (sl : List Value) (k : Nat) (hk : k < sl.length) (x : Int32) : (fun j => iOf ((sl.set k (.int x)).getD j .null)) = upd (fun j => iOf (sl.getD j .null)) k x := by
  funext j
  unfold upd
  by_cases hj : j = k
  · subst hj
    simp [List.getD_eq_getElem?_getD, hk, iOf]
  · rw [if_neg hj]
    simp [List.getD_eq_getElem?_getD, List.getElem?_set, Ne.symm hj]
theorem vpi_of {i : Int32} {n : Nat} (h0 : 0 ≤ i) (hn : i.toNatClampNeg < n) : vp_in i n := fun h => h.elim (fun h => absurd h0 (Int32.not_le.mpr h)) (fun h => absurd hn (Nat.not_lt.mpr h))
theorem wa_iald {C : CX} {X : MX} (h : XOK C X) {pc : Nat} (hd : decode (c_cc C) pc = .ok (.iaload, 1)) {L st : List Value} {M : GM} {id : Nat} {sl : List Value} {i v : Int32} (hM : M[id]? = some (10, sl)) (h0 : 0 ≤ i) (hv : sl[i.toNatClampNeg]? = some (.int v)) (w : WA X (pc + 1) L (.int v :: st) M) : WA X pc L (.int i :: .ref id :: st) M := by
  intro hm ls H locs hl hP hS
  refine va_iald h.1 h.2.1 h.K hP.1 id 0 (gm_ia hM) rfl (vpi_of h0 (List.getElem?_eq_some_iff.mp hv).1) hd ?_
  have e : iOf (sl.getD i.toNatClampNeg .null) = v := by simp [List.getD_eq_getElem?_getD, hv, iOf]
  simp only [e]
  exact w hm ls H locs hl hP hS
theorem wa_iald_st {C : CX} {X : MX} (h : XOK C X) {pc : Nat} (hd : decode (c_cc C) pc = .ok (.iaload, 1)) {L st : List Value} {M : GM} {id : Nat} {q : String × List Int32} {i v : Int32} (hM : st_tab[id]? = some q) (h0 : 0 ≤ i) (hv : q.2[i.toNatClampNeg]? = some v) (w : WA X (pc + 1) L (.int v :: st) M) : WA X pc L (.int i :: .ref (SPB + id) :: st) M := by
  intro hm ls H locs hl hP hS
  exact va_ti h.1 h.2.1 (h.I.1 id q hM).2 hS (vpi_of h0 (List.getElem?_eq_some_iff.mp hv).1) (v := .int v) (by simp [List.getD_eq_getElem?_getD, hv]) hd (w hm ls H locs hl hP hS)
theorem wa_iast {C : CX} {X : MX} (h : XOK C X) {pc : Nat} (hd : decode (c_cc C) pc = .ok (.iastore, 1)) {L st : List Value} {M : GM} {id : Nat} {sl : List Value} {i x : Int32} (hM : M[id]? = some (10, sl)) (h0 : 0 ≤ i) (hi : i.toNatClampNeg < sl.length) (hle : gm_le M (x_tg X).2) (w : WA X (pc + 1) L st (M.set id (10, sl.set i.toNatClampNeg (.int x)))) : WA X pc L (.int x :: .int i :: .ref id :: st) M := by
  intro hm ls H locs hl hP hS
  have hset := gm_set_le (sl' := sl.set i.toNatClampNeg (.int x)) hM List.length_set
  have hD := h.D hle
  have ha := gm_ia (K := x_K X) hM
  refine W.iast h.1 h.2.1 (hP.1 id _ ha) ((h.K.2 0 _ rfl).1 sl.length (fun j => .int (iOf (sl.getD j .null)))) (fun q => by cases q) (by show ¬ (i < 0 ∨ (arrV _ _ _).slots.size ≤ _); rw [arrV_size]; exact vpi_of h0 hi) rfl rfl hd fun H1 e z oq => ?_
  have hP' := hP.1.set hD ha (e := gm_cv (x_K X) (10, sl.set i.toNatClampNeg (.int x))) (by
    show H1[_]? = some (vp_cell _ (_, .inl _))
    rw [e, vp_cell_i, vp_cell_i, arrV_store]
    simp only [List.length_set]
    congr 2
    funext q
    have hq2 : iOf ((sl.set i.toNatClampNeg (.int x)).getD q .null) = upd (fun j => iOf (sl.getD j .null)) i.toNatClampNeg x q := congrFun (iOf_set sl _ hi x) q
    rw [hq2]
    by_cases hq : q = i.toNatClampNeg
    · subst hq
      simp [updV, upd]
    · simp [updV, upd, hq]) oq
  rw [gm_ws_set] at hP'
  have w' := fun lc hS' => w (by unfold gm_le; rw [hset.1, hset.2]; exact hm) ls H1 lc hl ⟨hP', by rw [z, hP.2, hset.1]⟩ hS'
  simp only [hset.1, hset.2] at w'
  exact w' _ (hS.put z oq (hD.2 id _ ha))
theorem wa_aald {C : CX} {X : MX} (h : XOK C X) {pc t : Nat} (ht : t < 2) (hd : decode (c_cc C) pc = .ok (.aaload, 1)) {L st : List Value} {M : GM} {id r : Nat} {sl : List Value} {i : Int32} (hM : M[id]? = some (11 + t, sl)) (h0 : 0 ≤ i) (hv : sl[i.toNatClampNeg]? = some (.ref r)) (w : WA X (pc + 1) L (.ref r :: st) M) : WA X pc L (.int i :: .ref id :: st) M := by
  intro hm ls H locs hl hP hS
  have e : rOf (k_ad (x_K X)) (sl.getD i.toNatClampNeg .null) = some (k_ad (x_K X) r) := by simp [List.getD_eq_getElem?_getD, hv, rOf]
  have hw := w hm ls H locs hl hP hS
  have ht2 : t = 0 ∨ t = 1 := by omega
  rcases ht2 with rfl | rfl
  · refine va_aldq (C := RX0) h.1 h.2.1 h.K hP.1 id 1 (gm_ra hM) rfl (vpi_of h0 (List.getElem?_eq_some_iff.mp hv).1) hd ?_
    simp only [e]
    exact hw
  · refine va_aldq (C := RX2) h.1 h.2.1 h.K hP.1 id 2 (gm_ra hM) rfl (vpi_of h0 (List.getElem?_eq_some_iff.mp hv).1) hd ?_
    simp only [e]
    exact hw
theorem wa_alen {C : CX} {X : MX} (h : XOK C X) {pc : Nat} (hd : decode (c_cc C) pc = .ok (.arraylength, 1)) {L st : List Value} {M : GM} {id : Nat} {sl : List Value} (hM : M[id]? = some (10, sl)) (w : WA X (pc + 1) L (.int (Int32.ofNat sl.length) :: st) M) : WA X pc L (.ref id :: st) M := by
  intro hm ls H locs hl hP hS
  exact va_alen h.1 h.2.1 h.K hP.1 id 0 (gm_ia hM) rfl rfl hd (w hm ls H locs hl hP hS)
end
section
/-! MEMORY, in expressions and statements -/
def gm_fld (M : GM) (id ci k : Nat) : Option Value := (M[id]?).bind fun c => if c.1 = ci then c.2[k]? else none
theorem gm_fld_some {M : GM} {id ci k : Nat} {v : Value} (h : gm_fld M id ci k = some v) : ∃ sl, M[id]? = some (ci, sl) ∧ sl[k]? = some v := by
  obtain ⟨⟨a, sl⟩, h1, h2⟩ := bind_some h
  by_cases e : a = ci
  · subst e
    rw [if_pos rfl] at h2
    exact ⟨sl, h1, h2⟩
  · rw [if_neg e] at h2; cases h2
def e_gi (ci k : Nat) (r : DE Nat) : DE Int32 := fun L M => (r L M).bind fun p => match gm_fld p.2 p.1 ci k with
  | some (.int v) => some (v, p.2)
  | _ => none
def e_gr (ci k : Nat) (r : DE Nat) : DE Nat := fun L M => (r L M).bind fun p => match gm_fld p.2 p.1 ci k with
  | some (.ref v) => some (v, p.2)
  | _ => none
theorem ec_gi {C : CX} {kk pc p1 idx ci k : Nat} {t : FieldType} {fin : Bool} {r : DE Nat} (hr : EC C Value.ref kk pc p1 r) (hf : FL (c_own C) idx ci k t fin) (hd : decode (c_cc C) p1 = .ok (.getfield idx, 3)) : EC C Value.int kk pc (p1 + 3) (e_gi ci k r) := by
  intro L M v M' he
  obtain ⟨⟨id, M1⟩, h1, h2⟩ := bind_some he
  obtain ⟨g, w⟩ := hr L M id _ h1
  simp only at h2
  split at h2
  · rename_i x hx
    cases h2
    obtain ⟨sl, h3, h4⟩ := gm_fld_some hx
    exact ⟨g, fun X hX st hk hle ww => w X hX st hk hle (wa_get hX hf hd h3 h4 ww)⟩
  · cases h2
theorem ec_gr {C : CX} {kk pc p1 idx ci k : Nat} {t : FieldType} {fin : Bool} {r : DE Nat} (hr : EC C Value.ref kk pc p1 r) (hf : FL (c_own C) idx ci k t fin) (hd : decode (c_cc C) p1 = .ok (.getfield idx, 3)) : EC C Value.ref kk pc (p1 + 3) (e_gr ci k r) := by
  intro L M v M' he
  obtain ⟨⟨id, M1⟩, h1, h2⟩ := bind_some he
  obtain ⟨g, w⟩ := hr L M id _ h1
  simp only at h2
  split at h2
  · rename_i x hx
    cases h2
    obtain ⟨sl, h3, h4⟩ := gm_fld_some hx
    exact ⟨g, fun X hX st hk hle ww => w X hX st hk hle (wa_get hX hf hd h3 h4 ww)⟩
  · cases h2
def gm_rd (M : GM) (id : Nat) (i : Int32) : Option Int32 := if 0 ≤ i then (if id < SPB then (M[id]?).bind fun c => if c.1 = 10 then (match c.2[i.toNatClampNeg]? with
  | some (.int v) => some v
  | _ => none) else none else (st_tab[id - SPB]?).bind fun q => q.2[i.toNatClampNeg]?) else none
theorem wa_rd {C : CX} {X : MX} (h : XOK C X) {pc : Nat} (hd : decode (c_cc C) pc = .ok (.iaload, 1)) {L st : List Value} {M : GM} {id : Nat} {i v : Int32} (hr : gm_rd M id i = some v) (w : WA X (pc + 1) L (.int v :: st) M) : WA X pc L (.int i :: .ref id :: st) M := by
  unfold gm_rd at hr
  by_cases h0 : 0 ≤ i
  · rw [if_pos h0] at hr
    by_cases hs : id < SPB
    · rw [if_pos hs] at hr
      obtain ⟨⟨a, sl⟩, h1, h2⟩ := bind_some hr
      by_cases e : a = 10
      · subst e
        rw [if_pos rfl] at h2
        simp only at h2
        split at h2
        · rename_i x hx
          cases h2
          exact wa_iald h hd h1 h0 hx w
        · cases h2
      · rw [if_neg e] at h2; cases h2
    · rw [if_neg hs] at hr
      obtain ⟨q, h1, h2⟩ := bind_some hr
      have e : SPB + (id - SPB) = id := by omega
      have hw := wa_iald_st h hd h1 h0 h2 w
      rw [e] at hw
      exact hw
  · rw [if_neg h0] at hr; cases hr
def e_ai (r : DE Nat) (ix : DE Int32) : DE Int32 := fun L M => (r L M).bind fun p => (ix L p.2).bind fun q => (gm_rd q.2 p.1 q.1).bind fun v => some (v, q.2)
theorem ec_ai {C : CX} {k pc p1 p2 : Nat} {r : DE Nat} {ix : DE Int32} (hr : EC C Value.ref k pc p1 r) (hi : EC C Value.int (1 + k) p1 p2 ix) (hd : decode (c_cc C) p2 = .ok (.iaload, 1)) : EC C Value.int k pc (p2 + 1) (e_ai r ix) := by
  intro L M v M' he
  obtain ⟨⟨id, M1⟩, h1, h2⟩ := bind_some he
  obtain ⟨⟨i, M2⟩, h3, h4⟩ := bind_some h2
  obtain ⟨x, h5, h6⟩ := bind_some h4
  cases h6
  obtain ⟨g1, w1⟩ := hr L M id _ h1
  obtain ⟨g2, w2⟩ := hi L M1 i _ h3
  exact ⟨g1.tr g2, fun X hX st hk hf w => w1 X hX st hk (g2.tr hf) (w2 X hX (.ref id :: st) (by rw [csum_cons]; show 1 + csum st ≤ 1 + k; omega) hf (wa_rd hX hd h5 w))⟩
def gm_rr (M : GM) (id t : Nat) (i : Int32) : Option Nat := if 0 ≤ i then (M[id]?).bind fun c => if c.1 = 11 + t then (match c.2[i.toNatClampNeg]? with
  | some (.ref v) => some v
  | _ => none) else none else none
def e_ar (t : Nat) (r : DE Nat) (ix : DE Int32) : DE Nat := fun L M => (r L M).bind fun p => (ix L p.2).bind fun q => (gm_rr q.2 p.1 t q.1).bind fun v => some (v, q.2)
theorem wa_rr {C : CX} {X : MX} (h : XOK C X) {pc t : Nat} (ht : t < 2) (hd : decode (c_cc C) pc = .ok (.aaload, 1)) {L st : List Value} {M : GM} {id v : Nat} {i : Int32} (hr : gm_rr M id t i = some v) (w : WA X (pc + 1) L (.ref v :: st) M) : WA X pc L (.int i :: .ref id :: st) M := by
  unfold gm_rr at hr
  by_cases h0 : 0 ≤ i
  · rw [if_pos h0] at hr
    obtain ⟨⟨a, sl⟩, h1, h2⟩ := bind_some hr
    by_cases e : a = 11 + t
    · subst e
      rw [if_pos rfl] at h2
      simp only at h2
      split at h2
      · rename_i x hx
        cases h2
        exact wa_aald h ht hd h1 h0 hx w
      · cases h2
    · rw [if_neg e] at h2; cases h2
  · rw [if_neg h0] at hr; cases hr
theorem ec_ar {C : CX} {k pc p1 p2 t : Nat} {r : DE Nat} {ix : DE Int32} (ht : t < 2) (hr : EC C Value.ref k pc p1 r) (hi : EC C Value.int (1 + k) p1 p2 ix) (hd : decode (c_cc C) p2 = .ok (.aaload, 1)) : EC C Value.ref k pc (p2 + 1) (e_ar t r ix) := by
  intro L M v M' he
  obtain ⟨⟨id, M1⟩, h1, h2⟩ := bind_some he
  obtain ⟨⟨i, M2⟩, h3, h4⟩ := bind_some h2
  obtain ⟨x, h5, h6⟩ := bind_some h4
  cases h6
  obtain ⟨g1, w1⟩ := hr L M id _ h1
  obtain ⟨g2, w2⟩ := hi L M1 i _ h3
  exact ⟨g1.tr g2, fun X hX st hk hf w => w1 X hX st hk (g2.tr hf) (w2 X hX (.ref id :: st) (by rw [csum_cons]; show 1 + csum st ≤ 1 + k; omega) hf (wa_rr hX ht hd h5 w))⟩
def e_len (r : DE Nat) : DE Int32 := fun L M => (r L M).bind fun p => match p.2[p.1]? with
  | some (10, sl) => some (Int32.ofNat sl.length, p.2)
  | _ => none
theorem ec_len {C : CX} {k pc p1 : Nat} {r : DE Nat} (hr : EC C Value.ref k pc p1 r) (hd : decode (c_cc C) p1 = .ok (.arraylength, 1)) : EC C Value.int k pc (p1 + 1) (e_len r) := by
  intro L M v M' he
  obtain ⟨⟨id, M1⟩, h1, h2⟩ := bind_some he
  obtain ⟨g, w⟩ := hr L M id _ h1
  simp only at h2
  split at h2
  · rename_i sl hx
    cases h2
    exact ⟨g, fun X hX st hk hle ww => w X hX st hk hle (wa_alen hX hd hx ww)⟩
  · cases h2
/-- a static array of the class -/
theorem ec_st {C : CX} {kk pc idx i : Nat} {q : String × List Int32} (hq : st_tab[i]? = some q) (hl : Cond.fieldLink (c_own C) idx RX6 q.1 "[I" ∈ lw_g) (hd : decode (c_cc C) pc = .ok (.getstatic idx, 3)) : EC C Value.ref kk pc (pc + 3) (e_c (SPB + i)) := ec_c fun X hX L st M w hm ls H locs hll hP hS => va_gets hX.1 hX.2.1 (hX.I.1 i q hq).1 hS hX.2.2.2.1 (hX.T hl) (fun x hx => hx) hd (w hm ls H locs hll hP hS)
theorem ec_stN {C : CX} {kk pc idx i : Nat} {q : String × List Int32} (hq : st_tab[i]? = some q) (hl : (c_own C, idx, q.1) ∈ nf_tab) (hd : decode (c_cc C) pc = .ok (.getstatic idx, 3)) : EC C Value.ref kk pc (pc + 3) (e_c (SPB + i)) := ec_c fun X hX L st M w hm ls H locs hll hP hS => va_getsN (host := RX6) hX.1 hX.2.1 (hX.I.1 i q hq).1 hS hX.2.2.2.1 (va_Nw.use rfl (hX.I.2.2.2.1 (c_own C, idx, q.1) hl)) (fun x hx => hx) hd (w hm ls H locs hll hP hS)
/-- a String constant -/
theorem ec_str {C : CX} {kk pc i : Nat} {q : Nat × String × List Int32} (hq : str_tab[i]? = some q) (ho : c_own C = RX1) (hd : decode (c_cc C) pc = .ok (.ldc q.1, 2)) : EC C Value.ref kk pc (pc + 2) (e_c (SPB + 100 + i)) := ec_c fun X hX L st M w hm ls H locs hll hP hS => va_ldcS hX.1 hX.2.1 (by rw [← ho]; exact hX.2.2.2.1) (hX.I.2.1.2.1 i q hq) hd (w hm ls H locs hll hP hS)
/-! writes -/
def gm_wr (M : GM) (id : Nat) (i x : Int32) : Option GM := if 0 ≤ i then (M[id]?).bind fun c => if c.1 = 10 ∧ i.toNatClampNeg < c.2.length then some (M.set id (10, c.2.set i.toNatClampNeg (.int x))) else none else none
theorem gm_wr_some {M M' : GM} {id : Nat} {i x : Int32} (h : gm_wr M id i x = some M') : 0 ≤ i ∧ ∃ sl, M[id]? = some (10, sl) ∧ i.toNatClampNeg < sl.length ∧ M' = M.set id (10, sl.set i.toNatClampNeg (.int x)) := by
  unfold gm_wr at h
  by_cases h0 : 0 ≤ i
  · rw [if_pos h0] at h
    obtain ⟨⟨a, sl⟩, h1, h2⟩ := bind_some h
    by_cases e : a = 10 ∧ i.toNatClampNeg < sl.length
    · rw [if_pos e] at h2
      obtain ⟨rfl, e2⟩ := e
      exact ⟨h0, sl, h1, e2, (Option.some.inj h2).symm⟩
    · rw [if_neg e] at h2; cases h2
  · rw [if_neg h0] at h; cases h
theorem gm_set_ge {M : GM} {id kd : Nat} {sl sl' : List Value} (h : M[id]? = some (kd, sl)) (hl : sl'.length = sl.length) : gm_le M (M.set id (kd, sl')) ∧ gm_le (M.set id (kd, sl')) M := by
  have e := gm_set_le (sl' := sl') h hl
  unfold gm_le
  rw [e.1, e.2]
  exact ⟨⟨Nat.le_refl _, Nat.le_refl _⟩, ⟨Nat.le_refl _, Nat.le_refl _⟩⟩
theorem wa_wr {C : CX} {X : MX} (h : XOK C X) {pc : Nat} (hd : decode (c_cc C) pc = .ok (.iastore, 1)) {L st : List Value} {M M' : GM} {id : Nat} {i x : Int32} (hr : gm_wr M id i x = some M') (hle : gm_le M' (x_tg X).2) (w : WA X (pc + 1) L st M') : WA X pc L (.int x :: .int i :: .ref id :: st) M := by
  obtain ⟨h0, sl, h1, h2, rfl⟩ := gm_wr_some hr
  exact wa_iast h hd h1 h0 h2 ((gm_set_ge h1 List.length_set).1.tr hle) w
theorem gm_wr_le {M M' : GM} {id : Nat} {i x : Int32} (h : gm_wr M id i x = some M') : gm_le M M' := by
  obtain ⟨h0, sl, h1, h2, rfl⟩ := gm_wr_some h
  exact (gm_set_ge h1 List.length_set).1
def s_as (r : DE Nat) (ix e : DE Int32) : SD := fun L M => (r L M).bind fun p => (ix L p.2).bind fun q => (e L q.2).bind fun u => (gm_wr u.2 p.1 q.1 u.1).bind fun M' => some (.inl (L, M'))
theorem sc_as {C : CX} {pc p1 p2 p3 : Nat} {r : DE Nat} {ix e : DE Int32} (hr : EC C Value.ref 0 pc p1 r) (hi : EC C Value.int 1 p1 p2 ix) (hv : EC C Value.int 2 p2 p3 e) (hd : decode (c_cc C) p3 = .ok (.iastore, 1)) : SC C pc (p3 + 1) (s_as r ix e) := by
  intro L M rr he
  obtain ⟨⟨id, M1⟩, h1, h2⟩ := bind_some he
  obtain ⟨⟨i, M2⟩, h3, h4⟩ := bind_some h2
  obtain ⟨⟨x, M3⟩, h5, h6⟩ := bind_some h4
  obtain ⟨M4, h7, h8⟩ := bind_some h6
  cases h8
  obtain ⟨g1, w1⟩ := hr L M id _ h1
  obtain ⟨g2, w2⟩ := hi L M1 i _ h3
  obtain ⟨g3, w3⟩ := hv L M2 x _ h5
  have g4 := gm_wr_le h7
  exact ⟨g1.tr (g2.tr (g3.tr g4)), fun X hX hf w => w1 X hX [] (Nat.le_refl _) (g2.tr (g3.tr (g4.tr hf))) (w2 X hX [.ref id] (Nat.le_refl _) (g3.tr (g4.tr hf)) (w3 X hX [.int i, .ref id] (Nat.le_refl _) (g4.tr hf) (wa_wr hX hd h7 hf w)))⟩
/-- r[ix] = r[ix] op e, as javac writes it: dup2, iaload, e, op, iastore -/
def s_aop (op : Int32 → Int32 → Int32) (r : DE Nat) (ix e : DE Int32) : SD := fun L M => (r L M).bind fun p => (ix L p.2).bind fun q => (gm_rd q.2 p.1 q.1).bind fun v => (e L q.2).bind fun u => (gm_wr u.2 p.1 q.1 (op v u.1)).bind fun M' => some (.inl (L, M'))
theorem sc_aopW {C : CX} {pc p1 p2 p3 p4 : Nat} {op : Int32 → Int32 → Int32} {r : DE Nat} {ix e : DE Int32} (hr : EC C Value.ref 0 pc p1 r) (hi : EC C Value.int 1 p1 p2 ix) (d1 : decode (c_cc C) p2 = .ok (.dup2, 1)) (d2 : decode (c_cc C) (p2 + 1) = .ok (.iaload, 1)) (hv : EC C Value.int 3 (p2 + 2) p3 e) (hop : ∀ X, XOK C X → ∀ L st M x y, WA X p4 L (.int (op x y) :: st) M → WA X p3 L (.int y :: .int x :: st) M) (hd : decode (c_cc C) p4 = .ok (.iastore, 1)) : SC C pc (p4 + 1) (s_aop op r ix e) := by
  intro L M rr he
  obtain ⟨⟨id, M1⟩, h1, h2⟩ := bind_some he
  obtain ⟨⟨i, M2⟩, h3, h4⟩ := bind_some h2
  obtain ⟨v, h9, h10⟩ := bind_some h4
  obtain ⟨⟨x, M3⟩, h5, h6⟩ := bind_some h10
  obtain ⟨M4, h7, h8⟩ := bind_some h6
  cases h8
  obtain ⟨g1, w1⟩ := hr L M id _ h1
  obtain ⟨g2, w2⟩ := hi L M1 i _ h3
  obtain ⟨g3, w3⟩ := hv L M2 x _ h5
  have g4 := gm_wr_le h7
  refine ⟨g1.tr (g2.tr (g3.tr g4)), fun X hX hf w => w1 X hX [] (Nat.le_refl _) (g2.tr (g3.tr (g4.tr hf))) (w2 X hX [.ref id] (Nat.le_refl _) (g3.tr (g4.tr hf)) ?_)⟩
  have k1 := w3 X hX [.int v, .int i, .ref id] (Nat.le_refl _) (g4.tr hf) (hop X hX L _ _ v x (wa_wr hX hd h7 hf w))
  have k2 := wa_rd hX d2 h9 k1
  intro hm ls H locs hl hP hS
  exact lv_dup2_11 hX.1 hX.2.1 d1 rfl rfl (k2 hm ls H locs hl hP hS)
theorem sc_aop_iadd {C : CX} {pc p1 p2 p3 : Nat} {r : DE Nat} {ix e : DE Int32} (hr : EC C Value.ref 0 pc p1 r) (hi : EC C Value.int 1 p1 p2 ix) (d1 : decode (c_cc C) p2 = .ok (.dup2, 1)) (d2 : decode (c_cc C) (p2 + 1) = .ok (.iaload, 1)) (hv : EC C Value.int 3 (p2 + 2) p3 e) (d3 : decode (c_cc C) p3 = .ok (.iadd, 1)) (hd : decode (c_cc C) (p3 + 1) = .ok (.iastore, 1)) : SC C pc (p3 + 2) (s_aop (fun (x y : Int32) => x + y) r ix e) := sc_aopW hr hi d1 d2 hv (fun X hX L st M x y w hm ls H locs hl hP hS => lv_iadd hX.1 hX.2.1 d3 (w hm ls H locs hl hP hS)) hd
theorem sc_aop_isub {C : CX} {pc p1 p2 p3 : Nat} {r : DE Nat} {ix e : DE Int32} (hr : EC C Value.ref 0 pc p1 r) (hi : EC C Value.int 1 p1 p2 ix) (d1 : decode (c_cc C) p2 = .ok (.dup2, 1)) (d2 : decode (c_cc C) (p2 + 1) = .ok (.iaload, 1)) (hv : EC C Value.int 3 (p2 + 2) p3 e) (d3 : decode (c_cc C) p3 = .ok (.isub, 1)) (hd : decode (c_cc C) (p3 + 1) = .ok (.iastore, 1)) : SC C pc (p3 + 2) (s_aop (fun (x y : Int32) => x - y) r ix e) := sc_aopW hr hi d1 d2 hv (fun X hX L st M x y w hm ls H locs hl hP hS => lv_isub hX.1 hX.2.1 d3 (w hm ls H locs hl hP hS)) hd
theorem sc_aop_imul {C : CX} {pc p1 p2 p3 : Nat} {r : DE Nat} {ix e : DE Int32} (hr : EC C Value.ref 0 pc p1 r) (hi : EC C Value.int 1 p1 p2 ix) (d1 : decode (c_cc C) p2 = .ok (.dup2, 1)) (d2 : decode (c_cc C) (p2 + 1) = .ok (.iaload, 1)) (hv : EC C Value.int 3 (p2 + 2) p3 e) (d3 : decode (c_cc C) p3 = .ok (.imul, 1)) (hd : decode (c_cc C) (p3 + 1) = .ok (.iastore, 1)) : SC C pc (p3 + 2) (s_aop (fun (x y : Int32) => x * y) r ix e) := sc_aopW hr hi d1 d2 hv (fun X hX L st M x y w hm ls H locs hl hP hS => lv_imul hX.1 hX.2.1 d3 (w hm ls H locs hl hP hS)) hd
theorem sc_aop_ior {C : CX} {pc p1 p2 p3 : Nat} {r : DE Nat} {ix e : DE Int32} (hr : EC C Value.ref 0 pc p1 r) (hi : EC C Value.int 1 p1 p2 ix) (d1 : decode (c_cc C) p2 = .ok (.dup2, 1)) (d2 : decode (c_cc C) (p2 + 1) = .ok (.iaload, 1)) (hv : EC C Value.int 3 (p2 + 2) p3 e) (d3 : decode (c_cc C) p3 = .ok (.ior, 1)) (hd : decode (c_cc C) (p3 + 1) = .ok (.iastore, 1)) : SC C pc (p3 + 2) (s_aop (fun (x y : Int32) => x ||| y) r ix e) := sc_aopW hr hi d1 d2 hv (fun X hX L st M x y w hm ls H locs hl hP hS => lv_ior hX.1 hX.2.1 d3 (w hm ls H locs hl hP hS)) hd
def gm_pf (M : GM) (id ci k : Nat) (v : Value) : Option GM := (M[id]?).bind fun c => if c.1 = ci ∧ k < c.2.length then some (M.set id (ci, c.2.set k v)) else none
theorem gm_pf_some {M M' : GM} {id ci k : Nat} {v : Value} (h : gm_pf M id ci k v = some M') : ∃ sl, M[id]? = some (ci, sl) ∧ k < sl.length ∧ M' = M.set id (ci, sl.set k v) := by
  obtain ⟨⟨a, sl⟩, h1, h2⟩ := bind_some h
  by_cases e : a = ci ∧ k < sl.length
  · rw [if_pos e] at h2
    obtain ⟨rfl, e2⟩ := e
    exact ⟨sl, h1, e2, (Option.some.inj h2).symm⟩
  · rw [if_neg e] at h2; cases h2
theorem gm_pf_le {M M' : GM} {id ci k : Nat} {v : Value} (h : gm_pf M id ci k v = some M') : gm_le M M' := by
  obtain ⟨sl, h1, h2, rfl⟩ := gm_pf_some h
  exact (gm_set_ge h1 List.length_set).1
theorem wa_pf {C : CX} {X : MX} (h : XOK C X) {pc idx ci k : Nat} {t : FieldType} (hf : FL (c_own C) idx ci k t false) (hd : decode (c_cc C) pc = .ok (.putfield idx, 3)) {L st : List Value} {M M' : GM} {id : Nat} {v : Value} (hr : gm_pf M id ci k v = some M') (hle : gm_le M' (x_tg X).2) (hn : narrow t (tv (k_ad (x_K X)) v) = tv (k_ad (x_K X)) v) (hfit : fits t (tv (k_ad (x_K X)) v) = true) (w : WA X (pc + 3) L st M') : WA X pc L (v :: .ref id :: st) M := by
  obtain ⟨sl, h1, h2, rfl⟩ := gm_pf_some hr
  exact wa_put h hf hd h1 h2 ((gm_set_ge h1 List.length_set).1.tr hle) hn hfit w
def s_pf {α : Type} (inj : α → Value) (ci k : Nat) (r : DE Nat) (e : DE α) : SD := fun L M => (r L M).bind fun p => (e L p.2).bind fun u => (gm_pf u.2 p.1 ci k (inj u.1)).bind fun M' => some (.inl (L, M'))
def s_pfz (ci k : Nat) (r : DE Nat) (e : DE Int32) : SD := fun L M => (r L M).bind fun p => (e L p.2).bind fun u => if u.1 = 0 ∨ u.1 = 1 then (gm_pf u.2 p.1 ci k (.int u.1)).bind fun M' => some (.inl (L, M')) else none
theorem sc_pf {C : CX} {pc p1 p2 idx ci k : Nat} {r : DE Nat} {e : DE Int32} (hr : EC C Value.ref 0 pc p1 r) (hv : EC C Value.int 1 p1 p2 e) (hf : FL (c_own C) idx ci k .int false) (hd : decode (c_cc C) p2 = .ok (.putfield idx, 3)) : SC C pc (p2 + 3) (s_pf Value.int ci k r e) := by
  intro L M rr he
  obtain ⟨⟨id, M1⟩, h1, h2⟩ := bind_some he
  obtain ⟨⟨x, M2⟩, h3, h4⟩ := bind_some h2
  obtain ⟨M3, h5, h6⟩ := bind_some h4
  cases h6
  obtain ⟨g1, w1⟩ := hr L M id _ h1
  obtain ⟨g2, w2⟩ := hv L M1 x _ h3
  have g3 := gm_pf_le h5
  exact ⟨g1.tr (g2.tr g3), fun X hX hle w => w1 X hX [] (Nat.le_refl _) (g2.tr (g3.tr hle)) (w2 X hX [.ref id] (Nat.le_refl _) (g3.tr hle) (wa_pf hX hf hd h5 hle rfl rfl w))⟩
theorem sc_pfz {C : CX} {pc p1 p2 idx ci k : Nat} {r : DE Nat} {e : DE Int32} (hr : EC C Value.ref 0 pc p1 r) (hv : EC C Value.int 1 p1 p2 e) (hf : FL (c_own C) idx ci k .boolean false) (hd : decode (c_cc C) p2 = .ok (.putfield idx, 3)) : SC C pc (p2 + 3) (s_pfz ci k r e) := by
  intro L M rr he
  obtain ⟨⟨id, M1⟩, h1, h2⟩ := bind_some he
  obtain ⟨⟨x, M2⟩, h3, h4⟩ := bind_some h2
  by_cases hx : x = 0 ∨ x = 1
  · rw [if_pos hx] at h4
    obtain ⟨M3, h5, h6⟩ := bind_some h4
    cases h6
    obtain ⟨g1, w1⟩ := hr L M id _ h1
    obtain ⟨g2, w2⟩ := hv L M1 x _ h3
    have g3 := gm_pf_le h5
    exact ⟨g1.tr (g2.tr g3), fun X hX hle w => w1 X hX [] (Nat.le_refl _) (g2.tr (g3.tr hle)) (w2 X hX [.ref id] (Nat.le_refl _) (g3.tr hle) (wa_pf hX hf hd h5 hle (by rcases hx with rfl | rfl <;> rfl) (by rcases hx with rfl | rfl <;> rfl) w))⟩
  · rw [if_neg hx] at h4; cases h4
/-- r.f = r.f op e: dup, getfield, e, op, putfield -/
def s_fop (op : Int32 → Int32 → Int32) (ci k : Nat) (r : DE Nat) (e : DE Int32) : SD := fun L M => (r L M).bind fun p => match gm_fld p.2 p.1 ci k with
  | some (.int v) => (e L p.2).bind fun u => (gm_pf u.2 p.1 ci k (.int (op v u.1))).bind fun M' => some (.inl (L, M'))
  | _ => none
theorem sc_fopW {C : CX} {pc p1 p3 p4 idx ci k : Nat} {op : Int32 → Int32 → Int32} {r : DE Nat} {e : DE Int32} (hr : EC C Value.ref 0 pc p1 r) (d1 : decode (c_cc C) p1 = .ok (.dup, 1)) (hf : FL (c_own C) idx ci k .int false) (d2 : decode (c_cc C) (p1 + 1) = .ok (.getfield idx, 3)) (hv : EC C Value.int 2 (p1 + 4) p3 e) (hop : ∀ X, XOK C X → ∀ L st M x y, WA X p4 L (.int (op x y) :: st) M → WA X p3 L (.int y :: .int x :: st) M) (hd : decode (c_cc C) p4 = .ok (.putfield idx, 3)) : SC C pc (p4 + 3) (s_fop op ci k r e) := by
  intro L M rr he
  obtain ⟨⟨id, M1⟩, h1, h2⟩ := bind_some he
  simp only at h2
  split at h2
  · rename_i v hx
    obtain ⟨⟨x, M2⟩, h3, h4⟩ := bind_some h2
    obtain ⟨M3, h5, h6⟩ := bind_some h4
    cases h6
    obtain ⟨g1, w1⟩ := hr L M id _ h1
    obtain ⟨g2, w2⟩ := hv L M1 x _ h3
    have g3 := gm_pf_le h5
    obtain ⟨sl, h7, h8⟩ := gm_fld_some hx
    refine ⟨g1.tr (g2.tr g3), fun X hX hle w => w1 X hX [] (Nat.le_refl _) (g2.tr (g3.tr hle)) ?_⟩
    have k1 := w2 X hX [.int v, .ref id] (Nat.le_refl _) (g3.tr hle) (hop X hX L _ _ v x (wa_pf hX hf hd h5 hle rfl rfl w))
    have k2 := wa_get hX hf d2 h7 h8 k1
    intro hm ls H locs hl hP hS
    exact lv_dup hX.1 hX.2.1 d1 rfl (k2 hm ls H locs hl hP hS)
  · cases h2
theorem sc_fop_iadd {C : CX} {pc p1 p3 idx ci k : Nat} {r : DE Nat} {e : DE Int32} (hr : EC C Value.ref 0 pc p1 r) (d1 : decode (c_cc C) p1 = .ok (.dup, 1)) (hf : FL (c_own C) idx ci k .int false) (d2 : decode (c_cc C) (p1 + 1) = .ok (.getfield idx, 3)) (hv : EC C Value.int 2 (p1 + 4) p3 e) (d3 : decode (c_cc C) p3 = .ok (.iadd, 1)) (hd : decode (c_cc C) (p3 + 1) = .ok (.putfield idx, 3)) : SC C pc (p3 + 4) (s_fop (fun (x y : Int32) => x + y) ci k r e) := sc_fopW hr d1 hf d2 hv (fun X hX L st M x y w hm ls H locs hl hP hS => lv_iadd hX.1 hX.2.1 d3 (w hm ls H locs hl hP hS)) hd
theorem sc_fop_isub {C : CX} {pc p1 p3 idx ci k : Nat} {r : DE Nat} {e : DE Int32} (hr : EC C Value.ref 0 pc p1 r) (d1 : decode (c_cc C) p1 = .ok (.dup, 1)) (hf : FL (c_own C) idx ci k .int false) (d2 : decode (c_cc C) (p1 + 1) = .ok (.getfield idx, 3)) (hv : EC C Value.int 2 (p1 + 4) p3 e) (d3 : decode (c_cc C) p3 = .ok (.isub, 1)) (hd : decode (c_cc C) (p3 + 1) = .ok (.putfield idx, 3)) : SC C pc (p3 + 4) (s_fop (fun (x y : Int32) => x - y) ci k r e) := sc_fopW hr d1 hf d2 hv (fun X hX L st M x y w hm ls H locs hl hP hS => lv_isub hX.1 hX.2.1 d3 (w hm ls H locs hl hP hS)) hd
/-- a final field that holds a cell, set in a constructor -/
def s_pff (ci k : Nat) (r e : DE Nat) : SD := s_pf Value.ref ci k r e
theorem sc_pff {C : CX} {pc p1 p2 idx ci k : Nat} {t : FieldType} {r e : DE Nat} (hr : EC C Value.ref 0 pc p1 r) (hv : EC C Value.ref 1 p1 p2 e) (hf : FL (c_own C) idx ci k t true) (hcn : ∀ q, vwCl[ci]? = some q → q.1 = c_own C) (hnm : c_nm C = "<init>") (ht : (∃ n, t = .object n) ∨ ∃ n, t = .array n) (hd : decode (c_cc C) p2 = .ok (.putfield idx, 3)) : SC C pc (p2 + 3) (s_pff ci k r e) := by
  intro L M rr he
  obtain ⟨⟨id, M1⟩, h1, h2⟩ := bind_some he
  obtain ⟨⟨x, M2⟩, h3, h4⟩ := bind_some h2
  obtain ⟨M3, h5, h6⟩ := bind_some h4
  cases h6
  obtain ⟨g1, w1⟩ := hr L M id _ h1
  obtain ⟨g2, w2⟩ := hv L M1 x _ h3
  have g3 := gm_pf_le h5
  refine ⟨g1.tr (g2.tr g3), fun X hX hle w => w1 X hX [] (Nat.le_refl _) (g2.tr (g3.tr hle)) (w2 X hX [.ref id] (Nat.le_refl _) (g3.tr hle) ?_)⟩
  obtain ⟨sl, h7, h8, rfl⟩ := gm_pf_some h5
  exact wa_putF hX hf hcn hnm hd h7 h8 ((gm_set_ge h7 List.length_set).1.tr hle) (by rcases ht with ⟨n, rfl⟩ | ⟨n, rfl⟩ <;> rfl) (by rcases ht with ⟨n, rfl⟩ | ⟨n, rfl⟩ <;> rfl) w
end
section
/-! making cells -/
theorem gm_push_le (M : GM) (c : Nat × List Value) : (M ++ [c]).length = M.length + 1 ∧ gm_sz (M ++ [c]) = gm_sz M + c.2.length := by
  refine ⟨by simp, ?_⟩
  unfold gm_sz
  simp
theorem gm_push_ge (M : GM) (c : Nat × List Value) : gm_le M (M ++ [c]) := by
  have e := gm_push_le M c
  unfold gm_le
  rw [e.1, e.2]
  omega
/-- the world behind a new cell at the heap's end -/
theorem gm_pushed {C : CX} {X : MX} (h : XOK C X) {M : GM} {c : Nat × List Value} {H H1 : Heap} {locs : List Loc} (hle : gm_le (M ++ [c]) (x_tg X).2) (hP : gm_H (x_K X) M H) (hS : va_S (k_A (x_K X)) (x_s X).heap H locs) (z : H1.size = H.size + 1) (oq : ∀ q, q < H.size → H1[q]? = H[q]?) (hat : va_at (k_D (x_K X)) vwCl (H.size, gm_cv (x_K X) c) H1) : k_ad (x_K X) M.length = H.size ∧ gm_H (x_K X) (M ++ [c]) H1 ∧ va_S (k_A (x_K X)) (x_s X).heap H1 locs := by
  have hl : M.length < SPB := by
    have h1 := hle.1
    rw [(gm_push_le M c).1] at h1
    exact Nat.lt_of_lt_of_le (Nat.lt_succ_self _) (Nat.le_trans h1 (Nat.le_of_lt h.2.2.2.2.2.2.2.2.2.1))
  have ead : k_ad (x_K X) M.length = H.size := by rw [h.2.2.2.2.2.2.1 _ hl, hP.2]
  refine ⟨ead, ⟨?_, by rw [z, hP.2, (gm_push_le M c).1]; omega⟩, ⟨Nat.le_trans hS.1 (by omega), fun q h1 h2 => (oq q (Nat.lt_of_lt_of_le h1 hS.1)).trans (hS.2.1 q h1 h2), hS.2.2⟩⟩
  rw [gm_ws_push]
  refine va_P.app (fun k q hk => (hP.1 k q hk).kept (oq q.1 (hP.1 k q hk).lt)) (fun k q hk => ?_)
  have hz : k < 1 := (List.getElem?_eq_some_iff.mp hk).1
  rw [show k = 0 by omega] at hk
  cases hk
  rw [ead]
  exact hat
theorem gm_room {C : CX} {X : MX} (h : XOK C X) {M : GM} {c : Nat × List Value} (hm : gm_le (x_M0 X) M) (hle : gm_le (M ++ [c]) (x_tg X).2) : M.length - (x_M0 X).length + 1 ≤ (x_R X).cells ∧ gm_sz M - gm_sz (x_M0 X) + c.2.length ≤ (x_R X).slots ∧ (M ++ [c]).length - (x_M0 X).length = M.length - (x_M0 X).length + 1 ∧ gm_sz (M ++ [c]) - gm_sz (x_M0 X) = gm_sz M - gm_sz (x_M0 X) + c.2.length := by
  have e := gm_push_le M c
  have h1 := h.2.2.2.2.2.2.2.2.1.2.2
  have h2 := hle
  unfold gm_le at h2 hm
  rw [e.1, e.2] at h2
  rw [e.1, e.2]
  omega
theorem wa_new {C : CX} {X : MX} (h : XOK C X) {pc idx ci N : Nat} {Cn : String} {T : u_T} {ty : Nat → FieldType} {fs : List Value} (f1 : vwCl[ci]? = some (Cn, T, N)) (f2 : ci < 10) (f3 : ∀ w ∈ u_ws Cn T N, w ∈ lw_g) (f6 : ∀ k, k < N → parseFieldDescriptor (T k).2.2.1 = some (ty k)) (hfl : fs.length = N) (hfs : ∀ (ad : Nat → Nat) j, j < N → defaultValue (ty j) = vp_V (fs.map (tv ad)) j) (hcl : Cond.classLink (c_own C) idx Cn ∈ lw_g) (hin : Cond.instantiable Cn N ∈ lw_g) (hini : Cond.initialized Cn ∈ lw_g) (hd : decode (c_cc C) pc = .ok (.new idx, 3)) {L st : List Value} {M : GM} (hle : gm_le (M ++ [(ci, fs)]) (x_tg X).2) (w : WA X (pc + 3) L (.ref M.length :: st) (M ++ [(ci, fs)])) : WA X pc L st M := by
  intro hm ls H locs hl hP hS
  have hr := gm_room h hm hle
  simp only [hfl] at hr
  have hKn := h.K.1 ci _ f1
  refine W.newcK h.1 h.2.1 h.2.2.2.1 (h.T hcl) (h.T hin) (h.T hini) rfl hd hr.1 hr.2.1 hKn.2.1 rfl fun H1 kC hkC e1 z1 o1 => ?_
  have hp := gm_pushed (c := (ci, fs)) (H1 := H1) h hle hP hS z1 o1 (by
    simp only [gm_cv, if_pos f2]
    exact ⟨_, f1, (u_born ty h.2.2.2.2.1 f3 hKn hkC e1 f6).to (hfs _)⟩)
  have w' := w (hm.tr (gm_push_ge _ _)) ls H1 locs hl hp.2.1 hp.2.2
  rw [hr.2.2.1, hr.2.2.2] at w'
  have e5 : (Value.ref M.length :: st).map (tv (k_ad (x_K X))) = Value.ref H.size :: st.map (tv (k_ad (x_K X))) := by
    show Value.ref (k_ad (x_K X) M.length) :: _ = _
    rw [hp.1]
  rw [e5] at w'
  exact w'
theorem iOf_rep (n : Nat) : (fun j => iOf ((List.replicate n (Value.int 0)).getD j .null)) = fun _ => (0 : Int32) := by
  funext j
  by_cases h : j < n
  · simp [List.getD_eq_getElem?_getD, List.getElem?_replicate, h, iOf]
  · simp [List.getD_eq_getElem?_getD, List.getElem?_replicate, h, iOf]
theorem wa_newi {C : CX} {X : MX} (h : XOK C X) {pc : Nat} (hcl : Cond.arrayClass .int ∈ lw_g) (hd : decode (c_cc C) pc = .ok (.newarray .int, 2)) {L st : List Value} {M : GM} {n : Int32} (h0 : 0 ≤ n) (hn : n.toNatClampNeg ≤ 1000) (hle : gm_le (M ++ [(10, List.replicate n.toNatClampNeg (.int 0))]) (x_tg X).2) (w : WA X (pc + 2) L (.ref M.length :: st) (M ++ [(10, List.replicate n.toNatClampNeg (.int 0))])) : WA X pc L (.int n :: st) M := by
  intro hm ls H locs hl hP hS
  have hr := gm_room h hm hle
  simp only [List.length_replicate] at hr
  refine va_newaK (atype := .int) h.1 h.2.1 (h.T hcl) rfl hd rfl (Int32.not_lt.mpr h0) rfl (by show _ * 4 ≤ _; omega) hr.1 hr.2.1 rfl fun H1 cA e1 z1 o1 hAr hNm => ?_
  have hcA : cA = k_cA (x_K X) 0 := by
    have h2 := (h.K.2 0 _ rfl).2
    exact Option.some.inj (hNm.symm.trans h2)
  have hp := gm_pushed (c := (10, List.replicate n.toNatClampNeg (.int 0))) (H1 := H1) h hle hP hS z1 o1 (by
    show H1[H.size]? = some (vp_cell (k_cA (x_K X) 0) ((List.replicate n.toNatClampNeg (Value.int 0)).length, .inl _))
    rw [iOf_rep, List.length_replicate, e1, hcA]
    rfl)
  have w' := w (hm.tr (gm_push_ge _ _)) ls H1 locs hl hp.2.1 hp.2.2
  rw [hr.2.2.1, hr.2.2.2] at w'
  have e5 : (Value.ref M.length :: st).map (tv (k_ad (x_K X))) = Value.ref H.size :: st.map (tv (k_ad (x_K X))) := by
    show Value.ref (k_ad (x_K X) M.length) :: _ = _
    rw [hp.1]
  rw [e5] at w'
  exact w'
theorem rOf_rep (ad : Nat → Nat) (n : Nat) : (fun j => rOf ad ((List.replicate n Value.null).getD j .null)) = fun _ => none := by
  funext j
  by_cases h : j < n
  · simp [List.getD_eq_getElem?_getD, List.getElem?_replicate, h, rOf]
  · simp [List.getD_eq_getElem?_getD, List.getElem?_replicate, h, rOf]
theorem wa_newq {C : CX} {X : MX} (h : XOK C X) {pc idx t : Nat} {Cn : String} (ht : (k_tys (x_K X))[1 + t]? = some (k_cA (x_K X) (1 + t), .object Cn)) (hov : va_AO Cn (x_s X)) (hcl : Cond.classLink (c_own C) idx Cn ∈ lw_g) (hd : decode (c_cc C) pc = .ok (.anewarray idx, 3)) {L st : List Value} {M : GM} {n : Int32} (h0 : 0 ≤ n) (hn : n.toNatClampNeg ≤ 1000) (hle : gm_le (M ++ [(11 + t, List.replicate n.toNatClampNeg .null)]) (x_tg X).2) (w : WA X (pc + 3) L (.ref M.length :: st) (M ++ [(11 + t, List.replicate n.toNatClampNeg .null)])) : WA X pc L (.int n :: st) M := by
  intro hm ls H locs hl hP hS
  have hr := gm_room h hm hle
  simp only [List.length_replicate] at hr
  refine W.anew h.1 h.2.1 h.2.2.2.1 (h.T hcl) (va_AO.use hov) rfl hd rfl (Int32.not_lt.mpr h0) (by omega) hr.1 hr.2.1 fun cA kA comp f1 f2 f3 f4 => ?_
  obtain ⟨kA', comp', g1, g2, g3, g4⟩ := (h.K.2 (1 + t) _ ht).2
  have hcA : cA = k_cA (x_K X) (1 + t) := Option.some.inj (f1.symm.trans g4)
  generalize hH1 : H.push ({ cls := cA, slots := Array.replicate n.toNatClampNeg .null, vm := .none } : Cell) = H1
  have z1 : H1.size = H.size + 1 := by rw [← hH1, Array.size_push]
  have e1 : H1[H.size]? = some (arrV cA n.toNatClampNeg (fun _ => .null)) := by rw [← hH1, Array.getElem?_push_size, ← arrV_new]
  have o1 : ∀ q : Nat, q < H.size → H1[q]? = H[q]? := fun q hq => by rw [← hH1, Array.getElem?_push, if_neg (Nat.ne_of_lt hq)]
  have hp := gm_pushed (c := (11 + t, List.replicate n.toNatClampNeg .null)) (H1 := H1) h hle hP hS z1 o1 (by
    have h1 : ¬ (11 + t < 10) := by omega
    have h2 : ¬ (11 + t = 10) := by omega
    have h3 : 11 + t - 10 = 1 + t := by omega
    simp only [gm_cv, if_neg h1, if_neg h2, h3, rOf_rep, List.length_replicate]
    show H1[H.size]? = some (vp_cell (k_cA (x_K X) (1 + t)) (n.toNatClampNeg, .inr (.inr (.inr (.inr _)))))
    rw [e1, hcA]
    rfl)
  have w' := w (hm.tr (gm_push_ge _ _)) ls H1 locs hl hp.2.1 hp.2.2
  rw [hr.2.2.1, hr.2.2.2] at w'
  have e5 : (Value.ref M.length :: st).map (tv (k_ad (x_K X))) = Value.ref H.size :: st.map (tv (k_ad (x_K X))) := by
    show Value.ref (k_ad (x_K X) M.length) :: _ = _
    rw [hp.1]
  rw [e5] at w'
  exact w'
def e_newi (n : DE Int32) : DE Nat := fun L M => (n L M).bind fun p => if 0 ≤ p.1 ∧ p.1.toNatClampNeg ≤ 1000 then some (p.2.length, p.2 ++ [(10, List.replicate p.1.toNatClampNeg (.int 0))]) else none
def e_newq (t : Nat) (n : DE Int32) : DE Nat := fun L M => (n L M).bind fun p => if 0 ≤ p.1 ∧ p.1.toNatClampNeg ≤ 1000 then some (p.2.length, p.2 ++ [(11 + t, List.replicate p.1.toNatClampNeg .null)]) else none
theorem ec_newi {C : CX} {k pc p1 : Nat} {n : DE Int32} (hn : EC C Value.int k pc p1 n) (hcl : Cond.arrayClass .int ∈ lw_g) (hd : decode (c_cc C) p1 = .ok (.newarray .int, 2)) : EC C Value.ref k pc (p1 + 2) (e_newi n) := by
  intro L M v M' he
  obtain ⟨⟨x, M1⟩, h1, h2⟩ := bind_some he
  obtain ⟨g, w⟩ := hn L M x _ h1
  by_cases hx : 0 ≤ x ∧ x.toNatClampNeg ≤ 1000
  · rw [if_pos hx] at h2
    cases h2
    exact ⟨g.tr (gm_push_ge _ _), fun X hX st hk hf ww => w X hX st hk ((gm_push_ge _ _).tr hf) (wa_newi hX hcl hd hx.1 hx.2 hf ww)⟩
  · rw [if_neg hx] at h2; cases h2
theorem ec_newq {C : CX} {k pc p1 idx t : Nat} {Cn : String} {n : DE Int32} (ht : (t = 0 ∧ Cn = RX0) ∨ (t = 1 ∧ Cn = RX2)) (hn : EC C Value.int k pc p1 n) (hcl : Cond.classLink (c_own C) idx Cn ∈ lw_g) (hd : decode (c_cc C) p1 = .ok (.anewarray idx, 3)) : EC C Value.ref k pc (p1 + 3) (e_newq t n) := by
  intro L M v M' he
  obtain ⟨⟨x, M1⟩, h1, h2⟩ := bind_some he
  obtain ⟨g, w⟩ := hn L M x _ h1
  by_cases hx : 0 ≤ x ∧ x.toNatClampNeg ≤ 1000
  · rw [if_pos hx] at h2
    cases h2
    refine ⟨g.tr (gm_push_ge _ _), fun X hX st hk hf ww => w X hX st hk ((gm_push_ge _ _).tr hf) (wa_newq hX ?_ ?_ hcl hd hx.1 hx.2 hf ww)⟩
    · rcases ht with ⟨rfl, rfl⟩ | ⟨rfl, rfl⟩ <;> rfl
    · rcases ht with ⟨rfl, rfl⟩ | ⟨rfl, rfl⟩
      · exact hX.I.2.2.2.2.1
      · exact hX.I.2.2.2.2.2
  · rw [if_neg hx] at h2; cases h2
/-! a cell into an array of cells -/
def s_aas (t ci : Nat) (r : DE Nat) (ix : DE Int32) (e : DE Nat) : SD := fun L M => (r L M).bind fun p => (ix L p.2).bind fun q => (e L q.2).bind fun u => if 0 ≤ q.1 then match u.2[p.1]?, u.2[u.1]? with
  | some c, some d => if c.1 = 11 + t ∧ q.1.toNatClampNeg < c.2.length ∧ d.1 = ci then some (.inl (L, u.2.set p.1 (11 + t, c.2.set q.1.toNatClampNeg (.ref u.1)))) else none
  | _, _ => none
  else none
theorem wa_aast {C : CX} {X : MX} (h : XOK C X) {pc t ci : Nat} {cl : vw_C} (htc : (t = 0 ∧ ci = 0) ∨ (t = 1 ∧ ci = 2)) (hc : vwCl[ci]? = some cl) (hd : decode (c_cc C) pc = .ok (.aastore, 1)) {L st : List Value} {M : GM} {id r : Nat} {sl vs : List Value} {i : Int32} (hM : M[id]? = some (11 + t, sl)) (hr : M[r]? = some (ci, vs)) (h0 : 0 ≤ i) (hi : i.toNatClampNeg < sl.length) (hle : gm_le M (x_tg X).2) (w : WA X (pc + 1) L st (M.set id (11 + t, sl.set i.toNatClampNeg (.ref r)))) : WA X pc L (.ref r :: .int i :: .ref id :: st) M := by
  intro hm ls H locs hl hP hS
  have hset := gm_set_le (sl' := sl.set i.toNatClampNeg (.ref r)) hM List.length_set
  have hD := h.D hle
  have ha := gm_ra (K := x_K X) hM
  have hci : ci < 10 := by rcases htc with ⟨-, rfl⟩ | ⟨-, rfl⟩ <;> decide
  have hv := gm_ob (K := x_K X) hr hci
  have ht : (k_tys (x_K X))[1 + t]? = some (k_cA (x_K X) (1 + t), .object cl.1) := by
    rcases htc with ⟨rfl, rfl⟩ | ⟨rfl, rfl⟩ <;> (cases hc; rfl)
  obtain ⟨r', hr', cellV, g1, g2, g3, -⟩ := hP.1 r _ hv
  have hcls := (h.K.1 ci cl hc).2
  obtain ⟨kA, comp, k1, k2, k3, -⟩ := (h.K.2 (1 + t) _ ht).2
  have hcomp : comp = (k_D (x_K X)).1 ci := Option.some.inj (k3.symm.trans hcls.1)
  subst hcomp
  obtain ⟨kC, hkC, -⟩ := hcls.2
  refine W.aast h.1 h.2.1 (hP.1 id _ ha) (fun q h => by cases h) (fun h => by cases h) k1 k2 rfl hkC ⟨Int32.not_lt.mpr h0, by show _ < (arrV _ _ _).slots.size; rw [arrV_size]; exact hi⟩ g1 (fun q h => by rw [g3] at h; cases h) (by rw [g2]; exact hkC) (by rw [g2]; exact va_assign hcls) rfl rfl hd fun H1 e z oq => ?_
  have hP' := hP.1.set hD ha (e := gm_cv (x_K X) (11 + t, sl.set i.toNatClampNeg (.ref r))) (by
    have h1 : ¬ (11 + t < 10) := by omega
    have h2 : ¬ (11 + t = 10) := by omega
    have h3 : 11 + t - 10 = 1 + t := by omega
    simp only [gm_cv, if_neg h1, if_neg h2, h3, List.length_set]
    show H1[_]? = some (vp_cell _ (_, .inr (.inr (.inr (.inr _)))))
    rw [e, vp_cell_q, vp_cell_q, arrV_store]
    congr 2
    funext q
    by_cases hq : q = i.toNatClampNeg
    · subst hq
      simp [updV, List.getD_eq_getElem?_getD, hi, rOf, va_rf]
    · simp [updV, hq, List.getD_eq_getElem?_getD, List.getElem?_set, Ne.symm hq]) oq
  rw [gm_ws_set] at hP'
  have w' := fun lc hS' => w (by unfold gm_le; rw [hset.1, hset.2]; exact hm) ls H1 lc hl ⟨hP', by rw [z, hP.2, hset.1]⟩ hS'
  simp only [hset.1, hset.2] at w'
  exact w' _ (hS.put z oq (hD.2 id _ ha))
theorem sc_aas {C : CX} {pc p1 p2 p3 t ci : Nat} {cl : vw_C} {r e : DE Nat} {ix : DE Int32} (htc : (t = 0 ∧ ci = 0) ∨ (t = 1 ∧ ci = 2)) (hc : vwCl[ci]? = some cl) (hr : EC C Value.ref 0 pc p1 r) (hi : EC C Value.int 1 p1 p2 ix) (hv : EC C Value.ref 2 p2 p3 e) (hd : decode (c_cc C) p3 = .ok (.aastore, 1)) : SC C pc (p3 + 1) (s_aas t ci r ix e) := by
  intro L M rr he
  obtain ⟨⟨id, M1⟩, h1, h2⟩ := bind_some he
  obtain ⟨⟨i, M2⟩, h3, h4⟩ := bind_some h2
  obtain ⟨⟨x, M3⟩, h5, h6⟩ := bind_some h4
  obtain ⟨g1, w1⟩ := hr L M id _ h1
  obtain ⟨g2, w2⟩ := hi L M1 i _ h3
  obtain ⟨g3, w3⟩ := hv L M2 x _ h5
  simp only at h6
  by_cases h0 : 0 ≤ i
  · rw [if_pos h0] at h6
    split at h6
    · rename_i c d hc1 hd1
      by_cases hh : c.1 = 11 + t ∧ i.toNatClampNeg < c.2.length ∧ d.1 = ci
      · rw [if_pos hh] at h6
        obtain ⟨e1, e2, e3⟩ := hh
        cases h6
        obtain ⟨a, sl⟩ := c
        obtain ⟨b, vs⟩ := d
        simp only at e1 e2 e3
        subst e1; subst e3
        have g4 := (gm_set_ge (sl' := sl.set i.toNatClampNeg (.ref x)) hc1 List.length_set).1
        exact ⟨g1.tr (g2.tr (g3.tr g4)), fun X hX hf w => w1 X hX [] (Nat.le_refl _) (g2.tr (g3.tr (g4.tr hf))) (w2 X hX [.ref id] (Nat.le_refl _) (g3.tr (g4.tr hf)) (w3 X hX [.int i, .ref id] (Nat.le_refl _) (g4.tr hf) (wa_aast hX htc hc hd hc1 hd1 h0 e2 (g4.tr hf) w)))⟩
      · rw [if_neg hh] at h6; cases h6
    · cases h6
  · rw [if_neg h0] at h6; cases h6
end
section
/-! copying -/
def l_cpy (a b : List Value) (sp dp n : Nat) : List Value := b.take dp ++ ((a.drop sp).take n ++ b.drop (dp + n))
theorem l_cpy_len {a b : List Value} {sp dp n : Nat} (h1 : sp + n ≤ a.length) (h2 : dp + n ≤ b.length) : (l_cpy a b sp dp n).length = b.length := by
  unfold l_cpy; simp; omega
theorem l_cpy_at {a b : List Value} {sp dp n : Nat} (h1 : sp + n ≤ a.length) (h2 : dp + n ≤ b.length) (j : Nat) : (l_cpy a b sp dp n)[j]? = if dp ≤ j ∧ j < dp + n then a[sp + (j - dp)]? else b[j]? := by
  unfold l_cpy
  have hl : (b.take dp).length = dp := by simp; omega
  have hm : ((a.drop sp).take n).length = n := by simp; omega
  by_cases c1 : j < dp
  · rw [List.getElem?_append_left (by omega), if_neg (by omega), List.getElem?_take, if_pos c1]
  · rw [List.getElem?_append_right (by omega), hl]
    by_cases c2 : j < dp + n
    · rw [List.getElem?_append_left (by omega), if_pos (by omega), List.getElem?_take, if_pos (by omega), List.getElem?_drop]
    · rw [List.getElem?_append_right (by omega), hm, if_neg (by omega), List.getElem?_drop]
      congr 1; omega
theorem iOf_cpy {a b : List Value} {sp dp n : Nat} (h1 : sp + n ≤ a.length) (h2 : dp + n ≤ b.length) : (fun j => iOf ((l_cpy a b sp dp n).getD j .null)) = va_cpy (fun j => iOf (a.getD j .null)) (fun j => iOf (b.getD j .null)) sp dp n := by
  funext j
  rw [List.getD_eq_getElem?_getD, l_cpy_at h1 h2]
  unfold va_cpy
  by_cases c : dp ≤ j ∧ j < dp + n
  · rw [if_pos c, if_pos c]; simp only [List.getD_eq_getElem?_getD]
  · rw [if_neg c, if_neg c]; simp only [List.getD_eq_getElem?_getD]
theorem gm_top {K : KX} {M : GM} {H : Heap} {i : Nat} {c : Nat × List Value} (hK : k_ok K) (hM : M.length < SPB) (hi : M[i]? = some c) (hP : va_P (k_D K) vwCl (gm_ws K M) H) : k_b K + M.length ≤ H.size := by
  have hl := (List.getElem?_eq_some_iff.mp hi).1
  have hlast : M[M.length - 1]? = some (M[M.length - 1]'(by omega)) := List.getElem?_eq_getElem (by omega)
  have h1 := (hP (M.length - 1) _ (gm_ws_of hlast)).lt
  simp only at h1
  rw [hK _ (by omega)] at h1
  omega
theorem wa_copy {C : CX} {X : MX} (h : XOK C X) {pc idx : Nat} (hl : Cond.methodLink (c_own C) idx arraycopyName ∈ lw_g) (hnat : Cond.native arraycopyName ∈ lw_g) (hstat : Cond.static arraycopyName ∈ lw_g) (hini : Cond.initialized "java/lang/System" ∈ lw_g) (hR : 1 ≤ c_fr C ∧ 18 ≤ c_lo C) (hd : decode (c_cc C) pc = .ok (.invokestatic idx, 3)) {L : List Value} {M : GM} {i0 i1 : Nat} {a b : List Value} {sp dp n : Int32} (h0 : M[i0]? = some (10, a)) (h1 : M[i1]? = some (10, b)) (p1 : 0 ≤ sp) (p2 : 0 ≤ dp) (p3 : 0 ≤ n) (p4 : sp.toNatClampNeg + n.toNatClampNeg ≤ a.length) (p5 : dp.toNatClampNeg + n.toNatClampNeg ≤ b.length) (hle : gm_le M (x_tg X).2) (w : WA X (pc + 3) L [] (M.set i1 (10, l_cpy a b sp.toNatClampNeg dp.toNatClampNeg n.toNatClampNeg))) : WA X pc L [.int n, .int dp, .ref i1, .int sp, .ref i0] M := by
  intro hm ls H locs hll hP hS
  have hset := gm_set_le (sl' := l_cpy a b sp.toNatClampNeg dp.toNatClampNeg n.toNatClampNeg) h1 (l_cpy_len p4 p5)
  have hD := h.D hle
  refine va_copyi (rest := []) h.1 h.2.1 hll.1.symm h.2.2.2.1 (h.T hl) (h.T hnat) (h.T hstat) (h.T hini) h.K hP.1 hD hS i0 i1 0 0 (gm_ia h0) (gm_ia h1) rfl rfl rfl (Int32.not_lt.mpr p1) (Int32.not_lt.mpr p2) (Int32.not_lt.mpr p3) p4 p5 (fun _ _ => rfl) (by rw [h.2.2.2.2.2.2.2.2.1.1]; exact hR.1) (by rw [h.2.2.2.2.2.2.2.2.1.2.1]; exact hR.2) hd fun H1 locs1 hP1 hD1 hS1 => ?_
  have e4 : (gm_ws (x_K X) M).set i1 (k_ad (x_K X) i1, .inl (k_cA (x_K X) 0, b.length, .inl (va_cpy (fun j => iOf (a.getD j .null)) (fun j => iOf (b.getD j .null)) sp.toNatClampNeg dp.toNatClampNeg n.toNatClampNeg))) = gm_ws (x_K X) (M.set i1 (10, l_cpy a b sp.toNatClampNeg dp.toNatClampNeg n.toNatClampNeg)) := by
    rw [← gm_ws_set]
    congr 2
    show _ = Sum.inl (k_cA (x_K X) 0, (l_cpy a b sp.toNatClampNeg dp.toNatClampNeg n.toNatClampNeg).length, Sum.inl _)
    rw [iOf_cpy p4 p5, l_cpy_len p4 p5]
  rw [e4] at hP1
  intro T hT XX
  have hlt : M.length < SPB := Nat.lt_of_le_of_lt hle.1 h.2.2.2.2.2.2.2.2.2.1
  have z1 : k_b (x_K X) + M.length ≤ H1.size := by
    have := gm_top (i := i1) (c := (10, l_cpy a b sp.toNatClampNeg dp.toNatClampNeg n.toNatClampNeg)) h.2.2.2.2.2.2.1 (by rw [hset.1]; exact hlt) (by rw [List.getElem?_set, if_pos rfl, if_pos (List.getElem?_eq_some_iff.mp h1).1]) hP1
    rw [hset.1] at this
    exact this
  have z2 : H1.size ≤ (x_s X).heap.size + (M.length - (x_M0 X).length) := by
    have := XX.same.2.2.1
    rw [← hT]
    exact this
  rw [h.2.2.2.2.2.2.2.2.2.2.1] at z2
  have hm1 := hm.1
  have w' := w (by unfold gm_le; rw [hset.1, hset.2]; exact hm) ls H1 locs1 hll ⟨hP1, by rw [hset.1]; omega⟩ hS1
  rw [hset.1, hset.2] at w'
  exact w' T hT XX
/-! arguments -/
def a_nil : DE (List Value) := fun _ M => some ([], M)
def a_snoc {α : Type} (inj : α → Value) (a : DE (List Value)) (e : DE α) : DE (List Value) := fun L M => (a L M).bind fun p => (e L p.2).bind fun q => some (p.1 ++ [inj q.1], q.2)
theorem ac_nil {C : CX} {k pc : Nat} : AC C k 0 pc pc a_nil := by
  intro L M vs M' he
  cases he
  exact ⟨rfl, gm_le.rf _, fun X hX st hk hf w => w⟩
theorem csum_append (a b : List Value) : csum (a ++ b) = csum a + csum b := by unfold csum; simp
theorem csum_reverse (a : List Value) : csum a.reverse = csum a := by
  induction a with
  | nil => rfl
  | cons x l ih => rw [List.reverse_cons, csum_append, ih, csum_cons, csum_cons]; show csum l + (x.category + 0) = _; omega
theorem ac_snoc {C : CX} {α : Type} {inj : α → Value} {k n c n2 k2 pc p1 p2 : Nat} {a : DE (List Value)} {e : DE α} (ha : AC C k n pc p1 a) (he : EC C inj k2 p1 p2 e) (hk2 : n + k = k2) (hc : ∀ x, (inj x).category = c) (hn2 : n + c = n2) : AC C k n2 pc p2 (a_snoc inj a e) := by
  intro L M vs M' h
  obtain ⟨⟨us, M1⟩, h1, h2⟩ := bind_some h
  obtain ⟨⟨x, M2⟩, h3, h4⟩ := bind_some h2
  cases h4
  obtain ⟨c1, g1, w1⟩ := ha L M us _ h1
  obtain ⟨g2, w2⟩ := he L M1 x _ h3
  refine ⟨by rw [csum_append, c1, ← hn2]; show n + ((inj x).category + 0) = _; rw [hc]; rfl, g1.tr g2, fun X hX st hk hf w => w1 X hX st hk (g2.tr hf) (w2 X hX (us.reverse ++ st) (by rw [csum_append, csum_reverse, c1, ← hk2]; omega) hf ?_)⟩
  simpa using w
/-! methods: what is known of one, its contract -/
abbrev MD : Type := MethodName × CX
def m_ws (d : MD) : List Cond := Cond.code d.1 (c_cc d.2) (c_nL d.2) (c_rt d.2) :: lw_g
def m_rm (d : MD) (M M' : GM) : Room := { frames := c_fr d.2, cells := M'.length - M.length, slots := gm_sz M' - gm_sz M, locals := c_lo d.2 }
def k_pre (K : KX) (M : GM) (U : State) : Prop := gm_H K M U.heap ∧ va_K (k_D K) vwCl (k_tys K) U ∧ k_inv K U U.heap
def rvOf (ad : Nat → Nat) (r : Value) : Option Value := match r with
  | .null => none
  | v => some (tv ad v)
def k_post (K : KX) (r : Value) (M' : GM) : Array Value → State → Outcome → State → Prop := fun _ st o t => o = .returned (rvOf (k_ad K) r) ∧ gm_H K M' t.heap ∧ va_F (k_A K) st t
def CALL (l : Launch) (K : KX) (d : MD) (vs : List Value) (M : GM) (r : Value) (M' : GM) : Prop := Met l d.1 (m_ws d) (m_rm d M M') (va_Pc (vs.map (tv (k_ad K))) (k_pre K M)) (k_post K r M') (M'.length - M.length) (gm_sz M' - gm_sz M) (k_A K)
def MS (d : MD) (D : List Value → GM → Option (Value × GM)) : Prop := ∀ vs M r M', D vs M = some (r, M') → gm_le M M' ∧ ∀ l K, k_ok K → M'.length < SPB → CALL l K d vs M r M'
def MOK (d : MD) (n : Nat) : Prop := Cond.initialized d.1.cls ∈ lw_g ∧ Cond.code d.1 (c_cc d.2) (c_nL d.2) (c_rt d.2) ∈ lw_g ∧ d.1.cls ≠ "java/lang/invoke/MethodHandle" ∧ d.1.cls ≠ "java/lang/invoke/VarHandle" ∧ (parseMethodDescriptor d.1.desc).map (fun d => d.parameters.length) = some n
theorem rv_st (ad : Nat → Nat) (r : Value) (st : List Value) : (rvOf ad r).toList ++ st.map (tv ad) = (retSt r ++ st).map (tv ad) := by cases r <;> rfl
theorem k_pre_blind (K : KX) (M : GM) (vs : List Value) : FrameBlind (va_Pc vs (k_pre K M)) := fun a U g mk q => ⟨q.1, q.2.1, va_K.moved (Vm.Alike.refl U.vm) q.2.2.1, k_inv.same (u := U) rfl q.2.2.2⟩
theorem k_pre_of {C : CX} {X : MX} (h : XOK C X) {M : GM} {H : Heap} {locs : List Loc} (hP : gm_H (x_K X) M H) (hS : va_S (k_A (x_K X)) (x_s X).heap H locs) (U : State) (hU : U.heap = H) (hW : (x_s X).WarmedH U.vm) : k_pre (x_K X) M U := ⟨by rw [hU]; exact hP, va_K.moved hW.alike h.K, by rw [hU]; exact (h.I.kept hS.2.1).warm hW⟩
theorem g_pay {C : CX} {X : MX} (h : XOK C X) {d : MD} {n : Nat} (hm : MOK d n) : ∀ w ∈ m_ws d, ∀ (a' : Array Value) (U : State), (x_s X).WarmedH U.vm → w.before a' U = true := by
  intro w hw a' U hW
  have hg : w ∈ lw_g := by
    rcases List.mem_cons.mp hw with rfl | hw
    · exact hm.2.1
    · exact hw
  exact word_at hW (good_of_word (List.mem_filter.mp hg).2) (h.T hg)
theorem wa_run {C : CX} {X : MX} (h : XOK C X) {pc : Nat} {L st stk : List Value} {M M' : GM} {r : Value} {a : Array Value} (run : ∀ (ls : Array Slot) (H : Heap) (locs : List Loc), lv_has ls (x_c X).maxLocals (lvL (k_ad (x_K X)) L) → gm_H (x_K X) M H → va_S (k_A (x_K X)) (x_s X).heap H locs → gm_le (x_M0 X) M → va_Run (x_p X) (x_l X) (x_e X) (x_R X) (x_s X) (x_m X) (x_args X) (x_below X) (x_meth X) (x_c X) H locs (M.length - (x_M0 X).length) (gm_sz M - gm_sz (x_M0 X)) (M'.length - M.length) (gm_sz M' - gm_sz M) (F0 (x_m X) pc ls (stk.map (tv (k_ad (x_K X))))) (st.map (tv (k_ad (x_K X)))) (k_post (x_K X) r M' a) (k_A (x_K X))) (hg : gm_le M M') (w : WA X (pc + 3) L (retSt r ++ st) M') : WA X pc L stk M := by
  intro hm ls H locs hl hP hS T hT XX
  obtain ⟨v, st₀, t, T', Lc, h0, X', hL, e1, e2, ⟨hv, hP', hz, hk⟩, stp⟩ := run ls H locs hl hP hS hm T hT XX
  rw [h0] at hz hk
  have hv : v = rvOf (k_ad (x_K X)) r := by injection hv
  have w' := w (hm.tr hg) ls T'.heap (locs ++ Lc) hl (by rw [e1]; exact hP') ⟨Nat.le_trans hS.1 (by rw [e1]; exact hz), fun q h1 h2 => by rw [e1, hk q (Nat.lt_of_lt_of_le h1 hS.1) h2]; exact hS.2.1 q h1 h2, fun q hq => by
      rcases List.mem_append.mp hq with h | h
      · exact hS.2.2 q h
      · exact hL q h⟩
  have hm1 := hm.1
  have hm2 := hm.2
  have hg1 := hg.1
  have hg2 := hg.2
  have c1 : M.length - (x_M0 X).length + (M'.length - M.length) = M'.length - (x_M0 X).length := by omega
  have c2 : gm_sz M - gm_sz (x_M0 X) + (gm_sz M' - gm_sz M) = gm_sz M' - gm_sz (x_M0 X) := by omega
  rw [c1, c2] at X'
  obtain ⟨t2, a1, b1⟩ := w' T' rfl X'
  rw [← rv_st, ← hv] at a1
  exact ⟨t2, stp t2 a1, b1⟩
theorem g_fit {C : CX} {X : MX} (h : XOK C X) {M M' : GM} (hm : gm_le (x_M0 X) M) (hg : gm_le M M') (hf : gm_le M' (x_tg X).2) : M.length - (x_M0 X).length + (M'.length - M.length) ≤ (x_R X).cells ∧ gm_sz M - gm_sz (x_M0 X) + (gm_sz M' - gm_sz M) ≤ (x_R X).slots := by
  have h1 := h.2.2.2.2.2.2.2.2.1.2.2
  unfold gm_le at hm hg hf
  omega
theorem wa_callS {C : CX} {X : MX} (h : XOK C X) {d : MD} {pc idx n : Nat} (hok : MOK d n) (hst : Cond.static d.1 ∈ lw_g) (hl : Cond.methodLink (c_own C) idx d.1 ∈ lw_g) (hR : c_fr d.2 + 1 ≤ c_fr C ∧ 8 + (c_nL d.2 + 11) + c_lo d.2 ≤ c_lo C) (hd : decode (c_cc C) pc = .ok (.invokestatic idx, 3)) {L st vs : List Value} {M M' : GM} {r : Value} (hlen : vs.length = n) (hcs : csum st ≤ 8) (hg : gm_le M M') (hf : gm_le M' (x_tg X).2) (hM : CALL (x_l X) (x_K X) d vs M r M') (w : WA X (pc + 3) L (retSt r ++ st) M') : WA X pc L (vs.reverse ++ st) M := by
  refine wa_run h (a := (vs.map (tv (k_ad (x_K X)))).toArray) (fun ls H locs hll hP hS hm => ?_) hg w
  refine va_runS (n := n) (As := vs.map (tv (k_ad (x_K X)))) ⟨h.1, h.2.1, h.2.2.1, h.2.2.2.1, h.2.2.2.2.1⟩ hM ⟨⟨rfl, rfl, ?_, ?_, g_pay h hok, List.mem_cons_self, h.T hok.2.1, h.T hok.1, ⟨hok.2.2.1, hok.2.2.2.1⟩, fun sig hs => ?_, h.T hl⟩, h.T hst⟩ ⟨k_pre_blind _ _ _, fun U hU hW => ⟨rfl, k_pre_of h hP hS U hU hW⟩⟩ rfl (by rw [List.length_map]; exact hlen) (by rw [hll.1]; exact h.2.2.1) (by simp) ?_ hd (g_fit h hm hg hf)
  · rw [h.2.2.2.2.2.2.2.2.1.1]; exact hR.1
  · rw [h.2.2.2.2.2.2.2.2.1.2.1]; exact hR.2
  · have h2 := hok.2.2.2.2
    rw [hs] at h2
    exact (Option.some.inj h2).symm
  · show 2 * 0 + _ ≤ 8
    rw [csum_tv]; omega
def recvOK (ci : Nat) (vs : List Value) (M : GM) : Bool := match vs with
  | .ref i :: _ => match M[i]? with
    | some c => c.1 == ci
    | none => false
  | _ => false
theorem recvOK_some {ci : Nat} {vs : List Value} {M : GM} (h : recvOK ci vs M = true) : ∃ i As sl, vs = .ref i :: As ∧ M[i]? = some (ci, sl) := by
  unfold recvOK at h
  split at h
  · rename_i i As
    split at h
    · rename_i c hc
      obtain ⟨a, sl⟩ := c
      have e : a = ci := by simpa using h
      subst e
      exact ⟨i, As, sl, rfl, hc⟩
    · cases h
  · cases h
theorem wa_callV {C : CX} {X : MX} (h : XOK C X) {d : MD} {pc idx n ci : Nat} {cl : vw_C} (hok : MOK d n) (hc : vwCl[ci]? = some cl) (hci : ci < 10) (hcn : d.1.cls = cl.1) (hin : Cond.instanceMethod d.1 ∈ lw_g) (hse : Cond.selects d.1.cls d.1 d.1 ∈ lw_g) (hl : Cond.methodLink (c_own C) idx d.1 ∈ lw_g) (hR : c_fr d.2 + 1 ≤ c_fr C ∧ 8 + (c_nL d.2 + 11) + c_lo d.2 ≤ c_lo C) (hd : decode (c_cc C) pc = .ok (.invokevirtual idx, 3)) {L st vs : List Value} {M M' : GM} {r : Value} (hlen : vs.length = n + 1) (hre : recvOK ci vs M = true) (hcs : csum st ≤ 8) (hg : gm_le M M') (hf : gm_le M' (x_tg X).2) (hM : CALL (x_l X) (x_K X) d vs M r M') (w : WA X (pc + 3) L (retSt r ++ st) M') : WA X pc L (vs.reverse ++ st) M := by
  obtain ⟨i, As, sl, rfl, hi⟩ := recvOK_some hre
  refine wa_run h (a := (Value.ref (k_ad (x_K X) i) :: As.map (tv (k_ad (x_K X)))).toArray) (fun ls H locs hll hP hS hm => ?_) hg w
  have hre := va_recv h.K hP.1 hc (gm_ob hi hci)
  refine va_runV (n := n) (C := cl.1) (As := As.map (tv (k_ad (x_K X)))) ⟨h.1, h.2.1, h.2.2.1, h.2.2.2.1, h.2.2.2.2.1⟩ hM ⟨⟨rfl, rfl, ?_, ?_, g_pay h hok, List.mem_cons_self, h.T hok.2.1, h.T hok.1, ⟨hok.2.2.1, hok.2.2.2.1⟩, fun sig hs => ?_, h.T hl⟩, h.T hin, by rw [← hcn]; exact h.T hse⟩ ⟨k_pre_blind _ _ _, hre, fun U hU hW => ⟨rfl, k_pre_of h hP hS U hU hW⟩⟩ rfl (by rw [List.length_map]; simpa using hlen) (by rw [hll.1]; exact h.2.2.1) (by simp [tv]) ?_ hd (g_fit h hm hg hf)
  · rw [h.2.2.2.2.2.2.2.2.1.1]; exact hR.1
  · rw [h.2.2.2.2.2.2.2.2.1.2.1]; exact hR.2
  · have h2 := hok.2.2.2.2
    rw [hs] at h2
    exact (Option.some.inj h2).symm
  · show 2 * 0 + _ ≤ 8
    rw [csum_tv]; omega
theorem wa_callI {C : CX} {X : MX} (h : XOK C X) {d : MD} {pc idx n : Nat} (hok : MOK d n) (hrt : c_rt d.2 = none) (hin : Cond.instanceMethod d.1 ∈ lw_g) (hnm : d.1.name = "<init>") (hl : Cond.methodLink (c_own C) idx d.1 ∈ lw_g ∨ (c_own C, idx, d.1) ∈ nm_tab) (hR : c_fr d.2 + 1 ≤ c_fr C ∧ 8 + (c_nL d.2 + 11) + c_lo d.2 ≤ c_lo C) (hd : decode (c_cc C) pc = .ok (.invokespecial idx, 3)) {L st As : List Value} {i : Nat} {M M' : GM} {r : Value} (hlen : As.length = n) (hcs : csum st ≤ 8) (hg : gm_le M M') (hf : gm_le M' (x_tg X).2) (hM : CALL (x_l X) (x_K X) d (.ref i :: As) M r M') (w : WA X (pc + 3) L (retSt r ++ st) M') : WA X pc L ((Value.ref i :: As).reverse ++ st) M := by
  have hpay := g_pay h hok
  have hcode := h.T hok.2.1
  have hM2 := hM
  unfold CALL m_ws at hM2
  unfold m_ws at hpay
  rw [hrt] at hM2 hpay hcode
  refine wa_run h (a := (Value.ref (k_ad (x_K X) i) :: As.map (tv (k_ad (x_K X)))).toArray) (fun ls H locs hll hP hS hm => ?_) hg w
  have r1 : (m_rm d M M').frames + 1 ≤ (x_R X).frames := by rw [h.2.2.2.2.2.2.2.2.1.1]; exact hR.1
  have r2 : 8 + (c_nL d.2 + 11) + (m_rm d M M').locals ≤ (x_R X).locals := by rw [h.2.2.2.2.2.2.2.2.1.2.1]; exact hR.2
  have r3 : ∀ sig, parseMethodDescriptor d.1.desc = some sig → n = sig.parameters.length := fun sig hs => by
    have h2 := hok.2.2.2.2
    rw [hs] at h2
    exact (Option.some.inj h2).symm
  have r4 : 2 * (F0 (x_m X) pc ls (((Value.ref i :: As).reverse ++ st).map (tv (k_ad (x_K X))))).monitorRoom + ((st.map (tv (k_ad (x_K X)))).map fun v => v.category).sum ≤ 8 := by
    show 2 * 0 + _ ≤ 8
    rw [csum_tv]; omega
  rcases hl with hl | hl
  · exact va_runI (As := As.map (tv (k_ad (x_K X)))) ⟨h.1, h.2.1, h.2.2.1, h.2.2.2.1, h.2.2.2.2.1⟩ hM2 ⟨⟨rfl, rfl, r1, r2, hpay, List.mem_cons_self, hcode, h.T hok.1, ⟨hok.2.2.1, hok.2.2.2.1⟩, r3, h.T hl⟩, hnm, h.T hin⟩ ⟨k_pre_blind _ _ _, fun U hU hW => ⟨rfl, k_pre_of h hP hS U hU hW⟩⟩ rfl (by rw [List.length_map]; exact hlen) (by rw [hll.1]; exact h.2.2.1) (by simp [tv]) r4 hd (g_fit h hm hg hf)
  · exact va_runIN (host := RX6) (As := As.map (tv (k_ad (x_K X)))) ⟨h.1, h.2.1, h.2.2.1, h.2.2.2.1, h.2.2.2.2.1⟩ hM2 ⟨⟨⟨rfl, rfl, r1, r2, hpay, List.mem_cons_self⟩, hcode, h.T hok.1, ⟨hok.2.2.1, hok.2.2.2.1⟩, r3, va_Nw.use rfl (h.I.2.2.1 _ hl)⟩, hnm, h.T hin⟩ ⟨k_pre_blind _ _ _, fun U hU hW => ⟨rfl, k_pre_of h hP hS U hU hW⟩⟩ rfl (by rw [List.length_map]; exact hlen) (by rw [hll.1]; exact h.2.2.1) (by simp [tv]) r4 hd (g_fit h hm hg hf)
end
section
/-! calls, in expressions and statements; a method's contract out of its body -/
abbrev MDen : Type := List Value → GM → Option (Value × GM)
def prI (v : Value) : Option Int32 := match v with
  | .int x => some x
  | _ => none
def prJ (v : Value) : Option Int64 := match v with
  | .long x => some x
  | _ => none
def prR (v : Value) : Option Nat := match v with
  | .ref x => some x
  | _ => none
def e_call {α : Type} (pr : Value → Option α) (D : MDen) (n : Nat) (a : DE (List Value)) : DE α := fun L M => (a L M).bind fun p => if p.1.length = n then (D p.1 p.2).bind fun q => (pr q.1).bind fun x => some (x, q.2) else none
def a_recv (ci : Nat) (a : DE (List Value)) : DE (List Value) := fun L M => (a L M).bind fun p => if recvOK ci p.1 p.2 then some p else none
def s_call (D : MDen) (n : Nat) (a : DE (List Value)) : SD := fun L M => (a L M).bind fun p => if p.1.length = n then (D p.1 p.2).bind fun q => if q.1 = .null then some (.inl (L, q.2)) else none else none
def s_pop (e : DE Int32) : SD := fun L M => (e L M).bind fun p => some (.inl (L, p.2))
def Inj {α : Type} (pr : Value → Option α) (inj : α → Value) : Prop := ∀ v x, pr v = some x → v = inj x ∧ retSt v = [inj x]
theorem inj_I : Inj prI Value.int := fun v x h => by cases v <;> cases h; exact ⟨rfl, rfl⟩
theorem inj_J : Inj prJ Value.long := fun v x h => by cases v <;> cases h; exact ⟨rfl, rfl⟩
theorem inj_R : Inj prR Value.ref := fun v x h => by cases v <;> cases h; exact ⟨rfl, rfl⟩
/-- what a call site needs -/
def SITE (C : CX) (d : MD) (idx : Nat) : Prop := Cond.methodLink (c_own C) idx d.1 ∈ lw_g ∧ c_fr d.2 + 1 ≤ c_fr C ∧ 8 + (c_nL d.2 + 11) + c_lo d.2 ≤ c_lo C
def MST (d : MD) (n : Nat) : Prop := MOK d n ∧ Cond.static d.1 ∈ lw_g
def MVT (d : MD) (n ci : Nat) : Prop := MOK d n ∧ Cond.instanceMethod d.1 ∈ lw_g ∧ Cond.selects d.1.cls d.1 d.1 ∈ lw_g ∧ ci < 10 ∧ ∃ cl, vwCl[ci]? = some cl ∧ d.1.cls = cl.1
theorem ec_callS {C : CX} {α : Type} {pr : Value → Option α} {inj : α → Value} {k m pc p1 idx n : Nat} {d : MD} {D : MDen} {a : DE (List Value)} (hpr : Inj pr inj) (hD : MS d D) (ht : MST d n) (hs : SITE C d idx) (ha : AC C k m pc p1 a) (hk8 : k ≤ 8) (hd : decode (c_cc C) p1 = .ok (.invokestatic idx, 3)) : EC C inj k pc (p1 + 3) (e_call pr D n a) := by
  intro L M v M' he
  obtain ⟨⟨vs, M1⟩, h1, h2⟩ := bind_some he
  by_cases hn : vs.length = n
  · simp only [if_pos hn] at h2
    obtain ⟨⟨r, M2⟩, h3, h4⟩ := bind_some h2
    obtain ⟨x, h5, h6⟩ := bind_some h4
    cases h6
    obtain ⟨e1, e2⟩ := hpr _ _ h5
    obtain ⟨c1, g1, w1⟩ := ha L M vs _ h1
    obtain ⟨g2, hc⟩ := hD vs M1 r _ h3
    refine ⟨g1.tr g2, fun X hX st hk hf w => w1 X hX st hk (g2.tr hf) (wa_callS hX ht.1 ht.2 hs.1 hs.2 hd hn (Nat.le_trans hk hk8) g2 hf (hc _ _ hX.2.2.2.2.2.2.1 (Nat.lt_of_le_of_lt hf.1 hX.2.2.2.2.2.2.2.2.2.1)) ?_)⟩
    simp only at e2
    rw [e2]
    exact w
  · simp only [if_neg hn] at h2; cases h2
theorem a_recv_some {ci : Nat} {a : DE (List Value)} {L vs : List Value} {M M1 : GM} (h : a_recv ci a L M = some (vs, M1)) : a L M = some (vs, M1) ∧ recvOK ci vs M1 = true := by
  obtain ⟨p, h1, h2⟩ := bind_some h
  by_cases hr : recvOK ci p.1 p.2 = true
  · rw [if_pos hr] at h2
    cases h2
    exact ⟨h1, hr⟩
  · rw [if_neg hr] at h2; cases h2
theorem ec_callV {C : CX} {α : Type} {pr : Value → Option α} {inj : α → Value} {k m pc p1 idx n ci : Nat} {d : MD} {D : MDen} {a : DE (List Value)} (hpr : Inj pr inj) (hD : MS d D) (ht : MVT d n ci) (hs : SITE C d idx) (ha : AC C k m pc p1 a) (hk8 : k ≤ 8) (hd : decode (c_cc C) p1 = .ok (.invokevirtual idx, 3)) : EC C inj k pc (p1 + 3) (e_call pr D (n + 1) (a_recv ci a)) := by
  intro L M v M' he
  obtain ⟨⟨vs, M1⟩, h1, h2⟩ := bind_some he
  obtain ⟨h1, hrv⟩ := a_recv_some h1
  by_cases hn : vs.length = n + 1
  · simp only [if_pos hn] at h2
    obtain ⟨⟨r, M2⟩, h3, h4⟩ := bind_some h2
    obtain ⟨x, h5, h6⟩ := bind_some h4
    cases h6
    obtain ⟨e1, e2⟩ := hpr _ _ h5
    obtain ⟨c1, g1, w1⟩ := ha L M vs _ h1
    obtain ⟨g2, hc⟩ := hD vs M1 r _ h3
    obtain ⟨t1, t2, t3, t4, cl, t5, t6⟩ := ht
    refine ⟨g1.tr g2, fun X hX st hk hf w => w1 X hX st hk (g2.tr hf) (wa_callV hX t1 t5 t4 t6 t2 t3 hs.1 hs.2 hd hn hrv (Nat.le_trans hk hk8) g2 hf (hc _ _ hX.2.2.2.2.2.2.1 (Nat.lt_of_le_of_lt hf.1 hX.2.2.2.2.2.2.2.2.2.1)) ?_)⟩
    simp only at e2
    rw [e2]
    exact w
  · simp only [if_neg hn] at h2; cases h2
theorem sc_callS {C : CX} {m pc p1 idx n : Nat} {d : MD} {D : MDen} {a : DE (List Value)} (hD : MS d D) (ht : MST d n) (hs : SITE C d idx) (ha : AC C 0 m pc p1 a) (hd : decode (c_cc C) p1 = .ok (.invokestatic idx, 3)) : SC C pc (p1 + 3) (s_call D n a) := by
  intro L M rr he
  obtain ⟨⟨vs, M1⟩, h1, h2⟩ := bind_some he
  by_cases hn : vs.length = n
  · simp only [if_pos hn] at h2
    obtain ⟨⟨r, M2⟩, h3, h4⟩ := bind_some h2
    by_cases hr : r = .null
    · simp only [if_pos hr] at h4
      subst hr
      cases h4
      obtain ⟨c1, g1, w1⟩ := ha L M vs _ h1
      obtain ⟨g2, hc⟩ := hD vs M1 .null _ h3
      exact ⟨g1.tr g2, fun X hX hf w => w1 X hX [] (Nat.le_refl _) (g2.tr hf) (wa_callS hX ht.1 ht.2 hs.1 hs.2 hd hn (Nat.zero_le _) g2 hf (hc _ _ hX.2.2.2.2.2.2.1 (Nat.lt_of_le_of_lt hf.1 hX.2.2.2.2.2.2.2.2.2.1)) w)⟩
    · simp only [if_neg hr] at h4; cases h4
  · simp only [if_neg hn] at h2; cases h2
theorem sc_callV {C : CX} {m pc p1 idx n ci : Nat} {d : MD} {D : MDen} {a : DE (List Value)} (hD : MS d D) (ht : MVT d n ci) (hs : SITE C d idx) (ha : AC C 0 m pc p1 a) (hd : decode (c_cc C) p1 = .ok (.invokevirtual idx, 3)) : SC C pc (p1 + 3) (s_call D (n + 1) (a_recv ci a)) := by
  intro L M rr he
  obtain ⟨⟨vs, M1⟩, h1, h2⟩ := bind_some he
  obtain ⟨h1, hrv⟩ := a_recv_some h1
  by_cases hn : vs.length = n + 1
  · simp only [if_pos hn] at h2
    obtain ⟨⟨r, M2⟩, h3, h4⟩ := bind_some h2
    by_cases hr : r = .null
    · simp only [if_pos hr] at h4
      subst hr
      cases h4
      obtain ⟨c1, g1, w1⟩ := ha L M vs _ h1
      obtain ⟨g2, hc⟩ := hD vs M1 .null _ h3
      obtain ⟨t1, t2, t3, t4, cl, t5, t6⟩ := ht
      exact ⟨g1.tr g2, fun X hX hf w => w1 X hX [] (Nat.le_refl _) (g2.tr hf) (wa_callV hX t1 t5 t4 t6 t2 t3 hs.1 hs.2 hd hn hrv (Nat.zero_le _) g2 hf (hc _ _ hX.2.2.2.2.2.2.1 (Nat.lt_of_le_of_lt hf.1 hX.2.2.2.2.2.2.2.2.2.1)) w)⟩
    · simp only [if_neg hr] at h4; cases h4
  · simp only [if_neg hn] at h2; cases h2
theorem sc_pop {C : CX} {pc p1 : Nat} {e : DE Int32} (he0 : EC C Value.int 0 pc p1 e) (hd : decode (c_cc C) p1 = .ok (.pop, 1)) : SC C pc (p1 + 1) (s_pop e) := by
  intro L M r he
  obtain ⟨⟨x, M1⟩, h1, h2⟩ := bind_some he
  cases h2
  obtain ⟨g, w⟩ := he0 L M x _ h1
  exact ⟨g, fun X hX hf ww => w X hX [] (Nat.le_refl _) hf (fun hm ls H locs hl hP hS => lv_pop hX.1 hX.2.1 hd rfl (ww hm ls H locs hl hP hS))⟩
/-- a new object: new, dup, invokespecial of a constructor without arguments -/
def e_new (ci : Nat) (fs : List Value) (D : MDen) : DE Nat := fun _ M => (D [.ref M.length] (M ++ [(ci, fs)])).bind fun q => if q.1 = .null then some (M.length, q.2) else none
def MKS (C : CX) (ci : Nat) (fs : List Value) (idx : Nat) : Prop := ∃ (Cn : String) (T : u_T) (N : Nat) (ty : Nat → FieldType), vwCl[ci]? = some (Cn, T, N) ∧ ci < 10 ∧ (∀ w ∈ u_ws Cn T N, w ∈ lw_g) ∧ (∀ k, k < N → parseFieldDescriptor (T k).2.2.1 = some (ty k)) ∧ fs.length = N ∧ (∀ (ad : Nat → Nat) j, j < N → defaultValue (ty j) = vp_V (fs.map (tv ad)) j) ∧ Cond.classLink (c_own C) idx Cn ∈ lw_g ∧ Cond.instantiable Cn N ∈ lw_g ∧ Cond.initialized Cn ∈ lw_g
def SITI (C : CX) (d : MD) (idx : Nat) : Prop := (Cond.methodLink (c_own C) idx d.1 ∈ lw_g ∨ (c_own C, idx, d.1) ∈ nm_tab) ∧ (c_fr d.2 + 1 ≤ c_fr C ∧ 8 + (c_nL d.2 + 11) + c_lo d.2 ≤ c_lo C) ∧ MOK d 0 ∧ c_rt d.2 = none ∧ Cond.instanceMethod d.1 ∈ lw_g ∧ d.1.name = "<init>"
theorem ec_new {C : CX} {k pc i1 i2 ci : Nat} {fs : List Value} {d : MD} {D : MDen} (hD : MS d D) (hm : MKS C ci fs i1) (hs : SITI C d i2) (hk8 : k + 1 ≤ 8) (d1 : decode (c_cc C) pc = .ok (.new i1, 3)) (d2 : decode (c_cc C) (pc + 3) = .ok (.dup, 1)) (d3 : decode (c_cc C) (pc + 4) = .ok (.invokespecial i2, 3)) : EC C Value.ref k pc (pc + 7) (e_new ci fs D) := by
  intro L M v M' he
  obtain ⟨⟨r, M2⟩, h1, h2⟩ := bind_some he
  by_cases hr : r = .null
  · simp only [if_pos hr] at h2
    subst hr
    cases h2
    obtain ⟨g2, hc⟩ := hD _ _ _ _ h1
    obtain ⟨Cn, T, N, ty, m1, m2, m3, m4, m5, m6, m7, m8, m9⟩ := hm
    obtain ⟨s1, s2, s3, s4, s5, s6⟩ := hs
    refine ⟨(gm_push_ge _ _).tr g2, fun X hX st hk hf w => ?_⟩
    refine wa_new hX m1 m2 m3 m4 m5 m6 m7 m8 m9 d1 (g2.tr hf) ?_
    have k1 := wa_callI (As := []) (st := .ref M.length :: st) hX s3 s4 s5 s6 s1 s2 d3 rfl (by rw [csum_cons]; show 1 + csum st ≤ 8; omega) g2 hf (hc _ _ hX.2.2.2.2.2.2.1 (Nat.lt_of_le_of_lt hf.1 hX.2.2.2.2.2.2.2.2.2.1)) w
    intro hmm ls H locs hl hP hS
    exact lv_dup hX.1 hX.2.1 d2 rfl (k1 hmm ls H locs hl hP hS)
  · simp only [if_neg hr] at h2; cases h2
/-- Object's constructor -/
def s_obj (r : DE Nat) : SD := fun L M => (r L M).bind fun p => some (.inl (L, p.2))
theorem sc_obj {C : CX} {pc p1 idx : Nat} {r : DE Nat} (hr : EC C Value.ref 0 pc p1 r) (hl : Cond.methodLink (c_own C) idx Lib.objectInit ∈ lw_g) (hin : Cond.instanceMethod Lib.objectInit ∈ lw_g) (hcd : Cond.code Lib.objectInit ⟨#[0xb1]⟩ 1 none ∈ lw_g) (hR : 1 ≤ c_fr C ∧ 12 ≤ c_lo C) (hd : decode (c_cc C) p1 = .ok (.invokespecial idx, 3)) : SC C pc (p1 + 3) (s_obj r) := by
  intro L M rr he
  obtain ⟨⟨id, M1⟩, h1, h2⟩ := bind_some he
  cases h2
  obtain ⟨g, w⟩ := hr L M id _ h1
  refine ⟨g, fun X hX hf ww => w X hX [] (Nat.le_refl _) hf (fun hm ls H locs hll hP hS => ?_)⟩
  exact W.objInit (rest := []) hX.1 hX.2.1 hX.2.2.2.1 (hX.T hl) (hX.T hin) (hX.T hcd) rfl (by exact hll.1) rfl hd (by rw [hX.2.2.2.2.2.2.2.2.1.1]; exact hR.1) (by rw [hX.2.2.2.2.2.2.2.2.1.2.1]; exact hR.2) (ww hm ls H locs hll hP hS)
/-- System.arraycopy over rows of ints -/
def s_cpy (r0 : DE Nat) (sp : DE Int32) (r1 : DE Nat) (dp n : DE Int32) : SD := fun L M => (r0 L M).bind fun p0 => (sp L p0.2).bind fun p1 => (r1 L p1.2).bind fun p2 => (dp L p2.2).bind fun p3 => (n L p3.2).bind fun p4 => match p4.2[p0.1]?, p4.2[p2.1]? with
  | some a, some b => if (a.1 = 10 ∧ b.1 = 10) ∧ 0 ≤ p1.1 ∧ 0 ≤ p3.1 ∧ 0 ≤ p4.1 ∧ p1.1.toNatClampNeg + p4.1.toNatClampNeg ≤ a.2.length ∧ p3.1.toNatClampNeg + p4.1.toNatClampNeg ≤ b.2.length then some (.inl (L, p4.2.set p2.1 (10, l_cpy a.2 b.2 p1.1.toNatClampNeg p3.1.toNatClampNeg p4.1.toNatClampNeg))) else none
  | _, _ => none
theorem sc_cpy {C : CX} {pc q1 q2 q3 q4 q5 idx : Nat} {r0 r1 : DE Nat} {sp dp n : DE Int32} (h0 : EC C Value.ref 0 pc q1 r0) (h1 : EC C Value.int 1 q1 q2 sp) (h2 : EC C Value.ref 2 q2 q3 r1) (h3 : EC C Value.int 3 q3 q4 dp) (h4 : EC C Value.int 4 q4 q5 n) (hl : Cond.methodLink (c_own C) idx arraycopyName ∈ lw_g) (hnat : Cond.native arraycopyName ∈ lw_g) (hstat : Cond.static arraycopyName ∈ lw_g) (hini : Cond.initialized "java/lang/System" ∈ lw_g) (hR : 1 ≤ c_fr C ∧ 18 ≤ c_lo C) (hd : decode (c_cc C) q5 = .ok (.invokestatic idx, 3)) : SC C pc (q5 + 3) (s_cpy r0 sp r1 dp n) := by
  intro L M rr he
  obtain ⟨⟨x0, M0⟩, e0, he⟩ := bind_some he
  obtain ⟨⟨x1, M1⟩, e1, he⟩ := bind_some he
  obtain ⟨⟨x2, M2⟩, e2, he⟩ := bind_some he
  obtain ⟨⟨x3, M3⟩, e3, he⟩ := bind_some he
  obtain ⟨⟨x4, M4⟩, e4, he⟩ := bind_some he
  obtain ⟨g0, w0⟩ := h0 L M x0 _ e0
  obtain ⟨g1, w1⟩ := h1 L M0 x1 _ e1
  obtain ⟨g2, w2⟩ := h2 L M1 x2 _ e2
  obtain ⟨g3, w3⟩ := h3 L M2 x3 _ e3
  obtain ⟨g4, w4⟩ := h4 L M3 x4 _ e4
  simp only at he
  split at he
  · rename_i a b ha hb
    obtain ⟨ka, a⟩ := a
    obtain ⟨kb, b⟩ := b
    split at he
    · rename_i hc
      obtain ⟨⟨c1, c2⟩, c3, c4, c5, c6, c7⟩ := hc
      simp only at c1 c2
      subst c1; subst c2
      cases he
      have g5 := (gm_set_ge (sl' := l_cpy a b x1.toNatClampNeg x3.toNatClampNeg x4.toNatClampNeg) hb (l_cpy_len c6 c7)).1
      exact ⟨g0.tr (g1.tr (g2.tr (g3.tr (g4.tr g5)))), fun X hX hf w => w0 X hX [] (Nat.le_refl _) (g1.tr (g2.tr (g3.tr (g4.tr (g5.tr hf))))) (w1 X hX [.ref x0] (Nat.le_refl _) (g2.tr (g3.tr (g4.tr (g5.tr hf)))) (w2 X hX [.int x1, .ref x0] (Nat.le_refl _) (g3.tr (g4.tr (g5.tr hf))) (w3 X hX [.ref x2, .int x1, .ref x0] (Nat.le_refl _) (g4.tr (g5.tr hf)) (w4 X hX [.int x3, .ref x2, .int x1, .ref x0] (Nat.le_refl _) (g5.tr hf) (wa_copy hX hl hnat hstat hini hR hd ha hb c3 c4 c5 c6 c7 (g5.tr hf) w)))))⟩
    · cases he
  · cases he
/-! a method -/
def l0 (vs : List Value) : List Value := vs.flatMap fun v => if v.category = 2 then [v, .null] else [v]
def m_den (nL : Nat) (s : SD) : MDen := fun vs M => if (l0 vs).length ≤ nL then (match s (l0 vs) M with
  | some (.inr q) => some q
  | _ => none) else none
theorem l0_args (ad : Nat → Nat) : ∀ (vs : List Value) (i j : Nat) (v : Value), (l0 vs)[j]? = some v → vnn v = true → (i + j, tv ad v) ∈ lv_args i (vs.map (tv ad)) := by
  intro vs
  induction vs with
  | nil => intro i j v h; simp [l0] at h
  | cons x vs ih =>
    intro i j v h hv
    show (i + j, tv ad v) ∈ (i, tv ad x) :: lv_args (if (tv ad x).category = 2 then i + 2 else i + 1) (vs.map (tv ad))
    rw [tv_cat]
    by_cases hc : x.category = 2
    · have e : l0 (x :: vs) = x :: .null :: l0 vs := by simp [l0, hc]
      rw [e] at h
      rw [if_pos hc]
      match j, h with
      | 0, h => cases h; exact List.mem_cons_self
      | 1, h => cases h; cases hv
      | j + 2, h =>
        have := ih (i + 2) j v h hv
        rw [show i + 2 + j = i + (j + 2) by omega] at this
        exact List.mem_cons_of_mem _ this
    · have e : l0 (x :: vs) = x :: l0 vs := by simp [l0, hc]
      rw [e] at h
      rw [if_neg hc]
      match j, h with
      | 0, h => cases h; exact List.mem_cons_self
      | j + 1, h =>
        have := ih (i + 1) j v h hv
        rw [show i + 1 + j = i + (j + 1) by omega] at this
        exact List.mem_cons_of_mem _ this
theorem l0_len (ad : Nat → Nat) (vs : List Value) : (lg_sl (vs.map (tv ad))).length = (l0 vs).length := by
  induction vs with
  | nil => rfl
  | cons x vs ih =>
    have e1 : lg_sl ((x :: vs).map (tv ad)) = (if (tv ad x).category = 2 then [.val (tv ad x), .second] else [.val (tv ad x)]) ++ lg_sl (vs.map (tv ad)) := by simp [lg_sl]
    have e2 : l0 (x :: vs) = (if x.category = 2 then [x, .null] else [x]) ++ l0 vs := by simp [l0]
    rw [e1, e2, List.length_append, List.length_append, ih, tv_cat]
    by_cases hc : x.category = 2
    · simp [hc]
    · simp [hc]
theorem ms_of {d : MD} {pe : Nat} {s : SD} (hs : SC d.2 0 pe s) (hy : plainName d.1.cls = true) (ho : c_own d.2 = d.1.cls) (hn : c_nm d.2 = d.1.name) : MS d (m_den (c_nL d.2) s) := by
  intro vs M r M' hD
  unfold m_den at hD
  by_cases hlen : (l0 vs).length ≤ c_nL d.2
  · rw [if_pos hlen] at hD
    split at hD
    · rename_i q hq
      cases hD
      have h1 := hs _ _ _ hq
      refine ⟨h1.1, fun l K hK hsz => ?_⟩
      refine Met.ofW (cc := c_cc d.2) (maxL := c_nL d.2) (ret := c_rt d.2) hy rfl ?_
      intro p e s0 m args below meth c s₁ B hml hv
      obtain ⟨rfl, hP, hKK, hI⟩ := hv
      let X : MX := (K, p, l, e, (headSpec (m_ws d) (m_rm d M M')).room, s0, m, (vs.map (tv (k_ad K))).toArray, below, meth, c, MQ below (k_post K r M') (vs.map (tv (k_ad K))).toArray s0 (M'.length - M.length) (gm_sz M' - gm_sz M) (k_A K), M, (r, M'))
      have hts := atoms_spec (ws := m_ws d) B.pre
      have hlocks := B.notSynchronized
      have hX : XOK d.2 X := by
        refine ⟨B.exec, B.bytes, hml, by rw [ho]; exact findClass_of_methodNamed B.named, fun w hw => hts w (List.mem_cons_of_mem _ hw), hKK, hK, hI, ⟨rfl, rfl, Nat.le_refl _, Nat.le_refl _⟩, hsz, hP.2, by rw [hn]; exact (name_of_methodNamed B.named B.method).1, ?_⟩
        intro pc L hdec hfit hmm ls H locs hl hP' hS
        have hfin : ∀ t : State, t.heap = H → k_post K r M' (vs.map (tv (k_ad K))).toArray s0 (.returned (rvOf (k_ad K) r)) t := fun t ht => ⟨rfl, by rw [ht]; exact hP', hS.F ht⟩
        show W p l e _ s0 m _ below meth c H locs (M'.length - M.length) (gm_sz M' - gm_sz M) (MQ below (k_post K r M') _ s0 (M'.length - M.length) (gm_sz M' - gm_sz M) (k_A K)) (F0 m pc ls ((retSt r).map (tv (k_ad K))))
        have hrt := B.returns
        generalize hrt0 : c_rt d.2 = rt at hdec hfit hrt
        change retFit rt r at hfit
        match rt, hdec, hfit, hrt with
        | none, hdec, hfit, hrt =>
          have e1 : r = .null := hfit
          subst e1
          exact W.vret B.exec B.bytes hrt (fun t ht _ => hfin t ht) hS.2.2 hdec
        | some .long, hdec, hfit, hrt =>
          obtain ⟨x, e1⟩ := hfit
          subst e1
          exact W.lret B.exec B.bytes hrt (fun t ht _ => hfin t ht) hS.2.2 hdec
        | some (.object n), hdec, hfit, hrt =>
          obtain ⟨x, e1⟩ := hfit
          subst e1
          exact W.aret B.exec B.bytes hrt (Or.inl ⟨_, rfl⟩) (Or.inr ⟨_, rfl⟩) (fun t ht _ => hfin t ht) hS.2.2 hdec
        | some (.array n), hdec, hfit, hrt =>
          obtain ⟨x, e1⟩ := hfit
          subst e1
          exact W.aret B.exec B.bytes hrt (Or.inr ⟨_, rfl⟩) (Or.inr ⟨_, rfl⟩) (fun t ht _ => hfin t ht) hS.2.2 hdec
        | some .int, hdec, hfit, hrt =>
          obtain ⟨x, e1, e2⟩ := hfit
          subst e1
          exact W.zret B.exec B.bytes hrt e2 (fun t ht _ => hfin t ht) hS.2.2 hdec
        | some .boolean, hdec, hfit, hrt =>
          obtain ⟨x, e1, e2⟩ := hfit
          subst e1
          exact W.zret B.exec B.bytes hrt e2 (fun t ht _ => hfin t ht) hS.2.2 hdec
        | some .byte, hdec, hfit, hrt =>
          obtain ⟨x, e1, e2⟩ := hfit
          subst e1
          exact W.zret B.exec B.bytes hrt e2 (fun t ht _ => hfin t ht) hS.2.2 hdec
        | some .char, hdec, hfit, hrt =>
          obtain ⟨x, e1, e2⟩ := hfit
          subst e1
          exact W.zret B.exec B.bytes hrt e2 (fun t ht _ => hfin t ht) hS.2.2 hdec
        | some .short, hdec, hfit, hrt =>
          obtain ⟨x, e1, e2⟩ := hfit
          subst e1
          exact W.zret B.exec B.bytes hrt e2 (fun t ht _ => hfin t ht) hS.2.2 hdec
        | some .float, hdec, hfit, hrt =>
          obtain ⟨x, e1, e2⟩ := hfit
          subst e1
          exact W.zret B.exec B.bytes hrt e2 (fun t ht _ => hfin t ht) hS.2.2 hdec
        | some .double, hdec, hfit, hrt =>
          obtain ⟨x, e1, e2⟩ := hfit
          subst e1
          exact W.zret B.exec B.bytes hrt e2 (fun t ht _ => hfin t ht) hS.2.2 hdec
      have hw := h1.2 X hX rfl
      have hl := lv_entry (vs.map (tv (k_ad K))) (n := c_nL d.2) (by rw [l0_len]; exact hlen)
      rw [lg_entry_eq]
      have hl2 := lv_mono hl (l' := lvL (k_ad K) (l0 vs)) (fun q hq => by
        obtain ⟨v, a1, a2, a3⟩ := lvL_mem.mp hq
        obtain ⟨i, w⟩ := q
        simp only at a1 a2
        subst a2
        have := l0_args (k_ad K) vs 0 i v a1 a3
        rwa [Nat.zero_add] at this)
      have hfin := hw (gm_le.rf _) _ s0.heap [] (by show lv_has _ c.maxLocals _; rw [hml]; exact hl2) hP va_S.rf
      have z1 : M.length - M.length = 0 := Nat.sub_self _
      have z2 : gm_sz M - gm_sz M = 0 := Nat.sub_self _
      simp only [X, z1, z2] at hfin
      exact hfin
    · cases hD
  · rw [if_neg hlen] at hD; cases hD
end
