section
-- ===== PART A: goes FIRST, ahead of the names: the tables' words, and 'selects' of the private methods out of them =====
/-- a private method of a class that the tables say can be made, by its rows of tables_1 -/
def lw_okq (q : MethodName × Nat) : Prop := (q.1.cls ≠ "java/lang/invoke/MethodHandle" ∧ q.1.cls ≠ "java/lang/invoke/VarHandle") ∧ Cond.instantiable q.1.cls q.2 ∈ tables_1 ∧ Cond.privateMethod q.1 ∈ tables_1 ∧ Cond.instanceMethod q.1 ∈ tables_1
theorem lw_p0 : lw_okq (⟨"java/lang/Throwable", "fillInStackTrace", "(I)Ljava/lang/Throwable;"⟩, 6) := ⟨⟨by decide +kernel, by decide +kernel⟩, List.mem_of_getElem? (i := 154) (by decide +kernel), List.mem_of_getElem? (i := 152) (by decide +kernel), List.mem_of_getElem? (i := 153) (by decide +kernel)⟩
theorem lw_p1 : lw_okq (⟨"FosterHouse", "leastLoadedWorker", "()I"⟩, 9) := ⟨⟨by decide +kernel, by decide +kernel⟩, List.mem_of_getElem? (i := 20) (by decide +kernel), List.mem_of_getElem? (i := 201) (by decide +kernel), List.mem_of_getElem? (i := 202) (by decide +kernel)⟩
theorem lw_p2 : lw_okq (⟨"FosterHouse", "loadOf", "(I)I"⟩, 9) := ⟨⟨by decide +kernel, by decide +kernel⟩, List.mem_of_getElem? (i := 20) (by decide +kernel), List.mem_of_getElem? (i := 205) (by decide +kernel), List.mem_of_getElem? (i := 206) (by decide +kernel)⟩
theorem lw_p3 : lw_okq (⟨"FosterHouse", "homeAt", "(I)LFosterHouse$Home;"⟩, 9) := ⟨⟨by decide +kernel, by decide +kernel⟩, List.mem_of_getElem? (i := 20) (by decide +kernel), List.mem_of_getElem? (i := 388) (by decide +kernel), List.mem_of_getElem? (i := 389) (by decide +kernel)⟩
theorem lw_p4 : lw_okq (⟨"FosterHouse", "childAt", "(I)LFosterHouse$Child;"⟩, 9) := ⟨⟨by decide +kernel, by decide +kernel⟩, List.mem_of_getElem? (i := 20) (by decide +kernel), List.mem_of_getElem? (i := 460) (by decide +kernel), List.mem_of_getElem? (i := 461) (by decide +kernel)⟩
theorem lw_p5 : lw_okq (⟨"FosterHouse", "barToday", "(LFosterHouse$Child;LFosterHouse$Home;)I"⟩, 9) := ⟨⟨by decide +kernel, by decide +kernel⟩, List.mem_of_getElem? (i := 20) (by decide +kernel), List.mem_of_getElem? (i := 580) (by decide +kernel), List.mem_of_getElem? (i := 581) (by decide +kernel)⟩
theorem lw_p6 : lw_okq (⟨"FosterHouse", "takenBeds", "(LFosterHouse$Home;LFosterHouse$Child;)I"⟩, 9) := ⟨⟨by decide +kernel, by decide +kernel⟩, List.mem_of_getElem? (i := 20) (by decide +kernel), List.mem_of_getElem? (i := 609) (by decide +kernel), List.mem_of_getElem? (i := 610) (by decide +kernel)⟩
theorem lw_p7 : lw_okq (⟨"FosterHouse", "worthFor", "(LFosterHouse$Child;LFosterHouse$Home;)I"⟩, 9) := ⟨⟨by decide +kernel, by decide +kernel⟩, List.mem_of_getElem? (i := 20) (by decide +kernel), List.mem_of_getElem? (i := 632) (by decide +kernel), List.mem_of_getElem? (i := 633) (by decide +kernel)⟩
theorem lw_p8 : lw_okq (⟨"FosterHouse", "beginStay", "(LFosterHouse$Child;LFosterHouse$Home;)I"⟩, 9) := ⟨⟨by decide +kernel, by decide +kernel⟩, List.mem_of_getElem? (i := 20) (by decide +kernel), List.mem_of_getElem? (i := 658) (by decide +kernel), List.mem_of_getElem? (i := 659) (by decide +kernel)⟩
theorem lw_p9 : lw_okq (⟨"FosterHouse", "planFor", "(I)V"⟩, 9) := ⟨⟨by decide +kernel, by decide +kernel⟩, List.mem_of_getElem? (i := 20) (by decide +kernel), List.mem_of_getElem? (i := 707) (by decide +kernel), List.mem_of_getElem? (i := 708) (by decide +kernel)⟩
theorem lw_p10 : lw_okq (⟨"FosterHouse", "planChild", "(LFosterHouse$Child;)V"⟩, 9) := ⟨⟨by decide +kernel, by decide +kernel⟩, List.mem_of_getElem? (i := 20) (by decide +kernel), List.mem_of_getElem? (i := 719) (by decide +kernel), List.mem_of_getElem? (i := 720) (by decide +kernel)⟩
theorem lw_p11 : lw_okq (⟨"FosterHouse$Plan", "weighSets", "(I)V"⟩, 9) := ⟨⟨by decide +kernel, by decide +kernel⟩, List.mem_of_getElem? (i := 34) (by decide +kernel), List.mem_of_getElem? (i := 738) (by decide +kernel), List.mem_of_getElem? (i := 739) (by decide +kernel)⟩
theorem lw_p12 : lw_okq (⟨"FosterHouse$Plan", "gainOf", "(II)J"⟩, 9) := ⟨⟨by decide +kernel, by decide +kernel⟩, List.mem_of_getElem? (i := 34) (by decide +kernel), List.mem_of_getElem? (i := 743) (by decide +kernel), List.mem_of_getElem? (i := 744) (by decide +kernel)⟩
theorem lw_p13 : lw_okq (⟨"FosterHouse$Plan", "addHome", "(I)V"⟩, 9) := ⟨⟨by decide +kernel, by decide +kernel⟩, List.mem_of_getElem? (i := 34) (by decide +kernel), List.mem_of_getElem? (i := 752) (by decide +kernel), List.mem_of_getElem? (i := 753) (by decide +kernel)⟩
theorem lw_p14 : lw_okq (⟨"FosterHouse$Plan", "choose", "(I)V"⟩, 9) := ⟨⟨by decide +kernel, by decide +kernel⟩, List.mem_of_getElem? (i := 34) (by decide +kernel), List.mem_of_getElem? (i := 759) (by decide +kernel), List.mem_of_getElem? (i := 760) (by decide +kernel)⟩
theorem lw_p15 : lw_okq (⟨"FosterHouse", "owedTo", "(LFosterHouse$Home;)I"⟩, 9) := ⟨⟨by decide +kernel, by decide +kernel⟩, List.mem_of_getElem? (i := 20) (by decide +kernel), List.mem_of_getElem? (i := 795) (by decide +kernel), List.mem_of_getElem? (i := 796) (by decide +kernel)⟩
def lw_privs_1 : List (MethodName × Nat) := [(⟨"java/lang/Throwable", "fillInStackTrace", "(I)Ljava/lang/Throwable;"⟩, 6), (⟨"FosterHouse", "leastLoadedWorker", "()I"⟩, 9), (⟨"FosterHouse", "loadOf", "(I)I"⟩, 9), (⟨"FosterHouse", "homeAt", "(I)LFosterHouse$Home;"⟩, 9), (⟨"FosterHouse", "childAt", "(I)LFosterHouse$Child;"⟩, 9), (⟨"FosterHouse", "barToday", "(LFosterHouse$Child;LFosterHouse$Home;)I"⟩, 9), (⟨"FosterHouse", "takenBeds", "(LFosterHouse$Home;LFosterHouse$Child;)I"⟩, 9), (⟨"FosterHouse", "worthFor", "(LFosterHouse$Child;LFosterHouse$Home;)I"⟩, 9), (⟨"FosterHouse", "beginStay", "(LFosterHouse$Child;LFosterHouse$Home;)I"⟩, 9), (⟨"FosterHouse", "planFor", "(I)V"⟩, 9), (⟨"FosterHouse", "planChild", "(LFosterHouse$Child;)V"⟩, 9), (⟨"FosterHouse$Plan", "weighSets", "(I)V"⟩, 9), (⟨"FosterHouse$Plan", "gainOf", "(II)J"⟩, 9), (⟨"FosterHouse$Plan", "addHome", "(I)V"⟩, 9), (⟨"FosterHouse$Plan", "choose", "(I)V"⟩, 9), (⟨"FosterHouse", "owedTo", "(LFosterHouse$Home;)I"⟩, 9)]
theorem lw_r1 : ∀ q ∈ lw_privs_1, lw_okq q := List.forall_mem_cons.mpr ⟨lw_p0, List.forall_mem_cons.mpr ⟨lw_p1, List.forall_mem_cons.mpr ⟨lw_p2, List.forall_mem_cons.mpr ⟨lw_p3, List.forall_mem_cons.mpr ⟨lw_p4, List.forall_mem_cons.mpr ⟨lw_p5, List.forall_mem_cons.mpr ⟨lw_p6, List.forall_mem_cons.mpr ⟨lw_p7, List.forall_mem_cons.mpr ⟨lw_p8, List.forall_mem_cons.mpr ⟨lw_p9, List.forall_mem_cons.mpr ⟨lw_p10, List.forall_mem_cons.mpr ⟨lw_p11, List.forall_mem_cons.mpr ⟨lw_p12, List.forall_mem_cons.mpr ⟨lw_p13, List.forall_mem_cons.mpr ⟨lw_p14, List.forall_mem_cons.mpr ⟨lw_p15, fun _ h => absurd h List.not_mem_nil⟩⟩⟩⟩⟩⟩⟩⟩⟩⟩⟩⟩⟩⟩⟩⟩
theorem lw_p16 : lw_okq (⟨"FosterHouse$Family", "countVisit", "()V"⟩, 7) := ⟨⟨by decide +kernel, by decide +kernel⟩, List.mem_of_getElem? (i := 246) (by decide +kernel), List.mem_of_getElem? (i := 850) (by decide +kernel), List.mem_of_getElem? (i := 851) (by decide +kernel)⟩
theorem lw_p17 : lw_okq (⟨"FosterHouse", "stayAt", "(I)LFosterHouse$Stay;"⟩, 9) := ⟨⟨by decide +kernel, by decide +kernel⟩, List.mem_of_getElem? (i := 20) (by decide +kernel), List.mem_of_getElem? (i := 869) (by decide +kernel), List.mem_of_getElem? (i := 870) (by decide +kernel)⟩
theorem lw_p18 : lw_okq (⟨"FosterHouseModel", "goes", "(ZZZ)Z"⟩, 57) := ⟨⟨by decide +kernel, by decide +kernel⟩, List.mem_of_getElem? (i := 898) (by decide +kernel), List.mem_of_getElem? (i := 1088) (by decide +kernel), List.mem_of_getElem? (i := 1089) (by decide +kernel)⟩
theorem lw_p19 : lw_okq (⟨"FosterHouseModel", "leastLoaded", "()I"⟩, 57) := ⟨⟨by decide +kernel, by decide +kernel⟩, List.mem_of_getElem? (i := 898) (by decide +kernel), List.mem_of_getElem? (i := 1092) (by decide +kernel), List.mem_of_getElem? (i := 1093) (by decide +kernel)⟩
theorem lw_p20 : lw_okq (⟨"FosterHouseModel", "loadOf", "(I)I"⟩, 57) := ⟨⟨by decide +kernel, by decide +kernel⟩, List.mem_of_getElem? (i := 898) (by decide +kernel), List.mem_of_getElem? (i := 1096) (by decide +kernel), List.mem_of_getElem? (i := 1097) (by decide +kernel)⟩
theorem lw_p21 : lw_okq (⟨"FosterHouseModel", "isHome", "(I)Z"⟩, 57) := ⟨⟨by decide +kernel, by decide +kernel⟩, List.mem_of_getElem? (i := 898) (by decide +kernel), List.mem_of_getElem? (i := 1111) (by decide +kernel), List.mem_of_getElem? (i := 1112) (by decide +kernel)⟩
theorem lw_p22 : lw_okq (⟨"FosterHouseModel", "tells", "(IIIII)V"⟩, 57) := ⟨⟨by decide +kernel, by decide +kernel⟩, List.mem_of_getElem? (i := 898) (by decide +kernel), List.mem_of_getElem? (i := 1115) (by decide +kernel), List.mem_of_getElem? (i := 1116) (by decide +kernel)⟩
theorem lw_p23 : lw_okq (⟨"FosterHouseModel", "isChild", "(I)Z"⟩, 57) := ⟨⟨by decide +kernel, by decide +kernel⟩, List.mem_of_getElem? (i := 898) (by decide +kernel), List.mem_of_getElem? (i := 1131) (by decide +kernel), List.mem_of_getElem? (i := 1132) (by decide +kernel)⟩
theorem lw_p24 : lw_okq (⟨"FosterHouseModel", "riskOf", "(I)I"⟩, 57) := ⟨⟨by decide +kernel, by decide +kernel⟩, List.mem_of_getElem? (i := 898) (by decide +kernel), List.mem_of_getElem? (i := 1135) (by decide +kernel), List.mem_of_getElem? (i := 1136) (by decide +kernel)⟩
theorem lw_p25 : lw_okq (⟨"FosterHouseModel", "isLate", "(I)Z"⟩, 57) := ⟨⟨by decide +kernel, by decide +kernel⟩, List.mem_of_getElem? (i := 898) (by decide +kernel), List.mem_of_getElem? (i := 1139) (by decide +kernel), List.mem_of_getElem? (i := 1140) (by decide +kernel)⟩
theorem lw_p26 : lw_okq (⟨"FosterHouseModel", "isGreatest", "(II)Z"⟩, 57) := ⟨⟨by decide +kernel, by decide +kernel⟩, List.mem_of_getElem? (i := 898) (by decide +kernel), List.mem_of_getElem? (i := 1143) (by decide +kernel), List.mem_of_getElem? (i := 1144) (by decide +kernel)⟩
theorem lw_p27 : lw_okq (⟨"FosterHouseModel", "seenBy", "(I)I"⟩, 57) := ⟨⟨by decide +kernel, by decide +kernel⟩, List.mem_of_getElem? (i := 898) (by decide +kernel), List.mem_of_getElem? (i := 1151) (by decide +kernel), List.mem_of_getElem? (i := 1152) (by decide +kernel)⟩
theorem lw_p28 : lw_okq (⟨"FosterHouseModel", "countsOn", "(II)I"⟩, 57) := ⟨⟨by decide +kernel, by decide +kernel⟩, List.mem_of_getElem? (i := 898) (by decide +kernel), List.mem_of_getElem? (i := 1171) (by decide +kernel), List.mem_of_getElem? (i := 1172) (by decide +kernel)⟩
theorem lw_p29 : lw_okq (⟨"FosterHouseModel", "yearsOn", "(II)I"⟩, 57) := ⟨⟨by decide +kernel, by decide +kernel⟩, List.mem_of_getElem? (i := 898) (by decide +kernel), List.mem_of_getElem? (i := 1179) (by decide +kernel), List.mem_of_getElem? (i := 1180) (by decide +kernel)⟩
theorem lw_p30 : lw_okq (⟨"FosterHouseModel", "whyNot", "(II)I"⟩, 57) := ⟨⟨by decide +kernel, by decide +kernel⟩, List.mem_of_getElem? (i := 898) (by decide +kernel), List.mem_of_getElem? (i := 1187) (by decide +kernel), List.mem_of_getElem? (i := 1188) (by decide +kernel)⟩
theorem lw_p31 : lw_okq (⟨"FosterHouseModel", "whyOn", "(III)I"⟩, 57) := ⟨⟨by decide +kernel, by decide +kernel⟩, List.mem_of_getElem? (i := 898) (by decide +kernel), List.mem_of_getElem? (i := 1191) (by decide +kernel), List.mem_of_getElem? (i := 1192) (by decide +kernel)⟩
def lw_privs_2 : List (MethodName × Nat) := [(⟨"FosterHouse$Family", "countVisit", "()V"⟩, 7), (⟨"FosterHouse", "stayAt", "(I)LFosterHouse$Stay;"⟩, 9), (⟨"FosterHouseModel", "goes", "(ZZZ)Z"⟩, 57), (⟨"FosterHouseModel", "leastLoaded", "()I"⟩, 57), (⟨"FosterHouseModel", "loadOf", "(I)I"⟩, 57), (⟨"FosterHouseModel", "isHome", "(I)Z"⟩, 57), (⟨"FosterHouseModel", "tells", "(IIIII)V"⟩, 57), (⟨"FosterHouseModel", "isChild", "(I)Z"⟩, 57), (⟨"FosterHouseModel", "riskOf", "(I)I"⟩, 57), (⟨"FosterHouseModel", "isLate", "(I)Z"⟩, 57), (⟨"FosterHouseModel", "isGreatest", "(II)Z"⟩, 57), (⟨"FosterHouseModel", "seenBy", "(I)I"⟩, 57), (⟨"FosterHouseModel", "countsOn", "(II)I"⟩, 57), (⟨"FosterHouseModel", "yearsOn", "(II)I"⟩, 57), (⟨"FosterHouseModel", "whyNot", "(II)I"⟩, 57), (⟨"FosterHouseModel", "whyOn", "(III)I"⟩, 57)]
theorem lw_r2 : ∀ q ∈ lw_privs_2, lw_okq q := List.forall_mem_cons.mpr ⟨lw_p16, List.forall_mem_cons.mpr ⟨lw_p17, List.forall_mem_cons.mpr ⟨lw_p18, List.forall_mem_cons.mpr ⟨lw_p19, List.forall_mem_cons.mpr ⟨lw_p20, List.forall_mem_cons.mpr ⟨lw_p21, List.forall_mem_cons.mpr ⟨lw_p22, List.forall_mem_cons.mpr ⟨lw_p23, List.forall_mem_cons.mpr ⟨lw_p24, List.forall_mem_cons.mpr ⟨lw_p25, List.forall_mem_cons.mpr ⟨lw_p26, List.forall_mem_cons.mpr ⟨lw_p27, List.forall_mem_cons.mpr ⟨lw_p28, List.forall_mem_cons.mpr ⟨lw_p29, List.forall_mem_cons.mpr ⟨lw_p30, List.forall_mem_cons.mpr ⟨lw_p31, fun _ h => absurd h List.not_mem_nil⟩⟩⟩⟩⟩⟩⟩⟩⟩⟩⟩⟩⟩⟩⟩⟩
theorem lw_p32 : lw_okq (⟨"FosterHouseModel", "toldOn", "(III)I"⟩, 57) := ⟨⟨by decide +kernel, by decide +kernel⟩, List.mem_of_getElem? (i := 898) (by decide +kernel), List.mem_of_getElem? (i := 1195) (by decide +kernel), List.mem_of_getElem? (i := 1196) (by decide +kernel)⟩
theorem lw_p33 : lw_okq (⟨"FosterHouseModel", "kindOn", "(II)I"⟩, 57) := ⟨⟨by decide +kernel, by decide +kernel⟩, List.mem_of_getElem? (i := 898) (by decide +kernel), List.mem_of_getElem? (i := 1199) (by decide +kernel), List.mem_of_getElem? (i := 1200) (by decide +kernel)⟩
theorem lw_p34 : lw_okq (⟨"FosterHouseModel", "others", "(II)I"⟩, 57) := ⟨⟨by decide +kernel, by decide +kernel⟩, List.mem_of_getElem? (i := 898) (by decide +kernel), List.mem_of_getElem? (i := 1203) (by decide +kernel), List.mem_of_getElem? (i := 1204) (by decide +kernel)⟩
theorem lw_p35 : lw_okq (⟨"FosterHouseModel", "homeOf", "(I)I"⟩, 57) := ⟨⟨by decide +kernel, by decide +kernel⟩, List.mem_of_getElem? (i := 898) (by decide +kernel), List.mem_of_getElem? (i := 1207) (by decide +kernel), List.mem_of_getElem? (i := 1208) (by decide +kernel)⟩
theorem lw_p36 : lw_okq (⟨"FosterHouseModel", "worthOf", "(II)I"⟩, 57) := ⟨⟨by decide +kernel, by decide +kernel⟩, List.mem_of_getElem? (i := 898) (by decide +kernel), List.mem_of_getElem? (i := 1215) (by decide +kernel), List.mem_of_getElem? (i := 1216) (by decide +kernel)⟩
theorem lw_p37 : lw_okq (⟨"FosterHouseModel", "begins", "(II)I"⟩, 57) := ⟨⟨by decide +kernel, by decide +kernel⟩, List.mem_of_getElem? (i := 898) (by decide +kernel), List.mem_of_getElem? (i := 1227) (by decide +kernel), List.mem_of_getElem? (i := 1228) (by decide +kernel)⟩
theorem lw_p38 : lw_okq (⟨"FosterHouseModel", "ends", "(I)V"⟩, 57) := ⟨⟨by decide +kernel, by decide +kernel⟩, List.mem_of_getElem? (i := 898) (by decide +kernel), List.mem_of_getElem? (i := 1231) (by decide +kernel), List.mem_of_getElem? (i := 1232) (by decide +kernel)⟩
theorem lw_p39 : lw_okq (⟨"FosterHouseModel", "countsWaiting", "(I)I"⟩, 57) := ⟨⟨by decide +kernel, by decide +kernel⟩, List.mem_of_getElem? (i := 898) (by decide +kernel), List.mem_of_getElem? (i := 1239) (by decide +kernel), List.mem_of_getElem? (i := 1240) (by decide +kernel)⟩
theorem lw_p40 : lw_okq (⟨"FosterHouseModel", "finds", "()I"⟩, 57) := ⟨⟨by decide +kernel, by decide +kernel⟩, List.mem_of_getElem? (i := 898) (by decide +kernel), List.mem_of_getElem? (i := 1243) (by decide +kernel), List.mem_of_getElem? (i := 1244) (by decide +kernel)⟩
theorem lw_p41 : lw_okq (⟨"FosterHouseModel", "valueOf", "()I"⟩, 57) := ⟨⟨by decide +kernel, by decide +kernel⟩, List.mem_of_getElem? (i := 898) (by decide +kernel), List.mem_of_getElem? (i := 1247) (by decide +kernel), List.mem_of_getElem? (i := 1248) (by decide +kernel)⟩
theorem lw_p42 : lw_okq (⟨"FosterHouseModel", "isNext", "()Z"⟩, 57) := ⟨⟨by decide +kernel, by decide +kernel⟩, List.mem_of_getElem? (i := 898) (by decide +kernel), List.mem_of_getElem? (i := 1252) (by decide +kernel), List.mem_of_getElem? (i := 1253) (by decide +kernel)⟩
theorem lw_p43 : lw_okq (⟨"FosterHouseModel", "passes", "()V"⟩, 57) := ⟨⟨by decide +kernel, by decide +kernel⟩, List.mem_of_getElem? (i := 898) (by decide +kernel), List.mem_of_getElem? (i := 1285) (by decide +kernel), List.mem_of_getElem? (i := 1286) (by decide +kernel)⟩
theorem lw_p44 : lw_okq (⟨"FosterHouseModel", "visited", "(I)V"⟩, 57) := ⟨⟨by decide +kernel, by decide +kernel⟩, List.mem_of_getElem? (i := 898) (by decide +kernel), List.mem_of_getElem? (i := 1289) (by decide +kernel), List.mem_of_getElem? (i := 1290) (by decide +kernel)⟩
def lw_privs_3 : List (MethodName × Nat) := [(⟨"FosterHouseModel", "toldOn", "(III)I"⟩, 57), (⟨"FosterHouseModel", "kindOn", "(II)I"⟩, 57), (⟨"FosterHouseModel", "others", "(II)I"⟩, 57), (⟨"FosterHouseModel", "homeOf", "(I)I"⟩, 57), (⟨"FosterHouseModel", "worthOf", "(II)I"⟩, 57), (⟨"FosterHouseModel", "begins", "(II)I"⟩, 57), (⟨"FosterHouseModel", "ends", "(I)V"⟩, 57), (⟨"FosterHouseModel", "countsWaiting", "(I)I"⟩, 57), (⟨"FosterHouseModel", "finds", "()I"⟩, 57), (⟨"FosterHouseModel", "valueOf", "()I"⟩, 57), (⟨"FosterHouseModel", "isNext", "()Z"⟩, 57), (⟨"FosterHouseModel", "passes", "()V"⟩, 57), (⟨"FosterHouseModel", "visited", "(I)V"⟩, 57)]
theorem lw_r3 : ∀ q ∈ lw_privs_3, lw_okq q := List.forall_mem_cons.mpr ⟨lw_p32, List.forall_mem_cons.mpr ⟨lw_p33, List.forall_mem_cons.mpr ⟨lw_p34, List.forall_mem_cons.mpr ⟨lw_p35, List.forall_mem_cons.mpr ⟨lw_p36, List.forall_mem_cons.mpr ⟨lw_p37, List.forall_mem_cons.mpr ⟨lw_p38, List.forall_mem_cons.mpr ⟨lw_p39, List.forall_mem_cons.mpr ⟨lw_p40, List.forall_mem_cons.mpr ⟨lw_p41, List.forall_mem_cons.mpr ⟨lw_p42, List.forall_mem_cons.mpr ⟨lw_p43, List.forall_mem_cons.mpr ⟨lw_p44, fun _ h => absurd h List.not_mem_nil⟩⟩⟩⟩⟩⟩⟩⟩⟩⟩⟩⟩⟩
def lw_privs : List (MethodName × Nat) := lw_privs_1 ++ (lw_privs_2 ++ (lw_privs_3))
def lw_tbl : List Cond := k2_sels lw_privs ++ tables_1
theorem lw_privs_ok : ∀ q ∈ lw_privs, lw_okq q := by
  show ∀ q ∈ lw_privs_1 ++ (lw_privs_2 ++ (lw_privs_3)), lw_okq q
  exact List.forall_mem_append.mpr ⟨lw_r1, List.forall_mem_append.mpr ⟨lw_r2, lw_r3⟩⟩
end
section
/-! ===== BEGIN words of one list among another's, by their places ===== -/
theorem goodIn_r {big : List Cond} (ws : List Cond) (ps : List Nat) (hp : ws = ps.filterMap (fun i => big[i]?)) (h : ws.all goodWord = true) : GoodIn big ws := by
  intro w hw
  have h1 := List.all_eq_true.mp h w hw
  rw [hp] at hw
  obtain ⟨i, -, hi⟩ := List.mem_filterMap.mp hw
  have hm : w ∈ big := by first | exact List.mem_of_getElem? hi | exact List.getElem?_mem hi
  exact ⟨hm, good_of_word h1⟩
theorem goodIn_app {big a b : List Cond} (ha : GoodIn big a) (hb : GoodIn big b) : GoodIn big (a ++ b) := fun w h => (List.mem_append.mp h).elim (ha w) (hb w)
theorem goodIn_ca {big a b : List Cond} {c : Cond} (ha : GoodIn big (c :: a)) (hb : GoodIn big b) : GoodIn big (c :: (a ++ b)) := fun w h => (List.mem_cons.mp h).elim (fun e => ha w (List.mem_cons.mpr (Or.inl e))) (fun h => (List.mem_append.mp h).elim (fun h => ha w (List.mem_cons.mpr (Or.inr h))) (hb w))
theorem goodIn_sub {big ws : List Cond} (hm : ∀ w ∈ ws, w ∈ big) (h : ws.all goodWord = true) : GoodIn big ws := fun w hw => ⟨hm w hw, good_of_word (List.all_eq_true.mp h w hw)⟩
/-! ===== END ===== -/

/-! ===== BEGIN exceptions that leave a method, and their catching by the caller (launches without stack traces) ===== -/
section VXA
/-! The laws vx_back, vx_callV, vx_callS, vx_callSW, vx_throw0, vx_throwS follow proofs of the library, with one case more: JvmDerived/Free/Laws.lean (Back.of_free), Shelf42/LK1.lean (callV, callS), Shelf/KitTraced.lean (throwNew0V, throwNewS). -/
/-- where a method has thrown q: the class by its name, the cell, what was written, the world -/
def vx_T (XC : String → State → State → Prop) (st : State) (q : Addr) (t : State) (mc ms : Nat) (free : Addr → Prop) : Prop :=
  ∃ (E : String) (ce : Cell) (L : List Loc), XC E st t ∧ t.heap[q]? = some ce ∧ ce.vm = .none ∧ st.vm.findClass E = some ce.cls ∧ st.WarmedH t.vm ∧ st.sameButNew ({ t with vm := st.vm } : State) L mc ms ∧ ∀ z ∈ L, free z.base
def vx_Q (Qc : Array Value → State → Outcome → State → Prop) (XC : String → State → State → Prop) (mc ms : Nat) (free : Addr → Prop) : Array Value → State → Outcome → State → Prop := fun a st o t =>
  (Qc a st o t ∧ ∃ L, FrameEnd st o t L mc ms ∧ ∀ q ∈ L, free q.base) ∨ ∃ q, o = .threw q ∧ vx_T XC st q t mc ms free
/-- a callee that returns or throws -/
def vx_Met (l : Launch) (y : MethodName) (ws : List Cond) (rm : Room) (Pc : Array Value → State → Prop) (Qc : Array Value → State → Outcome → State → Prop) (XC : String → State → State → Prop) (mc ms : Nat) (free : Addr → Prop) : Prop :=
  MetFree l y (headSpec ws rm) Pc (fun _ _ _ _ _ => True) (vx_Q Qc XC mc ms free)
def vx_Post (XC : String → State → State → Prop) (mc ms : Nat) (free : Addr → Prop) : Pt → Array Value → Addr → Pt → Prop := fun A a q B =>
  ∃ (g : JFrame) (mk : MethodId) (t : State) (L : List Loc) (E : String) (ce : Cell), B.U.heap = t.heap ∧ B.U.vm = t.vm ∧ XC E (A.U.calling g mk a) t ∧ t.heap[q]? = some ce ∧ ce.vm = .none ∧ A.U.vm.findClass E = some ce.cls ∧ B.locs = A.locs ++ L ∧ (∀ z ∈ L, free z.base) ∧ B.cells = A.cells + mc ∧ B.slots = A.slots + ms
def vx_Back (l : Launch) (R : Room) (p : Program) (e : Env) (below : List Frame) (s : State) (sargs : Array Value) (y : MethodName) (len W9 : Nat)
    (Pre : Pt → Array Value → Prop) (Post : Pt → Array Value → Option Value → Pt → Prop) (PostX : Pt → Array Value → Addr → Pt → Prop) : Prop :=
  ∀ (m : MethodId) (meth : Method) (c : Code) (A : Pt) (g : JFrame) (ig : Instr) (mk : MethodId) (a : Array Value),
    Stand p l e R s m sargs below meth c A.U A.locs A.cells A.slots → g.method = m → g.locals.size = c.maxLocals → decode c.code g.pc = .ok (ig, len) →
    2 * g.monitorRoom + (g.stack.map fun v => v.category).sum ≤ W9 → A.U.methodNamed? y = some mk → Pre A a →
    (∃ (v : Option Value) (B : Pt), Stand p l e R s m sargs below meth c B.U B.locs B.cells B.slots ∧ Post A a v B ∧
      Steps p.tables e below (doInvoke e (A.U.setTop g) [] mk a).1 (B.U.setTop { g with pc := g.pc + len, stack := v.toList ++ g.stack })) ∨
    (∃ (q : Addr) (B : Pt), Stand p l e R s m sargs below meth c B.U B.locs B.cells B.slots ∧ PostX A a q B ∧
      Steps p.tables e below (doInvoke e (A.U.setTop g) [] mk a).1 ((B.U.setTop g).pushFrame (.throwing q)))
section Payer
variable {l : Launch} {R : Room} {p : Program} {e : Env} {below : List Frame} {s : State} {sargs : Array Value} {y : MethodName} {len W9 : Nat}
theorem vx_back {ws : List Cond} {rm : Room} {Pc : Array Value → State → Prop} {Qc : Array Value → State → Outcome → State → Prop} {XC : String → State → State → Prop} {mc ms : Nat} {free : Addr → Prop} {bytes : ByteArray} {maxL : Nat} {ret : Option FieldType}
    (hM : vx_Met l y ws rm Pc Qc XC mc ms free) (hblind : FrameBlind Pc) (hrc : rm.cells = mc) (hrs : rm.slots = ms)
    (hframes : rm.frames + 1 ≤ R.frames) (hlocals : W9 + (maxL + 11) + rm.locals ≤ R.locals)
    (hws : ∀ w ∈ ws, ∀ a' U, s.WarmedH U.vm → w.before a' U = true) (hcode : Cond.code y bytes maxL ret ∈ ws) (hinit : ∀ a' U, s.WarmedH U.vm → (Cond.initialized y.cls).before a' U = true) :
    vx_Back l R p e below s sargs y len W9 (PreOf R mc ms Pc) (PostOf Qc mc ms free) (vx_Post XC mc ms free) := by
  intro m meth c A g ig mk a X hg hsize hdg hW hn hp
  have h1 : (headSpec ws rm).pre.before a A.U = true := atoms_intro fun w hw => hws w hw _ _ X.warmed
  have h2 : (Cond.code y bytes maxL ret).before a A.U = true := hws _ hcode _ _ X.warmed
  have h3 : (Cond.initialized y.cls).before a A.U = true := hinit _ _ X.warmed
  have h4 : A.cells + (headSpec ws rm).room.cells ≤ R.cells := by rw [show (headSpec ws rm).room.cells = mc from hrc]; exact hp.1
  have h5 : A.slots + (headSpec ws rm).room.slots ≤ R.slots := by rw [show (headSpec ws rm).room.slots = ms from hrs]; exact hp.2.1
  have hPc : Pc a (A.U.calling g mk a) := hblind _ _ _ _ hp.2.2
  obtain ⟨U, Ls, c0, s0⟩ := A
  dsimp only [Pt.U, Pt.locs, Pt.cells, Pt.slots] at h1 h2 h3 h4 h5 X hn hPc ⊢
  obtain ⟨methY, cY, hmY, hcY, -, hlY, -, -, -, -⟩ := Cond.code_spec hn h2
  obtain ⟨kY, hkY, -⟩ := className_of_methodNamed hn
  have hinitY : kY.init = .initialized := Cond.initialized_spec (findClass_of_methodNamed hn) hkY h3
  have h : At U g.method c below := by rw [hg]; exact X.here
  have hlocals9 : W9 + (maxL + 11) + (headSpec ws rm).room.locals ≤ R.locals := hlocals
  have happ : (headSpec ws rm).appliesLoose y e.platform (U.calling g mk a) = true :=
    Spec.appliesLoose_calling (g := g) h hdg hn hkY hinitY
      (X.room_calling (g := g) (R' := (headSpec ws rm).room) hsize hmY hcY hframes (by rw [hlY]; omega) h4 h5) h1
  obtain ⟨mid, hmid⟩ := h.above
  have hfr : (U.setTop g).frames = (.java g :: mid) ++ below := by rw [State.frames_setTop' g h.top, hmid]; rfl
  obtain ⟨o, s₂, hsteps, -, hend, hq⟩ := Steps.callFree hM p X.admits X.cas X.clock (acts := []) hfr happ hPc trivial
  have hq' : vx_Q Qc XC mc ms free a (U.calling g mk a) o s₂ := hq
  rw [State.frames_setTop' g h.top] at hend
  obtain ⟨g₀, hg0⟩ := Option.isSome_iff_exists.mp h.top
  obtain ⟨r, hr⟩ := State.topJava?_eq_some.mp hg0
  have hr' : (({ U with heap := s₂.heap, slotsUsed := s₂.slotsUsed } : State).setVm s₂.vm).frames = .java g₀ :: r := hr
  rcases hq' with ⟨hqc, L, hfe, hL⟩ | ⟨q, rfl, E, ce, L, hx, hce, hcv, hcl, hW₂, hsm, hL⟩
  · obtain ⟨⟨v, rfl⟩, hW₂, e2, q2, q3, q4, q5, q6⟩ := id hfe
    have e3 : s₂ = ({ (U.calling g mk a).setFrames s₂.frames with heap := s₂.heap, slotsUsed := s₂.slotsUsed } : State).setVm s₂.vm := by
      have : s₂ = ({ s₂ with vm := (U.calling g mk a).vm } : State).setVm s₂.vm := rfl
      rw [e2] at this
      exact this
    obtain ⟨c₂, i₂, len₂, hc₂, hd₂, hf₂⟩ := hend
    have hW' : U.WarmedH s₂.vm := hW₂
    have hcc : c₂ = c := by
      have h1 : s₂.code? g.method = U.code? g.method := by
        rw [State.code?_eq, State.code?_eq, hW'.alike.method?]
      exact Option.some.inj (hc₂.symm.trans (h1.trans h.code))
    subst hcc
    have hlen : len₂ = len := by rw [hdg] at hd₂; cases hd₂; rfl
    subst hlen
    have hs₂ : s₂ = (({ U with heap := s₂.heap, slotsUsed := s₂.slotsUsed } : State).setVm s₂.vm).setTop { g with pc := g.pc + len₂, stack := v.toList ++ g.stack } := by
      refine e3.trans ?_
      rw [hf₂, State.calling_eq h.top, State.setFrames_setFrames, State.setTop_of_frames _ hr', hr]
      rfl
    have hsame : U.sameButNew ({ U with heap := s₂.heap, slotsUsed := s₂.slotsUsed } : State) L mc ms := by
      refine ⟨?_, q2, q3, q4, q5, q6⟩
      obtain ⟨t, ht, -⟩ := State.frames_cons hr
      show ({ U with heap := s₂.heap, slotsUsed := s₂.slotsUsed } : State) = { U.setFrames U.frames with heap := s₂.heap, slotsUsed := s₂.slotsUsed }
      rw [State.setFrames_self ht]
    subst hg
    refine Or.inl ⟨v, ⟨(({ U with heap := s₂.heap, slotsUsed := s₂.slotsUsed } : State).setVm s₂.vm), Ls ++ L, c0 + mc, s0 + ms⟩,
      ⟨X.admits, X.cas, X.clock, X.frames, X.room, X.hears, X.method, X.code, (X.here.setHeapUsed s₂.heap s₂.slotsUsed).setVm hW'.alike, X.tail, State.WarmedH.trans X.warmed hW', X.limits, X.bytes, X.same.trans (hsame.setVm s.vm)⟩,
      ⟨g, mk, s₂, L, rfl, rfl, hqc, rfl, hL, rfl, rfl⟩, ?_⟩
    show Steps p.tables e below _ ((({ U with heap := s₂.heap, slotsUsed := s₂.slotsUsed } : State).setVm s₂.vm).setTop { g with pc := g.pc + len₂, stack := v.toList ++ g.stack })
    rw [← hs₂]
    exact hsteps
  · obtain ⟨e2, q2, q3, q4, q5, q6⟩ := id hsm
    have e3 : s₂ = ({ (U.calling g mk a).setFrames s₂.frames with heap := s₂.heap, slotsUsed := s₂.slotsUsed } : State).setVm s₂.vm := by
      have : s₂ = ({ s₂ with vm := (U.calling g mk a).vm } : State).setVm s₂.vm := rfl
      rw [e2] at this
      exact this
    have hf₂ : s₂.frames = .throwing q :: .java g :: U.frames.tail := hend
    have hW' : U.WarmedH s₂.vm := hW₂
    have hs₂ : s₂ = ((({ U with heap := s₂.heap, slotsUsed := s₂.slotsUsed } : State).setVm s₂.vm).setTop g).pushFrame (.throwing q) := by
      refine e3.trans ?_
      rw [hf₂, State.calling_eq h.top, State.setFrames_setFrames, State.pushFrame, State.frames_setTop _ hr', State.setTop_of_frames _ hr', State.setFrames_setFrames, hr]
      rfl
    have hsame : U.sameButNew ({ U with heap := s₂.heap, slotsUsed := s₂.slotsUsed } : State) L mc ms := by
      refine ⟨?_, q2, q3, q4, q5, q6⟩
      obtain ⟨t, ht, -⟩ := State.frames_cons hr
      show ({ U with heap := s₂.heap, slotsUsed := s₂.slotsUsed } : State) = { U.setFrames U.frames with heap := s₂.heap, slotsUsed := s₂.slotsUsed }
      rw [State.setFrames_self ht]
    subst hg
    refine Or.inr ⟨q, ⟨(({ U with heap := s₂.heap, slotsUsed := s₂.slotsUsed } : State).setVm s₂.vm), Ls ++ L, c0 + mc, s0 + ms⟩,
      ⟨X.admits, X.cas, X.clock, X.frames, X.room, X.hears, X.method, X.code, (X.here.setHeapUsed s₂.heap s₂.slotsUsed).setVm hW'.alike, X.tail, State.WarmedH.trans X.warmed hW', X.limits, X.bytes, X.same.trans (hsame.setVm s.vm)⟩,
      ⟨g, mk, s₂, L, E, ce, rfl, rfl, hx, hce, hcv, hcl, rfl, hL, rfl, rfl⟩, ?_⟩
    show Steps p.tables e below _ (((({ U with heap := s₂.heap, slotsUsed := s₂.slotsUsed } : State).setVm s₂.vm).setTop g).pushFrame (.throwing q))
    rw [← hs₂]
    exact hsteps
end Payer
section Calls
variable {p : Program} {l : Launch} {e : Env} {R : Room} {s : State} {m : MethodId} {args : Array Value} {below : List Frame} {meth : Method} {c : Code} {T : State} {locs : List Loc} {cells slots : Nat}
theorem vx_callV (X : Stand p l e R s m args below meth c T locs cells slots) (hexec : p.tables.exec = Jvm.exec) {own C : String} {index : Nat} {y : MethodName} {bytes : ByteArray} {maxL : Nat} {ret : Option FieldType}
    (hown : s.vm.findClass own = some m.cls) (hlink : (Cond.methodLink own index y).before args s = true) (hinst : (Cond.instanceMethod y).before args s = true) (hsel : (Cond.selects C y y).before args s = true)
    (hcode : (Cond.code y bytes maxL ret).before args s = true) (hy : y.cls ≠ "java/lang/invoke/MethodHandle" ∧ y.cls ≠ "java/lang/invoke/VarHandle")
    {W9 : Nat} {Pre : Pt → Array Value → Prop} {Post : Pt → Array Value → Option Value → Pt → Prop} {PostX : Pt → Array Value → Addr → Pt → Prop} (hK : vx_Back l R p e below s args y 3 W9 Pre Post PostX)
    {b : Addr} {cellB : Cell} (hcell : T.heap[b]? = some cellB) (hobj : cellB.vm.isStatics = false) (hcls : s.vm.findClass C = some cellB.cls)
    {g : JFrame} (hg : g.method = m) (hsize : g.locals.size = c.maxLocals) {argsL rest : List Value} (hlen : ∀ sig, parseMethodDescriptor y.desc = some sig → argsL.length = sig.parameters.length)
    (hstack : g.stack = argsL.reverse ++ .ref b :: rest) (hW : 2 * g.monitorRoom + (rest.map fun v => v.category).sum ≤ W9) (hdg : decode c.code g.pc = .ok (.invokevirtual index, 3))
    (hpre : ∀ vm₁, s.WarmedH vm₁ → Pre ⟨T.setVm vm₁, locs, cells, slots⟩ (Value.ref b :: argsL).toArray) :
    (∃ (v : Option Value) (vm₁ : Vm) (B : Pt), s.WarmedH vm₁ ∧ Stand p l e R s m args below meth c B.U B.locs B.cells B.slots ∧ Post ⟨T.setVm vm₁, locs, cells, slots⟩ (Value.ref b :: argsL).toArray v B ∧
      ∀ target, Steps p.tables e below (B.U.setTop { g with pc := g.pc + 3, stack := v.toList ++ rest }) target → Steps p.tables e below (T.setTop g) target) ∨
    (∃ (q : Addr) (vm₁ : Vm) (B : Pt), s.WarmedH vm₁ ∧ Stand p l e R s m args below meth c B.U B.locs B.cells B.slots ∧ PostX ⟨T.setVm vm₁, locs, cells, slots⟩ (Value.ref b :: argsL).toArray q B ∧
      Steps p.tables e below (T.setTop g) ((B.U.setTop { g with stack := rest }).pushFrame (.throwing q))) := by
  obtain ⟨mk, methM, hnamed, hmethM, hstM, habM⟩ := Cond.instanceMethod_spec hinst
  obtain ⟨methM', cM, hmethM', -, -, -, -, -, -, hsigM⟩ := Cond.code_spec hnamed hcode
  cases hmethM.symm.trans hmethM'
  obtain ⟨c2, r2, m2, q1, q2, q3, q4, kP, hkP, hkPi⟩ := Cond.selects_spec hsel
  cases hcls.symm.trans q1
  cases (State.methodFound?_of_named hnamed hy).symm.trans q2
  cases hnamed.symm.trans q3
  have hselP : selectMethod e.platform s.vm cellB.cls mk = .method mk := by rw [Launch.admits_selectMethod X.admits]; exact q4
  obtain ⟨vm₁, X₁, hstep₁⟩ := X.invokevirtual hexec hown hlink hnamed hmethM hstM hkP hkPi hy (a := b) (cell := cellB) hcell
    (fun z h => by rw [h] at hobj; cases hobj) hselP hmethM habM hkP hkPi (g := g) hg (argsL := argsL) (rest := rest) (hlen _ hsigM) hstack hdg
  rcases hK m meth c ⟨T.setVm vm₁, locs, cells, slots⟩ { g with stack := rest } (.invokevirtual index) mk (Value.ref b :: argsL).toArray X₁ hg hsize hdg hW (X₁.named hnamed) (hpre vm₁ X₁.warmed) with ⟨v, B, X', hpost, hsteps⟩ | ⟨q, B, X', hpost, hsteps⟩
  · exact Or.inl ⟨v, vm₁, B, X₁.warmed, X', hpost, fun target h => hstep₁ _ fun acts => by rw [doInvoke_state]; exact hsteps.trans h⟩
  · exact Or.inr ⟨q, vm₁, B, X₁.warmed, X', hpost, hstep₁ _ fun acts => by rw [doInvoke_state]; exact hsteps⟩
theorem vx_callS (X : Stand p l e R s m args below meth c T locs cells slots) (hexec : p.tables.exec = Jvm.exec) {own : String} {index : Nat} {y : MethodName} {bytes : ByteArray} {maxL : Nat} {ret : Option FieldType}
    (hown : s.vm.findClass own = some m.cls) (hlink : (Cond.methodLink own index y).before args s = true) (hstat : (Cond.static y).before args s = true) (hinit : (Cond.initialized y.cls).before args s = true)
    (hcode : (Cond.code y bytes maxL ret).before args s = true) (hy : y.cls ≠ "java/lang/invoke/MethodHandle" ∧ y.cls ≠ "java/lang/invoke/VarHandle")
    {W9 : Nat} {Pre : Pt → Array Value → Prop} {Post : Pt → Array Value → Option Value → Pt → Prop} {PostX : Pt → Array Value → Addr → Pt → Prop} (hK : vx_Back l R p e below s args y 3 W9 Pre Post PostX)
    {g : JFrame} (hg : g.method = m) (hsize : g.locals.size = c.maxLocals) {argsL rest : List Value} (hlen : ∀ sig, parseMethodDescriptor y.desc = some sig → argsL.length = sig.parameters.length)
    (hstack : g.stack = argsL.reverse ++ rest) (hW : 2 * g.monitorRoom + (rest.map fun v => v.category).sum ≤ W9) (hdg : decode c.code g.pc = .ok (.invokestatic index, 3))
    (hpre : ∀ vm₁, s.WarmedH vm₁ → Pre ⟨T.setVm vm₁, locs, cells, slots⟩ argsL.toArray) :
    (∃ (v : Option Value) (vm₁ : Vm) (B : Pt), s.WarmedH vm₁ ∧ Stand p l e R s m args below meth c B.U B.locs B.cells B.slots ∧ Post ⟨T.setVm vm₁, locs, cells, slots⟩ argsL.toArray v B ∧
      ∀ target, Steps p.tables e below (B.U.setTop { g with pc := g.pc + 3, stack := v.toList ++ rest }) target → Steps p.tables e below (T.setTop g) target) ∨
    (∃ (q : Addr) (vm₁ : Vm) (B : Pt), s.WarmedH vm₁ ∧ Stand p l e R s m args below meth c B.U B.locs B.cells B.slots ∧ PostX ⟨T.setVm vm₁, locs, cells, slots⟩ argsL.toArray q B ∧
      Steps p.tables e below (T.setTop g) ((B.U.setTop { g with stack := rest }).pushFrame (.throwing q))) := by
  obtain ⟨mk, hnamed⟩ := Cond.code_named hcode
  obtain ⟨methM, cM, hmethM, -, -, -, -, -, -, hsigM⟩ := Cond.code_spec hnamed hcode
  have hstatic : methM.isStatic = true := Cond.static_spec hnamed hmethM hstat
  obtain ⟨kP, hkP, -⟩ := className_of_methodNamed hnamed
  have hinitP : kP.init = .initialized := Cond.initialized_spec (findClass_of_methodNamed hnamed) hkP hinit
  obtain ⟨vm₁, X₁, hstep₁⟩ := X.invokestatic hexec hown hlink hnamed hmethM hstatic hkP hinitP hy (g := g) hg (argsL := argsL) (rest := rest) (hlen _ hsigM) hstack hdg
  rcases hK m meth c ⟨T.setVm vm₁, locs, cells, slots⟩ { g with stack := rest } (.invokestatic index) mk argsL.toArray X₁ hg hsize hdg hW (X₁.named hnamed) (hpre vm₁ X₁.warmed) with ⟨v, B, X', hpost, hsteps⟩ | ⟨q, B, X', hpost, hsteps⟩
  · exact Or.inl ⟨v, vm₁, B, X₁.warmed, X', hpost, fun target h => hstep₁ _ fun acts => by rw [doInvoke_state]; exact hsteps.trans h⟩
  · exact Or.inr ⟨q, vm₁, B, X₁.warmed, X', hpost, hstep₁ _ fun acts => by rw [doInvoke_state]; exact hsteps⟩
end Calls
theorem vx_cls {s : State} {T : State} {vm₁ : Vm} {E : String} {k : ClassId} (hW : s.WarmedH vm₁) (h : (T.setVm vm₁).vm.findClass E = some k) : s.vm.findClass E = some k := by
  have h1 : vm₁.findClass E = some k := h
  rw [hW.alike.findClass] at h1
  exact h1
/-- the method's frame g, with q thrown over it -/
def vx_W (p : Program) (l : Launch) (e : Env) (R : Room) (s : State) (m : MethodId) (args : Array Value) (below : List Frame) (meth : Method) (c : Code) (H : Heap) (locs : List Loc) (cells slots : Nat) (Q : State → Prop) (g : JFrame) (q : Addr) : Prop :=
  ∀ T : State, T.heap = H → Stand p l e R s m args below meth c T locs cells slots → ∃ t, Steps p.tables e below ((T.setTop g).pushFrame (.throwing q)) t ∧ Q t
def vx_Run (p : Program) (l : Launch) (e : Env) (R : Room) (s : State) (m : MethodId) (args : Array Value) (below : List Frame) (meth : Method) (c : Code) (H : Heap) (locs : List Loc) (cells slots mc ms : Nat) (g : JFrame) (rest : List Value) (Qa : State → Outcome → State → Prop) (XC : String → State → State → Prop) (free : Addr → Prop) : Prop :=
  ∀ T : State, T.heap = H → Stand p l e R s m args below meth c T locs cells slots →
    (∃ (v : Option Value) (st₀ t T' : State) (L : List Loc), st₀.heap = H ∧ Stand p l e R s m args below meth c T' (locs ++ L) (cells + mc) (slots + ms) ∧ (∀ q ∈ L, free q.base) ∧ T'.heap = t.heap ∧ T'.vm = t.vm ∧ Qa st₀ (.returned v) t ∧
      Goes p e below T g T' { g with pc := g.pc + 3, stack := v.toList ++ rest }) ∨
    (∃ (q : Addr) (st₀ t T' : State) (L : List Loc) (E : String) (ce : Cell), st₀.heap = H ∧ Stand p l e R s m args below meth c T' (locs ++ L) (cells + mc) (slots + ms) ∧ (∀ z ∈ L, free z.base) ∧ T'.heap = t.heap ∧ T'.vm = t.vm ∧ XC E st₀ t ∧ t.heap[q]? = some ce ∧ ce.vm = .none ∧ s.vm.findClass E = some ce.cls ∧
      Steps p.tables e below (T.setTop g) ((T'.setTop { g with stack := rest }).pushFrame (.throwing q)))
def vx_X {S : Type} (px : S → Prop) (B : String → S → State → Prop) (A : Nat → Prop) : String → State → State → Prop := fun E st t => ∃ u : S, px u ∧ B E u t ∧ va_F A st t
section Runs
variable {p : Program} {l : Launch} {e : Env} {R : Room} {s : State} {m : MethodId} {args : Array Value} {below : List Frame} {meth : Method} {c : Code} {H : Heap} {locs : List Loc} {cells slots : Nat}
variable {y : MethodName} {bytes cc : ByteArray} {maxL nL mc ms n index : Nat} {ret : Option FieldType} {ws : List Cond} {rm : Room} {Pc : Array Value → State → Prop} {Qc : Array Value → State → Outcome → State → Prop} {XC : String → State → State → Prop} {free : Addr → Prop} {Ts : List Cond} {own C : String} {b : Addr} {As rest : List Value} {g : JFrame}
theorem vx_callBack (cb : CallB R s args own index y bytes maxL ret ws rm mc ms n) (hM : vx_Met l y ws rm Pc Qc XC mc ms free) (hbl : FrameBlind Pc) : vx_Back l R p e below s args y 3 8 (PreOf R mc ms Pc) (PostOf Qc mc ms free) (vx_Post XC mc ms free) := by
  obtain ⟨hrc, hrs, hfr, hlo, hws, hcw, -, hini, -⟩ := cb
  exact vx_back (bytes := bytes) (maxL := maxL) (ret := ret) hM hbl hrc hrs hfr hlo hws hcw (fun a' U hW => word_at hW (Or.inl (by first | rfl | simp [Cond.onTables, Cond.keeps, Cond.steady])) hini)
theorem vx_runV (S : CallFix p m c cc nL s args Ts own) (hM : vx_Met l y ws rm Pc Qc XC mc ms free) (cw : CallW R s args own C index y bytes maxL ret ws rm mc ms n) (hp : PreV s H C b Pc As)
    (hg : g.method = m) (hn : As.length = n) (hsize : g.locals.size = nL) (hstack : g.stack = As.reverse ++ .ref b :: rest) (hW : 2 * g.monitorRoom + (rest.map fun v => v.category).sum ≤ 8) (hdg : decode cc g.pc = .ok (.invokevirtual index, 3)) (hf : cells + mc ≤ R.cells ∧ slots + ms ≤ R.slots) :
    vx_Run p l e R s m args below meth c H locs cells slots mc ms g rest (Qc (Value.ref b :: As).toArray) XC free := by
  have hK : vx_Back l R p e below s args y 3 8 (PreOf R mc ms Pc) (PostOf Qc mc ms free) (vx_Post XC mc ms free) := vx_callBack cw.1 hM hp.1
  obtain ⟨⟨-, -, -, -, -, -, hcode, -, hy, hlen, hl⟩, hin, hse⟩ := cw
  obtain ⟨hx, hb, hml, ho, -⟩ := S
  obtain ⟨-, ⟨cellB, hcB, hoB, hclB⟩, hPc⟩ := hp
  intro T hT X
  rcases vx_callV X hx (C := C) (bytes := bytes) (maxL := maxL) (ret := ret) ho hl hin hse hcode hy hK (by rw [hT]; exact hcB) hoB hclB hg (hsize.trans hml.symm) (argsL := As) (rest := rest) (fun sig h => hn.trans (hlen sig h)) hstack hW (by rw [hb]; exact hdg)
    (fun vm₁ hW₁ => ⟨hf.1, hf.2, hPc (T.setVm vm₁) hT hW₁⟩) with ⟨v, vm₁, ⟨U', l2, c2, s2⟩, hW₁, X', ⟨g', mk, t, L, e1, e2, hq, h1, hL, h2, h3⟩, st⟩ | ⟨q, vm₁, ⟨U', l2, c2, s2⟩, hW₁, X', ⟨g', mk, t, L, E, ce, e1, e2, hq, hce, hcv, hcl, h1, hL, h2, h3⟩, st⟩
  · dsimp only [Pt.U, Pt.locs, Pt.cells, Pt.slots] at X' e1 e2 h1 h2 h3 st
    subst h1; subst h2; subst h3
    exact Or.inl ⟨v, (T.setVm vm₁).calling g' mk (Value.ref b :: As).toArray, t, U', L, hT, X', hL, e1, e2, hq, st⟩
  · dsimp only [Pt.U, Pt.locs, Pt.cells, Pt.slots] at X' e1 e2 h1 h2 h3 st hcl
    subst h1; subst h2; subst h3
    exact Or.inr ⟨q, (T.setVm vm₁).calling g' mk (Value.ref b :: As).toArray, t, U', L, E, ce, hT, X', hL, e1, e2, hq, hce, hcv, vx_cls hW₁ hcl, st⟩
theorem vx_runS (S : CallFix p m c cc nL s args Ts own) (hM : vx_Met l y ws rm Pc Qc XC mc ms free) (cw : CallB R s args own index y bytes maxL ret ws rm mc ms n ∧ (Cond.static y).before args s = true) (hp : PreS s H Pc As)
    (hg : g.method = m) (hn : As.length = n) (hsize : g.locals.size = nL) (hstack : g.stack = As.reverse ++ rest) (hW : 2 * g.monitorRoom + (rest.map fun v => v.category).sum ≤ 8) (hdg : decode cc g.pc = .ok (.invokestatic index, 3)) (hf : cells + mc ≤ R.cells ∧ slots + ms ≤ R.slots) :
    vx_Run p l e R s m args below meth c H locs cells slots mc ms g rest (Qc As.toArray) XC free := by
  have hK : vx_Back l R p e below s args y 3 8 (PreOf R mc ms Pc) (PostOf Qc mc ms free) (vx_Post XC mc ms free) := vx_callBack cw.1 hM hp.1
  obtain ⟨⟨-, -, -, -, -, -, hcode, hini, hy, hlen, hl⟩, hstt⟩ := cw
  obtain ⟨hx, hb, hml, ho, -⟩ := S
  intro T hT X
  rcases vx_callS X hx (bytes := bytes) (maxL := maxL) (ret := ret) ho hl hstt hini hcode hy hK hg (hsize.trans hml.symm) (argsL := As) (rest := rest) (fun sig h => hn.trans (hlen sig h)) hstack hW (by rw [hb]; exact hdg)
    (fun vm₁ hW₁ => ⟨hf.1, hf.2, hp.2 (T.setVm vm₁) hT hW₁⟩) with ⟨v, vm₁, ⟨U', l2, c2, s2⟩, hW₁, X', ⟨g', mk, t, L, e1, e2, hq, h1, hL, h2, h3⟩, st⟩ | ⟨q, vm₁, ⟨U', l2, c2, s2⟩, hW₁, X', ⟨g', mk, t, L, E, ce, e1, e2, hq, hce, hcv, hcl, h1, hL, h2, h3⟩, st⟩
  · dsimp only [Pt.U, Pt.locs, Pt.cells, Pt.slots] at X' e1 e2 h1 h2 h3 st
    subst h1; subst h2; subst h3
    exact Or.inl ⟨v, (T.setVm vm₁).calling g' mk As.toArray, t, U', L, hT, X', hL, e1, e2, hq, st⟩
  · dsimp only [Pt.U, Pt.locs, Pt.cells, Pt.slots] at X' e1 e2 h1 h2 h3 st hcl
    subst h1; subst h2; subst h3
    exact Or.inr ⟨q, (T.setVm vm₁).calling g' mk As.toArray, t, U', L, E, ce, hT, X', hL, e1, e2, hq, hce, hcv, vx_cls hW₁ hcl, st⟩
end Runs
section Rows
variable {p : Program} {l : Launch} {e : Env} {R : Room} {s : State} {m : MethodId} {args : Array Value} {below : List Frame} {meth : Method} {c : Code} {H : Heap} {locs : List Loc} {cells slots : Nat} {Q : State → Prop}
variable {mc ms : Nat} {free : Addr → Prop} {A0 A1 : Nat → Prop} {H0 : Heap} {a : Array Value} {pc : Nat} {ls : Array Slot} {st0 rest : List Value}
theorem vx_keep {st₀ t T' : State} {L : List Loc} (h0 : st₀.heap = H) (e1 : T'.heap = t.heap) (hS : va_S A0 H0 H locs) (hA : ∀ q, q < H.size → A1 q → A0 q) (hf : ∀ q, free q → A0 q) (hL : ∀ q ∈ L, free q.base) (hF : va_F A1 st₀ t) :
    H.size ≤ T'.heap.size ∧ (∀ q : Nat, q < H.size → ¬ A1 q → T'.heap[q]? = H[q]?) ∧ va_S A0 H0 T'.heap (locs ++ L) := by
  obtain ⟨hz, hk⟩ := hF
  rw [h0] at hz hk
  exact ⟨by rw [e1]; exact hz, fun q h1 h2 => by rw [e1]; exact hk q h1 h2,
    ⟨Nat.le_trans hS.1 (by rw [e1]; exact hz), fun q h1 h2 => by rw [e1, hk q (Nat.lt_of_lt_of_le h1 hS.1) (fun z => h2 (hA q (Nat.lt_of_lt_of_le h1 hS.1) z))]; exact hS.2.1 q h1 h2, fun q hq => by
      rcases List.mem_append.mp hq with h | h
      · exact hS.2.2 q h
      · exact hf _ (hL q h)⟩⟩
theorem vx_calli {S SX : Type} {post : Int32 → S → Prop} {px : SX → Prop} {B : S → State → Prop} {BX : String → SX → State → Prop} {AX : Nat → Prop} (hr : vx_Run p l e R s m args below meth c H locs cells slots mc ms (F0 m pc ls st0) rest (va_Qi post B A1 a) (vx_X px BX AX) free) (hS : va_S A0 H0 H locs) (hA : ∀ q, q < H.size → A1 q → A0 q) (hf : ∀ q, free q → A0 q) (hAX : ∀ q, q < H.size → AX q → A0 q)
    (kx : ∀ (E : String) (ce : Cell) (q9 : Addr) (u : SX) (t : State) (H1 : Heap) (locs1 : List Loc), t.heap = H1 → s.vm.Alike t.vm → px u → BX E u t → H.size ≤ H1.size → (∀ q : Nat, q < H.size → ¬ AX q → H1[q]? = H[q]?) → va_S A0 H0 H1 locs1 → H1[q9]? = some ce → ce.vm = .none → s.vm.findClass E = some ce.cls → vx_W p l e R s m args below meth c H1 locs1 (cells + mc) (slots + ms) Q (F0 m pc ls rest) q9)
    (kk : ∀ (r : Int32) (u : S) (t : State) (H1 : Heap) (locs1 : List Loc), t.heap = H1 → s.vm.Alike t.vm → post r u → B u t → H.size ≤ H1.size → (∀ q : Nat, q < H.size → ¬ A1 q → H1[q]? = H[q]?) → va_S A0 H0 H1 locs1 → W p l e R s m args below meth c H1 locs1 (cells + mc) (slots + ms) Q (F0 m (pc + 3) ls (.int r :: rest))) : W p l e R s m args below meth c H locs cells slots Q (F0 m pc ls st0) := by
  intro T hT X
  rcases hr T hT X with ⟨v, st₀, t, T', L, h0, X', hL, e1, e2, ⟨⟨r, u, hv, hp, hb⟩, hF⟩, st⟩ | ⟨q, st₀, t, T', L, E, ce, h0, X', hL, e1, e2, ⟨u, hp, hb, hF⟩, hce, hcv, hcl, st⟩
  · cases hv
    obtain ⟨k1, k2, k3⟩ := vx_keep h0 e1 hS hA hf hL hF
    obtain ⟨t2, a1, b1⟩ := kk r u t T'.heap (locs ++ L) e1.symm (by rw [← e2]; exact X'.warmed.alike) hp hb k1 k2 k3 T' rfl X'
    exact ⟨t2, st t2 a1, b1⟩
  · obtain ⟨k1, k2, k3⟩ := vx_keep h0 e1 hS hAX hf hL hF
    obtain ⟨t2, a1, b1⟩ := kx E ce q u t T'.heap (locs ++ L) e1.symm (by rw [← e2]; exact X'.warmed.alike) hp hb k1 k2 k3 (by rw [e1]; exact hce) hcv hcl T' rfl X'
    exact ⟨t2, st.trans a1, b1⟩
theorem vx_calll {S SX : Type} {post : Int64 → S → Prop} {px : SX → Prop} {B : S → State → Prop} {BX : String → SX → State → Prop} {AX : Nat → Prop} (hr : vx_Run p l e R s m args below meth c H locs cells slots mc ms (F0 m pc ls st0) rest (va_Ql post B A1 a) (vx_X px BX AX) free) (hS : va_S A0 H0 H locs) (hA : ∀ q, q < H.size → A1 q → A0 q) (hf : ∀ q, free q → A0 q) (hAX : ∀ q, q < H.size → AX q → A0 q)
    (kx : ∀ (E : String) (ce : Cell) (q9 : Addr) (u : SX) (t : State) (H1 : Heap) (locs1 : List Loc), t.heap = H1 → s.vm.Alike t.vm → px u → BX E u t → H.size ≤ H1.size → (∀ q : Nat, q < H.size → ¬ AX q → H1[q]? = H[q]?) → va_S A0 H0 H1 locs1 → H1[q9]? = some ce → ce.vm = .none → s.vm.findClass E = some ce.cls → vx_W p l e R s m args below meth c H1 locs1 (cells + mc) (slots + ms) Q (F0 m pc ls rest) q9)
    (kk : ∀ (r : Int64) (u : S) (t : State) (H1 : Heap) (locs1 : List Loc), t.heap = H1 → s.vm.Alike t.vm → post r u → B u t → H.size ≤ H1.size → (∀ q : Nat, q < H.size → ¬ A1 q → H1[q]? = H[q]?) → va_S A0 H0 H1 locs1 → W p l e R s m args below meth c H1 locs1 (cells + mc) (slots + ms) Q (F0 m (pc + 3) ls (.long r :: rest))) : W p l e R s m args below meth c H locs cells slots Q (F0 m pc ls st0) := by
  intro T hT X
  rcases hr T hT X with ⟨v, st₀, t, T', L, h0, X', hL, e1, e2, ⟨⟨r, u, hv, hp, hb⟩, hF⟩, st⟩ | ⟨q, st₀, t, T', L, E, ce, h0, X', hL, e1, e2, ⟨u, hp, hb, hF⟩, hce, hcv, hcl, st⟩
  · cases hv
    obtain ⟨k1, k2, k3⟩ := vx_keep h0 e1 hS hA hf hL hF
    obtain ⟨t2, a1, b1⟩ := kk r u t T'.heap (locs ++ L) e1.symm (by rw [← e2]; exact X'.warmed.alike) hp hb k1 k2 k3 T' rfl X'
    exact ⟨t2, st t2 a1, b1⟩
  · obtain ⟨k1, k2, k3⟩ := vx_keep h0 e1 hS hAX hf hL hF
    obtain ⟨t2, a1, b1⟩ := kx E ce q u t T'.heap (locs ++ L) e1.symm (by rw [← e2]; exact X'.warmed.alike) hp hb k1 k2 k3 (by rw [e1]; exact hce) hcv hcl T' rfl X'
    exact ⟨t2, st.trans a1, b1⟩
theorem vx_callf {S SX : Type} {post : UInt32 → S → Prop} {px : SX → Prop} {B : S → State → Prop} {BX : String → SX → State → Prop} {AX : Nat → Prop} (hr : vx_Run p l e R s m args below meth c H locs cells slots mc ms (F0 m pc ls st0) rest (va_Qf post B A1 a) (vx_X px BX AX) free) (hS : va_S A0 H0 H locs) (hA : ∀ q, q < H.size → A1 q → A0 q) (hf : ∀ q, free q → A0 q) (hAX : ∀ q, q < H.size → AX q → A0 q)
    (kx : ∀ (E : String) (ce : Cell) (q9 : Addr) (u : SX) (t : State) (H1 : Heap) (locs1 : List Loc), t.heap = H1 → s.vm.Alike t.vm → px u → BX E u t → H.size ≤ H1.size → (∀ q : Nat, q < H.size → ¬ AX q → H1[q]? = H[q]?) → va_S A0 H0 H1 locs1 → H1[q9]? = some ce → ce.vm = .none → s.vm.findClass E = some ce.cls → vx_W p l e R s m args below meth c H1 locs1 (cells + mc) (slots + ms) Q (F0 m pc ls rest) q9)
    (kk : ∀ (r : UInt32) (u : S) (t : State) (H1 : Heap) (locs1 : List Loc), t.heap = H1 → s.vm.Alike t.vm → post r u → B u t → H.size ≤ H1.size → (∀ q : Nat, q < H.size → ¬ A1 q → H1[q]? = H[q]?) → va_S A0 H0 H1 locs1 → W p l e R s m args below meth c H1 locs1 (cells + mc) (slots + ms) Q (F0 m (pc + 3) ls (.float r :: rest))) : W p l e R s m args below meth c H locs cells slots Q (F0 m pc ls st0) := by
  intro T hT X
  rcases hr T hT X with ⟨v, st₀, t, T', L, h0, X', hL, e1, e2, ⟨⟨r, u, hv, hp, hb⟩, hF⟩, st⟩ | ⟨q, st₀, t, T', L, E, ce, h0, X', hL, e1, e2, ⟨u, hp, hb, hF⟩, hce, hcv, hcl, st⟩
  · cases hv
    obtain ⟨k1, k2, k3⟩ := vx_keep h0 e1 hS hA hf hL hF
    obtain ⟨t2, a1, b1⟩ := kk r u t T'.heap (locs ++ L) e1.symm (by rw [← e2]; exact X'.warmed.alike) hp hb k1 k2 k3 T' rfl X'
    exact ⟨t2, st t2 a1, b1⟩
  · obtain ⟨k1, k2, k3⟩ := vx_keep h0 e1 hS hAX hf hL hF
    obtain ⟨t2, a1, b1⟩ := kx E ce q u t T'.heap (locs ++ L) e1.symm (by rw [← e2]; exact X'.warmed.alike) hp hb k1 k2 k3 (by rw [e1]; exact hce) hcv hcl T' rfl X'
    exact ⟨t2, st.trans a1, b1⟩
theorem vx_calld {S SX : Type} {post : UInt64 → S → Prop} {px : SX → Prop} {B : S → State → Prop} {BX : String → SX → State → Prop} {AX : Nat → Prop} (hr : vx_Run p l e R s m args below meth c H locs cells slots mc ms (F0 m pc ls st0) rest (va_Qd post B A1 a) (vx_X px BX AX) free) (hS : va_S A0 H0 H locs) (hA : ∀ q, q < H.size → A1 q → A0 q) (hf : ∀ q, free q → A0 q) (hAX : ∀ q, q < H.size → AX q → A0 q)
    (kx : ∀ (E : String) (ce : Cell) (q9 : Addr) (u : SX) (t : State) (H1 : Heap) (locs1 : List Loc), t.heap = H1 → s.vm.Alike t.vm → px u → BX E u t → H.size ≤ H1.size → (∀ q : Nat, q < H.size → ¬ AX q → H1[q]? = H[q]?) → va_S A0 H0 H1 locs1 → H1[q9]? = some ce → ce.vm = .none → s.vm.findClass E = some ce.cls → vx_W p l e R s m args below meth c H1 locs1 (cells + mc) (slots + ms) Q (F0 m pc ls rest) q9)
    (kk : ∀ (r : UInt64) (u : S) (t : State) (H1 : Heap) (locs1 : List Loc), t.heap = H1 → s.vm.Alike t.vm → post r u → B u t → H.size ≤ H1.size → (∀ q : Nat, q < H.size → ¬ A1 q → H1[q]? = H[q]?) → va_S A0 H0 H1 locs1 → W p l e R s m args below meth c H1 locs1 (cells + mc) (slots + ms) Q (F0 m (pc + 3) ls (.double r :: rest))) : W p l e R s m args below meth c H locs cells slots Q (F0 m pc ls st0) := by
  intro T hT X
  rcases hr T hT X with ⟨v, st₀, t, T', L, h0, X', hL, e1, e2, ⟨⟨r, u, hv, hp, hb⟩, hF⟩, st⟩ | ⟨q, st₀, t, T', L, E, ce, h0, X', hL, e1, e2, ⟨u, hp, hb, hF⟩, hce, hcv, hcl, st⟩
  · cases hv
    obtain ⟨k1, k2, k3⟩ := vx_keep h0 e1 hS hA hf hL hF
    obtain ⟨t2, a1, b1⟩ := kk r u t T'.heap (locs ++ L) e1.symm (by rw [← e2]; exact X'.warmed.alike) hp hb k1 k2 k3 T' rfl X'
    exact ⟨t2, st t2 a1, b1⟩
  · obtain ⟨k1, k2, k3⟩ := vx_keep h0 e1 hS hAX hf hL hF
    obtain ⟨t2, a1, b1⟩ := kx E ce q u t T'.heap (locs ++ L) e1.symm (by rw [← e2]; exact X'.warmed.alike) hp hb k1 k2 k3 (by rw [e1]; exact hce) hcv hcl T' rfl X'
    exact ⟨t2, st.trans a1, b1⟩
theorem vx_callv {S SX : Type} {post : S → Prop} {px : SX → Prop} {B : S → State → Prop} {BX : String → SX → State → Prop} {AX : Nat → Prop} (hr : vx_Run p l e R s m args below meth c H locs cells slots mc ms (F0 m pc ls st0) rest (va_Qv post B A1 a) (vx_X px BX AX) free) (hS : va_S A0 H0 H locs) (hA : ∀ q, q < H.size → A1 q → A0 q) (hf : ∀ q, free q → A0 q) (hAX : ∀ q, q < H.size → AX q → A0 q)
    (kx : ∀ (E : String) (ce : Cell) (q9 : Addr) (u : SX) (t : State) (H1 : Heap) (locs1 : List Loc), t.heap = H1 → s.vm.Alike t.vm → px u → BX E u t → H.size ≤ H1.size → (∀ q : Nat, q < H.size → ¬ AX q → H1[q]? = H[q]?) → va_S A0 H0 H1 locs1 → H1[q9]? = some ce → ce.vm = .none → s.vm.findClass E = some ce.cls → vx_W p l e R s m args below meth c H1 locs1 (cells + mc) (slots + ms) Q (F0 m pc ls rest) q9)
    (kk : ∀ (u : S) (t : State) (H1 : Heap) (locs1 : List Loc), t.heap = H1 → s.vm.Alike t.vm → post u → B u t → H.size ≤ H1.size → (∀ q : Nat, q < H.size → ¬ A1 q → H1[q]? = H[q]?) → va_S A0 H0 H1 locs1 → W p l e R s m args below meth c H1 locs1 (cells + mc) (slots + ms) Q (F0 m (pc + 3) ls (rest))) : W p l e R s m args below meth c H locs cells slots Q (F0 m pc ls st0) := by
  intro T hT X
  rcases hr T hT X with ⟨v, st₀, t, T', L, h0, X', hL, e1, e2, ⟨⟨u, hv, hp, hb⟩, hF⟩, st⟩ | ⟨q, st₀, t, T', L, E, ce, h0, X', hL, e1, e2, ⟨u, hp, hb, hF⟩, hce, hcv, hcl, st⟩
  · cases hv
    obtain ⟨k1, k2, k3⟩ := vx_keep h0 e1 hS hA hf hL hF
    obtain ⟨t2, a1, b1⟩ := kk u t T'.heap (locs ++ L) e1.symm (by rw [← e2]; exact X'.warmed.alike) hp hb k1 k2 k3 T' rfl X'
    exact ⟨t2, st t2 a1, b1⟩
  · obtain ⟨k1, k2, k3⟩ := vx_keep h0 e1 hS hAX hf hL hF
    obtain ⟨t2, a1, b1⟩ := kx E ce q u t T'.heap (locs ++ L) e1.symm (by rw [← e2]; exact X'.warmed.alike) hp hb k1 k2 k3 (by rw [e1]; exact hce) hcv hcl T' rfl X'
    exact ⟨t2, st.trans a1, b1⟩
/-- caught by the row x of this method's table; the rows ahead don't take it -/
theorem vx_catch {own name : String} {E : String} {ce : Cell} {q : Addr} (hown : s.vm.findClass own = some m.cls) (pre : List ExceptionTableEntry) (x : ExceptionTableEntry) (suf : List ExceptionTableEntry) (hsplit : c.exceptionTable.toList = pre ++ x :: suf)
    (hpass : ∀ z ∈ pre, covers z pc = false ∨ (z.catchType ≠ 0 ∧ ∃ nm : String, (Cond.classLink own z.catchType nm).before args s = true ∧ va_Nc E nm s)) (hx : covers x pc = true) (h0 : x.catchType ≠ 0)
    (hlink : (Cond.classLink own x.catchType name).before args s = true) (hcast : (Cond.castable E name).before args s = true) (hcell : H[q]? = some ce) (hv : ce.vm = .none) (hcl : s.vm.findClass E = some ce.cls)
    (kk : W p l e R s m args below meth c H locs cells slots Q (F0 m x.handlerPc ls [.ref q])) : vx_W p l e R s m args below meth c H locs cells slots Q (F0 m pc ls rest) q := by
  intro T hT X
  have hpl : e.platform.magicAccessors = ({} : Platform).magicAccessors := by rw [X.admits.platform]
  obtain ⟨c3, c4, hc3, hc4, hasg⟩ := Cond.castable_spec hcast
  cases Option.some.inj (hc3.symm.trans hcl)
  obtain ⟨c5, hc5, hcl5⟩ := Cond.classLink_spec hown hlink e.platform hpl
  cases Option.some.inj (hc4.symm.trans hc5)
  obtain ⟨vm', X', st⟩ := X.thenCaughtThrough q (g := F0 m pc ls rest) rfl (Steps.refl _) (by rw [hT]; exact hcell) (by rw [hv]; rfl) (by obtain ⟨k9, h9, -⟩ := Vm.findClass_spec hcl; exact ⟨k9, h9⟩) pre x suf hsplit
    (fun z hz => by
      rcases hpass z hz with h | ⟨hz0, nm, hl1, hn1⟩
      · exact Or.inl h
      · obtain ⟨c6, hc6, hcl6⟩ := Cond.classLink_spec hown hl1 e.platform hpl
        obtain ⟨a8, b8, h1, h2, h3⟩ := hn1
        cases Option.some.inj (h1.symm.trans hcl)
        cases Option.some.inj (h2.symm.trans hc6)
        exact Or.inr ⟨hz0, _, hcl6, h3⟩) hx (Or.inr ⟨h0, c4, hcl5, hasg⟩)
  obtain ⟨t, a1, b1⟩ := kk (T.setVm vm') hT X'
  exact ⟨t, st.trans a1, b1⟩
end Rows
section Ends
variable {p : Program} {l : Launch} {e : Env} {R : Room} {s : State} {m : MethodId} {args : Array Value} {below : List Frame} {meth : Method} {c : Code} {H : Heap} {locs : List Loc} {cells slots : Nat} {Q : State → Prop}
variable {mc ms : Nat} {free : Addr → Prop} {A0 A1 : Nat → Prop} {H0 : Heap} {a : Array Value} {ls : Array Slot} {st0 rest : List Value}
variable {Qc : Array Value → State → Outcome → State → Prop} {XC : String → State → State → Prop}
/-- what a body that may throw owes at its end -/
def vx_MQ (below : List Frame) (Qc : Array Value → State → Outcome → State → Prop) (XC : String → State → State → Prop) (a : Array Value) (s : State) (mc ms : Nat) (free : Addr → Prop) : State → Prop := fun t =>
  ∃ o, t.status = .running ∧ Ended t below o ∧ vx_Q Qc XC mc ms free a s o t
theorem vx_ret {g : JFrame} {mc ms : Nat} (k : W p l e R s m args below meth c H locs cells slots (MQ below Qc args s mc ms free) g) : W p l e R s m args below meth c H locs cells slots (vx_MQ below Qc XC args s mc ms free) g := by
  intro T hT X
  obtain ⟨t, a1, o, b1, b2, b3, b4⟩ := k T hT X
  exact ⟨t, a1, o, b1, b2, Or.inl ⟨b3, b4⟩⟩
/-- not caught here: it goes on to the caller -/
theorem vx_widen {g : JFrame} {q : Addr} {k n : Nat} (h1 : cells ≤ k) (h2 : slots ≤ n) (kk : vx_W p l e R s m args below meth c H locs k n Q g q) : vx_W p l e R s m args below meth c H locs cells slots Q g q := fun T hT X => kk T hT (stand_widen X h1 h2)
theorem vx_out {pc : Nat} {E : String} {ce : Cell} {q : Addr} {mc ms : Nat} (hout : ∀ x ∈ c.exceptionTable.toList, covers x pc = false) (hlocks : meth.locks = false) (hcell : H[q]? = some ce) (hv : ce.vm = .none) (hcl : s.vm.findClass E = some ce.cls)
    (hx : ∀ t : State, t.heap = H → s.vm.Alike t.vm → XC E s t) (hf : ∀ z ∈ locs, free z.base) (hc : cells ≤ mc) (hs : slots ≤ ms) :
    vx_W p l e R s m args below meth c H locs cells slots (vx_MQ below Qc XC args s mc ms free) (F0 m pc ls rest) q := by
  intro T hT X
  obtain ⟨st1, hrun, hend, hW, hsm⟩ := X.leaveThrown q (g := F0 m pc ls rest) rfl rfl rfl hout hlocks
  have hcell9 : (T.setFrames (.throwing q :: below)).heap[q]? = some ce := by
    show T.heap[q]? = some ce
    rw [hT]; exact hcell
  exact ⟨_, st1, .threw q, hrun, hend, Or.inr ⟨q, rfl, E, ce, locs, hx _ hT hW.alike, hcell9, hv, hcl, hW, hsm.mono hc hs, hf⟩⟩
theorem vx_frame {U : State} {k n : Nat} (h : s.sameButNew ({ U with vm := s.vm } : State) locs k n) : s.heap.size ≤ U.heap.size ∧ ∀ q : Nat, q < s.heap.size → (∀ z ∈ locs, z.base ≠ q) → U.heap[q]? = s.heap[q]? := by
  obtain ⟨-, h2, -, -, -, h6⟩ := h
  refine ⟨h2, fun q hq hz => ?_⟩
  obtain ⟨c9, e1, e2, e3, e4⟩ := h6 q _ (Array.getElem?_eq_getElem hq)
  have hs : c9.slots = (s.heap[q]).slots := Array.ext_getElem? fun i => e4 i fun hm => hz _ hm rfl
  have h9 : c9 = s.heap[q] := by
    rw [hs] at e2
    exact e2
  have e5 : U.heap[q]? = some c9 := e1
  rw [e5, h9, Array.getElem?_eq_getElem hq]
/-- the words of a throw but the four that speak of the heap -/
def vx_no (w : Cond) : Bool := decide (w ≠ .isRef (.static Bundle.tN "UNASSIGNED_STACK" Bundle.steD)) && decide (w ≠ .isRef (.static Bundle.tN "SUPPRESSED_SENTINEL" Bundle.listD)) && decide (w ≠ .laysStatic Bundle.tN "UNASSIGNED_STACK" Bundle.steD) && decide (w ≠ .laysStatic Bundle.tN "SUPPRESSED_SENTINEL" Bundle.listD)
def vx_at0 (own : String) (ic : Nat) (X : String) (names : List String) : List Cond := (Bundle.ownAtoms0 own ic X names).filter vx_no
def vx_atS (own : String) (ic : Nat) (X : String) (names : List String) : List Cond := (Bundle.ownAtoms own ic X names).filter vx_no
/-- a word that the tables alone decide, or a good one -/
def vx_ot (w : Cond) : Bool := w.onTables || goodWord w
theorem vx_ot_at {args a' : Array Value} {s U : State} {w : Cond} (hW : s.WarmedH U.vm) (hvm : s.vm = U.vm) (hg : vx_ot w = true) (h : w.before args s = true) : w.before a' U = true := by
  simp only [vx_ot, Bool.or_eq_true] at hg
  rcases hg with hg | hg
  · exact va_tabs hg hvm h
  · exact word_at hW (good_of_word hg) h
/-- a list's words: the good ones out of the method's own list, the others by premises of their own -/
theorem vx_hat {args : Array Value} {s : State} {L B : List Cond} (h1 : ∀ w ∈ L.filter goodWord, w.before args s = true) (h2 : ∀ w ∈ L.filter (fun w => !goodWord w), w ∈ B) (h3 : ∀ w ∈ B, w.before args s = true) : ∀ w ∈ L, w.before args s = true := by
  intro w hw
  by_cases g : goodWord w = true
  · exact h1 w (List.mem_filter.mpr ⟨hw, g⟩)
  · refine h3 w (h2 w (List.mem_filter.mpr ⟨hw, ?_⟩))
    show (!goodWord w) = true
    cases hgw : goodWord w
    · rfl
    · exact absurd hgw g
theorem vx_c {args : Array Value} {s : State} {w : Cond} {B : List Cond} (h : w.before args s = true) (t : ∀ w ∈ B, w.before args s = true) : ∀ w' ∈ w :: B, w'.before args s = true := fun w' h' => (List.mem_cons.mp h').elim (fun e => by rw [e]; exact h) (t w')
theorem vx_n {args : Array Value} {s : State} : ∀ w ∈ ([] : List Cond), w.before args s = true := fun _ h => nomatch h
theorem vx_own {args : Array Value} {s : State} {L : List Cond} (h1 : ∀ w ∈ L.filter vx_no, w.before args s = true)
    (hU : (Cond.isRef (.static Bundle.tN "UNASSIGNED_STACK" Bundle.steD)).before args s = true) (hN : (Cond.isRef (.static Bundle.tN "SUPPRESSED_SENTINEL" Bundle.listD)).before args s = true)
    (lU : (Cond.laysStatic Bundle.tN "UNASSIGNED_STACK" Bundle.steD).before args s = true) (lN : (Cond.laysStatic Bundle.tN "SUPPRESSED_SENTINEL" Bundle.listD).before args s = true) : ∀ w ∈ L, w.before args s = true := by
  intro w hw
  by_cases e1 : w = .isRef (.static Bundle.tN "UNASSIGNED_STACK" Bundle.steD)
  · rw [e1]; exact hU
  · by_cases e2 : w = .isRef (.static Bundle.tN "SUPPRESSED_SENTINEL" Bundle.listD)
    · rw [e2]; exact hN
    · by_cases e3 : w = .laysStatic Bundle.tN "UNASSIGNED_STACK" Bundle.steD
      · rw [e3]; exact lU
      · by_cases e4 : w = .laysStatic Bundle.tN "SUPPRESSED_SENTINEL" Bundle.listD
        · rw [e4]; exact lN
        · exact h1 w (List.mem_filter.mpr ⟨hw, by unfold vx_no; rw [decide_eq_true e1, decide_eq_true e2, decide_eq_true e3, decide_eq_true e4]; rfl⟩)
/-- where a static field lies, its class's statics cell in H -/
def vx_L (C n d : String) (A : Nat → Prop) (U : State) (H : Heap) : Prop := ∃ (c : ClassId) (k : Class) (i : Nat) (f : Field) (a : Nat) (cell : Cell), U.vm.findClass C = some c ∧ U.fieldFound? C n d = some (c, k, i, f) ∧ f.isStatic = true ∧ k.statics = some a ∧ H[a]? = some cell ∧ cell.vm.isStatics = true ∧ cell.cls = c ∧ f.slot < cell.slots.size ∧ k.staticTypes[f.slot]? = some f.type ∧ ¬ A a
theorem vx_L.moved {C n d : String} {A : Nat → Prop} {u U : State} {H : Heap} (hvm : u.vm.Alike U.vm) (h : vx_L C n d A u H) : vx_L C n d A U H := by
  obtain ⟨c, k, i, f, a, cell, h1, h2, h3, h4, h5, h6, h7, h8, h9, h10⟩ := h
  obtain ⟨k', hi', he⟩ := State.fieldFound?_setVm hvm h2
  exact ⟨c, k', i, f, a, cell, by rw [hvm.findClass]; exact h1, hi', h3, by rw [he]; exact h4, h5, h6, h7, h8, by rw [he]; exact h9, h10⟩
theorem vx_L.kept {C n d : String} {A : Nat → Prop} {U : State} {H H1 : Heap} (h : vx_L C n d A U H) (hq : ∀ a : Nat, a < H.size → ¬ A a → H1[a]? = H[a]?) : vx_L C n d A U H1 := by
  obtain ⟨c, k, i, f, a, cell, h1, h2, h3, h4, h5, h6, h7, h8, h9, h10⟩ := h
  exact ⟨c, k, i, f, a, cell, h1, h2, h3, h4, by rw [hq a (Array.getElem?_eq_some_iff.mp h5).1 h10]; exact h5, h6, h7, h8, h9, h10⟩
theorem vx_L.narrow {C n d : String} {A B : Nat → Prop} {U : State} {H : Heap} (h : vx_L C n d A U H) (hAB : ∀ q, B q → A q) : vx_L C n d B U H := by
  obtain ⟨c, k, i, f, a, cell, h1, h2, h3, h4, h5, h6, h7, h8, h9, h10⟩ := h
  exact ⟨c, k, i, f, a, cell, h1, h2, h3, h4, h5, h6, h7, h8, h9, fun z => h10 (hAB _ z)⟩
theorem vx_L.word {C n d : String} {A : Nat → Prop} {s : State} {args : Array Value} (h : vx_L C n d A s s.heap) : (Cond.laysStatic C n d).before args s = true := by
  obtain ⟨c, k, i, f, a, cell, h1, h2, h3, h4, h5, h6, h7, h8, h9, -⟩ := h
  show (Cond.laysStatic C n d).holds args s none s [] = true
  exact Cond.laysStatic_of h1 h2 h3 h4 h5 h6 h7 h8 h9
/-- .. and what it holds: null or some reference -/
def vx_Zq (C n d : String) (A : Nat → Prop) (U : State) (H : Heap) : Prop := va_Zq C n d A U H ∧ vx_L C n d A U H
theorem vx_Zq.moved {C n d : String} {A : Nat → Prop} {u U : State} {H : Heap} (hvm : u.vm.Alike U.vm) (h : vx_Zq C n d A u H) : vx_Zq C n d A U H := ⟨va_Zq.moved hvm h.1, vx_L.moved hvm h.2⟩
theorem vx_Zq.kept {C n d : String} {A : Nat → Prop} {U : State} {H H1 : Heap} (h : vx_Zq C n d A U H) (hq : ∀ a : Nat, a < H.size → ¬ A a → H1[a]? = H[a]?) : vx_Zq C n d A U H1 := ⟨va_Zq.kept h.1 hq, vx_L.kept h.2 hq⟩
theorem vx_Zq.narrow {C n d : String} {A B : Nat → Prop} {U : State} {H : Heap} (h : vx_Zq C n d A U H) (hAB : ∀ q, B q → A q) : vx_Zq C n d B U H := ⟨va_Zq.narrow h.1 hAB, vx_L.narrow h.2 hAB⟩
theorem vx_Zqof {args : Array Value} {s : State} {C n d : String} {A : Nat → Prop} (hl : (Cond.laysStatic C n d).before args s = true) (hini : (Cond.initialized C).before args s = true) (h : (Cond.isRef (.static C n d)).before args s = true) (hA : ∀ a : Nat, a < s.heap.size → ¬ A a) : vx_Zq C n d A s s.heap := by
  refine ⟨va_Zqof hl hini h hA, ?_⟩
  obtain ⟨c, k, i, f, a, cell, h1, h2, h3, h4, h5, h6, h7, h8, h9⟩ := Cond.laysStatic_spec hl
  exact ⟨c, k, i, f, a, cell, h1, h2, h3, h4, h5, h6, h7, h8, h9, hA a (Array.getElem?_eq_some_iff.mp h5).1⟩
theorem vx_isRef {C n d : String} {v : Value} {A : Nat → Prop} {s : State} {args : Array Value} (h : va_Z C n d v A s s.heap) (hv : v.isRef = true) : (Cond.isRef (.static C n d)).before args s = true := by
  obtain ⟨cf, kf, fi, f, a, cell, h1, h2, h3, h4, h5, h6, h7, -⟩ := h
  have he : (Term.static C n d).eval args s none [] s = some v := by
    simp [Term.eval, State.fieldNamed?, h1, h2, h4, h5, h6, h7]
  simp only [Cond.before, Cond.holds, Cond.value, he]
  cases v <;> simp_all [Value.isRef]
theorem vx_isRefq {C n d : String} {A : Nat → Prop} {s : State} {args : Array Value} (h : va_Zq C n d A s s.heap) : (Cond.isRef (.static C n d)).before args s = true := by
  rcases h with h | ⟨t, h⟩
  · exact vx_isRef h rfl
  · exact vx_isRef h rfl
/-- the same frame, seen from here: as if the method were called anew in this heap -/
theorem vx_rebase {T : State} (X : Stand p l e R s m args below meth c T locs cells slots) {R' : Room} (hf : R'.frames ≤ R.frames) (hl : R'.locals ≤ R.locals) (hc : cells + R'.cells ≤ R.cells) (hs : slots + R'.slots ≤ R.slots) :
    Stand p l e R' ((T.setVm s.vm).setFrames (.invoking m args :: below)) m args below meth c T [] 0 0 := by
  have htop : (T.setVm s.vm).topJava?.isSome := X.here.top
  have hF : ((T.setVm s.vm).setFrames (.invoking m args :: below)).frames = .invoking m args :: below := State.frames_setFrames _ (State.cur_lt_of_top htop)
  obtain ⟨g₀, hg0⟩ := Option.isSome_iff_exists.mp htop
  obtain ⟨r, hr⟩ := State.topJava?_eq_some.mp hg0
  have hl9 : e.platform.stackLimits (T.setVm s.vm).me = e.platform.stackLimits s.me := X.limits
  have hb9 : (T.setVm s.vm).me.stackBytes = s.me.stackBytes := X.bytes
  refine ⟨X.admits, X.cas, X.clock, hF, ?_, X.hears, X.method, X.code, X.here, X.tail, X.warmed, ?_, ?_, ?_⟩
  · have h := X.room
    have hU : ((T.setVm s.vm).setFrames (.invoking m args :: below)).localsInUse = s.localsInUse := by
      rw [State.localsInUse_invoking hF (meth := meth) (c := c) X.method X.code, State.localsInUse_invoking X.frames X.method X.code]
    simp only [State.hasRoom, Bool.and_eq_true, decide_eq_true_eq] at h ⊢
    obtain ⟨⟨⟨⟨h1, h2, h3, h4, h5, h6⟩, h7⟩, h8⟩, h9⟩ := h
    rw [X.frames, List.length_cons] at h2 h3
    have q1 := X.heapSize
    have q2 := X.used
    simp only [hF, hU, List.length_cons, State.stackLimits_setFrames, State.stackBytes_setFrames, hl9, hb9]
    refine ⟨⟨⟨⟨by omega, by omega, by omega, by omega, by omega, h6⟩, ?_⟩, ?_⟩, X.book⟩
    · show T.heap.size + R'.cells ≤ e.platform.maxCells
      omega
    · show T.slotsUsed + R'.slots ≤ e.platform.maxSlots
      omega
  · rw [State.stackLimits_setFrames]; rfl
  · rw [State.stackBytes_setFrames]; rfl
  · refine ⟨?_, Nat.le_refl _, Nat.le_refl _, ?_, ?_, fun a c9 h9 => ⟨c9, h9, rfl, rfl, fun _ _ => rfl⟩⟩
    · obtain ⟨t, ht, -⟩ := State.frames_cons hr
      show T.setVm s.vm = { ((T.setVm s.vm).setFrames (.invoking m args :: below)).setFrames (T.setVm s.vm).frames with heap := T.heap, slotsUsed := T.slotsUsed }
      rw [State.setFrames_setFrames, State.setFrames_self ht]
      rfl
    · show T.slotsUsed = T.slotsUsed + ((T.heap.toList.drop T.heap.size).map (·.slots.size)).sum
      rw [List.drop_eq_nil_of_le (Nat.le_of_eq Array.length_toList)]
      rfl
    · show ((T.heap.toList.drop T.heap.size).map (·.slots.size)).sum ≤ 0
      rw [List.drop_eq_nil_of_le (Nat.le_of_eq Array.length_toList)]
      exact Nat.le_refl _
/-- 'throw new E()': new; dup; invokespecial; athrow -/
theorem vx_throw0 {cc : ByteArray} {pc : Nat} (hexec : p.tables.exec = Jvm.exec) (hb : c.code = cc) (hl : l.stackTraces = false) {own cls : String} {names : List String} {ik ic mc ms : Nat} {A : Nat → Prop}
    (hown : s.vm.findClass own = some m.cls) (hcls : Bundle.fit cls = true) (hnames : ∀ n ∈ names, Bundle.fit n = true)
    (hk : (Cond.classLink own ik cls).before args s = true) (hini : (Cond.initialized cls).before args s = true) (hat : ∀ w ∈ vx_at0 own ic cls names, w.before args s = true)
    (hgood : ∀ w ∈ Cond.classLink own ik cls :: Cond.initialized cls :: vx_at0 own ic cls names, vx_ot w = true)
    (hU : vx_Zq Bundle.tN "UNASSIGNED_STACK" Bundle.steD A s s.heap) (hN : vx_Zq Bundle.tN "SUPPRESSED_SENTINEL" Bundle.listD A s s.heap) (hS : va_S A s.heap H locs) (hsize : ls.size = c.maxLocals)
    (d0 : decode cc pc = .ok (.new ik, 3)) (d3 : decode cc (pc + 3) = .ok (.dup, 1)) (d4 : decode cc (pc + 4) = .ok (.invokespecial ic, 3)) (d7 : decode cc (pc + 7) = .ok (.athrow, 1))
    (hout : ∀ x ∈ c.exceptionTable.toList, covers x (pc + 7) = false)
    (hRframes : names.length + 3 < R.frames) (hRlocals : (rest.map fun v => v.category).sum + (13 * (names.length + 1) + 42) ≤ R.locals) (hRcells : cells + 1 ≤ R.cells) (hRslots : slots + 6 ≤ R.slots) (hlocks : meth.locks = false)
    (hx : ∀ t : State, s.vm.Alike t.vm → H.size ≤ t.heap.size → (∀ q : Nat, q < H.size → t.heap[q]? = H[q]?) → XC cls s t)
    (hf : ∀ z ∈ locs, free z.base) (hc : cells + 1 ≤ mc) (hs : slots + 6 ≤ ms) :
    W p l e R s m args below meth c H locs cells slots (vx_MQ below Qc XC args s mc ms free) (F0 m pc ls rest) := by
  intro T hT X
  have htr : e.platform.stackTraces = false := (show e.platform.stackTraces = l.stackTraces by rw [X.admits.platform]).trans hl
  have Y := vx_rebase X (R' := { frames := R.frames, locals := R.locals, cells := 1, slots := 6 }) (Nat.le_refl _) (Nat.le_refl _) hRcells hRslots
  obtain ⟨s', hA⟩ : ∃ z, z = (T.setVm s.vm).setFrames (.invoking m args :: below) := ⟨_, rfl⟩
  rw [← hA] at Y
  have hvm : s'.vm = s.vm := by rw [hA]; rfl
  have hhp : s'.heap = H := by rw [hA]; exact hT
  have hW0 : s.WarmedH s'.vm := by rw [hvm]; exact State.WarmedH.refl s
  have hat' : ∀ w ∈ vx_at0 own ic cls names, w.before args s' = true := fun w hw => vx_ot_at hW0 hvm.symm (hgood w (List.mem_cons_of_mem _ (List.mem_cons_of_mem _ hw))) (hat w hw)
  have hk' : (Cond.classLink own ik cls).before args s' = true := vx_ot_at hW0 hvm.symm (hgood _ List.mem_cons_self) hk
  have hini' : (Cond.initialized cls).before args s' = true := vx_ot_at hW0 hvm.symm (hgood _ (List.mem_cons_of_mem _ List.mem_cons_self)) hini
  have hU' : vx_Zq Bundle.tN "UNASSIGNED_STACK" Bundle.steD A s' s'.heap := by rw [hhp]; exact vx_Zq.moved hW0.alike (hU.kept hS.2.1)
  have hN' : vx_Zq Bundle.tN "SUPPRESSED_SENTINEL" Bundle.listD A s' s'.heap := by rw [hhp]; exact vx_Zq.moved hW0.alike (hN.kept hS.2.1)
  have h : ∀ w ∈ Bundle.ownAtoms0 own ic cls names, w.before args s' = true := vx_own hat' (vx_isRefq hU'.1) (vx_isRefq hN'.1) hU'.2.word hN'.2.word
  have hown' : s'.vm.findClass own = some m.cls := by rw [hvm]; exact hown
  have hins : (Cond.instantiable cls 6).before args s' = true := h _ (by simp [Bundle.ownAtoms0])
  obtain ⟨vm₁, cX, kX, hfX, hkX, -, -, X₁, st1⟩ := Y.newCold hexec (own := own) (C := cls) (index := ik) (n := 6) hown' hk' hins hini'
    (g := F0 m pc ls rest) rfl (by rw [hb]; exact d0) (Nat.le_refl _) (Nat.le_refl _)
  generalize hT1 : (T.setVm vm₁).pushCell { cls := cX, slots := kX.instanceTypes.map defaultValue, vm := .none } = T1 at X₁ st1
  have hcat : (Value.ref T.heap.size).category = 1 := rfl
  have hcellA : T1.heap[T.heap.size]? = some (freshCell cX kX) := by rw [← hT1]; exact State.heap_pushCell_size _ _
  have d3' : decode c.code (pc + 3) = .ok (.dup, 1) := by rw [hb]; exact d3
  obtain ⟨U, hsteps, hrun, hend, hW, hsame, ce, hce, hO⟩ := X₁.ctorThrow0 hexec htr (own := own) (cls := cls) (names := names) (ic := ic) hown' hcls hnames h (fun x hx => nomatch hx) hfX hkX hcellA (by rw [hhp, hT]; exact Nat.le_refl _)
    (g := { method := m, pc := pc + 4, locals := ls, stack := .ref T.heap.size :: .ref T.heap.size :: rest, locked := none }) rfl hsize rfl rfl (rest := rest) rfl
    (by rw [hb]; exact d4) (by rw [hb]; exact d7) hout hRframes (by simp only [List.map_cons, List.sum_cons, hcat]; omega) hlocks
  obtain ⟨f1, f2⟩ := vx_frame hsame
  rw [hhp] at f1 f2
  have hWs : s.WarmedH U.vm := State.WarmedH.trans hW0 hW
  have hcl : s.vm.findClass cls = some ce.cls := by
    have h9 := hO.cls
    rw [hvm] at h9
    exact h9
  have hall : s.sameButNew ({ U with vm := s.vm } : State) locs mc ms := by
    subst hA
    obtain ⟨e1, e2⟩ := hsame
    rw [State.setFrames_setFrames] at e1
    have h2 : (T.setVm s.vm).sameButNew ({ U with vm := s.vm } : State) [] (0 + 1) (0 + 6) := ⟨e1, e2⟩
    have h3 := X.same.trans h2
    rw [List.append_nil] at h3
    exact h3.mono hc hs
  refine ⟨U, ?_, .threw T.heap.size, hrun, hend, Or.inr ⟨T.heap.size, rfl, cls, ce, locs, hx U hWs.alike f1 (fun q hq => f2 q hq (fun z hz => nomatch hz)), hce, hO.vm, hcl, hWs, hall, hf⟩⟩
  refine st1 _ ?_
  show Steps p.tables e below (T1.setTop { method := m, pc := pc + 3, locals := ls, stack := .ref T.heap.size :: rest, locked := none }) _
  jvm_step X₁.here [X₁.here.top, hexec, d3', Value.category]
  exact hsteps
/-- 'throw new E("text")': new; dup; ldc; invokespecial; athrow -/
theorem vx_throwS {cc : ByteArray} {pc : Nat} (hexec : p.tables.exec = Jvm.exec) (hb : c.code = cc) (hl : l.stackTraces = false) {own cls text : String} {names : List String} {ik is ic mc ms sa : Nat} {A : Nat → Prop}
    (hown : s.vm.findClass own = some m.cls) (hcls : Bundle.fit cls = true) (hnames : ∀ n ∈ names, Bundle.fit n = true)
    (hk : (Cond.classLink own ik cls).before args s = true) (hini : (Cond.initialized cls).before args s = true) (hstr : vk_R own is text sa s) (hat : ∀ w ∈ vx_atS own ic cls names, w.before args s = true)
    (hgood : ∀ w ∈ Cond.classLink own ik cls :: Cond.initialized cls :: vx_atS own ic cls names, vx_ot w = true)
    (hU : vx_Zq Bundle.tN "UNASSIGNED_STACK" Bundle.steD A s s.heap) (hN : vx_Zq Bundle.tN "SUPPRESSED_SENTINEL" Bundle.listD A s s.heap) (hS : va_S A s.heap H locs) (hsize : ls.size = c.maxLocals)
    (d0 : decode cc pc = .ok (.new ik, 3)) (d3 : decode cc (pc + 3) = .ok (.dup, 1)) (d4 : decode cc (pc + 4) = .ok (.ldc is, 2)) (d6 : decode cc (pc + 6) = .ok (.invokespecial ic, 3)) (d9 : decode cc (pc + 9) = .ok (.athrow, 1))
    (hout : ∀ x ∈ c.exceptionTable.toList, covers x (pc + 9) = false)
    (hRframes : names.length + 3 < R.frames) (hRlocals : (rest.map fun v => v.category).sum + (13 * (names.length + 1) + 43) ≤ R.locals) (hRcells : cells + 1 ≤ R.cells) (hRslots : slots + 6 ≤ R.slots) (hlocks : meth.locks = false)
    (hx : ∀ t : State, s.vm.Alike t.vm → H.size ≤ t.heap.size → (∀ q : Nat, q < H.size → t.heap[q]? = H[q]?) → XC cls s t)
    (hf : ∀ z ∈ locs, free z.base) (hc : cells + 1 ≤ mc) (hs : slots + 6 ≤ ms) :
    W p l e R s m args below meth c H locs cells slots (vx_MQ below Qc XC args s mc ms free) (F0 m pc ls rest) := by
  intro T hT X
  have htr : e.platform.stackTraces = false := (show e.platform.stackTraces = l.stackTraces by rw [X.admits.platform]).trans hl
  have Y := vx_rebase X (R' := { frames := R.frames, locals := R.locals, cells := 1, slots := 6 }) (Nat.le_refl _) (Nat.le_refl _) hRcells hRslots
  obtain ⟨s', hA⟩ : ∃ z, z = (T.setVm s.vm).setFrames (.invoking m args :: below) := ⟨_, rfl⟩
  rw [← hA] at Y
  have hvm : s'.vm = s.vm := by rw [hA]; rfl
  have hhp : s'.heap = H := by rw [hA]; exact hT
  have hW0 : s.WarmedH s'.vm := by rw [hvm]; exact State.WarmedH.refl s
  have hat' : ∀ w ∈ vx_atS own ic cls names, w.before args s' = true := fun w hw => vx_ot_at hW0 hvm.symm (hgood w (List.mem_cons_of_mem _ (List.mem_cons_of_mem _ hw))) (hat w hw)
  have hk' : (Cond.classLink own ik cls).before args s' = true := vx_ot_at hW0 hvm.symm (hgood _ List.mem_cons_self) hk
  have hini' : (Cond.initialized cls).before args s' = true := vx_ot_at hW0 hvm.symm (hgood _ (List.mem_cons_of_mem _ List.mem_cons_self)) hini
  have hU' : vx_Zq Bundle.tN "UNASSIGNED_STACK" Bundle.steD A s' s'.heap := by rw [hhp]; exact vx_Zq.moved hW0.alike (hU.kept hS.2.1)
  have hN' : vx_Zq Bundle.tN "SUPPRESSED_SENTINEL" Bundle.listD A s' s'.heap := by rw [hhp]; exact vx_Zq.moved hW0.alike (hN.kept hS.2.1)
  have h : ∀ w ∈ Bundle.ownAtoms own ic cls names, w.before args s' = true := vx_own hat' (vx_isRefq hU'.1) (vx_isRefq hN'.1) hU'.2.word hN'.2.word
  have hown' : s'.vm.findClass own = some m.cls := by rw [hvm]; exact hown
  have hins : (Cond.instantiable cls 6).before args s' = true := h _ (by simp [Bundle.ownAtoms])
  obtain ⟨vm₁, cX, kX, hfX, hkX, -, -, X₁, st1⟩ := Y.newCold hexec (own := own) (C := cls) (index := ik) (n := 6) hown' hk' hins hini'
    (g := F0 m pc ls rest) rfl (by rw [hb]; exact d0) (Nat.le_refl _) (Nat.le_refl _)
  generalize hT1 : (T.setVm vm₁).pushCell { cls := cX, slots := kX.instanceTypes.map defaultValue, vm := .none } = T1 at X₁ st1
  have hcat : (Value.ref T.heap.size).category = 1 := rfl
  have hcellA : T1.heap[T.heap.size]? = some (freshCell cX kX) := by rw [← hT1]; exact State.heap_pushCell_size _ _
  have d3' : decode c.code (pc + 3) = .ok (.dup, 1) := by rw [hb]; exact d3
  have d4' : decode c.code (pc + 4) = .ok (.ldc is, 2) := by rw [hb]; exact d4
  have hstr' : vk_R own is text sa s' := vk_R.warm hW0 hstr
  obtain ⟨U, hsteps, hrun, hend, hW, hsame, ce, hce, hO⟩ := X₁.ctorThrowS hexec htr (own := own) (cls := cls) (names := names) (ic := ic) hown' hcls hnames h (fun x hx => nomatch hx) hfX hkX hcellA (by rw [hhp, hT]; exact Nat.le_refl _) (msg := .ref sa) rfl
    (g := { method := m, pc := pc + 6, locals := ls, stack := .ref sa :: .ref T.heap.size :: .ref T.heap.size :: rest, locked := none }) rfl hsize rfl rfl (rest := rest) rfl
    (by rw [hb]; exact d6) (by rw [hb]; exact d9) hout hRframes (by simp only [List.map_cons, List.sum_cons, hcat]; omega) hlocks
  obtain ⟨f1, f2⟩ := vx_frame hsame
  rw [hhp] at f1 f2
  have hWs : s.WarmedH U.vm := State.WarmedH.trans hW0 hW
  have hcl : s.vm.findClass cls = some ce.cls := by
    have h9 := hO.cls
    rw [hvm] at h9
    exact h9
  have hall : s.sameButNew ({ U with vm := s.vm } : State) locs mc ms := by
    subst hA
    obtain ⟨e1, e2⟩ := hsame
    rw [State.setFrames_setFrames] at e1
    have h2 : (T.setVm s.vm).sameButNew ({ U with vm := s.vm } : State) [] (0 + 1) (0 + 6) := ⟨e1, e2⟩
    have h3 := X.same.trans h2
    rw [List.append_nil] at h3
    exact h3.mono hc hs
  refine ⟨U, ?_, .threw T.heap.size, hrun, hend, Or.inr ⟨T.heap.size, rfl, cls, ce, locs, hx U hWs.alike f1 (fun q hq => f2 q hq (fun z hz => nomatch hz)), hce, hO.vm, hcl, hWs, hall, hf⟩⟩
  refine st1 _ ?_
  show Steps p.tables e below (T1.setTop { method := m, pc := pc + 3, locals := ls, stack := .ref T.heap.size :: rest, locked := none }) _
  jvm_step X₁.here [X₁.here.top, hexec, d3', Value.category]
  exact X₁.ldcString hexec (own := own) (text := text) (index := is) (a := sa) hown' hstr'.1 hstr'.2
    (g := { method := m, pc := pc + 4, locals := ls, stack := .ref T.heap.size :: .ref T.heap.size :: rest, locked := none }) rfl d4' _ hsteps
/-- 'throw new E("text")', the text by a wide index -/
theorem vx_throwSW {cc : ByteArray} {pc : Nat} (hexec : p.tables.exec = Jvm.exec) (hb : c.code = cc) (hl : l.stackTraces = false) {own cls text : String} {names : List String} {ik is ic mc ms sa : Nat} {A : Nat → Prop}
    (hown : s.vm.findClass own = some m.cls) (hcls : Bundle.fit cls = true) (hnames : ∀ n ∈ names, Bundle.fit n = true)
    (hk : (Cond.classLink own ik cls).before args s = true) (hini : (Cond.initialized cls).before args s = true) (hstr : vk_R own is text sa s) (hat : ∀ w ∈ vx_atS own ic cls names, w.before args s = true)
    (hgood : ∀ w ∈ Cond.classLink own ik cls :: Cond.initialized cls :: vx_atS own ic cls names, vx_ot w = true)
    (hU : vx_Zq Bundle.tN "UNASSIGNED_STACK" Bundle.steD A s s.heap) (hN : vx_Zq Bundle.tN "SUPPRESSED_SENTINEL" Bundle.listD A s s.heap) (hS : va_S A s.heap H locs) (hsize : ls.size = c.maxLocals)
    (d0 : decode cc pc = .ok (.new ik, 3)) (d3 : decode cc (pc + 3) = .ok (.dup, 1)) (d4 : decode cc (pc + 4) = .ok (.ldc_w is, 3)) (d7 : decode cc (pc + 7) = .ok (.invokespecial ic, 3)) (d10 : decode cc (pc + 10) = .ok (.athrow, 1))
    (hout : ∀ x ∈ c.exceptionTable.toList, covers x (pc + 10) = false)
    (hRframes : names.length + 3 < R.frames) (hRlocals : (rest.map fun v => v.category).sum + (13 * (names.length + 1) + 43) ≤ R.locals) (hRcells : cells + 1 ≤ R.cells) (hRslots : slots + 6 ≤ R.slots) (hlocks : meth.locks = false)
    (hx : ∀ t : State, s.vm.Alike t.vm → H.size ≤ t.heap.size → (∀ q : Nat, q < H.size → t.heap[q]? = H[q]?) → XC cls s t)
    (hf : ∀ z ∈ locs, free z.base) (hc : cells + 1 ≤ mc) (hs : slots + 6 ≤ ms) :
    W p l e R s m args below meth c H locs cells slots (vx_MQ below Qc XC args s mc ms free) (F0 m pc ls rest) := by
  intro T hT X
  have htr : e.platform.stackTraces = false := (show e.platform.stackTraces = l.stackTraces by rw [X.admits.platform]).trans hl
  have Y := vx_rebase X (R' := { frames := R.frames, locals := R.locals, cells := 1, slots := 6 }) (Nat.le_refl _) (Nat.le_refl _) hRcells hRslots
  obtain ⟨s', hA⟩ : ∃ z, z = (T.setVm s.vm).setFrames (.invoking m args :: below) := ⟨_, rfl⟩
  rw [← hA] at Y
  have hvm : s'.vm = s.vm := by rw [hA]; rfl
  have hhp : s'.heap = H := by rw [hA]; exact hT
  have hW0 : s.WarmedH s'.vm := by rw [hvm]; exact State.WarmedH.refl s
  have hat' : ∀ w ∈ vx_atS own ic cls names, w.before args s' = true := fun w hw => vx_ot_at hW0 hvm.symm (hgood w (List.mem_cons_of_mem _ (List.mem_cons_of_mem _ hw))) (hat w hw)
  have hk' : (Cond.classLink own ik cls).before args s' = true := vx_ot_at hW0 hvm.symm (hgood _ List.mem_cons_self) hk
  have hini' : (Cond.initialized cls).before args s' = true := vx_ot_at hW0 hvm.symm (hgood _ (List.mem_cons_of_mem _ List.mem_cons_self)) hini
  have hU' : vx_Zq Bundle.tN "UNASSIGNED_STACK" Bundle.steD A s' s'.heap := by rw [hhp]; exact vx_Zq.moved hW0.alike (hU.kept hS.2.1)
  have hN' : vx_Zq Bundle.tN "SUPPRESSED_SENTINEL" Bundle.listD A s' s'.heap := by rw [hhp]; exact vx_Zq.moved hW0.alike (hN.kept hS.2.1)
  have h : ∀ w ∈ Bundle.ownAtoms own ic cls names, w.before args s' = true := vx_own hat' (vx_isRefq hU'.1) (vx_isRefq hN'.1) hU'.2.word hN'.2.word
  have hown' : s'.vm.findClass own = some m.cls := by rw [hvm]; exact hown
  have hins : (Cond.instantiable cls 6).before args s' = true := h _ (by simp [Bundle.ownAtoms])
  obtain ⟨vm₁, cX, kX, hfX, hkX, -, -, X₁, st1⟩ := Y.newCold hexec (own := own) (C := cls) (index := ik) (n := 6) hown' hk' hins hini'
    (g := F0 m pc ls rest) rfl (by rw [hb]; exact d0) (Nat.le_refl _) (Nat.le_refl _)
  generalize hT1 : (T.setVm vm₁).pushCell { cls := cX, slots := kX.instanceTypes.map defaultValue, vm := .none } = T1 at X₁ st1
  have hcat : (Value.ref T.heap.size).category = 1 := rfl
  have hcellA : T1.heap[T.heap.size]? = some (freshCell cX kX) := by rw [← hT1]; exact State.heap_pushCell_size _ _
  have d3' : decode c.code (pc + 3) = .ok (.dup, 1) := by rw [hb]; exact d3
  have d4' : decode c.code (pc + 4) = .ok (.ldc_w is, 3) := by rw [hb]; exact d4
  have hstr' : vk_R own is text sa s' := vk_R.warm hW0 hstr
  obtain ⟨U, hsteps, hrun, hend, hW, hsame, ce, hce, hO⟩ := X₁.ctorThrowS hexec htr (own := own) (cls := cls) (names := names) (ic := ic) hown' hcls hnames h (fun x hx => nomatch hx) hfX hkX hcellA (by rw [hhp, hT]; exact Nat.le_refl _) (msg := .ref sa) rfl
    (g := { method := m, pc := pc + 7, locals := ls, stack := .ref sa :: .ref T.heap.size :: .ref T.heap.size :: rest, locked := none }) rfl hsize rfl rfl (rest := rest) rfl
    (by rw [hb]; exact d7) (by rw [hb]; exact d10) hout hRframes (by simp only [List.map_cons, List.sum_cons, hcat]; omega) hlocks
  obtain ⟨f1, f2⟩ := vx_frame hsame
  rw [hhp] at f1 f2
  have hWs : s.WarmedH U.vm := State.WarmedH.trans hW0 hW
  have hcl : s.vm.findClass cls = some ce.cls := by
    have h9 := hO.cls
    rw [hvm] at h9
    exact h9
  have hall : s.sameButNew ({ U with vm := s.vm } : State) locs mc ms := by
    subst hA
    obtain ⟨e1, e2⟩ := hsame
    rw [State.setFrames_setFrames] at e1
    have h2 : (T.setVm s.vm).sameButNew ({ U with vm := s.vm } : State) [] (0 + 1) (0 + 6) := ⟨e1, e2⟩
    have h3 := X.same.trans h2
    rw [List.append_nil] at h3
    exact h3.mono hc hs
  refine ⟨U, ?_, .threw T.heap.size, hrun, hend, Or.inr ⟨T.heap.size, rfl, cls, ce, locs, hx U hWs.alike f1 (fun q hq => f2 q hq (fun z hz => nomatch hz)), hce, hO.vm, hcl, hWs, hall, hf⟩⟩
  refine st1 _ ?_
  show Steps p.tables e below (T1.setTop { method := m, pc := pc + 3, locals := ls, stack := .ref T.heap.size :: rest, locked := none }) _
  jvm_step X₁.here [X₁.here.top, hexec, d3', Value.category]
  exact X₁.ldcStringW hexec (own := own) (text := text) (index := is) (a := sa) hown' hstr'.1 hstr'.2
    (g := { method := m, pc := pc + 4, locals := ls, stack := .ref T.heap.size :: .ref T.heap.size :: rest, locked := none }) rfl d4' _ hsteps
end Ends
section Bodies
variable {l : Launch}
theorem vx_ofW {y : MethodName} {ws ws' : List Cond} {rm : Room} {Pc : Array Value → State → Prop} {Qc : Array Value → State → Outcome → State → Prop} {XC : String → State → State → Prop} {mc ms : Nat} {free : Addr → Prop} {cc : ByteArray} {maxL : Nat} {ret : Option FieldType}
    (hy : plainName y.cls = true) (hw : ws = Cond.code y cc maxL ret :: ws')
    (body : ∀ p e s m args below meth c s₁, BodyLoose p l y (headSpec ws rm) cc maxL ret e s m args below meth c s₁ → c.maxLocals = maxL → (∀ x ∈ c.exceptionTable.toList, False) → Pc args s →
      W p l e (headSpec ws rm).room s m args below meth c s.heap [] 0 0 (vx_MQ below Qc XC args s mc ms free) (entryFrame m args maxL)) : vx_Met l y ws rm Pc Qc XC mc ms free := by
  refine MetFree.of_bodyS (code := cc) (maxLocals := maxL) (ret := ret) hy ?_ ?_
  · intro args s m h hn
    obtain ⟨meth, c, h1, h2, h3, h4, h5, h6, -, -⟩ := Cond.code_spec hn (atoms_spec (ws := ws) h _ (by rw [hw]; exact List.mem_cons_self))
    exact ⟨meth, c, h1, h2, h3, h4, h5, h6⟩
  · intro p e s m args below meth c s₁ B hml hP _
    have hh0 : s₁.heap = s.heap := by rw [B.state]; rfl
    have ht : ∀ x ∈ c.exceptionTable.toList, False := by
      obtain ⟨meth9, c9, h1, h2, -, -, -, -, h7, -⟩ := Cond.code_spec B.named (atoms_spec (ws := ws) B.pre _ (by rw [hw]; exact List.mem_cons_self))
      cases Option.some.inj (h1.symm.trans B.method)
      cases Option.some.inj (h2.symm.trans (Stand.of_body B).code)
      intro x hx
      rw [Array.isEmpty_iff.mp h7] at hx
      cases hx
    obtain ⟨t, a1, o, b1, b2, b3⟩ := body p e s m args below meth c s₁ B hml ht hP s₁ hh0 (Stand.of_body B)
    exact ⟨t, o, a1, b1, b2, b3⟩
/-- the table of a body with handlers -/
theorem vx_table {p : Program} {x y : MethodName} {S : Spec} {cc bytes : ByteArray} {maxL maxL' : Nat} {ret ret' : Option FieldType} {e : Env} {s s₁ : State} {m : MethodId} {args : Array Value} {below : List Frame} {meth : Method} {c : Code} {hh : List (Nat × Nat × Nat × Nat)}
    (B : BodyLoose p l y S cc maxL ret e s m args below meth c s₁) (h : (Cond.codeWith y bytes maxL' ret' hh).before args s = true) : c.exceptionTable.toList = tableOf hh := by
  obtain ⟨m9, meth9, c9, hn9, h1, h2, -, -, h6, -⟩ := Cond.codeWith_spec h
  cases Option.some.inj (hn9.symm.trans B.named)
  cases Option.some.inj (h1.symm.trans B.method)
  cases Option.some.inj (h2.symm.trans (Stand.of_body B).code)
  rw [← h6, table_eq]
end Bodies
end VXA
/-! ===== END ===== -/
/-! ===== BEGIN a static call of a method with an exception table ===== -/
section VXS
variable {p : Program} {l : Launch} {e : Env} {R : Room} {s : State} {m : MethodId} {args : Array Value} {below : List Frame} {meth : Method} {c : Code} {T : State} {H : Heap} {locs : List Loc} {cells slots : Nat}
abbrev vx_CSW (R : Room) (s : State) (args : Array Value) (own : String) (index : Nat) (y : MethodName) (bytes : ByteArray) (maxL : Nat) (ret : Option FieldType) (hh : List (Nat × Nat × Nat × Nat)) (ws : List Cond) (rm : Room) (mc ms n : Nat) : Prop :=
  (rm.cells = mc ∧ rm.slots = ms ∧ rm.frames + 1 ≤ R.frames ∧ 8 + (maxL + 11) + rm.locals ≤ R.locals ∧ (∀ w ∈ ws, ∀ (a' : Array Value) (U : State), s.WarmedH U.vm → w.before a' U = true) ∧ Cond.codeWith y bytes maxL ret hh ∈ ws) ∧
  (Cond.codeWith y bytes maxL ret hh).before args s = true ∧ (Cond.initialized y.cls).before args s = true ∧ (y.cls ≠ "java/lang/invoke/MethodHandle" ∧ y.cls ≠ "java/lang/invoke/VarHandle") ∧
  (∀ sig, parseMethodDescriptor y.desc = some sig → n = sig.parameters.length) ∧ (Cond.methodLink own index y).before args s = true ∧ (Cond.static y).before args s = true
theorem vx_cwSW {own : String} {index maxL mc ms : Nat} {y : MethodName} {bytes : ByteArray} {ret : Option FieldType} {hh : List (Nat × Nat × Nat × Nat)} {Ts ws ws' : List Cond} {rm : Room} (n : Nat) (ht : ∀ w ∈ Ts, w.before args s = true) (hT : GoodIn Ts (va_wsS own index y ws)) (hw : ws = Cond.codeWith y bytes maxL ret hh :: ws') (hrc : rm.cells = mc) (hrs : rm.slots = ms)
    (hd : y.cls ≠ "java/lang/invoke/MethodHandle" ∧ y.cls ≠ "java/lang/invoke/VarHandle" ∧ (parseMethodDescriptor y.desc).map (fun d => d.parameters.length) = some n) (hR : rm.frames + 1 ≤ R.frames ∧ 8 + (maxL + 11) + rm.locals ≤ R.locals) :
    vx_CSW R s args own index y bytes maxL ret hh ws rm mc ms n := by
  have ok : ∀ w ∈ va_wsS own index y ws, w.before args s = true := fun w h => ht w (hT w h).1
  have hG : GoodIn Ts ws := fun w h => hT w (by unfold va_wsS; exact List.mem_append_right _ h)
  have hc : Cond.codeWith y bytes maxL ret hh ∈ ws := by rw [hw]; exact List.mem_cons_self
  refine ⟨⟨hrc, hrs, hR.1, hR.2, pay_in ht hG, hc⟩, ht _ (hG _ hc).1, ok _ (by simp [va_wsS]), ⟨hd.1, hd.2.1⟩, fun sig h => ?_, ok _ (by simp [va_wsS]), ok _ (by simp [va_wsS])⟩
  have h2 := hd.2.2
  rw [h] at h2
  exact (Option.some.inj h2).symm
theorem vx_callSW (X : Stand p l e R s m args below meth c T locs cells slots) (hexec : p.tables.exec = Jvm.exec) {own : String} {index : Nat} {y : MethodName} {bytes : ByteArray} {maxL : Nat} {ret : Option FieldType} {hh : List (Nat × Nat × Nat × Nat)}
    (hown : s.vm.findClass own = some m.cls) (hlink : (Cond.methodLink own index y).before args s = true) (hstat : (Cond.static y).before args s = true) (hinit : (Cond.initialized y.cls).before args s = true)
    (hcode : (Cond.codeWith y bytes maxL ret hh).before args s = true) (hy : y.cls ≠ "java/lang/invoke/MethodHandle" ∧ y.cls ≠ "java/lang/invoke/VarHandle")
    {W9 : Nat} {Pre : Pt → Array Value → Prop} {Post : Pt → Array Value → Option Value → Pt → Prop} (hK : Back l R p e below s args y 3 W9 Pre Post)
    {g : JFrame} (hg : g.method = m) (hsize : g.locals.size = c.maxLocals) {argsL rest : List Value} (hlen : ∀ sig, parseMethodDescriptor y.desc = some sig → argsL.length = sig.parameters.length)
    (hstack : g.stack = argsL.reverse ++ rest) (hW : 2 * g.monitorRoom + (rest.map fun v => v.category).sum ≤ W9) (hdg : decode c.code g.pc = .ok (.invokestatic index, 3))
    (hpre : ∀ vm₁, s.WarmedH vm₁ → Pre ⟨T.setVm vm₁, locs, cells, slots⟩ argsL.toArray) :
    ∃ (v : Option Value) (vm₁ : Vm) (B : Pt), s.WarmedH vm₁ ∧ Stand p l e R s m args below meth c B.U B.locs B.cells B.slots ∧ Post ⟨T.setVm vm₁, locs, cells, slots⟩ argsL.toArray v B ∧
      ∀ target, Steps p.tables e below (B.U.setTop { g with pc := g.pc + 3, stack := v.toList ++ rest }) target → Steps p.tables e below (T.setTop g) target := by
  obtain ⟨mk, methM, cM, hnamed, hmethM, -, -, -, -, -, -, hsigM⟩ := Cond.codeWith_spec hcode
  have hstatic : methM.isStatic = true := Cond.static_spec hnamed hmethM hstat
  obtain ⟨kP, hkP, -⟩ := className_of_methodNamed hnamed
  have hinitP : kP.init = .initialized := Cond.initialized_spec (findClass_of_methodNamed hnamed) hkP hinit
  obtain ⟨vm₁, X₁, hstep₁⟩ := X.invokestatic hexec hown hlink hnamed hmethM hstatic hkP hinitP hy (g := g) hg (argsL := argsL) (rest := rest) (hlen _ hsigM) hstack hdg
  obtain ⟨v, B, X', hpost, hsteps⟩ := hK m meth c ⟨T.setVm vm₁, locs, cells, slots⟩ { g with stack := rest } (.invokestatic index) mk argsL.toArray X₁ hg hsize hdg hW (X₁.named hnamed) (hpre vm₁ X₁.warmed)
  exact ⟨v, vm₁, B, X₁.warmed, X', hpost, fun target h => hstep₁ _ fun acts => by rw [doInvoke_state]; exact hsteps.trans h⟩
theorem vx_runSW {y : MethodName} {bytes cc : ByteArray} {maxL nL mc ms n index : Nat} {ret : Option FieldType} {hh : List (Nat × Nat × Nat × Nat)} {ws : List Cond} {rm : Room} {Pc : Array Value → State → Prop} {Qc : Array Value → State → Outcome → State → Prop} {free : Addr → Prop} {Ts : List Cond} {own : String} {As rest : List Value} {g : JFrame}
    (S : CallFix p m c cc nL s args Ts own) (hM : Met l y ws rm Pc Qc mc ms free) (cw : vx_CSW R s args own index y bytes maxL ret hh ws rm mc ms n) (hp : PreS s H Pc As)
    (hg : g.method = m) (hn : As.length = n) (hsize : g.locals.size = nL) (hstack : g.stack = As.reverse ++ rest) (hW : 2 * g.monitorRoom + (rest.map fun v => v.category).sum ≤ 8) (hdg : decode cc g.pc = .ok (.invokestatic index, 3)) (hf : cells + mc ≤ R.cells ∧ slots + ms ≤ R.slots) :
    va_Run p l e R s m args below meth c H locs cells slots mc ms g rest (Qc As.toArray) (free) := by
  obtain ⟨⟨hrc, hrs, hfr, hlo, hws, hcw⟩, hcode, hini, hy, hlen, hl, hstt⟩ := cw
  have hK : Back l R p e below s args y 3 8 (PreOf R mc ms Pc) (PostOf Qc mc ms free) := va_backW (hh := hh) (bytes := bytes) (maxL := maxL) (ret := ret) hM hp.1 hrc hrs hfr hlo hws hcw (fun a' U hW => word_at hW (Or.inl (by first | rfl | simp [Cond.onTables, Cond.keeps, Cond.steady])) hini)
  obtain ⟨hx, hb, hml, ho, -⟩ := S
  intro T hT X
  obtain ⟨v, vm₁, ⟨U', l2, c2, s2⟩, hW₁, X', ⟨g', mk, t, L, e1, e2, hq, h1, hL, h2, h3⟩, st⟩ := vx_callSW X hx (hh := hh) (bytes := bytes) (maxL := maxL) (ret := ret) ho hl hstt hini hcode hy hK hg (hsize.trans hml.symm) (argsL := As) (rest := rest) (fun sig h => hn.trans (hlen sig h)) hstack hW (by rw [hb]; exact hdg)
    (fun vm₁ hW₁ => ⟨hf.1, hf.2, hp.2 (T.setVm vm₁) hT hW₁⟩)
  dsimp only [Pt.U, Pt.locs, Pt.cells, Pt.slots] at X' e1 e2 h1 h2 h3 st
  subst h1; subst h2; subst h3
  exact ⟨v, (T.setVm vm₁).calling g' mk As.toArray, t, U', L, hT, X', hL, e1, e2, hq, st⟩
/-- not caught here, past rows that name other classes: it goes on to the caller -/
theorem vx_outP {p : Program} {l : Launch} {e : Env} {R : Room} {s : State} {m : MethodId} {args : Array Value} {below : List Frame} {meth : Method} {c : Code} {H : Heap} {locs : List Loc} {cells slots : Nat} {free : Addr → Prop} {ls : Array Slot} {rest : List Value} {Qc : Array Value → State → Outcome → State → Prop} {XC : String → State → State → Prop}
    {pc : Nat} {own E : String} {ce : Cell} {q : Addr} {mc ms : Nat} (hown : s.vm.findClass own = some m.cls) (hlocks : meth.locks = false)
    (hpass : ∀ z ∈ c.exceptionTable.toList, covers z pc = false ∨ (z.catchType ≠ 0 ∧ ∃ nm : String, (Cond.classLink own z.catchType nm).before args s = true ∧ va_Nc E nm s)) (hcell : H[q]? = some ce) (hv : ce.vm = .none) (hcl : s.vm.findClass E = some ce.cls)
    (hx : ∀ t : State, t.heap = H → s.vm.Alike t.vm → XC E s t) (hf : ∀ z ∈ locs, free z.base) (hc : cells ≤ mc) (hs : slots ≤ ms) :
    vx_W p l e R s m args below meth c H locs cells slots (vx_MQ below Qc XC args s mc ms free) (F0 m pc ls rest) q := by
  intro T hT X
  have hpl : e.platform.magicAccessors = ({} : Platform).magicAccessors := by rw [X.admits.platform]
  obtain ⟨vm', hW', X', st⟩ := X.outThrough hlocks q (g := F0 m pc ls rest) rfl rfl rfl (cell := ce) (by rw [hT]; exact hcell) (by rw [hv]; rfl)
    (by obtain ⟨k9, h9, -⟩ := Vm.findClass_spec hcl; exact ⟨k9, h9⟩) (fun z hz => by
      rcases hpass z hz with h | ⟨hz0, nm, hl1, hn1⟩
      · exact Or.inl h
      · obtain ⟨c6, hc6, hcl6⟩ := Cond.classLink_spec hown hl1 e.platform hpl
        obtain ⟨a8, b8, h1, h2, h3⟩ := hn1
        cases Option.some.inj (h1.symm.trans hcl)
        cases Option.some.inj (h2.symm.trans hc6)
        exact Or.inr ⟨hz0, _, hcl6, h3⟩)
  obtain ⟨g₀, hfr⟩ := X'.frames_eq
  have hcell9 : ((T.setVm vm').setFrames (.throwing q :: below)).heap[q]? = some ce := by
    show T.heap[q]? = some ce
    rw [hT]; exact hcell
  have hend : Ended ((T.setVm vm').setFrames (.throwing q :: below)) below (.threw q) := State.frames_setFrames _ (State.cur_lt_of_frames hfr)
  refine ⟨(T.setVm vm').setFrames (.throwing q :: below), ?_, .threw q, X'.here.running, hend, Or.inr ⟨q, rfl, E, ce, locs, hx _ hT (X'.ends _).1.alike, hcell9, hv, hcl, (X'.ends _).1, (X'.ends _).2.mono hc hs, hf⟩⟩
  rw [X.pushThrowing_eq]
  exact st
/-- a thing of a world lies in the heap -/
theorem vx_lt {D : va_G} {cl : List vw_C} {ws : va_W} {H1 : Heap} (h : va_P D cl ws H1) {k : Nat} {q : Nat × va_E} (hk : ws[k]? = some q) : q.1 < H1.size := (h k q hk).lt
end VXS
/-! ===== END ===== -/
/-! ===== BEGIN methods with a table of their own: called by a name, returning or throwing ===== -/
section VXH
/-! vx_backW, vx_callVX, vx_callSX, vx_callVW, vx_runVW, vx_runVX, vx_runSX, vx_ofWH follow the same proofs as their sisters above (Free/Laws.lean, Shelf42/LK1.lean); vx_outP calls Shelf42/NT130.lean (outThrough). -/
section
variable {l : Launch} {R : Room} {p : Program} {e : Env} {below : List Frame} {s : State} {sargs : Array Value} {y : MethodName} {len W9 : Nat}
theorem vx_backW {ws : List Cond} {rm : Room} {Pc : Array Value → State → Prop} {Qc : Array Value → State → Outcome → State → Prop} {XC : String → State → State → Prop} {mc ms : Nat} {free : Addr → Prop} {bytes : ByteArray} {maxL : Nat} {ret : Option FieldType} {hh : List (Nat × Nat × Nat × Nat)}
    (hM : vx_Met l y ws rm Pc Qc XC mc ms free) (hblind : FrameBlind Pc) (hrc : rm.cells = mc) (hrs : rm.slots = ms)
    (hframes : rm.frames + 1 ≤ R.frames) (hlocals : W9 + (maxL + 11) + rm.locals ≤ R.locals)
    (hws : ∀ w ∈ ws, ∀ a' U, s.WarmedH U.vm → w.before a' U = true) (hcode : Cond.codeWith y bytes maxL ret hh ∈ ws) (hinit : ∀ a' U, s.WarmedH U.vm → (Cond.initialized y.cls).before a' U = true) :
    vx_Back l R p e below s sargs y len W9 (PreOf R mc ms Pc) (PostOf Qc mc ms free) (vx_Post XC mc ms free) := by
  intro m meth c A g ig mk a X hg hsize hdg hW hn hp
  have h1 : (headSpec ws rm).pre.before a A.U = true := atoms_intro fun w hw => hws w hw _ _ X.warmed
  have h2 : (Cond.codeWith y bytes maxL ret hh).before a A.U = true := hws _ hcode _ _ X.warmed
  have h3 : (Cond.initialized y.cls).before a A.U = true := hinit _ _ X.warmed
  have h4 : A.cells + (headSpec ws rm).room.cells ≤ R.cells := by rw [show (headSpec ws rm).room.cells = mc from hrc]; exact hp.1
  have h5 : A.slots + (headSpec ws rm).room.slots ≤ R.slots := by rw [show (headSpec ws rm).room.slots = ms from hrs]; exact hp.2.1
  have hPc : Pc a (A.U.calling g mk a) := hblind _ _ _ _ hp.2.2
  obtain ⟨U, Ls, c0, s0⟩ := A
  dsimp only [Pt.U, Pt.locs, Pt.cells, Pt.slots] at h1 h2 h3 h4 h5 X hn hPc ⊢
  obtain ⟨m9, methY, cY, hn9, hmY, hcY, -, hlY, -⟩ := Cond.codeWith_spec h2
  cases Option.some.inj (hn9.symm.trans hn)
  obtain ⟨kY, hkY, -⟩ := className_of_methodNamed hn
  have hinitY : kY.init = .initialized := Cond.initialized_spec (findClass_of_methodNamed hn) hkY h3
  have h : At U g.method c below := by rw [hg]; exact X.here
  have hlocals9 : W9 + (maxL + 11) + (headSpec ws rm).room.locals ≤ R.locals := hlocals
  have happ : (headSpec ws rm).appliesLoose y e.platform (U.calling g mk a) = true :=
    Spec.appliesLoose_calling (g := g) h hdg hn hkY hinitY
      (X.room_calling (g := g) (R' := (headSpec ws rm).room) hsize hmY hcY hframes (by rw [hlY]; omega) h4 h5) h1
  obtain ⟨mid, hmid⟩ := h.above
  have hfr : (U.setTop g).frames = (.java g :: mid) ++ below := by rw [State.frames_setTop' g h.top, hmid]; rfl
  obtain ⟨o, s₂, hsteps, -, hend, hq⟩ := Steps.callFree hM p X.admits X.cas X.clock (acts := []) hfr happ hPc trivial
  have hq' : vx_Q Qc XC mc ms free a (U.calling g mk a) o s₂ := hq
  rw [State.frames_setTop' g h.top] at hend
  obtain ⟨g₀, hg0⟩ := Option.isSome_iff_exists.mp h.top
  obtain ⟨r, hr⟩ := State.topJava?_eq_some.mp hg0
  have hr' : (({ U with heap := s₂.heap, slotsUsed := s₂.slotsUsed } : State).setVm s₂.vm).frames = .java g₀ :: r := hr
  rcases hq' with ⟨hqc, L, hfe, hL⟩ | ⟨q, rfl, E, ce, L, hx, hce, hcv, hcl, hW₂, hsm, hL⟩
  · obtain ⟨⟨v, rfl⟩, hW₂, e2, q2, q3, q4, q5, q6⟩ := id hfe
    have e3 : s₂ = ({ (U.calling g mk a).setFrames s₂.frames with heap := s₂.heap, slotsUsed := s₂.slotsUsed } : State).setVm s₂.vm := by
      have : s₂ = ({ s₂ with vm := (U.calling g mk a).vm } : State).setVm s₂.vm := rfl
      rw [e2] at this
      exact this
    obtain ⟨c₂, i₂, len₂, hc₂, hd₂, hf₂⟩ := hend
    have hW' : U.WarmedH s₂.vm := hW₂
    have hcc : c₂ = c := by
      have h1 : s₂.code? g.method = U.code? g.method := by
        rw [State.code?_eq, State.code?_eq, hW'.alike.method?]
      exact Option.some.inj (hc₂.symm.trans (h1.trans h.code))
    subst hcc
    have hlen : len₂ = len := by rw [hdg] at hd₂; cases hd₂; rfl
    subst hlen
    have hs₂ : s₂ = (({ U with heap := s₂.heap, slotsUsed := s₂.slotsUsed } : State).setVm s₂.vm).setTop { g with pc := g.pc + len₂, stack := v.toList ++ g.stack } := by
      refine e3.trans ?_
      rw [hf₂, State.calling_eq h.top, State.setFrames_setFrames, State.setTop_of_frames _ hr', hr]
      rfl
    have hsame : U.sameButNew ({ U with heap := s₂.heap, slotsUsed := s₂.slotsUsed } : State) L mc ms := by
      refine ⟨?_, q2, q3, q4, q5, q6⟩
      obtain ⟨t, ht, -⟩ := State.frames_cons hr
      show ({ U with heap := s₂.heap, slotsUsed := s₂.slotsUsed } : State) = { U.setFrames U.frames with heap := s₂.heap, slotsUsed := s₂.slotsUsed }
      rw [State.setFrames_self ht]
    subst hg
    refine Or.inl ⟨v, ⟨(({ U with heap := s₂.heap, slotsUsed := s₂.slotsUsed } : State).setVm s₂.vm), Ls ++ L, c0 + mc, s0 + ms⟩,
      ⟨X.admits, X.cas, X.clock, X.frames, X.room, X.hears, X.method, X.code, (X.here.setHeapUsed s₂.heap s₂.slotsUsed).setVm hW'.alike, X.tail, State.WarmedH.trans X.warmed hW', X.limits, X.bytes, X.same.trans (hsame.setVm s.vm)⟩,
      ⟨g, mk, s₂, L, rfl, rfl, hqc, rfl, hL, rfl, rfl⟩, ?_⟩
    show Steps p.tables e below _ ((({ U with heap := s₂.heap, slotsUsed := s₂.slotsUsed } : State).setVm s₂.vm).setTop { g with pc := g.pc + len₂, stack := v.toList ++ g.stack })
    rw [← hs₂]
    exact hsteps
  · obtain ⟨e2, q2, q3, q4, q5, q6⟩ := id hsm
    have e3 : s₂ = ({ (U.calling g mk a).setFrames s₂.frames with heap := s₂.heap, slotsUsed := s₂.slotsUsed } : State).setVm s₂.vm := by
      have : s₂ = ({ s₂ with vm := (U.calling g mk a).vm } : State).setVm s₂.vm := rfl
      rw [e2] at this
      exact this
    have hf₂ : s₂.frames = .throwing q :: .java g :: U.frames.tail := hend
    have hW' : U.WarmedH s₂.vm := hW₂
    have hs₂ : s₂ = ((({ U with heap := s₂.heap, slotsUsed := s₂.slotsUsed } : State).setVm s₂.vm).setTop g).pushFrame (.throwing q) := by
      refine e3.trans ?_
      rw [hf₂, State.calling_eq h.top, State.setFrames_setFrames, State.pushFrame, State.frames_setTop _ hr', State.setTop_of_frames _ hr', State.setFrames_setFrames, hr]
      rfl
    have hsame : U.sameButNew ({ U with heap := s₂.heap, slotsUsed := s₂.slotsUsed } : State) L mc ms := by
      refine ⟨?_, q2, q3, q4, q5, q6⟩
      obtain ⟨t, ht, -⟩ := State.frames_cons hr
      show ({ U with heap := s₂.heap, slotsUsed := s₂.slotsUsed } : State) = { U.setFrames U.frames with heap := s₂.heap, slotsUsed := s₂.slotsUsed }
      rw [State.setFrames_self ht]
    subst hg
    refine Or.inr ⟨q, ⟨(({ U with heap := s₂.heap, slotsUsed := s₂.slotsUsed } : State).setVm s₂.vm), Ls ++ L, c0 + mc, s0 + ms⟩,
      ⟨X.admits, X.cas, X.clock, X.frames, X.room, X.hears, X.method, X.code, (X.here.setHeapUsed s₂.heap s₂.slotsUsed).setVm hW'.alike, X.tail, State.WarmedH.trans X.warmed hW', X.limits, X.bytes, X.same.trans (hsame.setVm s.vm)⟩,
      ⟨g, mk, s₂, L, E, ce, rfl, rfl, hx, hce, hcv, hcl, rfl, hL, rfl, rfl⟩, ?_⟩
    show Steps p.tables e below _ (((({ U with heap := s₂.heap, slotsUsed := s₂.slotsUsed } : State).setVm s₂.vm).setTop g).pushFrame (.throwing q))
    rw [← hs₂]
    exact hsteps
end
variable {p : Program} {l : Launch} {e : Env} {R : Room} {s : State} {m : MethodId} {args : Array Value} {below : List Frame} {meth : Method} {c : Code} {T : State} {H : Heap} {locs : List Loc} {cells slots : Nat}
theorem vx_callVX (X : Stand p l e R s m args below meth c T locs cells slots) (hexec : p.tables.exec = Jvm.exec) {own C : String} {index : Nat} {y : MethodName} {bytes : ByteArray} {maxL : Nat} {ret : Option FieldType} {hh : List (Nat × Nat × Nat × Nat)}
    (hown : s.vm.findClass own = some m.cls) (hlink : (Cond.methodLink own index y).before args s = true) (hinst : (Cond.instanceMethod y).before args s = true) (hsel : (Cond.selects C y y).before args s = true)
    (hcode : (Cond.codeWith y bytes maxL ret hh).before args s = true) (hy : y.cls ≠ "java/lang/invoke/MethodHandle" ∧ y.cls ≠ "java/lang/invoke/VarHandle")
    {W9 : Nat} {Pre : Pt → Array Value → Prop} {Post : Pt → Array Value → Option Value → Pt → Prop} {PostX : Pt → Array Value → Addr → Pt → Prop} (hK : vx_Back l R p e below s args y 3 W9 Pre Post PostX)
    {b : Addr} {cellB : Cell} (hcell : T.heap[b]? = some cellB) (hobj : cellB.vm.isStatics = false) (hcls : s.vm.findClass C = some cellB.cls)
    {g : JFrame} (hg : g.method = m) (hsize : g.locals.size = c.maxLocals) {argsL rest : List Value} (hlen : ∀ sig, parseMethodDescriptor y.desc = some sig → argsL.length = sig.parameters.length)
    (hstack : g.stack = argsL.reverse ++ .ref b :: rest) (hW : 2 * g.monitorRoom + (rest.map fun v => v.category).sum ≤ W9) (hdg : decode c.code g.pc = .ok (.invokevirtual index, 3))
    (hpre : ∀ vm₁, s.WarmedH vm₁ → Pre ⟨T.setVm vm₁, locs, cells, slots⟩ (Value.ref b :: argsL).toArray) :
    (∃ (v : Option Value) (vm₁ : Vm) (B : Pt), s.WarmedH vm₁ ∧ Stand p l e R s m args below meth c B.U B.locs B.cells B.slots ∧ Post ⟨T.setVm vm₁, locs, cells, slots⟩ (Value.ref b :: argsL).toArray v B ∧
      ∀ target, Steps p.tables e below (B.U.setTop { g with pc := g.pc + 3, stack := v.toList ++ rest }) target → Steps p.tables e below (T.setTop g) target) ∨
    (∃ (q : Addr) (vm₁ : Vm) (B : Pt), s.WarmedH vm₁ ∧ Stand p l e R s m args below meth c B.U B.locs B.cells B.slots ∧ PostX ⟨T.setVm vm₁, locs, cells, slots⟩ (Value.ref b :: argsL).toArray q B ∧
      Steps p.tables e below (T.setTop g) ((B.U.setTop { g with stack := rest }).pushFrame (.throwing q))) := by
  obtain ⟨mk, methM, hnamed, hmethM, hstM, habM⟩ := Cond.instanceMethod_spec hinst
  obtain ⟨m8, methM', cM, hn8, hmethM', -, -, -, -, -, -, hsigM⟩ := Cond.codeWith_spec hcode
  cases Option.some.inj (hn8.symm.trans hnamed)
  cases hmethM.symm.trans hmethM'
  obtain ⟨c2, r2, m2, q1, q2, q3, q4, kP, hkP, hkPi⟩ := Cond.selects_spec hsel
  cases hcls.symm.trans q1
  cases (State.methodFound?_of_named hnamed hy).symm.trans q2
  cases hnamed.symm.trans q3
  have hselP : selectMethod e.platform s.vm cellB.cls mk = .method mk := by rw [Launch.admits_selectMethod X.admits]; exact q4
  obtain ⟨vm₁, X₁, hstep₁⟩ := X.invokevirtual hexec hown hlink hnamed hmethM hstM hkP hkPi hy (a := b) (cell := cellB) hcell
    (fun z h => by rw [h] at hobj; cases hobj) hselP hmethM habM hkP hkPi (g := g) hg (argsL := argsL) (rest := rest) (hlen _ hsigM) hstack hdg
  rcases hK m meth c ⟨T.setVm vm₁, locs, cells, slots⟩ { g with stack := rest } (.invokevirtual index) mk (Value.ref b :: argsL).toArray X₁ hg hsize hdg hW (X₁.named hnamed) (hpre vm₁ X₁.warmed) with ⟨v, B, X', hpost, hsteps⟩ | ⟨q, B, X', hpost, hsteps⟩
  · exact Or.inl ⟨v, vm₁, B, X₁.warmed, X', hpost, fun target h => hstep₁ _ fun acts => by rw [doInvoke_state]; exact hsteps.trans h⟩
  · exact Or.inr ⟨q, vm₁, B, X₁.warmed, X', hpost, hstep₁ _ fun acts => by rw [doInvoke_state]; exact hsteps⟩
theorem vx_callSX (X : Stand p l e R s m args below meth c T locs cells slots) (hexec : p.tables.exec = Jvm.exec) {own : String} {index : Nat} {y : MethodName} {bytes : ByteArray} {maxL : Nat} {ret : Option FieldType} {hh : List (Nat × Nat × Nat × Nat)}
    (hown : s.vm.findClass own = some m.cls) (hlink : (Cond.methodLink own index y).before args s = true) (hstat : (Cond.static y).before args s = true) (hinit : (Cond.initialized y.cls).before args s = true)
    (hcode : (Cond.codeWith y bytes maxL ret hh).before args s = true) (hy : y.cls ≠ "java/lang/invoke/MethodHandle" ∧ y.cls ≠ "java/lang/invoke/VarHandle")
    {W9 : Nat} {Pre : Pt → Array Value → Prop} {Post : Pt → Array Value → Option Value → Pt → Prop} {PostX : Pt → Array Value → Addr → Pt → Prop} (hK : vx_Back l R p e below s args y 3 W9 Pre Post PostX)
    {g : JFrame} (hg : g.method = m) (hsize : g.locals.size = c.maxLocals) {argsL rest : List Value} (hlen : ∀ sig, parseMethodDescriptor y.desc = some sig → argsL.length = sig.parameters.length)
    (hstack : g.stack = argsL.reverse ++ rest) (hW : 2 * g.monitorRoom + (rest.map fun v => v.category).sum ≤ W9) (hdg : decode c.code g.pc = .ok (.invokestatic index, 3))
    (hpre : ∀ vm₁, s.WarmedH vm₁ → Pre ⟨T.setVm vm₁, locs, cells, slots⟩ argsL.toArray) :
    (∃ (v : Option Value) (vm₁ : Vm) (B : Pt), s.WarmedH vm₁ ∧ Stand p l e R s m args below meth c B.U B.locs B.cells B.slots ∧ Post ⟨T.setVm vm₁, locs, cells, slots⟩ argsL.toArray v B ∧
      ∀ target, Steps p.tables e below (B.U.setTop { g with pc := g.pc + 3, stack := v.toList ++ rest }) target → Steps p.tables e below (T.setTop g) target) ∨
    (∃ (q : Addr) (vm₁ : Vm) (B : Pt), s.WarmedH vm₁ ∧ Stand p l e R s m args below meth c B.U B.locs B.cells B.slots ∧ PostX ⟨T.setVm vm₁, locs, cells, slots⟩ argsL.toArray q B ∧
      Steps p.tables e below (T.setTop g) ((B.U.setTop { g with stack := rest }).pushFrame (.throwing q))) := by
  obtain ⟨mk, methM, cM, hnamed, hmethM, -, -, -, -, -, -, hsigM⟩ := Cond.codeWith_spec hcode
  have hstatic : methM.isStatic = true := Cond.static_spec hnamed hmethM hstat
  obtain ⟨kP, hkP, -⟩ := className_of_methodNamed hnamed
  have hinitP : kP.init = .initialized := Cond.initialized_spec (findClass_of_methodNamed hnamed) hkP hinit
  obtain ⟨vm₁, X₁, hstep₁⟩ := X.invokestatic hexec hown hlink hnamed hmethM hstatic hkP hinitP hy (g := g) hg (argsL := argsL) (rest := rest) (hlen _ hsigM) hstack hdg
  rcases hK m meth c ⟨T.setVm vm₁, locs, cells, slots⟩ { g with stack := rest } (.invokestatic index) mk argsL.toArray X₁ hg hsize hdg hW (X₁.named hnamed) (hpre vm₁ X₁.warmed) with ⟨v, B, X', hpost, hsteps⟩ | ⟨q, B, X', hpost, hsteps⟩
  · exact Or.inl ⟨v, vm₁, B, X₁.warmed, X', hpost, fun target h => hstep₁ _ fun acts => by rw [doInvoke_state]; exact hsteps.trans h⟩
  · exact Or.inr ⟨q, vm₁, B, X₁.warmed, X', hpost, hstep₁ _ fun acts => by rw [doInvoke_state]; exact hsteps⟩
theorem vx_callVW (X : Stand p l e R s m args below meth c T locs cells slots) (hexec : p.tables.exec = Jvm.exec) {own C : String} {index : Nat} {y : MethodName} {bytes : ByteArray} {maxL : Nat} {ret : Option FieldType} {hh : List (Nat × Nat × Nat × Nat)}
    (hown : s.vm.findClass own = some m.cls) (hlink : (Cond.methodLink own index y).before args s = true) (hinst : (Cond.instanceMethod y).before args s = true) (hsel : (Cond.selects C y y).before args s = true)
    (hcode : (Cond.codeWith y bytes maxL ret hh).before args s = true) (hy : y.cls ≠ "java/lang/invoke/MethodHandle" ∧ y.cls ≠ "java/lang/invoke/VarHandle")
    {W9 : Nat} {Pre : Pt → Array Value → Prop} {Post : Pt → Array Value → Option Value → Pt → Prop} (hK : Back l R p e below s args y 3 W9 Pre Post)
    {b : Addr} {cellB : Cell} (hcell : T.heap[b]? = some cellB) (hobj : cellB.vm.isStatics = false) (hcls : s.vm.findClass C = some cellB.cls)
    {g : JFrame} (hg : g.method = m) (hsize : g.locals.size = c.maxLocals) {argsL rest : List Value} (hlen : ∀ sig, parseMethodDescriptor y.desc = some sig → argsL.length = sig.parameters.length)
    (hstack : g.stack = argsL.reverse ++ .ref b :: rest) (hW : 2 * g.monitorRoom + (rest.map fun v => v.category).sum ≤ W9) (hdg : decode c.code g.pc = .ok (.invokevirtual index, 3))
    (hpre : ∀ vm₁, s.WarmedH vm₁ → Pre ⟨T.setVm vm₁, locs, cells, slots⟩ (Value.ref b :: argsL).toArray) :
    ∃ (v : Option Value) (vm₁ : Vm) (B : Pt), s.WarmedH vm₁ ∧ Stand p l e R s m args below meth c B.U B.locs B.cells B.slots ∧ Post ⟨T.setVm vm₁, locs, cells, slots⟩ (Value.ref b :: argsL).toArray v B ∧
      ∀ target, Steps p.tables e below (B.U.setTop { g with pc := g.pc + 3, stack := v.toList ++ rest }) target → Steps p.tables e below (T.setTop g) target := by
  obtain ⟨mk, methM, hnamed, hmethM, hstM, habM⟩ := Cond.instanceMethod_spec hinst
  obtain ⟨m8, methM', cM, hn8, hmethM', -, -, -, -, -, -, hsigM⟩ := Cond.codeWith_spec hcode
  cases Option.some.inj (hn8.symm.trans hnamed)
  cases hmethM.symm.trans hmethM'
  obtain ⟨c2, r2, m2, q1, q2, q3, q4, kP, hkP, hkPi⟩ := Cond.selects_spec hsel
  cases hcls.symm.trans q1
  cases (State.methodFound?_of_named hnamed hy).symm.trans q2
  cases hnamed.symm.trans q3
  have hselP : selectMethod e.platform s.vm cellB.cls mk = .method mk := by rw [Launch.admits_selectMethod X.admits]; exact q4
  obtain ⟨vm₁, X₁, hstep₁⟩ := X.invokevirtual hexec hown hlink hnamed hmethM hstM hkP hkPi hy (a := b) (cell := cellB) hcell
    (fun z h => by rw [h] at hobj; cases hobj) hselP hmethM habM hkP hkPi (g := g) hg (argsL := argsL) (rest := rest) (hlen _ hsigM) hstack hdg
  obtain ⟨v, B, X', hpost, hsteps⟩ := hK m meth c ⟨T.setVm vm₁, locs, cells, slots⟩ { g with stack := rest } (.invokevirtual index) mk (Value.ref b :: argsL).toArray X₁ hg hsize hdg hW (X₁.named hnamed) (hpre vm₁ X₁.warmed)
  exact ⟨v, vm₁, B, X₁.warmed, X', hpost, fun target h => hstep₁ _ fun acts => by rw [doInvoke_state]; exact hsteps.trans h⟩
abbrev vx_CVW (R : Room) (s : State) (args : Array Value) (own C : String) (index : Nat) (y : MethodName) (bytes : ByteArray) (maxL : Nat) (ret : Option FieldType) (hh : List (Nat × Nat × Nat × Nat)) (ws : List Cond) (rm : Room) (mc ms n : Nat) : Prop :=
  (rm.cells = mc ∧ rm.slots = ms ∧ rm.frames + 1 ≤ R.frames ∧ 8 + (maxL + 11) + rm.locals ≤ R.locals ∧ (∀ w ∈ ws, ∀ (a' : Array Value) (U : State), s.WarmedH U.vm → w.before a' U = true) ∧ Cond.codeWith y bytes maxL ret hh ∈ ws) ∧
  (Cond.codeWith y bytes maxL ret hh).before args s = true ∧ (Cond.initialized y.cls).before args s = true ∧ (y.cls ≠ "java/lang/invoke/MethodHandle" ∧ y.cls ≠ "java/lang/invoke/VarHandle") ∧
  (∀ sig, parseMethodDescriptor y.desc = some sig → n = sig.parameters.length) ∧ (Cond.methodLink own index y).before args s = true ∧ (Cond.instanceMethod y).before args s = true ∧ (Cond.selects C y y).before args s = true
theorem vx_cwVW {own C : String} {index maxL mc ms : Nat} {y : MethodName} {bytes : ByteArray} {ret : Option FieldType} {hh : List (Nat × Nat × Nat × Nat)} {Ts ws ws' : List Cond} {rm : Room} (n : Nat) (ht : ∀ w ∈ Ts, w.before args s = true) (hT : GoodIn Ts (wsV own index C y ws)) (hw : ws = Cond.codeWith y bytes maxL ret hh :: ws') (hrc : rm.cells = mc) (hrs : rm.slots = ms)
    (hd : y.cls = C ∧ y.cls ≠ "java/lang/invoke/MethodHandle" ∧ y.cls ≠ "java/lang/invoke/VarHandle" ∧ (parseMethodDescriptor y.desc).map (fun d => d.parameters.length) = some n) (hR : rm.frames + 1 ≤ R.frames ∧ 8 + (maxL + 11) + rm.locals ≤ R.locals) :
    vx_CVW R s args own C index y bytes maxL ret hh ws rm mc ms n := by
  obtain ⟨hC, hd⟩ := hd
  subst hC
  have ok : ∀ w ∈ wsV own index y.cls y ws, w.before args s = true := fun w h => ht w (hT w h).1
  have hG : GoodIn Ts ws := fun w h => hT w (by unfold wsV; exact List.mem_append_right _ h)
  have hc : Cond.codeWith y bytes maxL ret hh ∈ ws := by rw [hw]; exact List.mem_cons_self
  refine ⟨⟨hrc, hrs, hR.1, hR.2, pay_in ht hG, hc⟩, ht _ (hG _ hc).1, ok _ (by simp [wsV]), ⟨hd.1, hd.2.1⟩, fun sig h => ?_, ok _ (by simp [wsV]), ok _ (by simp [wsV]), ok _ (by simp [wsV])⟩
  have h2 := hd.2.2
  rw [h] at h2
  exact (Option.some.inj h2).symm
theorem vx_runVW {y : MethodName} {bytes cc : ByteArray} {maxL nL mc ms n index : Nat} {ret : Option FieldType} {hh : List (Nat × Nat × Nat × Nat)} {ws : List Cond} {rm : Room} {Pc : Array Value → State → Prop} {Qc : Array Value → State → Outcome → State → Prop} {free : Addr → Prop} {Ts : List Cond} {own C : String} {b : Addr} {As rest : List Value} {g : JFrame}
    (S : CallFix p m c cc nL s args Ts own) (hM : Met l y ws rm Pc Qc mc ms free) (cw : vx_CVW R s args own C index y bytes maxL ret hh ws rm mc ms n) (hp : PreV s H C b Pc As)
    (hg : g.method = m) (hn : As.length = n) (hsize : g.locals.size = nL) (hstack : g.stack = As.reverse ++ .ref b :: rest) (hW : 2 * g.monitorRoom + (rest.map fun v => v.category).sum ≤ 8) (hdg : decode cc g.pc = .ok (.invokevirtual index, 3)) (hf : cells + mc ≤ R.cells ∧ slots + ms ≤ R.slots) :
    va_Run p l e R s m args below meth c H locs cells slots mc ms g rest (Qc (Value.ref b :: As).toArray) free := by
  obtain ⟨⟨hrc, hrs, hfr, hlo, hws, hcw⟩, hcode, hini, hy, hlen, hl, hin, hse⟩ := cw
  have hK : Back l R p e below s args y 3 8 (PreOf R mc ms Pc) (PostOf Qc mc ms free) := va_backW (hh := hh) (bytes := bytes) (maxL := maxL) (ret := ret) hM hp.1 hrc hrs hfr hlo hws hcw (fun a' U hW => word_at hW (Or.inl (by first | rfl | simp [Cond.onTables, Cond.keeps, Cond.steady])) hini)
  obtain ⟨hx, hb, hml, ho, -⟩ := S
  obtain ⟨-, ⟨cellB, hcB, hoB, hclB⟩, hPc⟩ := hp
  intro T hT X
  obtain ⟨v, vm₁, ⟨U', l2, c2, s2⟩, hW₁, X', ⟨g', mk, t, L, e1, e2, hq, h1, hL, h2, h3⟩, st⟩ := vx_callVW X hx (C := C) (hh := hh) (bytes := bytes) (maxL := maxL) (ret := ret) ho hl hin hse hcode hy hK (by rw [hT]; exact hcB) hoB hclB hg (hsize.trans hml.symm) (argsL := As) (rest := rest) (fun sig h => hn.trans (hlen sig h)) hstack hW (by rw [hb]; exact hdg)
    (fun vm₁ hW₁ => ⟨hf.1, hf.2, hPc (T.setVm vm₁) hT hW₁⟩)
  dsimp only [Pt.U, Pt.locs, Pt.cells, Pt.slots] at X' e1 e2 h1 h2 h3 st
  subst h1; subst h2; subst h3
  exact ⟨v, (T.setVm vm₁).calling g' mk (Value.ref b :: As).toArray, t, U', L, hT, X', hL, e1, e2, hq, st⟩
section
variable {y : MethodName} {bytes cc : ByteArray} {maxL nL mc ms n index : Nat} {ret : Option FieldType} {ws : List Cond} {rm : Room} {Pc : Array Value → State → Prop} {Qc : Array Value → State → Outcome → State → Prop} {XC : String → State → State → Prop} {free : Addr → Prop} {Ts : List Cond} {own C : String} {b : Addr} {As rest : List Value} {g : JFrame}
theorem vx_runVX {hh : List (Nat × Nat × Nat × Nat)} (S : CallFix p m c cc nL s args Ts own) (hM : vx_Met l y ws rm Pc Qc XC mc ms free) (cw : vx_CVW R s args own C index y bytes maxL ret hh ws rm mc ms n) (hp : PreV s H C b Pc As)
    (hg : g.method = m) (hn : As.length = n) (hsize : g.locals.size = nL) (hstack : g.stack = As.reverse ++ .ref b :: rest) (hW : 2 * g.monitorRoom + (rest.map fun v => v.category).sum ≤ 8) (hdg : decode cc g.pc = .ok (.invokevirtual index, 3)) (hf : cells + mc ≤ R.cells ∧ slots + ms ≤ R.slots) :
    vx_Run p l e R s m args below meth c H locs cells slots mc ms g rest (Qc (Value.ref b :: As).toArray) XC free := by
  obtain ⟨⟨hrc, hrs, hfr, hlo, hws, hcw⟩, hcode, hini, hy, hlen, hl, hin, hse⟩ := cw
  have hK : vx_Back l R p e below s args y 3 8 (PreOf R mc ms Pc) (PostOf Qc mc ms free) (vx_Post XC mc ms free) := vx_backW (hh := hh) (bytes := bytes) (maxL := maxL) (ret := ret) hM hp.1 hrc hrs hfr hlo hws hcw (fun a' U hW => word_at hW (Or.inl (by first | rfl | simp [Cond.onTables, Cond.keeps, Cond.steady])) hini)
  obtain ⟨hx, hb, hml, ho, -⟩ := S
  obtain ⟨-, ⟨cellB, hcB, hoB, hclB⟩, hPc⟩ := hp
  intro T hT X
  rcases vx_callVX X hx (C := C) (hh := hh) (bytes := bytes) (maxL := maxL) (ret := ret) ho hl hin hse hcode hy hK (by rw [hT]; exact hcB) hoB hclB hg (hsize.trans hml.symm) (argsL := As) (rest := rest) (fun sig h => hn.trans (hlen sig h)) hstack hW (by rw [hb]; exact hdg)
    (fun vm₁ hW₁ => ⟨hf.1, hf.2, hPc (T.setVm vm₁) hT hW₁⟩) with ⟨v, vm₁, ⟨U', l2, c2, s2⟩, hW₁, X', ⟨g', mk, t, L, e1, e2, hq, h1, hL, h2, h3⟩, st⟩ | ⟨q, vm₁, ⟨U', l2, c2, s2⟩, hW₁, X', ⟨g', mk, t, L, E, ce, e1, e2, hq, hce, hcv, hcl, h1, hL, h2, h3⟩, st⟩
  · dsimp only [Pt.U, Pt.locs, Pt.cells, Pt.slots] at X' e1 e2 h1 h2 h3 st
    subst h1; subst h2; subst h3
    exact Or.inl ⟨v, (T.setVm vm₁).calling g' mk (Value.ref b :: As).toArray, t, U', L, hT, X', hL, e1, e2, hq, st⟩
  · dsimp only [Pt.U, Pt.locs, Pt.cells, Pt.slots] at X' e1 e2 h1 h2 h3 st hcl
    subst h1; subst h2; subst h3
    exact Or.inr ⟨q, (T.setVm vm₁).calling g' mk (Value.ref b :: As).toArray, t, U', L, E, ce, hT, X', hL, e1, e2, hq, hce, hcv, vx_cls hW₁ hcl, st⟩
theorem vx_runSX {hh : List (Nat × Nat × Nat × Nat)} (S : CallFix p m c cc nL s args Ts own) (hM : vx_Met l y ws rm Pc Qc XC mc ms free) (cw : vx_CSW R s args own index y bytes maxL ret hh ws rm mc ms n) (hp : PreS s H Pc As)
    (hg : g.method = m) (hn : As.length = n) (hsize : g.locals.size = nL) (hstack : g.stack = As.reverse ++ rest) (hW : 2 * g.monitorRoom + (rest.map fun v => v.category).sum ≤ 8) (hdg : decode cc g.pc = .ok (.invokestatic index, 3)) (hf : cells + mc ≤ R.cells ∧ slots + ms ≤ R.slots) :
    vx_Run p l e R s m args below meth c H locs cells slots mc ms g rest (Qc As.toArray) XC free := by
  obtain ⟨⟨hrc, hrs, hfr, hlo, hws, hcw⟩, hcode, hini, hy, hlen, hl, hstt⟩ := cw
  have hK : vx_Back l R p e below s args y 3 8 (PreOf R mc ms Pc) (PostOf Qc mc ms free) (vx_Post XC mc ms free) := vx_backW (hh := hh) (bytes := bytes) (maxL := maxL) (ret := ret) hM hp.1 hrc hrs hfr hlo hws hcw (fun a' U hW => word_at hW (Or.inl (by first | rfl | simp [Cond.onTables, Cond.keeps, Cond.steady])) hini)
  obtain ⟨hx, hb, hml, ho, -⟩ := S
  intro T hT X
  rcases vx_callSX X hx (hh := hh) (bytes := bytes) (maxL := maxL) (ret := ret) ho hl hstt hini hcode hy hK hg (hsize.trans hml.symm) (argsL := As) (rest := rest) (fun sig h => hn.trans (hlen sig h)) hstack hW (by rw [hb]; exact hdg)
    (fun vm₁ hW₁ => ⟨hf.1, hf.2, hp.2 (T.setVm vm₁) hT hW₁⟩) with ⟨v, vm₁, ⟨U', l2, c2, s2⟩, hW₁, X', ⟨g', mk, t, L, e1, e2, hq, h1, hL, h2, h3⟩, st⟩ | ⟨q, vm₁, ⟨U', l2, c2, s2⟩, hW₁, X', ⟨g', mk, t, L, E, ce, e1, e2, hq, hce, hcv, hcl, h1, hL, h2, h3⟩, st⟩
  · dsimp only [Pt.U, Pt.locs, Pt.cells, Pt.slots] at X' e1 e2 h1 h2 h3 st
    subst h1; subst h2; subst h3
    exact Or.inl ⟨v, (T.setVm vm₁).calling g' mk As.toArray, t, U', L, hT, X', hL, e1, e2, hq, st⟩
  · dsimp only [Pt.U, Pt.locs, Pt.cells, Pt.slots] at X' e1 e2 h1 h2 h3 st hcl
    subst h1; subst h2; subst h3
    exact Or.inr ⟨q, (T.setVm vm₁).calling g' mk As.toArray, t, U', L, E, ce, hT, X', hL, e1, e2, hq, hce, hcv, vx_cls hW₁ hcl, st⟩
end
end VXH
theorem vx_ofWH {l : Launch} {y : MethodName} {ws ws' : List Cond} {rm : Room} {Pc : Array Value → State → Prop} {Qc : Array Value → State → Outcome → State → Prop} {XC : String → State → State → Prop} {mc ms : Nat} {free : Addr → Prop} {cc : ByteArray} {maxL : Nat} {ret : Option FieldType} {hh : List (Nat × Nat × Nat × Nat)}
    (hy : plainName y.cls = true) (hw : ws = Cond.codeWith y cc maxL ret hh :: ws')
    (body : ∀ p e s m args below meth c s₁, BodyLoose p l y (headSpec ws rm) cc maxL ret e s m args below meth c s₁ → c.maxLocals = maxL → Pc args s →
      W p l e (headSpec ws rm).room s m args below meth c s.heap [] 0 0 (vx_MQ below Qc XC args s mc ms free) (entryFrame m args maxL)) : vx_Met l y ws rm Pc Qc XC mc ms free := by
  refine MetFree.of_bodyS (code := cc) (maxLocals := maxL) (ret := ret) hy ?_ ?_
  · intro args s m h hn
    obtain ⟨m9, meth, c, hn9, h1, h2, h3, h4, -, h5, h6, -⟩ := Cond.codeWith_spec (atoms_spec (ws := ws) h _ (by rw [hw]; exact List.mem_cons_self))
    cases hn.symm.trans hn9
    exact ⟨meth, c, h1, h2, h3, h4, h5, h6⟩
  · intro p e s m args below meth c s₁ B hml hP _
    have hh0 : s₁.heap = s.heap := by rw [B.state]; rfl
    obtain ⟨t, a1, o, b1, b2, b3⟩ := body p e s m args below meth c s₁ B hml hP s₁ hh0 (Stand.of_body B)
    exact ⟨t, o, a1, b1, b2, b3⟩
/-! ===== END ===== -/
end
section
def RX0 : String := "FosterHouse$Child"
def TX0 : u_T := fun k => match k with
  | 0 => ("FosterHouse$Child", "number", "I", true)
  | 1 => ("FosterHouse$Child", "born", "I", true)
  | 2 => ("FosterHouse$Child", "needs", "I", true)
  | 3 => ("FosterHouse$Child", "kin", "I", true)
  | 4 => ("FosterHouse$Child", "place", "I", true)
  | 5 => ("FosterHouse$Child", "tongue", "I", true)
  | 6 => ("FosterHouse$Child", "wishes", "[I", true)
  | 7 => ("FosterHouse$Child", "reports", "LFosterHouse$Reports;", true)
  | 8 => ("FosterHouse$Child", "family", "LFosterHouse$Family;", true)
  | 9 => ("FosterHouse$Child", "worker", "I", false)
  | 10 => ("FosterHouse$Child", "lastOrder", "LFosterHouse$Order;", false)
  | 11 => ("FosterHouse$Child", "stay", "LFosterHouse$Stay;", false)
  | _ => ("FosterHouse$Child", "stays", "I", false)
def tyX0 : Nat → FieldType := fun k => match k with
  | 0 => .int
  | 1 => .int
  | 2 => .int
  | 3 => .int
  | 4 => .int
  | 5 => .int
  | 6 => .array .int
  | 7 => .object "FosterHouse$Reports"
  | 8 => .object "FosterHouse$Family"
  | 9 => .int
  | 10 => .object "FosterHouse$Order"
  | 11 => .object "FosterHouse$Stay"
  | _ => .int
theorem nmX0 : ∀ a, a < 13 → ∀ b, b < 13 → a ≠ b → (TX0 a).2.1 ≠ (TX0 b).2.1 := by decide +kernel
theorem tyX0_ok : ∀ k, k < 13 → parseFieldDescriptor (TX0 k).2.2.1 = some (tyX0 k) := by decide +kernel
abbrev cX0_init : ByteArray := prog_2_method_1_code
def yX0_init : MethodName := ⟨RX0, "<init>", "(IIIIIII)V"⟩
abbrev cX0_yearsOn : ByteArray := prog_2_method_2_code
def yX0_yearsOn : MethodName := ⟨RX0, "yearsOn", "(I)I"⟩
abbrev cX0_isIn : ByteArray := prog_2_method_3_code
def yX0_isIn : MethodName := ⟨RX0, "isIn", "(LFosterHouse$Home;)Z"⟩
abbrev cX0_orderOn : ByteArray := prog_2_method_4_code
def yX0_orderOn : MethodName := ⟨RX0, "orderOn", "(I)LFosterHouse$Order;"⟩
abbrev cX0_orderNumberOn : ByteArray := prog_2_method_5_code
def yX0_orderNumberOn : MethodName := ⟨RX0, "orderNumberOn", "(I)I"⟩
abbrev cX0_orderKindOn : ByteArray := prog_2_method_6_code
def yX0_orderKindOn : MethodName := ⟨RX0, "orderKindOn", "(I)I"⟩
abbrev cX0_tellWish : ByteArray := prog_2_method_7_code
def yX0_tellWish : MethodName := ⟨RX0, "tellWish", "(IZI)V"⟩
abbrev cX0_wishAbout : ByteArray := prog_2_method_8_code
def yX0_wishAbout : MethodName := ⟨RX0, "wishAbout", "(I)I"⟩
abbrev cX0_refuses : ByteArray := prog_2_method_9_code
def yX0_refuses : MethodName := ⟨RX0, "refuses", "(I)Z"⟩
abbrev cX0_wishWorth : ByteArray := prog_2_method_10_code
def yX0_wishWorth : MethodName := ⟨RX0, "wishWorth", "(I)I"⟩
abbrev cX0_beginStay : ByteArray := prog_2_method_11_code
def yX0_beginStay : MethodName := ⟨RX0, "beginStay", "(LFosterHouse$Stay;)V"⟩
abbrev cX0_endStay : ByteArray := prog_2_method_12_code
def yX0_endStay : MethodName := ⟨RX0, "endStay", "(I)V"⟩
abbrev cX0_beginDay : ByteArray := prog_2_method_13_code
def yX0_beginDay : MethodName := ⟨RX0, "beginDay", "(I)V"⟩
def RX1 : String := "FosterHouse$Family"
def TX1 : u_T := fun k => match k with
  | 0 => ("FosterHouse$Family", "gap", "I", false)
  | 1 => ("FosterHouse$Family", "hasCome", "Z", false)
  | 2 => ("FosterHouse$Family", "kept", "I", false)
  | 3 => ("FosterHouse$Family", "missed", "I", false)
  | 4 => ("FosterHouse$Family", "keptInRow", "I", false)
  | 5 => ("FosterHouse$Family", "missedInRow", "I", false)
  | _ => ("FosterHouse$Family", "isWatched", "Z", false)
def tyX1 : Nat → FieldType := fun k => match k with
  | 0 => .int
  | 1 => .boolean
  | 2 => .int
  | 3 => .int
  | 4 => .int
  | 5 => .int
  | _ => .boolean
theorem nmX1 : ∀ a, a < 7 → ∀ b, b < 7 → a ≠ b → (TX1 a).2.1 ≠ (TX1 b).2.1 := by decide +kernel
theorem tyX1_ok : ∀ k, k < 7 → parseFieldDescriptor (TX1 k).2.2.1 = some (tyX1 k) := by decide +kernel
abbrev cX1_init : ByteArray := prog_3_method_1_code
def yX1_init : MethodName := ⟨RX1, "<init>", "()V"⟩
abbrev cX1_beginDay : ByteArray := prog_3_method_2_code
def yX1_beginDay : MethodName := ⟨RX1, "beginDay", "(I)V"⟩
abbrev cX1_countVisit : ByteArray := prog_3_method_3_code
def yX1_countVisit : MethodName := ⟨RX1, "countVisit", "()V"⟩
def RX2 : String := "FosterHouse$Home"
def TX2 : u_T := fun k => match k with
  | 0 => ("FosterHouse$Home", "number", "I", true)
  | 1 => ("FosterHouse$Home", "place", "I", true)
  | 2 => ("FosterHouse$Home", "tongue", "I", true)
  | 3 => ("FosterHouse$Home", "beds", "I", true)
  | 4 => ("FosterHouse$Home", "approval", "LFosterHouse$Term;", false)
  | 5 => ("FosterHouse$Home", "training", "LFosterHouse$Term;", false)
  | 6 => ("FosterHouse$Home", "resting", "LFosterHouse$Term;", false)
  | 7 => ("FosterHouse$Home", "paid", "I", false)
  | _ => ("FosterHouse$Home", "isBlack", "Z", false)
def tyX2 : Nat → FieldType := fun k => match k with
  | 0 => .int
  | 1 => .int
  | 2 => .int
  | 3 => .int
  | 4 => .object "FosterHouse$Term"
  | 5 => .object "FosterHouse$Term"
  | 6 => .object "FosterHouse$Term"
  | 7 => .int
  | _ => .boolean
theorem nmX2 : ∀ a, a < 9 → ∀ b, b < 9 → a ≠ b → (TX2 a).2.1 ≠ (TX2 b).2.1 := by decide +kernel
theorem tyX2_ok : ∀ k, k < 9 → parseFieldDescriptor (TX2 k).2.2.1 = some (tyX2 k) := by decide +kernel
abbrev cX2_init : ByteArray := prog_4_method_1_code
def yX2_init : MethodName := ⟨RX2, "<init>", "(IIII)V"⟩
abbrev cX2_isTrainedFor : ByteArray := prog_4_method_2_code
def yX2_isTrainedFor : MethodName := ⟨RX2, "isTrainedFor", "(II)Z"⟩
abbrev cX2_restsOn : ByteArray := prog_4_method_3_code
def yX2_restsOn : MethodName := ⟨RX2, "restsOn", "(I)Z"⟩
def RX3 : String := "FosterHouse$Order"
def TX3 : u_T := fun k => match k with
  | 0 => ("FosterHouse$Order", "number", "I", true)
  | 1 => ("FosterHouse$Order", "kind", "I", true)
  | 2 => ("FosterHouse$Order", "from", "I", true)
  | 3 => ("FosterHouse$Order", "end", "I", true)
  | _ => ("FosterHouse$Order", "before", "LFosterHouse$Order;", true)
def tyX3 : Nat → FieldType := fun k => match k with
  | 0 => .int
  | 1 => .int
  | 2 => .int
  | 3 => .int
  | _ => .object "FosterHouse$Order"
theorem nmX3 : ∀ a, a < 5 → ∀ b, b < 5 → a ≠ b → (TX3 a).2.1 ≠ (TX3 b).2.1 := by decide +kernel
theorem tyX3_ok : ∀ k, k < 5 → parseFieldDescriptor (TX3 k).2.2.1 = some (tyX3 k) := by decide +kernel
abbrev cX3_init : ByteArray := prog_5_method_1_code
def yX3_init : MethodName := ⟨RX3, "<init>", "(IIIILFosterHouse$Order;)V"⟩
abbrev cX3_holdsOn : ByteArray := prog_5_method_2_code
def yX3_holdsOn : MethodName := ⟨RX3, "holdsOn", "(I)Z"⟩
def RX4 : String := "FosterHouse$Plan"
def TX4 : u_T := fun k => match k with
  | 0 => ("FosterHouse$Plan", "kids", "[LFosterHouse$Child;", true)
  | 1 => ("FosterHouse$Plan", "chosen", "[I", true)
  | 2 => ("FosterHouse$Plan", "worths", "[[I", true)
  | 3 => ("FosterHouse$Plan", "free", "[I", true)
  | 4 => ("FosterHouse$Plan", "guests", "[[I", true)
  | 5 => ("FosterHouse$Plan", "gains", "[J", true)
  | 6 => ("FosterHouse$Plan", "values", "[J", true)
  | 7 => ("FosterHouse$Plan", "count", "I", false)
  | _ => ("FosterHouse$Plan", "sets", "I", false)
def tyX4 : Nat → FieldType := fun k => match k with
  | 0 => .array (.object "FosterHouse$Child")
  | 1 => .array .int
  | 2 => .array (.array .int)
  | 3 => .array .int
  | 4 => .array (.array .int)
  | 5 => .array .long
  | 6 => .array .long
  | 7 => .int
  | _ => .int
theorem nmX4 : ∀ a, a < 9 → ∀ b, b < 9 → a ≠ b → (TX4 a).2.1 ≠ (TX4 b).2.1 := by decide +kernel
theorem tyX4_ok : ∀ k, k < 9 → parseFieldDescriptor (TX4 k).2.2.1 = some (tyX4 k) := by decide +kernel
abbrev cX4_init : ByteArray := prog_6_method_1_code
def yX4_init : MethodName := ⟨RX4, "<init>", "()V"⟩
abbrev cX4_clear : ByteArray := prog_6_method_2_code
def yX4_clear : MethodName := ⟨RX4, "clear", "()V"⟩
abbrev cX4_setBeds : ByteArray := prog_6_method_3_code
def yX4_setBeds : MethodName := ⟨RX4, "setBeds", "(II)V"⟩
abbrev cX4_addChild : ByteArray := prog_6_method_4_code
def yX4_addChild : MethodName := ⟨RX4, "addChild", "(LFosterHouse$Child;)I"⟩
abbrev cX4_allow : ByteArray := prog_6_method_5_code
def yX4_allow : MethodName := ⟨RX4, "allow", "(III)V"⟩
abbrev cX4_childAtRow : ByteArray := prog_6_method_6_code
def yX4_childAtRow : MethodName := ⟨RX4, "childAtRow", "(I)LFosterHouse$Child;"⟩
abbrev cX4_homeAtRow : ByteArray := prog_6_method_7_code
def yX4_homeAtRow : MethodName := ⟨RX4, "homeAtRow", "(I)I"⟩
abbrev cX4_search : ByteArray := prog_6_method_8_code
def yX4_search : MethodName := ⟨RX4, "search", "()I"⟩
abbrev cX4_weighSets : ByteArray := prog_6_method_9_code
def yX4_weighSets : MethodName := ⟨RX4, "weighSets", "(I)V"⟩
abbrev cX4_gainOf : ByteArray := prog_6_method_10_code
def yX4_gainOf : MethodName := ⟨RX4, "gainOf", "(II)J"⟩
abbrev cX4_addHome : ByteArray := prog_6_method_11_code
def yX4_addHome : MethodName := ⟨RX4, "addHome", "(I)V"⟩
abbrev cX4_choose : ByteArray := prog_6_method_12_code
def yX4_choose : MethodName := ⟨RX4, "choose", "(I)V"⟩
def RX5 : String := "FosterHouse$Reports"
def TX5 : u_T := fun k => match k with
  | 0 => ("FosterHouse$Reports", "days", "[I", true)
  | 1 => ("FosterHouse$Reports", "sources", "[I", true)
  | 2 => ("FosterHouse$Reports", "weights", "[I", true)
  | 3 => ("FosterHouse$Reports", "rows", "I", false)
  | 4 => ("FosterHouse$Reports", "told", "I", false)
  | _ => ("FosterHouse$Reports", "seen", "I", false)
def tyX5 : Nat → FieldType := fun k => match k with
  | 0 => .array .int
  | 1 => .array .int
  | 2 => .array .int
  | 3 => .int
  | 4 => .int
  | _ => .int
theorem nmX5 : ∀ a, a < 6 → ∀ b, b < 6 → a ≠ b → (TX5 a).2.1 ≠ (TX5 b).2.1 := by decide +kernel
theorem tyX5_ok : ∀ k, k < 6 → parseFieldDescriptor (TX5 k).2.2.1 = some (tyX5 k) := by decide +kernel
abbrev cX5_init : ByteArray := prog_7_method_1_code
def yX5_init : MethodName := ⟨RX5, "<init>", "()V"⟩
abbrev cX5_tell : ByteArray := prog_7_method_2_code
def yX5_tell : MethodName := ⟨RX5, "tell", "(III)V"⟩
abbrev cX5_sumOn : ByteArray := prog_7_method_3_code
def yX5_sumOn : MethodName := ⟨RX5, "sumOn", "(I)I"⟩
abbrev cX5_dayToSeeBy : ByteArray := prog_7_method_4_code
def yX5_dayToSeeBy : MethodName := ⟨RX5, "dayToSeeBy", "(I)I"⟩
abbrev cX5_daysToSee : ByteArray := prog_7_method_5_code
def yX5_daysToSee : MethodName := ⟨RX5, "daysToSee", "(I)I"⟩
def RX6 : String := "FosterHouse$Stay"
def TX6 : u_T := fun k => match k with
  | 0 => ("FosterHouse$Stay", "child", "LFosterHouse$Child;", true)
  | 1 => ("FosterHouse$Stay", "home", "LFosterHouse$Home;", true)
  | 2 => ("FosterHouse$Stay", "from", "I", true)
  | 3 => ("FosterHouse$Stay", "order", "I", true)
  | _ => ("FosterHouse$Stay", "end", "I", false)
def tyX6 : Nat → FieldType := fun k => match k with
  | 0 => .object "FosterHouse$Child"
  | 1 => .object "FosterHouse$Home"
  | 2 => .int
  | 3 => .int
  | _ => .int
theorem nmX6 : ∀ a, a < 5 → ∀ b, b < 5 → a ≠ b → (TX6 a).2.1 ≠ (TX6 b).2.1 := by decide +kernel
theorem tyX6_ok : ∀ k, k < 5 → parseFieldDescriptor (TX6 k).2.2.1 = some (tyX6 k) := by decide +kernel
abbrev cX6_init : ByteArray := prog_8_method_1_code
def yX6_init : MethodName := ⟨RX6, "<init>", "(LFosterHouse$Child;LFosterHouse$Home;II)V"⟩
abbrev cX6_duesUpTo : ByteArray := prog_8_method_2_code
def yX6_duesUpTo : MethodName := ⟨RX6, "duesUpTo", "(I)I"⟩
abbrev cX6_yearsSummed : ByteArray := prog_8_method_3_code
def yX6_yearsSummed : MethodName := ⟨RX6, "yearsSummed", "(I)I"⟩
def RX7 : String := "FosterHouse$Term"
def TX7 : u_T := fun k => match k with
  | 0 => ("FosterHouse$Term", "before", "LFosterHouse$Term;", true)
  | 1 => ("FosterHouse$Term", "told", "I", true)
  | 2 => ("FosterHouse$Term", "from", "I", true)
  | 3 => ("FosterHouse$Term", "until", "I", true)
  | 4 => ("FosterHouse$Term", "least", "I", true)
  | 5 => ("FosterHouse$Term", "most", "I", true)
  | _ => ("FosterHouse$Term", "needs", "I", true)
def tyX7 : Nat → FieldType := fun k => match k with
  | 0 => .object "FosterHouse$Term"
  | 1 => .int
  | 2 => .int
  | 3 => .int
  | 4 => .int
  | 5 => .int
  | _ => .int
theorem nmX7 : ∀ a, a < 7 → ∀ b, b < 7 → a ≠ b → (TX7 a).2.1 ≠ (TX7 b).2.1 := by decide +kernel
theorem tyX7_ok : ∀ k, k < 7 → parseFieldDescriptor (TX7 k).2.2.1 = some (tyX7 k) := by decide +kernel
abbrev cX7_init : ByteArray := prog_9_method_1_code
def yX7_init : MethodName := ⟨RX7, "<init>", "(LFosterHouse$Term;IIIIII)V"⟩
abbrev cX7_holdsOn : ByteArray := prog_9_method_2_code
def yX7_holdsOn : MethodName := ⟨RX7, "holdsOn", "(I)Z"⟩
abbrev cX7_toldBy : ByteArray := prog_9_method_3_code
def yX7_toldBy : MethodName := ⟨RX7, "toldBy", "(LFosterHouse$Term;I)LFosterHouse$Term;"⟩
def RX8 : String := "FosterHouse"
def TX8 : u_T := fun k => match k with
  | 0 => ("FosterHouse", "children", "[LFosterHouse$Child;", true)
  | 1 => ("FosterHouse", "homes", "[LFosterHouse$Home;", true)
  | 2 => ("FosterHouse", "stays", "[LFosterHouse$Stay;", true)
  | 3 => ("FosterHouse", "plan", "LFosterHouse$Plan;", true)
  | 4 => ("FosterHouse", "childCount", "I", false)
  | 5 => ("FosterHouse", "homeCount", "I", false)
  | 6 => ("FosterHouse", "orderCount", "I", false)
  | 7 => ("FosterHouse", "stayCount", "I", false)
  | _ => ("FosterHouse", "today", "I", false)
def tyX8 : Nat → FieldType := fun k => match k with
  | 0 => .array (.object "FosterHouse$Child")
  | 1 => .array (.object "FosterHouse$Home")
  | 2 => .array (.object "FosterHouse$Stay")
  | 3 => .object "FosterHouse$Plan"
  | 4 => .int
  | 5 => .int
  | 6 => .int
  | 7 => .int
  | _ => .int
theorem nmX8 : ∀ a, a < 9 → ∀ b, b < 9 → a ≠ b → (TX8 a).2.1 ≠ (TX8 b).2.1 := by decide +kernel
theorem tyX8_ok : ∀ k, k < 9 → parseFieldDescriptor (TX8 k).2.2.1 = some (tyX8 k) := by decide +kernel
abbrev cX8_init : ByteArray := prog_1_method_1_code
def yX8_init : MethodName := ⟨RX8, "<init>", "()V"⟩
abbrev cX8_child : ByteArray := prog_1_method_2_code
def yX8_child : MethodName := ⟨RX8, "child", "(IIIII)I"⟩
abbrev cX8_home : ByteArray := prog_1_method_3_code
def yX8_home : MethodName := ⟨RX8, "home", "(III)I"⟩
abbrev cX8_approve : ByteArray := prog_1_method_4_code
def yX8_approve : MethodName := ⟨RX8, "approve", "(IIII)V"⟩
abbrev cX8_train : ByteArray := prog_1_method_5_code
def yX8_train : MethodName := ⟨RX8, "train", "(III)V"⟩
abbrev cX8_rest : ByteArray := prog_1_method_6_code
def yX8_rest : MethodName := ⟨RX8, "rest", "(III)V"⟩
abbrev cX8_report : ByteArray := prog_1_method_7_code
def yX8_report : MethodName := ⟨RX8, "report", "(III)I"⟩
abbrev cX8_see : ByteArray := prog_1_method_8_code
def yX8_see : MethodName := ⟨RX8, "see", "(I)Z"⟩
abbrev cX8_risk : ByteArray := prog_1_method_9_code
def yX8_risk : MethodName := ⟨RX8, "risk", "(I)I"⟩
abbrev cX8_seeBy : ByteArray := prog_1_method_10_code
def yX8_seeBy : MethodName := ⟨RX8, "seeBy", "(I)I"⟩
abbrev cX8_order : ByteArray := prog_1_method_11_code
def yX8_order : MethodName := ⟨RX8, "order", "(IIII)I"⟩
abbrev cX8_counts : ByteArray := prog_1_method_12_code
def yX8_counts : MethodName := ⟨RX8, "counts", "(II)I"⟩
abbrev cX8_wish : ByteArray := prog_1_method_13_code
def yX8_wish : MethodName := ⟨RX8, "wish", "(IIZ)V"⟩
abbrev cX8_why : ByteArray := prog_1_method_14_code
def yX8_why : MethodName := ⟨RX8, "why", "(II)I"⟩
abbrev cX8_worth : ByteArray := prog_1_method_15_code
def yX8_worth : MethodName := ⟨RX8, "worth", "(II)I"⟩
abbrev cX8_best : ByteArray := prog_1_method_16_code
def yX8_best : MethodName := ⟨RX8, "best", "(I)I"⟩
abbrev cX8_place : ByteArray := prog_1_method_17_code
def yX8_place : MethodName := ⟨RX8, "place", "(II)I"⟩
abbrev cX8_placeAll : ByteArray := prog_1_method_18_code
def yX8_placeAll : MethodName := ⟨RX8, "placeAll", "(I)I"⟩
abbrev cX8_visits : ByteArray := prog_1_method_19_code
def yX8_visits : MethodName := ⟨RX8, "visits", "(II)I"⟩
abbrev cX8_came : ByteArray := prog_1_method_20_code
def yX8_came : MethodName := ⟨RX8, "came", "(I)V"⟩
abbrev cX8_pay : ByteArray := prog_1_method_21_code
def yX8_pay : MethodName := ⟨RX8, "pay", "(II)I"⟩
abbrev cX8_owed : ByteArray := prog_1_method_22_code
def yX8_owed : MethodName := ⟨RX8, "owed", "(I)I"⟩
abbrev cX8_handOver : ByteArray := prog_1_method_23_code
def yX8_handOver : MethodName := ⟨RX8, "handOver", "(II)I"⟩
abbrev cX8_load : ByteArray := prog_1_method_24_code
def yX8_load : MethodName := ⟨RX8, "load", "(I)I"⟩
abbrev cX8_pass : ByteArray := prog_1_method_25_code
def yX8_pass : MethodName := ⟨RX8, "pass", "(I)I"⟩
abbrev cX8_childIs : ByteArray := prog_1_method_26_code
def yX8_childIs : MethodName := ⟨RX8, "childIs", "(II)I"⟩
abbrev cX8_stay : ByteArray := prog_1_method_27_code
def yX8_stay : MethodName := ⟨RX8, "stay", "(II)I"⟩
abbrev cX8_wasAllowed : ByteArray := prog_1_method_28_code
def yX8_wasAllowed : MethodName := ⟨RX8, "wasAllowed", "(I)Z"⟩
abbrev cX8_blacken : ByteArray := prog_1_method_29_code
def yX8_blacken : MethodName := ⟨RX8, "blacken", "(IZ)Z"⟩
abbrev cX8_file : ByteArray := prog_1_method_30_code
def yX8_file : MethodName := ⟨RX8, "file", "(II)I"⟩
abbrev cX8_isWithin : ByteArray := prog_1_method_31_code
def yX8_isWithin : MethodName := ⟨RX8, "isWithin", "(III)Z"⟩
abbrev cX8_require : ByteArray := prog_1_method_32_code
def yX8_require : MethodName := ⟨RX8, "require", "(Z)V"⟩
abbrev cX8_requireWorker : ByteArray := prog_1_method_33_code
def yX8_requireWorker : MethodName := ⟨RX8, "requireWorker", "(I)V"⟩
abbrev cX8_childAt : ByteArray := prog_1_method_34_code
def yX8_childAt : MethodName := ⟨RX8, "childAt", "(I)LFosterHouse$Child;"⟩
abbrev cX8_homeAt : ByteArray := prog_1_method_35_code
def yX8_homeAt : MethodName := ⟨RX8, "homeAt", "(I)LFosterHouse$Home;"⟩
abbrev cX8_stayAt : ByteArray := prog_1_method_36_code
def yX8_stayAt : MethodName := ⟨RX8, "stayAt", "(I)LFosterHouse$Stay;"⟩
abbrev cX8_barOnDay : ByteArray := prog_1_method_37_code
def yX8_barOnDay : MethodName := ⟨RX8, "barOnDay", "(LFosterHouse$Child;LFosterHouse$Home;I)I"⟩
abbrev cX8_barToday : ByteArray := prog_1_method_38_code
def yX8_barToday : MethodName := ⟨RX8, "barToday", "(LFosterHouse$Child;LFosterHouse$Home;)I"⟩
abbrev cX8_takenBeds : ByteArray := prog_1_method_39_code
def yX8_takenBeds : MethodName := ⟨RX8, "takenBeds", "(LFosterHouse$Home;LFosterHouse$Child;)I"⟩
abbrev cX8_worthFor : ByteArray := prog_1_method_40_code
def yX8_worthFor : MethodName := ⟨RX8, "worthFor", "(LFosterHouse$Child;LFosterHouse$Home;)I"⟩
abbrev cX8_beginStay : ByteArray := prog_1_method_41_code
def yX8_beginStay : MethodName := ⟨RX8, "beginStay", "(LFosterHouse$Child;LFosterHouse$Home;)I"⟩
abbrev cX8_planFor : ByteArray := prog_1_method_42_code
def yX8_planFor : MethodName := ⟨RX8, "planFor", "(I)V"⟩
abbrev cX8_planChild : ByteArray := prog_1_method_43_code
def yX8_planChild : MethodName := ⟨RX8, "planChild", "(LFosterHouse$Child;)V"⟩
abbrev cX8_owedTo : ByteArray := prog_1_method_44_code
def yX8_owedTo : MethodName := ⟨RX8, "owedTo", "(LFosterHouse$Home;)I"⟩
abbrev cX8_loadOf : ByteArray := prog_1_method_45_code
def yX8_loadOf : MethodName := ⟨RX8, "loadOf", "(I)I"⟩
abbrev cX8_leastLoadedWorker : ByteArray := prog_1_method_46_code
def yX8_leastLoadedWorker : MethodName := ⟨RX8, "leastLoadedWorker", "()I"⟩
def RX9 : String := "FosterHouseModel"
def TX9 : u_T := fun k => match k with
  | 0 => ("FosterHouseModel", "day", "I", false)
  | 1 => ("FosterHouseModel", "children", "I", false)
  | 2 => ("FosterHouseModel", "days", "[I", true)
  | 3 => ("FosterHouseModel", "since", "[I", true)
  | 4 => ("FosterHouseModel", "needs", "[I", true)
  | 5 => ("FosterHouseModel", "family", "[I", true)
  | 6 => ("FosterHouseModel", "school", "[I", true)
  | 7 => ("FosterHouseModel", "tongue", "[I", true)
  | 8 => ("FosterHouseModel", "worker", "[I", true)
  | 9 => ("FosterHouseModel", "seen", "[I", true)
  | 10 => ("FosterHouseModel", "staying", "[I", true)
  | 11 => ("FosterHouseModel", "stayed", "[I", true)
  | 12 => ("FosterHouseModel", "visitDays", "[I", true)
  | 13 => ("FosterHouseModel", "hasCome", "[Z", true)
  | 14 => ("FosterHouseModel", "kept", "[I", true)
  | 15 => ("FosterHouseModel", "missed", "[I", true)
  | 16 => ("FosterHouseModel", "rowKept", "[I", true)
  | 17 => ("FosterHouseModel", "rowMissed", "[I", true)
  | 18 => ("FosterHouseModel", "isWatched", "[Z", true)
  | 19 => ("FosterHouseModel", "wishes", "[I", true)
  | 20 => ("FosterHouseModel", "homes", "I", false)
  | 21 => ("FosterHouseModel", "at", "[I", true)
  | 22 => ("FosterHouseModel", "speaks", "[I", true)
  | 23 => ("FosterHouseModel", "beds", "[I", true)
  | 24 => ("FosterHouseModel", "earned", "[I", true)
  | 25 => ("FosterHouseModel", "paid", "[I", true)
  | 26 => ("FosterHouseModel", "isBlack", "[Z", true)
  | 27 => ("FosterHouseModel", "told", "I", false)
  | 28 => ("FosterHouseModel", "ofHome", "[I", true)
  | 29 => ("FosterHouseModel", "what", "[I", true)
  | 30 => ("FosterHouseModel", "when", "[I", true)
  | 31 => ("FosterHouseModel", "one", "[I", true)
  | 32 => ("FosterHouseModel", "two", "[I", true)
  | 33 => ("FosterHouseModel", "until", "[I", true)
  | 34 => ("FosterHouseModel", "reports", "[I", true)
  | 35 => ("FosterHouseModel", "source", "[I", true)
  | 36 => ("FosterHouseModel", "weight", "[I", true)
  | 37 => ("FosterHouseModel", "reportDay", "[I", true)
  | 38 => ("FosterHouseModel", "orders", "I", false)
  | 39 => ("FosterHouseModel", "orderOf", "[I", true)
  | 40 => ("FosterHouseModel", "kind", "[I", true)
  | 41 => ("FosterHouseModel", "orderFrom", "[I", true)
  | 42 => ("FosterHouseModel", "orderTo", "[I", true)
  | 43 => ("FosterHouseModel", "stays", "I", false)
  | 44 => ("FosterHouseModel", "stayOf", "[I", true)
  | 45 => ("FosterHouseModel", "stayIn", "[I", true)
  | 46 => ("FosterHouseModel", "began", "[I", true)
  | 47 => ("FosterHouseModel", "ended", "[I", true)
  | 48 => ("FosterHouseModel", "stayOrder", "[I", true)
  | 49 => ("FosterHouseModel", "many", "I", false)
  | 50 => ("FosterHouseModel", "waiting", "[I", true)
  | 51 => ("FosterHouseModel", "tried", "[I", true)
  | 52 => ("FosterHouseModel", "chosen", "[I", true)
  | 53 => ("FosterHouseModel", "mayGo", "[Z", true)
  | 54 => ("FosterHouseModel", "worthIn", "[I", true)
  | 55 => ("FosterHouseModel", "free", "[I", true)
  | _ => ("FosterHouseModel", "thrown", "I", false)
def tyX9 : Nat → FieldType := fun k => match k with
  | 0 => .int
  | 1 => .int
  | 2 => .array .int
  | 3 => .array .int
  | 4 => .array .int
  | 5 => .array .int
  | 6 => .array .int
  | 7 => .array .int
  | 8 => .array .int
  | 9 => .array .int
  | 10 => .array .int
  | 11 => .array .int
  | 12 => .array .int
  | 13 => .array .boolean
  | 14 => .array .int
  | 15 => .array .int
  | 16 => .array .int
  | 17 => .array .int
  | 18 => .array .boolean
  | 19 => .array .int
  | 20 => .int
  | 21 => .array .int
  | 22 => .array .int
  | 23 => .array .int
  | 24 => .array .int
  | 25 => .array .int
  | 26 => .array .boolean
  | 27 => .int
  | 28 => .array .int
  | 29 => .array .int
  | 30 => .array .int
  | 31 => .array .int
  | 32 => .array .int
  | 33 => .array .int
  | 34 => .array .int
  | 35 => .array .int
  | 36 => .array .int
  | 37 => .array .int
  | 38 => .int
  | 39 => .array .int
  | 40 => .array .int
  | 41 => .array .int
  | 42 => .array .int
  | 43 => .int
  | 44 => .array .int
  | 45 => .array .int
  | 46 => .array .int
  | 47 => .array .int
  | 48 => .array .int
  | 49 => .int
  | 50 => .array .int
  | 51 => .array .int
  | 52 => .array .int
  | 53 => .array .boolean
  | 54 => .array .int
  | 55 => .array .int
  | _ => .int
theorem nmX9 : ∀ a, a < 57 → ∀ b, b < 57 → a ≠ b → (TX9 a).2.1 ≠ (TX9 b).2.1 := by decide +kernel
theorem tyX9_ok : ∀ k, k < 57 → parseFieldDescriptor (TX9 k).2.2.1 = some (tyX9 k) := by decide +kernel
abbrev cX9_init : ByteArray := prog_11_method_1_code
def yX9_init : MethodName := ⟨RX9, "<init>", "()V"⟩
abbrev cX9_thrown : ByteArray := prog_11_method_2_code
def yX9_thrown : MethodName := ⟨RX9, "thrown", "()I"⟩
abbrev cX9_in : ByteArray := prog_11_method_3_code
def yX9_in : MethodName := ⟨RX9, "in", "(III)Z"⟩
abbrev cX9_goes : ByteArray := prog_11_method_4_code
def yX9_goes : MethodName := ⟨RX9, "goes", "(ZZZ)Z"⟩
abbrev cX9_isChild : ByteArray := prog_11_method_5_code
def yX9_isChild : MethodName := ⟨RX9, "isChild", "(I)Z"⟩
abbrev cX9_isHome : ByteArray := prog_11_method_6_code
def yX9_isHome : MethodName := ⟨RX9, "isHome", "(I)Z"⟩
abbrev cX9_ones : ByteArray := prog_11_method_7_code
def yX9_ones : MethodName := ⟨RX9, "ones", "(I)I"⟩
abbrev cX9_yearsOn : ByteArray := prog_11_method_8_code
def yX9_yearsOn : MethodName := ⟨RX9, "yearsOn", "(II)I"⟩
abbrev cX9_homeOf : ByteArray := prog_11_method_9_code
def yX9_homeOf : MethodName := ⟨RX9, "homeOf", "(I)I"⟩
abbrev cX9_loadOf : ByteArray := prog_11_method_10_code
def yX9_loadOf : MethodName := ⟨RX9, "loadOf", "(I)I"⟩
abbrev cX9_leastLoaded : ByteArray := prog_11_method_11_code
def yX9_leastLoaded : MethodName := ⟨RX9, "leastLoaded", "()I"⟩
abbrev cX9_child : ByteArray := prog_11_method_12_code
def yX9_child : MethodName := ⟨RX9, "child", "(IIIII)I"⟩
abbrev cX9_home : ByteArray := prog_11_method_13_code
def yX9_home : MethodName := ⟨RX9, "home", "(III)I"⟩
abbrev cX9_tells : ByteArray := prog_11_method_14_code
def yX9_tells : MethodName := ⟨RX9, "tells", "(IIIII)V"⟩
abbrev cX9_toldOn : ByteArray := prog_11_method_15_code
def yX9_toldOn : MethodName := ⟨RX9, "toldOn", "(III)I"⟩
abbrev cX9_approve : ByteArray := prog_11_method_16_code
def yX9_approve : MethodName := ⟨RX9, "approve", "(IIII)V"⟩
abbrev cX9_train : ByteArray := prog_11_method_17_code
def yX9_train : MethodName := ⟨RX9, "train", "(III)V"⟩
abbrev cX9_rest : ByteArray := prog_11_method_18_code
def yX9_rest : MethodName := ⟨RX9, "rest", "(III)V"⟩
abbrev cX9_isLate : ByteArray := prog_11_method_19_code
def yX9_isLate : MethodName := ⟨RX9, "isLate", "(I)Z"⟩
abbrev cX9_isGreatest : ByteArray := prog_11_method_20_code
def yX9_isGreatest : MethodName := ⟨RX9, "isGreatest", "(II)Z"⟩
abbrev cX9_riskOf : ByteArray := prog_11_method_21_code
def yX9_riskOf : MethodName := ⟨RX9, "riskOf", "(I)I"⟩
abbrev cX9_report : ByteArray := prog_11_method_22_code
def yX9_report : MethodName := ⟨RX9, "report", "(III)I"⟩
abbrev cX9_seenBy : ByteArray := prog_11_method_23_code
def yX9_seenBy : MethodName := ⟨RX9, "seenBy", "(I)I"⟩
abbrev cX9_see : ByteArray := prog_11_method_24_code
def yX9_see : MethodName := ⟨RX9, "see", "(I)Z"⟩
abbrev cX9_risk : ByteArray := prog_11_method_25_code
def yX9_risk : MethodName := ⟨RX9, "risk", "(I)I"⟩
abbrev cX9_seeBy : ByteArray := prog_11_method_26_code
def yX9_seeBy : MethodName := ⟨RX9, "seeBy", "(I)I"⟩
abbrev cX9_order : ByteArray := prog_11_method_27_code
def yX9_order : MethodName := ⟨RX9, "order", "(IIII)I"⟩
abbrev cX9_countsOn : ByteArray := prog_11_method_28_code
def yX9_countsOn : MethodName := ⟨RX9, "countsOn", "(II)I"⟩
abbrev cX9_kindOn : ByteArray := prog_11_method_29_code
def yX9_kindOn : MethodName := ⟨RX9, "kindOn", "(II)I"⟩
abbrev cX9_counts : ByteArray := prog_11_method_30_code
def yX9_counts : MethodName := ⟨RX9, "counts", "(II)I"⟩
abbrev cX9_wish : ByteArray := prog_11_method_31_code
def yX9_wish : MethodName := ⟨RX9, "wish", "(IIZ)V"⟩
abbrev cX9_others : ByteArray := prog_11_method_32_code
def yX9_others : MethodName := ⟨RX9, "others", "(II)I"⟩
abbrev cX9_whyOn : ByteArray := prog_11_method_33_code
def yX9_whyOn : MethodName := ⟨RX9, "whyOn", "(III)I"⟩
abbrev cX9_whyNot : ByteArray := prog_11_method_34_code
def yX9_whyNot : MethodName := ⟨RX9, "whyNot", "(II)I"⟩
abbrev cX9_why : ByteArray := prog_11_method_35_code
def yX9_why : MethodName := ⟨RX9, "why", "(II)I"⟩
abbrev cX9_worthOf : ByteArray := prog_11_method_36_code
def yX9_worthOf : MethodName := ⟨RX9, "worthOf", "(II)I"⟩
abbrev cX9_worth : ByteArray := prog_11_method_37_code
def yX9_worth : MethodName := ⟨RX9, "worth", "(II)I"⟩
abbrev cX9_best : ByteArray := prog_11_method_38_code
def yX9_best : MethodName := ⟨RX9, "best", "(I)I"⟩
abbrev cX9_ends : ByteArray := prog_11_method_39_code
def yX9_ends : MethodName := ⟨RX9, "ends", "(I)V"⟩
abbrev cX9_begins : ByteArray := prog_11_method_40_code
def yX9_begins : MethodName := ⟨RX9, "begins", "(II)I"⟩
abbrev cX9_place : ByteArray := prog_11_method_41_code
def yX9_place : MethodName := ⟨RX9, "place", "(II)I"⟩
abbrev cX9_countsWaiting : ByteArray := prog_11_method_42_code
def yX9_countsWaiting : MethodName := ⟨RX9, "countsWaiting", "(I)I"⟩
abbrev cX9_valueOf : ByteArray := prog_11_method_43_code
def yX9_valueOf : MethodName := ⟨RX9, "valueOf", "()I"⟩
abbrev cX9_isNext : ByteArray := prog_11_method_44_code
def yX9_isNext : MethodName := ⟨RX9, "isNext", "()Z"⟩
abbrev cX9_finds : ByteArray := prog_11_method_45_code
def yX9_finds : MethodName := ⟨RX9, "finds", "()I"⟩
abbrev cX9_placeAll : ByteArray := prog_11_method_46_code
def yX9_placeAll : MethodName := ⟨RX9, "placeAll", "(I)I"⟩
abbrev cX9_visits : ByteArray := prog_11_method_47_code
def yX9_visits : MethodName := ⟨RX9, "visits", "(II)I"⟩
abbrev cX9_came : ByteArray := prog_11_method_48_code
def yX9_came : MethodName := ⟨RX9, "came", "(I)V"⟩
abbrev cX9_pay : ByteArray := prog_11_method_49_code
def yX9_pay : MethodName := ⟨RX9, "pay", "(II)I"⟩
abbrev cX9_owed : ByteArray := prog_11_method_50_code
def yX9_owed : MethodName := ⟨RX9, "owed", "(I)I"⟩
abbrev cX9_handOver : ByteArray := prog_11_method_51_code
def yX9_handOver : MethodName := ⟨RX9, "handOver", "(II)I"⟩
abbrev cX9_load : ByteArray := prog_11_method_52_code
def yX9_load : MethodName := ⟨RX9, "load", "(I)I"⟩
abbrev cX9_visited : ByteArray := prog_11_method_53_code
def yX9_visited : MethodName := ⟨RX9, "visited", "(I)V"⟩
abbrev cX9_passes : ByteArray := prog_11_method_54_code
def yX9_passes : MethodName := ⟨RX9, "passes", "()V"⟩
abbrev cX9_pass : ByteArray := prog_11_method_55_code
def yX9_pass : MethodName := ⟨RX9, "pass", "(I)I"⟩
abbrev cX9_childIs : ByteArray := prog_11_method_56_code
def yX9_childIs : MethodName := ⟨RX9, "childIs", "(II)I"⟩
abbrev cX9_stay : ByteArray := prog_11_method_57_code
def yX9_stay : MethodName := ⟨RX9, "stay", "(II)I"⟩
abbrev cX9_wasAllowed : ByteArray := prog_11_method_58_code
def yX9_wasAllowed : MethodName := ⟨RX9, "wasAllowed", "(I)Z"⟩
abbrev cX9_blacken : ByteArray := prog_11_method_59_code
def yX9_blacken : MethodName := ⟨RX9, "blacken", "(IZ)Z"⟩
abbrev cX9_file : ByteArray := prog_11_method_60_code
def yX9_file : MethodName := ⟨RX9, "file", "(II)I"⟩
def RJ6 : String := "java/lang/Integer"
abbrev cJ6_bitCount_0f7a4 : ByteArray := prog_16_method_49_code
def yJ6_bitCount_0f7a4 : MethodName := ⟨RJ6, "bitCount", "(I)I"⟩
def RJ9 : String := "java/lang/Math"
abbrev cJ9_abs_0f7a4 : ByteArray := prog_17_method_59_code
def yJ9_abs_0f7a4 : MethodName := ⟨RJ9, "abs", "(I)I"⟩
abbrev cJ9_max_7cf53 : ByteArray := prog_17_method_65_code
def yJ9_max_7cf53 : MethodName := ⟨RJ9, "max", "(II)I"⟩
abbrev cJ9_min_7cf53 : ByteArray := prog_17_method_69_code
def yJ9_min_7cf53 : MethodName := ⟨RJ9, "min", "(II)I"⟩
def RJ0 : String := "java/lang/String"
def RL : String := "FosterHouseLaw"
abbrev cL_child : ByteArray := method_3_code
def yL_child : MethodName := ⟨RL, "child", "(LFosterHouse;IIIII[J)I"⟩
abbrev cL_home : ByteArray := method_4_code
def yL_home : MethodName := ⟨RL, "home", "(LFosterHouse;III[J)I"⟩
abbrev cL_approve : ByteArray := method_5_code
def yL_approve : MethodName := ⟨RL, "approve", "(LFosterHouse;IIII)I"⟩
abbrev cL_train : ByteArray := method_6_code
def yL_train : MethodName := ⟨RL, "train", "(LFosterHouse;III)I"⟩
abbrev cL_rest : ByteArray := method_7_code
def yL_rest : MethodName := ⟨RL, "rest", "(LFosterHouse;III)I"⟩
abbrev cL_report : ByteArray := method_8_code
def yL_report : MethodName := ⟨RL, "report", "(LFosterHouse;III[J)I"⟩
abbrev cL_see : ByteArray := method_9_code
def yL_see : MethodName := ⟨RL, "see", "(LFosterHouse;I[J)I"⟩
abbrev cL_risk : ByteArray := method_10_code
def yL_risk : MethodName := ⟨RL, "risk", "(LFosterHouse;I[J)I"⟩
abbrev cL_seeBy : ByteArray := method_11_code
def yL_seeBy : MethodName := ⟨RL, "seeBy", "(LFosterHouse;I[J)I"⟩
abbrev cL_order : ByteArray := method_12_code
def yL_order : MethodName := ⟨RL, "order", "(LFosterHouse;IIII[J)I"⟩
abbrev cL_counts : ByteArray := method_13_code
def yL_counts : MethodName := ⟨RL, "counts", "(LFosterHouse;II[J)I"⟩
abbrev cL_wish : ByteArray := method_14_code
def yL_wish : MethodName := ⟨RL, "wish", "(LFosterHouse;IIZ)I"⟩
abbrev cL_why : ByteArray := method_15_code
def yL_why : MethodName := ⟨RL, "why", "(LFosterHouse;II[J)I"⟩
abbrev cL_worth : ByteArray := method_16_code
def yL_worth : MethodName := ⟨RL, "worth", "(LFosterHouse;II[J)I"⟩
abbrev cL_best : ByteArray := method_17_code
def yL_best : MethodName := ⟨RL, "best", "(LFosterHouse;I[J)I"⟩
abbrev cL_place : ByteArray := method_18_code
def yL_place : MethodName := ⟨RL, "place", "(LFosterHouse;II[J)I"⟩
abbrev cL_placeAll : ByteArray := method_19_code
def yL_placeAll : MethodName := ⟨RL, "placeAll", "(LFosterHouse;I[J)I"⟩
abbrev cL_visits : ByteArray := method_20_code
def yL_visits : MethodName := ⟨RL, "visits", "(LFosterHouse;II[J)I"⟩
abbrev cL_came : ByteArray := method_21_code
def yL_came : MethodName := ⟨RL, "came", "(LFosterHouse;I)I"⟩
abbrev cL_pay : ByteArray := method_22_code
def yL_pay : MethodName := ⟨RL, "pay", "(LFosterHouse;II[J)I"⟩
abbrev cL_owed : ByteArray := method_23_code
def yL_owed : MethodName := ⟨RL, "owed", "(LFosterHouse;I[J)I"⟩
abbrev cL_handOver : ByteArray := method_24_code
def yL_handOver : MethodName := ⟨RL, "handOver", "(LFosterHouse;II[J)I"⟩
abbrev cL_load : ByteArray := method_25_code
def yL_load : MethodName := ⟨RL, "load", "(LFosterHouse;I[J)I"⟩
abbrev cL_pass : ByteArray := method_26_code
def yL_pass : MethodName := ⟨RL, "pass", "(LFosterHouse;I[J)I"⟩
abbrev cL_childIs : ByteArray := method_27_code
def yL_childIs : MethodName := ⟨RL, "childIs", "(LFosterHouse;II[J)I"⟩
abbrev cL_stay : ByteArray := method_28_code
def yL_stay : MethodName := ⟨RL, "stay", "(LFosterHouse;II[J)I"⟩
abbrev cL_wasAllowed : ByteArray := method_29_code
def yL_wasAllowed : MethodName := ⟨RL, "wasAllowed", "(LFosterHouse;I[J)I"⟩
abbrev cL_blacken : ByteArray := method_30_code
def yL_blacken : MethodName := ⟨RL, "blacken", "(LFosterHouse;IZ[J)I"⟩
abbrev cL_file : ByteArray := method_31_code
def yL_file : MethodName := ⟨RL, "file", "(LFosterHouse;II[J)I"⟩
abbrev cL_law : ByteArray := code
def yL_law : MethodName := ⟨RL, "law", "([I)Z"⟩
abbrev vwCl : List vw_C := [(RX0, TX0, 13), (RX1, TX1, 7), (RX2, TX2, 9), (RX3, TX3, 5), (RX4, TX4, 9), (RX5, TX5, 6), (RX6, TX6, 5), (RX7, TX7, 7), (RX8, TX8, 9), (RX9, TX9, 57)]
end
section
theorem dX0_init_0 : decode cX0_init 0 = .ok (.aload_n 0, 1) := by decide +kernel
theorem dX0_init_1 : decode cX0_init 1 = .ok (.invokespecial 3, 3) := by decide +kernel
theorem dX0_init_4 : decode cX0_init 4 = .ok (.aload_n 0, 1) := by decide +kernel
theorem dX0_init_5 : decode cX0_init 5 = .ok (.iload_n 1, 1) := by decide +kernel
theorem dX0_init_6 : decode cX0_init 6 = .ok (.putfield 9, 3) := by decide +kernel
theorem dX0_init_9 : decode cX0_init 9 = .ok (.aload_n 0, 1) := by decide +kernel
theorem dX0_init_10 : decode cX0_init 10 = .ok (.iload_n 2, 1) := by decide +kernel
theorem dX0_init_11 : decode cX0_init 11 = .ok (.putfield 15, 3) := by decide +kernel
theorem dX0_init_14 : decode cX0_init 14 = .ok (.aload_n 0, 1) := by decide +kernel
theorem dX0_init_15 : decode cX0_init 15 = .ok (.iload_n 3, 1) := by decide +kernel
theorem dX0_init_16 : decode cX0_init 16 = .ok (.putfield 18, 3) := by decide +kernel
theorem dX0_init_19 : decode cX0_init 19 = .ok (.aload_n 0, 1) := by decide +kernel
theorem dX0_init_20 : decode cX0_init 20 = .ok (.iload 4, 2) := by decide +kernel
theorem dX0_init_22 : decode cX0_init 22 = .ok (.putfield 21, 3) := by decide +kernel
theorem dX0_init_25 : decode cX0_init 25 = .ok (.aload_n 0, 1) := by decide +kernel
theorem dX0_init_26 : decode cX0_init 26 = .ok (.iload 5, 2) := by decide +kernel
theorem dX0_init_28 : decode cX0_init 28 = .ok (.putfield 24, 3) := by decide +kernel
theorem dX0_init_31 : decode cX0_init 31 = .ok (.aload_n 0, 1) := by decide +kernel
theorem dX0_init_32 : decode cX0_init 32 = .ok (.iload 6, 2) := by decide +kernel
theorem dX0_init_34 : decode cX0_init 34 = .ok (.putfield 27, 3) := by decide +kernel
theorem dX0_init_37 : decode cX0_init 37 = .ok (.aload_n 0, 1) := by decide +kernel
theorem dX0_init_38 : decode cX0_init 38 = .ok (.iload 7, 2) := by decide +kernel
theorem dX0_init_40 : decode cX0_init 40 = .ok (.putfield 30, 3) := by decide +kernel
theorem dX0_init_43 : decode cX0_init 43 = .ok (.aload_n 0, 1) := by decide +kernel
theorem dX0_init_44 : decode cX0_init 44 = .ok (.bipush 10, 2) := by decide +kernel
theorem dX0_init_46 : decode cX0_init 46 = .ok (.newarray .int, 2) := by decide +kernel
theorem dX0_init_48 : decode cX0_init 48 = .ok (.putfield 33, 3) := by decide +kernel
theorem dX0_init_51 : decode cX0_init 51 = .ok (.aload_n 0, 1) := by decide +kernel
theorem dX0_init_52 : decode cX0_init 52 = .ok (.new 37, 3) := by decide +kernel
theorem dX0_init_55 : decode cX0_init 55 = .ok (.dup, 1) := by decide +kernel
theorem dX0_init_56 : decode cX0_init 56 = .ok (.invokespecial 39, 3) := by decide +kernel
theorem dX0_init_59 : decode cX0_init 59 = .ok (.putfield 40, 3) := by decide +kernel
theorem dX0_init_62 : decode cX0_init 62 = .ok (.aload_n 0, 1) := by decide +kernel
theorem dX0_init_63 : decode cX0_init 63 = .ok (.new 44, 3) := by decide +kernel
theorem dX0_init_66 : decode cX0_init 66 = .ok (.dup, 1) := by decide +kernel
theorem dX0_init_67 : decode cX0_init 67 = .ok (.invokespecial 46, 3) := by decide +kernel
theorem dX0_init_70 : decode cX0_init 70 = .ok (.putfield 47, 3) := by decide +kernel
theorem dX0_init_73 : decode cX0_init 73 = .ok (.return_, 1) := by decide +kernel
theorem dX0_yearsOn_0 : decode cX0_yearsOn 0 = .ok (.iload_n 1, 1) := by decide +kernel
theorem dX0_yearsOn_1 : decode cX0_yearsOn 1 = .ok (.aload_n 0, 1) := by decide +kernel
theorem dX0_yearsOn_2 : decode cX0_yearsOn 2 = .ok (.getfield 15, 3) := by decide +kernel
theorem dX0_yearsOn_5 : decode cX0_yearsOn 5 = .ok (.isub, 1) := by decide +kernel
theorem dX0_yearsOn_6 : decode cX0_yearsOn 6 = .ok (.sipush 365, 3) := by decide +kernel
theorem dX0_yearsOn_9 : decode cX0_yearsOn 9 = .ok (.idiv, 1) := by decide +kernel
theorem dX0_yearsOn_10 : decode cX0_yearsOn 10 = .ok (.ireturn, 1) := by decide +kernel
theorem dX0_isIn_0 : decode cX0_isIn 0 = .ok (.aload_n 0, 1) := by decide +kernel
theorem dX0_isIn_1 : decode cX0_isIn 1 = .ok (.getfield 51, 3) := by decide +kernel
theorem dX0_isIn_4 : decode cX0_isIn 4 = .ok (.ifnull 18, 3) := by decide +kernel
theorem dX0_isIn_7 : decode cX0_isIn 7 = .ok (.aload_n 0, 1) := by decide +kernel
theorem dX0_isIn_8 : decode cX0_isIn 8 = .ok (.getfield 51, 3) := by decide +kernel
theorem dX0_isIn_11 : decode cX0_isIn 11 = .ok (.getfield 55, 3) := by decide +kernel
theorem dX0_isIn_14 : decode cX0_isIn 14 = .ok (.aload_n 1, 1) := by decide +kernel
theorem dX0_isIn_15 : decode cX0_isIn 15 = .ok (.if_acmp .ne 7, 3) := by decide +kernel
theorem dX0_isIn_18 : decode cX0_isIn 18 = .ok (.iconst 1, 1) := by decide +kernel
theorem dX0_isIn_19 : decode cX0_isIn 19 = .ok (.goto 4, 3) := by decide +kernel
theorem dX0_isIn_22 : decode cX0_isIn 22 = .ok (.iconst 0, 1) := by decide +kernel
theorem dX0_isIn_23 : decode cX0_isIn 23 = .ok (.ireturn, 1) := by decide +kernel
theorem dX0_orderOn_0 : decode cX0_orderOn 0 = .ok (.aload_n 0, 1) := by decide +kernel
theorem dX0_orderOn_1 : decode cX0_orderOn 1 = .ok (.getfield 61, 3) := by decide +kernel
theorem dX0_orderOn_4 : decode cX0_orderOn 4 = .ok (.astore_n 2, 1) := by decide +kernel
theorem dX0_orderOn_5 : decode cX0_orderOn 5 = .ok (.aload_n 2, 1) := by decide +kernel
theorem dX0_orderOn_6 : decode cX0_orderOn 6 = .ok (.ifnull 19, 3) := by decide +kernel
theorem dX0_orderOn_9 : decode cX0_orderOn 9 = .ok (.aload_n 2, 1) := by decide +kernel
theorem dX0_orderOn_10 : decode cX0_orderOn 10 = .ok (.iload_n 1, 1) := by decide +kernel
theorem dX0_orderOn_11 : decode cX0_orderOn 11 = .ok (.invokevirtual 65, 3) := by decide +kernel
theorem dX0_orderOn_14 : decode cX0_orderOn 14 = .ok (.ifCond .ne 11, 3) := by decide +kernel
theorem dX0_orderOn_17 : decode cX0_orderOn 17 = .ok (.aload_n 2, 1) := by decide +kernel
theorem dX0_orderOn_18 : decode cX0_orderOn 18 = .ok (.getfield 71, 3) := by decide +kernel
theorem dX0_orderOn_21 : decode cX0_orderOn 21 = .ok (.astore_n 2, 1) := by decide +kernel
theorem dX0_orderOn_22 : decode cX0_orderOn 22 = .ok (.goto (-17), 3) := by decide +kernel
theorem dX0_orderOn_25 : decode cX0_orderOn 25 = .ok (.aload_n 2, 1) := by decide +kernel
theorem dX0_orderOn_26 : decode cX0_orderOn 26 = .ok (.areturn, 1) := by decide +kernel
theorem dX0_orderNumberOn_0 : decode cX0_orderNumberOn 0 = .ok (.aload_n 0, 1) := by decide +kernel
theorem dX0_orderNumberOn_1 : decode cX0_orderNumberOn 1 = .ok (.iload_n 1, 1) := by decide +kernel
theorem dX0_orderNumberOn_2 : decode cX0_orderNumberOn 2 = .ok (.invokevirtual 74, 3) := by decide +kernel
theorem dX0_orderNumberOn_5 : decode cX0_orderNumberOn 5 = .ok (.astore_n 2, 1) := by decide +kernel
theorem dX0_orderNumberOn_6 : decode cX0_orderNumberOn 6 = .ok (.aload_n 2, 1) := by decide +kernel
theorem dX0_orderNumberOn_7 : decode cX0_orderNumberOn 7 = .ok (.ifnonnull 7, 3) := by decide +kernel
theorem dX0_orderNumberOn_10 : decode cX0_orderNumberOn 10 = .ok (.iconst (-1), 1) := by decide +kernel
theorem dX0_orderNumberOn_11 : decode cX0_orderNumberOn 11 = .ok (.goto 7, 3) := by decide +kernel
theorem dX0_orderNumberOn_14 : decode cX0_orderNumberOn 14 = .ok (.aload_n 2, 1) := by decide +kernel
theorem dX0_orderNumberOn_15 : decode cX0_orderNumberOn 15 = .ok (.getfield 78, 3) := by decide +kernel
theorem dX0_orderNumberOn_18 : decode cX0_orderNumberOn 18 = .ok (.ireturn, 1) := by decide +kernel
theorem dX0_orderKindOn_0 : decode cX0_orderKindOn 0 = .ok (.aload_n 0, 1) := by decide +kernel
theorem dX0_orderKindOn_1 : decode cX0_orderKindOn 1 = .ok (.iload_n 1, 1) := by decide +kernel
theorem dX0_orderKindOn_2 : decode cX0_orderKindOn 2 = .ok (.invokevirtual 74, 3) := by decide +kernel
theorem dX0_orderKindOn_5 : decode cX0_orderKindOn 5 = .ok (.astore_n 2, 1) := by decide +kernel
theorem dX0_orderKindOn_6 : decode cX0_orderKindOn 6 = .ok (.aload_n 2, 1) := by decide +kernel
theorem dX0_orderKindOn_7 : decode cX0_orderKindOn 7 = .ok (.ifnonnull 7, 3) := by decide +kernel
theorem dX0_orderKindOn_10 : decode cX0_orderKindOn 10 = .ok (.iconst (-1), 1) := by decide +kernel
theorem dX0_orderKindOn_11 : decode cX0_orderKindOn 11 = .ok (.goto 7, 3) := by decide +kernel
theorem dX0_orderKindOn_14 : decode cX0_orderKindOn 14 = .ok (.aload_n 2, 1) := by decide +kernel
theorem dX0_orderKindOn_15 : decode cX0_orderKindOn 15 = .ok (.getfield 79, 3) := by decide +kernel
theorem dX0_orderKindOn_18 : decode cX0_orderKindOn 18 = .ok (.ireturn, 1) := by decide +kernel
theorem dX0_tellWish_0 : decode cX0_tellWish 0 = .ok (.iload_n 1, 1) := by decide +kernel
theorem dX0_tellWish_1 : decode cX0_tellWish 1 = .ok (.ifCond .lt 12, 3) := by decide +kernel
theorem dX0_tellWish_4 : decode cX0_tellWish 4 = .ok (.iload_n 1, 1) := by decide +kernel
theorem dX0_tellWish_5 : decode cX0_tellWish 5 = .ok (.aload_n 0, 1) := by decide +kernel
theorem dX0_tellWish_6 : decode cX0_tellWish 6 = .ok (.getfield 33, 3) := by decide +kernel
theorem dX0_tellWish_9 : decode cX0_tellWish 9 = .ok (.arraylength, 1) := by decide +kernel
theorem dX0_tellWish_10 : decode cX0_tellWish 10 = .ok (.if_icmp .lt 4, 3) := by decide +kernel
theorem dX0_tellWish_13 : decode cX0_tellWish 13 = .ok (.return_, 1) := by decide +kernel
theorem dX0_tellWish_14 : decode cX0_tellWish 14 = .ok (.iload_n 2, 1) := by decide +kernel
theorem dX0_tellWish_15 : decode cX0_tellWish 15 = .ok (.ifCond .eq 13, 3) := by decide +kernel
theorem dX0_tellWish_18 : decode cX0_tellWish 18 = .ok (.aload_n 0, 1) := by decide +kernel
theorem dX0_tellWish_19 : decode cX0_tellWish 19 = .ok (.getfield 33, 3) := by decide +kernel
theorem dX0_tellWish_22 : decode cX0_tellWish 22 = .ok (.iload_n 1, 1) := by decide +kernel
theorem dX0_tellWish_23 : decode cX0_tellWish 23 = .ok (.iconst 1, 1) := by decide +kernel
theorem dX0_tellWish_24 : decode cX0_tellWish 24 = .ok (.iastore, 1) := by decide +kernel
theorem dX0_tellWish_25 : decode cX0_tellWish 25 = .ok (.goto 24, 3) := by decide +kernel
theorem dX0_tellWish_28 : decode cX0_tellWish 28 = .ok (.aload_n 0, 1) := by decide +kernel
theorem dX0_tellWish_29 : decode cX0_tellWish 29 = .ok (.getfield 33, 3) := by decide +kernel
theorem dX0_tellWish_32 : decode cX0_tellWish 32 = .ok (.iload_n 1, 1) := by decide +kernel
theorem dX0_tellWish_33 : decode cX0_tellWish 33 = .ok (.aload_n 0, 1) := by decide +kernel
theorem dX0_tellWish_34 : decode cX0_tellWish 34 = .ok (.iload_n 3, 1) := by decide +kernel
theorem dX0_tellWish_35 : decode cX0_tellWish 35 = .ok (.invokevirtual 82, 3) := by decide +kernel
theorem dX0_tellWish_38 : decode cX0_tellWish 38 = .ok (.bipush 12, 2) := by decide +kernel
theorem dX0_tellWish_40 : decode cX0_tellWish 40 = .ok (.if_icmp .lt 7, 3) := by decide +kernel
theorem dX0_tellWish_43 : decode cX0_tellWish 43 = .ok (.iconst 3, 1) := by decide +kernel
theorem dX0_tellWish_44 : decode cX0_tellWish 44 = .ok (.goto 4, 3) := by decide +kernel
theorem dX0_tellWish_47 : decode cX0_tellWish 47 = .ok (.iconst 2, 1) := by decide +kernel
theorem dX0_tellWish_48 : decode cX0_tellWish 48 = .ok (.iastore, 1) := by decide +kernel
theorem dX0_tellWish_49 : decode cX0_tellWish 49 = .ok (.return_, 1) := by decide +kernel
theorem dX0_wishAbout_0 : decode cX0_wishAbout 0 = .ok (.iload_n 1, 1) := by decide +kernel
theorem dX0_wishAbout_1 : decode cX0_wishAbout 1 = .ok (.ifCond .lt 21, 3) := by decide +kernel
theorem dX0_wishAbout_4 : decode cX0_wishAbout 4 = .ok (.iload_n 1, 1) := by decide +kernel
theorem dX0_wishAbout_5 : decode cX0_wishAbout 5 = .ok (.aload_n 0, 1) := by decide +kernel
theorem dX0_wishAbout_6 : decode cX0_wishAbout 6 = .ok (.getfield 33, 3) := by decide +kernel
theorem dX0_wishAbout_9 : decode cX0_wishAbout 9 = .ok (.arraylength, 1) := by decide +kernel
theorem dX0_wishAbout_10 : decode cX0_wishAbout 10 = .ok (.if_icmp .ge 12, 3) := by decide +kernel
theorem dX0_wishAbout_13 : decode cX0_wishAbout 13 = .ok (.aload_n 0, 1) := by decide +kernel
theorem dX0_wishAbout_14 : decode cX0_wishAbout 14 = .ok (.getfield 33, 3) := by decide +kernel
theorem dX0_wishAbout_17 : decode cX0_wishAbout 17 = .ok (.iload_n 1, 1) := by decide +kernel
theorem dX0_wishAbout_18 : decode cX0_wishAbout 18 = .ok (.iaload, 1) := by decide +kernel
theorem dX0_wishAbout_19 : decode cX0_wishAbout 19 = .ok (.goto 4, 3) := by decide +kernel
theorem dX0_wishAbout_22 : decode cX0_wishAbout 22 = .ok (.iconst 0, 1) := by decide +kernel
theorem dX0_wishAbout_23 : decode cX0_wishAbout 23 = .ok (.ireturn, 1) := by decide +kernel
theorem dX0_refuses_0 : decode cX0_refuses 0 = .ok (.aload_n 0, 1) := by decide +kernel
theorem dX0_refuses_1 : decode cX0_refuses 1 = .ok (.iload_n 1, 1) := by decide +kernel
theorem dX0_refuses_2 : decode cX0_refuses 2 = .ok (.invokevirtual 86, 3) := by decide +kernel
theorem dX0_refuses_5 : decode cX0_refuses 5 = .ok (.iconst 3, 1) := by decide +kernel
theorem dX0_refuses_6 : decode cX0_refuses 6 = .ok (.if_icmp .ne 7, 3) := by decide +kernel
theorem dX0_refuses_9 : decode cX0_refuses 9 = .ok (.iconst 1, 1) := by decide +kernel
theorem dX0_refuses_10 : decode cX0_refuses 10 = .ok (.goto 4, 3) := by decide +kernel
theorem dX0_refuses_13 : decode cX0_refuses 13 = .ok (.iconst 0, 1) := by decide +kernel
theorem dX0_refuses_14 : decode cX0_refuses 14 = .ok (.ireturn, 1) := by decide +kernel
theorem dX0_wishWorth_0 : decode cX0_wishWorth 0 = .ok (.aload_n 0, 1) := by decide +kernel
theorem dX0_wishWorth_1 : decode cX0_wishWorth 1 = .ok (.iload_n 1, 1) := by decide +kernel
theorem dX0_wishWorth_2 : decode cX0_wishWorth 2 = .ok (.invokevirtual 86, 3) := by decide +kernel
theorem dX0_wishWorth_5 : decode cX0_wishWorth 5 = .ok (.istore_n 2, 1) := by decide +kernel
theorem dX0_wishWorth_6 : decode cX0_wishWorth 6 = .ok (.iload_n 2, 1) := by decide +kernel
theorem dX0_wishWorth_7 : decode cX0_wishWorth 7 = .ok (.ifCond .ne 5, 3) := by decide +kernel
theorem dX0_wishWorth_10 : decode cX0_wishWorth 10 = .ok (.iconst 0, 1) := by decide +kernel
theorem dX0_wishWorth_11 : decode cX0_wishWorth 11 = .ok (.ireturn, 1) := by decide +kernel
theorem dX0_wishWorth_12 : decode cX0_wishWorth 12 = .ok (.iload_n 2, 1) := by decide +kernel
theorem dX0_wishWorth_13 : decode cX0_wishWorth 13 = .ok (.iconst 1, 1) := by decide +kernel
theorem dX0_wishWorth_14 : decode cX0_wishWorth 14 = .ok (.if_icmp .ne 8, 3) := by decide +kernel
theorem dX0_wishWorth_17 : decode cX0_wishWorth 17 = .ok (.bipush 8, 2) := by decide +kernel
theorem dX0_wishWorth_19 : decode cX0_wishWorth 19 = .ok (.goto 5, 3) := by decide +kernel
theorem dX0_wishWorth_22 : decode cX0_wishWorth 22 = .ok (.bipush (-8), 2) := by decide +kernel
theorem dX0_wishWorth_24 : decode cX0_wishWorth 24 = .ok (.ireturn, 1) := by decide +kernel
theorem dX0_beginStay_0 : decode cX0_beginStay 0 = .ok (.aload_n 0, 1) := by decide +kernel
theorem dX0_beginStay_1 : decode cX0_beginStay 1 = .ok (.aload_n 1, 1) := by decide +kernel
theorem dX0_beginStay_2 : decode cX0_beginStay 2 = .ok (.putfield 51, 3) := by decide +kernel
theorem dX0_beginStay_5 : decode cX0_beginStay 5 = .ok (.aload_n 0, 1) := by decide +kernel
theorem dX0_beginStay_6 : decode cX0_beginStay 6 = .ok (.dup, 1) := by decide +kernel
theorem dX0_beginStay_7 : decode cX0_beginStay 7 = .ok (.getfield 89, 3) := by decide +kernel
theorem dX0_beginStay_10 : decode cX0_beginStay 10 = .ok (.iconst 1, 1) := by decide +kernel
theorem dX0_beginStay_11 : decode cX0_beginStay 11 = .ok (.iadd, 1) := by decide +kernel
theorem dX0_beginStay_12 : decode cX0_beginStay 12 = .ok (.putfield 89, 3) := by decide +kernel
theorem dX0_beginStay_15 : decode cX0_beginStay 15 = .ok (.aload_n 0, 1) := by decide +kernel
theorem dX0_beginStay_16 : decode cX0_beginStay 16 = .ok (.getfield 47, 3) := by decide +kernel
theorem dX0_beginStay_19 : decode cX0_beginStay 19 = .ok (.iconst 0, 1) := by decide +kernel
theorem dX0_beginStay_20 : decode cX0_beginStay 20 = .ok (.putfield 92, 3) := by decide +kernel
theorem dX0_beginStay_23 : decode cX0_beginStay 23 = .ok (.return_, 1) := by decide +kernel
theorem dX0_endStay_0 : decode cX0_endStay 0 = .ok (.aload_n 0, 1) := by decide +kernel
theorem dX0_endStay_1 : decode cX0_endStay 1 = .ok (.getfield 51, 3) := by decide +kernel
theorem dX0_endStay_4 : decode cX0_endStay 4 = .ok (.ifnull 16, 3) := by decide +kernel
theorem dX0_endStay_7 : decode cX0_endStay 7 = .ok (.aload_n 0, 1) := by decide +kernel
theorem dX0_endStay_8 : decode cX0_endStay 8 = .ok (.getfield 51, 3) := by decide +kernel
theorem dX0_endStay_11 : decode cX0_endStay 11 = .ok (.iload_n 1, 1) := by decide +kernel
theorem dX0_endStay_12 : decode cX0_endStay 12 = .ok (.putfield 96, 3) := by decide +kernel
theorem dX0_endStay_15 : decode cX0_endStay 15 = .ok (.aload_n 0, 1) := by decide +kernel
theorem dX0_endStay_16 : decode cX0_endStay 16 = .ok (.aconst_null, 1) := by decide +kernel
theorem dX0_endStay_17 : decode cX0_endStay 17 = .ok (.putfield 51, 3) := by decide +kernel
theorem dX0_endStay_20 : decode cX0_endStay 20 = .ok (.return_, 1) := by decide +kernel
theorem dX0_beginDay_0 : decode cX0_beginDay 0 = .ok (.aload_n 0, 1) := by decide +kernel
theorem dX0_beginDay_1 : decode cX0_beginDay 1 = .ok (.getfield 51, 3) := by decide +kernel
theorem dX0_beginDay_4 : decode cX0_beginDay 4 = .ok (.ifnonnull 4, 3) := by decide +kernel
theorem dX0_beginDay_7 : decode cX0_beginDay 7 = .ok (.return_, 1) := by decide +kernel
theorem dX0_beginDay_8 : decode cX0_beginDay 8 = .ok (.aload_n 0, 1) := by decide +kernel
theorem dX0_beginDay_9 : decode cX0_beginDay 9 = .ok (.iload_n 1, 1) := by decide +kernel
theorem dX0_beginDay_10 : decode cX0_beginDay 10 = .ok (.invokevirtual 99, 3) := by decide +kernel
theorem dX0_beginDay_13 : decode cX0_beginDay 13 = .ok (.istore_n 2, 1) := by decide +kernel
theorem dX0_beginDay_14 : decode cX0_beginDay 14 = .ok (.iload_n 2, 1) := by decide +kernel
theorem dX0_beginDay_15 : decode cX0_beginDay 15 = .ok (.ifCond .eq 16, 3) := by decide +kernel
theorem dX0_beginDay_18 : decode cX0_beginDay 18 = .ok (.iload_n 2, 1) := by decide +kernel
theorem dX0_beginDay_19 : decode cX0_beginDay 19 = .ok (.iconst 2, 1) := by decide +kernel
theorem dX0_beginDay_20 : decode cX0_beginDay 20 = .ok (.if_icmp .eq 11, 3) := by decide +kernel
theorem dX0_beginDay_23 : decode cX0_beginDay 23 = .ok (.aload_n 0, 1) := by decide +kernel
theorem dX0_beginDay_24 : decode cX0_beginDay 24 = .ok (.iload_n 1, 1) := by decide +kernel
theorem dX0_beginDay_25 : decode cX0_beginDay 25 = .ok (.invokevirtual 102, 3) := by decide +kernel
theorem dX0_beginDay_28 : decode cX0_beginDay 28 = .ok (.goto 19, 3) := by decide +kernel
theorem dX0_beginDay_31 : decode cX0_beginDay 31 = .ok (.aload_n 0, 1) := by decide +kernel
theorem dX0_beginDay_32 : decode cX0_beginDay 32 = .ok (.getfield 47, 3) := by decide +kernel
theorem dX0_beginDay_35 : decode cX0_beginDay 35 = .ok (.iload_n 1, 1) := by decide +kernel
theorem dX0_beginDay_36 : decode cX0_beginDay 36 = .ok (.aload_n 0, 1) := by decide +kernel
theorem dX0_beginDay_37 : decode cX0_beginDay 37 = .ok (.getfield 51, 3) := by decide +kernel
theorem dX0_beginDay_40 : decode cX0_beginDay 40 = .ok (.getfield 106, 3) := by decide +kernel
theorem dX0_beginDay_43 : decode cX0_beginDay 43 = .ok (.isub, 1) := by decide +kernel
theorem dX0_beginDay_44 : decode cX0_beginDay 44 = .ok (.invokevirtual 109, 3) := by decide +kernel
theorem dX0_beginDay_47 : decode cX0_beginDay 47 = .ok (.return_, 1) := by decide +kernel
theorem dX1_init_0 : decode cX1_init 0 = .ok (.aload_n 0, 1) := by decide +kernel
theorem dX1_init_1 : decode cX1_init 1 = .ok (.invokespecial 1, 3) := by decide +kernel
theorem dX1_init_4 : decode cX1_init 4 = .ok (.return_, 1) := by decide +kernel
theorem dX1_beginDay_0 : decode cX1_beginDay 0 = .ok (.aload_n 0, 1) := by decide +kernel
theorem dX1_beginDay_1 : decode cX1_beginDay 1 = .ok (.getfield 7, 3) := by decide +kernel
theorem dX1_beginDay_4 : decode cX1_beginDay 4 = .ok (.ifCond .le 21, 3) := by decide +kernel
theorem dX1_beginDay_7 : decode cX1_beginDay 7 = .ok (.iload_n 1, 1) := by decide +kernel
theorem dX1_beginDay_8 : decode cX1_beginDay 8 = .ok (.aload_n 0, 1) := by decide +kernel
theorem dX1_beginDay_9 : decode cX1_beginDay 9 = .ok (.getfield 7, 3) := by decide +kernel
theorem dX1_beginDay_12 : decode cX1_beginDay 12 = .ok (.irem, 1) := by decide +kernel
theorem dX1_beginDay_13 : decode cX1_beginDay 13 = .ok (.ifCond .ne 12, 3) := by decide +kernel
theorem dX1_beginDay_16 : decode cX1_beginDay 16 = .ok (.aload_n 0, 1) := by decide +kernel
theorem dX1_beginDay_17 : decode cX1_beginDay 17 = .ok (.invokevirtual 13, 3) := by decide +kernel
theorem dX1_beginDay_20 : decode cX1_beginDay 20 = .ok (.aload_n 0, 1) := by decide +kernel
theorem dX1_beginDay_21 : decode cX1_beginDay 21 = .ok (.iconst 0, 1) := by decide +kernel
theorem dX1_beginDay_22 : decode cX1_beginDay 22 = .ok (.putfield 16, 3) := by decide +kernel
theorem dX1_beginDay_25 : decode cX1_beginDay 25 = .ok (.return_, 1) := by decide +kernel
theorem dX1_countVisit_0 : decode cX1_countVisit 0 = .ok (.aload_n 0, 1) := by decide +kernel
theorem dX1_countVisit_1 : decode cX1_countVisit 1 = .ok (.getfield 16, 3) := by decide +kernel
theorem dX1_countVisit_4 : decode cX1_countVisit 4 = .ok (.ifCond .eq 31, 3) := by decide +kernel
theorem dX1_countVisit_7 : decode cX1_countVisit 7 = .ok (.aload_n 0, 1) := by decide +kernel
theorem dX1_countVisit_8 : decode cX1_countVisit 8 = .ok (.dup, 1) := by decide +kernel
theorem dX1_countVisit_9 : decode cX1_countVisit 9 = .ok (.getfield 20, 3) := by decide +kernel
theorem dX1_countVisit_12 : decode cX1_countVisit 12 = .ok (.iconst 1, 1) := by decide +kernel
theorem dX1_countVisit_13 : decode cX1_countVisit 13 = .ok (.iadd, 1) := by decide +kernel
theorem dX1_countVisit_14 : decode cX1_countVisit 14 = .ok (.putfield 20, 3) := by decide +kernel
theorem dX1_countVisit_17 : decode cX1_countVisit 17 = .ok (.aload_n 0, 1) := by decide +kernel
theorem dX1_countVisit_18 : decode cX1_countVisit 18 = .ok (.dup, 1) := by decide +kernel
theorem dX1_countVisit_19 : decode cX1_countVisit 19 = .ok (.getfield 23, 3) := by decide +kernel
theorem dX1_countVisit_22 : decode cX1_countVisit 22 = .ok (.iconst 1, 1) := by decide +kernel
theorem dX1_countVisit_23 : decode cX1_countVisit 23 = .ok (.iadd, 1) := by decide +kernel
theorem dX1_countVisit_24 : decode cX1_countVisit 24 = .ok (.putfield 23, 3) := by decide +kernel
theorem dX1_countVisit_27 : decode cX1_countVisit 27 = .ok (.aload_n 0, 1) := by decide +kernel
theorem dX1_countVisit_28 : decode cX1_countVisit 28 = .ok (.iconst 0, 1) := by decide +kernel
theorem dX1_countVisit_29 : decode cX1_countVisit 29 = .ok (.putfield 26, 3) := by decide +kernel
theorem dX1_countVisit_32 : decode cX1_countVisit 32 = .ok (.goto 28, 3) := by decide +kernel
theorem dX1_countVisit_35 : decode cX1_countVisit 35 = .ok (.aload_n 0, 1) := by decide +kernel
theorem dX1_countVisit_36 : decode cX1_countVisit 36 = .ok (.dup, 1) := by decide +kernel
theorem dX1_countVisit_37 : decode cX1_countVisit 37 = .ok (.getfield 29, 3) := by decide +kernel
theorem dX1_countVisit_40 : decode cX1_countVisit 40 = .ok (.iconst 1, 1) := by decide +kernel
theorem dX1_countVisit_41 : decode cX1_countVisit 41 = .ok (.iadd, 1) := by decide +kernel
theorem dX1_countVisit_42 : decode cX1_countVisit 42 = .ok (.putfield 29, 3) := by decide +kernel
theorem dX1_countVisit_45 : decode cX1_countVisit 45 = .ok (.aload_n 0, 1) := by decide +kernel
theorem dX1_countVisit_46 : decode cX1_countVisit 46 = .ok (.dup, 1) := by decide +kernel
theorem dX1_countVisit_47 : decode cX1_countVisit 47 = .ok (.getfield 26, 3) := by decide +kernel
theorem dX1_countVisit_50 : decode cX1_countVisit 50 = .ok (.iconst 1, 1) := by decide +kernel
theorem dX1_countVisit_51 : decode cX1_countVisit 51 = .ok (.iadd, 1) := by decide +kernel
theorem dX1_countVisit_52 : decode cX1_countVisit 52 = .ok (.putfield 26, 3) := by decide +kernel
theorem dX1_countVisit_55 : decode cX1_countVisit 55 = .ok (.aload_n 0, 1) := by decide +kernel
theorem dX1_countVisit_56 : decode cX1_countVisit 56 = .ok (.iconst 0, 1) := by decide +kernel
theorem dX1_countVisit_57 : decode cX1_countVisit 57 = .ok (.putfield 23, 3) := by decide +kernel
theorem dX1_countVisit_60 : decode cX1_countVisit 60 = .ok (.aload_n 0, 1) := by decide +kernel
theorem dX1_countVisit_61 : decode cX1_countVisit 61 = .ok (.getfield 26, 3) := by decide +kernel
theorem dX1_countVisit_64 : decode cX1_countVisit 64 = .ok (.iconst 3, 1) := by decide +kernel
theorem dX1_countVisit_65 : decode cX1_countVisit 65 = .ok (.if_icmp .lt 11, 3) := by decide +kernel
theorem dX1_countVisit_68 : decode cX1_countVisit 68 = .ok (.aload_n 0, 1) := by decide +kernel
theorem dX1_countVisit_69 : decode cX1_countVisit 69 = .ok (.iconst 1, 1) := by decide +kernel
theorem dX1_countVisit_70 : decode cX1_countVisit 70 = .ok (.putfield 32, 3) := by decide +kernel
theorem dX1_countVisit_73 : decode cX1_countVisit 73 = .ok (.goto 16, 3) := by decide +kernel
theorem dX1_countVisit_76 : decode cX1_countVisit 76 = .ok (.aload_n 0, 1) := by decide +kernel
theorem dX1_countVisit_77 : decode cX1_countVisit 77 = .ok (.getfield 23, 3) := by decide +kernel
theorem dX1_countVisit_80 : decode cX1_countVisit 80 = .ok (.iconst 3, 1) := by decide +kernel
theorem dX1_countVisit_81 : decode cX1_countVisit 81 = .ok (.if_icmp .lt 8, 3) := by decide +kernel
theorem dX1_countVisit_84 : decode cX1_countVisit 84 = .ok (.aload_n 0, 1) := by decide +kernel
theorem dX1_countVisit_85 : decode cX1_countVisit 85 = .ok (.iconst 0, 1) := by decide +kernel
theorem dX1_countVisit_86 : decode cX1_countVisit 86 = .ok (.putfield 32, 3) := by decide +kernel
theorem dX1_countVisit_89 : decode cX1_countVisit 89 = .ok (.return_, 1) := by decide +kernel
theorem dX2_init_0 : decode cX2_init 0 = .ok (.aload_n 0, 1) := by decide +kernel
theorem dX2_init_1 : decode cX2_init 1 = .ok (.invokespecial 1, 3) := by decide +kernel
theorem dX2_init_4 : decode cX2_init 4 = .ok (.aload_n 0, 1) := by decide +kernel
theorem dX2_init_5 : decode cX2_init 5 = .ok (.iload_n 1, 1) := by decide +kernel
theorem dX2_init_6 : decode cX2_init 6 = .ok (.putfield 7, 3) := by decide +kernel
theorem dX2_init_9 : decode cX2_init 9 = .ok (.aload_n 0, 1) := by decide +kernel
theorem dX2_init_10 : decode cX2_init 10 = .ok (.iload_n 2, 1) := by decide +kernel
theorem dX2_init_11 : decode cX2_init 11 = .ok (.putfield 13, 3) := by decide +kernel
theorem dX2_init_14 : decode cX2_init 14 = .ok (.aload_n 0, 1) := by decide +kernel
theorem dX2_init_15 : decode cX2_init 15 = .ok (.iload_n 3, 1) := by decide +kernel
theorem dX2_init_16 : decode cX2_init 16 = .ok (.putfield 16, 3) := by decide +kernel
theorem dX2_init_19 : decode cX2_init 19 = .ok (.aload_n 0, 1) := by decide +kernel
theorem dX2_init_20 : decode cX2_init 20 = .ok (.iload 4, 2) := by decide +kernel
theorem dX2_init_22 : decode cX2_init 22 = .ok (.putfield 19, 3) := by decide +kernel
theorem dX2_init_25 : decode cX2_init 25 = .ok (.return_, 1) := by decide +kernel
theorem dX2_isTrainedFor_0 : decode cX2_isTrainedFor 0 = .ok (.aload_n 0, 1) := by decide +kernel
theorem dX2_isTrainedFor_1 : decode cX2_isTrainedFor 1 = .ok (.getfield 22, 3) := by decide +kernel
theorem dX2_isTrainedFor_4 : decode cX2_isTrainedFor 4 = .ok (.iload_n 2, 1) := by decide +kernel
theorem dX2_isTrainedFor_5 : decode cX2_isTrainedFor 5 = .ok (.invokestatic 26, 3) := by decide +kernel
theorem dX2_isTrainedFor_8 : decode cX2_isTrainedFor 8 = .ok (.astore_n 3, 1) := by decide +kernel
theorem dX2_isTrainedFor_9 : decode cX2_isTrainedFor 9 = .ok (.aload_n 3, 1) := by decide +kernel
theorem dX2_isTrainedFor_10 : decode cX2_isTrainedFor 10 = .ok (.ifnull 18, 3) := by decide +kernel
theorem dX2_isTrainedFor_13 : decode cX2_isTrainedFor 13 = .ok (.aload_n 3, 1) := by decide +kernel
theorem dX2_isTrainedFor_14 : decode cX2_isTrainedFor 14 = .ok (.iload_n 2, 1) := by decide +kernel
theorem dX2_isTrainedFor_15 : decode cX2_isTrainedFor 15 = .ok (.invokevirtual 32, 3) := by decide +kernel
theorem dX2_isTrainedFor_18 : decode cX2_isTrainedFor 18 = .ok (.ifCond .eq 10, 3) := by decide +kernel
theorem dX2_isTrainedFor_21 : decode cX2_isTrainedFor 21 = .ok (.aload_n 3, 1) := by decide +kernel
theorem dX2_isTrainedFor_22 : decode cX2_isTrainedFor 22 = .ok (.getfield 36, 3) := by decide +kernel
theorem dX2_isTrainedFor_25 : decode cX2_isTrainedFor 25 = .ok (.goto 4, 3) := by decide +kernel
theorem dX2_isTrainedFor_28 : decode cX2_isTrainedFor 28 = .ok (.iconst 0, 1) := by decide +kernel
theorem dX2_isTrainedFor_29 : decode cX2_isTrainedFor 29 = .ok (.istore 4, 2) := by decide +kernel
theorem dX2_isTrainedFor_31 : decode cX2_isTrainedFor 31 = .ok (.iload_n 1, 1) := by decide +kernel
theorem dX2_isTrainedFor_32 : decode cX2_isTrainedFor 32 = .ok (.iload 4, 2) := by decide +kernel
theorem dX2_isTrainedFor_34 : decode cX2_isTrainedFor 34 = .ok (.iconst (-1), 1) := by decide +kernel
theorem dX2_isTrainedFor_35 : decode cX2_isTrainedFor 35 = .ok (.ixor, 1) := by decide +kernel
theorem dX2_isTrainedFor_36 : decode cX2_isTrainedFor 36 = .ok (.iand, 1) := by decide +kernel
theorem dX2_isTrainedFor_37 : decode cX2_isTrainedFor 37 = .ok (.ifCond .ne 7, 3) := by decide +kernel
theorem dX2_isTrainedFor_40 : decode cX2_isTrainedFor 40 = .ok (.iconst 1, 1) := by decide +kernel
theorem dX2_isTrainedFor_41 : decode cX2_isTrainedFor 41 = .ok (.goto 4, 3) := by decide +kernel
theorem dX2_isTrainedFor_44 : decode cX2_isTrainedFor 44 = .ok (.iconst 0, 1) := by decide +kernel
theorem dX2_isTrainedFor_45 : decode cX2_isTrainedFor 45 = .ok (.ireturn, 1) := by decide +kernel
theorem dX2_restsOn_0 : decode cX2_restsOn 0 = .ok (.aload_n 0, 1) := by decide +kernel
theorem dX2_restsOn_1 : decode cX2_restsOn 1 = .ok (.getfield 39, 3) := by decide +kernel
theorem dX2_restsOn_4 : decode cX2_restsOn 4 = .ok (.iload_n 1, 1) := by decide +kernel
theorem dX2_restsOn_5 : decode cX2_restsOn 5 = .ok (.invokestatic 26, 3) := by decide +kernel
theorem dX2_restsOn_8 : decode cX2_restsOn 8 = .ok (.astore_n 2, 1) := by decide +kernel
theorem dX2_restsOn_9 : decode cX2_restsOn 9 = .ok (.aload_n 2, 1) := by decide +kernel
theorem dX2_restsOn_10 : decode cX2_restsOn 10 = .ok (.ifnull 15, 3) := by decide +kernel
theorem dX2_restsOn_13 : decode cX2_restsOn 13 = .ok (.aload_n 2, 1) := by decide +kernel
theorem dX2_restsOn_14 : decode cX2_restsOn 14 = .ok (.iload_n 1, 1) := by decide +kernel
theorem dX2_restsOn_15 : decode cX2_restsOn 15 = .ok (.invokevirtual 32, 3) := by decide +kernel
theorem dX2_restsOn_18 : decode cX2_restsOn 18 = .ok (.ifCond .eq 7, 3) := by decide +kernel
theorem dX2_restsOn_21 : decode cX2_restsOn 21 = .ok (.iconst 1, 1) := by decide +kernel
theorem dX2_restsOn_22 : decode cX2_restsOn 22 = .ok (.goto 4, 3) := by decide +kernel
theorem dX2_restsOn_25 : decode cX2_restsOn 25 = .ok (.iconst 0, 1) := by decide +kernel
theorem dX2_restsOn_26 : decode cX2_restsOn 26 = .ok (.ireturn, 1) := by decide +kernel
theorem dX3_init_0 : decode cX3_init 0 = .ok (.aload_n 0, 1) := by decide +kernel
theorem dX3_init_1 : decode cX3_init 1 = .ok (.invokespecial 1, 3) := by decide +kernel
theorem dX3_init_4 : decode cX3_init 4 = .ok (.aload_n 0, 1) := by decide +kernel
theorem dX3_init_5 : decode cX3_init 5 = .ok (.iload_n 1, 1) := by decide +kernel
theorem dX3_init_6 : decode cX3_init 6 = .ok (.putfield 7, 3) := by decide +kernel
theorem dX3_init_9 : decode cX3_init 9 = .ok (.aload_n 0, 1) := by decide +kernel
theorem dX3_init_10 : decode cX3_init 10 = .ok (.iload_n 2, 1) := by decide +kernel
theorem dX3_init_11 : decode cX3_init 11 = .ok (.putfield 13, 3) := by decide +kernel
theorem dX3_init_14 : decode cX3_init 14 = .ok (.aload_n 0, 1) := by decide +kernel
theorem dX3_init_15 : decode cX3_init 15 = .ok (.iload_n 3, 1) := by decide +kernel
theorem dX3_init_16 : decode cX3_init 16 = .ok (.putfield 16, 3) := by decide +kernel
theorem dX3_init_19 : decode cX3_init 19 = .ok (.aload_n 0, 1) := by decide +kernel
theorem dX3_init_20 : decode cX3_init 20 = .ok (.iload 4, 2) := by decide +kernel
theorem dX3_init_22 : decode cX3_init 22 = .ok (.putfield 19, 3) := by decide +kernel
theorem dX3_init_25 : decode cX3_init 25 = .ok (.aload_n 0, 1) := by decide +kernel
theorem dX3_init_26 : decode cX3_init 26 = .ok (.aload 5, 2) := by decide +kernel
theorem dX3_init_28 : decode cX3_init 28 = .ok (.putfield 22, 3) := by decide +kernel
theorem dX3_init_31 : decode cX3_init 31 = .ok (.return_, 1) := by decide +kernel
theorem dX3_holdsOn_0 : decode cX3_holdsOn 0 = .ok (.aload_n 0, 1) := by decide +kernel
theorem dX3_holdsOn_1 : decode cX3_holdsOn 1 = .ok (.getfield 16, 3) := by decide +kernel
theorem dX3_holdsOn_4 : decode cX3_holdsOn 4 = .ok (.iload_n 1, 1) := by decide +kernel
theorem dX3_holdsOn_5 : decode cX3_holdsOn 5 = .ok (.if_icmp .gt 15, 3) := by decide +kernel
theorem dX3_holdsOn_8 : decode cX3_holdsOn 8 = .ok (.iload_n 1, 1) := by decide +kernel
theorem dX3_holdsOn_9 : decode cX3_holdsOn 9 = .ok (.aload_n 0, 1) := by decide +kernel
theorem dX3_holdsOn_10 : decode cX3_holdsOn 10 = .ok (.getfield 19, 3) := by decide +kernel
theorem dX3_holdsOn_13 : decode cX3_holdsOn 13 = .ok (.if_icmp .ge 7, 3) := by decide +kernel
theorem dX3_holdsOn_16 : decode cX3_holdsOn 16 = .ok (.iconst 1, 1) := by decide +kernel
theorem dX3_holdsOn_17 : decode cX3_holdsOn 17 = .ok (.goto 4, 3) := by decide +kernel
theorem dX3_holdsOn_20 : decode cX3_holdsOn 20 = .ok (.iconst 0, 1) := by decide +kernel
theorem dX3_holdsOn_21 : decode cX3_holdsOn 21 = .ok (.ireturn, 1) := by decide +kernel
theorem dX4_init_0 : decode cX4_init 0 = .ok (.aload_n 0, 1) := by decide +kernel
theorem dX4_init_1 : decode cX4_init 1 = .ok (.invokespecial 3, 3) := by decide +kernel
theorem dX4_init_4 : decode cX4_init 4 = .ok (.aload_n 0, 1) := by decide +kernel
theorem dX4_init_5 : decode cX4_init 5 = .ok (.iconst 5, 1) := by decide +kernel
theorem dX4_init_6 : decode cX4_init 6 = .ok (.anewarray 9, 3) := by decide +kernel
theorem dX4_init_9 : decode cX4_init 9 = .ok (.putfield 11, 3) := by decide +kernel
theorem dX4_init_12 : decode cX4_init 12 = .ok (.aload_n 0, 1) := by decide +kernel
theorem dX4_init_13 : decode cX4_init 13 = .ok (.iconst 5, 1) := by decide +kernel
theorem dX4_init_14 : decode cX4_init 14 = .ok (.newarray .int, 2) := by decide +kernel
theorem dX4_init_16 : decode cX4_init 16 = .ok (.putfield 17, 3) := by decide +kernel
theorem dX4_init_19 : decode cX4_init 19 = .ok (.aload_n 0, 1) := by decide +kernel
theorem dX4_init_20 : decode cX4_init 20 = .ok (.iconst 5, 1) := by decide +kernel
theorem dX4_init_21 : decode cX4_init 21 = .ok (.bipush 10, 2) := by decide +kernel
theorem dX4_init_23 : decode cX4_init 23 = .ok (.multianewarray 21 2, 4) := by decide +kernel
theorem dX4_init_27 : decode cX4_init 27 = .ok (.putfield 23, 3) := by decide +kernel
theorem dX4_init_30 : decode cX4_init 30 = .ok (.aload_n 0, 1) := by decide +kernel
theorem dX4_init_31 : decode cX4_init 31 = .ok (.bipush 10, 2) := by decide +kernel
theorem dX4_init_33 : decode cX4_init 33 = .ok (.newarray .int, 2) := by decide +kernel
theorem dX4_init_35 : decode cX4_init 35 = .ok (.putfield 26, 3) := by decide +kernel
theorem dX4_init_38 : decode cX4_init 38 = .ok (.aload_n 0, 1) := by decide +kernel
theorem dX4_init_39 : decode cX4_init 39 = .ok (.bipush 10, 2) := by decide +kernel
theorem dX4_init_41 : decode cX4_init 41 = .ok (.bipush 32, 2) := by decide +kernel
theorem dX4_init_43 : decode cX4_init 43 = .ok (.multianewarray 21 2, 4) := by decide +kernel
theorem dX4_init_47 : decode cX4_init 47 = .ok (.putfield 29, 3) := by decide +kernel
theorem dX4_init_50 : decode cX4_init 50 = .ok (.aload_n 0, 1) := by decide +kernel
theorem dX4_init_51 : decode cX4_init 51 = .ok (.bipush 32, 2) := by decide +kernel
theorem dX4_init_53 : decode cX4_init 53 = .ok (.newarray .long, 2) := by decide +kernel
theorem dX4_init_55 : decode cX4_init 55 = .ok (.putfield 32, 3) := by decide +kernel
theorem dX4_init_58 : decode cX4_init 58 = .ok (.aload_n 0, 1) := by decide +kernel
theorem dX4_init_59 : decode cX4_init 59 = .ok (.bipush 32, 2) := by decide +kernel
theorem dX4_init_61 : decode cX4_init 61 = .ok (.newarray .long, 2) := by decide +kernel
theorem dX4_init_63 : decode cX4_init 63 = .ok (.putfield 36, 3) := by decide +kernel
theorem dX4_init_66 : decode cX4_init 66 = .ok (.return_, 1) := by decide +kernel
theorem dX4_clear_0 : decode cX4_clear 0 = .ok (.aload_n 0, 1) := by decide +kernel
theorem dX4_clear_1 : decode cX4_clear 1 = .ok (.iconst 0, 1) := by decide +kernel
theorem dX4_clear_2 : decode cX4_clear 2 = .ok (.putfield 39, 3) := by decide +kernel
theorem dX4_clear_5 : decode cX4_clear 5 = .ok (.aload_n 0, 1) := by decide +kernel
theorem dX4_clear_6 : decode cX4_clear 6 = .ok (.iconst 1, 1) := by decide +kernel
theorem dX4_clear_7 : decode cX4_clear 7 = .ok (.putfield 43, 3) := by decide +kernel
theorem dX4_clear_10 : decode cX4_clear 10 = .ok (.return_, 1) := by decide +kernel
theorem dX4_setBeds_0 : decode cX4_setBeds 0 = .ok (.iload_n 1, 1) := by decide +kernel
theorem dX4_setBeds_1 : decode cX4_setBeds 1 = .ok (.ifCond .lt 16, 3) := by decide +kernel
theorem dX4_setBeds_4 : decode cX4_setBeds 4 = .ok (.iload_n 1, 1) := by decide +kernel
theorem dX4_setBeds_5 : decode cX4_setBeds 5 = .ok (.bipush 10, 2) := by decide +kernel
theorem dX4_setBeds_7 : decode cX4_setBeds 7 = .ok (.if_icmp .ge 10, 3) := by decide +kernel
theorem dX4_setBeds_10 : decode cX4_setBeds 10 = .ok (.aload_n 0, 1) := by decide +kernel
theorem dX4_setBeds_11 : decode cX4_setBeds 11 = .ok (.getfield 26, 3) := by decide +kernel
theorem dX4_setBeds_14 : decode cX4_setBeds 14 = .ok (.iload_n 1, 1) := by decide +kernel
theorem dX4_setBeds_15 : decode cX4_setBeds 15 = .ok (.iload_n 2, 1) := by decide +kernel
theorem dX4_setBeds_16 : decode cX4_setBeds 16 = .ok (.iastore, 1) := by decide +kernel
theorem dX4_setBeds_17 : decode cX4_setBeds 17 = .ok (.return_, 1) := by decide +kernel
theorem dX4_addChild_0 : decode cX4_addChild 0 = .ok (.aload_n 0, 1) := by decide +kernel
theorem dX4_addChild_1 : decode cX4_addChild 1 = .ok (.getfield 39, 3) := by decide +kernel
theorem dX4_addChild_4 : decode cX4_addChild 4 = .ok (.istore_n 2, 1) := by decide +kernel
theorem dX4_addChild_5 : decode cX4_addChild 5 = .ok (.iload_n 2, 1) := by decide +kernel
theorem dX4_addChild_6 : decode cX4_addChild 6 = .ok (.iconst 5, 1) := by decide +kernel
theorem dX4_addChild_7 : decode cX4_addChild 7 = .ok (.if_icmp .lt 5, 3) := by decide +kernel
theorem dX4_addChild_10 : decode cX4_addChild 10 = .ok (.iconst (-1), 1) := by decide +kernel
theorem dX4_addChild_11 : decode cX4_addChild 11 = .ok (.ireturn, 1) := by decide +kernel
theorem dX4_addChild_12 : decode cX4_addChild 12 = .ok (.aload_n 0, 1) := by decide +kernel
theorem dX4_addChild_13 : decode cX4_addChild 13 = .ok (.getfield 11, 3) := by decide +kernel
theorem dX4_addChild_16 : decode cX4_addChild 16 = .ok (.iload_n 2, 1) := by decide +kernel
theorem dX4_addChild_17 : decode cX4_addChild 17 = .ok (.aload_n 1, 1) := by decide +kernel
theorem dX4_addChild_18 : decode cX4_addChild 18 = .ok (.aastore, 1) := by decide +kernel
theorem dX4_addChild_19 : decode cX4_addChild 19 = .ok (.iconst 0, 1) := by decide +kernel
theorem dX4_addChild_20 : decode cX4_addChild 20 = .ok (.istore_n 3, 1) := by decide +kernel
theorem dX4_addChild_21 : decode cX4_addChild 21 = .ok (.iload_n 3, 1) := by decide +kernel
theorem dX4_addChild_22 : decode cX4_addChild 22 = .ok (.bipush 10, 2) := by decide +kernel
theorem dX4_addChild_24 : decode cX4_addChild 24 = .ok (.if_icmp .ge 19, 3) := by decide +kernel
theorem dX4_addChild_27 : decode cX4_addChild 27 = .ok (.aload_n 0, 1) := by decide +kernel
theorem dX4_addChild_28 : decode cX4_addChild 28 = .ok (.getfield 23, 3) := by decide +kernel
theorem dX4_addChild_31 : decode cX4_addChild 31 = .ok (.iload_n 2, 1) := by decide +kernel
theorem dX4_addChild_32 : decode cX4_addChild 32 = .ok (.aaload, 1) := by decide +kernel
theorem dX4_addChild_33 : decode cX4_addChild 33 = .ok (.iload_n 3, 1) := by decide +kernel
theorem dX4_addChild_34 : decode cX4_addChild 34 = .ok (.ldc 46, 2) := by decide +kernel
theorem dX4_addChild_36 : decode cX4_addChild 36 = .ok (.iastore, 1) := by decide +kernel
theorem dX4_addChild_37 : decode cX4_addChild 37 = .ok (.iinc 3 1, 3) := by decide +kernel
theorem dX4_addChild_40 : decode cX4_addChild 40 = .ok (.goto (-19), 3) := by decide +kernel
theorem dX4_addChild_43 : decode cX4_addChild 43 = .ok (.aload_n 0, 1) := by decide +kernel
theorem dX4_addChild_44 : decode cX4_addChild 44 = .ok (.iload_n 2, 1) := by decide +kernel
theorem dX4_addChild_45 : decode cX4_addChild 45 = .ok (.iconst 1, 1) := by decide +kernel
theorem dX4_addChild_46 : decode cX4_addChild 46 = .ok (.iadd, 1) := by decide +kernel
theorem dX4_addChild_47 : decode cX4_addChild 47 = .ok (.putfield 39, 3) := by decide +kernel
theorem dX4_addChild_50 : decode cX4_addChild 50 = .ok (.aload_n 0, 1) := by decide +kernel
theorem dX4_addChild_51 : decode cX4_addChild 51 = .ok (.iconst 2, 1) := by decide +kernel
theorem dX4_addChild_52 : decode cX4_addChild 52 = .ok (.aload_n 0, 1) := by decide +kernel
theorem dX4_addChild_53 : decode cX4_addChild 53 = .ok (.getfield 43, 3) := by decide +kernel
theorem dX4_addChild_56 : decode cX4_addChild 56 = .ok (.imul, 1) := by decide +kernel
theorem dX4_addChild_57 : decode cX4_addChild 57 = .ok (.putfield 43, 3) := by decide +kernel
theorem dX4_addChild_60 : decode cX4_addChild 60 = .ok (.iload_n 2, 1) := by decide +kernel
theorem dX4_addChild_61 : decode cX4_addChild 61 = .ok (.ireturn, 1) := by decide +kernel
theorem dX4_allow_0 : decode cX4_allow 0 = .ok (.iload_n 1, 1) := by decide +kernel
theorem dX4_allow_1 : decode cX4_allow 1 = .ok (.ifCond .lt 27, 3) := by decide +kernel
theorem dX4_allow_4 : decode cX4_allow 4 = .ok (.iload_n 1, 1) := by decide +kernel
theorem dX4_allow_5 : decode cX4_allow 5 = .ok (.iconst 5, 1) := by decide +kernel
theorem dX4_allow_6 : decode cX4_allow 6 = .ok (.if_icmp .ge 22, 3) := by decide +kernel
theorem dX4_allow_9 : decode cX4_allow 9 = .ok (.iload_n 2, 1) := by decide +kernel
theorem dX4_allow_10 : decode cX4_allow 10 = .ok (.ifCond .lt 18, 3) := by decide +kernel
theorem dX4_allow_13 : decode cX4_allow 13 = .ok (.iload_n 2, 1) := by decide +kernel
theorem dX4_allow_14 : decode cX4_allow 14 = .ok (.bipush 10, 2) := by decide +kernel
theorem dX4_allow_16 : decode cX4_allow 16 = .ok (.if_icmp .ge 12, 3) := by decide +kernel
theorem dX4_allow_19 : decode cX4_allow 19 = .ok (.aload_n 0, 1) := by decide +kernel
theorem dX4_allow_20 : decode cX4_allow 20 = .ok (.getfield 23, 3) := by decide +kernel
theorem dX4_allow_23 : decode cX4_allow 23 = .ok (.iload_n 1, 1) := by decide +kernel
theorem dX4_allow_24 : decode cX4_allow 24 = .ok (.aaload, 1) := by decide +kernel
theorem dX4_allow_25 : decode cX4_allow 25 = .ok (.iload_n 2, 1) := by decide +kernel
theorem dX4_allow_26 : decode cX4_allow 26 = .ok (.iload_n 3, 1) := by decide +kernel
theorem dX4_allow_27 : decode cX4_allow 27 = .ok (.iastore, 1) := by decide +kernel
theorem dX4_allow_28 : decode cX4_allow 28 = .ok (.return_, 1) := by decide +kernel
theorem dX4_childAtRow_0 : decode cX4_childAtRow 0 = .ok (.iload_n 1, 1) := by decide +kernel
theorem dX4_childAtRow_1 : decode cX4_childAtRow 1 = .ok (.ifCond .lt 25, 3) := by decide +kernel
theorem dX4_childAtRow_4 : decode cX4_childAtRow 4 = .ok (.iload_n 1, 1) := by decide +kernel
theorem dX4_childAtRow_5 : decode cX4_childAtRow 5 = .ok (.aload_n 0, 1) := by decide +kernel
theorem dX4_childAtRow_6 : decode cX4_childAtRow 6 = .ok (.getfield 39, 3) := by decide +kernel
theorem dX4_childAtRow_9 : decode cX4_childAtRow 9 = .ok (.if_icmp .ge 17, 3) := by decide +kernel
theorem dX4_childAtRow_12 : decode cX4_childAtRow 12 = .ok (.iload_n 1, 1) := by decide +kernel
theorem dX4_childAtRow_13 : decode cX4_childAtRow 13 = .ok (.iconst 5, 1) := by decide +kernel
theorem dX4_childAtRow_14 : decode cX4_childAtRow 14 = .ok (.if_icmp .ge 12, 3) := by decide +kernel
theorem dX4_childAtRow_17 : decode cX4_childAtRow 17 = .ok (.aload_n 0, 1) := by decide +kernel
theorem dX4_childAtRow_18 : decode cX4_childAtRow 18 = .ok (.getfield 11, 3) := by decide +kernel
theorem dX4_childAtRow_21 : decode cX4_childAtRow 21 = .ok (.iload_n 1, 1) := by decide +kernel
theorem dX4_childAtRow_22 : decode cX4_childAtRow 22 = .ok (.aaload, 1) := by decide +kernel
theorem dX4_childAtRow_23 : decode cX4_childAtRow 23 = .ok (.goto 4, 3) := by decide +kernel
theorem dX4_childAtRow_26 : decode cX4_childAtRow 26 = .ok (.aconst_null, 1) := by decide +kernel
theorem dX4_childAtRow_27 : decode cX4_childAtRow 27 = .ok (.areturn, 1) := by decide +kernel
theorem dX4_homeAtRow_0 : decode cX4_homeAtRow 0 = .ok (.iload_n 1, 1) := by decide +kernel
theorem dX4_homeAtRow_1 : decode cX4_homeAtRow 1 = .ok (.ifCond .lt 25, 3) := by decide +kernel
theorem dX4_homeAtRow_4 : decode cX4_homeAtRow 4 = .ok (.iload_n 1, 1) := by decide +kernel
theorem dX4_homeAtRow_5 : decode cX4_homeAtRow 5 = .ok (.aload_n 0, 1) := by decide +kernel
theorem dX4_homeAtRow_6 : decode cX4_homeAtRow 6 = .ok (.getfield 39, 3) := by decide +kernel
theorem dX4_homeAtRow_9 : decode cX4_homeAtRow 9 = .ok (.if_icmp .ge 17, 3) := by decide +kernel
theorem dX4_homeAtRow_12 : decode cX4_homeAtRow 12 = .ok (.iload_n 1, 1) := by decide +kernel
theorem dX4_homeAtRow_13 : decode cX4_homeAtRow 13 = .ok (.iconst 5, 1) := by decide +kernel
theorem dX4_homeAtRow_14 : decode cX4_homeAtRow 14 = .ok (.if_icmp .ge 12, 3) := by decide +kernel
theorem dX4_homeAtRow_17 : decode cX4_homeAtRow 17 = .ok (.aload_n 0, 1) := by decide +kernel
theorem dX4_homeAtRow_18 : decode cX4_homeAtRow 18 = .ok (.getfield 17, 3) := by decide +kernel
theorem dX4_homeAtRow_21 : decode cX4_homeAtRow 21 = .ok (.iload_n 1, 1) := by decide +kernel
theorem dX4_homeAtRow_22 : decode cX4_homeAtRow 22 = .ok (.iaload, 1) := by decide +kernel
theorem dX4_homeAtRow_23 : decode cX4_homeAtRow 23 = .ok (.goto 4, 3) := by decide +kernel
theorem dX4_homeAtRow_26 : decode cX4_homeAtRow 26 = .ok (.iconst (-1), 1) := by decide +kernel
theorem dX4_homeAtRow_27 : decode cX4_homeAtRow 27 = .ok (.ireturn, 1) := by decide +kernel
theorem dX4_search_0 : decode cX4_search 0 = .ok (.aload_n 0, 1) := by decide +kernel
theorem dX4_search_1 : decode cX4_search 1 = .ok (.getfield 36, 3) := by decide +kernel
theorem dX4_search_4 : decode cX4_search 4 = .ok (.iconst 0, 1) := by decide +kernel
theorem dX4_search_5 : decode cX4_search 5 = .ok (.lconst 0, 1) := by decide +kernel
theorem dX4_search_6 : decode cX4_search 6 = .ok (.lastore, 1) := by decide +kernel
theorem dX4_search_7 : decode cX4_search 7 = .ok (.iconst 1, 1) := by decide +kernel
theorem dX4_search_8 : decode cX4_search 8 = .ok (.istore_n 1, 1) := by decide +kernel
theorem dX4_search_9 : decode cX4_search 9 = .ok (.iload_n 1, 1) := by decide +kernel
theorem dX4_search_10 : decode cX4_search 10 = .ok (.bipush 32, 2) := by decide +kernel
theorem dX4_search_12 : decode cX4_search 12 = .ok (.if_icmp .ge 18, 3) := by decide +kernel
theorem dX4_search_15 : decode cX4_search 15 = .ok (.aload_n 0, 1) := by decide +kernel
theorem dX4_search_16 : decode cX4_search 16 = .ok (.getfield 36, 3) := by decide +kernel
theorem dX4_search_19 : decode cX4_search 19 = .ok (.iload_n 1, 1) := by decide +kernel
theorem dX4_search_20 : decode cX4_search 20 = .ok (.ldc2_w 47, 3) := by decide +kernel
theorem dX4_search_23 : decode cX4_search 23 = .ok (.lastore, 1) := by decide +kernel
theorem dX4_search_24 : decode cX4_search 24 = .ok (.iinc 1 1, 3) := by decide +kernel
theorem dX4_search_27 : decode cX4_search 27 = .ok (.goto (-18), 3) := by decide +kernel
theorem dX4_search_30 : decode cX4_search 30 = .ok (.iconst 0, 1) := by decide +kernel
theorem dX4_search_31 : decode cX4_search 31 = .ok (.istore_n 1, 1) := by decide +kernel
theorem dX4_search_32 : decode cX4_search 32 = .ok (.iload_n 1, 1) := by decide +kernel
theorem dX4_search_33 : decode cX4_search 33 = .ok (.bipush 10, 2) := by decide +kernel
theorem dX4_search_35 : decode cX4_search 35 = .ok (.if_icmp .ge 19, 3) := by decide +kernel
theorem dX4_search_38 : decode cX4_search 38 = .ok (.aload_n 0, 1) := by decide +kernel
theorem dX4_search_39 : decode cX4_search 39 = .ok (.iload_n 1, 1) := by decide +kernel
theorem dX4_search_40 : decode cX4_search 40 = .ok (.invokevirtual 49, 3) := by decide +kernel
theorem dX4_search_43 : decode cX4_search 43 = .ok (.aload_n 0, 1) := by decide +kernel
theorem dX4_search_44 : decode cX4_search 44 = .ok (.iload_n 1, 1) := by decide +kernel
theorem dX4_search_45 : decode cX4_search 45 = .ok (.invokevirtual 53, 3) := by decide +kernel
theorem dX4_search_48 : decode cX4_search 48 = .ok (.iinc 1 1, 3) := by decide +kernel
theorem dX4_search_51 : decode cX4_search 51 = .ok (.goto (-19), 3) := by decide +kernel
theorem dX4_search_54 : decode cX4_search 54 = .ok (.iconst 0, 1) := by decide +kernel
theorem dX4_search_55 : decode cX4_search 55 = .ok (.istore_n 1, 1) := by decide +kernel
theorem dX4_search_56 : decode cX4_search 56 = .ok (.iconst 1, 1) := by decide +kernel
theorem dX4_search_57 : decode cX4_search 57 = .ok (.istore_n 2, 1) := by decide +kernel
theorem dX4_search_58 : decode cX4_search 58 = .ok (.iload_n 2, 1) := by decide +kernel
theorem dX4_search_59 : decode cX4_search 59 = .ok (.bipush 32, 2) := by decide +kernel
theorem dX4_search_61 : decode cX4_search 61 = .ok (.if_icmp .ge 27, 3) := by decide +kernel
theorem dX4_search_64 : decode cX4_search 64 = .ok (.aload_n 0, 1) := by decide +kernel
theorem dX4_search_65 : decode cX4_search 65 = .ok (.getfield 36, 3) := by decide +kernel
theorem dX4_search_68 : decode cX4_search 68 = .ok (.iload_n 2, 1) := by decide +kernel
theorem dX4_search_69 : decode cX4_search 69 = .ok (.laload, 1) := by decide +kernel
theorem dX4_search_70 : decode cX4_search 70 = .ok (.aload_n 0, 1) := by decide +kernel
theorem dX4_search_71 : decode cX4_search 71 = .ok (.getfield 36, 3) := by decide +kernel
theorem dX4_search_74 : decode cX4_search 74 = .ok (.iload_n 1, 1) := by decide +kernel
theorem dX4_search_75 : decode cX4_search 75 = .ok (.laload, 1) := by decide +kernel
theorem dX4_search_76 : decode cX4_search 76 = .ok (.lcmp, 1) := by decide +kernel
theorem dX4_search_77 : decode cX4_search 77 = .ok (.ifCond .le 5, 3) := by decide +kernel
theorem dX4_search_80 : decode cX4_search 80 = .ok (.iload_n 2, 1) := by decide +kernel
theorem dX4_search_81 : decode cX4_search 81 = .ok (.istore_n 1, 1) := by decide +kernel
theorem dX4_search_82 : decode cX4_search 82 = .ok (.iinc 2 1, 3) := by decide +kernel
theorem dX4_search_85 : decode cX4_search 85 = .ok (.goto (-27), 3) := by decide +kernel
theorem dX4_search_88 : decode cX4_search 88 = .ok (.aload_n 0, 1) := by decide +kernel
theorem dX4_search_89 : decode cX4_search 89 = .ok (.iload_n 1, 1) := by decide +kernel
theorem dX4_search_90 : decode cX4_search 90 = .ok (.invokevirtual 56, 3) := by decide +kernel
theorem dX4_search_93 : decode cX4_search 93 = .ok (.iload_n 1, 1) := by decide +kernel
theorem dX4_search_94 : decode cX4_search 94 = .ok (.invokestatic 59, 3) := by decide +kernel
theorem dX4_search_97 : decode cX4_search 97 = .ok (.ireturn, 1) := by decide +kernel
theorem dX4_weighSets_0 : decode cX4_weighSets 0 = .ok (.iconst 1, 1) := by decide +kernel
theorem dX4_weighSets_1 : decode cX4_weighSets 1 = .ok (.istore_n 2, 1) := by decide +kernel
theorem dX4_weighSets_2 : decode cX4_weighSets 2 = .ok (.iload_n 2, 1) := by decide +kernel
theorem dX4_weighSets_3 : decode cX4_weighSets 3 = .ok (.aload_n 0, 1) := by decide +kernel
theorem dX4_weighSets_4 : decode cX4_weighSets 4 = .ok (.getfield 43, 3) := by decide +kernel
theorem dX4_weighSets_7 : decode cX4_weighSets 7 = .ok (.if_icmp .ge 46, 3) := by decide +kernel
theorem dX4_weighSets_10 : decode cX4_weighSets 10 = .ok (.iload_n 2, 1) := by decide +kernel
theorem dX4_weighSets_11 : decode cX4_weighSets 11 = .ok (.bipush 32, 2) := by decide +kernel
theorem dX4_weighSets_13 : decode cX4_weighSets 13 = .ok (.if_icmp .ge 40, 3) := by decide +kernel
theorem dX4_weighSets_16 : decode cX4_weighSets 16 = .ok (.aload_n 0, 1) := by decide +kernel
theorem dX4_weighSets_17 : decode cX4_weighSets 17 = .ok (.getfield 32, 3) := by decide +kernel
theorem dX4_weighSets_20 : decode cX4_weighSets 20 = .ok (.iload_n 2, 1) := by decide +kernel
theorem dX4_weighSets_21 : decode cX4_weighSets 21 = .ok (.iload_n 2, 1) := by decide +kernel
theorem dX4_weighSets_22 : decode cX4_weighSets 22 = .ok (.invokestatic 59, 3) := by decide +kernel
theorem dX4_weighSets_25 : decode cX4_weighSets 25 = .ok (.aload_n 0, 1) := by decide +kernel
theorem dX4_weighSets_26 : decode cX4_weighSets 26 = .ok (.getfield 26, 3) := by decide +kernel
theorem dX4_weighSets_29 : decode cX4_weighSets 29 = .ok (.iload_n 1, 1) := by decide +kernel
theorem dX4_weighSets_30 : decode cX4_weighSets 30 = .ok (.iaload, 1) := by decide +kernel
theorem dX4_weighSets_31 : decode cX4_weighSets 31 = .ok (.if_icmp .le 9, 3) := by decide +kernel
theorem dX4_weighSets_34 : decode cX4_weighSets 34 = .ok (.ldc2_w 47, 3) := by decide +kernel
theorem dX4_weighSets_37 : decode cX4_weighSets 37 = .ok (.goto 9, 3) := by decide +kernel
theorem dX4_weighSets_40 : decode cX4_weighSets 40 = .ok (.aload_n 0, 1) := by decide +kernel
theorem dX4_weighSets_41 : decode cX4_weighSets 41 = .ok (.iload_n 2, 1) := by decide +kernel
theorem dX4_weighSets_42 : decode cX4_weighSets 42 = .ok (.iload_n 1, 1) := by decide +kernel
theorem dX4_weighSets_43 : decode cX4_weighSets 43 = .ok (.invokevirtual 65, 3) := by decide +kernel
theorem dX4_weighSets_46 : decode cX4_weighSets 46 = .ok (.lastore, 1) := by decide +kernel
theorem dX4_weighSets_47 : decode cX4_weighSets 47 = .ok (.iinc 2 1, 3) := by decide +kernel
theorem dX4_weighSets_50 : decode cX4_weighSets 50 = .ok (.goto (-48), 3) := by decide +kernel
theorem dX4_weighSets_53 : decode cX4_weighSets 53 = .ok (.return_, 1) := by decide +kernel
theorem dX4_gainOf_0 : decode cX4_gainOf 0 = .ok (.ldc2_w 69, 3) := by decide +kernel
theorem dX4_gainOf_3 : decode cX4_gainOf 3 = .ok (.lstore_n 3, 1) := by decide +kernel
theorem dX4_gainOf_4 : decode cX4_gainOf 4 = .ok (.iconst 0, 1) := by decide +kernel
theorem dX4_gainOf_5 : decode cX4_gainOf 5 = .ok (.istore 5, 2) := by decide +kernel
theorem dX4_gainOf_7 : decode cX4_gainOf 7 = .ok (.iload 5, 2) := by decide +kernel
theorem dX4_gainOf_9 : decode cX4_gainOf 9 = .ok (.iconst 5, 1) := by decide +kernel
theorem dX4_gainOf_10 : decode cX4_gainOf 10 = .ok (.if_icmp .ge 82, 3) := by decide +kernel
theorem dX4_gainOf_13 : decode cX4_gainOf 13 = .ok (.iload 5, 2) := by decide +kernel
theorem dX4_gainOf_15 : decode cX4_gainOf 15 = .ok (.getstatic 71, 3) := by decide +kernel
theorem dX4_gainOf_18 : decode cX4_gainOf 18 = .ok (.arraylength, 1) := by decide +kernel
theorem dX4_gainOf_19 : decode cX4_gainOf 19 = .ok (.if_icmp .ge 73, 3) := by decide +kernel
theorem dX4_gainOf_22 : decode cX4_gainOf 22 = .ok (.iload_n 1, 1) := by decide +kernel
theorem dX4_gainOf_23 : decode cX4_gainOf 23 = .ok (.iload 5, 2) := by decide +kernel
theorem dX4_gainOf_25 : decode cX4_gainOf 25 = .ok (.ishr, 1) := by decide +kernel
theorem dX4_gainOf_26 : decode cX4_gainOf 26 = .ok (.iconst 1, 1) := by decide +kernel
theorem dX4_gainOf_27 : decode cX4_gainOf 27 = .ok (.iand, 1) := by decide +kernel
theorem dX4_gainOf_28 : decode cX4_gainOf 28 = .ok (.ifCond .ne 6, 3) := by decide +kernel
theorem dX4_gainOf_31 : decode cX4_gainOf 31 = .ok (.goto 55, 3) := by decide +kernel
theorem dX4_gainOf_34 : decode cX4_gainOf 34 = .ok (.aload_n 0, 1) := by decide +kernel
theorem dX4_gainOf_35 : decode cX4_gainOf 35 = .ok (.getfield 23, 3) := by decide +kernel
theorem dX4_gainOf_38 : decode cX4_gainOf 38 = .ok (.iload 5, 2) := by decide +kernel
theorem dX4_gainOf_40 : decode cX4_gainOf 40 = .ok (.aaload, 1) := by decide +kernel
theorem dX4_gainOf_41 : decode cX4_gainOf 41 = .ok (.iload_n 2, 1) := by decide +kernel
theorem dX4_gainOf_42 : decode cX4_gainOf 42 = .ok (.iaload, 1) := by decide +kernel
theorem dX4_gainOf_43 : decode cX4_gainOf 43 = .ok (.ldc 46, 2) := by decide +kernel
theorem dX4_gainOf_45 : decode cX4_gainOf 45 = .ok (.if_icmp .ne 7, 3) := by decide +kernel
theorem dX4_gainOf_48 : decode cX4_gainOf 48 = .ok (.ldc2_w 47, 3) := by decide +kernel
theorem dX4_gainOf_51 : decode cX4_gainOf 51 = .ok (.lreturn, 1) := by decide +kernel
theorem dX4_gainOf_52 : decode cX4_gainOf 52 = .ok (.lload_n 3, 1) := by decide +kernel
theorem dX4_gainOf_53 : decode cX4_gainOf 53 = .ok (.ldc2_w 74, 3) := by decide +kernel
theorem dX4_gainOf_56 : decode cX4_gainOf 56 = .ok (.ldc2_w 76, 3) := by decide +kernel
theorem dX4_gainOf_59 : decode cX4_gainOf 59 = .ok (.aload_n 0, 1) := by decide +kernel
theorem dX4_gainOf_60 : decode cX4_gainOf 60 = .ok (.getfield 23, 3) := by decide +kernel
theorem dX4_gainOf_63 : decode cX4_gainOf 63 = .ok (.iload 5, 2) := by decide +kernel
theorem dX4_gainOf_65 : decode cX4_gainOf 65 = .ok (.aaload, 1) := by decide +kernel
theorem dX4_gainOf_66 : decode cX4_gainOf 66 = .ok (.iload_n 2, 1) := by decide +kernel
theorem dX4_gainOf_67 : decode cX4_gainOf 67 = .ok (.iaload, 1) := by decide +kernel
theorem dX4_gainOf_68 : decode cX4_gainOf 68 = .ok (.i2l, 1) := by decide +kernel
theorem dX4_gainOf_69 : decode cX4_gainOf 69 = .ok (.lmul, 1) := by decide +kernel
theorem dX4_gainOf_70 : decode cX4_gainOf 70 = .ok (.ladd, 1) := by decide +kernel
theorem dX4_gainOf_71 : decode cX4_gainOf 71 = .ok (.bipush 10, 2) := by decide +kernel
theorem dX4_gainOf_73 : decode cX4_gainOf 73 = .ok (.iload_n 2, 1) := by decide +kernel
theorem dX4_gainOf_74 : decode cX4_gainOf 74 = .ok (.isub, 1) := by decide +kernel
theorem dX4_gainOf_75 : decode cX4_gainOf 75 = .ok (.getstatic 71, 3) := by decide +kernel
theorem dX4_gainOf_78 : decode cX4_gainOf 78 = .ok (.iload 5, 2) := by decide +kernel
theorem dX4_gainOf_80 : decode cX4_gainOf 80 = .ok (.iaload, 1) := by decide +kernel
theorem dX4_gainOf_81 : decode cX4_gainOf 81 = .ok (.imul, 1) := by decide +kernel
theorem dX4_gainOf_82 : decode cX4_gainOf 82 = .ok (.i2l, 1) := by decide +kernel
theorem dX4_gainOf_83 : decode cX4_gainOf 83 = .ok (.ladd, 1) := by decide +kernel
theorem dX4_gainOf_84 : decode cX4_gainOf 84 = .ok (.ladd, 1) := by decide +kernel
theorem dX4_gainOf_85 : decode cX4_gainOf 85 = .ok (.lstore_n 3, 1) := by decide +kernel
theorem dX4_gainOf_86 : decode cX4_gainOf 86 = .ok (.iinc 5 1, 3) := by decide +kernel
theorem dX4_gainOf_89 : decode cX4_gainOf 89 = .ok (.goto (-82), 3) := by decide +kernel
theorem dX4_gainOf_92 : decode cX4_gainOf 92 = .ok (.lload_n 3, 1) := by decide +kernel
theorem dX4_gainOf_93 : decode cX4_gainOf 93 = .ok (.lreturn, 1) := by decide +kernel
theorem dX4_addHome_0 : decode cX4_addHome 0 = .ok (.aload_n 0, 1) := by decide +kernel
theorem dX4_addHome_1 : decode cX4_addHome 1 = .ok (.getfield 43, 3) := by decide +kernel
theorem dX4_addHome_4 : decode cX4_addHome 4 = .ok (.bipush 32, 2) := by decide +kernel
theorem dX4_addHome_6 : decode cX4_addHome 6 = .ok (.invokestatic 78, 3) := by decide +kernel
theorem dX4_addHome_9 : decode cX4_addHome 9 = .ok (.iconst 1, 1) := by decide +kernel
theorem dX4_addHome_10 : decode cX4_addHome 10 = .ok (.isub, 1) := by decide +kernel
theorem dX4_addHome_11 : decode cX4_addHome 11 = .ok (.istore_n 2, 1) := by decide +kernel
theorem dX4_addHome_12 : decode cX4_addHome 12 = .ok (.iload_n 2, 1) := by decide +kernel
theorem dX4_addHome_13 : decode cX4_addHome 13 = .ok (.ifCond .le 127, 3) := by decide +kernel
theorem dX4_addHome_16 : decode cX4_addHome 16 = .ok (.iconst 0, 1) := by decide +kernel
theorem dX4_addHome_17 : decode cX4_addHome 17 = .ok (.istore_n 3, 1) := by decide +kernel
theorem dX4_addHome_18 : decode cX4_addHome 18 = .ok (.aload_n 0, 1) := by decide +kernel
theorem dX4_addHome_19 : decode cX4_addHome 19 = .ok (.getfield 36, 3) := by decide +kernel
theorem dX4_addHome_22 : decode cX4_addHome 22 = .ok (.iload_n 2, 1) := by decide +kernel
theorem dX4_addHome_23 : decode cX4_addHome 23 = .ok (.laload, 1) := by decide +kernel
theorem dX4_addHome_24 : decode cX4_addHome 24 = .ok (.lstore 4, 2) := by decide +kernel
theorem dX4_addHome_26 : decode cX4_addHome 26 = .ok (.iconst 1, 1) := by decide +kernel
theorem dX4_addHome_27 : decode cX4_addHome 27 = .ok (.istore 6, 2) := by decide +kernel
theorem dX4_addHome_29 : decode cX4_addHome 29 = .ok (.iload 6, 2) := by decide +kernel
theorem dX4_addHome_31 : decode cX4_addHome 31 = .ok (.iload_n 2, 1) := by decide +kernel
theorem dX4_addHome_32 : decode cX4_addHome 32 = .ok (.if_icmp .gt 85, 3) := by decide +kernel
theorem dX4_addHome_35 : decode cX4_addHome 35 = .ok (.iload 6, 2) := by decide +kernel
theorem dX4_addHome_37 : decode cX4_addHome 37 = .ok (.iload_n 2, 1) := by decide +kernel
theorem dX4_addHome_38 : decode cX4_addHome 38 = .ok (.iand, 1) := by decide +kernel
theorem dX4_addHome_39 : decode cX4_addHome 39 = .ok (.iload 6, 2) := by decide +kernel
theorem dX4_addHome_41 : decode cX4_addHome 41 = .ok (.if_icmp .ne 70, 3) := by decide +kernel
theorem dX4_addHome_44 : decode cX4_addHome 44 = .ok (.aload_n 0, 1) := by decide +kernel
theorem dX4_addHome_45 : decode cX4_addHome 45 = .ok (.getfield 32, 3) := by decide +kernel
theorem dX4_addHome_48 : decode cX4_addHome 48 = .ok (.iload 6, 2) := by decide +kernel
theorem dX4_addHome_50 : decode cX4_addHome 50 = .ok (.laload, 1) := by decide +kernel
theorem dX4_addHome_51 : decode cX4_addHome 51 = .ok (.lconst 0, 1) := by decide +kernel
theorem dX4_addHome_52 : decode cX4_addHome 52 = .ok (.lcmp, 1) := by decide +kernel
theorem dX4_addHome_53 : decode cX4_addHome 53 = .ok (.ifCond .lt 58, 3) := by decide +kernel
theorem dX4_addHome_56 : decode cX4_addHome 56 = .ok (.aload_n 0, 1) := by decide +kernel
theorem dX4_addHome_57 : decode cX4_addHome 57 = .ok (.getfield 36, 3) := by decide +kernel
theorem dX4_addHome_60 : decode cX4_addHome 60 = .ok (.iload_n 2, 1) := by decide +kernel
theorem dX4_addHome_61 : decode cX4_addHome 61 = .ok (.iload 6, 2) := by decide +kernel
theorem dX4_addHome_63 : decode cX4_addHome 63 = .ok (.iconst (-1), 1) := by decide +kernel
theorem dX4_addHome_64 : decode cX4_addHome 64 = .ok (.ixor, 1) := by decide +kernel
theorem dX4_addHome_65 : decode cX4_addHome 65 = .ok (.iand, 1) := by decide +kernel
theorem dX4_addHome_66 : decode cX4_addHome 66 = .ok (.laload, 1) := by decide +kernel
theorem dX4_addHome_67 : decode cX4_addHome 67 = .ok (.lconst 0, 1) := by decide +kernel
theorem dX4_addHome_68 : decode cX4_addHome 68 = .ok (.lcmp, 1) := by decide +kernel
theorem dX4_addHome_69 : decode cX4_addHome 69 = .ok (.ifCond .ge 6, 3) := by decide +kernel
theorem dX4_addHome_72 : decode cX4_addHome 72 = .ok (.goto 39, 3) := by decide +kernel
theorem dX4_addHome_75 : decode cX4_addHome 75 = .ok (.aload_n 0, 1) := by decide +kernel
theorem dX4_addHome_76 : decode cX4_addHome 76 = .ok (.getfield 36, 3) := by decide +kernel
theorem dX4_addHome_79 : decode cX4_addHome 79 = .ok (.iload_n 2, 1) := by decide +kernel
theorem dX4_addHome_80 : decode cX4_addHome 80 = .ok (.iload 6, 2) := by decide +kernel
theorem dX4_addHome_82 : decode cX4_addHome 82 = .ok (.iconst (-1), 1) := by decide +kernel
theorem dX4_addHome_83 : decode cX4_addHome 83 = .ok (.ixor, 1) := by decide +kernel
theorem dX4_addHome_84 : decode cX4_addHome 84 = .ok (.iand, 1) := by decide +kernel
theorem dX4_addHome_85 : decode cX4_addHome 85 = .ok (.laload, 1) := by decide +kernel
theorem dX4_addHome_86 : decode cX4_addHome 86 = .ok (.aload_n 0, 1) := by decide +kernel
theorem dX4_addHome_87 : decode cX4_addHome 87 = .ok (.getfield 32, 3) := by decide +kernel
theorem dX4_addHome_90 : decode cX4_addHome 90 = .ok (.iload 6, 2) := by decide +kernel
theorem dX4_addHome_92 : decode cX4_addHome 92 = .ok (.laload, 1) := by decide +kernel
theorem dX4_addHome_93 : decode cX4_addHome 93 = .ok (.ladd, 1) := by decide +kernel
theorem dX4_addHome_94 : decode cX4_addHome 94 = .ok (.lstore 7, 2) := by decide +kernel
theorem dX4_addHome_96 : decode cX4_addHome 96 = .ok (.lload 7, 2) := by decide +kernel
theorem dX4_addHome_98 : decode cX4_addHome 98 = .ok (.lload 4, 2) := by decide +kernel
theorem dX4_addHome_100 : decode cX4_addHome 100 = .ok (.lcmp, 1) := by decide +kernel
theorem dX4_addHome_101 : decode cX4_addHome 101 = .ok (.ifCond .le 10, 3) := by decide +kernel
theorem dX4_addHome_104 : decode cX4_addHome 104 = .ok (.lload 7, 2) := by decide +kernel
theorem dX4_addHome_106 : decode cX4_addHome 106 = .ok (.lstore 4, 2) := by decide +kernel
theorem dX4_addHome_108 : decode cX4_addHome 108 = .ok (.iload 6, 2) := by decide +kernel
theorem dX4_addHome_110 : decode cX4_addHome 110 = .ok (.istore_n 3, 1) := by decide +kernel
theorem dX4_addHome_111 : decode cX4_addHome 111 = .ok (.iinc 6 1, 3) := by decide +kernel
theorem dX4_addHome_114 : decode cX4_addHome 114 = .ok (.goto (-85), 3) := by decide +kernel
theorem dX4_addHome_117 : decode cX4_addHome 117 = .ok (.aload_n 0, 1) := by decide +kernel
theorem dX4_addHome_118 : decode cX4_addHome 118 = .ok (.getfield 36, 3) := by decide +kernel
theorem dX4_addHome_121 : decode cX4_addHome 121 = .ok (.iload_n 2, 1) := by decide +kernel
theorem dX4_addHome_122 : decode cX4_addHome 122 = .ok (.lload 4, 2) := by decide +kernel
theorem dX4_addHome_124 : decode cX4_addHome 124 = .ok (.lastore, 1) := by decide +kernel
theorem dX4_addHome_125 : decode cX4_addHome 125 = .ok (.aload_n 0, 1) := by decide +kernel
theorem dX4_addHome_126 : decode cX4_addHome 126 = .ok (.getfield 29, 3) := by decide +kernel
theorem dX4_addHome_129 : decode cX4_addHome 129 = .ok (.iload_n 1, 1) := by decide +kernel
theorem dX4_addHome_130 : decode cX4_addHome 130 = .ok (.aaload, 1) := by decide +kernel
theorem dX4_addHome_131 : decode cX4_addHome 131 = .ok (.iload_n 2, 1) := by decide +kernel
theorem dX4_addHome_132 : decode cX4_addHome 132 = .ok (.iload_n 3, 1) := by decide +kernel
theorem dX4_addHome_133 : decode cX4_addHome 133 = .ok (.iastore, 1) := by decide +kernel
theorem dX4_addHome_134 : decode cX4_addHome 134 = .ok (.iinc 2 (-1), 3) := by decide +kernel
theorem dX4_addHome_137 : decode cX4_addHome 137 = .ok (.goto (-125), 3) := by decide +kernel
theorem dX4_addHome_140 : decode cX4_addHome 140 = .ok (.return_, 1) := by decide +kernel
theorem dX4_choose_0 : decode cX4_choose 0 = .ok (.iload_n 1, 1) := by decide +kernel
theorem dX4_choose_1 : decode cX4_choose 1 = .ok (.istore_n 2, 1) := by decide +kernel
theorem dX4_choose_2 : decode cX4_choose 2 = .ok (.iconst 0, 1) := by decide +kernel
theorem dX4_choose_3 : decode cX4_choose 3 = .ok (.istore_n 3, 1) := by decide +kernel
theorem dX4_choose_4 : decode cX4_choose 4 = .ok (.iload_n 3, 1) := by decide +kernel
theorem dX4_choose_5 : decode cX4_choose 5 = .ok (.iconst 5, 1) := by decide +kernel
theorem dX4_choose_6 : decode cX4_choose 6 = .ok (.if_icmp .ge 16, 3) := by decide +kernel
theorem dX4_choose_9 : decode cX4_choose 9 = .ok (.aload_n 0, 1) := by decide +kernel
theorem dX4_choose_10 : decode cX4_choose 10 = .ok (.getfield 17, 3) := by decide +kernel
theorem dX4_choose_13 : decode cX4_choose 13 = .ok (.iload_n 3, 1) := by decide +kernel
theorem dX4_choose_14 : decode cX4_choose 14 = .ok (.iconst (-1), 1) := by decide +kernel
theorem dX4_choose_15 : decode cX4_choose 15 = .ok (.iastore, 1) := by decide +kernel
theorem dX4_choose_16 : decode cX4_choose 16 = .ok (.iinc 3 1, 3) := by decide +kernel
theorem dX4_choose_19 : decode cX4_choose 19 = .ok (.goto (-15), 3) := by decide +kernel
theorem dX4_choose_22 : decode cX4_choose 22 = .ok (.bipush 9, 2) := by decide +kernel
theorem dX4_choose_24 : decode cX4_choose 24 = .ok (.istore_n 3, 1) := by decide +kernel
theorem dX4_choose_25 : decode cX4_choose 25 = .ok (.iload_n 3, 1) := by decide +kernel
theorem dX4_choose_26 : decode cX4_choose 26 = .ok (.ifCond .lt 73, 3) := by decide +kernel
theorem dX4_choose_29 : decode cX4_choose 29 = .ok (.iload_n 2, 1) := by decide +kernel
theorem dX4_choose_30 : decode cX4_choose 30 = .ok (.ifCond .lt 20, 3) := by decide +kernel
theorem dX4_choose_33 : decode cX4_choose 33 = .ok (.iload_n 2, 1) := by decide +kernel
theorem dX4_choose_34 : decode cX4_choose 34 = .ok (.bipush 32, 2) := by decide +kernel
theorem dX4_choose_36 : decode cX4_choose 36 = .ok (.if_icmp .ge 14, 3) := by decide +kernel
theorem dX4_choose_39 : decode cX4_choose 39 = .ok (.aload_n 0, 1) := by decide +kernel
theorem dX4_choose_40 : decode cX4_choose 40 = .ok (.getfield 29, 3) := by decide +kernel
theorem dX4_choose_43 : decode cX4_choose 43 = .ok (.iload_n 3, 1) := by decide +kernel
theorem dX4_choose_44 : decode cX4_choose 44 = .ok (.aaload, 1) := by decide +kernel
theorem dX4_choose_45 : decode cX4_choose 45 = .ok (.iload_n 2, 1) := by decide +kernel
theorem dX4_choose_46 : decode cX4_choose 46 = .ok (.iaload, 1) := by decide +kernel
theorem dX4_choose_47 : decode cX4_choose 47 = .ok (.goto 4, 3) := by decide +kernel
theorem dX4_choose_50 : decode cX4_choose 50 = .ok (.iconst 0, 1) := by decide +kernel
theorem dX4_choose_51 : decode cX4_choose 51 = .ok (.istore 4, 2) := by decide +kernel
theorem dX4_choose_53 : decode cX4_choose 53 = .ok (.iconst 0, 1) := by decide +kernel
theorem dX4_choose_54 : decode cX4_choose 54 = .ok (.istore 5, 2) := by decide +kernel
theorem dX4_choose_56 : decode cX4_choose 56 = .ok (.iload 5, 2) := by decide +kernel
theorem dX4_choose_58 : decode cX4_choose 58 = .ok (.iconst 5, 1) := by decide +kernel
theorem dX4_choose_59 : decode cX4_choose 59 = .ok (.if_icmp .ge 27, 3) := by decide +kernel
theorem dX4_choose_62 : decode cX4_choose 62 = .ok (.iload 4, 2) := by decide +kernel
theorem dX4_choose_64 : decode cX4_choose 64 = .ok (.iload 5, 2) := by decide +kernel
theorem dX4_choose_66 : decode cX4_choose 66 = .ok (.ishr, 1) := by decide +kernel
theorem dX4_choose_67 : decode cX4_choose 67 = .ok (.iconst 1, 1) := by decide +kernel
theorem dX4_choose_68 : decode cX4_choose 68 = .ok (.iand, 1) := by decide +kernel
theorem dX4_choose_69 : decode cX4_choose 69 = .ok (.ifCond .eq 11, 3) := by decide +kernel
theorem dX4_choose_72 : decode cX4_choose 72 = .ok (.aload_n 0, 1) := by decide +kernel
theorem dX4_choose_73 : decode cX4_choose 73 = .ok (.getfield 17, 3) := by decide +kernel
theorem dX4_choose_76 : decode cX4_choose 76 = .ok (.iload 5, 2) := by decide +kernel
theorem dX4_choose_78 : decode cX4_choose 78 = .ok (.iload_n 3, 1) := by decide +kernel
theorem dX4_choose_79 : decode cX4_choose 79 = .ok (.iastore, 1) := by decide +kernel
theorem dX4_choose_80 : decode cX4_choose 80 = .ok (.iinc 5 1, 3) := by decide +kernel
theorem dX4_choose_83 : decode cX4_choose 83 = .ok (.goto (-27), 3) := by decide +kernel
theorem dX4_choose_86 : decode cX4_choose 86 = .ok (.iload_n 2, 1) := by decide +kernel
theorem dX4_choose_87 : decode cX4_choose 87 = .ok (.iload 4, 2) := by decide +kernel
theorem dX4_choose_89 : decode cX4_choose 89 = .ok (.iconst (-1), 1) := by decide +kernel
theorem dX4_choose_90 : decode cX4_choose 90 = .ok (.ixor, 1) := by decide +kernel
theorem dX4_choose_91 : decode cX4_choose 91 = .ok (.iand, 1) := by decide +kernel
theorem dX4_choose_92 : decode cX4_choose 92 = .ok (.istore_n 2, 1) := by decide +kernel
theorem dX4_choose_93 : decode cX4_choose 93 = .ok (.iinc 3 (-1), 3) := by decide +kernel
theorem dX4_choose_96 : decode cX4_choose 96 = .ok (.goto (-71), 3) := by decide +kernel
theorem dX4_choose_99 : decode cX4_choose 99 = .ok (.return_, 1) := by decide +kernel
theorem dX5_init_0 : decode cX5_init 0 = .ok (.aload_n 0, 1) := by decide +kernel
theorem dX5_init_1 : decode cX5_init 1 = .ok (.invokespecial 3, 3) := by decide +kernel
theorem dX5_init_4 : decode cX5_init 4 = .ok (.aload_n 0, 1) := by decide +kernel
theorem dX5_init_5 : decode cX5_init 5 = .ok (.bipush 30, 2) := by decide +kernel
theorem dX5_init_7 : decode cX5_init 7 = .ok (.newarray .int, 2) := by decide +kernel
theorem dX5_init_9 : decode cX5_init 9 = .ok (.putfield 9, 3) := by decide +kernel
theorem dX5_init_12 : decode cX5_init 12 = .ok (.aload_n 0, 1) := by decide +kernel
theorem dX5_init_13 : decode cX5_init 13 = .ok (.bipush 30, 2) := by decide +kernel
theorem dX5_init_15 : decode cX5_init 15 = .ok (.newarray .int, 2) := by decide +kernel
theorem dX5_init_17 : decode cX5_init 17 = .ok (.putfield 15, 3) := by decide +kernel
theorem dX5_init_20 : decode cX5_init 20 = .ok (.aload_n 0, 1) := by decide +kernel
theorem dX5_init_21 : decode cX5_init 21 = .ok (.bipush 30, 2) := by decide +kernel
theorem dX5_init_23 : decode cX5_init 23 = .ok (.newarray .int, 2) := by decide +kernel
theorem dX5_init_25 : decode cX5_init 25 = .ok (.putfield 18, 3) := by decide +kernel
theorem dX5_init_28 : decode cX5_init 28 = .ok (.aload_n 0, 1) := by decide +kernel
theorem dX5_init_29 : decode cX5_init 29 = .ok (.iconst (-1), 1) := by decide +kernel
theorem dX5_init_30 : decode cX5_init 30 = .ok (.putfield 21, 3) := by decide +kernel
theorem dX5_init_33 : decode cX5_init 33 = .ok (.return_, 1) := by decide +kernel
theorem dX5_tell_0 : decode cX5_tell 0 = .ok (.aload_n 0, 1) := by decide +kernel
theorem dX5_tell_1 : decode cX5_tell 1 = .ok (.dup, 1) := by decide +kernel
theorem dX5_tell_2 : decode cX5_tell 2 = .ok (.getfield 25, 3) := by decide +kernel
theorem dX5_tell_5 : decode cX5_tell 5 = .ok (.iconst 1, 1) := by decide +kernel
theorem dX5_tell_6 : decode cX5_tell 6 = .ok (.iadd, 1) := by decide +kernel
theorem dX5_tell_7 : decode cX5_tell 7 = .ok (.putfield 25, 3) := by decide +kernel
theorem dX5_tell_10 : decode cX5_tell 10 = .ok (.iconst 0, 1) := by decide +kernel
theorem dX5_tell_11 : decode cX5_tell 11 = .ok (.istore 4, 2) := by decide +kernel
theorem dX5_tell_13 : decode cX5_tell 13 = .ok (.iload 4, 2) := by decide +kernel
theorem dX5_tell_15 : decode cX5_tell 15 = .ok (.aload_n 0, 1) := by decide +kernel
theorem dX5_tell_16 : decode cX5_tell 16 = .ok (.getfield 28, 3) := by decide +kernel
theorem dX5_tell_19 : decode cX5_tell 19 = .ok (.if_icmp .ge 57, 3) := by decide +kernel
theorem dX5_tell_22 : decode cX5_tell 22 = .ok (.iload 4, 2) := by decide +kernel
theorem dX5_tell_24 : decode cX5_tell 24 = .ok (.bipush 30, 2) := by decide +kernel
theorem dX5_tell_26 : decode cX5_tell 26 = .ok (.if_icmp .ge 50, 3) := by decide +kernel
theorem dX5_tell_29 : decode cX5_tell 29 = .ok (.aload_n 0, 1) := by decide +kernel
theorem dX5_tell_30 : decode cX5_tell 30 = .ok (.getfield 9, 3) := by decide +kernel
theorem dX5_tell_33 : decode cX5_tell 33 = .ok (.iload 4, 2) := by decide +kernel
theorem dX5_tell_35 : decode cX5_tell 35 = .ok (.iaload, 1) := by decide +kernel
theorem dX5_tell_36 : decode cX5_tell 36 = .ok (.iload_n 1, 1) := by decide +kernel
theorem dX5_tell_37 : decode cX5_tell 37 = .ok (.if_icmp .ne 33, 3) := by decide +kernel
theorem dX5_tell_40 : decode cX5_tell 40 = .ok (.aload_n 0, 1) := by decide +kernel
theorem dX5_tell_41 : decode cX5_tell 41 = .ok (.getfield 15, 3) := by decide +kernel
theorem dX5_tell_44 : decode cX5_tell 44 = .ok (.iload 4, 2) := by decide +kernel
theorem dX5_tell_46 : decode cX5_tell 46 = .ok (.iaload, 1) := by decide +kernel
theorem dX5_tell_47 : decode cX5_tell 47 = .ok (.iload_n 2, 1) := by decide +kernel
theorem dX5_tell_48 : decode cX5_tell 48 = .ok (.if_icmp .ne 22, 3) := by decide +kernel
theorem dX5_tell_51 : decode cX5_tell 51 = .ok (.aload_n 0, 1) := by decide +kernel
theorem dX5_tell_52 : decode cX5_tell 52 = .ok (.getfield 18, 3) := by decide +kernel
theorem dX5_tell_55 : decode cX5_tell 55 = .ok (.iload 4, 2) := by decide +kernel
theorem dX5_tell_57 : decode cX5_tell 57 = .ok (.aload_n 0, 1) := by decide +kernel
theorem dX5_tell_58 : decode cX5_tell 58 = .ok (.getfield 18, 3) := by decide +kernel
theorem dX5_tell_61 : decode cX5_tell 61 = .ok (.iload 4, 2) := by decide +kernel
theorem dX5_tell_63 : decode cX5_tell 63 = .ok (.iaload, 1) := by decide +kernel
theorem dX5_tell_64 : decode cX5_tell 64 = .ok (.iload_n 3, 1) := by decide +kernel
theorem dX5_tell_65 : decode cX5_tell 65 = .ok (.invokestatic 31, 3) := by decide +kernel
theorem dX5_tell_68 : decode cX5_tell 68 = .ok (.iastore, 1) := by decide +kernel
theorem dX5_tell_69 : decode cX5_tell 69 = .ok (.return_, 1) := by decide +kernel
theorem dX5_tell_70 : decode cX5_tell 70 = .ok (.iinc 4 1, 3) := by decide +kernel
theorem dX5_tell_73 : decode cX5_tell 73 = .ok (.goto (-60), 3) := by decide +kernel
theorem dX5_tell_76 : decode cX5_tell 76 = .ok (.aload_n 0, 1) := by decide +kernel
theorem dX5_tell_77 : decode cX5_tell 77 = .ok (.getfield 28, 3) := by decide +kernel
theorem dX5_tell_80 : decode cX5_tell 80 = .ok (.bipush 30, 2) := by decide +kernel
theorem dX5_tell_82 : decode cX5_tell 82 = .ok (.if_icmp .ge 43, 3) := by decide +kernel
theorem dX5_tell_85 : decode cX5_tell 85 = .ok (.aload_n 0, 1) := by decide +kernel
theorem dX5_tell_86 : decode cX5_tell 86 = .ok (.getfield 9, 3) := by decide +kernel
theorem dX5_tell_89 : decode cX5_tell 89 = .ok (.aload_n 0, 1) := by decide +kernel
theorem dX5_tell_90 : decode cX5_tell 90 = .ok (.getfield 28, 3) := by decide +kernel
theorem dX5_tell_93 : decode cX5_tell 93 = .ok (.iload_n 1, 1) := by decide +kernel
theorem dX5_tell_94 : decode cX5_tell 94 = .ok (.iastore, 1) := by decide +kernel
theorem dX5_tell_95 : decode cX5_tell 95 = .ok (.aload_n 0, 1) := by decide +kernel
theorem dX5_tell_96 : decode cX5_tell 96 = .ok (.getfield 15, 3) := by decide +kernel
theorem dX5_tell_99 : decode cX5_tell 99 = .ok (.aload_n 0, 1) := by decide +kernel
theorem dX5_tell_100 : decode cX5_tell 100 = .ok (.getfield 28, 3) := by decide +kernel
theorem dX5_tell_103 : decode cX5_tell 103 = .ok (.iload_n 2, 1) := by decide +kernel
theorem dX5_tell_104 : decode cX5_tell 104 = .ok (.iastore, 1) := by decide +kernel
theorem dX5_tell_105 : decode cX5_tell 105 = .ok (.aload_n 0, 1) := by decide +kernel
theorem dX5_tell_106 : decode cX5_tell 106 = .ok (.getfield 18, 3) := by decide +kernel
theorem dX5_tell_109 : decode cX5_tell 109 = .ok (.aload_n 0, 1) := by decide +kernel
theorem dX5_tell_110 : decode cX5_tell 110 = .ok (.getfield 28, 3) := by decide +kernel
theorem dX5_tell_113 : decode cX5_tell 113 = .ok (.iload_n 3, 1) := by decide +kernel
theorem dX5_tell_114 : decode cX5_tell 114 = .ok (.iastore, 1) := by decide +kernel
theorem dX5_tell_115 : decode cX5_tell 115 = .ok (.aload_n 0, 1) := by decide +kernel
theorem dX5_tell_116 : decode cX5_tell 116 = .ok (.dup, 1) := by decide +kernel
theorem dX5_tell_117 : decode cX5_tell 117 = .ok (.getfield 28, 3) := by decide +kernel
theorem dX5_tell_120 : decode cX5_tell 120 = .ok (.iconst 1, 1) := by decide +kernel
theorem dX5_tell_121 : decode cX5_tell 121 = .ok (.iadd, 1) := by decide +kernel
theorem dX5_tell_122 : decode cX5_tell 122 = .ok (.putfield 28, 3) := by decide +kernel
theorem dX5_tell_125 : decode cX5_tell 125 = .ok (.return_, 1) := by decide +kernel
theorem dX5_sumOn_0 : decode cX5_sumOn 0 = .ok (.iconst 0, 1) := by decide +kernel
theorem dX5_sumOn_1 : decode cX5_sumOn 1 = .ok (.istore_n 2, 1) := by decide +kernel
theorem dX5_sumOn_2 : decode cX5_sumOn 2 = .ok (.iconst 0, 1) := by decide +kernel
theorem dX5_sumOn_3 : decode cX5_sumOn 3 = .ok (.istore_n 3, 1) := by decide +kernel
theorem dX5_sumOn_4 : decode cX5_sumOn 4 = .ok (.iload_n 3, 1) := by decide +kernel
theorem dX5_sumOn_5 : decode cX5_sumOn 5 = .ok (.aload_n 0, 1) := by decide +kernel
theorem dX5_sumOn_6 : decode cX5_sumOn 6 = .ok (.getfield 28, 3) := by decide +kernel
theorem dX5_sumOn_9 : decode cX5_sumOn 9 = .ok (.if_icmp .ge 37, 3) := by decide +kernel
theorem dX5_sumOn_12 : decode cX5_sumOn 12 = .ok (.iload_n 3, 1) := by decide +kernel
theorem dX5_sumOn_13 : decode cX5_sumOn 13 = .ok (.bipush 30, 2) := by decide +kernel
theorem dX5_sumOn_15 : decode cX5_sumOn 15 = .ok (.if_icmp .ge 31, 3) := by decide +kernel
theorem dX5_sumOn_18 : decode cX5_sumOn 18 = .ok (.aload_n 0, 1) := by decide +kernel
theorem dX5_sumOn_19 : decode cX5_sumOn 19 = .ok (.getfield 9, 3) := by decide +kernel
theorem dX5_sumOn_22 : decode cX5_sumOn 22 = .ok (.iload_n 3, 1) := by decide +kernel
theorem dX5_sumOn_23 : decode cX5_sumOn 23 = .ok (.iaload, 1) := by decide +kernel
theorem dX5_sumOn_24 : decode cX5_sumOn 24 = .ok (.iload_n 1, 1) := by decide +kernel
theorem dX5_sumOn_25 : decode cX5_sumOn 25 = .ok (.bipush 30, 2) := by decide +kernel
theorem dX5_sumOn_27 : decode cX5_sumOn 27 = .ok (.isub, 1) := by decide +kernel
theorem dX5_sumOn_28 : decode cX5_sumOn 28 = .ok (.if_icmp .le 12, 3) := by decide +kernel
theorem dX5_sumOn_31 : decode cX5_sumOn 31 = .ok (.iload_n 2, 1) := by decide +kernel
theorem dX5_sumOn_32 : decode cX5_sumOn 32 = .ok (.aload_n 0, 1) := by decide +kernel
theorem dX5_sumOn_33 : decode cX5_sumOn 33 = .ok (.getfield 18, 3) := by decide +kernel
theorem dX5_sumOn_36 : decode cX5_sumOn 36 = .ok (.iload_n 3, 1) := by decide +kernel
theorem dX5_sumOn_37 : decode cX5_sumOn 37 = .ok (.iaload, 1) := by decide +kernel
theorem dX5_sumOn_38 : decode cX5_sumOn 38 = .ok (.iadd, 1) := by decide +kernel
theorem dX5_sumOn_39 : decode cX5_sumOn 39 = .ok (.istore_n 2, 1) := by decide +kernel
theorem dX5_sumOn_40 : decode cX5_sumOn 40 = .ok (.iinc 3 1, 3) := by decide +kernel
theorem dX5_sumOn_43 : decode cX5_sumOn 43 = .ok (.goto (-39), 3) := by decide +kernel
theorem dX5_sumOn_46 : decode cX5_sumOn 46 = .ok (.iload_n 2, 1) := by decide +kernel
theorem dX5_sumOn_47 : decode cX5_sumOn 47 = .ok (.ireturn, 1) := by decide +kernel
theorem dX5_dayToSeeBy_0 : decode cX5_dayToSeeBy 0 = .ok (.iconst 0, 1) := by decide +kernel
theorem dX5_dayToSeeBy_1 : decode cX5_dayToSeeBy 1 = .ok (.istore_n 2, 1) := by decide +kernel
theorem dX5_dayToSeeBy_2 : decode cX5_dayToSeeBy 2 = .ok (.iload_n 2, 1) := by decide +kernel
theorem dX5_dayToSeeBy_3 : decode cX5_dayToSeeBy 3 = .ok (.aload_n 0, 1) := by decide +kernel
theorem dX5_dayToSeeBy_4 : decode cX5_dayToSeeBy 4 = .ok (.getfield 28, 3) := by decide +kernel
theorem dX5_dayToSeeBy_7 : decode cX5_dayToSeeBy 7 = .ok (.if_icmp .ge 57, 3) := by decide +kernel
theorem dX5_dayToSeeBy_10 : decode cX5_dayToSeeBy 10 = .ok (.iload_n 2, 1) := by decide +kernel
theorem dX5_dayToSeeBy_11 : decode cX5_dayToSeeBy 11 = .ok (.bipush 30, 2) := by decide +kernel
theorem dX5_dayToSeeBy_13 : decode cX5_dayToSeeBy 13 = .ok (.if_icmp .ge 51, 3) := by decide +kernel
theorem dX5_dayToSeeBy_16 : decode cX5_dayToSeeBy 16 = .ok (.aload_n 0, 1) := by decide +kernel
theorem dX5_dayToSeeBy_17 : decode cX5_dayToSeeBy 17 = .ok (.getfield 9, 3) := by decide +kernel
theorem dX5_dayToSeeBy_20 : decode cX5_dayToSeeBy 20 = .ok (.iload_n 2, 1) := by decide +kernel
theorem dX5_dayToSeeBy_21 : decode cX5_dayToSeeBy 21 = .ok (.iaload, 1) := by decide +kernel
theorem dX5_dayToSeeBy_22 : decode cX5_dayToSeeBy 22 = .ok (.iload_n 1, 1) := by decide +kernel
theorem dX5_dayToSeeBy_23 : decode cX5_dayToSeeBy 23 = .ok (.bipush 30, 2) := by decide +kernel
theorem dX5_dayToSeeBy_25 : decode cX5_dayToSeeBy 25 = .ok (.isub, 1) := by decide +kernel
theorem dX5_dayToSeeBy_26 : decode cX5_dayToSeeBy 26 = .ok (.if_icmp .le 32, 3) := by decide +kernel
theorem dX5_dayToSeeBy_29 : decode cX5_dayToSeeBy 29 = .ok (.aload_n 0, 1) := by decide +kernel
theorem dX5_dayToSeeBy_30 : decode cX5_dayToSeeBy 30 = .ok (.getfield 9, 3) := by decide +kernel
theorem dX5_dayToSeeBy_33 : decode cX5_dayToSeeBy 33 = .ok (.iload_n 2, 1) := by decide +kernel
theorem dX5_dayToSeeBy_34 : decode cX5_dayToSeeBy 34 = .ok (.iaload, 1) := by decide +kernel
theorem dX5_dayToSeeBy_35 : decode cX5_dayToSeeBy 35 = .ok (.aload_n 0, 1) := by decide +kernel
theorem dX5_dayToSeeBy_36 : decode cX5_dayToSeeBy 36 = .ok (.getfield 21, 3) := by decide +kernel
theorem dX5_dayToSeeBy_39 : decode cX5_dayToSeeBy 39 = .ok (.if_icmp .le 19, 3) := by decide +kernel
theorem dX5_dayToSeeBy_42 : decode cX5_dayToSeeBy 42 = .ok (.aload_n 0, 1) := by decide +kernel
theorem dX5_dayToSeeBy_43 : decode cX5_dayToSeeBy 43 = .ok (.getfield 9, 3) := by decide +kernel
theorem dX5_dayToSeeBy_46 : decode cX5_dayToSeeBy 46 = .ok (.iload_n 2, 1) := by decide +kernel
theorem dX5_dayToSeeBy_47 : decode cX5_dayToSeeBy 47 = .ok (.iaload, 1) := by decide +kernel
theorem dX5_dayToSeeBy_48 : decode cX5_dayToSeeBy 48 = .ok (.aload_n 0, 1) := by decide +kernel
theorem dX5_dayToSeeBy_49 : decode cX5_dayToSeeBy 49 = .ok (.iload_n 1, 1) := by decide +kernel
theorem dX5_dayToSeeBy_50 : decode cX5_dayToSeeBy 50 = .ok (.invokevirtual 37, 3) := by decide +kernel
theorem dX5_dayToSeeBy_53 : decode cX5_dayToSeeBy 53 = .ok (.invokestatic 41, 3) := by decide +kernel
theorem dX5_dayToSeeBy_56 : decode cX5_dayToSeeBy 56 = .ok (.iadd, 1) := by decide +kernel
theorem dX5_dayToSeeBy_57 : decode cX5_dayToSeeBy 57 = .ok (.ireturn, 1) := by decide +kernel
theorem dX5_dayToSeeBy_58 : decode cX5_dayToSeeBy 58 = .ok (.iinc 2 1, 3) := by decide +kernel
theorem dX5_dayToSeeBy_61 : decode cX5_dayToSeeBy 61 = .ok (.goto (-59), 3) := by decide +kernel
theorem dX5_dayToSeeBy_64 : decode cX5_dayToSeeBy 64 = .ok (.iconst (-1), 1) := by decide +kernel
theorem dX5_dayToSeeBy_65 : decode cX5_dayToSeeBy 65 = .ok (.ireturn, 1) := by decide +kernel
theorem dX5_daysToSee_0 : decode cX5_daysToSee 0 = .ok (.iload_n 0, 1) := by decide +kernel
theorem dX5_daysToSee_1 : decode cX5_daysToSee 1 = .ok (.bipush 12, 2) := by decide +kernel
theorem dX5_daysToSee_3 : decode cX5_daysToSee 3 = .ok (.if_icmp .lt 5, 3) := by decide +kernel
theorem dX5_daysToSee_6 : decode cX5_daysToSee 6 = .ok (.iconst 1, 1) := by decide +kernel
theorem dX5_daysToSee_7 : decode cX5_daysToSee 7 = .ok (.ireturn, 1) := by decide +kernel
theorem dX5_daysToSee_8 : decode cX5_daysToSee 8 = .ok (.iload_n 0, 1) := by decide +kernel
theorem dX5_daysToSee_9 : decode cX5_daysToSee 9 = .ok (.bipush 6, 2) := by decide +kernel
theorem dX5_daysToSee_11 : decode cX5_daysToSee 11 = .ok (.if_icmp .lt 7, 3) := by decide +kernel
theorem dX5_daysToSee_14 : decode cX5_daysToSee 14 = .ok (.iconst 5, 1) := by decide +kernel
theorem dX5_daysToSee_15 : decode cX5_daysToSee 15 = .ok (.goto 5, 3) := by decide +kernel
theorem dX5_daysToSee_18 : decode cX5_daysToSee 18 = .ok (.bipush 20, 2) := by decide +kernel
theorem dX5_daysToSee_20 : decode cX5_daysToSee 20 = .ok (.ireturn, 1) := by decide +kernel
theorem dX6_init_0 : decode cX6_init 0 = .ok (.aload_n 0, 1) := by decide +kernel
theorem dX6_init_1 : decode cX6_init 1 = .ok (.invokespecial 3, 3) := by decide +kernel
theorem dX6_init_4 : decode cX6_init 4 = .ok (.aload_n 0, 1) := by decide +kernel
theorem dX6_init_5 : decode cX6_init 5 = .ok (.aload_n 1, 1) := by decide +kernel
theorem dX6_init_6 : decode cX6_init 6 = .ok (.putfield 9, 3) := by decide +kernel
theorem dX6_init_9 : decode cX6_init 9 = .ok (.aload_n 0, 1) := by decide +kernel
theorem dX6_init_10 : decode cX6_init 10 = .ok (.aload_n 2, 1) := by decide +kernel
theorem dX6_init_11 : decode cX6_init 11 = .ok (.putfield 15, 3) := by decide +kernel
theorem dX6_init_14 : decode cX6_init 14 = .ok (.aload_n 0, 1) := by decide +kernel
theorem dX6_init_15 : decode cX6_init 15 = .ok (.iload_n 3, 1) := by decide +kernel
theorem dX6_init_16 : decode cX6_init 16 = .ok (.putfield 19, 3) := by decide +kernel
theorem dX6_init_19 : decode cX6_init 19 = .ok (.aload_n 0, 1) := by decide +kernel
theorem dX6_init_20 : decode cX6_init 20 = .ok (.iload 4, 2) := by decide +kernel
theorem dX6_init_22 : decode cX6_init 22 = .ok (.putfield 23, 3) := by decide +kernel
theorem dX6_init_25 : decode cX6_init 25 = .ok (.aload_n 0, 1) := by decide +kernel
theorem dX6_init_26 : decode cX6_init 26 = .ok (.iconst (-1), 1) := by decide +kernel
theorem dX6_init_27 : decode cX6_init 27 = .ok (.putfield 26, 3) := by decide +kernel
theorem dX6_init_30 : decode cX6_init 30 = .ok (.return_, 1) := by decide +kernel
theorem dX6_duesUpTo_0 : decode cX6_duesUpTo 0 = .ok (.aload_n 0, 1) := by decide +kernel
theorem dX6_duesUpTo_1 : decode cX6_duesUpTo 1 = .ok (.getfield 26, 3) := by decide +kernel
theorem dX6_duesUpTo_4 : decode cX6_duesUpTo 4 = .ok (.iconst (-1), 1) := by decide +kernel
theorem dX6_duesUpTo_5 : decode cX6_duesUpTo 5 = .ok (.if_icmp .ne 7, 3) := by decide +kernel
theorem dX6_duesUpTo_8 : decode cX6_duesUpTo 8 = .ok (.iload_n 1, 1) := by decide +kernel
theorem dX6_duesUpTo_9 : decode cX6_duesUpTo 9 = .ok (.goto 7, 3) := by decide +kernel
theorem dX6_duesUpTo_12 : decode cX6_duesUpTo 12 = .ok (.aload_n 0, 1) := by decide +kernel
theorem dX6_duesUpTo_13 : decode cX6_duesUpTo 13 = .ok (.getfield 26, 3) := by decide +kernel
theorem dX6_duesUpTo_16 : decode cX6_duesUpTo 16 = .ok (.istore_n 2, 1) := by decide +kernel
theorem dX6_duesUpTo_17 : decode cX6_duesUpTo 17 = .ok (.bipush 10, 2) := by decide +kernel
theorem dX6_duesUpTo_19 : decode cX6_duesUpTo 19 = .ok (.iconst 5, 1) := by decide +kernel
theorem dX6_duesUpTo_20 : decode cX6_duesUpTo 20 = .ok (.aload_n 0, 1) := by decide +kernel
theorem dX6_duesUpTo_21 : decode cX6_duesUpTo 21 = .ok (.getfield 9, 3) := by decide +kernel
theorem dX6_duesUpTo_24 : decode cX6_duesUpTo 24 = .ok (.getfield 29, 3) := by decide +kernel
theorem dX6_duesUpTo_27 : decode cX6_duesUpTo 27 = .ok (.invokestatic 34, 3) := by decide +kernel
theorem dX6_duesUpTo_30 : decode cX6_duesUpTo 30 = .ok (.imul, 1) := by decide +kernel
theorem dX6_duesUpTo_31 : decode cX6_duesUpTo 31 = .ok (.iadd, 1) := by decide +kernel
theorem dX6_duesUpTo_32 : decode cX6_duesUpTo 32 = .ok (.istore_n 3, 1) := by decide +kernel
theorem dX6_duesUpTo_33 : decode cX6_duesUpTo 33 = .ok (.iload_n 2, 1) := by decide +kernel
theorem dX6_duesUpTo_34 : decode cX6_duesUpTo 34 = .ok (.aload_n 0, 1) := by decide +kernel
theorem dX6_duesUpTo_35 : decode cX6_duesUpTo 35 = .ok (.getfield 19, 3) := by decide +kernel
theorem dX6_duesUpTo_38 : decode cX6_duesUpTo 38 = .ok (.isub, 1) := by decide +kernel
theorem dX6_duesUpTo_39 : decode cX6_duesUpTo 39 = .ok (.iload_n 3, 1) := by decide +kernel
theorem dX6_duesUpTo_40 : decode cX6_duesUpTo 40 = .ok (.imul, 1) := by decide +kernel
theorem dX6_duesUpTo_41 : decode cX6_duesUpTo 41 = .ok (.iload_n 2, 1) := by decide +kernel
theorem dX6_duesUpTo_42 : decode cX6_duesUpTo 42 = .ok (.aload_n 0, 1) := by decide +kernel
theorem dX6_duesUpTo_43 : decode cX6_duesUpTo 43 = .ok (.getfield 9, 3) := by decide +kernel
theorem dX6_duesUpTo_46 : decode cX6_duesUpTo 46 = .ok (.getfield 40, 3) := by decide +kernel
theorem dX6_duesUpTo_49 : decode cX6_duesUpTo 49 = .ok (.isub, 1) := by decide +kernel
theorem dX6_duesUpTo_50 : decode cX6_duesUpTo 50 = .ok (.invokestatic 43, 3) := by decide +kernel
theorem dX6_duesUpTo_53 : decode cX6_duesUpTo 53 = .ok (.iadd, 1) := by decide +kernel
theorem dX6_duesUpTo_54 : decode cX6_duesUpTo 54 = .ok (.aload_n 0, 1) := by decide +kernel
theorem dX6_duesUpTo_55 : decode cX6_duesUpTo 55 = .ok (.getfield 19, 3) := by decide +kernel
theorem dX6_duesUpTo_58 : decode cX6_duesUpTo 58 = .ok (.aload_n 0, 1) := by decide +kernel
theorem dX6_duesUpTo_59 : decode cX6_duesUpTo 59 = .ok (.getfield 9, 3) := by decide +kernel
theorem dX6_duesUpTo_62 : decode cX6_duesUpTo 62 = .ok (.getfield 40, 3) := by decide +kernel
theorem dX6_duesUpTo_65 : decode cX6_duesUpTo 65 = .ok (.isub, 1) := by decide +kernel
theorem dX6_duesUpTo_66 : decode cX6_duesUpTo 66 = .ok (.invokestatic 43, 3) := by decide +kernel
theorem dX6_duesUpTo_69 : decode cX6_duesUpTo 69 = .ok (.isub, 1) := by decide +kernel
theorem dX6_duesUpTo_70 : decode cX6_duesUpTo 70 = .ok (.ireturn, 1) := by decide +kernel
theorem dX6_yearsSummed_0 : decode cX6_yearsSummed 0 = .ok (.iload_n 0, 1) := by decide +kernel
theorem dX6_yearsSummed_1 : decode cX6_yearsSummed 1 = .ok (.sipush 365, 3) := by decide +kernel
theorem dX6_yearsSummed_4 : decode cX6_yearsSummed 4 = .ok (.idiv, 1) := by decide +kernel
theorem dX6_yearsSummed_5 : decode cX6_yearsSummed 5 = .ok (.istore_n 1, 1) := by decide +kernel
theorem dX6_yearsSummed_6 : decode cX6_yearsSummed 6 = .ok (.sipush 365, 3) := by decide +kernel
theorem dX6_yearsSummed_9 : decode cX6_yearsSummed 9 = .ok (.iload_n 1, 1) := by decide +kernel
theorem dX6_yearsSummed_10 : decode cX6_yearsSummed 10 = .ok (.iload_n 1, 1) := by decide +kernel
theorem dX6_yearsSummed_11 : decode cX6_yearsSummed 11 = .ok (.iconst 1, 1) := by decide +kernel
theorem dX6_yearsSummed_12 : decode cX6_yearsSummed 12 = .ok (.isub, 1) := by decide +kernel
theorem dX6_yearsSummed_13 : decode cX6_yearsSummed 13 = .ok (.imul, 1) := by decide +kernel
theorem dX6_yearsSummed_14 : decode cX6_yearsSummed 14 = .ok (.iconst 2, 1) := by decide +kernel
theorem dX6_yearsSummed_15 : decode cX6_yearsSummed 15 = .ok (.idiv, 1) := by decide +kernel
theorem dX6_yearsSummed_16 : decode cX6_yearsSummed 16 = .ok (.imul, 1) := by decide +kernel
theorem dX6_yearsSummed_17 : decode cX6_yearsSummed 17 = .ok (.iload_n 0, 1) := by decide +kernel
theorem dX6_yearsSummed_18 : decode cX6_yearsSummed 18 = .ok (.sipush 365, 3) := by decide +kernel
theorem dX6_yearsSummed_21 : decode cX6_yearsSummed 21 = .ok (.irem, 1) := by decide +kernel
theorem dX6_yearsSummed_22 : decode cX6_yearsSummed 22 = .ok (.iload_n 1, 1) := by decide +kernel
theorem dX6_yearsSummed_23 : decode cX6_yearsSummed 23 = .ok (.imul, 1) := by decide +kernel
theorem dX6_yearsSummed_24 : decode cX6_yearsSummed 24 = .ok (.iadd, 1) := by decide +kernel
theorem dX6_yearsSummed_25 : decode cX6_yearsSummed 25 = .ok (.ireturn, 1) := by decide +kernel
theorem dX7_init_0 : decode cX7_init 0 = .ok (.aload_n 0, 1) := by decide +kernel
theorem dX7_init_1 : decode cX7_init 1 = .ok (.invokespecial 1, 3) := by decide +kernel
theorem dX7_init_4 : decode cX7_init 4 = .ok (.aload_n 0, 1) := by decide +kernel
theorem dX7_init_5 : decode cX7_init 5 = .ok (.aload_n 1, 1) := by decide +kernel
theorem dX7_init_6 : decode cX7_init 6 = .ok (.ifnull 18, 3) := by decide +kernel
theorem dX7_init_9 : decode cX7_init 9 = .ok (.aload_n 1, 1) := by decide +kernel
theorem dX7_init_10 : decode cX7_init 10 = .ok (.getfield 7, 3) := by decide +kernel
theorem dX7_init_13 : decode cX7_init 13 = .ok (.iload_n 2, 1) := by decide +kernel
theorem dX7_init_14 : decode cX7_init 14 = .ok (.if_icmp .ne 10, 3) := by decide +kernel
theorem dX7_init_17 : decode cX7_init 17 = .ok (.aload_n 1, 1) := by decide +kernel
theorem dX7_init_18 : decode cX7_init 18 = .ok (.getfield 13, 3) := by decide +kernel
theorem dX7_init_21 : decode cX7_init 21 = .ok (.goto 4, 3) := by decide +kernel
theorem dX7_init_24 : decode cX7_init 24 = .ok (.aload_n 1, 1) := by decide +kernel
theorem dX7_init_25 : decode cX7_init 25 = .ok (.putfield 13, 3) := by decide +kernel
theorem dX7_init_28 : decode cX7_init 28 = .ok (.aload_n 0, 1) := by decide +kernel
theorem dX7_init_29 : decode cX7_init 29 = .ok (.iload_n 2, 1) := by decide +kernel
theorem dX7_init_30 : decode cX7_init 30 = .ok (.putfield 7, 3) := by decide +kernel
theorem dX7_init_33 : decode cX7_init 33 = .ok (.aload_n 0, 1) := by decide +kernel
theorem dX7_init_34 : decode cX7_init 34 = .ok (.iload_n 3, 1) := by decide +kernel
theorem dX7_init_35 : decode cX7_init 35 = .ok (.putfield 17, 3) := by decide +kernel
theorem dX7_init_38 : decode cX7_init 38 = .ok (.aload_n 0, 1) := by decide +kernel
theorem dX7_init_39 : decode cX7_init 39 = .ok (.iload 4, 2) := by decide +kernel
theorem dX7_init_41 : decode cX7_init 41 = .ok (.putfield 20, 3) := by decide +kernel
theorem dX7_init_44 : decode cX7_init 44 = .ok (.aload_n 0, 1) := by decide +kernel
theorem dX7_init_45 : decode cX7_init 45 = .ok (.iload 5, 2) := by decide +kernel
theorem dX7_init_47 : decode cX7_init 47 = .ok (.putfield 23, 3) := by decide +kernel
theorem dX7_init_50 : decode cX7_init 50 = .ok (.aload_n 0, 1) := by decide +kernel
theorem dX7_init_51 : decode cX7_init 51 = .ok (.iload 6, 2) := by decide +kernel
theorem dX7_init_53 : decode cX7_init 53 = .ok (.putfield 26, 3) := by decide +kernel
theorem dX7_init_56 : decode cX7_init 56 = .ok (.aload_n 0, 1) := by decide +kernel
theorem dX7_init_57 : decode cX7_init 57 = .ok (.iload 7, 2) := by decide +kernel
theorem dX7_init_59 : decode cX7_init 59 = .ok (.putfield 29, 3) := by decide +kernel
theorem dX7_init_62 : decode cX7_init 62 = .ok (.return_, 1) := by decide +kernel
theorem dX7_holdsOn_0 : decode cX7_holdsOn 0 = .ok (.aload_n 0, 1) := by decide +kernel
theorem dX7_holdsOn_1 : decode cX7_holdsOn 1 = .ok (.getfield 17, 3) := by decide +kernel
theorem dX7_holdsOn_4 : decode cX7_holdsOn 4 = .ok (.iload_n 1, 1) := by decide +kernel
theorem dX7_holdsOn_5 : decode cX7_holdsOn 5 = .ok (.if_icmp .gt 15, 3) := by decide +kernel
theorem dX7_holdsOn_8 : decode cX7_holdsOn 8 = .ok (.iload_n 1, 1) := by decide +kernel
theorem dX7_holdsOn_9 : decode cX7_holdsOn 9 = .ok (.aload_n 0, 1) := by decide +kernel
theorem dX7_holdsOn_10 : decode cX7_holdsOn 10 = .ok (.getfield 20, 3) := by decide +kernel
theorem dX7_holdsOn_13 : decode cX7_holdsOn 13 = .ok (.if_icmp .gt 7, 3) := by decide +kernel
theorem dX7_holdsOn_16 : decode cX7_holdsOn 16 = .ok (.iconst 1, 1) := by decide +kernel
theorem dX7_holdsOn_17 : decode cX7_holdsOn 17 = .ok (.goto 4, 3) := by decide +kernel
theorem dX7_holdsOn_20 : decode cX7_holdsOn 20 = .ok (.iconst 0, 1) := by decide +kernel
theorem dX7_holdsOn_21 : decode cX7_holdsOn 21 = .ok (.ireturn, 1) := by decide +kernel
theorem dX7_toldBy_0 : decode cX7_toldBy 0 = .ok (.aload_n 0, 1) := by decide +kernel
theorem dX7_toldBy_1 : decode cX7_toldBy 1 = .ok (.astore_n 2, 1) := by decide +kernel
theorem dX7_toldBy_2 : decode cX7_toldBy 2 = .ok (.aload_n 2, 1) := by decide +kernel
theorem dX7_toldBy_3 : decode cX7_toldBy 3 = .ok (.ifnull 19, 3) := by decide +kernel
theorem dX7_toldBy_6 : decode cX7_toldBy 6 = .ok (.aload_n 2, 1) := by decide +kernel
theorem dX7_toldBy_7 : decode cX7_toldBy 7 = .ok (.getfield 7, 3) := by decide +kernel
theorem dX7_toldBy_10 : decode cX7_toldBy 10 = .ok (.iload_n 1, 1) := by decide +kernel
theorem dX7_toldBy_11 : decode cX7_toldBy 11 = .ok (.if_icmp .le 11, 3) := by decide +kernel
theorem dX7_toldBy_14 : decode cX7_toldBy 14 = .ok (.aload_n 2, 1) := by decide +kernel
theorem dX7_toldBy_15 : decode cX7_toldBy 15 = .ok (.getfield 13, 3) := by decide +kernel
theorem dX7_toldBy_18 : decode cX7_toldBy 18 = .ok (.astore_n 2, 1) := by decide +kernel
theorem dX7_toldBy_19 : decode cX7_toldBy 19 = .ok (.goto (-17), 3) := by decide +kernel
theorem dX7_toldBy_22 : decode cX7_toldBy 22 = .ok (.aload_n 2, 1) := by decide +kernel
theorem dX7_toldBy_23 : decode cX7_toldBy 23 = .ok (.areturn, 1) := by decide +kernel
theorem dX8_init_0 : decode cX8_init 0 = .ok (.aload_n 0, 1) := by decide +kernel
theorem dX8_init_1 : decode cX8_init 1 = .ok (.invokespecial 1, 3) := by decide +kernel
theorem dX8_init_4 : decode cX8_init 4 = .ok (.aload_n 0, 1) := by decide +kernel
theorem dX8_init_5 : decode cX8_init 5 = .ok (.bipush 16, 2) := by decide +kernel
theorem dX8_init_7 : decode cX8_init 7 = .ok (.anewarray 9, 3) := by decide +kernel
theorem dX8_init_10 : decode cX8_init 10 = .ok (.putfield 11, 3) := by decide +kernel
theorem dX8_init_13 : decode cX8_init 13 = .ok (.aload_n 0, 1) := by decide +kernel
theorem dX8_init_14 : decode cX8_init 14 = .ok (.bipush 10, 2) := by decide +kernel
theorem dX8_init_16 : decode cX8_init 16 = .ok (.anewarray 15, 3) := by decide +kernel
theorem dX8_init_19 : decode cX8_init 19 = .ok (.putfield 17, 3) := by decide +kernel
theorem dX8_init_22 : decode cX8_init 22 = .ok (.aload_n 0, 1) := by decide +kernel
theorem dX8_init_23 : decode cX8_init 23 = .ok (.bipush 100, 2) := by decide +kernel
theorem dX8_init_25 : decode cX8_init 25 = .ok (.anewarray 21, 3) := by decide +kernel
theorem dX8_init_28 : decode cX8_init 28 = .ok (.putfield 23, 3) := by decide +kernel
theorem dX8_init_31 : decode cX8_init 31 = .ok (.aload_n 0, 1) := by decide +kernel
theorem dX8_init_32 : decode cX8_init 32 = .ok (.new 27, 3) := by decide +kernel
theorem dX8_init_35 : decode cX8_init 35 = .ok (.dup, 1) := by decide +kernel
theorem dX8_init_36 : decode cX8_init 36 = .ok (.invokespecial 29, 3) := by decide +kernel
theorem dX8_init_39 : decode cX8_init 39 = .ok (.putfield 30, 3) := by decide +kernel
theorem dX8_init_42 : decode cX8_init 42 = .ok (.return_, 1) := by decide +kernel
theorem dX8_child_0 : decode cX8_child 0 = .ok (.iload_n 1, 1) := by decide +kernel
theorem dX8_child_1 : decode cX8_child 1 = .ok (.iconst 0, 1) := by decide +kernel
theorem dX8_child_2 : decode cX8_child 2 = .ok (.sipush 7000, 3) := by decide +kernel
theorem dX8_child_5 : decode cX8_child 5 = .ok (.invokestatic 34, 3) := by decide +kernel
theorem dX8_child_8 : decode cX8_child 8 = .ok (.ifCond .eq 48, 3) := by decide +kernel
theorem dX8_child_11 : decode cX8_child 11 = .ok (.iload_n 2, 1) := by decide +kernel
theorem dX8_child_12 : decode cX8_child 12 = .ok (.iconst 0, 1) := by decide +kernel
theorem dX8_child_13 : decode cX8_child 13 = .ok (.bipush 15, 2) := by decide +kernel
theorem dX8_child_15 : decode cX8_child 15 = .ok (.invokestatic 34, 3) := by decide +kernel
theorem dX8_child_18 : decode cX8_child 18 = .ok (.ifCond .eq 38, 3) := by decide +kernel
theorem dX8_child_21 : decode cX8_child 21 = .ok (.iload_n 3, 1) := by decide +kernel
theorem dX8_child_22 : decode cX8_child 22 = .ok (.iconst 0, 1) := by decide +kernel
theorem dX8_child_23 : decode cX8_child 23 = .ok (.bipush 7, 2) := by decide +kernel
theorem dX8_child_25 : decode cX8_child 25 = .ok (.invokestatic 34, 3) := by decide +kernel
theorem dX8_child_28 : decode cX8_child 28 = .ok (.ifCond .eq 28, 3) := by decide +kernel
theorem dX8_child_31 : decode cX8_child 31 = .ok (.iload 4, 2) := by decide +kernel
theorem dX8_child_33 : decode cX8_child 33 = .ok (.iconst 0, 1) := by decide +kernel
theorem dX8_child_34 : decode cX8_child 34 = .ok (.bipush 50, 2) := by decide +kernel
theorem dX8_child_36 : decode cX8_child 36 = .ok (.invokestatic 34, 3) := by decide +kernel
theorem dX8_child_39 : decode cX8_child 39 = .ok (.ifCond .eq 17, 3) := by decide +kernel
theorem dX8_child_42 : decode cX8_child 42 = .ok (.iload 5, 2) := by decide +kernel
theorem dX8_child_44 : decode cX8_child 44 = .ok (.iconst 0, 1) := by decide +kernel
theorem dX8_child_45 : decode cX8_child 45 = .ok (.iconst 3, 1) := by decide +kernel
theorem dX8_child_46 : decode cX8_child 46 = .ok (.invokestatic 34, 3) := by decide +kernel
theorem dX8_child_49 : decode cX8_child 49 = .ok (.ifCond .eq 7, 3) := by decide +kernel
theorem dX8_child_52 : decode cX8_child 52 = .ok (.iconst 1, 1) := by decide +kernel
theorem dX8_child_53 : decode cX8_child 53 = .ok (.goto 4, 3) := by decide +kernel
theorem dX8_child_56 : decode cX8_child 56 = .ok (.iconst 0, 1) := by decide +kernel
theorem dX8_child_57 : decode cX8_child 57 = .ok (.invokestatic 38, 3) := by decide +kernel
theorem dX8_child_60 : decode cX8_child 60 = .ok (.aload_n 0, 1) := by decide +kernel
theorem dX8_child_61 : decode cX8_child 61 = .ok (.getfield 42, 3) := by decide +kernel
theorem dX8_child_64 : decode cX8_child 64 = .ok (.aload_n 0, 1) := by decide +kernel
theorem dX8_child_65 : decode cX8_child 65 = .ok (.getfield 11, 3) := by decide +kernel
theorem dX8_child_68 : decode cX8_child 68 = .ok (.arraylength, 1) := by decide +kernel
theorem dX8_child_69 : decode cX8_child 69 = .ok (.if_icmp .lt 13, 3) := by decide +kernel
theorem dX8_child_72 : decode cX8_child 72 = .ok (.new 46, 3) := by decide +kernel
theorem dX8_child_75 : decode cX8_child 75 = .ok (.dup, 1) := by decide +kernel
theorem dX8_child_76 : decode cX8_child 76 = .ok (.ldc 48, 2) := by decide +kernel
theorem dX8_child_78 : decode cX8_child 78 = .ok (.invokespecial 50, 3) := by decide +kernel
theorem dX8_child_81 : decode cX8_child 81 = .ok (.athrow, 1) := by decide +kernel
theorem dX8_child_82 : decode cX8_child 82 = .ok (.aload_n 0, 1) := by decide +kernel
theorem dX8_child_83 : decode cX8_child 83 = .ok (.getfield 42, 3) := by decide +kernel
theorem dX8_child_86 : decode cX8_child 86 = .ok (.istore 6, 2) := by decide +kernel
theorem dX8_child_88 : decode cX8_child 88 = .ok (.aload_n 0, 1) := by decide +kernel
theorem dX8_child_89 : decode cX8_child 89 = .ok (.getfield 11, 3) := by decide +kernel
theorem dX8_child_92 : decode cX8_child 92 = .ok (.iload 6, 2) := by decide +kernel
theorem dX8_child_94 : decode cX8_child 94 = .ok (.new 9, 3) := by decide +kernel
theorem dX8_child_97 : decode cX8_child 97 = .ok (.dup, 1) := by decide +kernel
theorem dX8_child_98 : decode cX8_child 98 = .ok (.iload 6, 2) := by decide +kernel
theorem dX8_child_100 : decode cX8_child 100 = .ok (.aload_n 0, 1) := by decide +kernel
theorem dX8_child_101 : decode cX8_child 101 = .ok (.getfield 53, 3) := by decide +kernel
theorem dX8_child_104 : decode cX8_child 104 = .ok (.iload_n 1, 1) := by decide +kernel
theorem dX8_child_105 : decode cX8_child 105 = .ok (.isub, 1) := by decide +kernel
theorem dX8_child_106 : decode cX8_child 106 = .ok (.iload_n 2, 1) := by decide +kernel
theorem dX8_child_107 : decode cX8_child 107 = .ok (.iload_n 3, 1) := by decide +kernel
theorem dX8_child_108 : decode cX8_child 108 = .ok (.iload 4, 2) := by decide +kernel
theorem dX8_child_110 : decode cX8_child 110 = .ok (.iload 5, 2) := by decide +kernel
theorem dX8_child_112 : decode cX8_child 112 = .ok (.aload_n 0, 1) := by decide +kernel
theorem dX8_child_113 : decode cX8_child 113 = .ok (.invokevirtual 56, 3) := by decide +kernel
theorem dX8_child_116 : decode cX8_child 116 = .ok (.invokespecial 60, 3) := by decide +kernel
theorem dX8_child_119 : decode cX8_child 119 = .ok (.aastore, 1) := by decide +kernel
theorem dX8_child_120 : decode cX8_child 120 = .ok (.aload_n 0, 1) := by decide +kernel
theorem dX8_child_121 : decode cX8_child 121 = .ok (.iload 6, 2) := by decide +kernel
theorem dX8_child_123 : decode cX8_child 123 = .ok (.iconst 1, 1) := by decide +kernel
theorem dX8_child_124 : decode cX8_child 124 = .ok (.iadd, 1) := by decide +kernel
theorem dX8_child_125 : decode cX8_child 125 = .ok (.putfield 42, 3) := by decide +kernel
theorem dX8_child_128 : decode cX8_child 128 = .ok (.iload 6, 2) := by decide +kernel
theorem dX8_child_130 : decode cX8_child 130 = .ok (.ireturn, 1) := by decide +kernel
theorem dX8_home_0 : decode cX8_home 0 = .ok (.iload_n 1, 1) := by decide +kernel
theorem dX8_home_1 : decode cX8_home 1 = .ok (.iconst 0, 1) := by decide +kernel
theorem dX8_home_2 : decode cX8_home 2 = .ok (.bipush 50, 2) := by decide +kernel
theorem dX8_home_4 : decode cX8_home 4 = .ok (.invokestatic 34, 3) := by decide +kernel
theorem dX8_home_7 : decode cX8_home 7 = .ok (.ifCond .eq 25, 3) := by decide +kernel
theorem dX8_home_10 : decode cX8_home 10 = .ok (.iload_n 2, 1) := by decide +kernel
theorem dX8_home_11 : decode cX8_home 11 = .ok (.iconst 0, 1) := by decide +kernel
theorem dX8_home_12 : decode cX8_home 12 = .ok (.iconst 3, 1) := by decide +kernel
theorem dX8_home_13 : decode cX8_home 13 = .ok (.invokestatic 34, 3) := by decide +kernel
theorem dX8_home_16 : decode cX8_home 16 = .ok (.ifCond .eq 16, 3) := by decide +kernel
theorem dX8_home_19 : decode cX8_home 19 = .ok (.iload_n 3, 1) := by decide +kernel
theorem dX8_home_20 : decode cX8_home 20 = .ok (.iconst 1, 1) := by decide +kernel
theorem dX8_home_21 : decode cX8_home 21 = .ok (.iconst 5, 1) := by decide +kernel
theorem dX8_home_22 : decode cX8_home 22 = .ok (.invokestatic 34, 3) := by decide +kernel
theorem dX8_home_25 : decode cX8_home 25 = .ok (.ifCond .eq 7, 3) := by decide +kernel
theorem dX8_home_28 : decode cX8_home 28 = .ok (.iconst 1, 1) := by decide +kernel
theorem dX8_home_29 : decode cX8_home 29 = .ok (.goto 4, 3) := by decide +kernel
theorem dX8_home_32 : decode cX8_home 32 = .ok (.iconst 0, 1) := by decide +kernel
theorem dX8_home_33 : decode cX8_home 33 = .ok (.invokestatic 38, 3) := by decide +kernel
theorem dX8_home_36 : decode cX8_home 36 = .ok (.aload_n 0, 1) := by decide +kernel
theorem dX8_home_37 : decode cX8_home 37 = .ok (.getfield 63, 3) := by decide +kernel
theorem dX8_home_40 : decode cX8_home 40 = .ok (.aload_n 0, 1) := by decide +kernel
theorem dX8_home_41 : decode cX8_home 41 = .ok (.getfield 17, 3) := by decide +kernel
theorem dX8_home_44 : decode cX8_home 44 = .ok (.arraylength, 1) := by decide +kernel
theorem dX8_home_45 : decode cX8_home 45 = .ok (.if_icmp .lt 13, 3) := by decide +kernel
theorem dX8_home_48 : decode cX8_home 48 = .ok (.new 46, 3) := by decide +kernel
theorem dX8_home_51 : decode cX8_home 51 = .ok (.dup, 1) := by decide +kernel
theorem dX8_home_52 : decode cX8_home 52 = .ok (.ldc 66, 2) := by decide +kernel
theorem dX8_home_54 : decode cX8_home 54 = .ok (.invokespecial 50, 3) := by decide +kernel
theorem dX8_home_57 : decode cX8_home 57 = .ok (.athrow, 1) := by decide +kernel
theorem dX8_home_58 : decode cX8_home 58 = .ok (.aload_n 0, 1) := by decide +kernel
theorem dX8_home_59 : decode cX8_home 59 = .ok (.getfield 63, 3) := by decide +kernel
theorem dX8_home_62 : decode cX8_home 62 = .ok (.istore 4, 2) := by decide +kernel
theorem dX8_home_64 : decode cX8_home 64 = .ok (.aload_n 0, 1) := by decide +kernel
theorem dX8_home_65 : decode cX8_home 65 = .ok (.getfield 17, 3) := by decide +kernel
theorem dX8_home_68 : decode cX8_home 68 = .ok (.iload 4, 2) := by decide +kernel
theorem dX8_home_70 : decode cX8_home 70 = .ok (.new 15, 3) := by decide +kernel
theorem dX8_home_73 : decode cX8_home 73 = .ok (.dup, 1) := by decide +kernel
theorem dX8_home_74 : decode cX8_home 74 = .ok (.iload 4, 2) := by decide +kernel
theorem dX8_home_76 : decode cX8_home 76 = .ok (.iload_n 1, 1) := by decide +kernel
theorem dX8_home_77 : decode cX8_home 77 = .ok (.iload_n 2, 1) := by decide +kernel
theorem dX8_home_78 : decode cX8_home 78 = .ok (.iload_n 3, 1) := by decide +kernel
theorem dX8_home_79 : decode cX8_home 79 = .ok (.invokespecial 68, 3) := by decide +kernel
theorem dX8_home_82 : decode cX8_home 82 = .ok (.aastore, 1) := by decide +kernel
theorem dX8_home_83 : decode cX8_home 83 = .ok (.aload_n 0, 1) := by decide +kernel
theorem dX8_home_84 : decode cX8_home 84 = .ok (.iload 4, 2) := by decide +kernel
theorem dX8_home_86 : decode cX8_home 86 = .ok (.iconst 1, 1) := by decide +kernel
theorem dX8_home_87 : decode cX8_home 87 = .ok (.iadd, 1) := by decide +kernel
theorem dX8_home_88 : decode cX8_home 88 = .ok (.putfield 63, 3) := by decide +kernel
theorem dX8_home_91 : decode cX8_home 91 = .ok (.iload 4, 2) := by decide +kernel
theorem dX8_home_93 : decode cX8_home 93 = .ok (.ireturn, 1) := by decide +kernel
theorem dX8_approve_0 : decode cX8_approve 0 = .ok (.aload_n 0, 1) := by decide +kernel
theorem dX8_approve_1 : decode cX8_approve 1 = .ok (.iload_n 1, 1) := by decide +kernel
theorem dX8_approve_2 : decode cX8_approve 2 = .ok (.invokevirtual 71, 3) := by decide +kernel
theorem dX8_approve_5 : decode cX8_approve 5 = .ok (.astore 5, 2) := by decide +kernel
theorem dX8_approve_7 : decode cX8_approve 7 = .ok (.iload_n 2, 1) := by decide +kernel
theorem dX8_approve_8 : decode cX8_approve 8 = .ok (.iconst 0, 1) := by decide +kernel
theorem dX8_approve_9 : decode cX8_approve 9 = .ok (.bipush 17, 2) := by decide +kernel
theorem dX8_approve_11 : decode cX8_approve 11 = .ok (.invokestatic 34, 3) := by decide +kernel
theorem dX8_approve_14 : decode cX8_approve 14 = .ok (.ifCond .eq 29, 3) := by decide +kernel
theorem dX8_approve_17 : decode cX8_approve 17 = .ok (.iload_n 3, 1) := by decide +kernel
theorem dX8_approve_18 : decode cX8_approve 18 = .ok (.iload_n 2, 1) := by decide +kernel
theorem dX8_approve_19 : decode cX8_approve 19 = .ok (.bipush 17, 2) := by decide +kernel
theorem dX8_approve_21 : decode cX8_approve 21 = .ok (.invokestatic 34, 3) := by decide +kernel
theorem dX8_approve_24 : decode cX8_approve 24 = .ok (.ifCond .eq 19, 3) := by decide +kernel
theorem dX8_approve_27 : decode cX8_approve 27 = .ok (.iload 4, 2) := by decide +kernel
theorem dX8_approve_29 : decode cX8_approve 29 = .ok (.iconst 0, 1) := by decide +kernel
theorem dX8_approve_30 : decode cX8_approve 30 = .ok (.sipush 20000, 3) := by decide +kernel
theorem dX8_approve_33 : decode cX8_approve 33 = .ok (.invokestatic 34, 3) := by decide +kernel
theorem dX8_approve_36 : decode cX8_approve 36 = .ok (.ifCond .eq 7, 3) := by decide +kernel
theorem dX8_approve_39 : decode cX8_approve 39 = .ok (.iconst 1, 1) := by decide +kernel
theorem dX8_approve_40 : decode cX8_approve 40 = .ok (.goto 4, 3) := by decide +kernel
theorem dX8_approve_43 : decode cX8_approve 43 = .ok (.iconst 0, 1) := by decide +kernel
theorem dX8_approve_44 : decode cX8_approve 44 = .ok (.invokestatic 38, 3) := by decide +kernel
theorem dX8_approve_47 : decode cX8_approve 47 = .ok (.aload 5, 2) := by decide +kernel
theorem dX8_approve_49 : decode cX8_approve 49 = .ok (.new 75, 3) := by decide +kernel
theorem dX8_approve_52 : decode cX8_approve 52 = .ok (.dup, 1) := by decide +kernel
theorem dX8_approve_53 : decode cX8_approve 53 = .ok (.aload 5, 2) := by decide +kernel
theorem dX8_approve_55 : decode cX8_approve 55 = .ok (.getfield 77, 3) := by decide +kernel
theorem dX8_approve_58 : decode cX8_approve 58 = .ok (.aload_n 0, 1) := by decide +kernel
theorem dX8_approve_59 : decode cX8_approve 59 = .ok (.getfield 53, 3) := by decide +kernel
theorem dX8_approve_62 : decode cX8_approve 62 = .ok (.aload_n 0, 1) := by decide +kernel
theorem dX8_approve_63 : decode cX8_approve 63 = .ok (.getfield 53, 3) := by decide +kernel
theorem dX8_approve_66 : decode cX8_approve 66 = .ok (.iload 4, 2) := by decide +kernel
theorem dX8_approve_68 : decode cX8_approve 68 = .ok (.iload_n 2, 1) := by decide +kernel
theorem dX8_approve_69 : decode cX8_approve 69 = .ok (.iload_n 3, 1) := by decide +kernel
theorem dX8_approve_70 : decode cX8_approve 70 = .ok (.iconst 0, 1) := by decide +kernel
theorem dX8_approve_71 : decode cX8_approve 71 = .ok (.invokespecial 81, 3) := by decide +kernel
theorem dX8_approve_74 : decode cX8_approve 74 = .ok (.putfield 77, 3) := by decide +kernel
theorem dX8_approve_77 : decode cX8_approve 77 = .ok (.return_, 1) := by decide +kernel
theorem dX8_train_0 : decode cX8_train 0 = .ok (.aload_n 0, 1) := by decide +kernel
theorem dX8_train_1 : decode cX8_train 1 = .ok (.iload_n 1, 1) := by decide +kernel
theorem dX8_train_2 : decode cX8_train 2 = .ok (.invokevirtual 71, 3) := by decide +kernel
theorem dX8_train_5 : decode cX8_train 5 = .ok (.astore 4, 2) := by decide +kernel
theorem dX8_train_7 : decode cX8_train 7 = .ok (.iload_n 2, 1) := by decide +kernel
theorem dX8_train_8 : decode cX8_train 8 = .ok (.iconst 0, 1) := by decide +kernel
theorem dX8_train_9 : decode cX8_train 9 = .ok (.bipush 15, 2) := by decide +kernel
theorem dX8_train_11 : decode cX8_train 11 = .ok (.invokestatic 34, 3) := by decide +kernel
theorem dX8_train_14 : decode cX8_train 14 = .ok (.ifCond .eq 18, 3) := by decide +kernel
theorem dX8_train_17 : decode cX8_train 17 = .ok (.iload_n 3, 1) := by decide +kernel
theorem dX8_train_18 : decode cX8_train 18 = .ok (.iconst 0, 1) := by decide +kernel
theorem dX8_train_19 : decode cX8_train 19 = .ok (.sipush 20000, 3) := by decide +kernel
theorem dX8_train_22 : decode cX8_train 22 = .ok (.invokestatic 34, 3) := by decide +kernel
theorem dX8_train_25 : decode cX8_train 25 = .ok (.ifCond .eq 7, 3) := by decide +kernel
theorem dX8_train_28 : decode cX8_train 28 = .ok (.iconst 1, 1) := by decide +kernel
theorem dX8_train_29 : decode cX8_train 29 = .ok (.goto 4, 3) := by decide +kernel
theorem dX8_train_32 : decode cX8_train 32 = .ok (.iconst 0, 1) := by decide +kernel
theorem dX8_train_33 : decode cX8_train 33 = .ok (.invokestatic 38, 3) := by decide +kernel
theorem dX8_train_36 : decode cX8_train 36 = .ok (.aload 4, 2) := by decide +kernel
theorem dX8_train_38 : decode cX8_train 38 = .ok (.new 75, 3) := by decide +kernel
theorem dX8_train_41 : decode cX8_train 41 = .ok (.dup, 1) := by decide +kernel
theorem dX8_train_42 : decode cX8_train 42 = .ok (.aload 4, 2) := by decide +kernel
theorem dX8_train_44 : decode cX8_train 44 = .ok (.getfield 84, 3) := by decide +kernel
theorem dX8_train_47 : decode cX8_train 47 = .ok (.aload_n 0, 1) := by decide +kernel
theorem dX8_train_48 : decode cX8_train 48 = .ok (.getfield 53, 3) := by decide +kernel
theorem dX8_train_51 : decode cX8_train 51 = .ok (.aload_n 0, 1) := by decide +kernel
theorem dX8_train_52 : decode cX8_train 52 = .ok (.getfield 53, 3) := by decide +kernel
theorem dX8_train_55 : decode cX8_train 55 = .ok (.iload_n 3, 1) := by decide +kernel
end
section
theorem dX8_train_56 : decode cX8_train 56 = .ok (.iconst 0, 1) := by decide +kernel
theorem dX8_train_57 : decode cX8_train 57 = .ok (.iconst 0, 1) := by decide +kernel
theorem dX8_train_58 : decode cX8_train 58 = .ok (.iload_n 2, 1) := by decide +kernel
theorem dX8_train_59 : decode cX8_train 59 = .ok (.invokespecial 81, 3) := by decide +kernel
theorem dX8_train_62 : decode cX8_train 62 = .ok (.putfield 84, 3) := by decide +kernel
theorem dX8_train_65 : decode cX8_train 65 = .ok (.return_, 1) := by decide +kernel
theorem dX8_rest_0 : decode cX8_rest 0 = .ok (.aload_n 0, 1) := by decide +kernel
theorem dX8_rest_1 : decode cX8_rest 1 = .ok (.iload_n 1, 1) := by decide +kernel
theorem dX8_rest_2 : decode cX8_rest 2 = .ok (.invokevirtual 71, 3) := by decide +kernel
theorem dX8_rest_5 : decode cX8_rest 5 = .ok (.astore 4, 2) := by decide +kernel
theorem dX8_rest_7 : decode cX8_rest 7 = .ok (.iload_n 2, 1) := by decide +kernel
theorem dX8_rest_8 : decode cX8_rest 8 = .ok (.aload_n 0, 1) := by decide +kernel
theorem dX8_rest_9 : decode cX8_rest 9 = .ok (.getfield 53, 3) := by decide +kernel
theorem dX8_rest_12 : decode cX8_rest 12 = .ok (.sipush 20000, 3) := by decide +kernel
theorem dX8_rest_15 : decode cX8_rest 15 = .ok (.invokestatic 34, 3) := by decide +kernel
theorem dX8_rest_18 : decode cX8_rest 18 = .ok (.ifCond .eq 18, 3) := by decide +kernel
theorem dX8_rest_21 : decode cX8_rest 21 = .ok (.iload_n 3, 1) := by decide +kernel
theorem dX8_rest_22 : decode cX8_rest 22 = .ok (.iload_n 2, 1) := by decide +kernel
theorem dX8_rest_23 : decode cX8_rest 23 = .ok (.sipush 20000, 3) := by decide +kernel
theorem dX8_rest_26 : decode cX8_rest 26 = .ok (.invokestatic 34, 3) := by decide +kernel
theorem dX8_rest_29 : decode cX8_rest 29 = .ok (.ifCond .eq 7, 3) := by decide +kernel
theorem dX8_rest_32 : decode cX8_rest 32 = .ok (.iconst 1, 1) := by decide +kernel
theorem dX8_rest_33 : decode cX8_rest 33 = .ok (.goto 4, 3) := by decide +kernel
theorem dX8_rest_36 : decode cX8_rest 36 = .ok (.iconst 0, 1) := by decide +kernel
theorem dX8_rest_37 : decode cX8_rest 37 = .ok (.invokestatic 38, 3) := by decide +kernel
theorem dX8_rest_40 : decode cX8_rest 40 = .ok (.aload 4, 2) := by decide +kernel
theorem dX8_rest_42 : decode cX8_rest 42 = .ok (.new 75, 3) := by decide +kernel
theorem dX8_rest_45 : decode cX8_rest 45 = .ok (.dup, 1) := by decide +kernel
theorem dX8_rest_46 : decode cX8_rest 46 = .ok (.aload 4, 2) := by decide +kernel
theorem dX8_rest_48 : decode cX8_rest 48 = .ok (.getfield 87, 3) := by decide +kernel
theorem dX8_rest_51 : decode cX8_rest 51 = .ok (.aload_n 0, 1) := by decide +kernel
theorem dX8_rest_52 : decode cX8_rest 52 = .ok (.getfield 53, 3) := by decide +kernel
theorem dX8_rest_55 : decode cX8_rest 55 = .ok (.iload_n 2, 1) := by decide +kernel
theorem dX8_rest_56 : decode cX8_rest 56 = .ok (.iload_n 3, 1) := by decide +kernel
theorem dX8_rest_57 : decode cX8_rest 57 = .ok (.iconst 0, 1) := by decide +kernel
theorem dX8_rest_58 : decode cX8_rest 58 = .ok (.iconst 0, 1) := by decide +kernel
theorem dX8_rest_59 : decode cX8_rest 59 = .ok (.iconst 0, 1) := by decide +kernel
theorem dX8_rest_60 : decode cX8_rest 60 = .ok (.invokespecial 81, 3) := by decide +kernel
theorem dX8_rest_63 : decode cX8_rest 63 = .ok (.putfield 87, 3) := by decide +kernel
theorem dX8_rest_66 : decode cX8_rest 66 = .ok (.return_, 1) := by decide +kernel
theorem dX8_report_0 : decode cX8_report 0 = .ok (.aload_n 0, 1) := by decide +kernel
theorem dX8_report_1 : decode cX8_report 1 = .ok (.iload_n 1, 1) := by decide +kernel
theorem dX8_report_2 : decode cX8_report 2 = .ok (.invokevirtual 90, 3) := by decide +kernel
theorem dX8_report_5 : decode cX8_report 5 = .ok (.astore 4, 2) := by decide +kernel
theorem dX8_report_7 : decode cX8_report 7 = .ok (.iload_n 2, 1) := by decide +kernel
theorem dX8_report_8 : decode cX8_report 8 = .ok (.iconst 0, 1) := by decide +kernel
theorem dX8_report_9 : decode cX8_report 9 = .ok (.bipush 9, 2) := by decide +kernel
theorem dX8_report_11 : decode cX8_report 11 = .ok (.invokestatic 34, 3) := by decide +kernel
theorem dX8_report_14 : decode cX8_report 14 = .ok (.ifCond .eq 17, 3) := by decide +kernel
theorem dX8_report_17 : decode cX8_report 17 = .ok (.iload_n 3, 1) := by decide +kernel
theorem dX8_report_18 : decode cX8_report 18 = .ok (.iconst 1, 1) := by decide +kernel
theorem dX8_report_19 : decode cX8_report 19 = .ok (.bipush 9, 2) := by decide +kernel
theorem dX8_report_21 : decode cX8_report 21 = .ok (.invokestatic 34, 3) := by decide +kernel
theorem dX8_report_24 : decode cX8_report 24 = .ok (.ifCond .eq 7, 3) := by decide +kernel
theorem dX8_report_27 : decode cX8_report 27 = .ok (.iconst 1, 1) := by decide +kernel
theorem dX8_report_28 : decode cX8_report 28 = .ok (.goto 4, 3) := by decide +kernel
theorem dX8_report_31 : decode cX8_report 31 = .ok (.iconst 0, 1) := by decide +kernel
theorem dX8_report_32 : decode cX8_report 32 = .ok (.invokestatic 38, 3) := by decide +kernel
theorem dX8_report_35 : decode cX8_report 35 = .ok (.aload 4, 2) := by decide +kernel
theorem dX8_report_37 : decode cX8_report 37 = .ok (.getfield 94, 3) := by decide +kernel
theorem dX8_report_40 : decode cX8_report 40 = .ok (.getfield 98, 3) := by decide +kernel
theorem dX8_report_43 : decode cX8_report 43 = .ok (.bipush 30, 2) := by decide +kernel
theorem dX8_report_45 : decode cX8_report 45 = .ok (.if_icmp .lt 13, 3) := by decide +kernel
theorem dX8_report_48 : decode cX8_report 48 = .ok (.new 46, 3) := by decide +kernel
theorem dX8_report_51 : decode cX8_report 51 = .ok (.dup, 1) := by decide +kernel
theorem dX8_report_52 : decode cX8_report 52 = .ok (.ldc 103, 2) := by decide +kernel
theorem dX8_report_54 : decode cX8_report 54 = .ok (.invokespecial 50, 3) := by decide +kernel
theorem dX8_report_57 : decode cX8_report 57 = .ok (.athrow, 1) := by decide +kernel
theorem dX8_report_58 : decode cX8_report 58 = .ok (.aload 4, 2) := by decide +kernel
theorem dX8_report_60 : decode cX8_report 60 = .ok (.getfield 94, 3) := by decide +kernel
theorem dX8_report_63 : decode cX8_report 63 = .ok (.aload_n 0, 1) := by decide +kernel
theorem dX8_report_64 : decode cX8_report 64 = .ok (.getfield 53, 3) := by decide +kernel
theorem dX8_report_67 : decode cX8_report 67 = .ok (.iload_n 2, 1) := by decide +kernel
theorem dX8_report_68 : decode cX8_report 68 = .ok (.iload_n 3, 1) := by decide +kernel
theorem dX8_report_69 : decode cX8_report 69 = .ok (.invokevirtual 105, 3) := by decide +kernel
theorem dX8_report_72 : decode cX8_report 72 = .ok (.aload 4, 2) := by decide +kernel
theorem dX8_report_74 : decode cX8_report 74 = .ok (.getfield 94, 3) := by decide +kernel
theorem dX8_report_77 : decode cX8_report 77 = .ok (.aload_n 0, 1) := by decide +kernel
theorem dX8_report_78 : decode cX8_report 78 = .ok (.getfield 53, 3) := by decide +kernel
theorem dX8_report_81 : decode cX8_report 81 = .ok (.invokevirtual 109, 3) := by decide +kernel
theorem dX8_report_84 : decode cX8_report 84 = .ok (.ireturn, 1) := by decide +kernel
theorem dX8_see_0 : decode cX8_see 0 = .ok (.aload_n 0, 1) := by decide +kernel
theorem dX8_see_1 : decode cX8_see 1 = .ok (.iload_n 1, 1) := by decide +kernel
theorem dX8_see_2 : decode cX8_see 2 = .ok (.invokevirtual 90, 3) := by decide +kernel
theorem dX8_see_5 : decode cX8_see 5 = .ok (.astore_n 2, 1) := by decide +kernel
theorem dX8_see_6 : decode cX8_see 6 = .ok (.aload_n 2, 1) := by decide +kernel
theorem dX8_see_7 : decode cX8_see 7 = .ok (.getfield 94, 3) := by decide +kernel
theorem dX8_see_10 : decode cX8_see 10 = .ok (.aload_n 0, 1) := by decide +kernel
theorem dX8_see_11 : decode cX8_see 11 = .ok (.getfield 53, 3) := by decide +kernel
theorem dX8_see_14 : decode cX8_see 14 = .ok (.invokevirtual 113, 3) := by decide +kernel
theorem dX8_see_17 : decode cX8_see 17 = .ok (.istore_n 3, 1) := by decide +kernel
theorem dX8_see_18 : decode cX8_see 18 = .ok (.aload_n 2, 1) := by decide +kernel
theorem dX8_see_19 : decode cX8_see 19 = .ok (.getfield 94, 3) := by decide +kernel
theorem dX8_see_22 : decode cX8_see 22 = .ok (.aload_n 0, 1) := by decide +kernel
theorem dX8_see_23 : decode cX8_see 23 = .ok (.getfield 53, 3) := by decide +kernel
theorem dX8_see_26 : decode cX8_see 26 = .ok (.putfield 116, 3) := by decide +kernel
theorem dX8_see_29 : decode cX8_see 29 = .ok (.iload_n 3, 1) := by decide +kernel
theorem dX8_see_30 : decode cX8_see 30 = .ok (.iconst (-1), 1) := by decide +kernel
theorem dX8_see_31 : decode cX8_see 31 = .ok (.if_icmp .eq 15, 3) := by decide +kernel
theorem dX8_see_34 : decode cX8_see 34 = .ok (.aload_n 0, 1) := by decide +kernel
theorem dX8_see_35 : decode cX8_see 35 = .ok (.getfield 53, 3) := by decide +kernel
theorem dX8_see_38 : decode cX8_see 38 = .ok (.iload_n 3, 1) := by decide +kernel
theorem dX8_see_39 : decode cX8_see 39 = .ok (.if_icmp .le 7, 3) := by decide +kernel
theorem dX8_see_42 : decode cX8_see 42 = .ok (.iconst 1, 1) := by decide +kernel
theorem dX8_see_43 : decode cX8_see 43 = .ok (.goto 4, 3) := by decide +kernel
theorem dX8_see_46 : decode cX8_see 46 = .ok (.iconst 0, 1) := by decide +kernel
theorem dX8_see_47 : decode cX8_see 47 = .ok (.ireturn, 1) := by decide +kernel
theorem dX8_risk_0 : decode cX8_risk 0 = .ok (.aload_n 0, 1) := by decide +kernel
theorem dX8_risk_1 : decode cX8_risk 1 = .ok (.iload_n 1, 1) := by decide +kernel
theorem dX8_risk_2 : decode cX8_risk 2 = .ok (.invokevirtual 90, 3) := by decide +kernel
theorem dX8_risk_5 : decode cX8_risk 5 = .ok (.getfield 94, 3) := by decide +kernel
theorem dX8_risk_8 : decode cX8_risk 8 = .ok (.aload_n 0, 1) := by decide +kernel
theorem dX8_risk_9 : decode cX8_risk 9 = .ok (.getfield 53, 3) := by decide +kernel
theorem dX8_risk_12 : decode cX8_risk 12 = .ok (.invokevirtual 109, 3) := by decide +kernel
theorem dX8_risk_15 : decode cX8_risk 15 = .ok (.ireturn, 1) := by decide +kernel
theorem dX8_seeBy_0 : decode cX8_seeBy 0 = .ok (.aload_n 0, 1) := by decide +kernel
theorem dX8_seeBy_1 : decode cX8_seeBy 1 = .ok (.iload_n 1, 1) := by decide +kernel
theorem dX8_seeBy_2 : decode cX8_seeBy 2 = .ok (.invokevirtual 90, 3) := by decide +kernel
theorem dX8_seeBy_5 : decode cX8_seeBy 5 = .ok (.getfield 94, 3) := by decide +kernel
theorem dX8_seeBy_8 : decode cX8_seeBy 8 = .ok (.aload_n 0, 1) := by decide +kernel
theorem dX8_seeBy_9 : decode cX8_seeBy 9 = .ok (.getfield 53, 3) := by decide +kernel
theorem dX8_seeBy_12 : decode cX8_seeBy 12 = .ok (.invokevirtual 113, 3) := by decide +kernel
theorem dX8_seeBy_15 : decode cX8_seeBy 15 = .ok (.ireturn, 1) := by decide +kernel
theorem dX8_order_0 : decode cX8_order 0 = .ok (.aload_n 0, 1) := by decide +kernel
theorem dX8_order_1 : decode cX8_order 1 = .ok (.iload_n 1, 1) := by decide +kernel
theorem dX8_order_2 : decode cX8_order 2 = .ok (.invokevirtual 90, 3) := by decide +kernel
theorem dX8_order_5 : decode cX8_order 5 = .ok (.astore 5, 2) := by decide +kernel
theorem dX8_order_7 : decode cX8_order 7 = .ok (.iload_n 2, 1) := by decide +kernel
theorem dX8_order_8 : decode cX8_order 8 = .ok (.iconst 0, 1) := by decide +kernel
theorem dX8_order_9 : decode cX8_order 9 = .ok (.iconst 2, 1) := by decide +kernel
theorem dX8_order_10 : decode cX8_order 10 = .ok (.invokestatic 34, 3) := by decide +kernel
theorem dX8_order_13 : decode cX8_order 13 = .ok (.ifCond .eq 33, 3) := by decide +kernel
theorem dX8_order_16 : decode cX8_order 16 = .ok (.iload_n 3, 1) := by decide +kernel
theorem dX8_order_17 : decode cX8_order 17 = .ok (.aload_n 0, 1) := by decide +kernel
theorem dX8_order_18 : decode cX8_order 18 = .ok (.getfield 53, 3) := by decide +kernel
theorem dX8_order_21 : decode cX8_order 21 = .ok (.sipush 20000, 3) := by decide +kernel
theorem dX8_order_24 : decode cX8_order 24 = .ok (.invokestatic 34, 3) := by decide +kernel
theorem dX8_order_27 : decode cX8_order 27 = .ok (.ifCond .eq 19, 3) := by decide +kernel
theorem dX8_order_30 : decode cX8_order 30 = .ok (.iload 4, 2) := by decide +kernel
theorem dX8_order_32 : decode cX8_order 32 = .ok (.iconst 1, 1) := by decide +kernel
theorem dX8_order_33 : decode cX8_order 33 = .ok (.sipush 7000, 3) := by decide +kernel
theorem dX8_order_36 : decode cX8_order 36 = .ok (.invokestatic 34, 3) := by decide +kernel
theorem dX8_order_39 : decode cX8_order 39 = .ok (.ifCond .eq 7, 3) := by decide +kernel
theorem dX8_order_42 : decode cX8_order 42 = .ok (.iconst 1, 1) := by decide +kernel
theorem dX8_order_43 : decode cX8_order 43 = .ok (.goto 4, 3) := by decide +kernel
theorem dX8_order_46 : decode cX8_order 46 = .ok (.iconst 0, 1) := by decide +kernel
theorem dX8_order_47 : decode cX8_order 47 = .ok (.invokestatic 38, 3) := by decide +kernel
theorem dX8_order_50 : decode cX8_order 50 = .ok (.aload_n 0, 1) := by decide +kernel
theorem dX8_order_51 : decode cX8_order 51 = .ok (.getfield 119, 3) := by decide +kernel
theorem dX8_order_54 : decode cX8_order 54 = .ok (.bipush 60, 2) := by decide +kernel
theorem dX8_order_56 : decode cX8_order 56 = .ok (.if_icmp .lt 13, 3) := by decide +kernel
theorem dX8_order_59 : decode cX8_order 59 = .ok (.new 46, 3) := by decide +kernel
theorem dX8_order_62 : decode cX8_order 62 = .ok (.dup, 1) := by decide +kernel
theorem dX8_order_63 : decode cX8_order 63 = .ok (.ldc 122, 2) := by decide +kernel
theorem dX8_order_65 : decode cX8_order 65 = .ok (.invokespecial 50, 3) := by decide +kernel
theorem dX8_order_68 : decode cX8_order 68 = .ok (.athrow, 1) := by decide +kernel
theorem dX8_order_69 : decode cX8_order 69 = .ok (.aload_n 0, 1) := by decide +kernel
theorem dX8_order_70 : decode cX8_order 70 = .ok (.getfield 119, 3) := by decide +kernel
theorem dX8_order_73 : decode cX8_order 73 = .ok (.istore 6, 2) := by decide +kernel
theorem dX8_order_75 : decode cX8_order 75 = .ok (.aload 5, 2) := by decide +kernel
theorem dX8_order_77 : decode cX8_order 77 = .ok (.new 124, 3) := by decide +kernel
theorem dX8_order_80 : decode cX8_order 80 = .ok (.dup, 1) := by decide +kernel
theorem dX8_order_81 : decode cX8_order 81 = .ok (.iload 6, 2) := by decide +kernel
theorem dX8_order_83 : decode cX8_order 83 = .ok (.iload_n 2, 1) := by decide +kernel
theorem dX8_order_84 : decode cX8_order 84 = .ok (.iload_n 3, 1) := by decide +kernel
theorem dX8_order_85 : decode cX8_order 85 = .ok (.iload_n 3, 1) := by decide +kernel
theorem dX8_order_86 : decode cX8_order 86 = .ok (.iload 4, 2) := by decide +kernel
theorem dX8_order_88 : decode cX8_order 88 = .ok (.iadd, 1) := by decide +kernel
theorem dX8_order_89 : decode cX8_order 89 = .ok (.aload 5, 2) := by decide +kernel
theorem dX8_order_91 : decode cX8_order 91 = .ok (.getfield 126, 3) := by decide +kernel
theorem dX8_order_94 : decode cX8_order 94 = .ok (.invokespecial 130, 3) := by decide +kernel
theorem dX8_order_97 : decode cX8_order 97 = .ok (.putfield 126, 3) := by decide +kernel
theorem dX8_order_100 : decode cX8_order 100 = .ok (.aload_n 0, 1) := by decide +kernel
theorem dX8_order_101 : decode cX8_order 101 = .ok (.iload 6, 2) := by decide +kernel
theorem dX8_order_103 : decode cX8_order 103 = .ok (.iconst 1, 1) := by decide +kernel
theorem dX8_order_104 : decode cX8_order 104 = .ok (.iadd, 1) := by decide +kernel
theorem dX8_order_105 : decode cX8_order 105 = .ok (.putfield 119, 3) := by decide +kernel
theorem dX8_order_108 : decode cX8_order 108 = .ok (.iload 6, 2) := by decide +kernel
theorem dX8_order_110 : decode cX8_order 110 = .ok (.ireturn, 1) := by decide +kernel
theorem dX8_counts_0 : decode cX8_counts 0 = .ok (.aload_n 0, 1) := by decide +kernel
theorem dX8_counts_1 : decode cX8_counts 1 = .ok (.iload_n 1, 1) := by decide +kernel
theorem dX8_counts_2 : decode cX8_counts 2 = .ok (.invokevirtual 90, 3) := by decide +kernel
theorem dX8_counts_5 : decode cX8_counts 5 = .ok (.astore_n 3, 1) := by decide +kernel
theorem dX8_counts_6 : decode cX8_counts 6 = .ok (.iload_n 2, 1) := by decide +kernel
theorem dX8_counts_7 : decode cX8_counts 7 = .ok (.iconst 0, 1) := by decide +kernel
theorem dX8_counts_8 : decode cX8_counts 8 = .ok (.sipush 30000, 3) := by decide +kernel
theorem dX8_counts_11 : decode cX8_counts 11 = .ok (.invokestatic 34, 3) := by decide +kernel
theorem dX8_counts_14 : decode cX8_counts 14 = .ok (.invokestatic 38, 3) := by decide +kernel
theorem dX8_counts_17 : decode cX8_counts 17 = .ok (.aload_n 3, 1) := by decide +kernel
theorem dX8_counts_18 : decode cX8_counts 18 = .ok (.iload_n 2, 1) := by decide +kernel
theorem dX8_counts_19 : decode cX8_counts 19 = .ok (.invokevirtual 133, 3) := by decide +kernel
theorem dX8_counts_22 : decode cX8_counts 22 = .ok (.ireturn, 1) := by decide +kernel
theorem dX8_wish_0 : decode cX8_wish 0 = .ok (.aload_n 0, 1) := by decide +kernel
theorem dX8_wish_1 : decode cX8_wish 1 = .ok (.iload_n 1, 1) := by decide +kernel
theorem dX8_wish_2 : decode cX8_wish 2 = .ok (.invokevirtual 90, 3) := by decide +kernel
theorem dX8_wish_5 : decode cX8_wish 5 = .ok (.astore 4, 2) := by decide +kernel
theorem dX8_wish_7 : decode cX8_wish 7 = .ok (.aload_n 0, 1) := by decide +kernel
theorem dX8_wish_8 : decode cX8_wish 8 = .ok (.iload_n 2, 1) := by decide +kernel
theorem dX8_wish_9 : decode cX8_wish 9 = .ok (.invokevirtual 71, 3) := by decide +kernel
theorem dX8_wish_12 : decode cX8_wish 12 = .ok (.astore 5, 2) := by decide +kernel
theorem dX8_wish_14 : decode cX8_wish 14 = .ok (.aload 4, 2) := by decide +kernel
theorem dX8_wish_16 : decode cX8_wish 16 = .ok (.aload 5, 2) := by decide +kernel
theorem dX8_wish_18 : decode cX8_wish 18 = .ok (.getfield 136, 3) := by decide +kernel
theorem dX8_wish_21 : decode cX8_wish 21 = .ok (.iload_n 3, 1) := by decide +kernel
theorem dX8_wish_22 : decode cX8_wish 22 = .ok (.aload_n 0, 1) := by decide +kernel
theorem dX8_wish_23 : decode cX8_wish 23 = .ok (.getfield 53, 3) := by decide +kernel
theorem dX8_wish_26 : decode cX8_wish 26 = .ok (.invokevirtual 139, 3) := by decide +kernel
theorem dX8_wish_29 : decode cX8_wish 29 = .ok (.return_, 1) := by decide +kernel
theorem dX8_why_0 : decode cX8_why 0 = .ok (.aload_n 0, 1) := by decide +kernel
theorem dX8_why_1 : decode cX8_why 1 = .ok (.aload_n 0, 1) := by decide +kernel
theorem dX8_why_2 : decode cX8_why 2 = .ok (.iload_n 1, 1) := by decide +kernel
theorem dX8_why_3 : decode cX8_why 3 = .ok (.invokevirtual 90, 3) := by decide +kernel
theorem dX8_why_6 : decode cX8_why 6 = .ok (.aload_n 0, 1) := by decide +kernel
theorem dX8_why_7 : decode cX8_why 7 = .ok (.iload_n 2, 1) := by decide +kernel
theorem dX8_why_8 : decode cX8_why 8 = .ok (.invokevirtual 71, 3) := by decide +kernel
theorem dX8_why_11 : decode cX8_why 11 = .ok (.invokevirtual 143, 3) := by decide +kernel
theorem dX8_why_14 : decode cX8_why 14 = .ok (.ireturn, 1) := by decide +kernel
theorem dX8_worth_0 : decode cX8_worth 0 = .ok (.aload_n 0, 1) := by decide +kernel
theorem dX8_worth_1 : decode cX8_worth 1 = .ok (.aload_n 0, 1) := by decide +kernel
theorem dX8_worth_2 : decode cX8_worth 2 = .ok (.iload_n 1, 1) := by decide +kernel
theorem dX8_worth_3 : decode cX8_worth 3 = .ok (.invokevirtual 90, 3) := by decide +kernel
theorem dX8_worth_6 : decode cX8_worth 6 = .ok (.aload_n 0, 1) := by decide +kernel
theorem dX8_worth_7 : decode cX8_worth 7 = .ok (.iload_n 2, 1) := by decide +kernel
theorem dX8_worth_8 : decode cX8_worth 8 = .ok (.invokevirtual 71, 3) := by decide +kernel
theorem dX8_worth_11 : decode cX8_worth 11 = .ok (.invokevirtual 147, 3) := by decide +kernel
theorem dX8_worth_14 : decode cX8_worth 14 = .ok (.ireturn, 1) := by decide +kernel
theorem dX8_best_0 : decode cX8_best 0 = .ok (.aload_n 0, 1) := by decide +kernel
theorem dX8_best_1 : decode cX8_best 1 = .ok (.iload_n 1, 1) := by decide +kernel
theorem dX8_best_2 : decode cX8_best 2 = .ok (.invokevirtual 90, 3) := by decide +kernel
theorem dX8_best_5 : decode cX8_best 5 = .ok (.astore_n 2, 1) := by decide +kernel
theorem dX8_best_6 : decode cX8_best 6 = .ok (.iconst (-1), 1) := by decide +kernel
theorem dX8_best_7 : decode cX8_best 7 = .ok (.istore_n 3, 1) := by decide +kernel
theorem dX8_best_8 : decode cX8_best 8 = .ok (.iconst 0, 1) := by decide +kernel
theorem dX8_best_9 : decode cX8_best 9 = .ok (.istore 4, 2) := by decide +kernel
theorem dX8_best_11 : decode cX8_best 11 = .ok (.aload_n 0, 1) := by decide +kernel
theorem dX8_best_12 : decode cX8_best 12 = .ok (.getfield 17, 3) := by decide +kernel
theorem dX8_best_15 : decode cX8_best 15 = .ok (.astore 5, 2) := by decide +kernel
theorem dX8_best_17 : decode cX8_best 17 = .ok (.aload 5, 2) := by decide +kernel
theorem dX8_best_19 : decode cX8_best 19 = .ok (.arraylength, 1) := by decide +kernel
theorem dX8_best_20 : decode cX8_best 20 = .ok (.istore 6, 2) := by decide +kernel
theorem dX8_best_22 : decode cX8_best 22 = .ok (.iconst 0, 1) := by decide +kernel
theorem dX8_best_23 : decode cX8_best 23 = .ok (.istore 7, 2) := by decide +kernel
theorem dX8_best_25 : decode cX8_best 25 = .ok (.iload 7, 2) := by decide +kernel
theorem dX8_best_27 : decode cX8_best 27 = .ok (.iload 6, 2) := by decide +kernel
theorem dX8_best_29 : decode cX8_best 29 = .ok (.if_icmp .ge 65, 3) := by decide +kernel
theorem dX8_best_32 : decode cX8_best 32 = .ok (.aload 5, 2) := by decide +kernel
theorem dX8_best_34 : decode cX8_best 34 = .ok (.iload 7, 2) := by decide +kernel
theorem dX8_best_36 : decode cX8_best 36 = .ok (.aaload, 1) := by decide +kernel
theorem dX8_best_37 : decode cX8_best 37 = .ok (.astore 8, 2) := by decide +kernel
theorem dX8_best_39 : decode cX8_best 39 = .ok (.aload 8, 2) := by decide +kernel
theorem dX8_best_41 : decode cX8_best 41 = .ok (.ifnull 47, 3) := by decide +kernel
theorem dX8_best_44 : decode cX8_best 44 = .ok (.aload_n 0, 1) := by decide +kernel
theorem dX8_best_45 : decode cX8_best 45 = .ok (.aload_n 2, 1) := by decide +kernel
theorem dX8_best_46 : decode cX8_best 46 = .ok (.aload 8, 2) := by decide +kernel
theorem dX8_best_48 : decode cX8_best 48 = .ok (.invokevirtual 143, 3) := by decide +kernel
theorem dX8_best_51 : decode cX8_best 51 = .ok (.ifCond .eq 6, 3) := by decide +kernel
theorem dX8_best_54 : decode cX8_best 54 = .ok (.goto 34, 3) := by decide +kernel
theorem dX8_best_57 : decode cX8_best 57 = .ok (.aload_n 0, 1) := by decide +kernel
theorem dX8_best_58 : decode cX8_best 58 = .ok (.aload_n 2, 1) := by decide +kernel
theorem dX8_best_59 : decode cX8_best 59 = .ok (.aload 8, 2) := by decide +kernel
theorem dX8_best_61 : decode cX8_best 61 = .ok (.invokevirtual 147, 3) := by decide +kernel
theorem dX8_best_64 : decode cX8_best 64 = .ok (.istore 9, 2) := by decide +kernel
theorem dX8_best_66 : decode cX8_best 66 = .ok (.iload_n 3, 1) := by decide +kernel
theorem dX8_best_67 : decode cX8_best 67 = .ok (.iconst (-1), 1) := by decide +kernel
theorem dX8_best_68 : decode cX8_best 68 = .ok (.if_icmp .eq 10, 3) := by decide +kernel
theorem dX8_best_71 : decode cX8_best 71 = .ok (.iload 9, 2) := by decide +kernel
theorem dX8_best_73 : decode cX8_best 73 = .ok (.iload 4, 2) := by decide +kernel
theorem dX8_best_75 : decode cX8_best 75 = .ok (.if_icmp .le 13, 3) := by decide +kernel
theorem dX8_best_78 : decode cX8_best 78 = .ok (.aload 8, 2) := by decide +kernel
theorem dX8_best_80 : decode cX8_best 80 = .ok (.getfield 136, 3) := by decide +kernel
theorem dX8_best_83 : decode cX8_best 83 = .ok (.istore_n 3, 1) := by decide +kernel
theorem dX8_best_84 : decode cX8_best 84 = .ok (.iload 9, 2) := by decide +kernel
theorem dX8_best_86 : decode cX8_best 86 = .ok (.istore 4, 2) := by decide +kernel
theorem dX8_best_88 : decode cX8_best 88 = .ok (.iinc 7 1, 3) := by decide +kernel
theorem dX8_best_91 : decode cX8_best 91 = .ok (.goto (-66), 3) := by decide +kernel
theorem dX8_best_94 : decode cX8_best 94 = .ok (.iload_n 3, 1) := by decide +kernel
theorem dX8_best_95 : decode cX8_best 95 = .ok (.ireturn, 1) := by decide +kernel
theorem dX8_place_0 : decode cX8_place 0 = .ok (.aload_n 0, 1) := by decide +kernel
theorem dX8_place_1 : decode cX8_place 1 = .ok (.iload_n 1, 1) := by decide +kernel
theorem dX8_place_2 : decode cX8_place 2 = .ok (.invokevirtual 90, 3) := by decide +kernel
theorem dX8_place_5 : decode cX8_place 5 = .ok (.astore_n 3, 1) := by decide +kernel
theorem dX8_place_6 : decode cX8_place 6 = .ok (.aload_n 0, 1) := by decide +kernel
theorem dX8_place_7 : decode cX8_place 7 = .ok (.iload_n 2, 1) := by decide +kernel
theorem dX8_place_8 : decode cX8_place 8 = .ok (.invokevirtual 71, 3) := by decide +kernel
theorem dX8_place_11 : decode cX8_place 11 = .ok (.astore 4, 2) := by decide +kernel
theorem dX8_place_13 : decode cX8_place 13 = .ok (.aload_n 3, 1) := by decide +kernel
theorem dX8_place_14 : decode cX8_place 14 = .ok (.aload 4, 2) := by decide +kernel
theorem dX8_place_16 : decode cX8_place 16 = .ok (.invokevirtual 150, 3) := by decide +kernel
theorem dX8_place_19 : decode cX8_place 19 = .ok (.ifCond .ne 13, 3) := by decide +kernel
theorem dX8_place_22 : decode cX8_place 22 = .ok (.aload_n 0, 1) := by decide +kernel
theorem dX8_place_23 : decode cX8_place 23 = .ok (.aload_n 3, 1) := by decide +kernel
theorem dX8_place_24 : decode cX8_place 24 = .ok (.aload 4, 2) := by decide +kernel
theorem dX8_place_26 : decode cX8_place 26 = .ok (.invokevirtual 143, 3) := by decide +kernel
theorem dX8_place_29 : decode cX8_place 29 = .ok (.ifCond .eq 13, 3) := by decide +kernel
theorem dX8_place_32 : decode cX8_place 32 = .ok (.new 46, 3) := by decide +kernel
theorem dX8_place_35 : decode cX8_place 35 = .ok (.dup, 1) := by decide +kernel
theorem dX8_place_36 : decode cX8_place 36 = .ok (.ldc 154, 2) := by decide +kernel
theorem dX8_place_38 : decode cX8_place 38 = .ok (.invokespecial 50, 3) := by decide +kernel
theorem dX8_place_41 : decode cX8_place 41 = .ok (.athrow, 1) := by decide +kernel
theorem dX8_place_42 : decode cX8_place 42 = .ok (.aload_n 0, 1) := by decide +kernel
theorem dX8_place_43 : decode cX8_place 43 = .ok (.aload_n 3, 1) := by decide +kernel
theorem dX8_place_44 : decode cX8_place 44 = .ok (.aload 4, 2) := by decide +kernel
theorem dX8_place_46 : decode cX8_place 46 = .ok (.invokevirtual 156, 3) := by decide +kernel
theorem dX8_place_49 : decode cX8_place 49 = .ok (.ireturn, 1) := by decide +kernel
theorem dX8_placeAll_0 : decode cX8_placeAll 0 = .ok (.iload_n 1, 1) := by decide +kernel
theorem dX8_placeAll_1 : decode cX8_placeAll 1 = .ok (.iconst 0, 1) := by decide +kernel
theorem dX8_placeAll_2 : decode cX8_placeAll 2 = .ok (.bipush 7, 2) := by decide +kernel
theorem dX8_placeAll_4 : decode cX8_placeAll 4 = .ok (.invokestatic 34, 3) := by decide +kernel
theorem dX8_placeAll_7 : decode cX8_placeAll 7 = .ok (.invokestatic 38, 3) := by decide +kernel
theorem dX8_placeAll_10 : decode cX8_placeAll 10 = .ok (.aload_n 0, 1) := by decide +kernel
theorem dX8_placeAll_11 : decode cX8_placeAll 11 = .ok (.iload_n 1, 1) := by decide +kernel
theorem dX8_placeAll_12 : decode cX8_placeAll 12 = .ok (.invokevirtual 159, 3) := by decide +kernel
theorem dX8_placeAll_15 : decode cX8_placeAll 15 = .ok (.aload_n 0, 1) := by decide +kernel
theorem dX8_placeAll_16 : decode cX8_placeAll 16 = .ok (.getfield 30, 3) := by decide +kernel
theorem dX8_placeAll_19 : decode cX8_placeAll 19 = .ok (.invokevirtual 163, 3) := by decide +kernel
theorem dX8_placeAll_22 : decode cX8_placeAll 22 = .ok (.istore_n 2, 1) := by decide +kernel
theorem dX8_placeAll_23 : decode cX8_placeAll 23 = .ok (.aload_n 0, 1) := by decide +kernel
theorem dX8_placeAll_24 : decode cX8_placeAll 24 = .ok (.getfield 166, 3) := by decide +kernel
theorem dX8_placeAll_27 : decode cX8_placeAll 27 = .ok (.iload_n 2, 1) := by decide +kernel
theorem dX8_placeAll_28 : decode cX8_placeAll 28 = .ok (.iadd, 1) := by decide +kernel
theorem dX8_placeAll_29 : decode cX8_placeAll 29 = .ok (.aload_n 0, 1) := by decide +kernel
theorem dX8_placeAll_30 : decode cX8_placeAll 30 = .ok (.getfield 23, 3) := by decide +kernel
theorem dX8_placeAll_33 : decode cX8_placeAll 33 = .ok (.arraylength, 1) := by decide +kernel
theorem dX8_placeAll_34 : decode cX8_placeAll 34 = .ok (.if_icmp .le 13, 3) := by decide +kernel
theorem dX8_placeAll_37 : decode cX8_placeAll 37 = .ok (.new 46, 3) := by decide +kernel
theorem dX8_placeAll_40 : decode cX8_placeAll 40 = .ok (.dup, 1) := by decide +kernel
theorem dX8_placeAll_41 : decode cX8_placeAll 41 = .ok (.ldc 169, 2) := by decide +kernel
theorem dX8_placeAll_43 : decode cX8_placeAll 43 = .ok (.invokespecial 50, 3) := by decide +kernel
theorem dX8_placeAll_46 : decode cX8_placeAll 46 = .ok (.athrow, 1) := by decide +kernel
theorem dX8_placeAll_47 : decode cX8_placeAll 47 = .ok (.iconst 0, 1) := by decide +kernel
theorem dX8_placeAll_48 : decode cX8_placeAll 48 = .ok (.istore_n 3, 1) := by decide +kernel
theorem dX8_placeAll_49 : decode cX8_placeAll 49 = .ok (.iload_n 3, 1) := by decide +kernel
theorem dX8_placeAll_50 : decode cX8_placeAll 50 = .ok (.iconst 5, 1) := by decide +kernel
theorem dX8_placeAll_51 : decode cX8_placeAll 51 = .ok (.if_icmp .ge 53, 3) := by decide +kernel
theorem dX8_placeAll_54 : decode cX8_placeAll 54 = .ok (.aload_n 0, 1) := by decide +kernel
theorem dX8_placeAll_55 : decode cX8_placeAll 55 = .ok (.getfield 30, 3) := by decide +kernel
theorem dX8_placeAll_58 : decode cX8_placeAll 58 = .ok (.iload_n 3, 1) := by decide +kernel
theorem dX8_placeAll_59 : decode cX8_placeAll 59 = .ok (.invokevirtual 171, 3) := by decide +kernel
theorem dX8_placeAll_62 : decode cX8_placeAll 62 = .ok (.astore 4, 2) := by decide +kernel
theorem dX8_placeAll_64 : decode cX8_placeAll 64 = .ok (.aload_n 0, 1) := by decide +kernel
theorem dX8_placeAll_65 : decode cX8_placeAll 65 = .ok (.getfield 30, 3) := by decide +kernel
theorem dX8_placeAll_68 : decode cX8_placeAll 68 = .ok (.iload_n 3, 1) := by decide +kernel
theorem dX8_placeAll_69 : decode cX8_placeAll 69 = .ok (.invokevirtual 174, 3) := by decide +kernel
theorem dX8_placeAll_72 : decode cX8_placeAll 72 = .ok (.istore 5, 2) := by decide +kernel
theorem dX8_placeAll_74 : decode cX8_placeAll 74 = .ok (.aload 4, 2) := by decide +kernel
theorem dX8_placeAll_76 : decode cX8_placeAll 76 = .ok (.ifnull 22, 3) := by decide +kernel
theorem dX8_placeAll_79 : decode cX8_placeAll 79 = .ok (.iload 5, 2) := by decide +kernel
theorem dX8_placeAll_81 : decode cX8_placeAll 81 = .ok (.iconst (-1), 1) := by decide +kernel
theorem dX8_placeAll_82 : decode cX8_placeAll 82 = .ok (.if_icmp .eq 16, 3) := by decide +kernel
theorem dX8_placeAll_85 : decode cX8_placeAll 85 = .ok (.aload_n 0, 1) := by decide +kernel
theorem dX8_placeAll_86 : decode cX8_placeAll 86 = .ok (.aload 4, 2) := by decide +kernel
theorem dX8_placeAll_88 : decode cX8_placeAll 88 = .ok (.aload_n 0, 1) := by decide +kernel
theorem dX8_placeAll_89 : decode cX8_placeAll 89 = .ok (.iload 5, 2) := by decide +kernel
theorem dX8_placeAll_91 : decode cX8_placeAll 91 = .ok (.invokevirtual 71, 3) := by decide +kernel
theorem dX8_placeAll_94 : decode cX8_placeAll 94 = .ok (.invokevirtual 156, 3) := by decide +kernel
theorem dX8_placeAll_97 : decode cX8_placeAll 97 = .ok (.pop, 1) := by decide +kernel
theorem dX8_placeAll_98 : decode cX8_placeAll 98 = .ok (.iinc 3 1, 3) := by decide +kernel
theorem dX8_placeAll_101 : decode cX8_placeAll 101 = .ok (.goto (-52), 3) := by decide +kernel
theorem dX8_placeAll_104 : decode cX8_placeAll 104 = .ok (.iload_n 2, 1) := by decide +kernel
theorem dX8_placeAll_105 : decode cX8_placeAll 105 = .ok (.ireturn, 1) := by decide +kernel
theorem dX8_visits_0 : decode cX8_visits 0 = .ok (.aload_n 0, 1) := by decide +kernel
theorem dX8_visits_1 : decode cX8_visits 1 = .ok (.iload_n 1, 1) := by decide +kernel
theorem dX8_visits_2 : decode cX8_visits 2 = .ok (.invokevirtual 90, 3) := by decide +kernel
theorem dX8_visits_5 : decode cX8_visits 5 = .ok (.astore_n 3, 1) := by decide +kernel
theorem dX8_visits_6 : decode cX8_visits 6 = .ok (.iload_n 2, 1) := by decide +kernel
theorem dX8_visits_7 : decode cX8_visits 7 = .ok (.iconst 0, 1) := by decide +kernel
theorem dX8_visits_8 : decode cX8_visits 8 = .ok (.bipush 30, 2) := by decide +kernel
theorem dX8_visits_10 : decode cX8_visits 10 = .ok (.invokestatic 34, 3) := by decide +kernel
theorem dX8_visits_13 : decode cX8_visits 13 = .ok (.invokestatic 38, 3) := by decide +kernel
theorem dX8_visits_16 : decode cX8_visits 16 = .ok (.aload_n 3, 1) := by decide +kernel
theorem dX8_visits_17 : decode cX8_visits 17 = .ok (.getfield 177, 3) := by decide +kernel
theorem dX8_visits_20 : decode cX8_visits 20 = .ok (.getfield 181, 3) := by decide +kernel
theorem dX8_visits_23 : decode cX8_visits 23 = .ok (.istore 4, 2) := by decide +kernel
theorem dX8_visits_25 : decode cX8_visits 25 = .ok (.aload_n 3, 1) := by decide +kernel
theorem dX8_visits_26 : decode cX8_visits 26 = .ok (.getfield 177, 3) := by decide +kernel
theorem dX8_visits_29 : decode cX8_visits 29 = .ok (.iload_n 2, 1) := by decide +kernel
theorem dX8_visits_30 : decode cX8_visits 30 = .ok (.putfield 181, 3) := by decide +kernel
theorem dX8_visits_33 : decode cX8_visits 33 = .ok (.iload 4, 2) := by decide +kernel
theorem dX8_visits_35 : decode cX8_visits 35 = .ok (.ireturn, 1) := by decide +kernel
theorem dX8_came_0 : decode cX8_came 0 = .ok (.aload_n 0, 1) := by decide +kernel
theorem dX8_came_1 : decode cX8_came 1 = .ok (.iload_n 1, 1) := by decide +kernel
theorem dX8_came_2 : decode cX8_came 2 = .ok (.invokevirtual 90, 3) := by decide +kernel
theorem dX8_came_5 : decode cX8_came 5 = .ok (.astore_n 2, 1) := by decide +kernel
theorem dX8_came_6 : decode cX8_came 6 = .ok (.aload_n 2, 1) := by decide +kernel
theorem dX8_came_7 : decode cX8_came 7 = .ok (.getfield 186, 3) := by decide +kernel
theorem dX8_came_10 : decode cX8_came 10 = .ok (.ifnonnull 13, 3) := by decide +kernel
theorem dX8_came_13 : decode cX8_came 13 = .ok (.new 46, 3) := by decide +kernel
theorem dX8_came_16 : decode cX8_came 16 = .ok (.dup, 1) := by decide +kernel
theorem dX8_came_17 : decode cX8_came 17 = .ok (.ldc 190, 2) := by decide +kernel
theorem dX8_came_19 : decode cX8_came 19 = .ok (.invokespecial 50, 3) := by decide +kernel
theorem dX8_came_22 : decode cX8_came 22 = .ok (.athrow, 1) := by decide +kernel
theorem dX8_came_23 : decode cX8_came 23 = .ok (.aload_n 2, 1) := by decide +kernel
theorem dX8_came_24 : decode cX8_came 24 = .ok (.getfield 177, 3) := by decide +kernel
theorem dX8_came_27 : decode cX8_came 27 = .ok (.iconst 1, 1) := by decide +kernel
theorem dX8_came_28 : decode cX8_came 28 = .ok (.putfield 192, 3) := by decide +kernel
theorem dX8_came_31 : decode cX8_came 31 = .ok (.return_, 1) := by decide +kernel
theorem dX8_pay_0 : decode cX8_pay 0 = .ok (.aload_n 0, 1) := by decide +kernel
theorem dX8_pay_1 : decode cX8_pay 1 = .ok (.iload_n 1, 1) := by decide +kernel
theorem dX8_pay_2 : decode cX8_pay 2 = .ok (.invokevirtual 71, 3) := by decide +kernel
theorem dX8_pay_5 : decode cX8_pay 5 = .ok (.astore_n 3, 1) := by decide +kernel
theorem dX8_pay_6 : decode cX8_pay 6 = .ok (.iload_n 2, 1) := by decide +kernel
theorem dX8_pay_7 : decode cX8_pay 7 = .ok (.iconst 1, 1) := by decide +kernel
theorem dX8_pay_8 : decode cX8_pay 8 = .ok (.ldc 196, 2) := by decide +kernel
theorem dX8_pay_10 : decode cX8_pay 10 = .ok (.invokestatic 34, 3) := by decide +kernel
theorem dX8_pay_13 : decode cX8_pay 13 = .ok (.invokestatic 38, 3) := by decide +kernel
theorem dX8_pay_16 : decode cX8_pay 16 = .ok (.aload_n 3, 1) := by decide +kernel
theorem dX8_pay_17 : decode cX8_pay 17 = .ok (.dup, 1) := by decide +kernel
theorem dX8_pay_18 : decode cX8_pay 18 = .ok (.getfield 197, 3) := by decide +kernel
theorem dX8_pay_21 : decode cX8_pay 21 = .ok (.iload_n 2, 1) := by decide +kernel
theorem dX8_pay_22 : decode cX8_pay 22 = .ok (.iadd, 1) := by decide +kernel
theorem dX8_pay_23 : decode cX8_pay 23 = .ok (.putfield 197, 3) := by decide +kernel
theorem dX8_pay_26 : decode cX8_pay 26 = .ok (.aload_n 0, 1) := by decide +kernel
theorem dX8_pay_27 : decode cX8_pay 27 = .ok (.aload_n 3, 1) := by decide +kernel
theorem dX8_pay_28 : decode cX8_pay 28 = .ok (.invokevirtual 200, 3) := by decide +kernel
theorem dX8_pay_31 : decode cX8_pay 31 = .ok (.ireturn, 1) := by decide +kernel
theorem dX8_owed_0 : decode cX8_owed 0 = .ok (.aload_n 0, 1) := by decide +kernel
theorem dX8_owed_1 : decode cX8_owed 1 = .ok (.aload_n 0, 1) := by decide +kernel
theorem dX8_owed_2 : decode cX8_owed 2 = .ok (.iload_n 1, 1) := by decide +kernel
theorem dX8_owed_3 : decode cX8_owed 3 = .ok (.invokevirtual 71, 3) := by decide +kernel
theorem dX8_owed_6 : decode cX8_owed 6 = .ok (.invokevirtual 200, 3) := by decide +kernel
theorem dX8_owed_9 : decode cX8_owed 9 = .ok (.ireturn, 1) := by decide +kernel
theorem dX8_handOver_0 : decode cX8_handOver 0 = .ok (.aload_n 0, 1) := by decide +kernel
theorem dX8_handOver_1 : decode cX8_handOver 1 = .ok (.iload_n 1, 1) := by decide +kernel
theorem dX8_handOver_2 : decode cX8_handOver 2 = .ok (.invokevirtual 90, 3) := by decide +kernel
theorem dX8_handOver_5 : decode cX8_handOver 5 = .ok (.astore_n 3, 1) := by decide +kernel
theorem dX8_handOver_6 : decode cX8_handOver 6 = .ok (.iload_n 2, 1) := by decide +kernel
theorem dX8_handOver_7 : decode cX8_handOver 7 = .ok (.invokestatic 204, 3) := by decide +kernel
theorem dX8_handOver_10 : decode cX8_handOver 10 = .ok (.aload_n 3, 1) := by decide +kernel
theorem dX8_handOver_11 : decode cX8_handOver 11 = .ok (.getfield 207, 3) := by decide +kernel
theorem dX8_handOver_14 : decode cX8_handOver 14 = .ok (.istore 4, 2) := by decide +kernel
theorem dX8_handOver_16 : decode cX8_handOver 16 = .ok (.aload_n 3, 1) := by decide +kernel
theorem dX8_handOver_17 : decode cX8_handOver 17 = .ok (.iload_n 2, 1) := by decide +kernel
theorem dX8_handOver_18 : decode cX8_handOver 18 = .ok (.putfield 207, 3) := by decide +kernel
theorem dX8_handOver_21 : decode cX8_handOver 21 = .ok (.iload 4, 2) := by decide +kernel
theorem dX8_handOver_23 : decode cX8_handOver 23 = .ok (.ireturn, 1) := by decide +kernel
theorem dX8_load_0 : decode cX8_load 0 = .ok (.iload_n 1, 1) := by decide +kernel
theorem dX8_load_1 : decode cX8_load 1 = .ok (.invokestatic 204, 3) := by decide +kernel
theorem dX8_load_4 : decode cX8_load 4 = .ok (.aload_n 0, 1) := by decide +kernel
theorem dX8_load_5 : decode cX8_load 5 = .ok (.iload_n 1, 1) := by decide +kernel
theorem dX8_load_6 : decode cX8_load 6 = .ok (.invokevirtual 210, 3) := by decide +kernel
theorem dX8_load_9 : decode cX8_load 9 = .ok (.ireturn, 1) := by decide +kernel
theorem dX8_pass_0 : decode cX8_pass 0 = .ok (.iload_n 1, 1) := by decide +kernel
theorem dX8_pass_1 : decode cX8_pass 1 = .ok (.iconst 1, 1) := by decide +kernel
theorem dX8_pass_2 : decode cX8_pass 2 = .ok (.sipush 400, 3) := by decide +kernel
theorem dX8_pass_5 : decode cX8_pass 5 = .ok (.invokestatic 34, 3) := by decide +kernel
theorem dX8_pass_8 : decode cX8_pass 8 = .ok (.invokestatic 38, 3) := by decide +kernel
theorem dX8_pass_11 : decode cX8_pass 11 = .ok (.aload_n 0, 1) := by decide +kernel
theorem dX8_pass_12 : decode cX8_pass 12 = .ok (.getfield 53, 3) := by decide +kernel
theorem dX8_pass_15 : decode cX8_pass 15 = .ok (.iload_n 1, 1) := by decide +kernel
theorem dX8_pass_16 : decode cX8_pass 16 = .ok (.iadd, 1) := by decide +kernel
theorem dX8_pass_17 : decode cX8_pass 17 = .ok (.sipush 12000, 3) := by decide +kernel
theorem dX8_pass_20 : decode cX8_pass 20 = .ok (.if_icmp .le 13, 3) := by decide +kernel
theorem dX8_pass_23 : decode cX8_pass 23 = .ok (.new 46, 3) := by decide +kernel
theorem dX8_pass_26 : decode cX8_pass 26 = .ok (.dup, 1) := by decide +kernel
theorem dX8_pass_27 : decode cX8_pass 27 = .ok (.ldc 213, 2) := by decide +kernel
theorem dX8_pass_29 : decode cX8_pass 29 = .ok (.invokespecial 50, 3) := by decide +kernel
theorem dX8_pass_32 : decode cX8_pass 32 = .ok (.athrow, 1) := by decide +kernel
theorem dX8_pass_33 : decode cX8_pass 33 = .ok (.aload_n 0, 1) := by decide +kernel
theorem dX8_pass_34 : decode cX8_pass 34 = .ok (.getfield 53, 3) := by decide +kernel
theorem dX8_pass_37 : decode cX8_pass 37 = .ok (.iload_n 1, 1) := by decide +kernel
theorem dX8_pass_38 : decode cX8_pass 38 = .ok (.iadd, 1) := by decide +kernel
theorem dX8_pass_39 : decode cX8_pass 39 = .ok (.istore_n 2, 1) := by decide +kernel
theorem dX8_pass_40 : decode cX8_pass 40 = .ok (.aload_n 0, 1) := by decide +kernel
theorem dX8_pass_41 : decode cX8_pass 41 = .ok (.getfield 11, 3) := by decide +kernel
theorem dX8_pass_44 : decode cX8_pass 44 = .ok (.astore_n 3, 1) := by decide +kernel
theorem dX8_pass_45 : decode cX8_pass 45 = .ok (.aload_n 3, 1) := by decide +kernel
theorem dX8_pass_46 : decode cX8_pass 46 = .ok (.arraylength, 1) := by decide +kernel
theorem dX8_pass_47 : decode cX8_pass 47 = .ok (.istore 4, 2) := by decide +kernel
theorem dX8_pass_49 : decode cX8_pass 49 = .ok (.iconst 0, 1) := by decide +kernel
theorem dX8_pass_50 : decode cX8_pass 50 = .ok (.istore 5, 2) := by decide +kernel
theorem dX8_pass_52 : decode cX8_pass 52 = .ok (.iload 5, 2) := by decide +kernel
theorem dX8_pass_54 : decode cX8_pass 54 = .ok (.iload 4, 2) := by decide +kernel
theorem dX8_pass_56 : decode cX8_pass 56 = .ok (.if_icmp .ge 55, 3) := by decide +kernel
theorem dX8_pass_59 : decode cX8_pass 59 = .ok (.aload_n 3, 1) := by decide +kernel
theorem dX8_pass_60 : decode cX8_pass 60 = .ok (.iload 5, 2) := by decide +kernel
theorem dX8_pass_62 : decode cX8_pass 62 = .ok (.aaload, 1) := by decide +kernel
theorem dX8_pass_63 : decode cX8_pass 63 = .ok (.astore 6, 2) := by decide +kernel
theorem dX8_pass_65 : decode cX8_pass 65 = .ok (.aload_n 0, 1) := by decide +kernel
theorem dX8_pass_66 : decode cX8_pass 66 = .ok (.getfield 53, 3) := by decide +kernel
theorem dX8_pass_69 : decode cX8_pass 69 = .ok (.iconst 1, 1) := by decide +kernel
theorem dX8_pass_70 : decode cX8_pass 70 = .ok (.iadd, 1) := by decide +kernel
theorem dX8_pass_71 : decode cX8_pass 71 = .ok (.istore 7, 2) := by decide +kernel
theorem dX8_pass_73 : decode cX8_pass 73 = .ok (.aload 6, 2) := by decide +kernel
theorem dX8_pass_75 : decode cX8_pass 75 = .ok (.ifnull 30, 3) := by decide +kernel
theorem dX8_pass_78 : decode cX8_pass 78 = .ok (.aload 6, 2) := by decide +kernel
theorem dX8_pass_80 : decode cX8_pass 80 = .ok (.getfield 186, 3) := by decide +kernel
theorem dX8_pass_83 : decode cX8_pass 83 = .ok (.ifnull 22, 3) := by decide +kernel
theorem dX8_pass_86 : decode cX8_pass 86 = .ok (.iload 7, 2) := by decide +kernel
theorem dX8_pass_88 : decode cX8_pass 88 = .ok (.iload_n 2, 1) := by decide +kernel
theorem dX8_pass_89 : decode cX8_pass 89 = .ok (.if_icmp .gt 16, 3) := by decide +kernel
theorem dX8_pass_92 : decode cX8_pass 92 = .ok (.aload 6, 2) := by decide +kernel
theorem dX8_pass_94 : decode cX8_pass 94 = .ok (.iload 7, 2) := by decide +kernel
theorem dX8_pass_96 : decode cX8_pass 96 = .ok (.invokevirtual 215, 3) := by decide +kernel
theorem dX8_pass_99 : decode cX8_pass 99 = .ok (.iinc 7 1, 3) := by decide +kernel
theorem dX8_pass_102 : decode cX8_pass 102 = .ok (.goto (-29), 3) := by decide +kernel
theorem dX8_pass_105 : decode cX8_pass 105 = .ok (.iinc 5 1, 3) := by decide +kernel
theorem dX8_pass_108 : decode cX8_pass 108 = .ok (.goto (-56), 3) := by decide +kernel
theorem dX8_pass_111 : decode cX8_pass 111 = .ok (.aload_n 0, 1) := by decide +kernel
theorem dX8_pass_112 : decode cX8_pass 112 = .ok (.iload_n 2, 1) := by decide +kernel
theorem dX8_pass_113 : decode cX8_pass 113 = .ok (.putfield 53, 3) := by decide +kernel
theorem dX8_pass_116 : decode cX8_pass 116 = .ok (.iload_n 2, 1) := by decide +kernel
theorem dX8_pass_117 : decode cX8_pass 117 = .ok (.ireturn, 1) := by decide +kernel
theorem dX8_childIs_0 : decode cX8_childIs 0 = .ok (.aload_n 0, 1) := by decide +kernel
theorem dX8_childIs_1 : decode cX8_childIs 1 = .ok (.iload_n 1, 1) := by decide +kernel
theorem dX8_childIs_2 : decode cX8_childIs 2 = .ok (.invokevirtual 90, 3) := by decide +kernel
theorem dX8_childIs_5 : decode cX8_childIs 5 = .ok (.astore_n 3, 1) := by decide +kernel
theorem dX8_childIs_6 : decode cX8_childIs 6 = .ok (.iload_n 2, 1) := by decide +kernel
theorem dX8_childIs_7 : decode cX8_childIs 7 = .ok (.tableswitch 114 0 6 #[41, 63, 72, 77, 85, 93, 109], 41) := by decide +kernel
theorem dX8_childIs_48 : decode cX8_childIs 48 = .ok (.aload_n 3, 1) := by decide +kernel
theorem dX8_childIs_49 : decode cX8_childIs 49 = .ok (.getfield 186, 3) := by decide +kernel
theorem dX8_childIs_52 : decode cX8_childIs 52 = .ok (.ifnonnull 7, 3) := by decide +kernel
theorem dX8_childIs_55 : decode cX8_childIs 55 = .ok (.iconst (-1), 1) := by decide +kernel
theorem dX8_childIs_56 : decode cX8_childIs 56 = .ok (.goto 13, 3) := by decide +kernel
theorem dX8_childIs_59 : decode cX8_childIs 59 = .ok (.aload_n 3, 1) := by decide +kernel
theorem dX8_childIs_60 : decode cX8_childIs 60 = .ok (.getfield 186, 3) := by decide +kernel
theorem dX8_childIs_63 : decode cX8_childIs 63 = .ok (.getfield 218, 3) := by decide +kernel
theorem dX8_childIs_66 : decode cX8_childIs 66 = .ok (.getfield 136, 3) := by decide +kernel
theorem dX8_childIs_69 : decode cX8_childIs 69 = .ok (.ireturn, 1) := by decide +kernel
theorem dX8_childIs_70 : decode cX8_childIs 70 = .ok (.aload_n 3, 1) := by decide +kernel
theorem dX8_childIs_71 : decode cX8_childIs 71 = .ok (.aload_n 0, 1) := by decide +kernel
theorem dX8_childIs_72 : decode cX8_childIs 72 = .ok (.getfield 53, 3) := by decide +kernel
theorem dX8_childIs_75 : decode cX8_childIs 75 = .ok (.invokevirtual 222, 3) := by decide +kernel
theorem dX8_childIs_78 : decode cX8_childIs 78 = .ok (.ireturn, 1) := by decide +kernel
theorem dX8_childIs_79 : decode cX8_childIs 79 = .ok (.aload_n 3, 1) := by decide +kernel
theorem dX8_childIs_80 : decode cX8_childIs 80 = .ok (.getfield 225, 3) := by decide +kernel
theorem dX8_childIs_83 : decode cX8_childIs 83 = .ok (.ireturn, 1) := by decide +kernel
theorem dX8_childIs_84 : decode cX8_childIs 84 = .ok (.aload_n 3, 1) := by decide +kernel
theorem dX8_childIs_85 : decode cX8_childIs 85 = .ok (.getfield 177, 3) := by decide +kernel
theorem dX8_childIs_88 : decode cX8_childIs 88 = .ok (.getfield 227, 3) := by decide +kernel
theorem dX8_childIs_91 : decode cX8_childIs 91 = .ok (.ireturn, 1) := by decide +kernel
theorem dX8_childIs_92 : decode cX8_childIs 92 = .ok (.aload_n 3, 1) := by decide +kernel
theorem dX8_childIs_93 : decode cX8_childIs 93 = .ok (.getfield 177, 3) := by decide +kernel
theorem dX8_childIs_96 : decode cX8_childIs 96 = .ok (.getfield 230, 3) := by decide +kernel
theorem dX8_childIs_99 : decode cX8_childIs 99 = .ok (.ireturn, 1) := by decide +kernel
theorem dX8_childIs_100 : decode cX8_childIs 100 = .ok (.aload_n 3, 1) := by decide +kernel
theorem dX8_childIs_101 : decode cX8_childIs 101 = .ok (.getfield 177, 3) := by decide +kernel
theorem dX8_childIs_104 : decode cX8_childIs 104 = .ok (.getfield 233, 3) := by decide +kernel
theorem dX8_childIs_107 : decode cX8_childIs 107 = .ok (.ifCond .eq 7, 3) := by decide +kernel
theorem dX8_childIs_110 : decode cX8_childIs 110 = .ok (.iconst 1, 1) := by decide +kernel
theorem dX8_childIs_111 : decode cX8_childIs 111 = .ok (.goto 4, 3) := by decide +kernel
theorem dX8_childIs_114 : decode cX8_childIs 114 = .ok (.iconst 0, 1) := by decide +kernel
theorem dX8_childIs_115 : decode cX8_childIs 115 = .ok (.ireturn, 1) := by decide +kernel
theorem dX8_childIs_116 : decode cX8_childIs 116 = .ok (.aload_n 3, 1) := by decide +kernel
theorem dX8_childIs_117 : decode cX8_childIs 117 = .ok (.getfield 207, 3) := by decide +kernel
theorem dX8_childIs_120 : decode cX8_childIs 120 = .ok (.ireturn, 1) := by decide +kernel
theorem dX8_childIs_121 : decode cX8_childIs 121 = .ok (.new 236, 3) := by decide +kernel
theorem dX8_childIs_124 : decode cX8_childIs 124 = .ok (.dup, 1) := by decide +kernel
theorem dX8_childIs_125 : decode cX8_childIs 125 = .ok (.ldc 238, 2) := by decide +kernel
theorem dX8_childIs_127 : decode cX8_childIs 127 = .ok (.invokespecial 240, 3) := by decide +kernel
theorem dX8_childIs_130 : decode cX8_childIs 130 = .ok (.athrow, 1) := by decide +kernel
theorem dX8_stay_0 : decode cX8_stay 0 = .ok (.aload_n 0, 1) := by decide +kernel
theorem dX8_stay_1 : decode cX8_stay 1 = .ok (.iload_n 1, 1) := by decide +kernel
theorem dX8_stay_2 : decode cX8_stay 2 = .ok (.invokevirtual 241, 3) := by decide +kernel
theorem dX8_stay_5 : decode cX8_stay 5 = .ok (.astore_n 3, 1) := by decide +kernel
theorem dX8_stay_6 : decode cX8_stay 6 = .ok (.iload_n 2, 1) := by decide +kernel
theorem dX8_stay_7 : decode cX8_stay 7 = .ok (.tableswitch 64 0 4 #[33, 41, 49, 54, 59], 33) := by decide +kernel
theorem dX8_stay_40 : decode cX8_stay 40 = .ok (.aload_n 3, 1) := by decide +kernel
theorem dX8_stay_41 : decode cX8_stay 41 = .ok (.getfield 245, 3) := by decide +kernel
theorem dX8_stay_44 : decode cX8_stay 44 = .ok (.getfield 249, 3) := by decide +kernel
theorem dX8_stay_47 : decode cX8_stay 47 = .ok (.ireturn, 1) := by decide +kernel
theorem dX8_stay_48 : decode cX8_stay 48 = .ok (.aload_n 3, 1) := by decide +kernel
theorem dX8_stay_49 : decode cX8_stay 49 = .ok (.getfield 218, 3) := by decide +kernel
theorem dX8_stay_52 : decode cX8_stay 52 = .ok (.getfield 136, 3) := by decide +kernel
theorem dX8_stay_55 : decode cX8_stay 55 = .ok (.ireturn, 1) := by decide +kernel
theorem dX8_stay_56 : decode cX8_stay 56 = .ok (.aload_n 3, 1) := by decide +kernel
theorem dX8_stay_57 : decode cX8_stay 57 = .ok (.getfield 250, 3) := by decide +kernel
theorem dX8_stay_60 : decode cX8_stay 60 = .ok (.ireturn, 1) := by decide +kernel
theorem dX8_stay_61 : decode cX8_stay 61 = .ok (.aload_n 3, 1) := by decide +kernel
theorem dX8_stay_62 : decode cX8_stay 62 = .ok (.getfield 253, 3) := by decide +kernel
theorem dX8_stay_65 : decode cX8_stay 65 = .ok (.ireturn, 1) := by decide +kernel
theorem dX8_stay_66 : decode cX8_stay 66 = .ok (.aload_n 3, 1) := by decide +kernel
theorem dX8_stay_67 : decode cX8_stay 67 = .ok (.getfield 256, 3) := by decide +kernel
theorem dX8_stay_70 : decode cX8_stay 70 = .ok (.ireturn, 1) := by decide +kernel
theorem dX8_stay_71 : decode cX8_stay 71 = .ok (.new 236, 3) := by decide +kernel
theorem dX8_stay_74 : decode cX8_stay 74 = .ok (.dup, 1) := by decide +kernel
theorem dX8_stay_75 : decode cX8_stay 75 = .ok (.ldc_w 259, 3) := by decide +kernel
theorem dX8_stay_78 : decode cX8_stay 78 = .ok (.invokespecial 240, 3) := by decide +kernel
theorem dX8_stay_81 : decode cX8_stay 81 = .ok (.athrow, 1) := by decide +kernel
theorem dX8_wasAllowed_0 : decode cX8_wasAllowed 0 = .ok (.aload_n 0, 1) := by decide +kernel
theorem dX8_wasAllowed_1 : decode cX8_wasAllowed 1 = .ok (.iload_n 1, 1) := by decide +kernel
theorem dX8_wasAllowed_2 : decode cX8_wasAllowed 2 = .ok (.invokevirtual 241, 3) := by decide +kernel
theorem dX8_wasAllowed_5 : decode cX8_wasAllowed 5 = .ok (.astore_n 2, 1) := by decide +kernel
theorem dX8_wasAllowed_6 : decode cX8_wasAllowed 6 = .ok (.aload_n 2, 1) := by decide +kernel
theorem dX8_wasAllowed_7 : decode cX8_wasAllowed 7 = .ok (.getfield 245, 3) := by decide +kernel
theorem dX8_wasAllowed_10 : decode cX8_wasAllowed 10 = .ok (.aload_n 2, 1) := by decide +kernel
theorem dX8_wasAllowed_11 : decode cX8_wasAllowed 11 = .ok (.getfield 218, 3) := by decide +kernel
theorem dX8_wasAllowed_14 : decode cX8_wasAllowed 14 = .ok (.aload_n 2, 1) := by decide +kernel
theorem dX8_wasAllowed_15 : decode cX8_wasAllowed 15 = .ok (.getfield 250, 3) := by decide +kernel
theorem dX8_wasAllowed_18 : decode cX8_wasAllowed 18 = .ok (.invokestatic 261, 3) := by decide +kernel
theorem dX8_wasAllowed_21 : decode cX8_wasAllowed 21 = .ok (.ifCond .ne 7, 3) := by decide +kernel
theorem dX8_wasAllowed_24 : decode cX8_wasAllowed 24 = .ok (.iconst 1, 1) := by decide +kernel
theorem dX8_wasAllowed_25 : decode cX8_wasAllowed 25 = .ok (.goto 4, 3) := by decide +kernel
theorem dX8_wasAllowed_28 : decode cX8_wasAllowed 28 = .ok (.iconst 0, 1) := by decide +kernel
theorem dX8_wasAllowed_29 : decode cX8_wasAllowed 29 = .ok (.ireturn, 1) := by decide +kernel
theorem dX8_blacken_0 : decode cX8_blacken 0 = .ok (.aload_n 0, 1) := by decide +kernel
theorem dX8_blacken_1 : decode cX8_blacken 1 = .ok (.iload_n 1, 1) := by decide +kernel
theorem dX8_blacken_2 : decode cX8_blacken 2 = .ok (.invokevirtual 71, 3) := by decide +kernel
theorem dX8_blacken_5 : decode cX8_blacken 5 = .ok (.astore_n 3, 1) := by decide +kernel
theorem dX8_blacken_6 : decode cX8_blacken 6 = .ok (.aload_n 3, 1) := by decide +kernel
theorem dX8_blacken_7 : decode cX8_blacken 7 = .ok (.getfield 265, 3) := by decide +kernel
theorem dX8_blacken_10 : decode cX8_blacken 10 = .ok (.istore 4, 2) := by decide +kernel
theorem dX8_blacken_12 : decode cX8_blacken 12 = .ok (.aload_n 3, 1) := by decide +kernel
theorem dX8_blacken_13 : decode cX8_blacken 13 = .ok (.iload_n 2, 1) := by decide +kernel
theorem dX8_blacken_14 : decode cX8_blacken 14 = .ok (.putfield 265, 3) := by decide +kernel
theorem dX8_blacken_17 : decode cX8_blacken 17 = .ok (.iload 4, 2) := by decide +kernel
theorem dX8_blacken_19 : decode cX8_blacken 19 = .ok (.ireturn, 1) := by decide +kernel
theorem dX8_file_0 : decode cX8_file 0 = .ok (.aload_n 0, 1) := by decide +kernel
theorem dX8_file_1 : decode cX8_file 1 = .ok (.iload_n 1, 1) := by decide +kernel
theorem dX8_file_2 : decode cX8_file 2 = .ok (.invokevirtual 90, 3) := by decide +kernel
theorem dX8_file_5 : decode cX8_file 5 = .ok (.astore_n 3, 1) := by decide +kernel
theorem dX8_file_6 : decode cX8_file 6 = .ok (.iload_n 2, 1) := by decide +kernel
theorem dX8_file_7 : decode cX8_file 7 = .ok (.ifCond .ge 14, 3) := by decide +kernel
theorem dX8_file_10 : decode cX8_file 10 = .ok (.new 268, 3) := by decide +kernel
theorem dX8_file_13 : decode cX8_file 13 = .ok (.dup, 1) := by decide +kernel
theorem dX8_file_14 : decode cX8_file 14 = .ok (.ldc_w 270, 3) := by decide +kernel
theorem dX8_file_17 : decode cX8_file 17 = .ok (.invokespecial 272, 3) := by decide +kernel
theorem dX8_file_20 : decode cX8_file 20 = .ok (.athrow, 1) := by decide +kernel
theorem dX8_file_21 : decode cX8_file 21 = .ok (.aload_n 3, 1) := by decide +kernel
theorem dX8_file_22 : decode cX8_file 22 = .ok (.aload_n 0, 1) := by decide +kernel
theorem dX8_file_23 : decode cX8_file 23 = .ok (.getfield 53, 3) := by decide +kernel
theorem dX8_file_26 : decode cX8_file 26 = .ok (.invokevirtual 222, 3) := by decide +kernel
theorem dX8_file_29 : decode cX8_file 29 = .ok (.bipush 18, 2) := by decide +kernel
theorem dX8_file_31 : decode cX8_file 31 = .ok (.if_icmp .ge 14, 3) := by decide +kernel
theorem dX8_file_34 : decode cX8_file 34 = .ok (.new 46, 3) := by decide +kernel
theorem dX8_file_37 : decode cX8_file 37 = .ok (.dup, 1) := by decide +kernel
theorem dX8_file_38 : decode cX8_file 38 = .ok (.ldc_w 273, 3) := by decide +kernel
theorem dX8_file_41 : decode cX8_file 41 = .ok (.invokespecial 50, 3) := by decide +kernel
theorem dX8_file_44 : decode cX8_file 44 = .ok (.athrow, 1) := by decide +kernel
theorem dX8_file_45 : decode cX8_file 45 = .ok (.iload_n 2, 1) := by decide +kernel
theorem dX8_file_46 : decode cX8_file 46 = .ok (.istore 4, 2) := by decide +kernel
theorem dX8_file_48 : decode cX8_file 48 = .ok (.aload_n 0, 1) := by decide +kernel
theorem dX8_file_49 : decode cX8_file 49 = .ok (.getfield 23, 3) := by decide +kernel
theorem dX8_file_52 : decode cX8_file 52 = .ok (.astore 5, 2) := by decide +kernel
theorem dX8_file_54 : decode cX8_file 54 = .ok (.aload 5, 2) := by decide +kernel
theorem dX8_file_56 : decode cX8_file 56 = .ok (.arraylength, 1) := by decide +kernel
theorem dX8_file_57 : decode cX8_file 57 = .ok (.istore 6, 2) := by decide +kernel
theorem dX8_file_59 : decode cX8_file 59 = .ok (.iconst 0, 1) := by decide +kernel
theorem dX8_file_60 : decode cX8_file 60 = .ok (.istore 7, 2) := by decide +kernel
theorem dX8_file_62 : decode cX8_file 62 = .ok (.iload 7, 2) := by decide +kernel
theorem dX8_file_64 : decode cX8_file 64 = .ok (.iload 6, 2) := by decide +kernel
theorem dX8_file_66 : decode cX8_file 66 = .ok (.if_icmp .ge 66, 3) := by decide +kernel
theorem dX8_file_69 : decode cX8_file 69 = .ok (.aload 5, 2) := by decide +kernel
theorem dX8_file_71 : decode cX8_file 71 = .ok (.iload 7, 2) := by decide +kernel
theorem dX8_file_73 : decode cX8_file 73 = .ok (.aaload, 1) := by decide +kernel
theorem dX8_file_74 : decode cX8_file 74 = .ok (.astore 8, 2) := by decide +kernel
theorem dX8_file_76 : decode cX8_file 76 = .ok (.aload 8, 2) := by decide +kernel
theorem dX8_file_78 : decode cX8_file 78 = .ok (.ifnull 48, 3) := by decide +kernel
theorem dX8_file_81 : decode cX8_file 81 = .ok (.aload 8, 2) := by decide +kernel
theorem dX8_file_83 : decode cX8_file 83 = .ok (.getfield 245, 3) := by decide +kernel
theorem dX8_file_86 : decode cX8_file 86 = .ok (.aload_n 3, 1) := by decide +kernel
theorem dX8_file_87 : decode cX8_file 87 = .ok (.if_acmp .eq 6, 3) := by decide +kernel
theorem dX8_file_90 : decode cX8_file 90 = .ok (.goto 36, 3) := by decide +kernel
theorem dX8_file_93 : decode cX8_file 93 = .ok (.iload 4, 2) := by decide +kernel
theorem dX8_file_95 : decode cX8_file 95 = .ok (.ifCond .ne 28, 3) := by decide +kernel
theorem dX8_file_98 : decode cX8_file 98 = .ok (.aload 8, 2) := by decide +kernel
theorem dX8_file_100 : decode cX8_file 100 = .ok (.getfield 218, 3) := by decide +kernel
theorem dX8_file_103 : decode cX8_file 103 = .ok (.getfield 265, 3) := by decide +kernel
theorem dX8_file_106 : decode cX8_file 106 = .ok (.ifCond .eq 8, 3) := by decide +kernel
theorem dX8_file_109 : decode cX8_file 109 = .ok (.bipush (-2), 2) := by decide +kernel
theorem dX8_file_111 : decode cX8_file 111 = .ok (.goto 11, 3) := by decide +kernel
theorem dX8_file_114 : decode cX8_file 114 = .ok (.aload 8, 2) := by decide +kernel
theorem dX8_file_116 : decode cX8_file 116 = .ok (.getfield 218, 3) := by decide +kernel
theorem dX8_file_119 : decode cX8_file 119 = .ok (.getfield 136, 3) := by decide +kernel
theorem dX8_file_122 : decode cX8_file 122 = .ok (.ireturn, 1) := by decide +kernel
theorem dX8_file_123 : decode cX8_file 123 = .ok (.iinc 4 (-1), 3) := by decide +kernel
theorem dX8_file_126 : decode cX8_file 126 = .ok (.iinc 7 1, 3) := by decide +kernel
theorem dX8_file_129 : decode cX8_file 129 = .ok (.goto (-67), 3) := by decide +kernel
theorem dX8_file_132 : decode cX8_file 132 = .ok (.iconst (-1), 1) := by decide +kernel
theorem dX8_file_133 : decode cX8_file 133 = .ok (.ireturn, 1) := by decide +kernel
theorem dX8_isWithin_0 : decode cX8_isWithin 0 = .ok (.iload_n 1, 1) := by decide +kernel
theorem dX8_isWithin_1 : decode cX8_isWithin 1 = .ok (.iload_n 0, 1) := by decide +kernel
theorem dX8_isWithin_2 : decode cX8_isWithin 2 = .ok (.if_icmp .gt 12, 3) := by decide +kernel
theorem dX8_isWithin_5 : decode cX8_isWithin 5 = .ok (.iload_n 0, 1) := by decide +kernel
theorem dX8_isWithin_6 : decode cX8_isWithin 6 = .ok (.iload_n 2, 1) := by decide +kernel
theorem dX8_isWithin_7 : decode cX8_isWithin 7 = .ok (.if_icmp .gt 7, 3) := by decide +kernel
theorem dX8_isWithin_10 : decode cX8_isWithin 10 = .ok (.iconst 1, 1) := by decide +kernel
theorem dX8_isWithin_11 : decode cX8_isWithin 11 = .ok (.goto 4, 3) := by decide +kernel
theorem dX8_isWithin_14 : decode cX8_isWithin 14 = .ok (.iconst 0, 1) := by decide +kernel
theorem dX8_isWithin_15 : decode cX8_isWithin 15 = .ok (.ireturn, 1) := by decide +kernel
theorem dX8_require_0 : decode cX8_require 0 = .ok (.iload_n 0, 1) := by decide +kernel
theorem dX8_require_1 : decode cX8_require 1 = .ok (.ifCond .ne 14, 3) := by decide +kernel
theorem dX8_require_4 : decode cX8_require 4 = .ok (.new 236, 3) := by decide +kernel
theorem dX8_require_7 : decode cX8_require 7 = .ok (.dup, 1) := by decide +kernel
theorem dX8_require_8 : decode cX8_require 8 = .ok (.ldc_w 275, 3) := by decide +kernel
theorem dX8_require_11 : decode cX8_require 11 = .ok (.invokespecial 240, 3) := by decide +kernel
theorem dX8_require_14 : decode cX8_require 14 = .ok (.athrow, 1) := by decide +kernel
theorem dX8_require_15 : decode cX8_require 15 = .ok (.return_, 1) := by decide +kernel
theorem dX8_requireWorker_0 : decode cX8_requireWorker 0 = .ok (.iload_n 0, 1) := by decide +kernel
theorem dX8_requireWorker_1 : decode cX8_requireWorker 1 = .ok (.iconst 0, 1) := by decide +kernel
theorem dX8_requireWorker_2 : decode cX8_requireWorker 2 = .ok (.iconst 4, 1) := by decide +kernel
theorem dX8_requireWorker_3 : decode cX8_requireWorker 3 = .ok (.invokestatic 34, 3) := by decide +kernel
theorem dX8_requireWorker_6 : decode cX8_requireWorker 6 = .ok (.ifCond .ne 14, 3) := by decide +kernel
theorem dX8_requireWorker_9 : decode cX8_requireWorker 9 = .ok (.new 268, 3) := by decide +kernel
theorem dX8_requireWorker_12 : decode cX8_requireWorker 12 = .ok (.dup, 1) := by decide +kernel
theorem dX8_requireWorker_13 : decode cX8_requireWorker 13 = .ok (.ldc_w 277, 3) := by decide +kernel
theorem dX8_requireWorker_16 : decode cX8_requireWorker 16 = .ok (.invokespecial 272, 3) := by decide +kernel
theorem dX8_requireWorker_19 : decode cX8_requireWorker 19 = .ok (.athrow, 1) := by decide +kernel
theorem dX8_requireWorker_20 : decode cX8_requireWorker 20 = .ok (.return_, 1) := by decide +kernel
theorem dX8_childAt_0 : decode cX8_childAt 0 = .ok (.iload_n 1, 1) := by decide +kernel
theorem dX8_childAt_1 : decode cX8_childAt 1 = .ok (.ifCond .lt 21, 3) := by decide +kernel
theorem dX8_childAt_4 : decode cX8_childAt 4 = .ok (.iload_n 1, 1) := by decide +kernel
theorem dX8_childAt_5 : decode cX8_childAt 5 = .ok (.aload_n 0, 1) := by decide +kernel
theorem dX8_childAt_6 : decode cX8_childAt 6 = .ok (.getfield 11, 3) := by decide +kernel
theorem dX8_childAt_9 : decode cX8_childAt 9 = .ok (.arraylength, 1) := by decide +kernel
theorem dX8_childAt_10 : decode cX8_childAt 10 = .ok (.if_icmp .ge 12, 3) := by decide +kernel
theorem dX8_childAt_13 : decode cX8_childAt 13 = .ok (.aload_n 0, 1) := by decide +kernel
theorem dX8_childAt_14 : decode cX8_childAt 14 = .ok (.getfield 11, 3) := by decide +kernel
theorem dX8_childAt_17 : decode cX8_childAt 17 = .ok (.iload_n 1, 1) := by decide +kernel
theorem dX8_childAt_18 : decode cX8_childAt 18 = .ok (.aaload, 1) := by decide +kernel
theorem dX8_childAt_19 : decode cX8_childAt 19 = .ok (.goto 4, 3) := by decide +kernel
theorem dX8_childAt_22 : decode cX8_childAt 22 = .ok (.aconst_null, 1) := by decide +kernel
theorem dX8_childAt_23 : decode cX8_childAt 23 = .ok (.astore_n 2, 1) := by decide +kernel
theorem dX8_childAt_24 : decode cX8_childAt 24 = .ok (.aload_n 2, 1) := by decide +kernel
theorem dX8_childAt_25 : decode cX8_childAt 25 = .ok (.ifnonnull 14, 3) := by decide +kernel
theorem dX8_childAt_28 : decode cX8_childAt 28 = .ok (.new 268, 3) := by decide +kernel
theorem dX8_childAt_31 : decode cX8_childAt 31 = .ok (.dup, 1) := by decide +kernel
theorem dX8_childAt_32 : decode cX8_childAt 32 = .ok (.ldc_w 279, 3) := by decide +kernel
theorem dX8_childAt_35 : decode cX8_childAt 35 = .ok (.invokespecial 272, 3) := by decide +kernel
theorem dX8_childAt_38 : decode cX8_childAt 38 = .ok (.athrow, 1) := by decide +kernel
theorem dX8_childAt_39 : decode cX8_childAt 39 = .ok (.aload_n 2, 1) := by decide +kernel
theorem dX8_childAt_40 : decode cX8_childAt 40 = .ok (.areturn, 1) := by decide +kernel
theorem dX8_homeAt_0 : decode cX8_homeAt 0 = .ok (.iload_n 1, 1) := by decide +kernel
theorem dX8_homeAt_1 : decode cX8_homeAt 1 = .ok (.ifCond .lt 21, 3) := by decide +kernel
theorem dX8_homeAt_4 : decode cX8_homeAt 4 = .ok (.iload_n 1, 1) := by decide +kernel
theorem dX8_homeAt_5 : decode cX8_homeAt 5 = .ok (.aload_n 0, 1) := by decide +kernel
theorem dX8_homeAt_6 : decode cX8_homeAt 6 = .ok (.getfield 17, 3) := by decide +kernel
theorem dX8_homeAt_9 : decode cX8_homeAt 9 = .ok (.arraylength, 1) := by decide +kernel
theorem dX8_homeAt_10 : decode cX8_homeAt 10 = .ok (.if_icmp .ge 12, 3) := by decide +kernel
theorem dX8_homeAt_13 : decode cX8_homeAt 13 = .ok (.aload_n 0, 1) := by decide +kernel
theorem dX8_homeAt_14 : decode cX8_homeAt 14 = .ok (.getfield 17, 3) := by decide +kernel
theorem dX8_homeAt_17 : decode cX8_homeAt 17 = .ok (.iload_n 1, 1) := by decide +kernel
theorem dX8_homeAt_18 : decode cX8_homeAt 18 = .ok (.aaload, 1) := by decide +kernel
theorem dX8_homeAt_19 : decode cX8_homeAt 19 = .ok (.goto 4, 3) := by decide +kernel
theorem dX8_homeAt_22 : decode cX8_homeAt 22 = .ok (.aconst_null, 1) := by decide +kernel
theorem dX8_homeAt_23 : decode cX8_homeAt 23 = .ok (.astore_n 2, 1) := by decide +kernel
theorem dX8_homeAt_24 : decode cX8_homeAt 24 = .ok (.aload_n 2, 1) := by decide +kernel
theorem dX8_homeAt_25 : decode cX8_homeAt 25 = .ok (.ifnonnull 14, 3) := by decide +kernel
theorem dX8_homeAt_28 : decode cX8_homeAt 28 = .ok (.new 268, 3) := by decide +kernel
theorem dX8_homeAt_31 : decode cX8_homeAt 31 = .ok (.dup, 1) := by decide +kernel
theorem dX8_homeAt_32 : decode cX8_homeAt 32 = .ok (.ldc_w 281, 3) := by decide +kernel
theorem dX8_homeAt_35 : decode cX8_homeAt 35 = .ok (.invokespecial 272, 3) := by decide +kernel
theorem dX8_homeAt_38 : decode cX8_homeAt 38 = .ok (.athrow, 1) := by decide +kernel
theorem dX8_homeAt_39 : decode cX8_homeAt 39 = .ok (.aload_n 2, 1) := by decide +kernel
theorem dX8_homeAt_40 : decode cX8_homeAt 40 = .ok (.areturn, 1) := by decide +kernel
theorem dX8_stayAt_0 : decode cX8_stayAt 0 = .ok (.iload_n 1, 1) := by decide +kernel
theorem dX8_stayAt_1 : decode cX8_stayAt 1 = .ok (.ifCond .lt 21, 3) := by decide +kernel
theorem dX8_stayAt_4 : decode cX8_stayAt 4 = .ok (.iload_n 1, 1) := by decide +kernel
theorem dX8_stayAt_5 : decode cX8_stayAt 5 = .ok (.aload_n 0, 1) := by decide +kernel
theorem dX8_stayAt_6 : decode cX8_stayAt 6 = .ok (.getfield 23, 3) := by decide +kernel
theorem dX8_stayAt_9 : decode cX8_stayAt 9 = .ok (.arraylength, 1) := by decide +kernel
theorem dX8_stayAt_10 : decode cX8_stayAt 10 = .ok (.if_icmp .ge 12, 3) := by decide +kernel
theorem dX8_stayAt_13 : decode cX8_stayAt 13 = .ok (.aload_n 0, 1) := by decide +kernel
theorem dX8_stayAt_14 : decode cX8_stayAt 14 = .ok (.getfield 23, 3) := by decide +kernel
theorem dX8_stayAt_17 : decode cX8_stayAt 17 = .ok (.iload_n 1, 1) := by decide +kernel
theorem dX8_stayAt_18 : decode cX8_stayAt 18 = .ok (.aaload, 1) := by decide +kernel
theorem dX8_stayAt_19 : decode cX8_stayAt 19 = .ok (.goto 4, 3) := by decide +kernel
theorem dX8_stayAt_22 : decode cX8_stayAt 22 = .ok (.aconst_null, 1) := by decide +kernel
theorem dX8_stayAt_23 : decode cX8_stayAt 23 = .ok (.astore_n 2, 1) := by decide +kernel
theorem dX8_stayAt_24 : decode cX8_stayAt 24 = .ok (.aload_n 2, 1) := by decide +kernel
theorem dX8_stayAt_25 : decode cX8_stayAt 25 = .ok (.ifnonnull 14, 3) := by decide +kernel
theorem dX8_stayAt_28 : decode cX8_stayAt 28 = .ok (.new 268, 3) := by decide +kernel
theorem dX8_stayAt_31 : decode cX8_stayAt 31 = .ok (.dup, 1) := by decide +kernel
theorem dX8_stayAt_32 : decode cX8_stayAt 32 = .ok (.ldc_w 283, 3) := by decide +kernel
theorem dX8_stayAt_35 : decode cX8_stayAt 35 = .ok (.invokespecial 272, 3) := by decide +kernel
theorem dX8_stayAt_38 : decode cX8_stayAt 38 = .ok (.athrow, 1) := by decide +kernel
theorem dX8_stayAt_39 : decode cX8_stayAt 39 = .ok (.aload_n 2, 1) := by decide +kernel
theorem dX8_stayAt_40 : decode cX8_stayAt 40 = .ok (.areturn, 1) := by decide +kernel
theorem dX8_barOnDay_0 : decode cX8_barOnDay 0 = .ok (.aload_n 0, 1) := by decide +kernel
theorem dX8_barOnDay_1 : decode cX8_barOnDay 1 = .ok (.iload_n 2, 1) := by decide +kernel
theorem dX8_barOnDay_2 : decode cX8_barOnDay 2 = .ok (.invokevirtual 285, 3) := by decide +kernel
theorem dX8_barOnDay_5 : decode cX8_barOnDay 5 = .ok (.ifCond .eq 5, 3) := by decide +kernel
theorem dX8_barOnDay_8 : decode cX8_barOnDay 8 = .ok (.iconst 1, 1) := by decide +kernel
theorem dX8_barOnDay_9 : decode cX8_barOnDay 9 = .ok (.ireturn, 1) := by decide +kernel
theorem dX8_barOnDay_10 : decode cX8_barOnDay 10 = .ok (.aload_n 1, 1) := by decide +kernel
theorem dX8_barOnDay_11 : decode cX8_barOnDay 11 = .ok (.getfield 77, 3) := by decide +kernel
theorem dX8_barOnDay_14 : decode cX8_barOnDay 14 = .ok (.iload_n 2, 1) := by decide +kernel
theorem dX8_barOnDay_15 : decode cX8_barOnDay 15 = .ok (.invokestatic 288, 3) := by decide +kernel
theorem dX8_barOnDay_18 : decode cX8_barOnDay 18 = .ok (.astore_n 3, 1) := by decide +kernel
theorem dX8_barOnDay_19 : decode cX8_barOnDay 19 = .ok (.aload_n 3, 1) := by decide +kernel
theorem dX8_barOnDay_20 : decode cX8_barOnDay 20 = .ok (.ifnull 11, 3) := by decide +kernel
theorem dX8_barOnDay_23 : decode cX8_barOnDay 23 = .ok (.aload_n 3, 1) := by decide +kernel
theorem dX8_barOnDay_24 : decode cX8_barOnDay 24 = .ok (.iload_n 2, 1) := by decide +kernel
theorem dX8_barOnDay_25 : decode cX8_barOnDay 25 = .ok (.invokevirtual 292, 3) := by decide +kernel
theorem dX8_barOnDay_28 : decode cX8_barOnDay 28 = .ok (.ifCond .ne 5, 3) := by decide +kernel
theorem dX8_barOnDay_31 : decode cX8_barOnDay 31 = .ok (.iconst 2, 1) := by decide +kernel
theorem dX8_barOnDay_32 : decode cX8_barOnDay 32 = .ok (.ireturn, 1) := by decide +kernel
theorem dX8_barOnDay_33 : decode cX8_barOnDay 33 = .ok (.aload_n 0, 1) := by decide +kernel
theorem dX8_barOnDay_34 : decode cX8_barOnDay 34 = .ok (.iload_n 2, 1) := by decide +kernel
theorem dX8_barOnDay_35 : decode cX8_barOnDay 35 = .ok (.invokevirtual 222, 3) := by decide +kernel
theorem dX8_barOnDay_38 : decode cX8_barOnDay 38 = .ok (.aload_n 3, 1) := by decide +kernel
theorem dX8_barOnDay_39 : decode cX8_barOnDay 39 = .ok (.getfield 296, 3) := by decide +kernel
theorem dX8_barOnDay_42 : decode cX8_barOnDay 42 = .ok (.aload_n 3, 1) := by decide +kernel
theorem dX8_barOnDay_43 : decode cX8_barOnDay 43 = .ok (.getfield 299, 3) := by decide +kernel
theorem dX8_barOnDay_46 : decode cX8_barOnDay 46 = .ok (.invokestatic 34, 3) := by decide +kernel
theorem dX8_barOnDay_49 : decode cX8_barOnDay 49 = .ok (.ifCond .ne 5, 3) := by decide +kernel
theorem dX8_barOnDay_52 : decode cX8_barOnDay 52 = .ok (.iconst 3, 1) := by decide +kernel
theorem dX8_barOnDay_53 : decode cX8_barOnDay 53 = .ok (.ireturn, 1) := by decide +kernel
theorem dX8_barOnDay_54 : decode cX8_barOnDay 54 = .ok (.aload_n 1, 1) := by decide +kernel
theorem dX8_barOnDay_55 : decode cX8_barOnDay 55 = .ok (.aload_n 0, 1) := by decide +kernel
theorem dX8_barOnDay_56 : decode cX8_barOnDay 56 = .ok (.getfield 302, 3) := by decide +kernel
theorem dX8_barOnDay_59 : decode cX8_barOnDay 59 = .ok (.iload_n 2, 1) := by decide +kernel
theorem dX8_barOnDay_60 : decode cX8_barOnDay 60 = .ok (.invokevirtual 305, 3) := by decide +kernel
theorem dX8_barOnDay_63 : decode cX8_barOnDay 63 = .ok (.ifCond .ne 5, 3) := by decide +kernel
theorem dX8_barOnDay_66 : decode cX8_barOnDay 66 = .ok (.iconst 4, 1) := by decide +kernel
theorem dX8_barOnDay_67 : decode cX8_barOnDay 67 = .ok (.ireturn, 1) := by decide +kernel
theorem dX8_barOnDay_68 : decode cX8_barOnDay 68 = .ok (.aload_n 1, 1) := by decide +kernel
theorem dX8_barOnDay_69 : decode cX8_barOnDay 69 = .ok (.iload_n 2, 1) := by decide +kernel
theorem dX8_barOnDay_70 : decode cX8_barOnDay 70 = .ok (.invokevirtual 309, 3) := by decide +kernel
theorem dX8_barOnDay_73 : decode cX8_barOnDay 73 = .ok (.ifCond .eq 7, 3) := by decide +kernel
theorem dX8_barOnDay_76 : decode cX8_barOnDay 76 = .ok (.iconst 5, 1) := by decide +kernel
theorem dX8_barOnDay_77 : decode cX8_barOnDay 77 = .ok (.goto 4, 3) := by decide +kernel
theorem dX8_barOnDay_80 : decode cX8_barOnDay 80 = .ok (.iconst 0, 1) := by decide +kernel
theorem dX8_barOnDay_81 : decode cX8_barOnDay 81 = .ok (.ireturn, 1) := by decide +kernel
theorem dX8_barToday_0 : decode cX8_barToday 0 = .ok (.aload_n 1, 1) := by decide +kernel
theorem dX8_barToday_1 : decode cX8_barToday 1 = .ok (.aload_n 2, 1) := by decide +kernel
theorem dX8_barToday_2 : decode cX8_barToday 2 = .ok (.aload_n 0, 1) := by decide +kernel
theorem dX8_barToday_3 : decode cX8_barToday 3 = .ok (.getfield 53, 3) := by decide +kernel
theorem dX8_barToday_6 : decode cX8_barToday 6 = .ok (.invokestatic 261, 3) := by decide +kernel
theorem dX8_barToday_9 : decode cX8_barToday 9 = .ok (.istore_n 3, 1) := by decide +kernel
theorem dX8_barToday_10 : decode cX8_barToday 10 = .ok (.iload_n 3, 1) := by decide +kernel
theorem dX8_barToday_11 : decode cX8_barToday 11 = .ok (.ifCond .eq 5, 3) := by decide +kernel
theorem dX8_barToday_14 : decode cX8_barToday 14 = .ok (.iload_n 3, 1) := by decide +kernel
theorem dX8_barToday_15 : decode cX8_barToday 15 = .ok (.ireturn, 1) := by decide +kernel
theorem dX8_barToday_16 : decode cX8_barToday 16 = .ok (.aload_n 0, 1) := by decide +kernel
theorem dX8_barToday_17 : decode cX8_barToday 17 = .ok (.aload_n 2, 1) := by decide +kernel
theorem dX8_barToday_18 : decode cX8_barToday 18 = .ok (.aload_n 1, 1) := by decide +kernel
theorem dX8_barToday_19 : decode cX8_barToday 19 = .ok (.invokevirtual 312, 3) := by decide +kernel
theorem dX8_barToday_22 : decode cX8_barToday 22 = .ok (.aload_n 2, 1) := by decide +kernel
theorem dX8_barToday_23 : decode cX8_barToday 23 = .ok (.getfield 316, 3) := by decide +kernel
theorem dX8_barToday_26 : decode cX8_barToday 26 = .ok (.if_icmp .lt 6, 3) := by decide +kernel
theorem dX8_barToday_29 : decode cX8_barToday 29 = .ok (.bipush 6, 2) := by decide +kernel
theorem dX8_barToday_31 : decode cX8_barToday 31 = .ok (.ireturn, 1) := by decide +kernel
theorem dX8_barToday_32 : decode cX8_barToday 32 = .ok (.aload_n 1, 1) := by decide +kernel
theorem dX8_barToday_33 : decode cX8_barToday 33 = .ok (.aload_n 2, 1) := by decide +kernel
theorem dX8_barToday_34 : decode cX8_barToday 34 = .ok (.getfield 136, 3) := by decide +kernel
theorem dX8_barToday_37 : decode cX8_barToday 37 = .ok (.invokevirtual 319, 3) := by decide +kernel
theorem dX8_barToday_40 : decode cX8_barToday 40 = .ok (.ifCond .eq 8, 3) := by decide +kernel
theorem dX8_barToday_43 : decode cX8_barToday 43 = .ok (.bipush 7, 2) := by decide +kernel
theorem dX8_barToday_45 : decode cX8_barToday 45 = .ok (.goto 4, 3) := by decide +kernel
theorem dX8_barToday_48 : decode cX8_barToday 48 = .ok (.iconst 0, 1) := by decide +kernel
theorem dX8_barToday_49 : decode cX8_barToday 49 = .ok (.ireturn, 1) := by decide +kernel
theorem dX8_takenBeds_0 : decode cX8_takenBeds 0 = .ok (.iconst 0, 1) := by decide +kernel
theorem dX8_takenBeds_1 : decode cX8_takenBeds 1 = .ok (.istore_n 3, 1) := by decide +kernel
theorem dX8_takenBeds_2 : decode cX8_takenBeds 2 = .ok (.aload_n 0, 1) := by decide +kernel
theorem dX8_takenBeds_3 : decode cX8_takenBeds 3 = .ok (.getfield 11, 3) := by decide +kernel
theorem dX8_takenBeds_6 : decode cX8_takenBeds 6 = .ok (.astore 4, 2) := by decide +kernel
theorem dX8_takenBeds_8 : decode cX8_takenBeds 8 = .ok (.aload 4, 2) := by decide +kernel
theorem dX8_takenBeds_10 : decode cX8_takenBeds 10 = .ok (.arraylength, 1) := by decide +kernel
theorem dX8_takenBeds_11 : decode cX8_takenBeds 11 = .ok (.istore 5, 2) := by decide +kernel
theorem dX8_takenBeds_13 : decode cX8_takenBeds 13 = .ok (.iconst 0, 1) := by decide +kernel
theorem dX8_takenBeds_14 : decode cX8_takenBeds 14 = .ok (.istore 6, 2) := by decide +kernel
theorem dX8_takenBeds_16 : decode cX8_takenBeds 16 = .ok (.iload 6, 2) := by decide +kernel
theorem dX8_takenBeds_18 : decode cX8_takenBeds 18 = .ok (.iload 5, 2) := by decide +kernel
theorem dX8_takenBeds_20 : decode cX8_takenBeds 20 = .ok (.if_icmp .ge 39, 3) := by decide +kernel
theorem dX8_takenBeds_23 : decode cX8_takenBeds 23 = .ok (.aload 4, 2) := by decide +kernel
theorem dX8_takenBeds_25 : decode cX8_takenBeds 25 = .ok (.iload 6, 2) := by decide +kernel
theorem dX8_takenBeds_27 : decode cX8_takenBeds 27 = .ok (.aaload, 1) := by decide +kernel
theorem dX8_takenBeds_28 : decode cX8_takenBeds 28 = .ok (.astore 7, 2) := by decide +kernel
theorem dX8_takenBeds_30 : decode cX8_takenBeds 30 = .ok (.aload 7, 2) := by decide +kernel
theorem dX8_takenBeds_32 : decode cX8_takenBeds 32 = .ok (.ifnull 21, 3) := by decide +kernel
theorem dX8_takenBeds_35 : decode cX8_takenBeds 35 = .ok (.aload 7, 2) := by decide +kernel
theorem dX8_takenBeds_37 : decode cX8_takenBeds 37 = .ok (.aload_n 2, 1) := by decide +kernel
theorem dX8_takenBeds_38 : decode cX8_takenBeds 38 = .ok (.if_acmp .eq 15, 3) := by decide +kernel
theorem dX8_takenBeds_41 : decode cX8_takenBeds 41 = .ok (.aload 7, 2) := by decide +kernel
theorem dX8_takenBeds_43 : decode cX8_takenBeds 43 = .ok (.aload_n 1, 1) := by decide +kernel
theorem dX8_takenBeds_44 : decode cX8_takenBeds 44 = .ok (.invokevirtual 150, 3) := by decide +kernel
theorem dX8_takenBeds_47 : decode cX8_takenBeds 47 = .ok (.ifCond .eq 6, 3) := by decide +kernel
theorem dX8_takenBeds_50 : decode cX8_takenBeds 50 = .ok (.iinc 3 1, 3) := by decide +kernel
theorem dX8_takenBeds_53 : decode cX8_takenBeds 53 = .ok (.iinc 6 1, 3) := by decide +kernel
theorem dX8_takenBeds_56 : decode cX8_takenBeds 56 = .ok (.goto (-40), 3) := by decide +kernel
theorem dX8_takenBeds_59 : decode cX8_takenBeds 59 = .ok (.iload_n 3, 1) := by decide +kernel
theorem dX8_takenBeds_60 : decode cX8_takenBeds 60 = .ok (.ireturn, 1) := by decide +kernel
theorem dX8_worthFor_0 : decode cX8_worthFor 0 = .ok (.aload_n 1, 1) := by decide +kernel
theorem dX8_worthFor_1 : decode cX8_worthFor 1 = .ok (.aload_n 2, 1) := by decide +kernel
theorem dX8_worthFor_2 : decode cX8_worthFor 2 = .ok (.getfield 136, 3) := by decide +kernel
theorem dX8_worthFor_5 : decode cX8_worthFor 5 = .ok (.invokevirtual 322, 3) := by decide +kernel
theorem dX8_worthFor_8 : decode cX8_worthFor 8 = .ok (.aload_n 1, 1) := by decide +kernel
theorem dX8_worthFor_9 : decode cX8_worthFor 9 = .ok (.getfield 325, 3) := by decide +kernel
theorem dX8_worthFor_12 : decode cX8_worthFor 12 = .ok (.aload_n 2, 1) := by decide +kernel
theorem dX8_worthFor_13 : decode cX8_worthFor 13 = .ok (.getfield 328, 3) := by decide +kernel
theorem dX8_worthFor_16 : decode cX8_worthFor 16 = .ok (.isub, 1) := by decide +kernel
theorem dX8_worthFor_17 : decode cX8_worthFor 17 = .ok (.invokestatic 329, 3) := by decide +kernel
theorem dX8_worthFor_20 : decode cX8_worthFor 20 = .ok (.iconst 5, 1) := by decide +kernel
theorem dX8_worthFor_21 : decode cX8_worthFor 21 = .ok (.idiv, 1) := by decide +kernel
theorem dX8_worthFor_22 : decode cX8_worthFor 22 = .ok (.isub, 1) := by decide +kernel
theorem dX8_worthFor_23 : decode cX8_worthFor 23 = .ok (.istore_n 3, 1) := by decide +kernel
theorem dX8_worthFor_24 : decode cX8_worthFor 24 = .ok (.aload_n 1, 1) := by decide +kernel
theorem dX8_worthFor_25 : decode cX8_worthFor 25 = .ok (.getfield 334, 3) := by decide +kernel
theorem dX8_worthFor_28 : decode cX8_worthFor 28 = .ok (.aload_n 2, 1) := by decide +kernel
theorem dX8_worthFor_29 : decode cX8_worthFor 29 = .ok (.getfield 337, 3) := by decide +kernel
theorem dX8_worthFor_32 : decode cX8_worthFor 32 = .ok (.if_icmp .ne 6, 3) := by decide +kernel
theorem dX8_worthFor_35 : decode cX8_worthFor 35 = .ok (.iinc 3 6, 3) := by decide +kernel
theorem dX8_worthFor_38 : decode cX8_worthFor 38 = .ok (.aload_n 0, 1) := by decide +kernel
theorem dX8_worthFor_39 : decode cX8_worthFor 39 = .ok (.getfield 11, 3) := by decide +kernel
theorem dX8_worthFor_42 : decode cX8_worthFor 42 = .ok (.astore 4, 2) := by decide +kernel
theorem dX8_worthFor_44 : decode cX8_worthFor 44 = .ok (.aload 4, 2) := by decide +kernel
theorem dX8_worthFor_46 : decode cX8_worthFor 46 = .ok (.arraylength, 1) := by decide +kernel
theorem dX8_worthFor_47 : decode cX8_worthFor 47 = .ok (.istore 5, 2) := by decide +kernel
theorem dX8_worthFor_49 : decode cX8_worthFor 49 = .ok (.iconst 0, 1) := by decide +kernel
theorem dX8_worthFor_50 : decode cX8_worthFor 50 = .ok (.istore 6, 2) := by decide +kernel
theorem dX8_worthFor_52 : decode cX8_worthFor 52 = .ok (.iload 6, 2) := by decide +kernel
theorem dX8_worthFor_54 : decode cX8_worthFor 54 = .ok (.iload 5, 2) := by decide +kernel
theorem dX8_worthFor_56 : decode cX8_worthFor 56 = .ok (.if_icmp .ge 51, 3) := by decide +kernel
theorem dX8_worthFor_59 : decode cX8_worthFor 59 = .ok (.aload 4, 2) := by decide +kernel
theorem dX8_worthFor_61 : decode cX8_worthFor 61 = .ok (.iload 6, 2) := by decide +kernel
theorem dX8_worthFor_63 : decode cX8_worthFor 63 = .ok (.aaload, 1) := by decide +kernel
theorem dX8_worthFor_64 : decode cX8_worthFor 64 = .ok (.astore 7, 2) := by decide +kernel
theorem dX8_worthFor_66 : decode cX8_worthFor 66 = .ok (.aload 7, 2) := by decide +kernel
theorem dX8_worthFor_68 : decode cX8_worthFor 68 = .ok (.ifnull 33, 3) := by decide +kernel
theorem dX8_worthFor_71 : decode cX8_worthFor 71 = .ok (.aload 7, 2) := by decide +kernel
theorem dX8_worthFor_73 : decode cX8_worthFor 73 = .ok (.aload_n 1, 1) := by decide +kernel
theorem dX8_worthFor_74 : decode cX8_worthFor 74 = .ok (.if_acmp .eq 27, 3) := by decide +kernel
theorem dX8_worthFor_77 : decode cX8_worthFor 77 = .ok (.aload 7, 2) := by decide +kernel
theorem dX8_worthFor_79 : decode cX8_worthFor 79 = .ok (.getfield 338, 3) := by decide +kernel
theorem dX8_worthFor_82 : decode cX8_worthFor 82 = .ok (.aload_n 1, 1) := by decide +kernel
theorem dX8_worthFor_83 : decode cX8_worthFor 83 = .ok (.getfield 338, 3) := by decide +kernel
theorem dX8_worthFor_86 : decode cX8_worthFor 86 = .ok (.if_icmp .ne 15, 3) := by decide +kernel
theorem dX8_worthFor_89 : decode cX8_worthFor 89 = .ok (.aload 7, 2) := by decide +kernel
theorem dX8_worthFor_91 : decode cX8_worthFor 91 = .ok (.aload_n 2, 1) := by decide +kernel
theorem dX8_worthFor_92 : decode cX8_worthFor 92 = .ok (.invokevirtual 150, 3) := by decide +kernel
theorem dX8_worthFor_95 : decode cX8_worthFor 95 = .ok (.ifCond .eq 6, 3) := by decide +kernel
theorem dX8_worthFor_98 : decode cX8_worthFor 98 = .ok (.iinc 3 10, 3) := by decide +kernel
theorem dX8_worthFor_101 : decode cX8_worthFor 101 = .ok (.iinc 6 1, 3) := by decide +kernel
theorem dX8_worthFor_104 : decode cX8_worthFor 104 = .ok (.goto (-52), 3) := by decide +kernel
theorem dX8_worthFor_107 : decode cX8_worthFor 107 = .ok (.iload_n 3, 1) := by decide +kernel
theorem dX8_worthFor_108 : decode cX8_worthFor 108 = .ok (.ireturn, 1) := by decide +kernel
theorem dX8_beginStay_0 : decode cX8_beginStay 0 = .ok (.aload_n 0, 1) := by decide +kernel
theorem dX8_beginStay_1 : decode cX8_beginStay 1 = .ok (.getfield 166, 3) := by decide +kernel
theorem dX8_beginStay_4 : decode cX8_beginStay 4 = .ok (.istore_n 3, 1) := by decide +kernel
theorem dX8_beginStay_5 : decode cX8_beginStay 5 = .ok (.iload_n 3, 1) := by decide +kernel
theorem dX8_beginStay_6 : decode cX8_beginStay 6 = .ok (.aload_n 0, 1) := by decide +kernel
theorem dX8_beginStay_7 : decode cX8_beginStay 7 = .ok (.getfield 23, 3) := by decide +kernel
theorem dX8_beginStay_10 : decode cX8_beginStay 10 = .ok (.arraylength, 1) := by decide +kernel
theorem dX8_beginStay_11 : decode cX8_beginStay 11 = .ok (.if_icmp .lt 14, 3) := by decide +kernel
theorem dX8_beginStay_14 : decode cX8_beginStay 14 = .ok (.new 46, 3) := by decide +kernel
theorem dX8_beginStay_17 : decode cX8_beginStay 17 = .ok (.dup, 1) := by decide +kernel
theorem dX8_beginStay_18 : decode cX8_beginStay 18 = .ok (.ldc_w 341, 3) := by decide +kernel
theorem dX8_beginStay_21 : decode cX8_beginStay 21 = .ok (.invokespecial 50, 3) := by decide +kernel
theorem dX8_beginStay_24 : decode cX8_beginStay 24 = .ok (.athrow, 1) := by decide +kernel
theorem dX8_beginStay_25 : decode cX8_beginStay 25 = .ok (.aload_n 1, 1) := by decide +kernel
theorem dX8_beginStay_26 : decode cX8_beginStay 26 = .ok (.aload_n 0, 1) := by decide +kernel
theorem dX8_beginStay_27 : decode cX8_beginStay 27 = .ok (.getfield 53, 3) := by decide +kernel
theorem dX8_beginStay_30 : decode cX8_beginStay 30 = .ok (.invokevirtual 343, 3) := by decide +kernel
theorem dX8_beginStay_33 : decode cX8_beginStay 33 = .ok (.new 21, 3) := by decide +kernel
theorem dX8_beginStay_36 : decode cX8_beginStay 36 = .ok (.dup, 1) := by decide +kernel
theorem dX8_beginStay_37 : decode cX8_beginStay 37 = .ok (.aload_n 1, 1) := by decide +kernel
theorem dX8_beginStay_38 : decode cX8_beginStay 38 = .ok (.aload_n 2, 1) := by decide +kernel
theorem dX8_beginStay_39 : decode cX8_beginStay 39 = .ok (.aload_n 0, 1) := by decide +kernel
theorem dX8_beginStay_40 : decode cX8_beginStay 40 = .ok (.getfield 53, 3) := by decide +kernel
theorem dX8_beginStay_43 : decode cX8_beginStay 43 = .ok (.aload_n 1, 1) := by decide +kernel
theorem dX8_beginStay_44 : decode cX8_beginStay 44 = .ok (.aload_n 0, 1) := by decide +kernel
theorem dX8_beginStay_45 : decode cX8_beginStay 45 = .ok (.getfield 53, 3) := by decide +kernel
theorem dX8_beginStay_48 : decode cX8_beginStay 48 = .ok (.invokevirtual 133, 3) := by decide +kernel
theorem dX8_beginStay_51 : decode cX8_beginStay 51 = .ok (.invokespecial 346, 3) := by decide +kernel
theorem dX8_beginStay_54 : decode cX8_beginStay 54 = .ok (.astore 4, 2) := by decide +kernel
theorem dX8_beginStay_56 : decode cX8_beginStay 56 = .ok (.aload_n 1, 1) := by decide +kernel
theorem dX8_beginStay_57 : decode cX8_beginStay 57 = .ok (.aload 4, 2) := by decide +kernel
theorem dX8_beginStay_59 : decode cX8_beginStay 59 = .ok (.invokevirtual 349, 3) := by decide +kernel
theorem dX8_beginStay_62 : decode cX8_beginStay 62 = .ok (.aload_n 0, 1) := by decide +kernel
theorem dX8_beginStay_63 : decode cX8_beginStay 63 = .ok (.getfield 23, 3) := by decide +kernel
theorem dX8_beginStay_66 : decode cX8_beginStay 66 = .ok (.iload_n 3, 1) := by decide +kernel
theorem dX8_beginStay_67 : decode cX8_beginStay 67 = .ok (.aload 4, 2) := by decide +kernel
theorem dX8_beginStay_69 : decode cX8_beginStay 69 = .ok (.aastore, 1) := by decide +kernel
theorem dX8_beginStay_70 : decode cX8_beginStay 70 = .ok (.aload_n 0, 1) := by decide +kernel
theorem dX8_beginStay_71 : decode cX8_beginStay 71 = .ok (.iload_n 3, 1) := by decide +kernel
theorem dX8_beginStay_72 : decode cX8_beginStay 72 = .ok (.iconst 1, 1) := by decide +kernel
theorem dX8_beginStay_73 : decode cX8_beginStay 73 = .ok (.iadd, 1) := by decide +kernel
theorem dX8_beginStay_74 : decode cX8_beginStay 74 = .ok (.putfield 166, 3) := by decide +kernel
theorem dX8_beginStay_77 : decode cX8_beginStay 77 = .ok (.iload_n 3, 1) := by decide +kernel
theorem dX8_beginStay_78 : decode cX8_beginStay 78 = .ok (.ireturn, 1) := by decide +kernel
theorem dX8_planFor_0 : decode cX8_planFor 0 = .ok (.aload_n 0, 1) := by decide +kernel
theorem dX8_planFor_1 : decode cX8_planFor 1 = .ok (.getfield 30, 3) := by decide +kernel
theorem dX8_planFor_4 : decode cX8_planFor 4 = .ok (.invokevirtual 352, 3) := by decide +kernel
theorem dX8_planFor_7 : decode cX8_planFor 7 = .ok (.aload_n 0, 1) := by decide +kernel
theorem dX8_planFor_8 : decode cX8_planFor 8 = .ok (.getfield 17, 3) := by decide +kernel
theorem dX8_planFor_11 : decode cX8_planFor 11 = .ok (.astore_n 2, 1) := by decide +kernel
theorem dX8_planFor_12 : decode cX8_planFor 12 = .ok (.aload_n 2, 1) := by decide +kernel
theorem dX8_planFor_13 : decode cX8_planFor 13 = .ok (.arraylength, 1) := by decide +kernel
theorem dX8_planFor_14 : decode cX8_planFor 14 = .ok (.istore_n 3, 1) := by decide +kernel
theorem dX8_planFor_15 : decode cX8_planFor 15 = .ok (.iconst 0, 1) := by decide +kernel
theorem dX8_planFor_16 : decode cX8_planFor 16 = .ok (.istore 4, 2) := by decide +kernel
theorem dX8_planFor_18 : decode cX8_planFor 18 = .ok (.iload 4, 2) := by decide +kernel
theorem dX8_planFor_20 : decode cX8_planFor 20 = .ok (.iload_n 3, 1) := by decide +kernel
theorem dX8_planFor_21 : decode cX8_planFor 21 = .ok (.if_icmp .ge 45, 3) := by decide +kernel
theorem dX8_planFor_24 : decode cX8_planFor 24 = .ok (.aload_n 2, 1) := by decide +kernel
theorem dX8_planFor_25 : decode cX8_planFor 25 = .ok (.iload 4, 2) := by decide +kernel
theorem dX8_planFor_27 : decode cX8_planFor 27 = .ok (.aaload, 1) := by decide +kernel
theorem dX8_planFor_28 : decode cX8_planFor 28 = .ok (.astore 5, 2) := by decide +kernel
theorem dX8_planFor_30 : decode cX8_planFor 30 = .ok (.aload 5, 2) := by decide +kernel
theorem dX8_planFor_32 : decode cX8_planFor 32 = .ok (.ifnull 28, 3) := by decide +kernel
theorem dX8_planFor_35 : decode cX8_planFor 35 = .ok (.aload_n 0, 1) := by decide +kernel
theorem dX8_planFor_36 : decode cX8_planFor 36 = .ok (.getfield 30, 3) := by decide +kernel
theorem dX8_planFor_39 : decode cX8_planFor 39 = .ok (.aload 5, 2) := by decide +kernel
theorem dX8_planFor_41 : decode cX8_planFor 41 = .ok (.getfield 136, 3) := by decide +kernel
theorem dX8_planFor_44 : decode cX8_planFor 44 = .ok (.aload 5, 2) := by decide +kernel
theorem dX8_planFor_46 : decode cX8_planFor 46 = .ok (.getfield 316, 3) := by decide +kernel
theorem dX8_planFor_49 : decode cX8_planFor 49 = .ok (.aload_n 0, 1) := by decide +kernel
theorem dX8_planFor_50 : decode cX8_planFor 50 = .ok (.aload 5, 2) := by decide +kernel
theorem dX8_planFor_52 : decode cX8_planFor 52 = .ok (.aconst_null, 1) := by decide +kernel
theorem dX8_planFor_53 : decode cX8_planFor 53 = .ok (.invokevirtual 312, 3) := by decide +kernel
theorem dX8_planFor_56 : decode cX8_planFor 56 = .ok (.isub, 1) := by decide +kernel
theorem dX8_planFor_57 : decode cX8_planFor 57 = .ok (.invokevirtual 355, 3) := by decide +kernel
theorem dX8_planFor_60 : decode cX8_planFor 60 = .ok (.iinc 4 1, 3) := by decide +kernel
theorem dX8_planFor_63 : decode cX8_planFor 63 = .ok (.goto (-45), 3) := by decide +kernel
theorem dX8_planFor_66 : decode cX8_planFor 66 = .ok (.aload_n 0, 1) := by decide +kernel
theorem dX8_planFor_67 : decode cX8_planFor 67 = .ok (.getfield 11, 3) := by decide +kernel
theorem dX8_planFor_70 : decode cX8_planFor 70 = .ok (.astore_n 2, 1) := by decide +kernel
theorem dX8_planFor_71 : decode cX8_planFor 71 = .ok (.aload_n 2, 1) := by decide +kernel
theorem dX8_planFor_72 : decode cX8_planFor 72 = .ok (.arraylength, 1) := by decide +kernel
theorem dX8_planFor_73 : decode cX8_planFor 73 = .ok (.istore_n 3, 1) := by decide +kernel
theorem dX8_planFor_74 : decode cX8_planFor 74 = .ok (.iconst 0, 1) := by decide +kernel
theorem dX8_planFor_75 : decode cX8_planFor 75 = .ok (.istore 4, 2) := by decide +kernel
theorem dX8_planFor_77 : decode cX8_planFor 77 = .ok (.iload 4, 2) := by decide +kernel
theorem dX8_planFor_79 : decode cX8_planFor 79 = .ok (.iload_n 3, 1) := by decide +kernel
theorem dX8_planFor_80 : decode cX8_planFor 80 = .ok (.if_icmp .ge 55, 3) := by decide +kernel
theorem dX8_planFor_83 : decode cX8_planFor 83 = .ok (.aload_n 2, 1) := by decide +kernel
theorem dX8_planFor_84 : decode cX8_planFor 84 = .ok (.iload 4, 2) := by decide +kernel
theorem dX8_planFor_86 : decode cX8_planFor 86 = .ok (.aaload, 1) := by decide +kernel
theorem dX8_planFor_87 : decode cX8_planFor 87 = .ok (.astore 5, 2) := by decide +kernel
theorem dX8_planFor_89 : decode cX8_planFor 89 = .ok (.aload 5, 2) := by decide +kernel
theorem dX8_planFor_91 : decode cX8_planFor 91 = .ok (.ifnull 38, 3) := by decide +kernel
theorem dX8_planFor_94 : decode cX8_planFor 94 = .ok (.aload 5, 2) := by decide +kernel
theorem dX8_planFor_96 : decode cX8_planFor 96 = .ok (.getfield 338, 3) := by decide +kernel
theorem dX8_planFor_99 : decode cX8_planFor 99 = .ok (.iload_n 1, 1) := by decide +kernel
theorem dX8_planFor_100 : decode cX8_planFor 100 = .ok (.if_icmp .ne 29, 3) := by decide +kernel
theorem dX8_planFor_103 : decode cX8_planFor 103 = .ok (.aload 5, 2) := by decide +kernel
theorem dX8_planFor_105 : decode cX8_planFor 105 = .ok (.getfield 186, 3) := by decide +kernel
theorem dX8_planFor_108 : decode cX8_planFor 108 = .ok (.ifnonnull 21, 3) := by decide +kernel
theorem dX8_planFor_111 : decode cX8_planFor 111 = .ok (.aload 5, 2) := by decide +kernel
theorem dX8_planFor_113 : decode cX8_planFor 113 = .ok (.aload_n 0, 1) := by decide +kernel
theorem dX8_planFor_114 : decode cX8_planFor 114 = .ok (.getfield 53, 3) := by decide +kernel
theorem dX8_planFor_117 : decode cX8_planFor 117 = .ok (.invokevirtual 285, 3) := by decide +kernel
theorem dX8_planFor_120 : decode cX8_planFor 120 = .ok (.ifCond .ne 9, 3) := by decide +kernel
theorem dX8_planFor_123 : decode cX8_planFor 123 = .ok (.aload_n 0, 1) := by decide +kernel
theorem dX8_planFor_124 : decode cX8_planFor 124 = .ok (.aload 5, 2) := by decide +kernel
theorem dX8_planFor_126 : decode cX8_planFor 126 = .ok (.invokevirtual 359, 3) := by decide +kernel
theorem dX8_planFor_129 : decode cX8_planFor 129 = .ok (.iinc 4 1, 3) := by decide +kernel
theorem dX8_planFor_132 : decode cX8_planFor 132 = .ok (.goto (-55), 3) := by decide +kernel
theorem dX8_planFor_135 : decode cX8_planFor 135 = .ok (.return_, 1) := by decide +kernel
theorem dX8_planChild_0 : decode cX8_planChild 0 = .ok (.aload_n 0, 1) := by decide +kernel
theorem dX8_planChild_1 : decode cX8_planChild 1 = .ok (.getfield 30, 3) := by decide +kernel
theorem dX8_planChild_4 : decode cX8_planChild 4 = .ok (.aload_n 1, 1) := by decide +kernel
theorem dX8_planChild_5 : decode cX8_planChild 5 = .ok (.invokevirtual 363, 3) := by decide +kernel
theorem dX8_planChild_8 : decode cX8_planChild 8 = .ok (.istore_n 2, 1) := by decide +kernel
theorem dX8_planChild_9 : decode cX8_planChild 9 = .ok (.iload_n 2, 1) := by decide +kernel
theorem dX8_planChild_10 : decode cX8_planChild 10 = .ok (.iconst (-1), 1) := by decide +kernel
theorem dX8_planChild_11 : decode cX8_planChild 11 = .ok (.if_icmp .ne 14, 3) := by decide +kernel
theorem dX8_planChild_14 : decode cX8_planChild 14 = .ok (.new 46, 3) := by decide +kernel
theorem dX8_planChild_17 : decode cX8_planChild 17 = .ok (.dup, 1) := by decide +kernel
theorem dX8_planChild_18 : decode cX8_planChild 18 = .ok (.ldc_w 367, 3) := by decide +kernel
theorem dX8_planChild_21 : decode cX8_planChild 21 = .ok (.invokespecial 50, 3) := by decide +kernel
theorem dX8_planChild_24 : decode cX8_planChild 24 = .ok (.athrow, 1) := by decide +kernel
theorem dX8_planChild_25 : decode cX8_planChild 25 = .ok (.aload_n 0, 1) := by decide +kernel
theorem dX8_planChild_26 : decode cX8_planChild 26 = .ok (.getfield 17, 3) := by decide +kernel
theorem dX8_planChild_29 : decode cX8_planChild 29 = .ok (.astore_n 3, 1) := by decide +kernel
theorem dX8_planChild_30 : decode cX8_planChild 30 = .ok (.aload_n 3, 1) := by decide +kernel
theorem dX8_planChild_31 : decode cX8_planChild 31 = .ok (.arraylength, 1) := by decide +kernel
theorem dX8_planChild_32 : decode cX8_planChild 32 = .ok (.istore 4, 2) := by decide +kernel
theorem dX8_planChild_34 : decode cX8_planChild 34 = .ok (.iconst 0, 1) := by decide +kernel
theorem dX8_planChild_35 : decode cX8_planChild 35 = .ok (.istore 5, 2) := by decide +kernel
theorem dX8_planChild_37 : decode cX8_planChild 37 = .ok (.iload 5, 2) := by decide +kernel
theorem dX8_planChild_39 : decode cX8_planChild 39 = .ok (.iload 4, 2) := by decide +kernel
theorem dX8_planChild_41 : decode cX8_planChild 41 = .ok (.if_icmp .ge 65, 3) := by decide +kernel
theorem dX8_planChild_44 : decode cX8_planChild 44 = .ok (.aload_n 3, 1) := by decide +kernel
theorem dX8_planChild_45 : decode cX8_planChild 45 = .ok (.iload 5, 2) := by decide +kernel
theorem dX8_planChild_47 : decode cX8_planChild 47 = .ok (.aaload, 1) := by decide +kernel
theorem dX8_planChild_48 : decode cX8_planChild 48 = .ok (.astore 6, 2) := by decide +kernel
theorem dX8_planChild_50 : decode cX8_planChild 50 = .ok (.aload 6, 2) := by decide +kernel
theorem dX8_planChild_52 : decode cX8_planChild 52 = .ok (.ifnull 48, 3) := by decide +kernel
theorem dX8_planChild_55 : decode cX8_planChild 55 = .ok (.aload_n 1, 1) := by decide +kernel
theorem dX8_planChild_56 : decode cX8_planChild 56 = .ok (.aload 6, 2) := by decide +kernel
theorem dX8_planChild_58 : decode cX8_planChild 58 = .ok (.aload_n 0, 1) := by decide +kernel
theorem dX8_planChild_59 : decode cX8_planChild 59 = .ok (.getfield 53, 3) := by decide +kernel
theorem dX8_planChild_62 : decode cX8_planChild 62 = .ok (.invokestatic 261, 3) := by decide +kernel
theorem dX8_planChild_65 : decode cX8_planChild 65 = .ok (.ifCond .ne 35, 3) := by decide +kernel
theorem dX8_planChild_68 : decode cX8_planChild 68 = .ok (.aload_n 1, 1) := by decide +kernel
theorem dX8_planChild_69 : decode cX8_planChild 69 = .ok (.aload 6, 2) := by decide +kernel
theorem dX8_planChild_71 : decode cX8_planChild 71 = .ok (.getfield 136, 3) := by decide +kernel
theorem dX8_planChild_74 : decode cX8_planChild 74 = .ok (.invokevirtual 319, 3) := by decide +kernel
theorem dX8_planChild_77 : decode cX8_planChild 77 = .ok (.ifCond .ne 23, 3) := by decide +kernel
theorem dX8_planChild_80 : decode cX8_planChild 80 = .ok (.aload_n 0, 1) := by decide +kernel
theorem dX8_planChild_81 : decode cX8_planChild 81 = .ok (.getfield 30, 3) := by decide +kernel
theorem dX8_planChild_84 : decode cX8_planChild 84 = .ok (.iload_n 2, 1) := by decide +kernel
theorem dX8_planChild_85 : decode cX8_planChild 85 = .ok (.aload 6, 2) := by decide +kernel
theorem dX8_planChild_87 : decode cX8_planChild 87 = .ok (.getfield 136, 3) := by decide +kernel
theorem dX8_planChild_90 : decode cX8_planChild 90 = .ok (.aload_n 0, 1) := by decide +kernel
theorem dX8_planChild_91 : decode cX8_planChild 91 = .ok (.aload_n 1, 1) := by decide +kernel
theorem dX8_planChild_92 : decode cX8_planChild 92 = .ok (.aload 6, 2) := by decide +kernel
theorem dX8_planChild_94 : decode cX8_planChild 94 = .ok (.invokevirtual 147, 3) := by decide +kernel
theorem dX8_planChild_97 : decode cX8_planChild 97 = .ok (.invokevirtual 369, 3) := by decide +kernel
theorem dX8_planChild_100 : decode cX8_planChild 100 = .ok (.iinc 5 1, 3) := by decide +kernel
theorem dX8_planChild_103 : decode cX8_planChild 103 = .ok (.goto (-66), 3) := by decide +kernel
theorem dX8_planChild_106 : decode cX8_planChild 106 = .ok (.return_, 1) := by decide +kernel
theorem dX8_owedTo_0 : decode cX8_owedTo 0 = .ok (.aload_n 1, 1) := by decide +kernel
theorem dX8_owedTo_1 : decode cX8_owedTo 1 = .ok (.getfield 197, 3) := by decide +kernel
theorem dX8_owedTo_4 : decode cX8_owedTo 4 = .ok (.ineg, 1) := by decide +kernel
theorem dX8_owedTo_5 : decode cX8_owedTo 5 = .ok (.istore_n 2, 1) := by decide +kernel
theorem dX8_owedTo_6 : decode cX8_owedTo 6 = .ok (.aload_n 0, 1) := by decide +kernel
theorem dX8_owedTo_7 : decode cX8_owedTo 7 = .ok (.getfield 23, 3) := by decide +kernel
theorem dX8_owedTo_10 : decode cX8_owedTo 10 = .ok (.astore_n 3, 1) := by decide +kernel
theorem dX8_owedTo_11 : decode cX8_owedTo 11 = .ok (.aload_n 3, 1) := by decide +kernel
theorem dX8_owedTo_12 : decode cX8_owedTo 12 = .ok (.arraylength, 1) := by decide +kernel
theorem dX8_owedTo_13 : decode cX8_owedTo 13 = .ok (.istore 4, 2) := by decide +kernel
theorem dX8_owedTo_15 : decode cX8_owedTo 15 = .ok (.iconst 0, 1) := by decide +kernel
theorem dX8_owedTo_16 : decode cX8_owedTo 16 = .ok (.istore 5, 2) := by decide +kernel
theorem dX8_owedTo_18 : decode cX8_owedTo 18 = .ok (.iload 5, 2) := by decide +kernel
theorem dX8_owedTo_20 : decode cX8_owedTo 20 = .ok (.iload 4, 2) := by decide +kernel
theorem dX8_owedTo_22 : decode cX8_owedTo 22 = .ok (.if_icmp .ge 41, 3) := by decide +kernel
theorem dX8_owedTo_25 : decode cX8_owedTo 25 = .ok (.aload_n 3, 1) := by decide +kernel
theorem dX8_owedTo_26 : decode cX8_owedTo 26 = .ok (.iload 5, 2) := by decide +kernel
theorem dX8_owedTo_28 : decode cX8_owedTo 28 = .ok (.aaload, 1) := by decide +kernel
theorem dX8_owedTo_29 : decode cX8_owedTo 29 = .ok (.astore 6, 2) := by decide +kernel
theorem dX8_owedTo_31 : decode cX8_owedTo 31 = .ok (.aload 6, 2) := by decide +kernel
theorem dX8_owedTo_33 : decode cX8_owedTo 33 = .ok (.ifnull 24, 3) := by decide +kernel
theorem dX8_owedTo_36 : decode cX8_owedTo 36 = .ok (.aload 6, 2) := by decide +kernel
theorem dX8_owedTo_38 : decode cX8_owedTo 38 = .ok (.getfield 218, 3) := by decide +kernel
theorem dX8_owedTo_41 : decode cX8_owedTo 41 = .ok (.aload_n 1, 1) := by decide +kernel
theorem dX8_owedTo_42 : decode cX8_owedTo 42 = .ok (.if_acmp .ne 15, 3) := by decide +kernel
theorem dX8_owedTo_45 : decode cX8_owedTo 45 = .ok (.iload_n 2, 1) := by decide +kernel
theorem dX8_owedTo_46 : decode cX8_owedTo 46 = .ok (.aload 6, 2) := by decide +kernel
theorem dX8_owedTo_48 : decode cX8_owedTo 48 = .ok (.aload_n 0, 1) := by decide +kernel
theorem dX8_owedTo_49 : decode cX8_owedTo 49 = .ok (.getfield 53, 3) := by decide +kernel
theorem dX8_owedTo_52 : decode cX8_owedTo 52 = .ok (.invokevirtual 372, 3) := by decide +kernel
theorem dX8_owedTo_55 : decode cX8_owedTo 55 = .ok (.iadd, 1) := by decide +kernel
theorem dX8_owedTo_56 : decode cX8_owedTo 56 = .ok (.istore_n 2, 1) := by decide +kernel
theorem dX8_owedTo_57 : decode cX8_owedTo 57 = .ok (.iinc 5 1, 3) := by decide +kernel
theorem dX8_owedTo_60 : decode cX8_owedTo 60 = .ok (.goto (-42), 3) := by decide +kernel
theorem dX8_owedTo_63 : decode cX8_owedTo 63 = .ok (.iload_n 2, 1) := by decide +kernel
theorem dX8_owedTo_64 : decode cX8_owedTo 64 = .ok (.ireturn, 1) := by decide +kernel
theorem dX8_loadOf_0 : decode cX8_loadOf 0 = .ok (.iconst 0, 1) := by decide +kernel
theorem dX8_loadOf_1 : decode cX8_loadOf 1 = .ok (.istore_n 2, 1) := by decide +kernel
theorem dX8_loadOf_2 : decode cX8_loadOf 2 = .ok (.aload_n 0, 1) := by decide +kernel
theorem dX8_loadOf_3 : decode cX8_loadOf 3 = .ok (.getfield 11, 3) := by decide +kernel
theorem dX8_loadOf_6 : decode cX8_loadOf 6 = .ok (.astore_n 3, 1) := by decide +kernel
theorem dX8_loadOf_7 : decode cX8_loadOf 7 = .ok (.aload_n 3, 1) := by decide +kernel
theorem dX8_loadOf_8 : decode cX8_loadOf 8 = .ok (.arraylength, 1) := by decide +kernel
theorem dX8_loadOf_9 : decode cX8_loadOf 9 = .ok (.istore 4, 2) := by decide +kernel
theorem dX8_loadOf_11 : decode cX8_loadOf 11 = .ok (.iconst 0, 1) := by decide +kernel
theorem dX8_loadOf_12 : decode cX8_loadOf 12 = .ok (.istore 5, 2) := by decide +kernel
theorem dX8_loadOf_14 : decode cX8_loadOf 14 = .ok (.iload 5, 2) := by decide +kernel
theorem dX8_loadOf_16 : decode cX8_loadOf 16 = .ok (.iload 4, 2) := by decide +kernel
theorem dX8_loadOf_18 : decode cX8_loadOf 18 = .ok (.if_icmp .ge 56, 3) := by decide +kernel
theorem dX8_loadOf_21 : decode cX8_loadOf 21 = .ok (.aload_n 3, 1) := by decide +kernel
theorem dX8_loadOf_22 : decode cX8_loadOf 22 = .ok (.iload 5, 2) := by decide +kernel
theorem dX8_loadOf_24 : decode cX8_loadOf 24 = .ok (.aaload, 1) := by decide +kernel
theorem dX8_loadOf_25 : decode cX8_loadOf 25 = .ok (.astore 6, 2) := by decide +kernel
theorem dX8_loadOf_27 : decode cX8_loadOf 27 = .ok (.aload 6, 2) := by decide +kernel
theorem dX8_loadOf_29 : decode cX8_loadOf 29 = .ok (.ifnull 39, 3) := by decide +kernel
theorem dX8_loadOf_32 : decode cX8_loadOf 32 = .ok (.aload 6, 2) := by decide +kernel
theorem dX8_loadOf_34 : decode cX8_loadOf 34 = .ok (.getfield 207, 3) := by decide +kernel
theorem dX8_loadOf_37 : decode cX8_loadOf 37 = .ok (.iload_n 1, 1) := by decide +kernel
theorem dX8_loadOf_38 : decode cX8_loadOf 38 = .ok (.if_icmp .ne 30, 3) := by decide +kernel
theorem dX8_loadOf_41 : decode cX8_loadOf 41 = .ok (.iload_n 2, 1) := by decide +kernel
theorem dX8_loadOf_42 : decode cX8_loadOf 42 = .ok (.iconst 2, 1) := by decide +kernel
theorem dX8_loadOf_43 : decode cX8_loadOf 43 = .ok (.aload 6, 2) := by decide +kernel
theorem dX8_loadOf_45 : decode cX8_loadOf 45 = .ok (.getfield 186, 3) := by decide +kernel
theorem dX8_loadOf_48 : decode cX8_loadOf 48 = .ok (.ifnull 7, 3) := by decide +kernel
theorem dX8_loadOf_51 : decode cX8_loadOf 51 = .ok (.iconst 3, 1) := by decide +kernel
theorem dX8_loadOf_52 : decode cX8_loadOf 52 = .ok (.goto 4, 3) := by decide +kernel
theorem dX8_loadOf_55 : decode cX8_loadOf 55 = .ok (.iconst 0, 1) := by decide +kernel
theorem dX8_loadOf_56 : decode cX8_loadOf 56 = .ok (.iadd, 1) := by decide +kernel
theorem dX8_loadOf_57 : decode cX8_loadOf 57 = .ok (.aload 6, 2) := by decide +kernel
theorem dX8_loadOf_59 : decode cX8_loadOf 59 = .ok (.getfield 302, 3) := by decide +kernel
theorem dX8_loadOf_62 : decode cX8_loadOf 62 = .ok (.invokestatic 375, 3) := by decide +kernel
theorem dX8_loadOf_65 : decode cX8_loadOf 65 = .ok (.iadd, 1) := by decide +kernel
theorem dX8_loadOf_66 : decode cX8_loadOf 66 = .ok (.iadd, 1) := by decide +kernel
theorem dX8_loadOf_67 : decode cX8_loadOf 67 = .ok (.istore_n 2, 1) := by decide +kernel
theorem dX8_loadOf_68 : decode cX8_loadOf 68 = .ok (.iinc 5 1, 3) := by decide +kernel
theorem dX8_loadOf_71 : decode cX8_loadOf 71 = .ok (.goto (-57), 3) := by decide +kernel
theorem dX8_loadOf_74 : decode cX8_loadOf 74 = .ok (.iload_n 2, 1) := by decide +kernel
theorem dX8_loadOf_75 : decode cX8_loadOf 75 = .ok (.ireturn, 1) := by decide +kernel
theorem dX8_leastLoadedWorker_0 : decode cX8_leastLoadedWorker 0 = .ok (.iconst 0, 1) := by decide +kernel
theorem dX8_leastLoadedWorker_1 : decode cX8_leastLoadedWorker 1 = .ok (.istore_n 1, 1) := by decide +kernel
theorem dX8_leastLoadedWorker_2 : decode cX8_leastLoadedWorker 2 = .ok (.aload_n 0, 1) := by decide +kernel
theorem dX8_leastLoadedWorker_3 : decode cX8_leastLoadedWorker 3 = .ok (.iconst 0, 1) := by decide +kernel
theorem dX8_leastLoadedWorker_4 : decode cX8_leastLoadedWorker 4 = .ok (.invokevirtual 210, 3) := by decide +kernel
theorem dX8_leastLoadedWorker_7 : decode cX8_leastLoadedWorker 7 = .ok (.istore_n 2, 1) := by decide +kernel
theorem dX8_leastLoadedWorker_8 : decode cX8_leastLoadedWorker 8 = .ok (.iconst 1, 1) := by decide +kernel
theorem dX8_leastLoadedWorker_9 : decode cX8_leastLoadedWorker 9 = .ok (.istore_n 3, 1) := by decide +kernel
theorem dX8_leastLoadedWorker_10 : decode cX8_leastLoadedWorker 10 = .ok (.iload_n 3, 1) := by decide +kernel
theorem dX8_leastLoadedWorker_11 : decode cX8_leastLoadedWorker 11 = .ok (.iconst 5, 1) := by decide +kernel
theorem dX8_leastLoadedWorker_12 : decode cX8_leastLoadedWorker 12 = .ok (.if_icmp .ge 27, 3) := by decide +kernel
theorem dX8_leastLoadedWorker_15 : decode cX8_leastLoadedWorker 15 = .ok (.aload_n 0, 1) := by decide +kernel
theorem dX8_leastLoadedWorker_16 : decode cX8_leastLoadedWorker 16 = .ok (.iload_n 3, 1) := by decide +kernel
theorem dX8_leastLoadedWorker_17 : decode cX8_leastLoadedWorker 17 = .ok (.invokevirtual 210, 3) := by decide +kernel
theorem dX8_leastLoadedWorker_20 : decode cX8_leastLoadedWorker 20 = .ok (.istore 4, 2) := by decide +kernel
theorem dX8_leastLoadedWorker_22 : decode cX8_leastLoadedWorker 22 = .ok (.iload 4, 2) := by decide +kernel
theorem dX8_leastLoadedWorker_24 : decode cX8_leastLoadedWorker 24 = .ok (.iload_n 2, 1) := by decide +kernel
theorem dX8_leastLoadedWorker_25 : decode cX8_leastLoadedWorker 25 = .ok (.if_icmp .ge 8, 3) := by decide +kernel
theorem dX8_leastLoadedWorker_28 : decode cX8_leastLoadedWorker 28 = .ok (.iload_n 3, 1) := by decide +kernel
theorem dX8_leastLoadedWorker_29 : decode cX8_leastLoadedWorker 29 = .ok (.istore_n 1, 1) := by decide +kernel
theorem dX8_leastLoadedWorker_30 : decode cX8_leastLoadedWorker 30 = .ok (.iload 4, 2) := by decide +kernel
theorem dX8_leastLoadedWorker_32 : decode cX8_leastLoadedWorker 32 = .ok (.istore_n 2, 1) := by decide +kernel
theorem dX8_leastLoadedWorker_33 : decode cX8_leastLoadedWorker 33 = .ok (.iinc 3 1, 3) := by decide +kernel
theorem dX8_leastLoadedWorker_36 : decode cX8_leastLoadedWorker 36 = .ok (.goto (-26), 3) := by decide +kernel
theorem dX8_leastLoadedWorker_39 : decode cX8_leastLoadedWorker 39 = .ok (.iload_n 1, 1) := by decide +kernel
theorem dX8_leastLoadedWorker_40 : decode cX8_leastLoadedWorker 40 = .ok (.ireturn, 1) := by decide +kernel
theorem dX9_init_0 : decode cX9_init 0 = .ok (.aload_n 0, 1) := by decide +kernel
theorem dX9_init_1 : decode cX9_init 1 = .ok (.invokespecial 1, 3) := by decide +kernel
theorem dX9_init_4 : decode cX9_init 4 = .ok (.aload_n 0, 1) := by decide +kernel
theorem dX9_init_5 : decode cX9_init 5 = .ok (.bipush 16, 2) := by decide +kernel
theorem dX9_init_7 : decode cX9_init 7 = .ok (.newarray .int, 2) := by decide +kernel
theorem dX9_init_9 : decode cX9_init 9 = .ok (.putfield 7, 3) := by decide +kernel
theorem dX9_init_12 : decode cX9_init 12 = .ok (.aload_n 0, 1) := by decide +kernel
theorem dX9_init_13 : decode cX9_init 13 = .ok (.bipush 16, 2) := by decide +kernel
theorem dX9_init_15 : decode cX9_init 15 = .ok (.newarray .int, 2) := by decide +kernel
theorem dX9_init_17 : decode cX9_init 17 = .ok (.putfield 13, 3) := by decide +kernel
theorem dX9_init_20 : decode cX9_init 20 = .ok (.aload_n 0, 1) := by decide +kernel
theorem dX9_init_21 : decode cX9_init 21 = .ok (.bipush 16, 2) := by decide +kernel
theorem dX9_init_23 : decode cX9_init 23 = .ok (.newarray .int, 2) := by decide +kernel
theorem dX9_init_25 : decode cX9_init 25 = .ok (.putfield 16, 3) := by decide +kernel
theorem dX9_init_28 : decode cX9_init 28 = .ok (.aload_n 0, 1) := by decide +kernel
theorem dX9_init_29 : decode cX9_init 29 = .ok (.bipush 16, 2) := by decide +kernel
theorem dX9_init_31 : decode cX9_init 31 = .ok (.newarray .int, 2) := by decide +kernel
theorem dX9_init_33 : decode cX9_init 33 = .ok (.putfield 19, 3) := by decide +kernel
theorem dX9_init_36 : decode cX9_init 36 = .ok (.aload_n 0, 1) := by decide +kernel
theorem dX9_init_37 : decode cX9_init 37 = .ok (.bipush 16, 2) := by decide +kernel
theorem dX9_init_39 : decode cX9_init 39 = .ok (.newarray .int, 2) := by decide +kernel
theorem dX9_init_41 : decode cX9_init 41 = .ok (.putfield 22, 3) := by decide +kernel
theorem dX9_init_44 : decode cX9_init 44 = .ok (.aload_n 0, 1) := by decide +kernel
theorem dX9_init_45 : decode cX9_init 45 = .ok (.bipush 16, 2) := by decide +kernel
theorem dX9_init_47 : decode cX9_init 47 = .ok (.newarray .int, 2) := by decide +kernel
theorem dX9_init_49 : decode cX9_init 49 = .ok (.putfield 25, 3) := by decide +kernel
theorem dX9_init_52 : decode cX9_init 52 = .ok (.aload_n 0, 1) := by decide +kernel
theorem dX9_init_53 : decode cX9_init 53 = .ok (.bipush 16, 2) := by decide +kernel
theorem dX9_init_55 : decode cX9_init 55 = .ok (.newarray .int, 2) := by decide +kernel
theorem dX9_init_57 : decode cX9_init 57 = .ok (.putfield 28, 3) := by decide +kernel
theorem dX9_init_60 : decode cX9_init 60 = .ok (.aload_n 0, 1) := by decide +kernel
theorem dX9_init_61 : decode cX9_init 61 = .ok (.bipush 16, 2) := by decide +kernel
theorem dX9_init_63 : decode cX9_init 63 = .ok (.newarray .int, 2) := by decide +kernel
theorem dX9_init_65 : decode cX9_init 65 = .ok (.putfield 31, 3) := by decide +kernel
theorem dX9_init_68 : decode cX9_init 68 = .ok (.aload_n 0, 1) := by decide +kernel
theorem dX9_init_69 : decode cX9_init 69 = .ok (.bipush 16, 2) := by decide +kernel
theorem dX9_init_71 : decode cX9_init 71 = .ok (.newarray .int, 2) := by decide +kernel
theorem dX9_init_73 : decode cX9_init 73 = .ok (.putfield 34, 3) := by decide +kernel
theorem dX9_init_76 : decode cX9_init 76 = .ok (.aload_n 0, 1) := by decide +kernel
theorem dX9_init_77 : decode cX9_init 77 = .ok (.bipush 16, 2) := by decide +kernel
theorem dX9_init_79 : decode cX9_init 79 = .ok (.newarray .int, 2) := by decide +kernel
theorem dX9_init_81 : decode cX9_init 81 = .ok (.putfield 37, 3) := by decide +kernel
theorem dX9_init_84 : decode cX9_init 84 = .ok (.aload_n 0, 1) := by decide +kernel
theorem dX9_init_85 : decode cX9_init 85 = .ok (.bipush 16, 2) := by decide +kernel
theorem dX9_init_87 : decode cX9_init 87 = .ok (.newarray .int, 2) := by decide +kernel
theorem dX9_init_89 : decode cX9_init 89 = .ok (.putfield 40, 3) := by decide +kernel
theorem dX9_init_92 : decode cX9_init 92 = .ok (.aload_n 0, 1) := by decide +kernel
theorem dX9_init_93 : decode cX9_init 93 = .ok (.bipush 16, 2) := by decide +kernel
theorem dX9_init_95 : decode cX9_init 95 = .ok (.newarray .boolean, 2) := by decide +kernel
theorem dX9_init_97 : decode cX9_init 97 = .ok (.putfield 43, 3) := by decide +kernel
theorem dX9_init_100 : decode cX9_init 100 = .ok (.aload_n 0, 1) := by decide +kernel
theorem dX9_init_101 : decode cX9_init 101 = .ok (.bipush 16, 2) := by decide +kernel
theorem dX9_init_103 : decode cX9_init 103 = .ok (.newarray .int, 2) := by decide +kernel
theorem dX9_init_105 : decode cX9_init 105 = .ok (.putfield 47, 3) := by decide +kernel
theorem dX9_init_108 : decode cX9_init 108 = .ok (.aload_n 0, 1) := by decide +kernel
theorem dX9_init_109 : decode cX9_init 109 = .ok (.bipush 16, 2) := by decide +kernel
theorem dX9_init_111 : decode cX9_init 111 = .ok (.newarray .int, 2) := by decide +kernel
theorem dX9_init_113 : decode cX9_init 113 = .ok (.putfield 50, 3) := by decide +kernel
theorem dX9_init_116 : decode cX9_init 116 = .ok (.aload_n 0, 1) := by decide +kernel
theorem dX9_init_117 : decode cX9_init 117 = .ok (.bipush 16, 2) := by decide +kernel
theorem dX9_init_119 : decode cX9_init 119 = .ok (.newarray .int, 2) := by decide +kernel
theorem dX9_init_121 : decode cX9_init 121 = .ok (.putfield 53, 3) := by decide +kernel
theorem dX9_init_124 : decode cX9_init 124 = .ok (.aload_n 0, 1) := by decide +kernel
theorem dX9_init_125 : decode cX9_init 125 = .ok (.bipush 16, 2) := by decide +kernel
theorem dX9_init_127 : decode cX9_init 127 = .ok (.newarray .int, 2) := by decide +kernel
theorem dX9_init_129 : decode cX9_init 129 = .ok (.putfield 56, 3) := by decide +kernel
theorem dX9_init_132 : decode cX9_init 132 = .ok (.aload_n 0, 1) := by decide +kernel
theorem dX9_init_133 : decode cX9_init 133 = .ok (.bipush 16, 2) := by decide +kernel
theorem dX9_init_135 : decode cX9_init 135 = .ok (.newarray .boolean, 2) := by decide +kernel
theorem dX9_init_137 : decode cX9_init 137 = .ok (.putfield 59, 3) := by decide +kernel
theorem dX9_init_140 : decode cX9_init 140 = .ok (.aload_n 0, 1) := by decide +kernel
theorem dX9_init_141 : decode cX9_init 141 = .ok (.sipush 160, 3) := by decide +kernel
theorem dX9_init_144 : decode cX9_init 144 = .ok (.newarray .int, 2) := by decide +kernel
theorem dX9_init_146 : decode cX9_init 146 = .ok (.putfield 62, 3) := by decide +kernel
theorem dX9_init_149 : decode cX9_init 149 = .ok (.aload_n 0, 1) := by decide +kernel
theorem dX9_init_150 : decode cX9_init 150 = .ok (.bipush 10, 2) := by decide +kernel
theorem dX9_init_152 : decode cX9_init 152 = .ok (.newarray .int, 2) := by decide +kernel
theorem dX9_init_154 : decode cX9_init 154 = .ok (.putfield 65, 3) := by decide +kernel
theorem dX9_init_157 : decode cX9_init 157 = .ok (.aload_n 0, 1) := by decide +kernel
theorem dX9_init_158 : decode cX9_init 158 = .ok (.bipush 10, 2) := by decide +kernel
theorem dX9_init_160 : decode cX9_init 160 = .ok (.newarray .int, 2) := by decide +kernel
theorem dX9_init_162 : decode cX9_init 162 = .ok (.putfield 68, 3) := by decide +kernel
theorem dX9_init_165 : decode cX9_init 165 = .ok (.aload_n 0, 1) := by decide +kernel
theorem dX9_init_166 : decode cX9_init 166 = .ok (.bipush 10, 2) := by decide +kernel
theorem dX9_init_168 : decode cX9_init 168 = .ok (.newarray .int, 2) := by decide +kernel
theorem dX9_init_170 : decode cX9_init 170 = .ok (.putfield 71, 3) := by decide +kernel
theorem dX9_init_173 : decode cX9_init 173 = .ok (.aload_n 0, 1) := by decide +kernel
theorem dX9_init_174 : decode cX9_init 174 = .ok (.bipush 10, 2) := by decide +kernel
theorem dX9_init_176 : decode cX9_init 176 = .ok (.newarray .int, 2) := by decide +kernel
theorem dX9_init_178 : decode cX9_init 178 = .ok (.putfield 74, 3) := by decide +kernel
theorem dX9_init_181 : decode cX9_init 181 = .ok (.aload_n 0, 1) := by decide +kernel
theorem dX9_init_182 : decode cX9_init 182 = .ok (.bipush 10, 2) := by decide +kernel
theorem dX9_init_184 : decode cX9_init 184 = .ok (.newarray .int, 2) := by decide +kernel
theorem dX9_init_186 : decode cX9_init 186 = .ok (.putfield 77, 3) := by decide +kernel
theorem dX9_init_189 : decode cX9_init 189 = .ok (.aload_n 0, 1) := by decide +kernel
theorem dX9_init_190 : decode cX9_init 190 = .ok (.bipush 10, 2) := by decide +kernel
theorem dX9_init_192 : decode cX9_init 192 = .ok (.newarray .boolean, 2) := by decide +kernel
theorem dX9_init_194 : decode cX9_init 194 = .ok (.putfield 80, 3) := by decide +kernel
theorem dX9_init_197 : decode cX9_init 197 = .ok (.aload_n 0, 1) := by decide +kernel
theorem dX9_init_198 : decode cX9_init 198 = .ok (.sipush 1024, 3) := by decide +kernel
theorem dX9_init_201 : decode cX9_init 201 = .ok (.newarray .int, 2) := by decide +kernel
theorem dX9_init_203 : decode cX9_init 203 = .ok (.putfield 83, 3) := by decide +kernel
theorem dX9_init_206 : decode cX9_init 206 = .ok (.aload_n 0, 1) := by decide +kernel
end
section
theorem dX9_init_207 : decode cX9_init 207 = .ok (.sipush 1024, 3) := by decide +kernel
theorem dX9_init_210 : decode cX9_init 210 = .ok (.newarray .int, 2) := by decide +kernel
theorem dX9_init_212 : decode cX9_init 212 = .ok (.putfield 86, 3) := by decide +kernel
theorem dX9_init_215 : decode cX9_init 215 = .ok (.aload_n 0, 1) := by decide +kernel
theorem dX9_init_216 : decode cX9_init 216 = .ok (.sipush 1024, 3) := by decide +kernel
theorem dX9_init_219 : decode cX9_init 219 = .ok (.newarray .int, 2) := by decide +kernel
theorem dX9_init_221 : decode cX9_init 221 = .ok (.putfield 89, 3) := by decide +kernel
theorem dX9_init_224 : decode cX9_init 224 = .ok (.aload_n 0, 1) := by decide +kernel
theorem dX9_init_225 : decode cX9_init 225 = .ok (.sipush 1024, 3) := by decide +kernel
theorem dX9_init_228 : decode cX9_init 228 = .ok (.newarray .int, 2) := by decide +kernel
theorem dX9_init_230 : decode cX9_init 230 = .ok (.putfield 92, 3) := by decide +kernel
theorem dX9_init_233 : decode cX9_init 233 = .ok (.aload_n 0, 1) := by decide +kernel
theorem dX9_init_234 : decode cX9_init 234 = .ok (.sipush 1024, 3) := by decide +kernel
theorem dX9_init_237 : decode cX9_init 237 = .ok (.newarray .int, 2) := by decide +kernel
theorem dX9_init_239 : decode cX9_init 239 = .ok (.putfield 95, 3) := by decide +kernel
theorem dX9_init_242 : decode cX9_init 242 = .ok (.aload_n 0, 1) := by decide +kernel
theorem dX9_init_243 : decode cX9_init 243 = .ok (.sipush 1024, 3) := by decide +kernel
theorem dX9_init_246 : decode cX9_init 246 = .ok (.newarray .int, 2) := by decide +kernel
theorem dX9_init_248 : decode cX9_init 248 = .ok (.putfield 98, 3) := by decide +kernel
theorem dX9_init_251 : decode cX9_init 251 = .ok (.aload_n 0, 1) := by decide +kernel
theorem dX9_init_252 : decode cX9_init 252 = .ok (.bipush 16, 2) := by decide +kernel
theorem dX9_init_254 : decode cX9_init 254 = .ok (.newarray .int, 2) := by decide +kernel
theorem dX9_init_256 : decode cX9_init 256 = .ok (.putfield 101, 3) := by decide +kernel
theorem dX9_init_259 : decode cX9_init 259 = .ok (.aload_n 0, 1) := by decide +kernel
theorem dX9_init_260 : decode cX9_init 260 = .ok (.sipush 480, 3) := by decide +kernel
theorem dX9_init_263 : decode cX9_init 263 = .ok (.newarray .int, 2) := by decide +kernel
theorem dX9_init_265 : decode cX9_init 265 = .ok (.putfield 104, 3) := by decide +kernel
theorem dX9_init_268 : decode cX9_init 268 = .ok (.aload_n 0, 1) := by decide +kernel
theorem dX9_init_269 : decode cX9_init 269 = .ok (.sipush 480, 3) := by decide +kernel
theorem dX9_init_272 : decode cX9_init 272 = .ok (.newarray .int, 2) := by decide +kernel
theorem dX9_init_274 : decode cX9_init 274 = .ok (.putfield 107, 3) := by decide +kernel
theorem dX9_init_277 : decode cX9_init 277 = .ok (.aload_n 0, 1) := by decide +kernel
theorem dX9_init_278 : decode cX9_init 278 = .ok (.sipush 480, 3) := by decide +kernel
theorem dX9_init_281 : decode cX9_init 281 = .ok (.newarray .int, 2) := by decide +kernel
theorem dX9_init_283 : decode cX9_init 283 = .ok (.putfield 110, 3) := by decide +kernel
theorem dX9_init_286 : decode cX9_init 286 = .ok (.aload_n 0, 1) := by decide +kernel
theorem dX9_init_287 : decode cX9_init 287 = .ok (.bipush 60, 2) := by decide +kernel
theorem dX9_init_289 : decode cX9_init 289 = .ok (.newarray .int, 2) := by decide +kernel
theorem dX9_init_291 : decode cX9_init 291 = .ok (.putfield 113, 3) := by decide +kernel
theorem dX9_init_294 : decode cX9_init 294 = .ok (.aload_n 0, 1) := by decide +kernel
theorem dX9_init_295 : decode cX9_init 295 = .ok (.bipush 60, 2) := by decide +kernel
theorem dX9_init_297 : decode cX9_init 297 = .ok (.newarray .int, 2) := by decide +kernel
theorem dX9_init_299 : decode cX9_init 299 = .ok (.putfield 116, 3) := by decide +kernel
theorem dX9_init_302 : decode cX9_init 302 = .ok (.aload_n 0, 1) := by decide +kernel
theorem dX9_init_303 : decode cX9_init 303 = .ok (.bipush 60, 2) := by decide +kernel
theorem dX9_init_305 : decode cX9_init 305 = .ok (.newarray .int, 2) := by decide +kernel
theorem dX9_init_307 : decode cX9_init 307 = .ok (.putfield 119, 3) := by decide +kernel
theorem dX9_init_310 : decode cX9_init 310 = .ok (.aload_n 0, 1) := by decide +kernel
theorem dX9_init_311 : decode cX9_init 311 = .ok (.bipush 60, 2) := by decide +kernel
theorem dX9_init_313 : decode cX9_init 313 = .ok (.newarray .int, 2) := by decide +kernel
theorem dX9_init_315 : decode cX9_init 315 = .ok (.putfield 122, 3) := by decide +kernel
theorem dX9_init_318 : decode cX9_init 318 = .ok (.aload_n 0, 1) := by decide +kernel
theorem dX9_init_319 : decode cX9_init 319 = .ok (.bipush 100, 2) := by decide +kernel
theorem dX9_init_321 : decode cX9_init 321 = .ok (.newarray .int, 2) := by decide +kernel
theorem dX9_init_323 : decode cX9_init 323 = .ok (.putfield 125, 3) := by decide +kernel
theorem dX9_init_326 : decode cX9_init 326 = .ok (.aload_n 0, 1) := by decide +kernel
theorem dX9_init_327 : decode cX9_init 327 = .ok (.bipush 100, 2) := by decide +kernel
theorem dX9_init_329 : decode cX9_init 329 = .ok (.newarray .int, 2) := by decide +kernel
theorem dX9_init_331 : decode cX9_init 331 = .ok (.putfield 128, 3) := by decide +kernel
theorem dX9_init_334 : decode cX9_init 334 = .ok (.aload_n 0, 1) := by decide +kernel
theorem dX9_init_335 : decode cX9_init 335 = .ok (.bipush 100, 2) := by decide +kernel
theorem dX9_init_337 : decode cX9_init 337 = .ok (.newarray .int, 2) := by decide +kernel
theorem dX9_init_339 : decode cX9_init 339 = .ok (.putfield 131, 3) := by decide +kernel
theorem dX9_init_342 : decode cX9_init 342 = .ok (.aload_n 0, 1) := by decide +kernel
theorem dX9_init_343 : decode cX9_init 343 = .ok (.bipush 100, 2) := by decide +kernel
theorem dX9_init_345 : decode cX9_init 345 = .ok (.newarray .int, 2) := by decide +kernel
theorem dX9_init_347 : decode cX9_init 347 = .ok (.putfield 134, 3) := by decide +kernel
theorem dX9_init_350 : decode cX9_init 350 = .ok (.aload_n 0, 1) := by decide +kernel
theorem dX9_init_351 : decode cX9_init 351 = .ok (.bipush 100, 2) := by decide +kernel
theorem dX9_init_353 : decode cX9_init 353 = .ok (.newarray .int, 2) := by decide +kernel
theorem dX9_init_355 : decode cX9_init 355 = .ok (.putfield 137, 3) := by decide +kernel
theorem dX9_init_358 : decode cX9_init 358 = .ok (.aload_n 0, 1) := by decide +kernel
theorem dX9_init_359 : decode cX9_init 359 = .ok (.iconst 5, 1) := by decide +kernel
theorem dX9_init_360 : decode cX9_init 360 = .ok (.newarray .int, 2) := by decide +kernel
theorem dX9_init_362 : decode cX9_init 362 = .ok (.putfield 140, 3) := by decide +kernel
theorem dX9_init_365 : decode cX9_init 365 = .ok (.aload_n 0, 1) := by decide +kernel
theorem dX9_init_366 : decode cX9_init 366 = .ok (.iconst 5, 1) := by decide +kernel
theorem dX9_init_367 : decode cX9_init 367 = .ok (.newarray .int, 2) := by decide +kernel
theorem dX9_init_369 : decode cX9_init 369 = .ok (.putfield 143, 3) := by decide +kernel
theorem dX9_init_372 : decode cX9_init 372 = .ok (.aload_n 0, 1) := by decide +kernel
theorem dX9_init_373 : decode cX9_init 373 = .ok (.iconst 5, 1) := by decide +kernel
theorem dX9_init_374 : decode cX9_init 374 = .ok (.newarray .int, 2) := by decide +kernel
theorem dX9_init_376 : decode cX9_init 376 = .ok (.putfield 146, 3) := by decide +kernel
theorem dX9_init_379 : decode cX9_init 379 = .ok (.aload_n 0, 1) := by decide +kernel
theorem dX9_init_380 : decode cX9_init 380 = .ok (.bipush 50, 2) := by decide +kernel
theorem dX9_init_382 : decode cX9_init 382 = .ok (.newarray .boolean, 2) := by decide +kernel
theorem dX9_init_384 : decode cX9_init 384 = .ok (.putfield 149, 3) := by decide +kernel
theorem dX9_init_387 : decode cX9_init 387 = .ok (.aload_n 0, 1) := by decide +kernel
theorem dX9_init_388 : decode cX9_init 388 = .ok (.bipush 50, 2) := by decide +kernel
theorem dX9_init_390 : decode cX9_init 390 = .ok (.newarray .int, 2) := by decide +kernel
theorem dX9_init_392 : decode cX9_init 392 = .ok (.putfield 152, 3) := by decide +kernel
theorem dX9_init_395 : decode cX9_init 395 = .ok (.aload_n 0, 1) := by decide +kernel
theorem dX9_init_396 : decode cX9_init 396 = .ok (.bipush 10, 2) := by decide +kernel
theorem dX9_init_398 : decode cX9_init 398 = .ok (.newarray .int, 2) := by decide +kernel
theorem dX9_init_400 : decode cX9_init 400 = .ok (.putfield 155, 3) := by decide +kernel
theorem dX9_init_403 : decode cX9_init 403 = .ok (.return_, 1) := by decide +kernel
theorem dX9_thrown_0 : decode cX9_thrown 0 = .ok (.aload_n 0, 1) := by decide +kernel
theorem dX9_thrown_1 : decode cX9_thrown 1 = .ok (.getfield 158, 3) := by decide +kernel
theorem dX9_thrown_4 : decode cX9_thrown 4 = .ok (.ireturn, 1) := by decide +kernel
theorem dX9_in_0 : decode cX9_in 0 = .ok (.iload_n 0, 1) := by decide +kernel
theorem dX9_in_1 : decode cX9_in 1 = .ok (.iload_n 1, 1) := by decide +kernel
theorem dX9_in_2 : decode cX9_in 2 = .ok (.if_icmp .lt 12, 3) := by decide +kernel
theorem dX9_in_5 : decode cX9_in 5 = .ok (.iload_n 0, 1) := by decide +kernel
theorem dX9_in_6 : decode cX9_in 6 = .ok (.iload_n 2, 1) := by decide +kernel
theorem dX9_in_7 : decode cX9_in 7 = .ok (.if_icmp .gt 7, 3) := by decide +kernel
theorem dX9_in_10 : decode cX9_in 10 = .ok (.iconst 1, 1) := by decide +kernel
theorem dX9_in_11 : decode cX9_in 11 = .ok (.goto 4, 3) := by decide +kernel
theorem dX9_in_14 : decode cX9_in 14 = .ok (.iconst 0, 1) := by decide +kernel
theorem dX9_in_15 : decode cX9_in 15 = .ok (.ireturn, 1) := by decide +kernel
theorem dX9_goes_0 : decode cX9_goes 0 = .ok (.aload_n 0, 1) := by decide +kernel
theorem dX9_goes_1 : decode cX9_goes 1 = .ok (.iload_n 1, 1) := by decide +kernel
theorem dX9_goes_2 : decode cX9_goes 2 = .ok (.ifCond .ne 7, 3) := by decide +kernel
theorem dX9_goes_5 : decode cX9_goes 5 = .ok (.iconst 1, 1) := by decide +kernel
theorem dX9_goes_6 : decode cX9_goes 6 = .ok (.goto 20, 3) := by decide +kernel
theorem dX9_goes_9 : decode cX9_goes 9 = .ok (.iload_n 2, 1) := by decide +kernel
theorem dX9_goes_10 : decode cX9_goes 10 = .ok (.ifCond .ne 7, 3) := by decide +kernel
theorem dX9_goes_13 : decode cX9_goes 13 = .ok (.iconst 2, 1) := by decide +kernel
theorem dX9_goes_14 : decode cX9_goes 14 = .ok (.goto 12, 3) := by decide +kernel
theorem dX9_goes_17 : decode cX9_goes 17 = .ok (.iload_n 3, 1) := by decide +kernel
theorem dX9_goes_18 : decode cX9_goes 18 = .ok (.ifCond .ne 7, 3) := by decide +kernel
theorem dX9_goes_21 : decode cX9_goes 21 = .ok (.iconst 3, 1) := by decide +kernel
theorem dX9_goes_22 : decode cX9_goes 22 = .ok (.goto 4, 3) := by decide +kernel
theorem dX9_goes_25 : decode cX9_goes 25 = .ok (.iconst 0, 1) := by decide +kernel
theorem dX9_goes_26 : decode cX9_goes 26 = .ok (.putfield 158, 3) := by decide +kernel
theorem dX9_goes_29 : decode cX9_goes 29 = .ok (.aload_n 0, 1) := by decide +kernel
theorem dX9_goes_30 : decode cX9_goes 30 = .ok (.getfield 158, 3) := by decide +kernel
theorem dX9_goes_33 : decode cX9_goes 33 = .ok (.ifCond .ne 7, 3) := by decide +kernel
theorem dX9_goes_36 : decode cX9_goes 36 = .ok (.iconst 1, 1) := by decide +kernel
theorem dX9_goes_37 : decode cX9_goes 37 = .ok (.goto 4, 3) := by decide +kernel
theorem dX9_goes_40 : decode cX9_goes 40 = .ok (.iconst 0, 1) := by decide +kernel
theorem dX9_goes_41 : decode cX9_goes 41 = .ok (.ireturn, 1) := by decide +kernel
theorem dX9_isChild_0 : decode cX9_isChild 0 = .ok (.iload_n 1, 1) := by decide +kernel
theorem dX9_isChild_1 : decode cX9_isChild 1 = .ok (.iconst 0, 1) := by decide +kernel
theorem dX9_isChild_2 : decode cX9_isChild 2 = .ok (.aload_n 0, 1) := by decide +kernel
theorem dX9_isChild_3 : decode cX9_isChild 3 = .ok (.getfield 162, 3) := by decide +kernel
theorem dX9_isChild_6 : decode cX9_isChild 6 = .ok (.iconst 1, 1) := by decide +kernel
theorem dX9_isChild_7 : decode cX9_isChild 7 = .ok (.isub, 1) := by decide +kernel
theorem dX9_isChild_8 : decode cX9_isChild 8 = .ok (.invokestatic 165, 3) := by decide +kernel
theorem dX9_isChild_11 : decode cX9_isChild 11 = .ok (.ireturn, 1) := by decide +kernel
theorem dX9_isHome_0 : decode cX9_isHome 0 = .ok (.iload_n 1, 1) := by decide +kernel
theorem dX9_isHome_1 : decode cX9_isHome 1 = .ok (.iconst 0, 1) := by decide +kernel
theorem dX9_isHome_2 : decode cX9_isHome 2 = .ok (.aload_n 0, 1) := by decide +kernel
theorem dX9_isHome_3 : decode cX9_isHome 3 = .ok (.getfield 169, 3) := by decide +kernel
theorem dX9_isHome_6 : decode cX9_isHome 6 = .ok (.iconst 1, 1) := by decide +kernel
theorem dX9_isHome_7 : decode cX9_isHome 7 = .ok (.isub, 1) := by decide +kernel
theorem dX9_isHome_8 : decode cX9_isHome 8 = .ok (.invokestatic 165, 3) := by decide +kernel
theorem dX9_isHome_11 : decode cX9_isHome 11 = .ok (.ireturn, 1) := by decide +kernel
theorem dX9_ones_0 : decode cX9_ones 0 = .ok (.iload_n 0, 1) := by decide +kernel
theorem dX9_ones_1 : decode cX9_ones 1 = .ok (.iconst 1, 1) := by decide +kernel
theorem dX9_ones_2 : decode cX9_ones 2 = .ok (.iand, 1) := by decide +kernel
theorem dX9_ones_3 : decode cX9_ones 3 = .ok (.iload_n 0, 1) := by decide +kernel
theorem dX9_ones_4 : decode cX9_ones 4 = .ok (.iconst 1, 1) := by decide +kernel
theorem dX9_ones_5 : decode cX9_ones 5 = .ok (.ishr, 1) := by decide +kernel
theorem dX9_ones_6 : decode cX9_ones 6 = .ok (.iconst 1, 1) := by decide +kernel
theorem dX9_ones_7 : decode cX9_ones 7 = .ok (.iand, 1) := by decide +kernel
theorem dX9_ones_8 : decode cX9_ones 8 = .ok (.iadd, 1) := by decide +kernel
theorem dX9_ones_9 : decode cX9_ones 9 = .ok (.iload_n 0, 1) := by decide +kernel
theorem dX9_ones_10 : decode cX9_ones 10 = .ok (.iconst 2, 1) := by decide +kernel
theorem dX9_ones_11 : decode cX9_ones 11 = .ok (.ishr, 1) := by decide +kernel
theorem dX9_ones_12 : decode cX9_ones 12 = .ok (.iconst 1, 1) := by decide +kernel
theorem dX9_ones_13 : decode cX9_ones 13 = .ok (.iand, 1) := by decide +kernel
theorem dX9_ones_14 : decode cX9_ones 14 = .ok (.iadd, 1) := by decide +kernel
theorem dX9_ones_15 : decode cX9_ones 15 = .ok (.iload_n 0, 1) := by decide +kernel
theorem dX9_ones_16 : decode cX9_ones 16 = .ok (.iconst 3, 1) := by decide +kernel
theorem dX9_ones_17 : decode cX9_ones 17 = .ok (.ishr, 1) := by decide +kernel
theorem dX9_ones_18 : decode cX9_ones 18 = .ok (.iconst 1, 1) := by decide +kernel
theorem dX9_ones_19 : decode cX9_ones 19 = .ok (.iand, 1) := by decide +kernel
theorem dX9_ones_20 : decode cX9_ones 20 = .ok (.iadd, 1) := by decide +kernel
theorem dX9_ones_21 : decode cX9_ones 21 = .ok (.ireturn, 1) := by decide +kernel
theorem dX9_yearsOn_0 : decode cX9_yearsOn 0 = .ok (.aload_n 0, 1) := by decide +kernel
theorem dX9_yearsOn_1 : decode cX9_yearsOn 1 = .ok (.getfield 7, 3) := by decide +kernel
theorem dX9_yearsOn_4 : decode cX9_yearsOn 4 = .ok (.iload_n 1, 1) := by decide +kernel
theorem dX9_yearsOn_5 : decode cX9_yearsOn 5 = .ok (.iaload, 1) := by decide +kernel
theorem dX9_yearsOn_6 : decode cX9_yearsOn 6 = .ok (.iload_n 2, 1) := by decide +kernel
theorem dX9_yearsOn_7 : decode cX9_yearsOn 7 = .ok (.iadd, 1) := by decide +kernel
theorem dX9_yearsOn_8 : decode cX9_yearsOn 8 = .ok (.aload_n 0, 1) := by decide +kernel
theorem dX9_yearsOn_9 : decode cX9_yearsOn 9 = .ok (.getfield 13, 3) := by decide +kernel
theorem dX9_yearsOn_12 : decode cX9_yearsOn 12 = .ok (.iload_n 1, 1) := by decide +kernel
theorem dX9_yearsOn_13 : decode cX9_yearsOn 13 = .ok (.iaload, 1) := by decide +kernel
theorem dX9_yearsOn_14 : decode cX9_yearsOn 14 = .ok (.isub, 1) := by decide +kernel
theorem dX9_yearsOn_15 : decode cX9_yearsOn 15 = .ok (.sipush 365, 3) := by decide +kernel
theorem dX9_yearsOn_18 : decode cX9_yearsOn 18 = .ok (.idiv, 1) := by decide +kernel
theorem dX9_yearsOn_19 : decode cX9_yearsOn 19 = .ok (.ireturn, 1) := by decide +kernel
theorem dX9_homeOf_0 : decode cX9_homeOf 0 = .ok (.aload_n 0, 1) := by decide +kernel
theorem dX9_homeOf_1 : decode cX9_homeOf 1 = .ok (.getfield 34, 3) := by decide +kernel
theorem dX9_homeOf_4 : decode cX9_homeOf 4 = .ok (.iload_n 1, 1) := by decide +kernel
theorem dX9_homeOf_5 : decode cX9_homeOf 5 = .ok (.iaload, 1) := by decide +kernel
theorem dX9_homeOf_6 : decode cX9_homeOf 6 = .ok (.iconst (-1), 1) := by decide +kernel
theorem dX9_homeOf_7 : decode cX9_homeOf 7 = .ok (.if_icmp .ne 7, 3) := by decide +kernel
theorem dX9_homeOf_10 : decode cX9_homeOf 10 = .ok (.iconst (-1), 1) := by decide +kernel
theorem dX9_homeOf_11 : decode cX9_homeOf 11 = .ok (.goto 14, 3) := by decide +kernel
theorem dX9_homeOf_14 : decode cX9_homeOf 14 = .ok (.aload_n 0, 1) := by decide +kernel
theorem dX9_homeOf_15 : decode cX9_homeOf 15 = .ok (.getfield 128, 3) := by decide +kernel
theorem dX9_homeOf_18 : decode cX9_homeOf 18 = .ok (.aload_n 0, 1) := by decide +kernel
theorem dX9_homeOf_19 : decode cX9_homeOf 19 = .ok (.getfield 34, 3) := by decide +kernel
theorem dX9_homeOf_22 : decode cX9_homeOf 22 = .ok (.iload_n 1, 1) := by decide +kernel
theorem dX9_homeOf_23 : decode cX9_homeOf 23 = .ok (.iaload, 1) := by decide +kernel
theorem dX9_homeOf_24 : decode cX9_homeOf 24 = .ok (.iaload, 1) := by decide +kernel
theorem dX9_homeOf_25 : decode cX9_homeOf 25 = .ok (.ireturn, 1) := by decide +kernel
theorem dX9_loadOf_0 : decode cX9_loadOf 0 = .ok (.iconst 0, 1) := by decide +kernel
theorem dX9_loadOf_1 : decode cX9_loadOf 1 = .ok (.istore_n 2, 1) := by decide +kernel
theorem dX9_loadOf_2 : decode cX9_loadOf 2 = .ok (.iconst 0, 1) := by decide +kernel
theorem dX9_loadOf_3 : decode cX9_loadOf 3 = .ok (.istore_n 3, 1) := by decide +kernel
theorem dX9_loadOf_4 : decode cX9_loadOf 4 = .ok (.iload_n 3, 1) := by decide +kernel
theorem dX9_loadOf_5 : decode cX9_loadOf 5 = .ok (.aload_n 0, 1) := by decide +kernel
theorem dX9_loadOf_6 : decode cX9_loadOf 6 = .ok (.getfield 162, 3) := by decide +kernel
theorem dX9_loadOf_9 : decode cX9_loadOf 9 = .ok (.if_icmp .ge 53, 3) := by decide +kernel
theorem dX9_loadOf_12 : decode cX9_loadOf 12 = .ok (.iload_n 2, 1) := by decide +kernel
theorem dX9_loadOf_13 : decode cX9_loadOf 13 = .ok (.aload_n 0, 1) := by decide +kernel
theorem dX9_loadOf_14 : decode cX9_loadOf 14 = .ok (.getfield 28, 3) := by decide +kernel
theorem dX9_loadOf_17 : decode cX9_loadOf 17 = .ok (.iload_n 3, 1) := by decide +kernel
theorem dX9_loadOf_18 : decode cX9_loadOf 18 = .ok (.iaload, 1) := by decide +kernel
theorem dX9_loadOf_19 : decode cX9_loadOf 19 = .ok (.iload_n 1, 1) := by decide +kernel
theorem dX9_loadOf_20 : decode cX9_loadOf 20 = .ok (.if_icmp .ne 33, 3) := by decide +kernel
theorem dX9_loadOf_23 : decode cX9_loadOf 23 = .ok (.iconst 2, 1) := by decide +kernel
theorem dX9_loadOf_24 : decode cX9_loadOf 24 = .ok (.aload_n 0, 1) := by decide +kernel
theorem dX9_loadOf_25 : decode cX9_loadOf 25 = .ok (.getfield 16, 3) := by decide +kernel
theorem dX9_loadOf_28 : decode cX9_loadOf 28 = .ok (.iload_n 3, 1) := by decide +kernel
theorem dX9_loadOf_29 : decode cX9_loadOf 29 = .ok (.iaload, 1) := by decide +kernel
theorem dX9_loadOf_30 : decode cX9_loadOf 30 = .ok (.invokestatic 172, 3) := by decide +kernel
theorem dX9_loadOf_33 : decode cX9_loadOf 33 = .ok (.iadd, 1) := by decide +kernel
theorem dX9_loadOf_34 : decode cX9_loadOf 34 = .ok (.aload_n 0, 1) := by decide +kernel
theorem dX9_loadOf_35 : decode cX9_loadOf 35 = .ok (.getfield 34, 3) := by decide +kernel
theorem dX9_loadOf_38 : decode cX9_loadOf 38 = .ok (.iload_n 3, 1) := by decide +kernel
theorem dX9_loadOf_39 : decode cX9_loadOf 39 = .ok (.iaload, 1) := by decide +kernel
theorem dX9_loadOf_40 : decode cX9_loadOf 40 = .ok (.iconst (-1), 1) := by decide +kernel
theorem dX9_loadOf_41 : decode cX9_loadOf 41 = .ok (.if_icmp .ne 7, 3) := by decide +kernel
theorem dX9_loadOf_44 : decode cX9_loadOf 44 = .ok (.iconst 0, 1) := by decide +kernel
theorem dX9_loadOf_45 : decode cX9_loadOf 45 = .ok (.goto 4, 3) := by decide +kernel
theorem dX9_loadOf_48 : decode cX9_loadOf 48 = .ok (.iconst 3, 1) := by decide +kernel
theorem dX9_loadOf_49 : decode cX9_loadOf 49 = .ok (.iadd, 1) := by decide +kernel
theorem dX9_loadOf_50 : decode cX9_loadOf 50 = .ok (.goto 4, 3) := by decide +kernel
theorem dX9_loadOf_53 : decode cX9_loadOf 53 = .ok (.iconst 0, 1) := by decide +kernel
theorem dX9_loadOf_54 : decode cX9_loadOf 54 = .ok (.iadd, 1) := by decide +kernel
theorem dX9_loadOf_55 : decode cX9_loadOf 55 = .ok (.istore_n 2, 1) := by decide +kernel
theorem dX9_loadOf_56 : decode cX9_loadOf 56 = .ok (.iinc 3 1, 3) := by decide +kernel
theorem dX9_loadOf_59 : decode cX9_loadOf 59 = .ok (.goto (-55), 3) := by decide +kernel
theorem dX9_loadOf_62 : decode cX9_loadOf 62 = .ok (.iload_n 2, 1) := by decide +kernel
theorem dX9_loadOf_63 : decode cX9_loadOf 63 = .ok (.ireturn, 1) := by decide +kernel
theorem dX9_leastLoaded_0 : decode cX9_leastLoaded 0 = .ok (.iconst 0, 1) := by decide +kernel
theorem dX9_leastLoaded_1 : decode cX9_leastLoaded 1 = .ok (.istore_n 1, 1) := by decide +kernel
theorem dX9_leastLoaded_2 : decode cX9_leastLoaded 2 = .ok (.iconst 1, 1) := by decide +kernel
theorem dX9_leastLoaded_3 : decode cX9_leastLoaded 3 = .ok (.istore_n 2, 1) := by decide +kernel
theorem dX9_leastLoaded_4 : decode cX9_leastLoaded 4 = .ok (.iload_n 2, 1) := by decide +kernel
theorem dX9_leastLoaded_5 : decode cX9_leastLoaded 5 = .ok (.iconst 5, 1) := by decide +kernel
theorem dX9_leastLoaded_6 : decode cX9_leastLoaded 6 = .ok (.if_icmp .ge 28, 3) := by decide +kernel
theorem dX9_leastLoaded_9 : decode cX9_leastLoaded 9 = .ok (.aload_n 0, 1) := by decide +kernel
theorem dX9_leastLoaded_10 : decode cX9_leastLoaded 10 = .ok (.iload_n 2, 1) := by decide +kernel
theorem dX9_leastLoaded_11 : decode cX9_leastLoaded 11 = .ok (.invokevirtual 176, 3) := by decide +kernel
theorem dX9_leastLoaded_14 : decode cX9_leastLoaded 14 = .ok (.aload_n 0, 1) := by decide +kernel
theorem dX9_leastLoaded_15 : decode cX9_leastLoaded 15 = .ok (.iload_n 1, 1) := by decide +kernel
theorem dX9_leastLoaded_16 : decode cX9_leastLoaded 16 = .ok (.invokevirtual 176, 3) := by decide +kernel
theorem dX9_leastLoaded_19 : decode cX9_leastLoaded 19 = .ok (.if_icmp .ge 7, 3) := by decide +kernel
theorem dX9_leastLoaded_22 : decode cX9_leastLoaded 22 = .ok (.iload_n 2, 1) := by decide +kernel
theorem dX9_leastLoaded_23 : decode cX9_leastLoaded 23 = .ok (.goto 4, 3) := by decide +kernel
theorem dX9_leastLoaded_26 : decode cX9_leastLoaded 26 = .ok (.iload_n 1, 1) := by decide +kernel
theorem dX9_leastLoaded_27 : decode cX9_leastLoaded 27 = .ok (.istore_n 1, 1) := by decide +kernel
theorem dX9_leastLoaded_28 : decode cX9_leastLoaded 28 = .ok (.iinc 2 1, 3) := by decide +kernel
theorem dX9_leastLoaded_31 : decode cX9_leastLoaded 31 = .ok (.goto (-27), 3) := by decide +kernel
theorem dX9_leastLoaded_34 : decode cX9_leastLoaded 34 = .ok (.iload_n 1, 1) := by decide +kernel
theorem dX9_leastLoaded_35 : decode cX9_leastLoaded 35 = .ok (.ireturn, 1) := by decide +kernel
theorem dX9_child_0 : decode cX9_child 0 = .ok (.iload_n 1, 1) := by decide +kernel
theorem dX9_child_1 : decode cX9_child 1 = .ok (.iconst 0, 1) := by decide +kernel
theorem dX9_child_2 : decode cX9_child 2 = .ok (.sipush 7000, 3) := by decide +kernel
theorem dX9_child_5 : decode cX9_child 5 = .ok (.invokestatic 165, 3) := by decide +kernel
theorem dX9_child_8 : decode cX9_child 8 = .ok (.ifCond .eq 48, 3) := by decide +kernel
theorem dX9_child_11 : decode cX9_child 11 = .ok (.iload_n 2, 1) := by decide +kernel
theorem dX9_child_12 : decode cX9_child 12 = .ok (.iconst 0, 1) := by decide +kernel
theorem dX9_child_13 : decode cX9_child 13 = .ok (.bipush 15, 2) := by decide +kernel
theorem dX9_child_15 : decode cX9_child 15 = .ok (.invokestatic 165, 3) := by decide +kernel
theorem dX9_child_18 : decode cX9_child 18 = .ok (.ifCond .eq 38, 3) := by decide +kernel
theorem dX9_child_21 : decode cX9_child 21 = .ok (.iload_n 3, 1) := by decide +kernel
theorem dX9_child_22 : decode cX9_child 22 = .ok (.iconst 0, 1) := by decide +kernel
theorem dX9_child_23 : decode cX9_child 23 = .ok (.bipush 7, 2) := by decide +kernel
theorem dX9_child_25 : decode cX9_child 25 = .ok (.invokestatic 165, 3) := by decide +kernel
theorem dX9_child_28 : decode cX9_child 28 = .ok (.ifCond .eq 28, 3) := by decide +kernel
theorem dX9_child_31 : decode cX9_child 31 = .ok (.iload 4, 2) := by decide +kernel
theorem dX9_child_33 : decode cX9_child 33 = .ok (.iconst 0, 1) := by decide +kernel
theorem dX9_child_34 : decode cX9_child 34 = .ok (.bipush 50, 2) := by decide +kernel
theorem dX9_child_36 : decode cX9_child 36 = .ok (.invokestatic 165, 3) := by decide +kernel
theorem dX9_child_39 : decode cX9_child 39 = .ok (.ifCond .eq 17, 3) := by decide +kernel
theorem dX9_child_42 : decode cX9_child 42 = .ok (.iload 5, 2) := by decide +kernel
theorem dX9_child_44 : decode cX9_child 44 = .ok (.iconst 0, 1) := by decide +kernel
theorem dX9_child_45 : decode cX9_child 45 = .ok (.iconst 3, 1) := by decide +kernel
theorem dX9_child_46 : decode cX9_child 46 = .ok (.invokestatic 165, 3) := by decide +kernel
theorem dX9_child_49 : decode cX9_child 49 = .ok (.ifCond .eq 7, 3) := by decide +kernel
theorem dX9_child_52 : decode cX9_child 52 = .ok (.iconst 1, 1) := by decide +kernel
theorem dX9_child_53 : decode cX9_child 53 = .ok (.goto 4, 3) := by decide +kernel
theorem dX9_child_56 : decode cX9_child 56 = .ok (.iconst 0, 1) := by decide +kernel
theorem dX9_child_57 : decode cX9_child 57 = .ok (.istore 6, 2) := by decide +kernel
theorem dX9_child_59 : decode cX9_child 59 = .ok (.aload_n 0, 1) := by decide +kernel
theorem dX9_child_60 : decode cX9_child 60 = .ok (.iload 6, 2) := by decide +kernel
theorem dX9_child_62 : decode cX9_child 62 = .ok (.aload_n 0, 1) := by decide +kernel
theorem dX9_child_63 : decode cX9_child 63 = .ok (.getfield 162, 3) := by decide +kernel
theorem dX9_child_66 : decode cX9_child 66 = .ok (.bipush 16, 2) := by decide +kernel
theorem dX9_child_68 : decode cX9_child 68 = .ok (.if_icmp .ge 7, 3) := by decide +kernel
theorem dX9_child_71 : decode cX9_child 71 = .ok (.iconst 1, 1) := by decide +kernel
theorem dX9_child_72 : decode cX9_child 72 = .ok (.goto 4, 3) := by decide +kernel
theorem dX9_child_75 : decode cX9_child 75 = .ok (.iconst 0, 1) := by decide +kernel
theorem dX9_child_76 : decode cX9_child 76 = .ok (.iconst 1, 1) := by decide +kernel
theorem dX9_child_77 : decode cX9_child 77 = .ok (.invokevirtual 179, 3) := by decide +kernel
theorem dX9_child_80 : decode cX9_child 80 = .ok (.ifCond .ne 5, 3) := by decide +kernel
theorem dX9_child_83 : decode cX9_child 83 = .ok (.iconst 0, 1) := by decide +kernel
theorem dX9_child_84 : decode cX9_child 84 = .ok (.ireturn, 1) := by decide +kernel
theorem dX9_child_85 : decode cX9_child 85 = .ok (.aload_n 0, 1) := by decide +kernel
theorem dX9_child_86 : decode cX9_child 86 = .ok (.invokevirtual 183, 3) := by decide +kernel
theorem dX9_child_89 : decode cX9_child 89 = .ok (.istore 7, 2) := by decide +kernel
theorem dX9_child_91 : decode cX9_child 91 = .ok (.aload_n 0, 1) := by decide +kernel
theorem dX9_child_92 : decode cX9_child 92 = .ok (.getfield 7, 3) := by decide +kernel
theorem dX9_child_95 : decode cX9_child 95 = .ok (.aload_n 0, 1) := by decide +kernel
theorem dX9_child_96 : decode cX9_child 96 = .ok (.getfield 162, 3) := by decide +kernel
theorem dX9_child_99 : decode cX9_child 99 = .ok (.iload_n 1, 1) := by decide +kernel
theorem dX9_child_100 : decode cX9_child 100 = .ok (.iastore, 1) := by decide +kernel
theorem dX9_child_101 : decode cX9_child 101 = .ok (.aload_n 0, 1) := by decide +kernel
theorem dX9_child_102 : decode cX9_child 102 = .ok (.getfield 13, 3) := by decide +kernel
theorem dX9_child_105 : decode cX9_child 105 = .ok (.aload_n 0, 1) := by decide +kernel
theorem dX9_child_106 : decode cX9_child 106 = .ok (.getfield 162, 3) := by decide +kernel
theorem dX9_child_109 : decode cX9_child 109 = .ok (.aload_n 0, 1) := by decide +kernel
theorem dX9_child_110 : decode cX9_child 110 = .ok (.getfield 187, 3) := by decide +kernel
theorem dX9_child_113 : decode cX9_child 113 = .ok (.iastore, 1) := by decide +kernel
theorem dX9_child_114 : decode cX9_child 114 = .ok (.aload_n 0, 1) := by decide +kernel
theorem dX9_child_115 : decode cX9_child 115 = .ok (.getfield 16, 3) := by decide +kernel
theorem dX9_child_118 : decode cX9_child 118 = .ok (.aload_n 0, 1) := by decide +kernel
theorem dX9_child_119 : decode cX9_child 119 = .ok (.getfield 162, 3) := by decide +kernel
theorem dX9_child_122 : decode cX9_child 122 = .ok (.iload_n 2, 1) := by decide +kernel
theorem dX9_child_123 : decode cX9_child 123 = .ok (.iastore, 1) := by decide +kernel
theorem dX9_child_124 : decode cX9_child 124 = .ok (.aload_n 0, 1) := by decide +kernel
theorem dX9_child_125 : decode cX9_child 125 = .ok (.getfield 19, 3) := by decide +kernel
theorem dX9_child_128 : decode cX9_child 128 = .ok (.aload_n 0, 1) := by decide +kernel
theorem dX9_child_129 : decode cX9_child 129 = .ok (.getfield 162, 3) := by decide +kernel
theorem dX9_child_132 : decode cX9_child 132 = .ok (.iload_n 3, 1) := by decide +kernel
theorem dX9_child_133 : decode cX9_child 133 = .ok (.iastore, 1) := by decide +kernel
theorem dX9_child_134 : decode cX9_child 134 = .ok (.aload_n 0, 1) := by decide +kernel
theorem dX9_child_135 : decode cX9_child 135 = .ok (.getfield 22, 3) := by decide +kernel
theorem dX9_child_138 : decode cX9_child 138 = .ok (.aload_n 0, 1) := by decide +kernel
theorem dX9_child_139 : decode cX9_child 139 = .ok (.getfield 162, 3) := by decide +kernel
theorem dX9_child_142 : decode cX9_child 142 = .ok (.iload 4, 2) := by decide +kernel
theorem dX9_child_144 : decode cX9_child 144 = .ok (.iastore, 1) := by decide +kernel
theorem dX9_child_145 : decode cX9_child 145 = .ok (.aload_n 0, 1) := by decide +kernel
theorem dX9_child_146 : decode cX9_child 146 = .ok (.getfield 25, 3) := by decide +kernel
theorem dX9_child_149 : decode cX9_child 149 = .ok (.aload_n 0, 1) := by decide +kernel
theorem dX9_child_150 : decode cX9_child 150 = .ok (.getfield 162, 3) := by decide +kernel
theorem dX9_child_153 : decode cX9_child 153 = .ok (.iload 5, 2) := by decide +kernel
theorem dX9_child_155 : decode cX9_child 155 = .ok (.iastore, 1) := by decide +kernel
theorem dX9_child_156 : decode cX9_child 156 = .ok (.aload_n 0, 1) := by decide +kernel
theorem dX9_child_157 : decode cX9_child 157 = .ok (.getfield 28, 3) := by decide +kernel
theorem dX9_child_160 : decode cX9_child 160 = .ok (.aload_n 0, 1) := by decide +kernel
theorem dX9_child_161 : decode cX9_child 161 = .ok (.getfield 162, 3) := by decide +kernel
theorem dX9_child_164 : decode cX9_child 164 = .ok (.iload 7, 2) := by decide +kernel
theorem dX9_child_166 : decode cX9_child 166 = .ok (.iastore, 1) := by decide +kernel
theorem dX9_child_167 : decode cX9_child 167 = .ok (.aload_n 0, 1) := by decide +kernel
theorem dX9_child_168 : decode cX9_child 168 = .ok (.getfield 31, 3) := by decide +kernel
theorem dX9_child_171 : decode cX9_child 171 = .ok (.aload_n 0, 1) := by decide +kernel
theorem dX9_child_172 : decode cX9_child 172 = .ok (.getfield 162, 3) := by decide +kernel
theorem dX9_child_175 : decode cX9_child 175 = .ok (.iconst (-1), 1) := by decide +kernel
theorem dX9_child_176 : decode cX9_child 176 = .ok (.iastore, 1) := by decide +kernel
theorem dX9_child_177 : decode cX9_child 177 = .ok (.aload_n 0, 1) := by decide +kernel
theorem dX9_child_178 : decode cX9_child 178 = .ok (.getfield 34, 3) := by decide +kernel
theorem dX9_child_181 : decode cX9_child 181 = .ok (.aload_n 0, 1) := by decide +kernel
theorem dX9_child_182 : decode cX9_child 182 = .ok (.getfield 162, 3) := by decide +kernel
theorem dX9_child_185 : decode cX9_child 185 = .ok (.iconst (-1), 1) := by decide +kernel
theorem dX9_child_186 : decode cX9_child 186 = .ok (.iastore, 1) := by decide +kernel
theorem dX9_child_187 : decode cX9_child 187 = .ok (.aload_n 0, 1) := by decide +kernel
theorem dX9_child_188 : decode cX9_child 188 = .ok (.dup, 1) := by decide +kernel
theorem dX9_child_189 : decode cX9_child 189 = .ok (.getfield 162, 3) := by decide +kernel
theorem dX9_child_192 : decode cX9_child 192 = .ok (.iconst 1, 1) := by decide +kernel
theorem dX9_child_193 : decode cX9_child 193 = .ok (.iadd, 1) := by decide +kernel
theorem dX9_child_194 : decode cX9_child 194 = .ok (.putfield 162, 3) := by decide +kernel
theorem dX9_child_197 : decode cX9_child 197 = .ok (.aload_n 0, 1) := by decide +kernel
theorem dX9_child_198 : decode cX9_child 198 = .ok (.getfield 162, 3) := by decide +kernel
theorem dX9_child_201 : decode cX9_child 201 = .ok (.iconst 1, 1) := by decide +kernel
theorem dX9_child_202 : decode cX9_child 202 = .ok (.isub, 1) := by decide +kernel
theorem dX9_child_203 : decode cX9_child 203 = .ok (.ireturn, 1) := by decide +kernel
theorem dX9_home_0 : decode cX9_home 0 = .ok (.aload_n 0, 1) := by decide +kernel
theorem dX9_home_1 : decode cX9_home 1 = .ok (.iload_n 1, 1) := by decide +kernel
theorem dX9_home_2 : decode cX9_home 2 = .ok (.iconst 0, 1) := by decide +kernel
theorem dX9_home_3 : decode cX9_home 3 = .ok (.bipush 50, 2) := by decide +kernel
theorem dX9_home_5 : decode cX9_home 5 = .ok (.invokestatic 165, 3) := by decide +kernel
theorem dX9_home_8 : decode cX9_home 8 = .ok (.ifCond .eq 25, 3) := by decide +kernel
theorem dX9_home_11 : decode cX9_home 11 = .ok (.iload_n 2, 1) := by decide +kernel
theorem dX9_home_12 : decode cX9_home 12 = .ok (.iconst 0, 1) := by decide +kernel
theorem dX9_home_13 : decode cX9_home 13 = .ok (.iconst 3, 1) := by decide +kernel
theorem dX9_home_14 : decode cX9_home 14 = .ok (.invokestatic 165, 3) := by decide +kernel
theorem dX9_home_17 : decode cX9_home 17 = .ok (.ifCond .eq 16, 3) := by decide +kernel
theorem dX9_home_20 : decode cX9_home 20 = .ok (.iload_n 3, 1) := by decide +kernel
theorem dX9_home_21 : decode cX9_home 21 = .ok (.iconst 1, 1) := by decide +kernel
theorem dX9_home_22 : decode cX9_home 22 = .ok (.iconst 5, 1) := by decide +kernel
theorem dX9_home_23 : decode cX9_home 23 = .ok (.invokestatic 165, 3) := by decide +kernel
theorem dX9_home_26 : decode cX9_home 26 = .ok (.ifCond .eq 7, 3) := by decide +kernel
theorem dX9_home_29 : decode cX9_home 29 = .ok (.iconst 1, 1) := by decide +kernel
theorem dX9_home_30 : decode cX9_home 30 = .ok (.goto 4, 3) := by decide +kernel
theorem dX9_home_33 : decode cX9_home 33 = .ok (.iconst 0, 1) := by decide +kernel
theorem dX9_home_34 : decode cX9_home 34 = .ok (.aload_n 0, 1) := by decide +kernel
theorem dX9_home_35 : decode cX9_home 35 = .ok (.getfield 169, 3) := by decide +kernel
theorem dX9_home_38 : decode cX9_home 38 = .ok (.bipush 10, 2) := by decide +kernel
theorem dX9_home_40 : decode cX9_home 40 = .ok (.if_icmp .ge 7, 3) := by decide +kernel
theorem dX9_home_43 : decode cX9_home 43 = .ok (.iconst 1, 1) := by decide +kernel
theorem dX9_home_44 : decode cX9_home 44 = .ok (.goto 4, 3) := by decide +kernel
theorem dX9_home_47 : decode cX9_home 47 = .ok (.iconst 0, 1) := by decide +kernel
theorem dX9_home_48 : decode cX9_home 48 = .ok (.iconst 1, 1) := by decide +kernel
theorem dX9_home_49 : decode cX9_home 49 = .ok (.invokevirtual 179, 3) := by decide +kernel
theorem dX9_home_52 : decode cX9_home 52 = .ok (.ifCond .ne 5, 3) := by decide +kernel
theorem dX9_home_55 : decode cX9_home 55 = .ok (.iconst 0, 1) := by decide +kernel
theorem dX9_home_56 : decode cX9_home 56 = .ok (.ireturn, 1) := by decide +kernel
theorem dX9_home_57 : decode cX9_home 57 = .ok (.aload_n 0, 1) := by decide +kernel
theorem dX9_home_58 : decode cX9_home 58 = .ok (.getfield 65, 3) := by decide +kernel
theorem dX9_home_61 : decode cX9_home 61 = .ok (.aload_n 0, 1) := by decide +kernel
theorem dX9_home_62 : decode cX9_home 62 = .ok (.getfield 169, 3) := by decide +kernel
theorem dX9_home_65 : decode cX9_home 65 = .ok (.iload_n 1, 1) := by decide +kernel
theorem dX9_home_66 : decode cX9_home 66 = .ok (.iastore, 1) := by decide +kernel
theorem dX9_home_67 : decode cX9_home 67 = .ok (.aload_n 0, 1) := by decide +kernel
theorem dX9_home_68 : decode cX9_home 68 = .ok (.getfield 68, 3) := by decide +kernel
theorem dX9_home_71 : decode cX9_home 71 = .ok (.aload_n 0, 1) := by decide +kernel
theorem dX9_home_72 : decode cX9_home 72 = .ok (.getfield 169, 3) := by decide +kernel
theorem dX9_home_75 : decode cX9_home 75 = .ok (.iload_n 2, 1) := by decide +kernel
theorem dX9_home_76 : decode cX9_home 76 = .ok (.iastore, 1) := by decide +kernel
theorem dX9_home_77 : decode cX9_home 77 = .ok (.aload_n 0, 1) := by decide +kernel
theorem dX9_home_78 : decode cX9_home 78 = .ok (.getfield 71, 3) := by decide +kernel
theorem dX9_home_81 : decode cX9_home 81 = .ok (.aload_n 0, 1) := by decide +kernel
theorem dX9_home_82 : decode cX9_home 82 = .ok (.getfield 169, 3) := by decide +kernel
theorem dX9_home_85 : decode cX9_home 85 = .ok (.iload_n 3, 1) := by decide +kernel
theorem dX9_home_86 : decode cX9_home 86 = .ok (.iastore, 1) := by decide +kernel
theorem dX9_home_87 : decode cX9_home 87 = .ok (.aload_n 0, 1) := by decide +kernel
theorem dX9_home_88 : decode cX9_home 88 = .ok (.dup, 1) := by decide +kernel
theorem dX9_home_89 : decode cX9_home 89 = .ok (.getfield 169, 3) := by decide +kernel
theorem dX9_home_92 : decode cX9_home 92 = .ok (.iconst 1, 1) := by decide +kernel
theorem dX9_home_93 : decode cX9_home 93 = .ok (.iadd, 1) := by decide +kernel
theorem dX9_home_94 : decode cX9_home 94 = .ok (.putfield 169, 3) := by decide +kernel
theorem dX9_home_97 : decode cX9_home 97 = .ok (.aload_n 0, 1) := by decide +kernel
theorem dX9_home_98 : decode cX9_home 98 = .ok (.getfield 169, 3) := by decide +kernel
theorem dX9_home_101 : decode cX9_home 101 = .ok (.iconst 1, 1) := by decide +kernel
theorem dX9_home_102 : decode cX9_home 102 = .ok (.isub, 1) := by decide +kernel
theorem dX9_home_103 : decode cX9_home 103 = .ok (.ireturn, 1) := by decide +kernel
theorem dX9_tells_0 : decode cX9_tells 0 = .ok (.aload_n 0, 1) := by decide +kernel
theorem dX9_tells_1 : decode cX9_tells 1 = .ok (.getfield 190, 3) := by decide +kernel
theorem dX9_tells_4 : decode cX9_tells 4 = .ok (.istore 6, 2) := by decide +kernel
theorem dX9_tells_6 : decode cX9_tells 6 = .ok (.iconst 0, 1) := by decide +kernel
theorem dX9_tells_7 : decode cX9_tells 7 = .ok (.istore 7, 2) := by decide +kernel
theorem dX9_tells_9 : decode cX9_tells 9 = .ok (.iload 7, 2) := by decide +kernel
theorem dX9_tells_11 : decode cX9_tells 11 = .ok (.aload_n 0, 1) := by decide +kernel
theorem dX9_tells_12 : decode cX9_tells 12 = .ok (.getfield 190, 3) := by decide +kernel
theorem dX9_tells_15 : decode cX9_tells 15 = .ok (.if_icmp .ge 54, 3) := by decide +kernel
theorem dX9_tells_18 : decode cX9_tells 18 = .ok (.aload_n 0, 1) := by decide +kernel
theorem dX9_tells_19 : decode cX9_tells 19 = .ok (.getfield 83, 3) := by decide +kernel
theorem dX9_tells_22 : decode cX9_tells 22 = .ok (.iload 7, 2) := by decide +kernel
theorem dX9_tells_24 : decode cX9_tells 24 = .ok (.iaload, 1) := by decide +kernel
theorem dX9_tells_25 : decode cX9_tells 25 = .ok (.iload_n 1, 1) := by decide +kernel
theorem dX9_tells_26 : decode cX9_tells 26 = .ok (.if_icmp .ne 33, 3) := by decide +kernel
theorem dX9_tells_29 : decode cX9_tells 29 = .ok (.aload_n 0, 1) := by decide +kernel
theorem dX9_tells_30 : decode cX9_tells 30 = .ok (.getfield 86, 3) := by decide +kernel
theorem dX9_tells_33 : decode cX9_tells 33 = .ok (.iload 7, 2) := by decide +kernel
theorem dX9_tells_35 : decode cX9_tells 35 = .ok (.iaload, 1) := by decide +kernel
theorem dX9_tells_36 : decode cX9_tells 36 = .ok (.iload_n 2, 1) := by decide +kernel
theorem dX9_tells_37 : decode cX9_tells 37 = .ok (.if_icmp .ne 22, 3) := by decide +kernel
theorem dX9_tells_40 : decode cX9_tells 40 = .ok (.aload_n 0, 1) := by decide +kernel
theorem dX9_tells_41 : decode cX9_tells 41 = .ok (.getfield 89, 3) := by decide +kernel
theorem dX9_tells_44 : decode cX9_tells 44 = .ok (.iload 7, 2) := by decide +kernel
theorem dX9_tells_46 : decode cX9_tells 46 = .ok (.iaload, 1) := by decide +kernel
theorem dX9_tells_47 : decode cX9_tells 47 = .ok (.aload_n 0, 1) := by decide +kernel
theorem dX9_tells_48 : decode cX9_tells 48 = .ok (.getfield 187, 3) := by decide +kernel
theorem dX9_tells_51 : decode cX9_tells 51 = .ok (.if_icmp .ne 8, 3) := by decide +kernel
theorem dX9_tells_54 : decode cX9_tells 54 = .ok (.iload 7, 2) := by decide +kernel
theorem dX9_tells_56 : decode cX9_tells 56 = .ok (.goto 5, 3) := by decide +kernel
theorem dX9_tells_59 : decode cX9_tells 59 = .ok (.iload 6, 2) := by decide +kernel
theorem dX9_tells_61 : decode cX9_tells 61 = .ok (.istore 6, 2) := by decide +kernel
theorem dX9_tells_63 : decode cX9_tells 63 = .ok (.iinc 7 1, 3) := by decide +kernel
theorem dX9_tells_66 : decode cX9_tells 66 = .ok (.goto (-57), 3) := by decide +kernel
theorem dX9_tells_69 : decode cX9_tells 69 = .ok (.aload_n 0, 1) := by decide +kernel
theorem dX9_tells_70 : decode cX9_tells 70 = .ok (.getfield 83, 3) := by decide +kernel
theorem dX9_tells_73 : decode cX9_tells 73 = .ok (.iload 6, 2) := by decide +kernel
theorem dX9_tells_75 : decode cX9_tells 75 = .ok (.iload_n 1, 1) := by decide +kernel
theorem dX9_tells_76 : decode cX9_tells 76 = .ok (.iastore, 1) := by decide +kernel
theorem dX9_tells_77 : decode cX9_tells 77 = .ok (.aload_n 0, 1) := by decide +kernel
theorem dX9_tells_78 : decode cX9_tells 78 = .ok (.getfield 86, 3) := by decide +kernel
theorem dX9_tells_81 : decode cX9_tells 81 = .ok (.iload 6, 2) := by decide +kernel
theorem dX9_tells_83 : decode cX9_tells 83 = .ok (.iload_n 2, 1) := by decide +kernel
theorem dX9_tells_84 : decode cX9_tells 84 = .ok (.iastore, 1) := by decide +kernel
theorem dX9_tells_85 : decode cX9_tells 85 = .ok (.aload_n 0, 1) := by decide +kernel
theorem dX9_tells_86 : decode cX9_tells 86 = .ok (.getfield 89, 3) := by decide +kernel
theorem dX9_tells_89 : decode cX9_tells 89 = .ok (.iload 6, 2) := by decide +kernel
theorem dX9_tells_91 : decode cX9_tells 91 = .ok (.aload_n 0, 1) := by decide +kernel
theorem dX9_tells_92 : decode cX9_tells 92 = .ok (.getfield 187, 3) := by decide +kernel
theorem dX9_tells_95 : decode cX9_tells 95 = .ok (.iastore, 1) := by decide +kernel
theorem dX9_tells_96 : decode cX9_tells 96 = .ok (.aload_n 0, 1) := by decide +kernel
theorem dX9_tells_97 : decode cX9_tells 97 = .ok (.getfield 92, 3) := by decide +kernel
theorem dX9_tells_100 : decode cX9_tells 100 = .ok (.iload 6, 2) := by decide +kernel
theorem dX9_tells_102 : decode cX9_tells 102 = .ok (.iload_n 3, 1) := by decide +kernel
theorem dX9_tells_103 : decode cX9_tells 103 = .ok (.iastore, 1) := by decide +kernel
theorem dX9_tells_104 : decode cX9_tells 104 = .ok (.aload_n 0, 1) := by decide +kernel
theorem dX9_tells_105 : decode cX9_tells 105 = .ok (.getfield 95, 3) := by decide +kernel
theorem dX9_tells_108 : decode cX9_tells 108 = .ok (.iload 6, 2) := by decide +kernel
theorem dX9_tells_110 : decode cX9_tells 110 = .ok (.iload 4, 2) := by decide +kernel
theorem dX9_tells_112 : decode cX9_tells 112 = .ok (.iastore, 1) := by decide +kernel
theorem dX9_tells_113 : decode cX9_tells 113 = .ok (.aload_n 0, 1) := by decide +kernel
theorem dX9_tells_114 : decode cX9_tells 114 = .ok (.getfield 98, 3) := by decide +kernel
theorem dX9_tells_117 : decode cX9_tells 117 = .ok (.iload 6, 2) := by decide +kernel
theorem dX9_tells_119 : decode cX9_tells 119 = .ok (.iload 5, 2) := by decide +kernel
theorem dX9_tells_121 : decode cX9_tells 121 = .ok (.iastore, 1) := by decide +kernel
theorem dX9_tells_122 : decode cX9_tells 122 = .ok (.aload_n 0, 1) := by decide +kernel
theorem dX9_tells_123 : decode cX9_tells 123 = .ok (.dup, 1) := by decide +kernel
theorem dX9_tells_124 : decode cX9_tells 124 = .ok (.getfield 190, 3) := by decide +kernel
theorem dX9_tells_127 : decode cX9_tells 127 = .ok (.iload 6, 2) := by decide +kernel
theorem dX9_tells_129 : decode cX9_tells 129 = .ok (.aload_n 0, 1) := by decide +kernel
theorem dX9_tells_130 : decode cX9_tells 130 = .ok (.getfield 190, 3) := by decide +kernel
theorem dX9_tells_133 : decode cX9_tells 133 = .ok (.if_icmp .ne 7, 3) := by decide +kernel
theorem dX9_tells_136 : decode cX9_tells 136 = .ok (.iconst 1, 1) := by decide +kernel
theorem dX9_tells_137 : decode cX9_tells 137 = .ok (.goto 4, 3) := by decide +kernel
theorem dX9_tells_140 : decode cX9_tells 140 = .ok (.iconst 0, 1) := by decide +kernel
theorem dX9_tells_141 : decode cX9_tells 141 = .ok (.iadd, 1) := by decide +kernel
theorem dX9_tells_142 : decode cX9_tells 142 = .ok (.putfield 190, 3) := by decide +kernel
theorem dX9_tells_145 : decode cX9_tells 145 = .ok (.return_, 1) := by decide +kernel
theorem dX9_toldOn_0 : decode cX9_toldOn 0 = .ok (.iconst (-1), 1) := by decide +kernel
theorem dX9_toldOn_1 : decode cX9_toldOn 1 = .ok (.istore 4, 2) := by decide +kernel
theorem dX9_toldOn_3 : decode cX9_toldOn 3 = .ok (.iconst 0, 1) := by decide +kernel
theorem dX9_toldOn_4 : decode cX9_toldOn 4 = .ok (.istore 5, 2) := by decide +kernel
theorem dX9_toldOn_6 : decode cX9_toldOn 6 = .ok (.iload 5, 2) := by decide +kernel
theorem dX9_toldOn_8 : decode cX9_toldOn 8 = .ok (.aload_n 0, 1) := by decide +kernel
theorem dX9_toldOn_9 : decode cX9_toldOn 9 = .ok (.getfield 190, 3) := by decide +kernel
theorem dX9_toldOn_12 : decode cX9_toldOn 12 = .ok (.if_icmp .ge 51, 3) := by decide +kernel
theorem dX9_toldOn_15 : decode cX9_toldOn 15 = .ok (.aload_n 0, 1) := by decide +kernel
theorem dX9_toldOn_16 : decode cX9_toldOn 16 = .ok (.getfield 83, 3) := by decide +kernel
theorem dX9_toldOn_19 : decode cX9_toldOn 19 = .ok (.iload 5, 2) := by decide +kernel
theorem dX9_toldOn_21 : decode cX9_toldOn 21 = .ok (.iaload, 1) := by decide +kernel
theorem dX9_toldOn_22 : decode cX9_toldOn 22 = .ok (.iload_n 1, 1) := by decide +kernel
theorem dX9_toldOn_23 : decode cX9_toldOn 23 = .ok (.if_icmp .ne 30, 3) := by decide +kernel
theorem dX9_toldOn_26 : decode cX9_toldOn 26 = .ok (.aload_n 0, 1) := by decide +kernel
theorem dX9_toldOn_27 : decode cX9_toldOn 27 = .ok (.getfield 86, 3) := by decide +kernel
theorem dX9_toldOn_30 : decode cX9_toldOn 30 = .ok (.iload 5, 2) := by decide +kernel
theorem dX9_toldOn_32 : decode cX9_toldOn 32 = .ok (.iaload, 1) := by decide +kernel
theorem dX9_toldOn_33 : decode cX9_toldOn 33 = .ok (.iload_n 2, 1) := by decide +kernel
theorem dX9_toldOn_34 : decode cX9_toldOn 34 = .ok (.if_icmp .ne 19, 3) := by decide +kernel
theorem dX9_toldOn_37 : decode cX9_toldOn 37 = .ok (.aload_n 0, 1) := by decide +kernel
theorem dX9_toldOn_38 : decode cX9_toldOn 38 = .ok (.getfield 89, 3) := by decide +kernel
theorem dX9_toldOn_41 : decode cX9_toldOn 41 = .ok (.iload 5, 2) := by decide +kernel
theorem dX9_toldOn_43 : decode cX9_toldOn 43 = .ok (.iaload, 1) := by decide +kernel
theorem dX9_toldOn_44 : decode cX9_toldOn 44 = .ok (.iload_n 3, 1) := by decide +kernel
theorem dX9_toldOn_45 : decode cX9_toldOn 45 = .ok (.if_icmp .gt 8, 3) := by decide +kernel
theorem dX9_toldOn_48 : decode cX9_toldOn 48 = .ok (.iload 5, 2) := by decide +kernel
theorem dX9_toldOn_50 : decode cX9_toldOn 50 = .ok (.goto 5, 3) := by decide +kernel
theorem dX9_toldOn_53 : decode cX9_toldOn 53 = .ok (.iload 4, 2) := by decide +kernel
theorem dX9_toldOn_55 : decode cX9_toldOn 55 = .ok (.istore 4, 2) := by decide +kernel
theorem dX9_toldOn_57 : decode cX9_toldOn 57 = .ok (.iinc 5 1, 3) := by decide +kernel
theorem dX9_toldOn_60 : decode cX9_toldOn 60 = .ok (.goto (-54), 3) := by decide +kernel
theorem dX9_toldOn_63 : decode cX9_toldOn 63 = .ok (.iload 4, 2) := by decide +kernel
theorem dX9_toldOn_65 : decode cX9_toldOn 65 = .ok (.ireturn, 1) := by decide +kernel
theorem dX9_approve_0 : decode cX9_approve 0 = .ok (.aload_n 0, 1) := by decide +kernel
theorem dX9_approve_1 : decode cX9_approve 1 = .ok (.aload_n 0, 1) := by decide +kernel
theorem dX9_approve_2 : decode cX9_approve 2 = .ok (.iload_n 1, 1) := by decide +kernel
theorem dX9_approve_3 : decode cX9_approve 3 = .ok (.invokevirtual 193, 3) := by decide +kernel
theorem dX9_approve_6 : decode cX9_approve 6 = .ok (.iload_n 2, 1) := by decide +kernel
theorem dX9_approve_7 : decode cX9_approve 7 = .ok (.iconst 0, 1) := by decide +kernel
theorem dX9_approve_8 : decode cX9_approve 8 = .ok (.bipush 17, 2) := by decide +kernel
theorem dX9_approve_10 : decode cX9_approve 10 = .ok (.invokestatic 165, 3) := by decide +kernel
theorem dX9_approve_13 : decode cX9_approve 13 = .ok (.ifCond .eq 29, 3) := by decide +kernel
theorem dX9_approve_16 : decode cX9_approve 16 = .ok (.iload_n 3, 1) := by decide +kernel
theorem dX9_approve_17 : decode cX9_approve 17 = .ok (.iload_n 2, 1) := by decide +kernel
theorem dX9_approve_18 : decode cX9_approve 18 = .ok (.bipush 17, 2) := by decide +kernel
theorem dX9_approve_20 : decode cX9_approve 20 = .ok (.invokestatic 165, 3) := by decide +kernel
theorem dX9_approve_23 : decode cX9_approve 23 = .ok (.ifCond .eq 19, 3) := by decide +kernel
theorem dX9_approve_26 : decode cX9_approve 26 = .ok (.iload 4, 2) := by decide +kernel
theorem dX9_approve_28 : decode cX9_approve 28 = .ok (.iconst 0, 1) := by decide +kernel
theorem dX9_approve_29 : decode cX9_approve 29 = .ok (.sipush 20000, 3) := by decide +kernel
theorem dX9_approve_32 : decode cX9_approve 32 = .ok (.invokestatic 165, 3) := by decide +kernel
theorem dX9_approve_35 : decode cX9_approve 35 = .ok (.ifCond .eq 7, 3) := by decide +kernel
theorem dX9_approve_38 : decode cX9_approve 38 = .ok (.iconst 1, 1) := by decide +kernel
theorem dX9_approve_39 : decode cX9_approve 39 = .ok (.goto 4, 3) := by decide +kernel
theorem dX9_approve_42 : decode cX9_approve 42 = .ok (.iconst 0, 1) := by decide +kernel
theorem dX9_approve_43 : decode cX9_approve 43 = .ok (.iconst 1, 1) := by decide +kernel
theorem dX9_approve_44 : decode cX9_approve 44 = .ok (.invokevirtual 179, 3) := by decide +kernel
theorem dX9_approve_47 : decode cX9_approve 47 = .ok (.ifCond .eq 13, 3) := by decide +kernel
theorem dX9_approve_50 : decode cX9_approve 50 = .ok (.aload_n 0, 1) := by decide +kernel
theorem dX9_approve_51 : decode cX9_approve 51 = .ok (.iload_n 1, 1) := by decide +kernel
theorem dX9_approve_52 : decode cX9_approve 52 = .ok (.iconst 0, 1) := by decide +kernel
theorem dX9_approve_53 : decode cX9_approve 53 = .ok (.iload_n 2, 1) := by decide +kernel
theorem dX9_approve_54 : decode cX9_approve 54 = .ok (.iload_n 3, 1) := by decide +kernel
theorem dX9_approve_55 : decode cX9_approve 55 = .ok (.iload 4, 2) := by decide +kernel
theorem dX9_approve_57 : decode cX9_approve 57 = .ok (.invokevirtual 197, 3) := by decide +kernel
theorem dX9_approve_60 : decode cX9_approve 60 = .ok (.return_, 1) := by decide +kernel
theorem dX9_train_0 : decode cX9_train 0 = .ok (.aload_n 0, 1) := by decide +kernel
theorem dX9_train_1 : decode cX9_train 1 = .ok (.aload_n 0, 1) := by decide +kernel
theorem dX9_train_2 : decode cX9_train 2 = .ok (.iload_n 1, 1) := by decide +kernel
theorem dX9_train_3 : decode cX9_train 3 = .ok (.invokevirtual 193, 3) := by decide +kernel
theorem dX9_train_6 : decode cX9_train 6 = .ok (.iload_n 2, 1) := by decide +kernel
theorem dX9_train_7 : decode cX9_train 7 = .ok (.iconst 0, 1) := by decide +kernel
theorem dX9_train_8 : decode cX9_train 8 = .ok (.bipush 15, 2) := by decide +kernel
theorem dX9_train_10 : decode cX9_train 10 = .ok (.invokestatic 165, 3) := by decide +kernel
theorem dX9_train_13 : decode cX9_train 13 = .ok (.ifCond .eq 18, 3) := by decide +kernel
theorem dX9_train_16 : decode cX9_train 16 = .ok (.iload_n 3, 1) := by decide +kernel
theorem dX9_train_17 : decode cX9_train 17 = .ok (.iconst 0, 1) := by decide +kernel
theorem dX9_train_18 : decode cX9_train 18 = .ok (.sipush 20000, 3) := by decide +kernel
theorem dX9_train_21 : decode cX9_train 21 = .ok (.invokestatic 165, 3) := by decide +kernel
theorem dX9_train_24 : decode cX9_train 24 = .ok (.ifCond .eq 7, 3) := by decide +kernel
theorem dX9_train_27 : decode cX9_train 27 = .ok (.iconst 1, 1) := by decide +kernel
theorem dX9_train_28 : decode cX9_train 28 = .ok (.goto 4, 3) := by decide +kernel
theorem dX9_train_31 : decode cX9_train 31 = .ok (.iconst 0, 1) := by decide +kernel
theorem dX9_train_32 : decode cX9_train 32 = .ok (.iconst 1, 1) := by decide +kernel
theorem dX9_train_33 : decode cX9_train 33 = .ok (.invokevirtual 179, 3) := by decide +kernel
theorem dX9_train_36 : decode cX9_train 36 = .ok (.ifCond .eq 12, 3) := by decide +kernel
theorem dX9_train_39 : decode cX9_train 39 = .ok (.aload_n 0, 1) := by decide +kernel
theorem dX9_train_40 : decode cX9_train 40 = .ok (.iload_n 1, 1) := by decide +kernel
theorem dX9_train_41 : decode cX9_train 41 = .ok (.iconst 1, 1) := by decide +kernel
theorem dX9_train_42 : decode cX9_train 42 = .ok (.iload_n 2, 1) := by decide +kernel
theorem dX9_train_43 : decode cX9_train 43 = .ok (.iconst 0, 1) := by decide +kernel
theorem dX9_train_44 : decode cX9_train 44 = .ok (.iload_n 3, 1) := by decide +kernel
theorem dX9_train_45 : decode cX9_train 45 = .ok (.invokevirtual 197, 3) := by decide +kernel
theorem dX9_train_48 : decode cX9_train 48 = .ok (.return_, 1) := by decide +kernel
theorem dX9_rest_0 : decode cX9_rest 0 = .ok (.aload_n 0, 1) := by decide +kernel
theorem dX9_rest_1 : decode cX9_rest 1 = .ok (.aload_n 0, 1) := by decide +kernel
theorem dX9_rest_2 : decode cX9_rest 2 = .ok (.iload_n 1, 1) := by decide +kernel
theorem dX9_rest_3 : decode cX9_rest 3 = .ok (.invokevirtual 193, 3) := by decide +kernel
theorem dX9_rest_6 : decode cX9_rest 6 = .ok (.iload_n 2, 1) := by decide +kernel
theorem dX9_rest_7 : decode cX9_rest 7 = .ok (.aload_n 0, 1) := by decide +kernel
theorem dX9_rest_8 : decode cX9_rest 8 = .ok (.getfield 187, 3) := by decide +kernel
theorem dX9_rest_11 : decode cX9_rest 11 = .ok (.sipush 20000, 3) := by decide +kernel
theorem dX9_rest_14 : decode cX9_rest 14 = .ok (.invokestatic 165, 3) := by decide +kernel
theorem dX9_rest_17 : decode cX9_rest 17 = .ok (.ifCond .eq 18, 3) := by decide +kernel
theorem dX9_rest_20 : decode cX9_rest 20 = .ok (.iload_n 3, 1) := by decide +kernel
theorem dX9_rest_21 : decode cX9_rest 21 = .ok (.iload_n 2, 1) := by decide +kernel
theorem dX9_rest_22 : decode cX9_rest 22 = .ok (.sipush 20000, 3) := by decide +kernel
theorem dX9_rest_25 : decode cX9_rest 25 = .ok (.invokestatic 165, 3) := by decide +kernel
theorem dX9_rest_28 : decode cX9_rest 28 = .ok (.ifCond .eq 7, 3) := by decide +kernel
theorem dX9_rest_31 : decode cX9_rest 31 = .ok (.iconst 1, 1) := by decide +kernel
theorem dX9_rest_32 : decode cX9_rest 32 = .ok (.goto 4, 3) := by decide +kernel
theorem dX9_rest_35 : decode cX9_rest 35 = .ok (.iconst 0, 1) := by decide +kernel
theorem dX9_rest_36 : decode cX9_rest 36 = .ok (.iconst 1, 1) := by decide +kernel
theorem dX9_rest_37 : decode cX9_rest 37 = .ok (.invokevirtual 179, 3) := by decide +kernel
theorem dX9_rest_40 : decode cX9_rest 40 = .ok (.ifCond .eq 12, 3) := by decide +kernel
theorem dX9_rest_43 : decode cX9_rest 43 = .ok (.aload_n 0, 1) := by decide +kernel
theorem dX9_rest_44 : decode cX9_rest 44 = .ok (.iload_n 1, 1) := by decide +kernel
theorem dX9_rest_45 : decode cX9_rest 45 = .ok (.iconst 2, 1) := by decide +kernel
theorem dX9_rest_46 : decode cX9_rest 46 = .ok (.iload_n 2, 1) := by decide +kernel
theorem dX9_rest_47 : decode cX9_rest 47 = .ok (.iconst 0, 1) := by decide +kernel
theorem dX9_rest_48 : decode cX9_rest 48 = .ok (.iload_n 3, 1) := by decide +kernel
theorem dX9_rest_49 : decode cX9_rest 49 = .ok (.invokevirtual 197, 3) := by decide +kernel
theorem dX9_rest_52 : decode cX9_rest 52 = .ok (.return_, 1) := by decide +kernel
theorem dX9_isLate_0 : decode cX9_isLate 0 = .ok (.aload_n 0, 1) := by decide +kernel
theorem dX9_isLate_1 : decode cX9_isLate 1 = .ok (.getfield 110, 3) := by decide +kernel
theorem dX9_isLate_4 : decode cX9_isLate 4 = .ok (.iload_n 1, 1) := by decide +kernel
theorem dX9_isLate_5 : decode cX9_isLate 5 = .ok (.iaload, 1) := by decide +kernel
theorem dX9_isLate_6 : decode cX9_isLate 6 = .ok (.aload_n 0, 1) := by decide +kernel
theorem dX9_isLate_7 : decode cX9_isLate 7 = .ok (.getfield 187, 3) := by decide +kernel
theorem dX9_isLate_10 : decode cX9_isLate 10 = .ok (.bipush 30, 2) := by decide +kernel
theorem dX9_isLate_12 : decode cX9_isLate 12 = .ok (.isub, 1) := by decide +kernel
theorem dX9_isLate_13 : decode cX9_isLate 13 = .ok (.if_icmp .le 7, 3) := by decide +kernel
theorem dX9_isLate_16 : decode cX9_isLate 16 = .ok (.iconst 1, 1) := by decide +kernel
theorem dX9_isLate_17 : decode cX9_isLate 17 = .ok (.goto 4, 3) := by decide +kernel
theorem dX9_isLate_20 : decode cX9_isLate 20 = .ok (.iconst 0, 1) := by decide +kernel
theorem dX9_isLate_21 : decode cX9_isLate 21 = .ok (.ireturn, 1) := by decide +kernel
theorem dX9_isGreatest_0 : decode cX9_isGreatest 0 = .ok (.iconst 1, 1) := by decide +kernel
theorem dX9_isGreatest_1 : decode cX9_isGreatest 1 = .ok (.istore_n 3, 1) := by decide +kernel
theorem dX9_isGreatest_2 : decode cX9_isGreatest 2 = .ok (.bipush 30, 2) := by decide +kernel
theorem dX9_isGreatest_4 : decode cX9_isGreatest 4 = .ok (.iload_n 1, 1) := by decide +kernel
theorem dX9_isGreatest_5 : decode cX9_isGreatest 5 = .ok (.imul, 1) := by decide +kernel
theorem dX9_isGreatest_6 : decode cX9_isGreatest 6 = .ok (.istore 4, 2) := by decide +kernel
theorem dX9_isGreatest_8 : decode cX9_isGreatest 8 = .ok (.iload 4, 2) := by decide +kernel
theorem dX9_isGreatest_10 : decode cX9_isGreatest 10 = .ok (.bipush 30, 2) := by decide +kernel
theorem dX9_isGreatest_12 : decode cX9_isGreatest 12 = .ok (.iload_n 1, 1) := by decide +kernel
theorem dX9_isGreatest_13 : decode cX9_isGreatest 13 = .ok (.imul, 1) := by decide +kernel
theorem dX9_isGreatest_14 : decode cX9_isGreatest 14 = .ok (.aload_n 0, 1) := by decide +kernel
theorem dX9_isGreatest_15 : decode cX9_isGreatest 15 = .ok (.getfield 101, 3) := by decide +kernel
theorem dX9_isGreatest_18 : decode cX9_isGreatest 18 = .ok (.iload_n 1, 1) := by decide +kernel
theorem dX9_isGreatest_19 : decode cX9_isGreatest 19 = .ok (.iaload, 1) := by decide +kernel
theorem dX9_isGreatest_20 : decode cX9_isGreatest 20 = .ok (.iadd, 1) := by decide +kernel
theorem dX9_isGreatest_21 : decode cX9_isGreatest 21 = .ok (.if_icmp .ge 107, 3) := by decide +kernel
theorem dX9_isGreatest_24 : decode cX9_isGreatest 24 = .ok (.iload 4, 2) := by decide +kernel
theorem dX9_isGreatest_26 : decode cX9_isGreatest 26 = .ok (.iload_n 2, 1) := by decide +kernel
theorem dX9_isGreatest_27 : decode cX9_isGreatest 27 = .ok (.if_icmp .eq 39, 3) := by decide +kernel
theorem dX9_isGreatest_30 : decode cX9_isGreatest 30 = .ok (.aload_n 0, 1) := by decide +kernel
theorem dX9_isGreatest_31 : decode cX9_isGreatest 31 = .ok (.getfield 104, 3) := by decide +kernel
theorem dX9_isGreatest_34 : decode cX9_isGreatest 34 = .ok (.iload 4, 2) := by decide +kernel
theorem dX9_isGreatest_36 : decode cX9_isGreatest 36 = .ok (.iaload, 1) := by decide +kernel
theorem dX9_isGreatest_37 : decode cX9_isGreatest 37 = .ok (.aload_n 0, 1) := by decide +kernel
theorem dX9_isGreatest_38 : decode cX9_isGreatest 38 = .ok (.getfield 104, 3) := by decide +kernel
theorem dX9_isGreatest_41 : decode cX9_isGreatest 41 = .ok (.iload_n 2, 1) := by decide +kernel
theorem dX9_isGreatest_42 : decode cX9_isGreatest 42 = .ok (.iaload, 1) := by decide +kernel
theorem dX9_isGreatest_43 : decode cX9_isGreatest 43 = .ok (.if_icmp .ne 23, 3) := by decide +kernel
theorem dX9_isGreatest_46 : decode cX9_isGreatest 46 = .ok (.aload_n 0, 1) := by decide +kernel
theorem dX9_isGreatest_47 : decode cX9_isGreatest 47 = .ok (.getfield 110, 3) := by decide +kernel
theorem dX9_isGreatest_50 : decode cX9_isGreatest 50 = .ok (.iload 4, 2) := by decide +kernel
theorem dX9_isGreatest_52 : decode cX9_isGreatest 52 = .ok (.iaload, 1) := by decide +kernel
theorem dX9_isGreatest_53 : decode cX9_isGreatest 53 = .ok (.aload_n 0, 1) := by decide +kernel
theorem dX9_isGreatest_54 : decode cX9_isGreatest 54 = .ok (.getfield 110, 3) := by decide +kernel
theorem dX9_isGreatest_57 : decode cX9_isGreatest 57 = .ok (.iload_n 2, 1) := by decide +kernel
theorem dX9_isGreatest_58 : decode cX9_isGreatest 58 = .ok (.iaload, 1) := by decide +kernel
theorem dX9_isGreatest_59 : decode cX9_isGreatest 59 = .ok (.if_icmp .ne 7, 3) := by decide +kernel
theorem dX9_isGreatest_62 : decode cX9_isGreatest 62 = .ok (.iconst 1, 1) := by decide +kernel
theorem dX9_isGreatest_63 : decode cX9_isGreatest 63 = .ok (.goto 4, 3) := by decide +kernel
theorem dX9_isGreatest_66 : decode cX9_isGreatest 66 = .ok (.iconst 0, 1) := by decide +kernel
theorem dX9_isGreatest_67 : decode cX9_isGreatest 67 = .ok (.istore 5, 2) := by decide +kernel
theorem dX9_isGreatest_69 : decode cX9_isGreatest 69 = .ok (.iload_n 3, 1) := by decide +kernel
theorem dX9_isGreatest_70 : decode cX9_isGreatest 70 = .ok (.ifCond .eq 50, 3) := by decide +kernel
theorem dX9_isGreatest_73 : decode cX9_isGreatest 73 = .ok (.iload 5, 2) := by decide +kernel
theorem dX9_isGreatest_75 : decode cX9_isGreatest 75 = .ok (.ifCond .eq 41, 3) := by decide +kernel
theorem dX9_isGreatest_78 : decode cX9_isGreatest 78 = .ok (.aload_n 0, 1) := by decide +kernel
theorem dX9_isGreatest_79 : decode cX9_isGreatest 79 = .ok (.getfield 107, 3) := by decide +kernel
theorem dX9_isGreatest_82 : decode cX9_isGreatest 82 = .ok (.iload 4, 2) := by decide +kernel
theorem dX9_isGreatest_84 : decode cX9_isGreatest 84 = .ok (.iaload, 1) := by decide +kernel
theorem dX9_isGreatest_85 : decode cX9_isGreatest 85 = .ok (.aload_n 0, 1) := by decide +kernel
theorem dX9_isGreatest_86 : decode cX9_isGreatest 86 = .ok (.getfield 107, 3) := by decide +kernel
theorem dX9_isGreatest_89 : decode cX9_isGreatest 89 = .ok (.iload_n 2, 1) := by decide +kernel
theorem dX9_isGreatest_90 : decode cX9_isGreatest 90 = .ok (.iaload, 1) := by decide +kernel
theorem dX9_isGreatest_91 : decode cX9_isGreatest 91 = .ok (.if_icmp .lt 25, 3) := by decide +kernel
theorem dX9_isGreatest_94 : decode cX9_isGreatest 94 = .ok (.aload_n 0, 1) := by decide +kernel
theorem dX9_isGreatest_95 : decode cX9_isGreatest 95 = .ok (.getfield 107, 3) := by decide +kernel
theorem dX9_isGreatest_98 : decode cX9_isGreatest 98 = .ok (.iload 4, 2) := by decide +kernel
theorem dX9_isGreatest_100 : decode cX9_isGreatest 100 = .ok (.iaload, 1) := by decide +kernel
theorem dX9_isGreatest_101 : decode cX9_isGreatest 101 = .ok (.aload_n 0, 1) := by decide +kernel
theorem dX9_isGreatest_102 : decode cX9_isGreatest 102 = .ok (.getfield 107, 3) := by decide +kernel
theorem dX9_isGreatest_105 : decode cX9_isGreatest 105 = .ok (.iload_n 2, 1) := by decide +kernel
theorem dX9_isGreatest_106 : decode cX9_isGreatest 106 = .ok (.iaload, 1) := by decide +kernel
theorem dX9_isGreatest_107 : decode cX9_isGreatest 107 = .ok (.if_icmp .ne 13, 3) := by decide +kernel
theorem dX9_isGreatest_110 : decode cX9_isGreatest 110 = .ok (.iload 4, 2) := by decide +kernel
theorem dX9_isGreatest_112 : decode cX9_isGreatest 112 = .ok (.iload_n 2, 1) := by decide +kernel
theorem dX9_isGreatest_113 : decode cX9_isGreatest 113 = .ok (.if_icmp .le 7, 3) := by decide +kernel
theorem dX9_isGreatest_116 : decode cX9_isGreatest 116 = .ok (.iconst 1, 1) := by decide +kernel
theorem dX9_isGreatest_117 : decode cX9_isGreatest 117 = .ok (.goto 4, 3) := by decide +kernel
theorem dX9_isGreatest_120 : decode cX9_isGreatest 120 = .ok (.iconst 0, 1) := by decide +kernel
theorem dX9_isGreatest_121 : decode cX9_isGreatest 121 = .ok (.istore_n 3, 1) := by decide +kernel
theorem dX9_isGreatest_122 : decode cX9_isGreatest 122 = .ok (.iinc 4 1, 3) := by decide +kernel
theorem dX9_isGreatest_125 : decode cX9_isGreatest 125 = .ok (.goto (-117), 3) := by decide +kernel
theorem dX9_isGreatest_128 : decode cX9_isGreatest 128 = .ok (.iload_n 3, 1) := by decide +kernel
theorem dX9_isGreatest_129 : decode cX9_isGreatest 129 = .ok (.ireturn, 1) := by decide +kernel
theorem dX9_riskOf_0 : decode cX9_riskOf 0 = .ok (.iconst 0, 1) := by decide +kernel
theorem dX9_riskOf_1 : decode cX9_riskOf 1 = .ok (.istore_n 2, 1) := by decide +kernel
theorem dX9_riskOf_2 : decode cX9_riskOf 2 = .ok (.bipush 30, 2) := by decide +kernel
theorem dX9_riskOf_4 : decode cX9_riskOf 4 = .ok (.iload_n 1, 1) := by decide +kernel
theorem dX9_riskOf_5 : decode cX9_riskOf 5 = .ok (.imul, 1) := by decide +kernel
theorem dX9_riskOf_6 : decode cX9_riskOf 6 = .ok (.istore_n 3, 1) := by decide +kernel
theorem dX9_riskOf_7 : decode cX9_riskOf 7 = .ok (.iload_n 3, 1) := by decide +kernel
theorem dX9_riskOf_8 : decode cX9_riskOf 8 = .ok (.bipush 30, 2) := by decide +kernel
theorem dX9_riskOf_10 : decode cX9_riskOf 10 = .ok (.iload_n 1, 1) := by decide +kernel
theorem dX9_riskOf_11 : decode cX9_riskOf 11 = .ok (.imul, 1) := by decide +kernel
theorem dX9_riskOf_12 : decode cX9_riskOf 12 = .ok (.aload_n 0, 1) := by decide +kernel
theorem dX9_riskOf_13 : decode cX9_riskOf 13 = .ok (.getfield 101, 3) := by decide +kernel
theorem dX9_riskOf_16 : decode cX9_riskOf 16 = .ok (.iload_n 1, 1) := by decide +kernel
theorem dX9_riskOf_17 : decode cX9_riskOf 17 = .ok (.iaload, 1) := by decide +kernel
theorem dX9_riskOf_18 : decode cX9_riskOf 18 = .ok (.iadd, 1) := by decide +kernel
theorem dX9_riskOf_19 : decode cX9_riskOf 19 = .ok (.if_icmp .ge 39, 3) := by decide +kernel
theorem dX9_riskOf_22 : decode cX9_riskOf 22 = .ok (.iload_n 2, 1) := by decide +kernel
theorem dX9_riskOf_23 : decode cX9_riskOf 23 = .ok (.aload_n 0, 1) := by decide +kernel
theorem dX9_riskOf_24 : decode cX9_riskOf 24 = .ok (.iload_n 3, 1) := by decide +kernel
theorem dX9_riskOf_25 : decode cX9_riskOf 25 = .ok (.invokevirtual 201, 3) := by decide +kernel
theorem dX9_riskOf_28 : decode cX9_riskOf 28 = .ok (.ifCond .eq 21, 3) := by decide +kernel
theorem dX9_riskOf_31 : decode cX9_riskOf 31 = .ok (.aload_n 0, 1) := by decide +kernel
theorem dX9_riskOf_32 : decode cX9_riskOf 32 = .ok (.iload_n 1, 1) := by decide +kernel
theorem dX9_riskOf_33 : decode cX9_riskOf 33 = .ok (.iload_n 3, 1) := by decide +kernel
theorem dX9_riskOf_34 : decode cX9_riskOf 34 = .ok (.invokevirtual 204, 3) := by decide +kernel
theorem dX9_riskOf_37 : decode cX9_riskOf 37 = .ok (.ifCond .eq 12, 3) := by decide +kernel
theorem dX9_riskOf_40 : decode cX9_riskOf 40 = .ok (.aload_n 0, 1) := by decide +kernel
theorem dX9_riskOf_41 : decode cX9_riskOf 41 = .ok (.getfield 107, 3) := by decide +kernel
theorem dX9_riskOf_44 : decode cX9_riskOf 44 = .ok (.iload_n 3, 1) := by decide +kernel
theorem dX9_riskOf_45 : decode cX9_riskOf 45 = .ok (.iaload, 1) := by decide +kernel
theorem dX9_riskOf_46 : decode cX9_riskOf 46 = .ok (.goto 4, 3) := by decide +kernel
theorem dX9_riskOf_49 : decode cX9_riskOf 49 = .ok (.iconst 0, 1) := by decide +kernel
theorem dX9_riskOf_50 : decode cX9_riskOf 50 = .ok (.iadd, 1) := by decide +kernel
theorem dX9_riskOf_51 : decode cX9_riskOf 51 = .ok (.istore_n 2, 1) := by decide +kernel
theorem dX9_riskOf_52 : decode cX9_riskOf 52 = .ok (.iinc 3 1, 3) := by decide +kernel
theorem dX9_riskOf_55 : decode cX9_riskOf 55 = .ok (.goto (-48), 3) := by decide +kernel
theorem dX9_riskOf_58 : decode cX9_riskOf 58 = .ok (.iload_n 2, 1) := by decide +kernel
theorem dX9_riskOf_59 : decode cX9_riskOf 59 = .ok (.ireturn, 1) := by decide +kernel
theorem dX9_report_0 : decode cX9_report 0 = .ok (.aload_n 0, 1) := by decide +kernel
theorem dX9_report_1 : decode cX9_report 1 = .ok (.iload_n 1, 1) := by decide +kernel
theorem dX9_report_2 : decode cX9_report 2 = .ok (.invokevirtual 208, 3) := by decide +kernel
theorem dX9_report_5 : decode cX9_report 5 = .ok (.istore 4, 2) := by decide +kernel
theorem dX9_report_7 : decode cX9_report 7 = .ok (.aload_n 0, 1) := by decide +kernel
theorem dX9_report_8 : decode cX9_report 8 = .ok (.iload 4, 2) := by decide +kernel
theorem dX9_report_10 : decode cX9_report 10 = .ok (.iload_n 2, 1) := by decide +kernel
theorem dX9_report_11 : decode cX9_report 11 = .ok (.iconst 0, 1) := by decide +kernel
theorem dX9_report_12 : decode cX9_report 12 = .ok (.bipush 9, 2) := by decide +kernel
theorem dX9_report_14 : decode cX9_report 14 = .ok (.invokestatic 165, 3) := by decide +kernel
theorem dX9_report_17 : decode cX9_report 17 = .ok (.ifCond .eq 17, 3) := by decide +kernel
theorem dX9_report_20 : decode cX9_report 20 = .ok (.iload_n 3, 1) := by decide +kernel
theorem dX9_report_21 : decode cX9_report 21 = .ok (.iconst 1, 1) := by decide +kernel
theorem dX9_report_22 : decode cX9_report 22 = .ok (.bipush 9, 2) := by decide +kernel
theorem dX9_report_24 : decode cX9_report 24 = .ok (.invokestatic 165, 3) := by decide +kernel
theorem dX9_report_27 : decode cX9_report 27 = .ok (.ifCond .eq 7, 3) := by decide +kernel
theorem dX9_report_30 : decode cX9_report 30 = .ok (.iconst 1, 1) := by decide +kernel
theorem dX9_report_31 : decode cX9_report 31 = .ok (.goto 4, 3) := by decide +kernel
theorem dX9_report_34 : decode cX9_report 34 = .ok (.iconst 0, 1) := by decide +kernel
theorem dX9_report_35 : decode cX9_report 35 = .ok (.iload 4, 2) := by decide +kernel
theorem dX9_report_37 : decode cX9_report 37 = .ok (.ifCond .eq 27, 3) := by decide +kernel
theorem dX9_report_40 : decode cX9_report 40 = .ok (.aload_n 0, 1) := by decide +kernel
theorem dX9_report_41 : decode cX9_report 41 = .ok (.getfield 101, 3) := by decide +kernel
theorem dX9_report_44 : decode cX9_report 44 = .ok (.iload 4, 2) := by decide +kernel
theorem dX9_report_46 : decode cX9_report 46 = .ok (.ifCond .eq 7, 3) := by decide +kernel
theorem dX9_report_49 : decode cX9_report 49 = .ok (.iload_n 1, 1) := by decide +kernel
theorem dX9_report_50 : decode cX9_report 50 = .ok (.goto 4, 3) := by decide +kernel
theorem dX9_report_53 : decode cX9_report 53 = .ok (.iconst 0, 1) := by decide +kernel
theorem dX9_report_54 : decode cX9_report 54 = .ok (.iaload, 1) := by decide +kernel
theorem dX9_report_55 : decode cX9_report 55 = .ok (.bipush 30, 2) := by decide +kernel
theorem dX9_report_57 : decode cX9_report 57 = .ok (.if_icmp .ge 7, 3) := by decide +kernel
theorem dX9_report_60 : decode cX9_report 60 = .ok (.iconst 1, 1) := by decide +kernel
theorem dX9_report_61 : decode cX9_report 61 = .ok (.goto 4, 3) := by decide +kernel
theorem dX9_report_64 : decode cX9_report 64 = .ok (.iconst 0, 1) := by decide +kernel
theorem dX9_report_65 : decode cX9_report 65 = .ok (.invokevirtual 179, 3) := by decide +kernel
theorem dX9_report_68 : decode cX9_report 68 = .ok (.ifCond .ne 5, 3) := by decide +kernel
theorem dX9_report_71 : decode cX9_report 71 = .ok (.iconst 0, 1) := by decide +kernel
theorem dX9_report_72 : decode cX9_report 72 = .ok (.ireturn, 1) := by decide +kernel
theorem dX9_report_73 : decode cX9_report 73 = .ok (.bipush 30, 2) := by decide +kernel
theorem dX9_report_75 : decode cX9_report 75 = .ok (.iload_n 1, 1) := by decide +kernel
theorem dX9_report_76 : decode cX9_report 76 = .ok (.imul, 1) := by decide +kernel
theorem dX9_report_77 : decode cX9_report 77 = .ok (.aload_n 0, 1) := by decide +kernel
theorem dX9_report_78 : decode cX9_report 78 = .ok (.getfield 101, 3) := by decide +kernel
theorem dX9_report_81 : decode cX9_report 81 = .ok (.iload_n 1, 1) := by decide +kernel
theorem dX9_report_82 : decode cX9_report 82 = .ok (.iaload, 1) := by decide +kernel
theorem dX9_report_83 : decode cX9_report 83 = .ok (.iadd, 1) := by decide +kernel
theorem dX9_report_84 : decode cX9_report 84 = .ok (.istore 5, 2) := by decide +kernel
theorem dX9_report_86 : decode cX9_report 86 = .ok (.aload_n 0, 1) := by decide +kernel
theorem dX9_report_87 : decode cX9_report 87 = .ok (.getfield 104, 3) := by decide +kernel
theorem dX9_report_90 : decode cX9_report 90 = .ok (.iload 5, 2) := by decide +kernel
theorem dX9_report_92 : decode cX9_report 92 = .ok (.iload_n 2, 1) := by decide +kernel
theorem dX9_report_93 : decode cX9_report 93 = .ok (.iastore, 1) := by decide +kernel
theorem dX9_report_94 : decode cX9_report 94 = .ok (.aload_n 0, 1) := by decide +kernel
theorem dX9_report_95 : decode cX9_report 95 = .ok (.getfield 107, 3) := by decide +kernel
theorem dX9_report_98 : decode cX9_report 98 = .ok (.iload 5, 2) := by decide +kernel
theorem dX9_report_100 : decode cX9_report 100 = .ok (.iload_n 3, 1) := by decide +kernel
theorem dX9_report_101 : decode cX9_report 101 = .ok (.iastore, 1) := by decide +kernel
theorem dX9_report_102 : decode cX9_report 102 = .ok (.aload_n 0, 1) := by decide +kernel
theorem dX9_report_103 : decode cX9_report 103 = .ok (.getfield 110, 3) := by decide +kernel
theorem dX9_report_106 : decode cX9_report 106 = .ok (.iload 5, 2) := by decide +kernel
theorem dX9_report_108 : decode cX9_report 108 = .ok (.aload_n 0, 1) := by decide +kernel
theorem dX9_report_109 : decode cX9_report 109 = .ok (.getfield 187, 3) := by decide +kernel
theorem dX9_report_112 : decode cX9_report 112 = .ok (.iastore, 1) := by decide +kernel
theorem dX9_report_113 : decode cX9_report 113 = .ok (.aload_n 0, 1) := by decide +kernel
theorem dX9_report_114 : decode cX9_report 114 = .ok (.getfield 101, 3) := by decide +kernel
theorem dX9_report_117 : decode cX9_report 117 = .ok (.iload_n 1, 1) := by decide +kernel
theorem dX9_report_118 : decode cX9_report 118 = .ok (.dup2, 1) := by decide +kernel
theorem dX9_report_119 : decode cX9_report 119 = .ok (.iaload, 1) := by decide +kernel
theorem dX9_report_120 : decode cX9_report 120 = .ok (.iconst 1, 1) := by decide +kernel
theorem dX9_report_121 : decode cX9_report 121 = .ok (.iadd, 1) := by decide +kernel
theorem dX9_report_122 : decode cX9_report 122 = .ok (.iastore, 1) := by decide +kernel
theorem dX9_report_123 : decode cX9_report 123 = .ok (.aload_n 0, 1) := by decide +kernel
theorem dX9_report_124 : decode cX9_report 124 = .ok (.iload_n 1, 1) := by decide +kernel
theorem dX9_report_125 : decode cX9_report 125 = .ok (.invokevirtual 211, 3) := by decide +kernel
theorem dX9_report_128 : decode cX9_report 128 = .ok (.ireturn, 1) := by decide +kernel
theorem dX9_seenBy_0 : decode cX9_seenBy 0 = .ok (.aload_n 0, 1) := by decide +kernel
theorem dX9_seenBy_1 : decode cX9_seenBy 1 = .ok (.iload_n 1, 1) := by decide +kernel
theorem dX9_seenBy_2 : decode cX9_seenBy 2 = .ok (.invokevirtual 211, 3) := by decide +kernel
theorem dX9_seenBy_5 : decode cX9_seenBy 5 = .ok (.istore_n 2, 1) := by decide +kernel
theorem dX9_seenBy_6 : decode cX9_seenBy 6 = .ok (.iconst (-1), 1) := by decide +kernel
theorem dX9_seenBy_7 : decode cX9_seenBy 7 = .ok (.istore_n 3, 1) := by decide +kernel
theorem dX9_seenBy_8 : decode cX9_seenBy 8 = .ok (.bipush 30, 2) := by decide +kernel
theorem dX9_seenBy_10 : decode cX9_seenBy 10 = .ok (.iload_n 1, 1) := by decide +kernel
theorem dX9_seenBy_11 : decode cX9_seenBy 11 = .ok (.imul, 1) := by decide +kernel
theorem dX9_seenBy_12 : decode cX9_seenBy 12 = .ok (.aload_n 0, 1) := by decide +kernel
theorem dX9_seenBy_13 : decode cX9_seenBy 13 = .ok (.getfield 101, 3) := by decide +kernel
theorem dX9_seenBy_16 : decode cX9_seenBy 16 = .ok (.iload_n 1, 1) := by decide +kernel
theorem dX9_seenBy_17 : decode cX9_seenBy 17 = .ok (.iaload, 1) := by decide +kernel
theorem dX9_seenBy_18 : decode cX9_seenBy 18 = .ok (.iadd, 1) := by decide +kernel
theorem dX9_seenBy_19 : decode cX9_seenBy 19 = .ok (.iconst 1, 1) := by decide +kernel
theorem dX9_seenBy_20 : decode cX9_seenBy 20 = .ok (.isub, 1) := by decide +kernel
theorem dX9_seenBy_21 : decode cX9_seenBy 21 = .ok (.istore 4, 2) := by decide +kernel
theorem dX9_seenBy_23 : decode cX9_seenBy 23 = .ok (.iload 4, 2) := by decide +kernel
theorem dX9_seenBy_25 : decode cX9_seenBy 25 = .ok (.bipush 30, 2) := by decide +kernel
theorem dX9_seenBy_27 : decode cX9_seenBy 27 = .ok (.iload_n 1, 1) := by decide +kernel
theorem dX9_seenBy_28 : decode cX9_seenBy 28 = .ok (.imul, 1) := by decide +kernel
theorem dX9_seenBy_29 : decode cX9_seenBy 29 = .ok (.if_icmp .lt 46, 3) := by decide +kernel
theorem dX9_seenBy_32 : decode cX9_seenBy 32 = .ok (.aload_n 0, 1) := by decide +kernel
theorem dX9_seenBy_33 : decode cX9_seenBy 33 = .ok (.iload 4, 2) := by decide +kernel
theorem dX9_seenBy_35 : decode cX9_seenBy 35 = .ok (.invokevirtual 201, 3) := by decide +kernel
theorem dX9_seenBy_38 : decode cX9_seenBy 38 = .ok (.ifCond .eq 29, 3) := by decide +kernel
theorem dX9_seenBy_41 : decode cX9_seenBy 41 = .ok (.aload_n 0, 1) := by decide +kernel
theorem dX9_seenBy_42 : decode cX9_seenBy 42 = .ok (.getfield 110, 3) := by decide +kernel
theorem dX9_seenBy_45 : decode cX9_seenBy 45 = .ok (.iload 4, 2) := by decide +kernel
theorem dX9_seenBy_47 : decode cX9_seenBy 47 = .ok (.iaload, 1) := by decide +kernel
theorem dX9_seenBy_48 : decode cX9_seenBy 48 = .ok (.aload_n 0, 1) := by decide +kernel
theorem dX9_seenBy_49 : decode cX9_seenBy 49 = .ok (.getfield 31, 3) := by decide +kernel
theorem dX9_seenBy_52 : decode cX9_seenBy 52 = .ok (.iload_n 1, 1) := by decide +kernel
theorem dX9_seenBy_53 : decode cX9_seenBy 53 = .ok (.iaload, 1) := by decide +kernel
theorem dX9_seenBy_54 : decode cX9_seenBy 54 = .ok (.if_icmp .le 13, 3) := by decide +kernel
theorem dX9_seenBy_57 : decode cX9_seenBy 57 = .ok (.aload_n 0, 1) := by decide +kernel
theorem dX9_seenBy_58 : decode cX9_seenBy 58 = .ok (.getfield 110, 3) := by decide +kernel
theorem dX9_seenBy_61 : decode cX9_seenBy 61 = .ok (.iload 4, 2) := by decide +kernel
theorem dX9_seenBy_63 : decode cX9_seenBy 63 = .ok (.iaload, 1) := by decide +kernel
theorem dX9_seenBy_64 : decode cX9_seenBy 64 = .ok (.goto 4, 3) := by decide +kernel
theorem dX9_seenBy_67 : decode cX9_seenBy 67 = .ok (.iload_n 3, 1) := by decide +kernel
theorem dX9_seenBy_68 : decode cX9_seenBy 68 = .ok (.istore_n 3, 1) := by decide +kernel
theorem dX9_seenBy_69 : decode cX9_seenBy 69 = .ok (.iinc 4 (-1), 3) := by decide +kernel
theorem dX9_seenBy_72 : decode cX9_seenBy 72 = .ok (.goto (-49), 3) := by decide +kernel
theorem dX9_seenBy_75 : decode cX9_seenBy 75 = .ok (.iload_n 3, 1) := by decide +kernel
theorem dX9_seenBy_76 : decode cX9_seenBy 76 = .ok (.iconst (-1), 1) := by decide +kernel
theorem dX9_seenBy_77 : decode cX9_seenBy 77 = .ok (.if_icmp .ne 7, 3) := by decide +kernel
theorem dX9_seenBy_80 : decode cX9_seenBy 80 = .ok (.iconst (-1), 1) := by decide +kernel
theorem dX9_seenBy_81 : decode cX9_seenBy 81 = .ok (.goto 27, 3) := by decide +kernel
theorem dX9_seenBy_84 : decode cX9_seenBy 84 = .ok (.iload_n 3, 1) := by decide +kernel
theorem dX9_seenBy_85 : decode cX9_seenBy 85 = .ok (.iload_n 2, 1) := by decide +kernel
theorem dX9_seenBy_86 : decode cX9_seenBy 86 = .ok (.bipush 12, 2) := by decide +kernel
theorem dX9_seenBy_88 : decode cX9_seenBy 88 = .ok (.if_icmp .lt 7, 3) := by decide +kernel
theorem dX9_seenBy_91 : decode cX9_seenBy 91 = .ok (.iconst 1, 1) := by decide +kernel
theorem dX9_seenBy_92 : decode cX9_seenBy 92 = .ok (.goto 15, 3) := by decide +kernel
theorem dX9_seenBy_95 : decode cX9_seenBy 95 = .ok (.iload_n 2, 1) := by decide +kernel
theorem dX9_seenBy_96 : decode cX9_seenBy 96 = .ok (.bipush 6, 2) := by decide +kernel
theorem dX9_seenBy_98 : decode cX9_seenBy 98 = .ok (.if_icmp .lt 7, 3) := by decide +kernel
theorem dX9_seenBy_101 : decode cX9_seenBy 101 = .ok (.iconst 5, 1) := by decide +kernel
theorem dX9_seenBy_102 : decode cX9_seenBy 102 = .ok (.goto 5, 3) := by decide +kernel
theorem dX9_seenBy_105 : decode cX9_seenBy 105 = .ok (.bipush 20, 2) := by decide +kernel
theorem dX9_seenBy_107 : decode cX9_seenBy 107 = .ok (.iadd, 1) := by decide +kernel
theorem dX9_seenBy_108 : decode cX9_seenBy 108 = .ok (.ireturn, 1) := by decide +kernel
theorem dX9_see_0 : decode cX9_see 0 = .ok (.aload_n 0, 1) := by decide +kernel
theorem dX9_see_1 : decode cX9_see 1 = .ok (.aload_n 0, 1) := by decide +kernel
theorem dX9_see_2 : decode cX9_see 2 = .ok (.iload_n 1, 1) := by decide +kernel
theorem dX9_see_3 : decode cX9_see 3 = .ok (.invokevirtual 208, 3) := by decide +kernel
theorem dX9_see_6 : decode cX9_see 6 = .ok (.iconst 1, 1) := by decide +kernel
theorem dX9_see_7 : decode cX9_see 7 = .ok (.iconst 1, 1) := by decide +kernel
theorem dX9_see_8 : decode cX9_see 8 = .ok (.invokevirtual 179, 3) := by decide +kernel
theorem dX9_see_11 : decode cX9_see 11 = .ok (.ifCond .ne 5, 3) := by decide +kernel
theorem dX9_see_14 : decode cX9_see 14 = .ok (.iconst 0, 1) := by decide +kernel
theorem dX9_see_15 : decode cX9_see 15 = .ok (.ireturn, 1) := by decide +kernel
theorem dX9_see_16 : decode cX9_see 16 = .ok (.aload_n 0, 1) := by decide +kernel
theorem dX9_see_17 : decode cX9_see 17 = .ok (.iload_n 1, 1) := by decide +kernel
theorem dX9_see_18 : decode cX9_see 18 = .ok (.invokevirtual 214, 3) := by decide +kernel
theorem dX9_see_21 : decode cX9_see 21 = .ok (.iconst (-1), 1) := by decide +kernel
theorem dX9_see_22 : decode cX9_see 22 = .ok (.if_icmp .eq 19, 3) := by decide +kernel
theorem dX9_see_25 : decode cX9_see 25 = .ok (.aload_n 0, 1) := by decide +kernel
theorem dX9_see_26 : decode cX9_see 26 = .ok (.getfield 187, 3) := by decide +kernel
theorem dX9_see_29 : decode cX9_see 29 = .ok (.aload_n 0, 1) := by decide +kernel
theorem dX9_see_30 : decode cX9_see 30 = .ok (.iload_n 1, 1) := by decide +kernel
theorem dX9_see_31 : decode cX9_see 31 = .ok (.invokevirtual 214, 3) := by decide +kernel
theorem dX9_see_34 : decode cX9_see 34 = .ok (.if_icmp .le 7, 3) := by decide +kernel
theorem dX9_see_37 : decode cX9_see 37 = .ok (.iconst 1, 1) := by decide +kernel
theorem dX9_see_38 : decode cX9_see 38 = .ok (.goto 4, 3) := by decide +kernel
theorem dX9_see_41 : decode cX9_see 41 = .ok (.iconst 0, 1) := by decide +kernel
theorem dX9_see_42 : decode cX9_see 42 = .ok (.istore_n 2, 1) := by decide +kernel
theorem dX9_see_43 : decode cX9_see 43 = .ok (.aload_n 0, 1) := by decide +kernel
theorem dX9_see_44 : decode cX9_see 44 = .ok (.getfield 31, 3) := by decide +kernel
theorem dX9_see_47 : decode cX9_see 47 = .ok (.iload_n 1, 1) := by decide +kernel
theorem dX9_see_48 : decode cX9_see 48 = .ok (.aload_n 0, 1) := by decide +kernel
theorem dX9_see_49 : decode cX9_see 49 = .ok (.getfield 187, 3) := by decide +kernel
theorem dX9_see_52 : decode cX9_see 52 = .ok (.iastore, 1) := by decide +kernel
theorem dX9_see_53 : decode cX9_see 53 = .ok (.iload_n 2, 1) := by decide +kernel
theorem dX9_see_54 : decode cX9_see 54 = .ok (.ireturn, 1) := by decide +kernel
theorem dX9_risk_0 : decode cX9_risk 0 = .ok (.aload_n 0, 1) := by decide +kernel
theorem dX9_risk_1 : decode cX9_risk 1 = .ok (.aload_n 0, 1) := by decide +kernel
theorem dX9_risk_2 : decode cX9_risk 2 = .ok (.iload_n 1, 1) := by decide +kernel
theorem dX9_risk_3 : decode cX9_risk 3 = .ok (.invokevirtual 208, 3) := by decide +kernel
theorem dX9_risk_6 : decode cX9_risk 6 = .ok (.iconst 1, 1) := by decide +kernel
theorem dX9_risk_7 : decode cX9_risk 7 = .ok (.iconst 1, 1) := by decide +kernel
theorem dX9_risk_8 : decode cX9_risk 8 = .ok (.invokevirtual 179, 3) := by decide +kernel
theorem dX9_risk_11 : decode cX9_risk 11 = .ok (.ifCond .eq 11, 3) := by decide +kernel
theorem dX9_risk_14 : decode cX9_risk 14 = .ok (.aload_n 0, 1) := by decide +kernel
theorem dX9_risk_15 : decode cX9_risk 15 = .ok (.iload_n 1, 1) := by decide +kernel
theorem dX9_risk_16 : decode cX9_risk 16 = .ok (.invokevirtual 211, 3) := by decide +kernel
theorem dX9_risk_19 : decode cX9_risk 19 = .ok (.goto 4, 3) := by decide +kernel
theorem dX9_risk_22 : decode cX9_risk 22 = .ok (.iconst 0, 1) := by decide +kernel
theorem dX9_risk_23 : decode cX9_risk 23 = .ok (.ireturn, 1) := by decide +kernel
theorem dX9_seeBy_0 : decode cX9_seeBy 0 = .ok (.aload_n 0, 1) := by decide +kernel
theorem dX9_seeBy_1 : decode cX9_seeBy 1 = .ok (.aload_n 0, 1) := by decide +kernel
theorem dX9_seeBy_2 : decode cX9_seeBy 2 = .ok (.iload_n 1, 1) := by decide +kernel
theorem dX9_seeBy_3 : decode cX9_seeBy 3 = .ok (.invokevirtual 208, 3) := by decide +kernel
theorem dX9_seeBy_6 : decode cX9_seeBy 6 = .ok (.iconst 1, 1) := by decide +kernel
theorem dX9_seeBy_7 : decode cX9_seeBy 7 = .ok (.iconst 1, 1) := by decide +kernel
theorem dX9_seeBy_8 : decode cX9_seeBy 8 = .ok (.invokevirtual 179, 3) := by decide +kernel
theorem dX9_seeBy_11 : decode cX9_seeBy 11 = .ok (.ifCond .eq 11, 3) := by decide +kernel
theorem dX9_seeBy_14 : decode cX9_seeBy 14 = .ok (.aload_n 0, 1) := by decide +kernel
theorem dX9_seeBy_15 : decode cX9_seeBy 15 = .ok (.iload_n 1, 1) := by decide +kernel
theorem dX9_seeBy_16 : decode cX9_seeBy 16 = .ok (.invokevirtual 214, 3) := by decide +kernel
theorem dX9_seeBy_19 : decode cX9_seeBy 19 = .ok (.goto 4, 3) := by decide +kernel
theorem dX9_seeBy_22 : decode cX9_seeBy 22 = .ok (.iconst 0, 1) := by decide +kernel
theorem dX9_seeBy_23 : decode cX9_seeBy 23 = .ok (.ireturn, 1) := by decide +kernel
theorem dX9_order_0 : decode cX9_order 0 = .ok (.aload_n 0, 1) := by decide +kernel
theorem dX9_order_1 : decode cX9_order 1 = .ok (.aload_n 0, 1) := by decide +kernel
theorem dX9_order_2 : decode cX9_order 2 = .ok (.iload_n 1, 1) := by decide +kernel
theorem dX9_order_3 : decode cX9_order 3 = .ok (.invokevirtual 208, 3) := by decide +kernel
theorem dX9_order_6 : decode cX9_order 6 = .ok (.iload_n 2, 1) := by decide +kernel
theorem dX9_order_7 : decode cX9_order 7 = .ok (.iconst 0, 1) := by decide +kernel
theorem dX9_order_8 : decode cX9_order 8 = .ok (.iconst 2, 1) := by decide +kernel
theorem dX9_order_9 : decode cX9_order 9 = .ok (.invokestatic 165, 3) := by decide +kernel
theorem dX9_order_12 : decode cX9_order 12 = .ok (.ifCond .eq 33, 3) := by decide +kernel
theorem dX9_order_15 : decode cX9_order 15 = .ok (.iload_n 3, 1) := by decide +kernel
theorem dX9_order_16 : decode cX9_order 16 = .ok (.aload_n 0, 1) := by decide +kernel
theorem dX9_order_17 : decode cX9_order 17 = .ok (.getfield 187, 3) := by decide +kernel
theorem dX9_order_20 : decode cX9_order 20 = .ok (.sipush 20000, 3) := by decide +kernel
theorem dX9_order_23 : decode cX9_order 23 = .ok (.invokestatic 165, 3) := by decide +kernel
theorem dX9_order_26 : decode cX9_order 26 = .ok (.ifCond .eq 19, 3) := by decide +kernel
theorem dX9_order_29 : decode cX9_order 29 = .ok (.iload 4, 2) := by decide +kernel
theorem dX9_order_31 : decode cX9_order 31 = .ok (.iconst 1, 1) := by decide +kernel
theorem dX9_order_32 : decode cX9_order 32 = .ok (.sipush 7000, 3) := by decide +kernel
theorem dX9_order_35 : decode cX9_order 35 = .ok (.invokestatic 165, 3) := by decide +kernel
theorem dX9_order_38 : decode cX9_order 38 = .ok (.ifCond .eq 7, 3) := by decide +kernel
theorem dX9_order_41 : decode cX9_order 41 = .ok (.iconst 1, 1) := by decide +kernel
theorem dX9_order_42 : decode cX9_order 42 = .ok (.goto 4, 3) := by decide +kernel
theorem dX9_order_45 : decode cX9_order 45 = .ok (.iconst 0, 1) := by decide +kernel
theorem dX9_order_46 : decode cX9_order 46 = .ok (.aload_n 0, 1) := by decide +kernel
theorem dX9_order_47 : decode cX9_order 47 = .ok (.getfield 217, 3) := by decide +kernel
theorem dX9_order_50 : decode cX9_order 50 = .ok (.bipush 60, 2) := by decide +kernel
theorem dX9_order_52 : decode cX9_order 52 = .ok (.if_icmp .ge 7, 3) := by decide +kernel
theorem dX9_order_55 : decode cX9_order 55 = .ok (.iconst 1, 1) := by decide +kernel
theorem dX9_order_56 : decode cX9_order 56 = .ok (.goto 4, 3) := by decide +kernel
theorem dX9_order_59 : decode cX9_order 59 = .ok (.iconst 0, 1) := by decide +kernel
theorem dX9_order_60 : decode cX9_order 60 = .ok (.invokevirtual 179, 3) := by decide +kernel
theorem dX9_order_63 : decode cX9_order 63 = .ok (.ifCond .ne 5, 3) := by decide +kernel
theorem dX9_order_66 : decode cX9_order 66 = .ok (.iconst 0, 1) := by decide +kernel
theorem dX9_order_67 : decode cX9_order 67 = .ok (.ireturn, 1) := by decide +kernel
theorem dX9_order_68 : decode cX9_order 68 = .ok (.aload_n 0, 1) := by decide +kernel
theorem dX9_order_69 : decode cX9_order 69 = .ok (.getfield 113, 3) := by decide +kernel
theorem dX9_order_72 : decode cX9_order 72 = .ok (.aload_n 0, 1) := by decide +kernel
theorem dX9_order_73 : decode cX9_order 73 = .ok (.getfield 217, 3) := by decide +kernel
theorem dX9_order_76 : decode cX9_order 76 = .ok (.iload_n 1, 1) := by decide +kernel
theorem dX9_order_77 : decode cX9_order 77 = .ok (.iastore, 1) := by decide +kernel
theorem dX9_order_78 : decode cX9_order 78 = .ok (.aload_n 0, 1) := by decide +kernel
theorem dX9_order_79 : decode cX9_order 79 = .ok (.getfield 116, 3) := by decide +kernel
theorem dX9_order_82 : decode cX9_order 82 = .ok (.aload_n 0, 1) := by decide +kernel
theorem dX9_order_83 : decode cX9_order 83 = .ok (.getfield 217, 3) := by decide +kernel
theorem dX9_order_86 : decode cX9_order 86 = .ok (.iload_n 2, 1) := by decide +kernel
theorem dX9_order_87 : decode cX9_order 87 = .ok (.iastore, 1) := by decide +kernel
theorem dX9_order_88 : decode cX9_order 88 = .ok (.aload_n 0, 1) := by decide +kernel
theorem dX9_order_89 : decode cX9_order 89 = .ok (.getfield 119, 3) := by decide +kernel
theorem dX9_order_92 : decode cX9_order 92 = .ok (.aload_n 0, 1) := by decide +kernel
theorem dX9_order_93 : decode cX9_order 93 = .ok (.getfield 217, 3) := by decide +kernel
theorem dX9_order_96 : decode cX9_order 96 = .ok (.iload_n 3, 1) := by decide +kernel
theorem dX9_order_97 : decode cX9_order 97 = .ok (.iastore, 1) := by decide +kernel
theorem dX9_order_98 : decode cX9_order 98 = .ok (.aload_n 0, 1) := by decide +kernel
theorem dX9_order_99 : decode cX9_order 99 = .ok (.getfield 122, 3) := by decide +kernel
theorem dX9_order_102 : decode cX9_order 102 = .ok (.aload_n 0, 1) := by decide +kernel
theorem dX9_order_103 : decode cX9_order 103 = .ok (.getfield 217, 3) := by decide +kernel
theorem dX9_order_106 : decode cX9_order 106 = .ok (.iload_n 3, 1) := by decide +kernel
theorem dX9_order_107 : decode cX9_order 107 = .ok (.iload 4, 2) := by decide +kernel
theorem dX9_order_109 : decode cX9_order 109 = .ok (.iadd, 1) := by decide +kernel
theorem dX9_order_110 : decode cX9_order 110 = .ok (.iconst 1, 1) := by decide +kernel
theorem dX9_order_111 : decode cX9_order 111 = .ok (.isub, 1) := by decide +kernel
theorem dX9_order_112 : decode cX9_order 112 = .ok (.iastore, 1) := by decide +kernel
theorem dX9_order_113 : decode cX9_order 113 = .ok (.aload_n 0, 1) := by decide +kernel
theorem dX9_order_114 : decode cX9_order 114 = .ok (.dup, 1) := by decide +kernel
theorem dX9_order_115 : decode cX9_order 115 = .ok (.getfield 217, 3) := by decide +kernel
theorem dX9_order_118 : decode cX9_order 118 = .ok (.iconst 1, 1) := by decide +kernel
theorem dX9_order_119 : decode cX9_order 119 = .ok (.iadd, 1) := by decide +kernel
theorem dX9_order_120 : decode cX9_order 120 = .ok (.putfield 217, 3) := by decide +kernel
theorem dX9_order_123 : decode cX9_order 123 = .ok (.aload_n 0, 1) := by decide +kernel
theorem dX9_order_124 : decode cX9_order 124 = .ok (.getfield 217, 3) := by decide +kernel
theorem dX9_order_127 : decode cX9_order 127 = .ok (.iconst 1, 1) := by decide +kernel
theorem dX9_order_128 : decode cX9_order 128 = .ok (.isub, 1) := by decide +kernel
theorem dX9_order_129 : decode cX9_order 129 = .ok (.ireturn, 1) := by decide +kernel
theorem dX9_countsOn_0 : decode cX9_countsOn 0 = .ok (.iconst (-1), 1) := by decide +kernel
theorem dX9_countsOn_1 : decode cX9_countsOn 1 = .ok (.istore_n 3, 1) := by decide +kernel
theorem dX9_countsOn_2 : decode cX9_countsOn 2 = .ok (.iconst 0, 1) := by decide +kernel
theorem dX9_countsOn_3 : decode cX9_countsOn 3 = .ok (.istore 4, 2) := by decide +kernel
theorem dX9_countsOn_5 : decode cX9_countsOn 5 = .ok (.iload 4, 2) := by decide +kernel
theorem dX9_countsOn_7 : decode cX9_countsOn 7 = .ok (.aload_n 0, 1) := by decide +kernel
theorem dX9_countsOn_8 : decode cX9_countsOn 8 = .ok (.getfield 217, 3) := by decide +kernel
theorem dX9_countsOn_11 : decode cX9_countsOn 11 = .ok (.if_icmp .ge 48, 3) := by decide +kernel
theorem dX9_countsOn_14 : decode cX9_countsOn 14 = .ok (.aload_n 0, 1) := by decide +kernel
theorem dX9_countsOn_15 : decode cX9_countsOn 15 = .ok (.getfield 113, 3) := by decide +kernel
theorem dX9_countsOn_18 : decode cX9_countsOn 18 = .ok (.iload 4, 2) := by decide +kernel
theorem dX9_countsOn_20 : decode cX9_countsOn 20 = .ok (.iaload, 1) := by decide +kernel
theorem dX9_countsOn_21 : decode cX9_countsOn 21 = .ok (.iload_n 1, 1) := by decide +kernel
theorem dX9_countsOn_22 : decode cX9_countsOn 22 = .ok (.if_icmp .ne 29, 3) := by decide +kernel
theorem dX9_countsOn_25 : decode cX9_countsOn 25 = .ok (.iload_n 2, 1) := by decide +kernel
theorem dX9_countsOn_26 : decode cX9_countsOn 26 = .ok (.aload_n 0, 1) := by decide +kernel
theorem dX9_countsOn_27 : decode cX9_countsOn 27 = .ok (.getfield 119, 3) := by decide +kernel
theorem dX9_countsOn_30 : decode cX9_countsOn 30 = .ok (.iload 4, 2) := by decide +kernel
theorem dX9_countsOn_32 : decode cX9_countsOn 32 = .ok (.iaload, 1) := by decide +kernel
theorem dX9_countsOn_33 : decode cX9_countsOn 33 = .ok (.aload_n 0, 1) := by decide +kernel
theorem dX9_countsOn_34 : decode cX9_countsOn 34 = .ok (.getfield 122, 3) := by decide +kernel
theorem dX9_countsOn_37 : decode cX9_countsOn 37 = .ok (.iload 4, 2) := by decide +kernel
theorem dX9_countsOn_39 : decode cX9_countsOn 39 = .ok (.iaload, 1) := by decide +kernel
theorem dX9_countsOn_40 : decode cX9_countsOn 40 = .ok (.invokestatic 165, 3) := by decide +kernel
theorem dX9_countsOn_43 : decode cX9_countsOn 43 = .ok (.ifCond .eq 8, 3) := by decide +kernel
theorem dX9_countsOn_46 : decode cX9_countsOn 46 = .ok (.iload 4, 2) := by decide +kernel
theorem dX9_countsOn_48 : decode cX9_countsOn 48 = .ok (.goto 4, 3) := by decide +kernel
theorem dX9_countsOn_51 : decode cX9_countsOn 51 = .ok (.iload_n 3, 1) := by decide +kernel
theorem dX9_countsOn_52 : decode cX9_countsOn 52 = .ok (.istore_n 3, 1) := by decide +kernel
theorem dX9_countsOn_53 : decode cX9_countsOn 53 = .ok (.iinc 4 1, 3) := by decide +kernel
theorem dX9_countsOn_56 : decode cX9_countsOn 56 = .ok (.goto (-51), 3) := by decide +kernel
theorem dX9_countsOn_59 : decode cX9_countsOn 59 = .ok (.iload_n 3, 1) := by decide +kernel
theorem dX9_countsOn_60 : decode cX9_countsOn 60 = .ok (.ireturn, 1) := by decide +kernel
theorem dX9_kindOn_0 : decode cX9_kindOn 0 = .ok (.aload_n 0, 1) := by decide +kernel
theorem dX9_kindOn_1 : decode cX9_kindOn 1 = .ok (.iload_n 1, 1) := by decide +kernel
theorem dX9_kindOn_2 : decode cX9_kindOn 2 = .ok (.iload_n 2, 1) := by decide +kernel
theorem dX9_kindOn_3 : decode cX9_kindOn 3 = .ok (.invokevirtual 220, 3) := by decide +kernel
theorem dX9_kindOn_6 : decode cX9_kindOn 6 = .ok (.istore_n 3, 1) := by decide +kernel
theorem dX9_kindOn_7 : decode cX9_kindOn 7 = .ok (.iload_n 3, 1) := by decide +kernel
theorem dX9_kindOn_8 : decode cX9_kindOn 8 = .ok (.iconst (-1), 1) := by decide +kernel
theorem dX9_kindOn_9 : decode cX9_kindOn 9 = .ok (.if_icmp .ne 7, 3) := by decide +kernel
theorem dX9_kindOn_12 : decode cX9_kindOn 12 = .ok (.iconst (-1), 1) := by decide +kernel
theorem dX9_kindOn_13 : decode cX9_kindOn 13 = .ok (.goto 9, 3) := by decide +kernel
theorem dX9_kindOn_16 : decode cX9_kindOn 16 = .ok (.aload_n 0, 1) := by decide +kernel
theorem dX9_kindOn_17 : decode cX9_kindOn 17 = .ok (.getfield 116, 3) := by decide +kernel
theorem dX9_kindOn_20 : decode cX9_kindOn 20 = .ok (.iload_n 3, 1) := by decide +kernel
theorem dX9_kindOn_21 : decode cX9_kindOn 21 = .ok (.iaload, 1) := by decide +kernel
theorem dX9_kindOn_22 : decode cX9_kindOn 22 = .ok (.ireturn, 1) := by decide +kernel
theorem dX9_counts_0 : decode cX9_counts 0 = .ok (.aload_n 0, 1) := by decide +kernel
theorem dX9_counts_1 : decode cX9_counts 1 = .ok (.aload_n 0, 1) := by decide +kernel
theorem dX9_counts_2 : decode cX9_counts 2 = .ok (.iload_n 1, 1) := by decide +kernel
theorem dX9_counts_3 : decode cX9_counts 3 = .ok (.invokevirtual 208, 3) := by decide +kernel
theorem dX9_counts_6 : decode cX9_counts 6 = .ok (.iload_n 2, 1) := by decide +kernel
theorem dX9_counts_7 : decode cX9_counts 7 = .ok (.iconst 0, 1) := by decide +kernel
theorem dX9_counts_8 : decode cX9_counts 8 = .ok (.sipush 30000, 3) := by decide +kernel
theorem dX9_counts_11 : decode cX9_counts 11 = .ok (.invokestatic 165, 3) := by decide +kernel
theorem dX9_counts_14 : decode cX9_counts 14 = .ok (.iconst 1, 1) := by decide +kernel
theorem dX9_counts_15 : decode cX9_counts 15 = .ok (.invokevirtual 179, 3) := by decide +kernel
theorem dX9_counts_18 : decode cX9_counts 18 = .ok (.ifCond .eq 12, 3) := by decide +kernel
theorem dX9_counts_21 : decode cX9_counts 21 = .ok (.aload_n 0, 1) := by decide +kernel
theorem dX9_counts_22 : decode cX9_counts 22 = .ok (.iload_n 1, 1) := by decide +kernel
theorem dX9_counts_23 : decode cX9_counts 23 = .ok (.iload_n 2, 1) := by decide +kernel
theorem dX9_counts_24 : decode cX9_counts 24 = .ok (.invokevirtual 220, 3) := by decide +kernel
theorem dX9_counts_27 : decode cX9_counts 27 = .ok (.goto 4, 3) := by decide +kernel
theorem dX9_counts_30 : decode cX9_counts 30 = .ok (.iconst 0, 1) := by decide +kernel
theorem dX9_counts_31 : decode cX9_counts 31 = .ok (.ireturn, 1) := by decide +kernel
theorem dX9_wish_0 : decode cX9_wish 0 = .ok (.aload_n 0, 1) := by decide +kernel
theorem dX9_wish_1 : decode cX9_wish 1 = .ok (.aload_n 0, 1) := by decide +kernel
theorem dX9_wish_2 : decode cX9_wish 2 = .ok (.iload_n 1, 1) := by decide +kernel
theorem dX9_wish_3 : decode cX9_wish 3 = .ok (.invokevirtual 208, 3) := by decide +kernel
theorem dX9_wish_6 : decode cX9_wish 6 = .ok (.ifCond .eq 15, 3) := by decide +kernel
theorem dX9_wish_9 : decode cX9_wish 9 = .ok (.aload_n 0, 1) := by decide +kernel
theorem dX9_wish_10 : decode cX9_wish 10 = .ok (.iload_n 2, 1) := by decide +kernel
theorem dX9_wish_11 : decode cX9_wish 11 = .ok (.invokevirtual 193, 3) := by decide +kernel
theorem dX9_wish_14 : decode cX9_wish 14 = .ok (.ifCond .eq 7, 3) := by decide +kernel
theorem dX9_wish_17 : decode cX9_wish 17 = .ok (.iconst 1, 1) := by decide +kernel
theorem dX9_wish_18 : decode cX9_wish 18 = .ok (.goto 4, 3) := by decide +kernel
theorem dX9_wish_21 : decode cX9_wish 21 = .ok (.iconst 0, 1) := by decide +kernel
theorem dX9_wish_22 : decode cX9_wish 22 = .ok (.iconst 1, 1) := by decide +kernel
theorem dX9_wish_23 : decode cX9_wish 23 = .ok (.iconst 1, 1) := by decide +kernel
theorem dX9_wish_24 : decode cX9_wish 24 = .ok (.invokevirtual 179, 3) := by decide +kernel
theorem dX9_wish_27 : decode cX9_wish 27 = .ok (.ifCond .eq 41, 3) := by decide +kernel
theorem dX9_wish_30 : decode cX9_wish 30 = .ok (.aload_n 0, 1) := by decide +kernel
theorem dX9_wish_31 : decode cX9_wish 31 = .ok (.getfield 62, 3) := by decide +kernel
theorem dX9_wish_34 : decode cX9_wish 34 = .ok (.bipush 10, 2) := by decide +kernel
theorem dX9_wish_36 : decode cX9_wish 36 = .ok (.iload_n 1, 1) := by decide +kernel
theorem dX9_wish_37 : decode cX9_wish 37 = .ok (.imul, 1) := by decide +kernel
theorem dX9_wish_38 : decode cX9_wish 38 = .ok (.iload_n 2, 1) := by decide +kernel
theorem dX9_wish_39 : decode cX9_wish 39 = .ok (.iadd, 1) := by decide +kernel
theorem dX9_wish_40 : decode cX9_wish 40 = .ok (.iload_n 3, 1) := by decide +kernel
theorem dX9_wish_41 : decode cX9_wish 41 = .ok (.ifCond .eq 7, 3) := by decide +kernel
theorem dX9_wish_44 : decode cX9_wish 44 = .ok (.iconst 1, 1) := by decide +kernel
theorem dX9_wish_45 : decode cX9_wish 45 = .ok (.goto 22, 3) := by decide +kernel
theorem dX9_wish_48 : decode cX9_wish 48 = .ok (.aload_n 0, 1) := by decide +kernel
theorem dX9_wish_49 : decode cX9_wish 49 = .ok (.iload_n 1, 1) := by decide +kernel
theorem dX9_wish_50 : decode cX9_wish 50 = .ok (.aload_n 0, 1) := by decide +kernel
theorem dX9_wish_51 : decode cX9_wish 51 = .ok (.getfield 187, 3) := by decide +kernel
theorem dX9_wish_54 : decode cX9_wish 54 = .ok (.invokevirtual 224, 3) := by decide +kernel
theorem dX9_wish_57 : decode cX9_wish 57 = .ok (.bipush 12, 2) := by decide +kernel
theorem dX9_wish_59 : decode cX9_wish 59 = .ok (.if_icmp .lt 7, 3) := by decide +kernel
theorem dX9_wish_62 : decode cX9_wish 62 = .ok (.iconst 3, 1) := by decide +kernel
theorem dX9_wish_63 : decode cX9_wish 63 = .ok (.goto 4, 3) := by decide +kernel
theorem dX9_wish_66 : decode cX9_wish 66 = .ok (.iconst 2, 1) := by decide +kernel
theorem dX9_wish_67 : decode cX9_wish 67 = .ok (.iastore, 1) := by decide +kernel
theorem dX9_wish_68 : decode cX9_wish 68 = .ok (.return_, 1) := by decide +kernel
theorem dX9_others_0 : decode cX9_others 0 = .ok (.iconst 0, 1) := by decide +kernel
theorem dX9_others_1 : decode cX9_others 1 = .ok (.istore_n 3, 1) := by decide +kernel
theorem dX9_others_2 : decode cX9_others 2 = .ok (.iconst 0, 1) := by decide +kernel
theorem dX9_others_3 : decode cX9_others 3 = .ok (.istore 4, 2) := by decide +kernel
theorem dX9_others_5 : decode cX9_others 5 = .ok (.iload 4, 2) := by decide +kernel
theorem dX9_others_7 : decode cX9_others 7 = .ok (.aload_n 0, 1) := by decide +kernel
theorem dX9_others_8 : decode cX9_others 8 = .ok (.getfield 162, 3) := by decide +kernel
theorem dX9_others_11 : decode cX9_others 11 = .ok (.if_icmp .ge 33, 3) := by decide +kernel
theorem dX9_others_14 : decode cX9_others 14 = .ok (.iload_n 3, 1) := by decide +kernel
theorem dX9_others_15 : decode cX9_others 15 = .ok (.iload 4, 2) := by decide +kernel
theorem dX9_others_17 : decode cX9_others 17 = .ok (.iload_n 1, 1) := by decide +kernel
theorem dX9_others_18 : decode cX9_others 18 = .ok (.if_icmp .eq 17, 3) := by decide +kernel
theorem dX9_others_21 : decode cX9_others 21 = .ok (.aload_n 0, 1) := by decide +kernel
theorem dX9_others_22 : decode cX9_others 22 = .ok (.iload 4, 2) := by decide +kernel
theorem dX9_others_24 : decode cX9_others 24 = .ok (.invokevirtual 227, 3) := by decide +kernel
theorem dX9_others_27 : decode cX9_others 27 = .ok (.iload_n 2, 1) := by decide +kernel
theorem dX9_others_28 : decode cX9_others 28 = .ok (.if_icmp .ne 7, 3) := by decide +kernel
theorem dX9_others_31 : decode cX9_others 31 = .ok (.iconst 1, 1) := by decide +kernel
theorem dX9_others_32 : decode cX9_others 32 = .ok (.goto 4, 3) := by decide +kernel
theorem dX9_others_35 : decode cX9_others 35 = .ok (.iconst 0, 1) := by decide +kernel
theorem dX9_others_36 : decode cX9_others 36 = .ok (.iadd, 1) := by decide +kernel
theorem dX9_others_37 : decode cX9_others 37 = .ok (.istore_n 3, 1) := by decide +kernel
theorem dX9_others_38 : decode cX9_others 38 = .ok (.iinc 4 1, 3) := by decide +kernel
theorem dX9_others_41 : decode cX9_others 41 = .ok (.goto (-36), 3) := by decide +kernel
theorem dX9_others_44 : decode cX9_others 44 = .ok (.iload_n 3, 1) := by decide +kernel
theorem dX9_others_45 : decode cX9_others 45 = .ok (.ireturn, 1) := by decide +kernel
theorem dX9_whyOn_0 : decode cX9_whyOn 0 = .ok (.aload_n 0, 1) := by decide +kernel
theorem dX9_whyOn_1 : decode cX9_whyOn 1 = .ok (.iload_n 2, 1) := by decide +kernel
theorem dX9_whyOn_2 : decode cX9_whyOn 2 = .ok (.iconst 0, 1) := by decide +kernel
theorem dX9_whyOn_3 : decode cX9_whyOn 3 = .ok (.iload_n 3, 1) := by decide +kernel
theorem dX9_whyOn_4 : decode cX9_whyOn 4 = .ok (.invokevirtual 230, 3) := by decide +kernel
theorem dX9_whyOn_7 : decode cX9_whyOn 7 = .ok (.istore 4, 2) := by decide +kernel
theorem dX9_whyOn_9 : decode cX9_whyOn 9 = .ok (.aload_n 0, 1) := by decide +kernel
theorem dX9_whyOn_10 : decode cX9_whyOn 10 = .ok (.iload_n 2, 1) := by decide +kernel
theorem dX9_whyOn_11 : decode cX9_whyOn 11 = .ok (.iconst 1, 1) := by decide +kernel
theorem dX9_whyOn_12 : decode cX9_whyOn 12 = .ok (.iload_n 3, 1) := by decide +kernel
theorem dX9_whyOn_13 : decode cX9_whyOn 13 = .ok (.invokevirtual 230, 3) := by decide +kernel
theorem dX9_whyOn_16 : decode cX9_whyOn 16 = .ok (.istore 5, 2) := by decide +kernel
theorem dX9_whyOn_18 : decode cX9_whyOn 18 = .ok (.aload_n 0, 1) := by decide +kernel
theorem dX9_whyOn_19 : decode cX9_whyOn 19 = .ok (.iload_n 2, 1) := by decide +kernel
theorem dX9_whyOn_20 : decode cX9_whyOn 20 = .ok (.iconst 2, 1) := by decide +kernel
theorem dX9_whyOn_21 : decode cX9_whyOn 21 = .ok (.iload_n 3, 1) := by decide +kernel
theorem dX9_whyOn_22 : decode cX9_whyOn 22 = .ok (.invokevirtual 230, 3) := by decide +kernel
theorem dX9_whyOn_25 : decode cX9_whyOn 25 = .ok (.istore 6, 2) := by decide +kernel
theorem dX9_whyOn_27 : decode cX9_whyOn 27 = .ok (.iload 5, 2) := by decide +kernel
theorem dX9_whyOn_29 : decode cX9_whyOn 29 = .ok (.iconst (-1), 1) := by decide +kernel
theorem dX9_whyOn_30 : decode cX9_whyOn 30 = .ok (.if_icmp .eq 14, 3) := by decide +kernel
theorem dX9_whyOn_33 : decode cX9_whyOn 33 = .ok (.iload_n 3, 1) := by decide +kernel
theorem dX9_whyOn_34 : decode cX9_whyOn 34 = .ok (.aload_n 0, 1) := by decide +kernel
theorem dX9_whyOn_35 : decode cX9_whyOn 35 = .ok (.getfield 98, 3) := by decide +kernel
theorem dX9_whyOn_38 : decode cX9_whyOn 38 = .ok (.iload 5, 2) := by decide +kernel
theorem dX9_whyOn_40 : decode cX9_whyOn 40 = .ok (.iaload, 1) := by decide +kernel
theorem dX9_whyOn_41 : decode cX9_whyOn 41 = .ok (.if_icmp .le 7, 3) := by decide +kernel
theorem dX9_whyOn_44 : decode cX9_whyOn 44 = .ok (.iconst 0, 1) := by decide +kernel
theorem dX9_whyOn_45 : decode cX9_whyOn 45 = .ok (.goto 10, 3) := by decide +kernel
theorem dX9_whyOn_48 : decode cX9_whyOn 48 = .ok (.aload_n 0, 1) := by decide +kernel
theorem dX9_whyOn_49 : decode cX9_whyOn 49 = .ok (.getfield 92, 3) := by decide +kernel
theorem dX9_whyOn_52 : decode cX9_whyOn 52 = .ok (.iload 5, 2) := by decide +kernel
theorem dX9_whyOn_54 : decode cX9_whyOn 54 = .ok (.iaload, 1) := by decide +kernel
theorem dX9_whyOn_55 : decode cX9_whyOn 55 = .ok (.istore 7, 2) := by decide +kernel
theorem dX9_whyOn_57 : decode cX9_whyOn 57 = .ok (.aload_n 0, 1) := by decide +kernel
theorem dX9_whyOn_58 : decode cX9_whyOn 58 = .ok (.iload_n 1, 1) := by decide +kernel
theorem dX9_whyOn_59 : decode cX9_whyOn 59 = .ok (.iload_n 3, 1) := by decide +kernel
theorem dX9_whyOn_60 : decode cX9_whyOn 60 = .ok (.invokevirtual 234, 3) := by decide +kernel
theorem dX9_whyOn_63 : decode cX9_whyOn 63 = .ok (.ifCond .eq 5, 3) := by decide +kernel
theorem dX9_whyOn_66 : decode cX9_whyOn 66 = .ok (.iconst 1, 1) := by decide +kernel
theorem dX9_whyOn_67 : decode cX9_whyOn 67 = .ok (.ireturn, 1) := by decide +kernel
theorem dX9_whyOn_68 : decode cX9_whyOn 68 = .ok (.iload 4, 2) := by decide +kernel
theorem dX9_whyOn_70 : decode cX9_whyOn 70 = .ok (.iconst (-1), 1) := by decide +kernel
theorem dX9_whyOn_71 : decode cX9_whyOn 71 = .ok (.if_icmp .eq 14, 3) := by decide +kernel
theorem dX9_whyOn_74 : decode cX9_whyOn 74 = .ok (.iload_n 3, 1) := by decide +kernel
theorem dX9_whyOn_75 : decode cX9_whyOn 75 = .ok (.aload_n 0, 1) := by decide +kernel
theorem dX9_whyOn_76 : decode cX9_whyOn 76 = .ok (.getfield 98, 3) := by decide +kernel
theorem dX9_whyOn_79 : decode cX9_whyOn 79 = .ok (.iload 4, 2) := by decide +kernel
theorem dX9_whyOn_81 : decode cX9_whyOn 81 = .ok (.iaload, 1) := by decide +kernel
theorem dX9_whyOn_82 : decode cX9_whyOn 82 = .ok (.if_icmp .le 5, 3) := by decide +kernel
theorem dX9_whyOn_85 : decode cX9_whyOn 85 = .ok (.iconst 2, 1) := by decide +kernel
theorem dX9_whyOn_86 : decode cX9_whyOn 86 = .ok (.ireturn, 1) := by decide +kernel
theorem dX9_whyOn_87 : decode cX9_whyOn 87 = .ok (.aload_n 0, 1) := by decide +kernel
theorem dX9_whyOn_88 : decode cX9_whyOn 88 = .ok (.iload_n 1, 1) := by decide +kernel
theorem dX9_whyOn_89 : decode cX9_whyOn 89 = .ok (.iload_n 3, 1) := by decide +kernel
theorem dX9_whyOn_90 : decode cX9_whyOn 90 = .ok (.invokevirtual 224, 3) := by decide +kernel
theorem dX9_whyOn_93 : decode cX9_whyOn 93 = .ok (.aload_n 0, 1) := by decide +kernel
theorem dX9_whyOn_94 : decode cX9_whyOn 94 = .ok (.getfield 92, 3) := by decide +kernel
theorem dX9_whyOn_97 : decode cX9_whyOn 97 = .ok (.iload 4, 2) := by decide +kernel
theorem dX9_whyOn_99 : decode cX9_whyOn 99 = .ok (.iaload, 1) := by decide +kernel
theorem dX9_whyOn_100 : decode cX9_whyOn 100 = .ok (.aload_n 0, 1) := by decide +kernel
theorem dX9_whyOn_101 : decode cX9_whyOn 101 = .ok (.getfield 95, 3) := by decide +kernel
theorem dX9_whyOn_104 : decode cX9_whyOn 104 = .ok (.iload 4, 2) := by decide +kernel
theorem dX9_whyOn_106 : decode cX9_whyOn 106 = .ok (.iaload, 1) := by decide +kernel
theorem dX9_whyOn_107 : decode cX9_whyOn 107 = .ok (.invokestatic 165, 3) := by decide +kernel
theorem dX9_whyOn_110 : decode cX9_whyOn 110 = .ok (.ifCond .ne 5, 3) := by decide +kernel
theorem dX9_whyOn_113 : decode cX9_whyOn 113 = .ok (.iconst 3, 1) := by decide +kernel
theorem dX9_whyOn_114 : decode cX9_whyOn 114 = .ok (.ireturn, 1) := by decide +kernel
theorem dX9_whyOn_115 : decode cX9_whyOn 115 = .ok (.aload_n 0, 1) := by decide +kernel
theorem dX9_whyOn_116 : decode cX9_whyOn 116 = .ok (.getfield 16, 3) := by decide +kernel
theorem dX9_whyOn_119 : decode cX9_whyOn 119 = .ok (.iload_n 1, 1) := by decide +kernel
theorem dX9_whyOn_120 : decode cX9_whyOn 120 = .ok (.iaload, 1) := by decide +kernel
theorem dX9_whyOn_121 : decode cX9_whyOn 121 = .ok (.iload 7, 2) := by decide +kernel
theorem dX9_whyOn_123 : decode cX9_whyOn 123 = .ok (.iconst (-1), 1) := by decide +kernel
theorem dX9_whyOn_124 : decode cX9_whyOn 124 = .ok (.ixor, 1) := by decide +kernel
theorem dX9_whyOn_125 : decode cX9_whyOn 125 = .ok (.iand, 1) := by decide +kernel
theorem dX9_whyOn_126 : decode cX9_whyOn 126 = .ok (.ifCond .eq 7, 3) := by decide +kernel
theorem dX9_whyOn_129 : decode cX9_whyOn 129 = .ok (.iconst 4, 1) := by decide +kernel
theorem dX9_whyOn_130 : decode cX9_whyOn 130 = .ok (.goto 35, 3) := by decide +kernel
theorem dX9_whyOn_133 : decode cX9_whyOn 133 = .ok (.iload 6, 2) := by decide +kernel
theorem dX9_whyOn_135 : decode cX9_whyOn 135 = .ok (.iconst (-1), 1) := by decide +kernel
theorem dX9_whyOn_136 : decode cX9_whyOn 136 = .ok (.if_icmp .eq 28, 3) := by decide +kernel
theorem dX9_whyOn_139 : decode cX9_whyOn 139 = .ok (.iload_n 3, 1) := by decide +kernel
theorem dX9_whyOn_140 : decode cX9_whyOn 140 = .ok (.aload_n 0, 1) := by decide +kernel
theorem dX9_whyOn_141 : decode cX9_whyOn 141 = .ok (.getfield 92, 3) := by decide +kernel
theorem dX9_whyOn_144 : decode cX9_whyOn 144 = .ok (.iload 6, 2) := by decide +kernel
theorem dX9_whyOn_146 : decode cX9_whyOn 146 = .ok (.iaload, 1) := by decide +kernel
theorem dX9_whyOn_147 : decode cX9_whyOn 147 = .ok (.aload_n 0, 1) := by decide +kernel
theorem dX9_whyOn_148 : decode cX9_whyOn 148 = .ok (.getfield 98, 3) := by decide +kernel
theorem dX9_whyOn_151 : decode cX9_whyOn 151 = .ok (.iload 6, 2) := by decide +kernel
theorem dX9_whyOn_153 : decode cX9_whyOn 153 = .ok (.iaload, 1) := by decide +kernel
theorem dX9_whyOn_154 : decode cX9_whyOn 154 = .ok (.invokestatic 165, 3) := by decide +kernel
theorem dX9_whyOn_157 : decode cX9_whyOn 157 = .ok (.ifCond .eq 7, 3) := by decide +kernel
theorem dX9_whyOn_160 : decode cX9_whyOn 160 = .ok (.iconst 5, 1) := by decide +kernel
theorem dX9_whyOn_161 : decode cX9_whyOn 161 = .ok (.goto 4, 3) := by decide +kernel
theorem dX9_whyOn_164 : decode cX9_whyOn 164 = .ok (.iconst 0, 1) := by decide +kernel
theorem dX9_whyOn_165 : decode cX9_whyOn 165 = .ok (.ireturn, 1) := by decide +kernel
theorem dX9_whyNot_0 : decode cX9_whyNot 0 = .ok (.aload_n 0, 1) := by decide +kernel
theorem dX9_whyNot_1 : decode cX9_whyNot 1 = .ok (.iload_n 1, 1) := by decide +kernel
theorem dX9_whyNot_2 : decode cX9_whyNot 2 = .ok (.iload_n 2, 1) := by decide +kernel
theorem dX9_whyNot_3 : decode cX9_whyNot 3 = .ok (.aload_n 0, 1) := by decide +kernel
theorem dX9_whyNot_4 : decode cX9_whyNot 4 = .ok (.getfield 187, 3) := by decide +kernel
theorem dX9_whyNot_7 : decode cX9_whyNot 7 = .ok (.invokevirtual 237, 3) := by decide +kernel
theorem dX9_whyNot_10 : decode cX9_whyNot 10 = .ok (.istore_n 3, 1) := by decide +kernel
theorem dX9_whyNot_11 : decode cX9_whyNot 11 = .ok (.iload_n 3, 1) := by decide +kernel
theorem dX9_whyNot_12 : decode cX9_whyNot 12 = .ok (.ifCond .le 7, 3) := by decide +kernel
theorem dX9_whyNot_15 : decode cX9_whyNot 15 = .ok (.iload_n 3, 1) := by decide +kernel
theorem dX9_whyNot_16 : decode cX9_whyNot 16 = .ok (.goto 44, 3) := by decide +kernel
theorem dX9_whyNot_19 : decode cX9_whyNot 19 = .ok (.aload_n 0, 1) := by decide +kernel
theorem dX9_whyNot_20 : decode cX9_whyNot 20 = .ok (.iload_n 1, 1) := by decide +kernel
theorem dX9_whyNot_21 : decode cX9_whyNot 21 = .ok (.iload_n 2, 1) := by decide +kernel
theorem dX9_whyNot_22 : decode cX9_whyNot 22 = .ok (.invokevirtual 240, 3) := by decide +kernel
theorem dX9_whyNot_25 : decode cX9_whyNot 25 = .ok (.aload_n 0, 1) := by decide +kernel
theorem dX9_whyNot_26 : decode cX9_whyNot 26 = .ok (.getfield 71, 3) := by decide +kernel
theorem dX9_whyNot_29 : decode cX9_whyNot 29 = .ok (.iload_n 2, 1) := by decide +kernel
theorem dX9_whyNot_30 : decode cX9_whyNot 30 = .ok (.iaload, 1) := by decide +kernel
theorem dX9_whyNot_31 : decode cX9_whyNot 31 = .ok (.if_icmp .lt 8, 3) := by decide +kernel
theorem dX9_whyNot_34 : decode cX9_whyNot 34 = .ok (.bipush 6, 2) := by decide +kernel
theorem dX9_whyNot_36 : decode cX9_whyNot 36 = .ok (.goto 24, 3) := by decide +kernel
theorem dX9_whyNot_39 : decode cX9_whyNot 39 = .ok (.aload_n 0, 1) := by decide +kernel
theorem dX9_whyNot_40 : decode cX9_whyNot 40 = .ok (.getfield 62, 3) := by decide +kernel
theorem dX9_whyNot_43 : decode cX9_whyNot 43 = .ok (.bipush 10, 2) := by decide +kernel
theorem dX9_whyNot_45 : decode cX9_whyNot 45 = .ok (.iload_n 1, 1) := by decide +kernel
theorem dX9_whyNot_46 : decode cX9_whyNot 46 = .ok (.imul, 1) := by decide +kernel
theorem dX9_whyNot_47 : decode cX9_whyNot 47 = .ok (.iload_n 2, 1) := by decide +kernel
theorem dX9_whyNot_48 : decode cX9_whyNot 48 = .ok (.iadd, 1) := by decide +kernel
theorem dX9_whyNot_49 : decode cX9_whyNot 49 = .ok (.iaload, 1) := by decide +kernel
theorem dX9_whyNot_50 : decode cX9_whyNot 50 = .ok (.iconst 3, 1) := by decide +kernel
theorem dX9_whyNot_51 : decode cX9_whyNot 51 = .ok (.if_icmp .ne 8, 3) := by decide +kernel
theorem dX9_whyNot_54 : decode cX9_whyNot 54 = .ok (.bipush 7, 2) := by decide +kernel
theorem dX9_whyNot_56 : decode cX9_whyNot 56 = .ok (.goto 4, 3) := by decide +kernel
theorem dX9_whyNot_59 : decode cX9_whyNot 59 = .ok (.iconst 0, 1) := by decide +kernel
theorem dX9_whyNot_60 : decode cX9_whyNot 60 = .ok (.ireturn, 1) := by decide +kernel
theorem dX9_why_0 : decode cX9_why 0 = .ok (.aload_n 0, 1) := by decide +kernel
theorem dX9_why_1 : decode cX9_why 1 = .ok (.aload_n 0, 1) := by decide +kernel
theorem dX9_why_2 : decode cX9_why 2 = .ok (.iload_n 1, 1) := by decide +kernel
theorem dX9_why_3 : decode cX9_why 3 = .ok (.invokevirtual 208, 3) := by decide +kernel
end
section
theorem dX9_why_6 : decode cX9_why 6 = .ok (.ifCond .eq 15, 3) := by decide +kernel
theorem dX9_why_9 : decode cX9_why 9 = .ok (.aload_n 0, 1) := by decide +kernel
theorem dX9_why_10 : decode cX9_why 10 = .ok (.iload_n 2, 1) := by decide +kernel
theorem dX9_why_11 : decode cX9_why 11 = .ok (.invokevirtual 193, 3) := by decide +kernel
theorem dX9_why_14 : decode cX9_why 14 = .ok (.ifCond .eq 7, 3) := by decide +kernel
theorem dX9_why_17 : decode cX9_why 17 = .ok (.iconst 1, 1) := by decide +kernel
theorem dX9_why_18 : decode cX9_why 18 = .ok (.goto 4, 3) := by decide +kernel
theorem dX9_why_21 : decode cX9_why 21 = .ok (.iconst 0, 1) := by decide +kernel
theorem dX9_why_22 : decode cX9_why 22 = .ok (.iconst 1, 1) := by decide +kernel
theorem dX9_why_23 : decode cX9_why 23 = .ok (.iconst 1, 1) := by decide +kernel
theorem dX9_why_24 : decode cX9_why 24 = .ok (.invokevirtual 179, 3) := by decide +kernel
theorem dX9_why_27 : decode cX9_why 27 = .ok (.ifCond .eq 12, 3) := by decide +kernel
theorem dX9_why_30 : decode cX9_why 30 = .ok (.aload_n 0, 1) := by decide +kernel
theorem dX9_why_31 : decode cX9_why 31 = .ok (.iload_n 1, 1) := by decide +kernel
theorem dX9_why_32 : decode cX9_why 32 = .ok (.iload_n 2, 1) := by decide +kernel
theorem dX9_why_33 : decode cX9_why 33 = .ok (.invokevirtual 243, 3) := by decide +kernel
theorem dX9_why_36 : decode cX9_why 36 = .ok (.goto 4, 3) := by decide +kernel
theorem dX9_why_39 : decode cX9_why 39 = .ok (.iconst 0, 1) := by decide +kernel
theorem dX9_why_40 : decode cX9_why 40 = .ok (.ireturn, 1) := by decide +kernel
theorem dX9_worthOf_0 : decode cX9_worthOf 0 = .ok (.iconst 0, 1) := by decide +kernel
theorem dX9_worthOf_1 : decode cX9_worthOf 1 = .ok (.istore_n 3, 1) := by decide +kernel
theorem dX9_worthOf_2 : decode cX9_worthOf 2 = .ok (.iconst 0, 1) := by decide +kernel
theorem dX9_worthOf_3 : decode cX9_worthOf 3 = .ok (.istore 4, 2) := by decide +kernel
theorem dX9_worthOf_5 : decode cX9_worthOf 5 = .ok (.iload 4, 2) := by decide +kernel
theorem dX9_worthOf_7 : decode cX9_worthOf 7 = .ok (.aload_n 0, 1) := by decide +kernel
theorem dX9_worthOf_8 : decode cX9_worthOf 8 = .ok (.getfield 162, 3) := by decide +kernel
theorem dX9_worthOf_11 : decode cX9_worthOf 11 = .ok (.if_icmp .ge 50, 3) := by decide +kernel
theorem dX9_worthOf_14 : decode cX9_worthOf 14 = .ok (.iload_n 3, 1) := by decide +kernel
theorem dX9_worthOf_15 : decode cX9_worthOf 15 = .ok (.iload 4, 2) := by decide +kernel
theorem dX9_worthOf_17 : decode cX9_worthOf 17 = .ok (.iload_n 1, 1) := by decide +kernel
theorem dX9_worthOf_18 : decode cX9_worthOf 18 = .ok (.if_icmp .eq 34, 3) := by decide +kernel
theorem dX9_worthOf_21 : decode cX9_worthOf 21 = .ok (.aload_n 0, 1) := by decide +kernel
theorem dX9_worthOf_22 : decode cX9_worthOf 22 = .ok (.getfield 19, 3) := by decide +kernel
theorem dX9_worthOf_25 : decode cX9_worthOf 25 = .ok (.iload 4, 2) := by decide +kernel
theorem dX9_worthOf_27 : decode cX9_worthOf 27 = .ok (.iaload, 1) := by decide +kernel
theorem dX9_worthOf_28 : decode cX9_worthOf 28 = .ok (.aload_n 0, 1) := by decide +kernel
theorem dX9_worthOf_29 : decode cX9_worthOf 29 = .ok (.getfield 19, 3) := by decide +kernel
theorem dX9_worthOf_32 : decode cX9_worthOf 32 = .ok (.iload_n 1, 1) := by decide +kernel
theorem dX9_worthOf_33 : decode cX9_worthOf 33 = .ok (.iaload, 1) := by decide +kernel
theorem dX9_worthOf_34 : decode cX9_worthOf 34 = .ok (.if_icmp .ne 18, 3) := by decide +kernel
theorem dX9_worthOf_37 : decode cX9_worthOf 37 = .ok (.aload_n 0, 1) := by decide +kernel
theorem dX9_worthOf_38 : decode cX9_worthOf 38 = .ok (.iload 4, 2) := by decide +kernel
theorem dX9_worthOf_40 : decode cX9_worthOf 40 = .ok (.invokevirtual 227, 3) := by decide +kernel
theorem dX9_worthOf_43 : decode cX9_worthOf 43 = .ok (.iload_n 2, 1) := by decide +kernel
theorem dX9_worthOf_44 : decode cX9_worthOf 44 = .ok (.if_icmp .ne 8, 3) := by decide +kernel
theorem dX9_worthOf_47 : decode cX9_worthOf 47 = .ok (.bipush 10, 2) := by decide +kernel
theorem dX9_worthOf_49 : decode cX9_worthOf 49 = .ok (.goto 4, 3) := by decide +kernel
theorem dX9_worthOf_52 : decode cX9_worthOf 52 = .ok (.iconst 0, 1) := by decide +kernel
theorem dX9_worthOf_53 : decode cX9_worthOf 53 = .ok (.iadd, 1) := by decide +kernel
theorem dX9_worthOf_54 : decode cX9_worthOf 54 = .ok (.istore_n 3, 1) := by decide +kernel
theorem dX9_worthOf_55 : decode cX9_worthOf 55 = .ok (.iinc 4 1, 3) := by decide +kernel
theorem dX9_worthOf_58 : decode cX9_worthOf 58 = .ok (.goto (-53), 3) := by decide +kernel
theorem dX9_worthOf_61 : decode cX9_worthOf 61 = .ok (.aload_n 0, 1) := by decide +kernel
theorem dX9_worthOf_62 : decode cX9_worthOf 62 = .ok (.getfield 62, 3) := by decide +kernel
theorem dX9_worthOf_65 : decode cX9_worthOf 65 = .ok (.bipush 10, 2) := by decide +kernel
theorem dX9_worthOf_67 : decode cX9_worthOf 67 = .ok (.iload_n 1, 1) := by decide +kernel
theorem dX9_worthOf_68 : decode cX9_worthOf 68 = .ok (.imul, 1) := by decide +kernel
theorem dX9_worthOf_69 : decode cX9_worthOf 69 = .ok (.iload_n 2, 1) := by decide +kernel
theorem dX9_worthOf_70 : decode cX9_worthOf 70 = .ok (.iadd, 1) := by decide +kernel
theorem dX9_worthOf_71 : decode cX9_worthOf 71 = .ok (.iaload, 1) := by decide +kernel
theorem dX9_worthOf_72 : decode cX9_worthOf 72 = .ok (.istore 4, 2) := by decide +kernel
theorem dX9_worthOf_74 : decode cX9_worthOf 74 = .ok (.aload_n 0, 1) := by decide +kernel
theorem dX9_worthOf_75 : decode cX9_worthOf 75 = .ok (.getfield 22, 3) := by decide +kernel
theorem dX9_worthOf_78 : decode cX9_worthOf 78 = .ok (.iload_n 1, 1) := by decide +kernel
theorem dX9_worthOf_79 : decode cX9_worthOf 79 = .ok (.iaload, 1) := by decide +kernel
theorem dX9_worthOf_80 : decode cX9_worthOf 80 = .ok (.aload_n 0, 1) := by decide +kernel
theorem dX9_worthOf_81 : decode cX9_worthOf 81 = .ok (.getfield 65, 3) := by decide +kernel
theorem dX9_worthOf_84 : decode cX9_worthOf 84 = .ok (.iload_n 2, 1) := by decide +kernel
theorem dX9_worthOf_85 : decode cX9_worthOf 85 = .ok (.iaload, 1) := by decide +kernel
theorem dX9_worthOf_86 : decode cX9_worthOf 86 = .ok (.if_icmp .ge 19, 3) := by decide +kernel
theorem dX9_worthOf_89 : decode cX9_worthOf 89 = .ok (.aload_n 0, 1) := by decide +kernel
theorem dX9_worthOf_90 : decode cX9_worthOf 90 = .ok (.getfield 65, 3) := by decide +kernel
theorem dX9_worthOf_93 : decode cX9_worthOf 93 = .ok (.iload_n 2, 1) := by decide +kernel
theorem dX9_worthOf_94 : decode cX9_worthOf 94 = .ok (.iaload, 1) := by decide +kernel
theorem dX9_worthOf_95 : decode cX9_worthOf 95 = .ok (.aload_n 0, 1) := by decide +kernel
theorem dX9_worthOf_96 : decode cX9_worthOf 96 = .ok (.getfield 22, 3) := by decide +kernel
theorem dX9_worthOf_99 : decode cX9_worthOf 99 = .ok (.iload_n 1, 1) := by decide +kernel
theorem dX9_worthOf_100 : decode cX9_worthOf 100 = .ok (.iaload, 1) := by decide +kernel
theorem dX9_worthOf_101 : decode cX9_worthOf 101 = .ok (.isub, 1) := by decide +kernel
theorem dX9_worthOf_102 : decode cX9_worthOf 102 = .ok (.goto 16, 3) := by decide +kernel
theorem dX9_worthOf_105 : decode cX9_worthOf 105 = .ok (.aload_n 0, 1) := by decide +kernel
theorem dX9_worthOf_106 : decode cX9_worthOf 106 = .ok (.getfield 22, 3) := by decide +kernel
theorem dX9_worthOf_109 : decode cX9_worthOf 109 = .ok (.iload_n 1, 1) := by decide +kernel
theorem dX9_worthOf_110 : decode cX9_worthOf 110 = .ok (.iaload, 1) := by decide +kernel
theorem dX9_worthOf_111 : decode cX9_worthOf 111 = .ok (.aload_n 0, 1) := by decide +kernel
theorem dX9_worthOf_112 : decode cX9_worthOf 112 = .ok (.getfield 65, 3) := by decide +kernel
theorem dX9_worthOf_115 : decode cX9_worthOf 115 = .ok (.iload_n 2, 1) := by decide +kernel
theorem dX9_worthOf_116 : decode cX9_worthOf 116 = .ok (.iaload, 1) := by decide +kernel
theorem dX9_worthOf_117 : decode cX9_worthOf 117 = .ok (.isub, 1) := by decide +kernel
theorem dX9_worthOf_118 : decode cX9_worthOf 118 = .ok (.istore 5, 2) := by decide +kernel
theorem dX9_worthOf_120 : decode cX9_worthOf 120 = .ok (.iload_n 3, 1) := by decide +kernel
theorem dX9_worthOf_121 : decode cX9_worthOf 121 = .ok (.aload_n 0, 1) := by decide +kernel
theorem dX9_worthOf_122 : decode cX9_worthOf 122 = .ok (.getfield 25, 3) := by decide +kernel
theorem dX9_worthOf_125 : decode cX9_worthOf 125 = .ok (.iload_n 1, 1) := by decide +kernel
theorem dX9_worthOf_126 : decode cX9_worthOf 126 = .ok (.iaload, 1) := by decide +kernel
theorem dX9_worthOf_127 : decode cX9_worthOf 127 = .ok (.aload_n 0, 1) := by decide +kernel
theorem dX9_worthOf_128 : decode cX9_worthOf 128 = .ok (.getfield 68, 3) := by decide +kernel
theorem dX9_worthOf_131 : decode cX9_worthOf 131 = .ok (.iload_n 2, 1) := by decide +kernel
theorem dX9_worthOf_132 : decode cX9_worthOf 132 = .ok (.iaload, 1) := by decide +kernel
theorem dX9_worthOf_133 : decode cX9_worthOf 133 = .ok (.if_icmp .ne 8, 3) := by decide +kernel
theorem dX9_worthOf_136 : decode cX9_worthOf 136 = .ok (.bipush 6, 2) := by decide +kernel
theorem dX9_worthOf_138 : decode cX9_worthOf 138 = .ok (.goto 4, 3) := by decide +kernel
theorem dX9_worthOf_141 : decode cX9_worthOf 141 = .ok (.iconst 0, 1) := by decide +kernel
theorem dX9_worthOf_142 : decode cX9_worthOf 142 = .ok (.iadd, 1) := by decide +kernel
theorem dX9_worthOf_143 : decode cX9_worthOf 143 = .ok (.iload 4, 2) := by decide +kernel
theorem dX9_worthOf_145 : decode cX9_worthOf 145 = .ok (.ifCond .ne 7, 3) := by decide +kernel
theorem dX9_worthOf_148 : decode cX9_worthOf 148 = .ok (.iconst 0, 1) := by decide +kernel
theorem dX9_worthOf_149 : decode cX9_worthOf 149 = .ok (.goto 16, 3) := by decide +kernel
theorem dX9_worthOf_152 : decode cX9_worthOf 152 = .ok (.iload 4, 2) := by decide +kernel
theorem dX9_worthOf_154 : decode cX9_worthOf 154 = .ok (.iconst 1, 1) := by decide +kernel
theorem dX9_worthOf_155 : decode cX9_worthOf 155 = .ok (.if_icmp .ne 8, 3) := by decide +kernel
theorem dX9_worthOf_158 : decode cX9_worthOf 158 = .ok (.bipush 8, 2) := by decide +kernel
theorem dX9_worthOf_160 : decode cX9_worthOf 160 = .ok (.goto 5, 3) := by decide +kernel
theorem dX9_worthOf_163 : decode cX9_worthOf 163 = .ok (.bipush (-8), 2) := by decide +kernel
theorem dX9_worthOf_165 : decode cX9_worthOf 165 = .ok (.iadd, 1) := by decide +kernel
theorem dX9_worthOf_166 : decode cX9_worthOf 166 = .ok (.iload 5, 2) := by decide +kernel
theorem dX9_worthOf_168 : decode cX9_worthOf 168 = .ok (.iconst 5, 1) := by decide +kernel
theorem dX9_worthOf_169 : decode cX9_worthOf 169 = .ok (.idiv, 1) := by decide +kernel
theorem dX9_worthOf_170 : decode cX9_worthOf 170 = .ok (.isub, 1) := by decide +kernel
theorem dX9_worthOf_171 : decode cX9_worthOf 171 = .ok (.ireturn, 1) := by decide +kernel
theorem dX9_worth_0 : decode cX9_worth 0 = .ok (.aload_n 0, 1) := by decide +kernel
theorem dX9_worth_1 : decode cX9_worth 1 = .ok (.aload_n 0, 1) := by decide +kernel
theorem dX9_worth_2 : decode cX9_worth 2 = .ok (.iload_n 1, 1) := by decide +kernel
theorem dX9_worth_3 : decode cX9_worth 3 = .ok (.invokevirtual 208, 3) := by decide +kernel
theorem dX9_worth_6 : decode cX9_worth 6 = .ok (.ifCond .eq 15, 3) := by decide +kernel
theorem dX9_worth_9 : decode cX9_worth 9 = .ok (.aload_n 0, 1) := by decide +kernel
theorem dX9_worth_10 : decode cX9_worth 10 = .ok (.iload_n 2, 1) := by decide +kernel
theorem dX9_worth_11 : decode cX9_worth 11 = .ok (.invokevirtual 193, 3) := by decide +kernel
theorem dX9_worth_14 : decode cX9_worth 14 = .ok (.ifCond .eq 7, 3) := by decide +kernel
theorem dX9_worth_17 : decode cX9_worth 17 = .ok (.iconst 1, 1) := by decide +kernel
theorem dX9_worth_18 : decode cX9_worth 18 = .ok (.goto 4, 3) := by decide +kernel
theorem dX9_worth_21 : decode cX9_worth 21 = .ok (.iconst 0, 1) := by decide +kernel
theorem dX9_worth_22 : decode cX9_worth 22 = .ok (.iconst 1, 1) := by decide +kernel
theorem dX9_worth_23 : decode cX9_worth 23 = .ok (.iconst 1, 1) := by decide +kernel
theorem dX9_worth_24 : decode cX9_worth 24 = .ok (.invokevirtual 179, 3) := by decide +kernel
theorem dX9_worth_27 : decode cX9_worth 27 = .ok (.ifCond .eq 12, 3) := by decide +kernel
theorem dX9_worth_30 : decode cX9_worth 30 = .ok (.aload_n 0, 1) := by decide +kernel
theorem dX9_worth_31 : decode cX9_worth 31 = .ok (.iload_n 1, 1) := by decide +kernel
theorem dX9_worth_32 : decode cX9_worth 32 = .ok (.iload_n 2, 1) := by decide +kernel
theorem dX9_worth_33 : decode cX9_worth 33 = .ok (.invokevirtual 246, 3) := by decide +kernel
theorem dX9_worth_36 : decode cX9_worth 36 = .ok (.goto 4, 3) := by decide +kernel
theorem dX9_worth_39 : decode cX9_worth 39 = .ok (.iconst 0, 1) := by decide +kernel
theorem dX9_worth_40 : decode cX9_worth 40 = .ok (.ireturn, 1) := by decide +kernel
theorem dX9_best_0 : decode cX9_best 0 = .ok (.aload_n 0, 1) := by decide +kernel
theorem dX9_best_1 : decode cX9_best 1 = .ok (.aload_n 0, 1) := by decide +kernel
theorem dX9_best_2 : decode cX9_best 2 = .ok (.iload_n 1, 1) := by decide +kernel
theorem dX9_best_3 : decode cX9_best 3 = .ok (.invokevirtual 208, 3) := by decide +kernel
theorem dX9_best_6 : decode cX9_best 6 = .ok (.iconst 1, 1) := by decide +kernel
theorem dX9_best_7 : decode cX9_best 7 = .ok (.iconst 1, 1) := by decide +kernel
theorem dX9_best_8 : decode cX9_best 8 = .ok (.invokevirtual 179, 3) := by decide +kernel
theorem dX9_best_11 : decode cX9_best 11 = .ok (.ifCond .ne 5, 3) := by decide +kernel
theorem dX9_best_14 : decode cX9_best 14 = .ok (.iconst 0, 1) := by decide +kernel
theorem dX9_best_15 : decode cX9_best 15 = .ok (.ireturn, 1) := by decide +kernel
theorem dX9_best_16 : decode cX9_best 16 = .ok (.iconst (-1), 1) := by decide +kernel
theorem dX9_best_17 : decode cX9_best 17 = .ok (.istore_n 2, 1) := by decide +kernel
theorem dX9_best_18 : decode cX9_best 18 = .ok (.iconst 0, 1) := by decide +kernel
theorem dX9_best_19 : decode cX9_best 19 = .ok (.istore_n 3, 1) := by decide +kernel
theorem dX9_best_20 : decode cX9_best 20 = .ok (.iload_n 3, 1) := by decide +kernel
theorem dX9_best_21 : decode cX9_best 21 = .ok (.aload_n 0, 1) := by decide +kernel
theorem dX9_best_22 : decode cX9_best 22 = .ok (.getfield 169, 3) := by decide +kernel
theorem dX9_best_25 : decode cX9_best 25 = .ok (.if_icmp .ge 44, 3) := by decide +kernel
theorem dX9_best_28 : decode cX9_best 28 = .ok (.aload_n 0, 1) := by decide +kernel
theorem dX9_best_29 : decode cX9_best 29 = .ok (.iload_n 1, 1) := by decide +kernel
theorem dX9_best_30 : decode cX9_best 30 = .ok (.iload_n 3, 1) := by decide +kernel
theorem dX9_best_31 : decode cX9_best 31 = .ok (.invokevirtual 243, 3) := by decide +kernel
theorem dX9_best_34 : decode cX9_best 34 = .ok (.ifCond .ne 27, 3) := by decide +kernel
theorem dX9_best_37 : decode cX9_best 37 = .ok (.iload_n 2, 1) := by decide +kernel
theorem dX9_best_38 : decode cX9_best 38 = .ok (.iconst (-1), 1) := by decide +kernel
theorem dX9_best_39 : decode cX9_best 39 = .ok (.if_icmp .eq 18, 3) := by decide +kernel
theorem dX9_best_42 : decode cX9_best 42 = .ok (.aload_n 0, 1) := by decide +kernel
theorem dX9_best_43 : decode cX9_best 43 = .ok (.iload_n 1, 1) := by decide +kernel
theorem dX9_best_44 : decode cX9_best 44 = .ok (.iload_n 3, 1) := by decide +kernel
theorem dX9_best_45 : decode cX9_best 45 = .ok (.invokevirtual 246, 3) := by decide +kernel
theorem dX9_best_48 : decode cX9_best 48 = .ok (.aload_n 0, 1) := by decide +kernel
theorem dX9_best_49 : decode cX9_best 49 = .ok (.iload_n 1, 1) := by decide +kernel
theorem dX9_best_50 : decode cX9_best 50 = .ok (.iload_n 2, 1) := by decide +kernel
theorem dX9_best_51 : decode cX9_best 51 = .ok (.invokevirtual 246, 3) := by decide +kernel
theorem dX9_best_54 : decode cX9_best 54 = .ok (.if_icmp .le 7, 3) := by decide +kernel
theorem dX9_best_57 : decode cX9_best 57 = .ok (.iload_n 3, 1) := by decide +kernel
theorem dX9_best_58 : decode cX9_best 58 = .ok (.goto 4, 3) := by decide +kernel
theorem dX9_best_61 : decode cX9_best 61 = .ok (.iload_n 2, 1) := by decide +kernel
theorem dX9_best_62 : decode cX9_best 62 = .ok (.istore_n 2, 1) := by decide +kernel
theorem dX9_best_63 : decode cX9_best 63 = .ok (.iinc 3 1, 3) := by decide +kernel
theorem dX9_best_66 : decode cX9_best 66 = .ok (.goto (-46), 3) := by decide +kernel
theorem dX9_best_69 : decode cX9_best 69 = .ok (.iload_n 2, 1) := by decide +kernel
theorem dX9_best_70 : decode cX9_best 70 = .ok (.ireturn, 1) := by decide +kernel
theorem dX9_ends_0 : decode cX9_ends 0 = .ok (.aload_n 0, 1) := by decide +kernel
theorem dX9_ends_1 : decode cX9_ends 1 = .ok (.getfield 34, 3) := by decide +kernel
theorem dX9_ends_4 : decode cX9_ends 4 = .ok (.iload_n 1, 1) := by decide +kernel
theorem dX9_ends_5 : decode cX9_ends 5 = .ok (.iaload, 1) := by decide +kernel
theorem dX9_ends_6 : decode cX9_ends 6 = .ok (.iconst (-1), 1) := by decide +kernel
theorem dX9_ends_7 : decode cX9_ends 7 = .ok (.if_icmp .eq 25, 3) := by decide +kernel
theorem dX9_ends_10 : decode cX9_ends 10 = .ok (.aload_n 0, 1) := by decide +kernel
theorem dX9_ends_11 : decode cX9_ends 11 = .ok (.getfield 134, 3) := by decide +kernel
theorem dX9_ends_14 : decode cX9_ends 14 = .ok (.aload_n 0, 1) := by decide +kernel
theorem dX9_ends_15 : decode cX9_ends 15 = .ok (.getfield 34, 3) := by decide +kernel
theorem dX9_ends_18 : decode cX9_ends 18 = .ok (.iload_n 1, 1) := by decide +kernel
theorem dX9_ends_19 : decode cX9_ends 19 = .ok (.iaload, 1) := by decide +kernel
theorem dX9_ends_20 : decode cX9_ends 20 = .ok (.aload_n 0, 1) := by decide +kernel
theorem dX9_ends_21 : decode cX9_ends 21 = .ok (.getfield 187, 3) := by decide +kernel
theorem dX9_ends_24 : decode cX9_ends 24 = .ok (.iastore, 1) := by decide +kernel
theorem dX9_ends_25 : decode cX9_ends 25 = .ok (.aload_n 0, 1) := by decide +kernel
theorem dX9_ends_26 : decode cX9_ends 26 = .ok (.getfield 34, 3) := by decide +kernel
theorem dX9_ends_29 : decode cX9_ends 29 = .ok (.iload_n 1, 1) := by decide +kernel
theorem dX9_ends_30 : decode cX9_ends 30 = .ok (.iconst (-1), 1) := by decide +kernel
theorem dX9_ends_31 : decode cX9_ends 31 = .ok (.iastore, 1) := by decide +kernel
theorem dX9_ends_32 : decode cX9_ends 32 = .ok (.return_, 1) := by decide +kernel
theorem dX9_begins_0 : decode cX9_begins 0 = .ok (.aload_n 0, 1) := by decide +kernel
theorem dX9_begins_1 : decode cX9_begins 1 = .ok (.iload_n 1, 1) := by decide +kernel
theorem dX9_begins_2 : decode cX9_begins 2 = .ok (.invokevirtual 249, 3) := by decide +kernel
theorem dX9_begins_5 : decode cX9_begins 5 = .ok (.aload_n 0, 1) := by decide +kernel
theorem dX9_begins_6 : decode cX9_begins 6 = .ok (.getfield 125, 3) := by decide +kernel
theorem dX9_begins_9 : decode cX9_begins 9 = .ok (.aload_n 0, 1) := by decide +kernel
theorem dX9_begins_10 : decode cX9_begins 10 = .ok (.getfield 253, 3) := by decide +kernel
theorem dX9_begins_13 : decode cX9_begins 13 = .ok (.iload_n 1, 1) := by decide +kernel
theorem dX9_begins_14 : decode cX9_begins 14 = .ok (.iastore, 1) := by decide +kernel
theorem dX9_begins_15 : decode cX9_begins 15 = .ok (.aload_n 0, 1) := by decide +kernel
theorem dX9_begins_16 : decode cX9_begins 16 = .ok (.getfield 128, 3) := by decide +kernel
theorem dX9_begins_19 : decode cX9_begins 19 = .ok (.aload_n 0, 1) := by decide +kernel
theorem dX9_begins_20 : decode cX9_begins 20 = .ok (.getfield 253, 3) := by decide +kernel
theorem dX9_begins_23 : decode cX9_begins 23 = .ok (.iload_n 2, 1) := by decide +kernel
theorem dX9_begins_24 : decode cX9_begins 24 = .ok (.iastore, 1) := by decide +kernel
theorem dX9_begins_25 : decode cX9_begins 25 = .ok (.aload_n 0, 1) := by decide +kernel
theorem dX9_begins_26 : decode cX9_begins 26 = .ok (.getfield 131, 3) := by decide +kernel
theorem dX9_begins_29 : decode cX9_begins 29 = .ok (.aload_n 0, 1) := by decide +kernel
theorem dX9_begins_30 : decode cX9_begins 30 = .ok (.getfield 253, 3) := by decide +kernel
theorem dX9_begins_33 : decode cX9_begins 33 = .ok (.aload_n 0, 1) := by decide +kernel
theorem dX9_begins_34 : decode cX9_begins 34 = .ok (.getfield 187, 3) := by decide +kernel
theorem dX9_begins_37 : decode cX9_begins 37 = .ok (.iastore, 1) := by decide +kernel
theorem dX9_begins_38 : decode cX9_begins 38 = .ok (.aload_n 0, 1) := by decide +kernel
theorem dX9_begins_39 : decode cX9_begins 39 = .ok (.getfield 134, 3) := by decide +kernel
theorem dX9_begins_42 : decode cX9_begins 42 = .ok (.aload_n 0, 1) := by decide +kernel
theorem dX9_begins_43 : decode cX9_begins 43 = .ok (.getfield 253, 3) := by decide +kernel
theorem dX9_begins_46 : decode cX9_begins 46 = .ok (.iconst (-1), 1) := by decide +kernel
theorem dX9_begins_47 : decode cX9_begins 47 = .ok (.iastore, 1) := by decide +kernel
theorem dX9_begins_48 : decode cX9_begins 48 = .ok (.aload_n 0, 1) := by decide +kernel
theorem dX9_begins_49 : decode cX9_begins 49 = .ok (.getfield 137, 3) := by decide +kernel
theorem dX9_begins_52 : decode cX9_begins 52 = .ok (.aload_n 0, 1) := by decide +kernel
theorem dX9_begins_53 : decode cX9_begins 53 = .ok (.getfield 253, 3) := by decide +kernel
theorem dX9_begins_56 : decode cX9_begins 56 = .ok (.aload_n 0, 1) := by decide +kernel
theorem dX9_begins_57 : decode cX9_begins 57 = .ok (.iload_n 1, 1) := by decide +kernel
theorem dX9_begins_58 : decode cX9_begins 58 = .ok (.aload_n 0, 1) := by decide +kernel
theorem dX9_begins_59 : decode cX9_begins 59 = .ok (.getfield 187, 3) := by decide +kernel
theorem dX9_begins_62 : decode cX9_begins 62 = .ok (.invokevirtual 220, 3) := by decide +kernel
theorem dX9_begins_65 : decode cX9_begins 65 = .ok (.iastore, 1) := by decide +kernel
theorem dX9_begins_66 : decode cX9_begins 66 = .ok (.aload_n 0, 1) := by decide +kernel
theorem dX9_begins_67 : decode cX9_begins 67 = .ok (.getfield 34, 3) := by decide +kernel
theorem dX9_begins_70 : decode cX9_begins 70 = .ok (.iload_n 1, 1) := by decide +kernel
theorem dX9_begins_71 : decode cX9_begins 71 = .ok (.aload_n 0, 1) := by decide +kernel
theorem dX9_begins_72 : decode cX9_begins 72 = .ok (.getfield 253, 3) := by decide +kernel
theorem dX9_begins_75 : decode cX9_begins 75 = .ok (.iastore, 1) := by decide +kernel
theorem dX9_begins_76 : decode cX9_begins 76 = .ok (.aload_n 0, 1) := by decide +kernel
theorem dX9_begins_77 : decode cX9_begins 77 = .ok (.getfield 37, 3) := by decide +kernel
theorem dX9_begins_80 : decode cX9_begins 80 = .ok (.iload_n 1, 1) := by decide +kernel
theorem dX9_begins_81 : decode cX9_begins 81 = .ok (.dup2, 1) := by decide +kernel
theorem dX9_begins_82 : decode cX9_begins 82 = .ok (.iaload, 1) := by decide +kernel
theorem dX9_begins_83 : decode cX9_begins 83 = .ok (.iconst 1, 1) := by decide +kernel
theorem dX9_begins_84 : decode cX9_begins 84 = .ok (.iadd, 1) := by decide +kernel
theorem dX9_begins_85 : decode cX9_begins 85 = .ok (.iastore, 1) := by decide +kernel
theorem dX9_begins_86 : decode cX9_begins 86 = .ok (.aload_n 0, 1) := by decide +kernel
theorem dX9_begins_87 : decode cX9_begins 87 = .ok (.getfield 43, 3) := by decide +kernel
theorem dX9_begins_90 : decode cX9_begins 90 = .ok (.iload_n 1, 1) := by decide +kernel
theorem dX9_begins_91 : decode cX9_begins 91 = .ok (.iconst 0, 1) := by decide +kernel
theorem dX9_begins_92 : decode cX9_begins 92 = .ok (.bastore, 1) := by decide +kernel
theorem dX9_begins_93 : decode cX9_begins 93 = .ok (.aload_n 0, 1) := by decide +kernel
theorem dX9_begins_94 : decode cX9_begins 94 = .ok (.dup, 1) := by decide +kernel
theorem dX9_begins_95 : decode cX9_begins 95 = .ok (.getfield 253, 3) := by decide +kernel
theorem dX9_begins_98 : decode cX9_begins 98 = .ok (.iconst 1, 1) := by decide +kernel
theorem dX9_begins_99 : decode cX9_begins 99 = .ok (.iadd, 1) := by decide +kernel
theorem dX9_begins_100 : decode cX9_begins 100 = .ok (.putfield 253, 3) := by decide +kernel
theorem dX9_begins_103 : decode cX9_begins 103 = .ok (.aload_n 0, 1) := by decide +kernel
theorem dX9_begins_104 : decode cX9_begins 104 = .ok (.getfield 253, 3) := by decide +kernel
theorem dX9_begins_107 : decode cX9_begins 107 = .ok (.iconst 1, 1) := by decide +kernel
theorem dX9_begins_108 : decode cX9_begins 108 = .ok (.isub, 1) := by decide +kernel
theorem dX9_begins_109 : decode cX9_begins 109 = .ok (.ireturn, 1) := by decide +kernel
theorem dX9_place_0 : decode cX9_place 0 = .ok (.aload_n 0, 1) := by decide +kernel
theorem dX9_place_1 : decode cX9_place 1 = .ok (.iload_n 1, 1) := by decide +kernel
theorem dX9_place_2 : decode cX9_place 2 = .ok (.invokevirtual 208, 3) := by decide +kernel
theorem dX9_place_5 : decode cX9_place 5 = .ok (.ifCond .eq 15, 3) := by decide +kernel
theorem dX9_place_8 : decode cX9_place 8 = .ok (.aload_n 0, 1) := by decide +kernel
theorem dX9_place_9 : decode cX9_place 9 = .ok (.iload_n 2, 1) := by decide +kernel
theorem dX9_place_10 : decode cX9_place 10 = .ok (.invokevirtual 193, 3) := by decide +kernel
theorem dX9_place_13 : decode cX9_place 13 = .ok (.ifCond .eq 7, 3) := by decide +kernel
theorem dX9_place_16 : decode cX9_place 16 = .ok (.iconst 1, 1) := by decide +kernel
theorem dX9_place_17 : decode cX9_place 17 = .ok (.goto 4, 3) := by decide +kernel
theorem dX9_place_20 : decode cX9_place 20 = .ok (.iconst 0, 1) := by decide +kernel
theorem dX9_place_21 : decode cX9_place 21 = .ok (.istore_n 3, 1) := by decide +kernel
theorem dX9_place_22 : decode cX9_place 22 = .ok (.aload_n 0, 1) := by decide +kernel
theorem dX9_place_23 : decode cX9_place 23 = .ok (.iload_n 3, 1) := by decide +kernel
theorem dX9_place_24 : decode cX9_place 24 = .ok (.iload_n 3, 1) := by decide +kernel
theorem dX9_place_25 : decode cX9_place 25 = .ok (.ifCond .eq 34, 3) := by decide +kernel
theorem dX9_place_28 : decode cX9_place 28 = .ok (.aload_n 0, 1) := by decide +kernel
theorem dX9_place_29 : decode cX9_place 29 = .ok (.iload_n 1, 1) := by decide +kernel
theorem dX9_place_30 : decode cX9_place 30 = .ok (.invokevirtual 227, 3) := by decide +kernel
theorem dX9_place_33 : decode cX9_place 33 = .ok (.iload_n 2, 1) := by decide +kernel
theorem dX9_place_34 : decode cX9_place 34 = .ok (.if_icmp .eq 25, 3) := by decide +kernel
theorem dX9_place_37 : decode cX9_place 37 = .ok (.aload_n 0, 1) := by decide +kernel
theorem dX9_place_38 : decode cX9_place 38 = .ok (.iload_n 1, 1) := by decide +kernel
theorem dX9_place_39 : decode cX9_place 39 = .ok (.iload_n 2, 1) := by decide +kernel
theorem dX9_place_40 : decode cX9_place 40 = .ok (.invokevirtual 243, 3) := by decide +kernel
theorem dX9_place_43 : decode cX9_place 43 = .ok (.ifCond .ne 16, 3) := by decide +kernel
theorem dX9_place_46 : decode cX9_place 46 = .ok (.aload_n 0, 1) := by decide +kernel
theorem dX9_place_47 : decode cX9_place 47 = .ok (.getfield 253, 3) := by decide +kernel
theorem dX9_place_50 : decode cX9_place 50 = .ok (.bipush 100, 2) := by decide +kernel
theorem dX9_place_52 : decode cX9_place 52 = .ok (.if_icmp .ge 7, 3) := by decide +kernel
theorem dX9_place_55 : decode cX9_place 55 = .ok (.iconst 1, 1) := by decide +kernel
theorem dX9_place_56 : decode cX9_place 56 = .ok (.goto 4, 3) := by decide +kernel
theorem dX9_place_59 : decode cX9_place 59 = .ok (.iconst 0, 1) := by decide +kernel
theorem dX9_place_60 : decode cX9_place 60 = .ok (.iconst 1, 1) := by decide +kernel
theorem dX9_place_61 : decode cX9_place 61 = .ok (.invokevirtual 179, 3) := by decide +kernel
theorem dX9_place_64 : decode cX9_place 64 = .ok (.ifCond .ne 5, 3) := by decide +kernel
theorem dX9_place_67 : decode cX9_place 67 = .ok (.iconst 0, 1) := by decide +kernel
theorem dX9_place_68 : decode cX9_place 68 = .ok (.ireturn, 1) := by decide +kernel
theorem dX9_place_69 : decode cX9_place 69 = .ok (.aload_n 0, 1) := by decide +kernel
theorem dX9_place_70 : decode cX9_place 70 = .ok (.iload_n 1, 1) := by decide +kernel
theorem dX9_place_71 : decode cX9_place 71 = .ok (.iload_n 2, 1) := by decide +kernel
theorem dX9_place_72 : decode cX9_place 72 = .ok (.invokevirtual 256, 3) := by decide +kernel
theorem dX9_place_75 : decode cX9_place 75 = .ok (.ireturn, 1) := by decide +kernel
theorem dX9_countsWaiting_0 : decode cX9_countsWaiting 0 = .ok (.iconst 0, 1) := by decide +kernel
theorem dX9_countsWaiting_1 : decode cX9_countsWaiting 1 = .ok (.istore_n 2, 1) := by decide +kernel
theorem dX9_countsWaiting_2 : decode cX9_countsWaiting 2 = .ok (.iconst 0, 1) := by decide +kernel
theorem dX9_countsWaiting_3 : decode cX9_countsWaiting 3 = .ok (.istore_n 3, 1) := by decide +kernel
theorem dX9_countsWaiting_4 : decode cX9_countsWaiting 4 = .ok (.iload_n 3, 1) := by decide +kernel
theorem dX9_countsWaiting_5 : decode cX9_countsWaiting 5 = .ok (.aload_n 0, 1) := by decide +kernel
theorem dX9_countsWaiting_6 : decode cX9_countsWaiting 6 = .ok (.getfield 162, 3) := by decide +kernel
theorem dX9_countsWaiting_9 : decode cX9_countsWaiting 9 = .ok (.if_icmp .ge 56, 3) := by decide +kernel
theorem dX9_countsWaiting_12 : decode cX9_countsWaiting 12 = .ok (.aload_n 0, 1) := by decide +kernel
theorem dX9_countsWaiting_13 : decode cX9_countsWaiting 13 = .ok (.getfield 19, 3) := by decide +kernel
theorem dX9_countsWaiting_16 : decode cX9_countsWaiting 16 = .ok (.iload_n 3, 1) := by decide +kernel
theorem dX9_countsWaiting_17 : decode cX9_countsWaiting 17 = .ok (.iaload, 1) := by decide +kernel
theorem dX9_countsWaiting_18 : decode cX9_countsWaiting 18 = .ok (.iload_n 1, 1) := by decide +kernel
theorem dX9_countsWaiting_19 : decode cX9_countsWaiting 19 = .ok (.if_icmp .ne 40, 3) := by decide +kernel
theorem dX9_countsWaiting_22 : decode cX9_countsWaiting 22 = .ok (.aload_n 0, 1) := by decide +kernel
theorem dX9_countsWaiting_23 : decode cX9_countsWaiting 23 = .ok (.getfield 34, 3) := by decide +kernel
theorem dX9_countsWaiting_26 : decode cX9_countsWaiting 26 = .ok (.iload_n 3, 1) := by decide +kernel
theorem dX9_countsWaiting_27 : decode cX9_countsWaiting 27 = .ok (.iaload, 1) := by decide +kernel
theorem dX9_countsWaiting_28 : decode cX9_countsWaiting 28 = .ok (.iconst (-1), 1) := by decide +kernel
theorem dX9_countsWaiting_29 : decode cX9_countsWaiting 29 = .ok (.if_icmp .ne 30, 3) := by decide +kernel
theorem dX9_countsWaiting_32 : decode cX9_countsWaiting 32 = .ok (.aload_n 0, 1) := by decide +kernel
theorem dX9_countsWaiting_33 : decode cX9_countsWaiting 33 = .ok (.iload_n 3, 1) := by decide +kernel
theorem dX9_countsWaiting_34 : decode cX9_countsWaiting 34 = .ok (.aload_n 0, 1) := by decide +kernel
theorem dX9_countsWaiting_35 : decode cX9_countsWaiting 35 = .ok (.getfield 187, 3) := by decide +kernel
theorem dX9_countsWaiting_38 : decode cX9_countsWaiting 38 = .ok (.invokevirtual 234, 3) := by decide +kernel
theorem dX9_countsWaiting_41 : decode cX9_countsWaiting 41 = .ok (.ifCond .ne 18, 3) := by decide +kernel
theorem dX9_countsWaiting_44 : decode cX9_countsWaiting 44 = .ok (.iload_n 2, 1) := by decide +kernel
theorem dX9_countsWaiting_45 : decode cX9_countsWaiting 45 = .ok (.iconst 5, 1) := by decide +kernel
theorem dX9_countsWaiting_46 : decode cX9_countsWaiting 46 = .ok (.if_icmp .ge 10, 3) := by decide +kernel
theorem dX9_countsWaiting_49 : decode cX9_countsWaiting 49 = .ok (.aload_n 0, 1) := by decide +kernel
theorem dX9_countsWaiting_50 : decode cX9_countsWaiting 50 = .ok (.getfield 140, 3) := by decide +kernel
theorem dX9_countsWaiting_53 : decode cX9_countsWaiting 53 = .ok (.iload_n 2, 1) := by decide +kernel
theorem dX9_countsWaiting_54 : decode cX9_countsWaiting 54 = .ok (.iload_n 3, 1) := by decide +kernel
theorem dX9_countsWaiting_55 : decode cX9_countsWaiting 55 = .ok (.iastore, 1) := by decide +kernel
theorem dX9_countsWaiting_56 : decode cX9_countsWaiting 56 = .ok (.iinc 2 1, 3) := by decide +kernel
theorem dX9_countsWaiting_59 : decode cX9_countsWaiting 59 = .ok (.iinc 3 1, 3) := by decide +kernel
theorem dX9_countsWaiting_62 : decode cX9_countsWaiting 62 = .ok (.goto (-58), 3) := by decide +kernel
theorem dX9_countsWaiting_65 : decode cX9_countsWaiting 65 = .ok (.iload_n 2, 1) := by decide +kernel
theorem dX9_countsWaiting_66 : decode cX9_countsWaiting 66 = .ok (.ireturn, 1) := by decide +kernel
theorem dX9_valueOf_0 : decode cX9_valueOf 0 = .ok (.iconst 0, 1) := by decide +kernel
theorem dX9_valueOf_1 : decode cX9_valueOf 1 = .ok (.istore_n 1, 1) := by decide +kernel
theorem dX9_valueOf_2 : decode cX9_valueOf 2 = .ok (.iconst 0, 1) := by decide +kernel
theorem dX9_valueOf_3 : decode cX9_valueOf 3 = .ok (.istore_n 2, 1) := by decide +kernel
theorem dX9_valueOf_4 : decode cX9_valueOf 4 = .ok (.iconst 0, 1) := by decide +kernel
theorem dX9_valueOf_5 : decode cX9_valueOf 5 = .ok (.istore_n 3, 1) := by decide +kernel
theorem dX9_valueOf_6 : decode cX9_valueOf 6 = .ok (.iconst 0, 1) := by decide +kernel
theorem dX9_valueOf_7 : decode cX9_valueOf 7 = .ok (.istore 4, 2) := by decide +kernel
theorem dX9_valueOf_9 : decode cX9_valueOf 9 = .ok (.iload 4, 2) := by decide +kernel
theorem dX9_valueOf_11 : decode cX9_valueOf 11 = .ok (.aload_n 0, 1) := by decide +kernel
theorem dX9_valueOf_12 : decode cX9_valueOf 12 = .ok (.getfield 259, 3) := by decide +kernel
theorem dX9_valueOf_15 : decode cX9_valueOf 15 = .ok (.if_icmp .ge 130, 3) := by decide +kernel
theorem dX9_valueOf_18 : decode cX9_valueOf 18 = .ok (.aload_n 0, 1) := by decide +kernel
theorem dX9_valueOf_19 : decode cX9_valueOf 19 = .ok (.getfield 143, 3) := by decide +kernel
theorem dX9_valueOf_22 : decode cX9_valueOf 22 = .ok (.iload 4, 2) := by decide +kernel
theorem dX9_valueOf_24 : decode cX9_valueOf 24 = .ok (.iaload, 1) := by decide +kernel
theorem dX9_valueOf_25 : decode cX9_valueOf 25 = .ok (.istore 5, 2) := by decide +kernel
theorem dX9_valueOf_27 : decode cX9_valueOf 27 = .ok (.iload 5, 2) := by decide +kernel
theorem dX9_valueOf_29 : decode cX9_valueOf 29 = .ok (.aload_n 0, 1) := by decide +kernel
theorem dX9_valueOf_30 : decode cX9_valueOf 30 = .ok (.getfield 169, 3) := by decide +kernel
theorem dX9_valueOf_33 : decode cX9_valueOf 33 = .ok (.if_icmp .ge 106, 3) := by decide +kernel
theorem dX9_valueOf_36 : decode cX9_valueOf 36 = .ok (.iconst 0, 1) := by decide +kernel
theorem dX9_valueOf_37 : decode cX9_valueOf 37 = .ok (.istore 6, 2) := by decide +kernel
theorem dX9_valueOf_39 : decode cX9_valueOf 39 = .ok (.iconst 0, 1) := by decide +kernel
theorem dX9_valueOf_40 : decode cX9_valueOf 40 = .ok (.istore 7, 2) := by decide +kernel
theorem dX9_valueOf_42 : decode cX9_valueOf 42 = .ok (.iload 7, 2) := by decide +kernel
theorem dX9_valueOf_44 : decode cX9_valueOf 44 = .ok (.iload 4, 2) := by decide +kernel
theorem dX9_valueOf_46 : decode cX9_valueOf 46 = .ok (.if_icmp .ge 31, 3) := by decide +kernel
theorem dX9_valueOf_49 : decode cX9_valueOf 49 = .ok (.iload 6, 2) := by decide +kernel
theorem dX9_valueOf_51 : decode cX9_valueOf 51 = .ok (.aload_n 0, 1) := by decide +kernel
theorem dX9_valueOf_52 : decode cX9_valueOf 52 = .ok (.getfield 143, 3) := by decide +kernel
theorem dX9_valueOf_55 : decode cX9_valueOf 55 = .ok (.iload 7, 2) := by decide +kernel
theorem dX9_valueOf_57 : decode cX9_valueOf 57 = .ok (.iaload, 1) := by decide +kernel
theorem dX9_valueOf_58 : decode cX9_valueOf 58 = .ok (.iload 5, 2) := by decide +kernel
theorem dX9_valueOf_60 : decode cX9_valueOf 60 = .ok (.if_icmp .ne 7, 3) := by decide +kernel
theorem dX9_valueOf_63 : decode cX9_valueOf 63 = .ok (.iconst 1, 1) := by decide +kernel
theorem dX9_valueOf_64 : decode cX9_valueOf 64 = .ok (.goto 4, 3) := by decide +kernel
theorem dX9_valueOf_67 : decode cX9_valueOf 67 = .ok (.iconst 0, 1) := by decide +kernel
theorem dX9_valueOf_68 : decode cX9_valueOf 68 = .ok (.iadd, 1) := by decide +kernel
theorem dX9_valueOf_69 : decode cX9_valueOf 69 = .ok (.istore 6, 2) := by decide +kernel
theorem dX9_valueOf_71 : decode cX9_valueOf 71 = .ok (.iinc 7 1, 3) := by decide +kernel
theorem dX9_valueOf_74 : decode cX9_valueOf 74 = .ok (.goto (-32), 3) := by decide +kernel
theorem dX9_valueOf_77 : decode cX9_valueOf 77 = .ok (.aload_n 0, 1) := by decide +kernel
theorem dX9_valueOf_78 : decode cX9_valueOf 78 = .ok (.getfield 149, 3) := by decide +kernel
theorem dX9_valueOf_81 : decode cX9_valueOf 81 = .ok (.bipush 10, 2) := by decide +kernel
theorem dX9_valueOf_83 : decode cX9_valueOf 83 = .ok (.iload 4, 2) := by decide +kernel
theorem dX9_valueOf_85 : decode cX9_valueOf 85 = .ok (.imul, 1) := by decide +kernel
theorem dX9_valueOf_86 : decode cX9_valueOf 86 = .ok (.iload 5, 2) := by decide +kernel
theorem dX9_valueOf_88 : decode cX9_valueOf 88 = .ok (.iadd, 1) := by decide +kernel
theorem dX9_valueOf_89 : decode cX9_valueOf 89 = .ok (.baload, 1) := by decide +kernel
theorem dX9_valueOf_90 : decode cX9_valueOf 90 = .ok (.ifCond .eq 15, 3) := by decide +kernel
theorem dX9_valueOf_93 : decode cX9_valueOf 93 = .ok (.iload 6, 2) := by decide +kernel
theorem dX9_valueOf_95 : decode cX9_valueOf 95 = .ok (.aload_n 0, 1) := by decide +kernel
theorem dX9_valueOf_96 : decode cX9_valueOf 96 = .ok (.getfield 155, 3) := by decide +kernel
theorem dX9_valueOf_99 : decode cX9_valueOf 99 = .ok (.iload 5, 2) := by decide +kernel
theorem dX9_valueOf_101 : decode cX9_valueOf 101 = .ok (.iaload, 1) := by decide +kernel
theorem dX9_valueOf_102 : decode cX9_valueOf 102 = .ok (.if_icmp .ne 5, 3) := by decide +kernel
theorem dX9_valueOf_105 : decode cX9_valueOf 105 = .ok (.iconst (-1), 1) := by decide +kernel
theorem dX9_valueOf_106 : decode cX9_valueOf 106 = .ok (.ireturn, 1) := by decide +kernel
theorem dX9_valueOf_107 : decode cX9_valueOf 107 = .ok (.iinc 1 1, 3) := by decide +kernel
theorem dX9_valueOf_110 : decode cX9_valueOf 110 = .ok (.iload_n 2, 1) := by decide +kernel
theorem dX9_valueOf_111 : decode cX9_valueOf 111 = .ok (.iload 6, 2) := by decide +kernel
theorem dX9_valueOf_113 : decode cX9_valueOf 113 = .ok (.ifCond .ne 7, 3) := by decide +kernel
theorem dX9_valueOf_116 : decode cX9_valueOf 116 = .ok (.iconst 1, 1) := by decide +kernel
theorem dX9_valueOf_117 : decode cX9_valueOf 117 = .ok (.goto 4, 3) := by decide +kernel
theorem dX9_valueOf_120 : decode cX9_valueOf 120 = .ok (.iconst 0, 1) := by decide +kernel
theorem dX9_valueOf_121 : decode cX9_valueOf 121 = .ok (.iadd, 1) := by decide +kernel
theorem dX9_valueOf_122 : decode cX9_valueOf 122 = .ok (.istore_n 2, 1) := by decide +kernel
theorem dX9_valueOf_123 : decode cX9_valueOf 123 = .ok (.iload_n 3, 1) := by decide +kernel
theorem dX9_valueOf_124 : decode cX9_valueOf 124 = .ok (.aload_n 0, 1) := by decide +kernel
theorem dX9_valueOf_125 : decode cX9_valueOf 125 = .ok (.getfield 152, 3) := by decide +kernel
theorem dX9_valueOf_128 : decode cX9_valueOf 128 = .ok (.bipush 10, 2) := by decide +kernel
theorem dX9_valueOf_130 : decode cX9_valueOf 130 = .ok (.iload 4, 2) := by decide +kernel
theorem dX9_valueOf_132 : decode cX9_valueOf 132 = .ok (.imul, 1) := by decide +kernel
theorem dX9_valueOf_133 : decode cX9_valueOf 133 = .ok (.iload 5, 2) := by decide +kernel
theorem dX9_valueOf_135 : decode cX9_valueOf 135 = .ok (.iadd, 1) := by decide +kernel
theorem dX9_valueOf_136 : decode cX9_valueOf 136 = .ok (.iaload, 1) := by decide +kernel
theorem dX9_valueOf_137 : decode cX9_valueOf 137 = .ok (.iadd, 1) := by decide +kernel
theorem dX9_valueOf_138 : decode cX9_valueOf 138 = .ok (.istore_n 3, 1) := by decide +kernel
theorem dX9_valueOf_139 : decode cX9_valueOf 139 = .ok (.iinc 4 1, 3) := by decide +kernel
theorem dX9_valueOf_142 : decode cX9_valueOf 142 = .ok (.goto (-133), 3) := by decide +kernel
theorem dX9_valueOf_145 : decode cX9_valueOf 145 = .ok (.ldc_w 262, 3) := by decide +kernel
theorem dX9_valueOf_148 : decode cX9_valueOf 148 = .ok (.iload_n 1, 1) := by decide +kernel
theorem dX9_valueOf_149 : decode cX9_valueOf 149 = .ok (.imul, 1) := by decide +kernel
theorem dX9_valueOf_150 : decode cX9_valueOf 150 = .ok (.sipush 10000, 3) := by decide +kernel
theorem dX9_valueOf_153 : decode cX9_valueOf 153 = .ok (.bipush 9, 2) := by decide +kernel
theorem dX9_valueOf_155 : decode cX9_valueOf 155 = .ok (.iload_n 2, 1) := by decide +kernel
theorem dX9_valueOf_156 : decode cX9_valueOf 156 = .ok (.isub, 1) := by decide +kernel
theorem dX9_valueOf_157 : decode cX9_valueOf 157 = .ok (.imul, 1) := by decide +kernel
theorem dX9_valueOf_158 : decode cX9_valueOf 158 = .ok (.iadd, 1) := by decide +kernel
theorem dX9_valueOf_159 : decode cX9_valueOf 159 = .ok (.iload_n 3, 1) := by decide +kernel
theorem dX9_valueOf_160 : decode cX9_valueOf 160 = .ok (.iadd, 1) := by decide +kernel
theorem dX9_valueOf_161 : decode cX9_valueOf 161 = .ok (.sipush 2000, 3) := by decide +kernel
theorem dX9_valueOf_164 : decode cX9_valueOf 164 = .ok (.iadd, 1) := by decide +kernel
theorem dX9_valueOf_165 : decode cX9_valueOf 165 = .ok (.ireturn, 1) := by decide +kernel
theorem dX9_isNext_0 : decode cX9_isNext 0 = .ok (.aload_n 0, 1) := by decide +kernel
theorem dX9_isNext_1 : decode cX9_isNext 1 = .ok (.getfield 259, 3) := by decide +kernel
theorem dX9_isNext_4 : decode cX9_isNext 4 = .ok (.iconst 1, 1) := by decide +kernel
theorem dX9_isNext_5 : decode cX9_isNext 5 = .ok (.isub, 1) := by decide +kernel
theorem dX9_isNext_6 : decode cX9_isNext 6 = .ok (.istore_n 1, 1) := by decide +kernel
theorem dX9_isNext_7 : decode cX9_isNext 7 = .ok (.iload_n 1, 1) := by decide +kernel
theorem dX9_isNext_8 : decode cX9_isNext 8 = .ok (.ifCond .lt 29, 3) := by decide +kernel
theorem dX9_isNext_11 : decode cX9_isNext 11 = .ok (.aload_n 0, 1) := by decide +kernel
theorem dX9_isNext_12 : decode cX9_isNext 12 = .ok (.getfield 143, 3) := by decide +kernel
theorem dX9_isNext_15 : decode cX9_isNext 15 = .ok (.iload_n 1, 1) := by decide +kernel
theorem dX9_isNext_16 : decode cX9_isNext 16 = .ok (.iaload, 1) := by decide +kernel
theorem dX9_isNext_17 : decode cX9_isNext 17 = .ok (.aload_n 0, 1) := by decide +kernel
theorem dX9_isNext_18 : decode cX9_isNext 18 = .ok (.getfield 169, 3) := by decide +kernel
theorem dX9_isNext_21 : decode cX9_isNext 21 = .ok (.if_icmp .ne 16, 3) := by decide +kernel
theorem dX9_isNext_24 : decode cX9_isNext 24 = .ok (.aload_n 0, 1) := by decide +kernel
theorem dX9_isNext_25 : decode cX9_isNext 25 = .ok (.getfield 143, 3) := by decide +kernel
theorem dX9_isNext_28 : decode cX9_isNext 28 = .ok (.iload_n 1, 1) := by decide +kernel
theorem dX9_isNext_29 : decode cX9_isNext 29 = .ok (.iconst 0, 1) := by decide +kernel
theorem dX9_isNext_30 : decode cX9_isNext 30 = .ok (.iastore, 1) := by decide +kernel
theorem dX9_isNext_31 : decode cX9_isNext 31 = .ok (.iinc 1 (-1), 3) := by decide +kernel
theorem dX9_isNext_34 : decode cX9_isNext 34 = .ok (.goto (-27), 3) := by decide +kernel
theorem dX9_isNext_37 : decode cX9_isNext 37 = .ok (.iload_n 1, 1) := by decide +kernel
theorem dX9_isNext_38 : decode cX9_isNext 38 = .ok (.ifCond .lt 13, 3) := by decide +kernel
theorem dX9_isNext_41 : decode cX9_isNext 41 = .ok (.aload_n 0, 1) := by decide +kernel
theorem dX9_isNext_42 : decode cX9_isNext 42 = .ok (.getfield 143, 3) := by decide +kernel
theorem dX9_isNext_45 : decode cX9_isNext 45 = .ok (.iload_n 1, 1) := by decide +kernel
theorem dX9_isNext_46 : decode cX9_isNext 46 = .ok (.dup2, 1) := by decide +kernel
theorem dX9_isNext_47 : decode cX9_isNext 47 = .ok (.iaload, 1) := by decide +kernel
theorem dX9_isNext_48 : decode cX9_isNext 48 = .ok (.iconst 1, 1) := by decide +kernel
theorem dX9_isNext_49 : decode cX9_isNext 49 = .ok (.iadd, 1) := by decide +kernel
theorem dX9_isNext_50 : decode cX9_isNext 50 = .ok (.iastore, 1) := by decide +kernel
theorem dX9_isNext_51 : decode cX9_isNext 51 = .ok (.iload_n 1, 1) := by decide +kernel
theorem dX9_isNext_52 : decode cX9_isNext 52 = .ok (.ifCond .lt 7, 3) := by decide +kernel
theorem dX9_isNext_55 : decode cX9_isNext 55 = .ok (.iconst 1, 1) := by decide +kernel
theorem dX9_isNext_56 : decode cX9_isNext 56 = .ok (.goto 4, 3) := by decide +kernel
theorem dX9_isNext_59 : decode cX9_isNext 59 = .ok (.iconst 0, 1) := by decide +kernel
theorem dX9_isNext_60 : decode cX9_isNext 60 = .ok (.ireturn, 1) := by decide +kernel
theorem dX9_finds_0 : decode cX9_finds 0 = .ok (.iconst (-1), 1) := by decide +kernel
theorem dX9_finds_1 : decode cX9_finds 1 = .ok (.istore_n 1, 1) := by decide +kernel
theorem dX9_finds_2 : decode cX9_finds 2 = .ok (.iconst 0, 1) := by decide +kernel
theorem dX9_finds_3 : decode cX9_finds 3 = .ok (.istore_n 2, 1) := by decide +kernel
theorem dX9_finds_4 : decode cX9_finds 4 = .ok (.iconst 0, 1) := by decide +kernel
theorem dX9_finds_5 : decode cX9_finds 5 = .ok (.istore_n 3, 1) := by decide +kernel
theorem dX9_finds_6 : decode cX9_finds 6 = .ok (.iload_n 3, 1) := by decide +kernel
theorem dX9_finds_7 : decode cX9_finds 7 = .ok (.aload_n 0, 1) := by decide +kernel
theorem dX9_finds_8 : decode cX9_finds 8 = .ok (.getfield 259, 3) := by decide +kernel
theorem dX9_finds_11 : decode cX9_finds 11 = .ok (.if_icmp .ge 112, 3) := by decide +kernel
theorem dX9_finds_14 : decode cX9_finds 14 = .ok (.aload_n 0, 1) := by decide +kernel
theorem dX9_finds_15 : decode cX9_finds 15 = .ok (.getfield 143, 3) := by decide +kernel
theorem dX9_finds_18 : decode cX9_finds 18 = .ok (.iload_n 3, 1) := by decide +kernel
theorem dX9_finds_19 : decode cX9_finds 19 = .ok (.iconst 0, 1) := by decide +kernel
theorem dX9_finds_20 : decode cX9_finds 20 = .ok (.iastore, 1) := by decide +kernel
theorem dX9_finds_21 : decode cX9_finds 21 = .ok (.iconst 0, 1) := by decide +kernel
theorem dX9_finds_22 : decode cX9_finds 22 = .ok (.istore 4, 2) := by decide +kernel
theorem dX9_finds_24 : decode cX9_finds 24 = .ok (.iload 4, 2) := by decide +kernel
theorem dX9_finds_26 : decode cX9_finds 26 = .ok (.aload_n 0, 1) := by decide +kernel
theorem dX9_finds_27 : decode cX9_finds 27 = .ok (.getfield 169, 3) := by decide +kernel
theorem dX9_finds_30 : decode cX9_finds 30 = .ok (.if_icmp .ge 87, 3) := by decide +kernel
theorem dX9_finds_33 : decode cX9_finds 33 = .ok (.aload_n 0, 1) := by decide +kernel
theorem dX9_finds_34 : decode cX9_finds 34 = .ok (.getfield 149, 3) := by decide +kernel
theorem dX9_finds_37 : decode cX9_finds 37 = .ok (.bipush 10, 2) := by decide +kernel
theorem dX9_finds_39 : decode cX9_finds 39 = .ok (.iload_n 3, 1) := by decide +kernel
theorem dX9_finds_40 : decode cX9_finds 40 = .ok (.imul, 1) := by decide +kernel
theorem dX9_finds_41 : decode cX9_finds 41 = .ok (.iload 4, 2) := by decide +kernel
theorem dX9_finds_43 : decode cX9_finds 43 = .ok (.iadd, 1) := by decide +kernel
theorem dX9_finds_44 : decode cX9_finds 44 = .ok (.aload_n 0, 1) := by decide +kernel
theorem dX9_finds_45 : decode cX9_finds 45 = .ok (.aload_n 0, 1) := by decide +kernel
theorem dX9_finds_46 : decode cX9_finds 46 = .ok (.getfield 140, 3) := by decide +kernel
theorem dX9_finds_49 : decode cX9_finds 49 = .ok (.iload_n 3, 1) := by decide +kernel
theorem dX9_finds_50 : decode cX9_finds 50 = .ok (.iaload, 1) := by decide +kernel
theorem dX9_finds_51 : decode cX9_finds 51 = .ok (.iload 4, 2) := by decide +kernel
theorem dX9_finds_53 : decode cX9_finds 53 = .ok (.invokevirtual 243, 3) := by decide +kernel
theorem dX9_finds_56 : decode cX9_finds 56 = .ok (.ifCond .ne 7, 3) := by decide +kernel
theorem dX9_finds_59 : decode cX9_finds 59 = .ok (.iconst 1, 1) := by decide +kernel
theorem dX9_finds_60 : decode cX9_finds 60 = .ok (.goto 4, 3) := by decide +kernel
theorem dX9_finds_63 : decode cX9_finds 63 = .ok (.iconst 0, 1) := by decide +kernel
theorem dX9_finds_64 : decode cX9_finds 64 = .ok (.bastore, 1) := by decide +kernel
theorem dX9_finds_65 : decode cX9_finds 65 = .ok (.aload_n 0, 1) := by decide +kernel
theorem dX9_finds_66 : decode cX9_finds 66 = .ok (.getfield 152, 3) := by decide +kernel
theorem dX9_finds_69 : decode cX9_finds 69 = .ok (.bipush 10, 2) := by decide +kernel
theorem dX9_finds_71 : decode cX9_finds 71 = .ok (.iload_n 3, 1) := by decide +kernel
theorem dX9_finds_72 : decode cX9_finds 72 = .ok (.imul, 1) := by decide +kernel
theorem dX9_finds_73 : decode cX9_finds 73 = .ok (.iload 4, 2) := by decide +kernel
theorem dX9_finds_75 : decode cX9_finds 75 = .ok (.iadd, 1) := by decide +kernel
theorem dX9_finds_76 : decode cX9_finds 76 = .ok (.aload_n 0, 1) := by decide +kernel
theorem dX9_finds_77 : decode cX9_finds 77 = .ok (.aload_n 0, 1) := by decide +kernel
theorem dX9_finds_78 : decode cX9_finds 78 = .ok (.getfield 140, 3) := by decide +kernel
theorem dX9_finds_81 : decode cX9_finds 81 = .ok (.iload_n 3, 1) := by decide +kernel
theorem dX9_finds_82 : decode cX9_finds 82 = .ok (.iaload, 1) := by decide +kernel
theorem dX9_finds_83 : decode cX9_finds 83 = .ok (.iload 4, 2) := by decide +kernel
theorem dX9_finds_85 : decode cX9_finds 85 = .ok (.invokevirtual 246, 3) := by decide +kernel
theorem dX9_finds_88 : decode cX9_finds 88 = .ok (.iastore, 1) := by decide +kernel
theorem dX9_finds_89 : decode cX9_finds 89 = .ok (.aload_n 0, 1) := by decide +kernel
theorem dX9_finds_90 : decode cX9_finds 90 = .ok (.getfield 155, 3) := by decide +kernel
theorem dX9_finds_93 : decode cX9_finds 93 = .ok (.iload 4, 2) := by decide +kernel
theorem dX9_finds_95 : decode cX9_finds 95 = .ok (.aload_n 0, 1) := by decide +kernel
theorem dX9_finds_96 : decode cX9_finds 96 = .ok (.getfield 71, 3) := by decide +kernel
theorem dX9_finds_99 : decode cX9_finds 99 = .ok (.iload 4, 2) := by decide +kernel
theorem dX9_finds_101 : decode cX9_finds 101 = .ok (.iaload, 1) := by decide +kernel
theorem dX9_finds_102 : decode cX9_finds 102 = .ok (.aload_n 0, 1) := by decide +kernel
theorem dX9_finds_103 : decode cX9_finds 103 = .ok (.iconst (-1), 1) := by decide +kernel
theorem dX9_finds_104 : decode cX9_finds 104 = .ok (.iload 4, 2) := by decide +kernel
theorem dX9_finds_106 : decode cX9_finds 106 = .ok (.invokevirtual 240, 3) := by decide +kernel
theorem dX9_finds_109 : decode cX9_finds 109 = .ok (.isub, 1) := by decide +kernel
theorem dX9_finds_110 : decode cX9_finds 110 = .ok (.iastore, 1) := by decide +kernel
theorem dX9_finds_111 : decode cX9_finds 111 = .ok (.iinc 4 1, 3) := by decide +kernel
theorem dX9_finds_114 : decode cX9_finds 114 = .ok (.goto (-90), 3) := by decide +kernel
theorem dX9_finds_117 : decode cX9_finds 117 = .ok (.iinc 3 1, 3) := by decide +kernel
theorem dX9_finds_120 : decode cX9_finds 120 = .ok (.goto (-114), 3) := by decide +kernel
theorem dX9_finds_123 : decode cX9_finds 123 = .ok (.iconst 1, 1) := by decide +kernel
theorem dX9_finds_124 : decode cX9_finds 124 = .ok (.istore_n 3, 1) := by decide +kernel
theorem dX9_finds_125 : decode cX9_finds 125 = .ok (.iload_n 3, 1) := by decide +kernel
theorem dX9_finds_126 : decode cX9_finds 126 = .ok (.ifCond .eq 82, 3) := by decide +kernel
theorem dX9_finds_129 : decode cX9_finds 129 = .ok (.aload_n 0, 1) := by decide +kernel
theorem dX9_finds_130 : decode cX9_finds 130 = .ok (.invokevirtual 263, 3) := by decide +kernel
theorem dX9_finds_133 : decode cX9_finds 133 = .ok (.istore 4, 2) := by decide +kernel
theorem dX9_finds_135 : decode cX9_finds 135 = .ok (.iload 4, 2) := by decide +kernel
theorem dX9_finds_137 : decode cX9_finds 137 = .ok (.iload_n 1, 1) := by decide +kernel
theorem dX9_finds_138 : decode cX9_finds 138 = .ok (.if_icmp .le 62, 3) := by decide +kernel
theorem dX9_finds_141 : decode cX9_finds 141 = .ok (.iload 4, 2) := by decide +kernel
theorem dX9_finds_143 : decode cX9_finds 143 = .ok (.istore_n 1, 1) := by decide +kernel
theorem dX9_finds_144 : decode cX9_finds 144 = .ok (.iconst 0, 1) := by decide +kernel
theorem dX9_finds_145 : decode cX9_finds 145 = .ok (.istore_n 2, 1) := by decide +kernel
theorem dX9_finds_146 : decode cX9_finds 146 = .ok (.iconst 0, 1) := by decide +kernel
theorem dX9_finds_147 : decode cX9_finds 147 = .ok (.istore 5, 2) := by decide +kernel
theorem dX9_finds_149 : decode cX9_finds 149 = .ok (.iload 5, 2) := by decide +kernel
theorem dX9_finds_151 : decode cX9_finds 151 = .ok (.aload_n 0, 1) := by decide +kernel
theorem dX9_finds_152 : decode cX9_finds 152 = .ok (.getfield 259, 3) := by decide +kernel
theorem dX9_finds_155 : decode cX9_finds 155 = .ok (.if_icmp .ge 45, 3) := by decide +kernel
theorem dX9_finds_158 : decode cX9_finds 158 = .ok (.aload_n 0, 1) := by decide +kernel
theorem dX9_finds_159 : decode cX9_finds 159 = .ok (.getfield 146, 3) := by decide +kernel
theorem dX9_finds_162 : decode cX9_finds 162 = .ok (.iload 5, 2) := by decide +kernel
theorem dX9_finds_164 : decode cX9_finds 164 = .ok (.aload_n 0, 1) := by decide +kernel
theorem dX9_finds_165 : decode cX9_finds 165 = .ok (.getfield 143, 3) := by decide +kernel
theorem dX9_finds_168 : decode cX9_finds 168 = .ok (.iload 5, 2) := by decide +kernel
theorem dX9_finds_170 : decode cX9_finds 170 = .ok (.iaload, 1) := by decide +kernel
theorem dX9_finds_171 : decode cX9_finds 171 = .ok (.iastore, 1) := by decide +kernel
theorem dX9_finds_172 : decode cX9_finds 172 = .ok (.iload_n 2, 1) := by decide +kernel
theorem dX9_finds_173 : decode cX9_finds 173 = .ok (.aload_n 0, 1) := by decide +kernel
theorem dX9_finds_174 : decode cX9_finds 174 = .ok (.getfield 143, 3) := by decide +kernel
theorem dX9_finds_177 : decode cX9_finds 177 = .ok (.iload 5, 2) := by decide +kernel
theorem dX9_finds_179 : decode cX9_finds 179 = .ok (.iaload, 1) := by decide +kernel
theorem dX9_finds_180 : decode cX9_finds 180 = .ok (.aload_n 0, 1) := by decide +kernel
theorem dX9_finds_181 : decode cX9_finds 181 = .ok (.getfield 169, 3) := by decide +kernel
theorem dX9_finds_184 : decode cX9_finds 184 = .ok (.if_icmp .ge 7, 3) := by decide +kernel
theorem dX9_finds_187 : decode cX9_finds 187 = .ok (.iconst 1, 1) := by decide +kernel
theorem dX9_finds_188 : decode cX9_finds 188 = .ok (.goto 4, 3) := by decide +kernel
theorem dX9_finds_191 : decode cX9_finds 191 = .ok (.iconst 0, 1) := by decide +kernel
theorem dX9_finds_192 : decode cX9_finds 192 = .ok (.iadd, 1) := by decide +kernel
theorem dX9_finds_193 : decode cX9_finds 193 = .ok (.istore_n 2, 1) := by decide +kernel
theorem dX9_finds_194 : decode cX9_finds 194 = .ok (.iinc 5 1, 3) := by decide +kernel
theorem dX9_finds_197 : decode cX9_finds 197 = .ok (.goto (-48), 3) := by decide +kernel
theorem dX9_finds_200 : decode cX9_finds 200 = .ok (.aload_n 0, 1) := by decide +kernel
theorem dX9_finds_201 : decode cX9_finds 201 = .ok (.invokevirtual 266, 3) := by decide +kernel
theorem dX9_finds_204 : decode cX9_finds 204 = .ok (.istore_n 3, 1) := by decide +kernel
theorem dX9_finds_205 : decode cX9_finds 205 = .ok (.goto (-80), 3) := by decide +kernel
theorem dX9_finds_208 : decode cX9_finds 208 = .ok (.iload_n 2, 1) := by decide +kernel
theorem dX9_finds_209 : decode cX9_finds 209 = .ok (.ireturn, 1) := by decide +kernel
theorem dX9_placeAll_0 : decode cX9_placeAll 0 = .ok (.iload_n 1, 1) := by decide +kernel
theorem dX9_placeAll_1 : decode cX9_placeAll 1 = .ok (.iconst 0, 1) := by decide +kernel
theorem dX9_placeAll_2 : decode cX9_placeAll 2 = .ok (.bipush 7, 2) := by decide +kernel
theorem dX9_placeAll_4 : decode cX9_placeAll 4 = .ok (.invokestatic 165, 3) := by decide +kernel
theorem dX9_placeAll_7 : decode cX9_placeAll 7 = .ok (.istore_n 2, 1) := by decide +kernel
theorem dX9_placeAll_8 : decode cX9_placeAll 8 = .ok (.aload_n 0, 1) := by decide +kernel
theorem dX9_placeAll_9 : decode cX9_placeAll 9 = .ok (.iload_n 2, 1) := by decide +kernel
theorem dX9_placeAll_10 : decode cX9_placeAll 10 = .ok (.ifCond .eq 11, 3) := by decide +kernel
theorem dX9_placeAll_13 : decode cX9_placeAll 13 = .ok (.aload_n 0, 1) := by decide +kernel
theorem dX9_placeAll_14 : decode cX9_placeAll 14 = .ok (.iload_n 1, 1) := by decide +kernel
theorem dX9_placeAll_15 : decode cX9_placeAll 15 = .ok (.invokevirtual 270, 3) := by decide +kernel
theorem dX9_placeAll_18 : decode cX9_placeAll 18 = .ok (.goto 4, 3) := by decide +kernel
theorem dX9_placeAll_21 : decode cX9_placeAll 21 = .ok (.iconst 0, 1) := by decide +kernel
theorem dX9_placeAll_22 : decode cX9_placeAll 22 = .ok (.putfield 259, 3) := by decide +kernel
theorem dX9_placeAll_25 : decode cX9_placeAll 25 = .ok (.aload_n 0, 1) := by decide +kernel
theorem dX9_placeAll_26 : decode cX9_placeAll 26 = .ok (.iload_n 2, 1) := by decide +kernel
theorem dX9_placeAll_27 : decode cX9_placeAll 27 = .ok (.aload_n 0, 1) := by decide +kernel
theorem dX9_placeAll_28 : decode cX9_placeAll 28 = .ok (.getfield 259, 3) := by decide +kernel
theorem dX9_placeAll_31 : decode cX9_placeAll 31 = .ok (.iconst 5, 1) := by decide +kernel
theorem dX9_placeAll_32 : decode cX9_placeAll 32 = .ok (.if_icmp .gt 33, 3) := by decide +kernel
theorem dX9_placeAll_35 : decode cX9_placeAll 35 = .ok (.aload_n 0, 1) := by decide +kernel
theorem dX9_placeAll_36 : decode cX9_placeAll 36 = .ok (.getfield 253, 3) := by decide +kernel
theorem dX9_placeAll_39 : decode cX9_placeAll 39 = .ok (.aload_n 0, 1) := by decide +kernel
theorem dX9_placeAll_40 : decode cX9_placeAll 40 = .ok (.getfield 259, 3) := by decide +kernel
theorem dX9_placeAll_43 : decode cX9_placeAll 43 = .ok (.iconst 5, 1) := by decide +kernel
theorem dX9_placeAll_44 : decode cX9_placeAll 44 = .ok (.if_icmp .gt 10, 3) := by decide +kernel
theorem dX9_placeAll_47 : decode cX9_placeAll 47 = .ok (.aload_n 0, 1) := by decide +kernel
theorem dX9_placeAll_48 : decode cX9_placeAll 48 = .ok (.invokevirtual 273, 3) := by decide +kernel
theorem dX9_placeAll_51 : decode cX9_placeAll 51 = .ok (.goto 4, 3) := by decide +kernel
theorem dX9_placeAll_54 : decode cX9_placeAll 54 = .ok (.iconst 0, 1) := by decide +kernel
theorem dX9_placeAll_55 : decode cX9_placeAll 55 = .ok (.iadd, 1) := by decide +kernel
theorem dX9_placeAll_56 : decode cX9_placeAll 56 = .ok (.bipush 100, 2) := by decide +kernel
theorem dX9_placeAll_58 : decode cX9_placeAll 58 = .ok (.if_icmp .gt 7, 3) := by decide +kernel
theorem dX9_placeAll_61 : decode cX9_placeAll 61 = .ok (.iconst 1, 1) := by decide +kernel
theorem dX9_placeAll_62 : decode cX9_placeAll 62 = .ok (.goto 4, 3) := by decide +kernel
theorem dX9_placeAll_65 : decode cX9_placeAll 65 = .ok (.iconst 0, 1) := by decide +kernel
theorem dX9_placeAll_66 : decode cX9_placeAll 66 = .ok (.iconst 1, 1) := by decide +kernel
theorem dX9_placeAll_67 : decode cX9_placeAll 67 = .ok (.invokevirtual 179, 3) := by decide +kernel
theorem dX9_placeAll_70 : decode cX9_placeAll 70 = .ok (.ifCond .ne 5, 3) := by decide +kernel
theorem dX9_placeAll_73 : decode cX9_placeAll 73 = .ok (.iconst 0, 1) := by decide +kernel
theorem dX9_placeAll_74 : decode cX9_placeAll 74 = .ok (.ireturn, 1) := by decide +kernel
theorem dX9_placeAll_75 : decode cX9_placeAll 75 = .ok (.iconst 0, 1) := by decide +kernel
theorem dX9_placeAll_76 : decode cX9_placeAll 76 = .ok (.istore_n 3, 1) := by decide +kernel
theorem dX9_placeAll_77 : decode cX9_placeAll 77 = .ok (.iconst 0, 1) := by decide +kernel
theorem dX9_placeAll_78 : decode cX9_placeAll 78 = .ok (.istore 4, 2) := by decide +kernel
theorem dX9_placeAll_80 : decode cX9_placeAll 80 = .ok (.iload 4, 2) := by decide +kernel
theorem dX9_placeAll_82 : decode cX9_placeAll 82 = .ok (.aload_n 0, 1) := by decide +kernel
theorem dX9_placeAll_83 : decode cX9_placeAll 83 = .ok (.getfield 259, 3) := by decide +kernel
theorem dX9_placeAll_86 : decode cX9_placeAll 86 = .ok (.if_icmp .ge 46, 3) := by decide +kernel
theorem dX9_placeAll_89 : decode cX9_placeAll 89 = .ok (.aload_n 0, 1) := by decide +kernel
theorem dX9_placeAll_90 : decode cX9_placeAll 90 = .ok (.getfield 146, 3) := by decide +kernel
theorem dX9_placeAll_93 : decode cX9_placeAll 93 = .ok (.iload 4, 2) := by decide +kernel
theorem dX9_placeAll_95 : decode cX9_placeAll 95 = .ok (.iaload, 1) := by decide +kernel
theorem dX9_placeAll_96 : decode cX9_placeAll 96 = .ok (.aload_n 0, 1) := by decide +kernel
theorem dX9_placeAll_97 : decode cX9_placeAll 97 = .ok (.getfield 169, 3) := by decide +kernel
theorem dX9_placeAll_100 : decode cX9_placeAll 100 = .ok (.if_icmp .ge 26, 3) := by decide +kernel
theorem dX9_placeAll_103 : decode cX9_placeAll 103 = .ok (.aload_n 0, 1) := by decide +kernel
theorem dX9_placeAll_104 : decode cX9_placeAll 104 = .ok (.aload_n 0, 1) := by decide +kernel
theorem dX9_placeAll_105 : decode cX9_placeAll 105 = .ok (.getfield 140, 3) := by decide +kernel
theorem dX9_placeAll_108 : decode cX9_placeAll 108 = .ok (.iload 4, 2) := by decide +kernel
theorem dX9_placeAll_110 : decode cX9_placeAll 110 = .ok (.iaload, 1) := by decide +kernel
theorem dX9_placeAll_111 : decode cX9_placeAll 111 = .ok (.aload_n 0, 1) := by decide +kernel
theorem dX9_placeAll_112 : decode cX9_placeAll 112 = .ok (.getfield 146, 3) := by decide +kernel
theorem dX9_placeAll_115 : decode cX9_placeAll 115 = .ok (.iload 4, 2) := by decide +kernel
theorem dX9_placeAll_117 : decode cX9_placeAll 117 = .ok (.iaload, 1) := by decide +kernel
theorem dX9_placeAll_118 : decode cX9_placeAll 118 = .ok (.invokevirtual 256, 3) := by decide +kernel
theorem dX9_placeAll_121 : decode cX9_placeAll 121 = .ok (.istore 5, 2) := by decide +kernel
theorem dX9_placeAll_123 : decode cX9_placeAll 123 = .ok (.iinc 3 1, 3) := by decide +kernel
theorem dX9_placeAll_126 : decode cX9_placeAll 126 = .ok (.iinc 4 1, 3) := by decide +kernel
theorem dX9_placeAll_129 : decode cX9_placeAll 129 = .ok (.goto (-49), 3) := by decide +kernel
theorem dX9_placeAll_132 : decode cX9_placeAll 132 = .ok (.iload_n 3, 1) := by decide +kernel
theorem dX9_placeAll_133 : decode cX9_placeAll 133 = .ok (.ireturn, 1) := by decide +kernel
theorem dX9_visits_0 : decode cX9_visits 0 = .ok (.aload_n 0, 1) := by decide +kernel
theorem dX9_visits_1 : decode cX9_visits 1 = .ok (.aload_n 0, 1) := by decide +kernel
theorem dX9_visits_2 : decode cX9_visits 2 = .ok (.iload_n 1, 1) := by decide +kernel
theorem dX9_visits_3 : decode cX9_visits 3 = .ok (.invokevirtual 208, 3) := by decide +kernel
theorem dX9_visits_6 : decode cX9_visits 6 = .ok (.iload_n 2, 1) := by decide +kernel
theorem dX9_visits_7 : decode cX9_visits 7 = .ok (.iconst 0, 1) := by decide +kernel
theorem dX9_visits_8 : decode cX9_visits 8 = .ok (.bipush 30, 2) := by decide +kernel
theorem dX9_visits_10 : decode cX9_visits 10 = .ok (.invokestatic 165, 3) := by decide +kernel
theorem dX9_visits_13 : decode cX9_visits 13 = .ok (.iconst 1, 1) := by decide +kernel
theorem dX9_visits_14 : decode cX9_visits 14 = .ok (.invokevirtual 179, 3) := by decide +kernel
theorem dX9_visits_17 : decode cX9_visits 17 = .ok (.ifCond .ne 5, 3) := by decide +kernel
theorem dX9_visits_20 : decode cX9_visits 20 = .ok (.iconst 0, 1) := by decide +kernel
theorem dX9_visits_21 : decode cX9_visits 21 = .ok (.ireturn, 1) := by decide +kernel
theorem dX9_visits_22 : decode cX9_visits 22 = .ok (.aload_n 0, 1) := by decide +kernel
theorem dX9_visits_23 : decode cX9_visits 23 = .ok (.getfield 40, 3) := by decide +kernel
theorem dX9_visits_26 : decode cX9_visits 26 = .ok (.iload_n 1, 1) := by decide +kernel
theorem dX9_visits_27 : decode cX9_visits 27 = .ok (.iaload, 1) := by decide +kernel
theorem dX9_visits_28 : decode cX9_visits 28 = .ok (.istore_n 3, 1) := by decide +kernel
theorem dX9_visits_29 : decode cX9_visits 29 = .ok (.aload_n 0, 1) := by decide +kernel
theorem dX9_visits_30 : decode cX9_visits 30 = .ok (.getfield 40, 3) := by decide +kernel
theorem dX9_visits_33 : decode cX9_visits 33 = .ok (.iload_n 1, 1) := by decide +kernel
theorem dX9_visits_34 : decode cX9_visits 34 = .ok (.iload_n 2, 1) := by decide +kernel
theorem dX9_visits_35 : decode cX9_visits 35 = .ok (.iastore, 1) := by decide +kernel
theorem dX9_visits_36 : decode cX9_visits 36 = .ok (.iload_n 3, 1) := by decide +kernel
theorem dX9_visits_37 : decode cX9_visits 37 = .ok (.ireturn, 1) := by decide +kernel
theorem dX9_came_0 : decode cX9_came 0 = .ok (.aload_n 0, 1) := by decide +kernel
theorem dX9_came_1 : decode cX9_came 1 = .ok (.aload_n 0, 1) := by decide +kernel
theorem dX9_came_2 : decode cX9_came 2 = .ok (.iload_n 1, 1) := by decide +kernel
theorem dX9_came_3 : decode cX9_came 3 = .ok (.invokevirtual 208, 3) := by decide +kernel
theorem dX9_came_6 : decode cX9_came 6 = .ok (.aload_n 0, 1) := by decide +kernel
theorem dX9_came_7 : decode cX9_came 7 = .ok (.iload_n 1, 1) := by decide +kernel
theorem dX9_came_8 : decode cX9_came 8 = .ok (.invokevirtual 208, 3) := by decide +kernel
theorem dX9_came_11 : decode cX9_came 11 = .ok (.ifCond .eq 17, 3) := by decide +kernel
theorem dX9_came_14 : decode cX9_came 14 = .ok (.aload_n 0, 1) := by decide +kernel
theorem dX9_came_15 : decode cX9_came 15 = .ok (.getfield 34, 3) := by decide +kernel
theorem dX9_came_18 : decode cX9_came 18 = .ok (.iload_n 1, 1) := by decide +kernel
theorem dX9_came_19 : decode cX9_came 19 = .ok (.iaload, 1) := by decide +kernel
theorem dX9_came_20 : decode cX9_came 20 = .ok (.iconst (-1), 1) := by decide +kernel
theorem dX9_came_21 : decode cX9_came 21 = .ok (.if_icmp .eq 7, 3) := by decide +kernel
theorem dX9_came_24 : decode cX9_came 24 = .ok (.iconst 1, 1) := by decide +kernel
theorem dX9_came_25 : decode cX9_came 25 = .ok (.goto 4, 3) := by decide +kernel
theorem dX9_came_28 : decode cX9_came 28 = .ok (.iconst 0, 1) := by decide +kernel
theorem dX9_came_29 : decode cX9_came 29 = .ok (.iconst 1, 1) := by decide +kernel
theorem dX9_came_30 : decode cX9_came 30 = .ok (.invokevirtual 179, 3) := by decide +kernel
theorem dX9_came_33 : decode cX9_came 33 = .ok (.ifCond .eq 10, 3) := by decide +kernel
theorem dX9_came_36 : decode cX9_came 36 = .ok (.aload_n 0, 1) := by decide +kernel
theorem dX9_came_37 : decode cX9_came 37 = .ok (.getfield 43, 3) := by decide +kernel
theorem dX9_came_40 : decode cX9_came 40 = .ok (.iload_n 1, 1) := by decide +kernel
theorem dX9_came_41 : decode cX9_came 41 = .ok (.iconst 1, 1) := by decide +kernel
theorem dX9_came_42 : decode cX9_came 42 = .ok (.bastore, 1) := by decide +kernel
theorem dX9_came_43 : decode cX9_came 43 = .ok (.return_, 1) := by decide +kernel
theorem dX9_pay_0 : decode cX9_pay 0 = .ok (.aload_n 0, 1) := by decide +kernel
theorem dX9_pay_1 : decode cX9_pay 1 = .ok (.aload_n 0, 1) := by decide +kernel
theorem dX9_pay_2 : decode cX9_pay 2 = .ok (.iload_n 1, 1) := by decide +kernel
theorem dX9_pay_3 : decode cX9_pay 3 = .ok (.invokevirtual 193, 3) := by decide +kernel
theorem dX9_pay_6 : decode cX9_pay 6 = .ok (.iload_n 2, 1) := by decide +kernel
theorem dX9_pay_7 : decode cX9_pay 7 = .ok (.iconst 1, 1) := by decide +kernel
theorem dX9_pay_8 : decode cX9_pay 8 = .ok (.ldc_w 276, 3) := by decide +kernel
theorem dX9_pay_11 : decode cX9_pay 11 = .ok (.invokestatic 165, 3) := by decide +kernel
theorem dX9_pay_14 : decode cX9_pay 14 = .ok (.iconst 1, 1) := by decide +kernel
theorem dX9_pay_15 : decode cX9_pay 15 = .ok (.invokevirtual 179, 3) := by decide +kernel
theorem dX9_pay_18 : decode cX9_pay 18 = .ok (.ifCond .ne 5, 3) := by decide +kernel
theorem dX9_pay_21 : decode cX9_pay 21 = .ok (.iconst 0, 1) := by decide +kernel
theorem dX9_pay_22 : decode cX9_pay 22 = .ok (.ireturn, 1) := by decide +kernel
theorem dX9_pay_23 : decode cX9_pay 23 = .ok (.aload_n 0, 1) := by decide +kernel
theorem dX9_pay_24 : decode cX9_pay 24 = .ok (.getfield 77, 3) := by decide +kernel
theorem dX9_pay_27 : decode cX9_pay 27 = .ok (.iload_n 1, 1) := by decide +kernel
theorem dX9_pay_28 : decode cX9_pay 28 = .ok (.dup2, 1) := by decide +kernel
theorem dX9_pay_29 : decode cX9_pay 29 = .ok (.iaload, 1) := by decide +kernel
theorem dX9_pay_30 : decode cX9_pay 30 = .ok (.iload_n 2, 1) := by decide +kernel
theorem dX9_pay_31 : decode cX9_pay 31 = .ok (.iadd, 1) := by decide +kernel
theorem dX9_pay_32 : decode cX9_pay 32 = .ok (.iastore, 1) := by decide +kernel
theorem dX9_pay_33 : decode cX9_pay 33 = .ok (.aload_n 0, 1) := by decide +kernel
theorem dX9_pay_34 : decode cX9_pay 34 = .ok (.getfield 74, 3) := by decide +kernel
theorem dX9_pay_37 : decode cX9_pay 37 = .ok (.iload_n 1, 1) := by decide +kernel
theorem dX9_pay_38 : decode cX9_pay 38 = .ok (.iaload, 1) := by decide +kernel
theorem dX9_pay_39 : decode cX9_pay 39 = .ok (.aload_n 0, 1) := by decide +kernel
theorem dX9_pay_40 : decode cX9_pay 40 = .ok (.getfield 77, 3) := by decide +kernel
theorem dX9_pay_43 : decode cX9_pay 43 = .ok (.iload_n 1, 1) := by decide +kernel
theorem dX9_pay_44 : decode cX9_pay 44 = .ok (.iaload, 1) := by decide +kernel
theorem dX9_pay_45 : decode cX9_pay 45 = .ok (.isub, 1) := by decide +kernel
theorem dX9_pay_46 : decode cX9_pay 46 = .ok (.ireturn, 1) := by decide +kernel
theorem dX9_owed_0 : decode cX9_owed 0 = .ok (.aload_n 0, 1) := by decide +kernel
theorem dX9_owed_1 : decode cX9_owed 1 = .ok (.aload_n 0, 1) := by decide +kernel
theorem dX9_owed_2 : decode cX9_owed 2 = .ok (.iload_n 1, 1) := by decide +kernel
theorem dX9_owed_3 : decode cX9_owed 3 = .ok (.invokevirtual 193, 3) := by decide +kernel
theorem dX9_owed_6 : decode cX9_owed 6 = .ok (.iconst 1, 1) := by decide +kernel
theorem dX9_owed_7 : decode cX9_owed 7 = .ok (.iconst 1, 1) := by decide +kernel
theorem dX9_owed_8 : decode cX9_owed 8 = .ok (.invokevirtual 179, 3) := by decide +kernel
theorem dX9_owed_11 : decode cX9_owed 11 = .ok (.ifCond .eq 19, 3) := by decide +kernel
theorem dX9_owed_14 : decode cX9_owed 14 = .ok (.aload_n 0, 1) := by decide +kernel
theorem dX9_owed_15 : decode cX9_owed 15 = .ok (.getfield 74, 3) := by decide +kernel
theorem dX9_owed_18 : decode cX9_owed 18 = .ok (.iload_n 1, 1) := by decide +kernel
theorem dX9_owed_19 : decode cX9_owed 19 = .ok (.iaload, 1) := by decide +kernel
theorem dX9_owed_20 : decode cX9_owed 20 = .ok (.aload_n 0, 1) := by decide +kernel
theorem dX9_owed_21 : decode cX9_owed 21 = .ok (.getfield 77, 3) := by decide +kernel
theorem dX9_owed_24 : decode cX9_owed 24 = .ok (.iload_n 1, 1) := by decide +kernel
theorem dX9_owed_25 : decode cX9_owed 25 = .ok (.iaload, 1) := by decide +kernel
theorem dX9_owed_26 : decode cX9_owed 26 = .ok (.isub, 1) := by decide +kernel
theorem dX9_owed_27 : decode cX9_owed 27 = .ok (.goto 4, 3) := by decide +kernel
theorem dX9_owed_30 : decode cX9_owed 30 = .ok (.iconst 0, 1) := by decide +kernel
theorem dX9_owed_31 : decode cX9_owed 31 = .ok (.ireturn, 1) := by decide +kernel
theorem dX9_handOver_0 : decode cX9_handOver 0 = .ok (.aload_n 0, 1) := by decide +kernel
theorem dX9_handOver_1 : decode cX9_handOver 1 = .ok (.aload_n 0, 1) := by decide +kernel
theorem dX9_handOver_2 : decode cX9_handOver 2 = .ok (.iload_n 1, 1) := by decide +kernel
theorem dX9_handOver_3 : decode cX9_handOver 3 = .ok (.invokevirtual 208, 3) := by decide +kernel
theorem dX9_handOver_6 : decode cX9_handOver 6 = .ok (.ifCond .eq 16, 3) := by decide +kernel
theorem dX9_handOver_9 : decode cX9_handOver 9 = .ok (.iload_n 2, 1) := by decide +kernel
theorem dX9_handOver_10 : decode cX9_handOver 10 = .ok (.iconst 0, 1) := by decide +kernel
theorem dX9_handOver_11 : decode cX9_handOver 11 = .ok (.iconst 4, 1) := by decide +kernel
theorem dX9_handOver_12 : decode cX9_handOver 12 = .ok (.invokestatic 165, 3) := by decide +kernel
theorem dX9_handOver_15 : decode cX9_handOver 15 = .ok (.ifCond .eq 7, 3) := by decide +kernel
theorem dX9_handOver_18 : decode cX9_handOver 18 = .ok (.iconst 1, 1) := by decide +kernel
theorem dX9_handOver_19 : decode cX9_handOver 19 = .ok (.goto 4, 3) := by decide +kernel
theorem dX9_handOver_22 : decode cX9_handOver 22 = .ok (.iconst 0, 1) := by decide +kernel
theorem dX9_handOver_23 : decode cX9_handOver 23 = .ok (.iconst 1, 1) := by decide +kernel
theorem dX9_handOver_24 : decode cX9_handOver 24 = .ok (.iconst 1, 1) := by decide +kernel
theorem dX9_handOver_25 : decode cX9_handOver 25 = .ok (.invokevirtual 179, 3) := by decide +kernel
theorem dX9_handOver_28 : decode cX9_handOver 28 = .ok (.ifCond .ne 5, 3) := by decide +kernel
theorem dX9_handOver_31 : decode cX9_handOver 31 = .ok (.iconst 0, 1) := by decide +kernel
theorem dX9_handOver_32 : decode cX9_handOver 32 = .ok (.ireturn, 1) := by decide +kernel
theorem dX9_handOver_33 : decode cX9_handOver 33 = .ok (.aload_n 0, 1) := by decide +kernel
theorem dX9_handOver_34 : decode cX9_handOver 34 = .ok (.getfield 28, 3) := by decide +kernel
theorem dX9_handOver_37 : decode cX9_handOver 37 = .ok (.iload_n 1, 1) := by decide +kernel
theorem dX9_handOver_38 : decode cX9_handOver 38 = .ok (.iaload, 1) := by decide +kernel
theorem dX9_handOver_39 : decode cX9_handOver 39 = .ok (.istore_n 3, 1) := by decide +kernel
theorem dX9_handOver_40 : decode cX9_handOver 40 = .ok (.aload_n 0, 1) := by decide +kernel
theorem dX9_handOver_41 : decode cX9_handOver 41 = .ok (.getfield 28, 3) := by decide +kernel
theorem dX9_handOver_44 : decode cX9_handOver 44 = .ok (.iload_n 1, 1) := by decide +kernel
theorem dX9_handOver_45 : decode cX9_handOver 45 = .ok (.iload_n 2, 1) := by decide +kernel
theorem dX9_handOver_46 : decode cX9_handOver 46 = .ok (.iastore, 1) := by decide +kernel
theorem dX9_handOver_47 : decode cX9_handOver 47 = .ok (.iload_n 3, 1) := by decide +kernel
theorem dX9_handOver_48 : decode cX9_handOver 48 = .ok (.ireturn, 1) := by decide +kernel
theorem dX9_load_0 : decode cX9_load 0 = .ok (.aload_n 0, 1) := by decide +kernel
theorem dX9_load_1 : decode cX9_load 1 = .ok (.iload_n 1, 1) := by decide +kernel
theorem dX9_load_2 : decode cX9_load 2 = .ok (.iconst 0, 1) := by decide +kernel
theorem dX9_load_3 : decode cX9_load 3 = .ok (.iconst 4, 1) := by decide +kernel
theorem dX9_load_4 : decode cX9_load 4 = .ok (.invokestatic 165, 3) := by decide +kernel
theorem dX9_load_7 : decode cX9_load 7 = .ok (.iconst 1, 1) := by decide +kernel
theorem dX9_load_8 : decode cX9_load 8 = .ok (.iconst 1, 1) := by decide +kernel
theorem dX9_load_9 : decode cX9_load 9 = .ok (.invokevirtual 179, 3) := by decide +kernel
theorem dX9_load_12 : decode cX9_load 12 = .ok (.ifCond .eq 11, 3) := by decide +kernel
theorem dX9_load_15 : decode cX9_load 15 = .ok (.aload_n 0, 1) := by decide +kernel
theorem dX9_load_16 : decode cX9_load 16 = .ok (.iload_n 1, 1) := by decide +kernel
theorem dX9_load_17 : decode cX9_load 17 = .ok (.invokevirtual 176, 3) := by decide +kernel
theorem dX9_load_20 : decode cX9_load 20 = .ok (.goto 4, 3) := by decide +kernel
theorem dX9_load_23 : decode cX9_load 23 = .ok (.iconst 0, 1) := by decide +kernel
theorem dX9_load_24 : decode cX9_load 24 = .ok (.ireturn, 1) := by decide +kernel
theorem dX9_visited_0 : decode cX9_visited 0 = .ok (.aload_n 0, 1) := by decide +kernel
theorem dX9_visited_1 : decode cX9_visited 1 = .ok (.getfield 43, 3) := by decide +kernel
theorem dX9_visited_4 : decode cX9_visited 4 = .ok (.iload_n 1, 1) := by decide +kernel
theorem dX9_visited_5 : decode cX9_visited 5 = .ok (.baload, 1) := by decide +kernel
theorem dX9_visited_6 : decode cX9_visited 6 = .ok (.istore_n 2, 1) := by decide +kernel
theorem dX9_visited_7 : decode cX9_visited 7 = .ok (.aload_n 0, 1) := by decide +kernel
theorem dX9_visited_8 : decode cX9_visited 8 = .ok (.getfield 43, 3) := by decide +kernel
theorem dX9_visited_11 : decode cX9_visited 11 = .ok (.iload_n 1, 1) := by decide +kernel
theorem dX9_visited_12 : decode cX9_visited 12 = .ok (.iconst 0, 1) := by decide +kernel
theorem dX9_visited_13 : decode cX9_visited 13 = .ok (.bastore, 1) := by decide +kernel
theorem dX9_visited_14 : decode cX9_visited 14 = .ok (.aload_n 0, 1) := by decide +kernel
theorem dX9_visited_15 : decode cX9_visited 15 = .ok (.getfield 47, 3) := by decide +kernel
theorem dX9_visited_18 : decode cX9_visited 18 = .ok (.iload_n 1, 1) := by decide +kernel
theorem dX9_visited_19 : decode cX9_visited 19 = .ok (.dup2, 1) := by decide +kernel
theorem dX9_visited_20 : decode cX9_visited 20 = .ok (.iaload, 1) := by decide +kernel
theorem dX9_visited_21 : decode cX9_visited 21 = .ok (.iload_n 2, 1) := by decide +kernel
theorem dX9_visited_22 : decode cX9_visited 22 = .ok (.ifCond .eq 7, 3) := by decide +kernel
theorem dX9_visited_25 : decode cX9_visited 25 = .ok (.iconst 1, 1) := by decide +kernel
theorem dX9_visited_26 : decode cX9_visited 26 = .ok (.goto 4, 3) := by decide +kernel
theorem dX9_visited_29 : decode cX9_visited 29 = .ok (.iconst 0, 1) := by decide +kernel
theorem dX9_visited_30 : decode cX9_visited 30 = .ok (.iadd, 1) := by decide +kernel
theorem dX9_visited_31 : decode cX9_visited 31 = .ok (.iastore, 1) := by decide +kernel
theorem dX9_visited_32 : decode cX9_visited 32 = .ok (.aload_n 0, 1) := by decide +kernel
theorem dX9_visited_33 : decode cX9_visited 33 = .ok (.getfield 50, 3) := by decide +kernel
theorem dX9_visited_36 : decode cX9_visited 36 = .ok (.iload_n 1, 1) := by decide +kernel
theorem dX9_visited_37 : decode cX9_visited 37 = .ok (.dup2, 1) := by decide +kernel
theorem dX9_visited_38 : decode cX9_visited 38 = .ok (.iaload, 1) := by decide +kernel
theorem dX9_visited_39 : decode cX9_visited 39 = .ok (.iload_n 2, 1) := by decide +kernel
theorem dX9_visited_40 : decode cX9_visited 40 = .ok (.ifCond .eq 7, 3) := by decide +kernel
theorem dX9_visited_43 : decode cX9_visited 43 = .ok (.iconst 0, 1) := by decide +kernel
theorem dX9_visited_44 : decode cX9_visited 44 = .ok (.goto 4, 3) := by decide +kernel
theorem dX9_visited_47 : decode cX9_visited 47 = .ok (.iconst 1, 1) := by decide +kernel
theorem dX9_visited_48 : decode cX9_visited 48 = .ok (.iadd, 1) := by decide +kernel
theorem dX9_visited_49 : decode cX9_visited 49 = .ok (.iastore, 1) := by decide +kernel
theorem dX9_visited_50 : decode cX9_visited 50 = .ok (.aload_n 0, 1) := by decide +kernel
theorem dX9_visited_51 : decode cX9_visited 51 = .ok (.getfield 53, 3) := by decide +kernel
theorem dX9_visited_54 : decode cX9_visited 54 = .ok (.iload_n 1, 1) := by decide +kernel
theorem dX9_visited_55 : decode cX9_visited 55 = .ok (.iload_n 2, 1) := by decide +kernel
theorem dX9_visited_56 : decode cX9_visited 56 = .ok (.ifCond .eq 14, 3) := by decide +kernel
theorem dX9_visited_59 : decode cX9_visited 59 = .ok (.aload_n 0, 1) := by decide +kernel
theorem dX9_visited_60 : decode cX9_visited 60 = .ok (.getfield 53, 3) := by decide +kernel
theorem dX9_visited_63 : decode cX9_visited 63 = .ok (.iload_n 1, 1) := by decide +kernel
theorem dX9_visited_64 : decode cX9_visited 64 = .ok (.iaload, 1) := by decide +kernel
theorem dX9_visited_65 : decode cX9_visited 65 = .ok (.iconst 1, 1) := by decide +kernel
theorem dX9_visited_66 : decode cX9_visited 66 = .ok (.iadd, 1) := by decide +kernel
theorem dX9_visited_67 : decode cX9_visited 67 = .ok (.goto 4, 3) := by decide +kernel
theorem dX9_visited_70 : decode cX9_visited 70 = .ok (.iconst 0, 1) := by decide +kernel
theorem dX9_visited_71 : decode cX9_visited 71 = .ok (.iastore, 1) := by decide +kernel
theorem dX9_visited_72 : decode cX9_visited 72 = .ok (.aload_n 0, 1) := by decide +kernel
theorem dX9_visited_73 : decode cX9_visited 73 = .ok (.getfield 56, 3) := by decide +kernel
theorem dX9_visited_76 : decode cX9_visited 76 = .ok (.iload_n 1, 1) := by decide +kernel
theorem dX9_visited_77 : decode cX9_visited 77 = .ok (.iload_n 2, 1) := by decide +kernel
theorem dX9_visited_78 : decode cX9_visited 78 = .ok (.ifCond .eq 7, 3) := by decide +kernel
theorem dX9_visited_81 : decode cX9_visited 81 = .ok (.iconst 0, 1) := by decide +kernel
theorem dX9_visited_82 : decode cX9_visited 82 = .ok (.goto 11, 3) := by decide +kernel
theorem dX9_visited_85 : decode cX9_visited 85 = .ok (.aload_n 0, 1) := by decide +kernel
theorem dX9_visited_86 : decode cX9_visited 86 = .ok (.getfield 56, 3) := by decide +kernel
theorem dX9_visited_89 : decode cX9_visited 89 = .ok (.iload_n 1, 1) := by decide +kernel
theorem dX9_visited_90 : decode cX9_visited 90 = .ok (.iaload, 1) := by decide +kernel
theorem dX9_visited_91 : decode cX9_visited 91 = .ok (.iconst 1, 1) := by decide +kernel
theorem dX9_visited_92 : decode cX9_visited 92 = .ok (.iadd, 1) := by decide +kernel
theorem dX9_visited_93 : decode cX9_visited 93 = .ok (.iastore, 1) := by decide +kernel
theorem dX9_visited_94 : decode cX9_visited 94 = .ok (.aload_n 0, 1) := by decide +kernel
theorem dX9_visited_95 : decode cX9_visited 95 = .ok (.getfield 59, 3) := by decide +kernel
theorem dX9_visited_98 : decode cX9_visited 98 = .ok (.iload_n 1, 1) := by decide +kernel
theorem dX9_visited_99 : decode cX9_visited 99 = .ok (.aload_n 0, 1) := by decide +kernel
theorem dX9_visited_100 : decode cX9_visited 100 = .ok (.getfield 56, 3) := by decide +kernel
theorem dX9_visited_103 : decode cX9_visited 103 = .ok (.iload_n 1, 1) := by decide +kernel
theorem dX9_visited_104 : decode cX9_visited 104 = .ok (.iaload, 1) := by decide +kernel
theorem dX9_visited_105 : decode cX9_visited 105 = .ok (.iconst 3, 1) := by decide +kernel
theorem dX9_visited_106 : decode cX9_visited 106 = .ok (.if_icmp .ge 22, 3) := by decide +kernel
theorem dX9_visited_109 : decode cX9_visited 109 = .ok (.aload_n 0, 1) := by decide +kernel
theorem dX9_visited_110 : decode cX9_visited 110 = .ok (.getfield 59, 3) := by decide +kernel
theorem dX9_visited_113 : decode cX9_visited 113 = .ok (.iload_n 1, 1) := by decide +kernel
theorem dX9_visited_114 : decode cX9_visited 114 = .ok (.baload, 1) := by decide +kernel
theorem dX9_visited_115 : decode cX9_visited 115 = .ok (.ifCond .eq 17, 3) := by decide +kernel
theorem dX9_visited_118 : decode cX9_visited 118 = .ok (.aload_n 0, 1) := by decide +kernel
theorem dX9_visited_119 : decode cX9_visited 119 = .ok (.getfield 53, 3) := by decide +kernel
theorem dX9_visited_122 : decode cX9_visited 122 = .ok (.iload_n 1, 1) := by decide +kernel
theorem dX9_visited_123 : decode cX9_visited 123 = .ok (.iaload, 1) := by decide +kernel
theorem dX9_visited_124 : decode cX9_visited 124 = .ok (.iconst 3, 1) := by decide +kernel
theorem dX9_visited_125 : decode cX9_visited 125 = .ok (.if_icmp .ge 7, 3) := by decide +kernel
theorem dX9_visited_128 : decode cX9_visited 128 = .ok (.iconst 1, 1) := by decide +kernel
theorem dX9_visited_129 : decode cX9_visited 129 = .ok (.goto 4, 3) := by decide +kernel
theorem dX9_visited_132 : decode cX9_visited 132 = .ok (.iconst 0, 1) := by decide +kernel
theorem dX9_visited_133 : decode cX9_visited 133 = .ok (.bastore, 1) := by decide +kernel
theorem dX9_visited_134 : decode cX9_visited 134 = .ok (.return_, 1) := by decide +kernel
theorem dX9_passes_0 : decode cX9_passes 0 = .ok (.iconst 0, 1) := by decide +kernel
theorem dX9_passes_1 : decode cX9_passes 1 = .ok (.istore_n 1, 1) := by decide +kernel
theorem dX9_passes_2 : decode cX9_passes 2 = .ok (.iload_n 1, 1) := by decide +kernel
theorem dX9_passes_3 : decode cX9_passes 3 = .ok (.aload_n 0, 1) := by decide +kernel
theorem dX9_passes_4 : decode cX9_passes 4 = .ok (.getfield 162, 3) := by decide +kernel
theorem dX9_passes_7 : decode cX9_passes 7 = .ok (.if_icmp .ge 56, 3) := by decide +kernel
theorem dX9_passes_10 : decode cX9_passes 10 = .ok (.aload_n 0, 1) := by decide +kernel
theorem dX9_passes_11 : decode cX9_passes 11 = .ok (.getfield 34, 3) := by decide +kernel
theorem dX9_passes_14 : decode cX9_passes 14 = .ok (.iload_n 1, 1) := by decide +kernel
theorem dX9_passes_15 : decode cX9_passes 15 = .ok (.iaload, 1) := by decide +kernel
theorem dX9_passes_16 : decode cX9_passes 16 = .ok (.iconst (-1), 1) := by decide +kernel
theorem dX9_passes_17 : decode cX9_passes 17 = .ok (.if_icmp .eq 40, 3) := by decide +kernel
theorem dX9_passes_20 : decode cX9_passes 20 = .ok (.aload_n 0, 1) := by decide +kernel
theorem dX9_passes_21 : decode cX9_passes 21 = .ok (.getfield 74, 3) := by decide +kernel
theorem dX9_passes_24 : decode cX9_passes 24 = .ok (.aload_n 0, 1) := by decide +kernel
theorem dX9_passes_25 : decode cX9_passes 25 = .ok (.iload_n 1, 1) := by decide +kernel
theorem dX9_passes_26 : decode cX9_passes 26 = .ok (.invokevirtual 227, 3) := by decide +kernel
theorem dX9_passes_29 : decode cX9_passes 29 = .ok (.dup2, 1) := by decide +kernel
theorem dX9_passes_30 : decode cX9_passes 30 = .ok (.iaload, 1) := by decide +kernel
theorem dX9_passes_31 : decode cX9_passes 31 = .ok (.bipush 10, 2) := by decide +kernel
theorem dX9_passes_33 : decode cX9_passes 33 = .ok (.aload_n 0, 1) := by decide +kernel
theorem dX9_passes_34 : decode cX9_passes 34 = .ok (.iload_n 1, 1) := by decide +kernel
theorem dX9_passes_35 : decode cX9_passes 35 = .ok (.aload_n 0, 1) := by decide +kernel
theorem dX9_passes_36 : decode cX9_passes 36 = .ok (.getfield 187, 3) := by decide +kernel
theorem dX9_passes_39 : decode cX9_passes 39 = .ok (.invokevirtual 224, 3) := by decide +kernel
theorem dX9_passes_42 : decode cX9_passes 42 = .ok (.iadd, 1) := by decide +kernel
theorem dX9_passes_43 : decode cX9_passes 43 = .ok (.iconst 5, 1) := by decide +kernel
theorem dX9_passes_44 : decode cX9_passes 44 = .ok (.aload_n 0, 1) := by decide +kernel
theorem dX9_passes_45 : decode cX9_passes 45 = .ok (.getfield 16, 3) := by decide +kernel
theorem dX9_passes_48 : decode cX9_passes 48 = .ok (.iload_n 1, 1) := by decide +kernel
theorem dX9_passes_49 : decode cX9_passes 49 = .ok (.iaload, 1) := by decide +kernel
theorem dX9_passes_50 : decode cX9_passes 50 = .ok (.invokestatic 172, 3) := by decide +kernel
theorem dX9_passes_53 : decode cX9_passes 53 = .ok (.imul, 1) := by decide +kernel
theorem dX9_passes_54 : decode cX9_passes 54 = .ok (.iadd, 1) := by decide +kernel
theorem dX9_passes_55 : decode cX9_passes 55 = .ok (.iadd, 1) := by decide +kernel
theorem dX9_passes_56 : decode cX9_passes 56 = .ok (.iastore, 1) := by decide +kernel
theorem dX9_passes_57 : decode cX9_passes 57 = .ok (.iinc 1 1, 3) := by decide +kernel
theorem dX9_passes_60 : decode cX9_passes 60 = .ok (.goto (-58), 3) := by decide +kernel
theorem dX9_passes_63 : decode cX9_passes 63 = .ok (.aload_n 0, 1) := by decide +kernel
theorem dX9_passes_64 : decode cX9_passes 64 = .ok (.dup, 1) := by decide +kernel
theorem dX9_passes_65 : decode cX9_passes 65 = .ok (.getfield 187, 3) := by decide +kernel
theorem dX9_passes_68 : decode cX9_passes 68 = .ok (.iconst 1, 1) := by decide +kernel
theorem dX9_passes_69 : decode cX9_passes 69 = .ok (.iadd, 1) := by decide +kernel
theorem dX9_passes_70 : decode cX9_passes 70 = .ok (.putfield 187, 3) := by decide +kernel
theorem dX9_passes_73 : decode cX9_passes 73 = .ok (.iconst 0, 1) := by decide +kernel
theorem dX9_passes_74 : decode cX9_passes 74 = .ok (.istore_n 1, 1) := by decide +kernel
theorem dX9_passes_75 : decode cX9_passes 75 = .ok (.iload_n 1, 1) := by decide +kernel
theorem dX9_passes_76 : decode cX9_passes 76 = .ok (.aload_n 0, 1) := by decide +kernel
theorem dX9_passes_77 : decode cX9_passes 77 = .ok (.getfield 162, 3) := by decide +kernel
theorem dX9_passes_80 : decode cX9_passes 80 = .ok (.if_icmp .ge 86, 3) := by decide +kernel
theorem dX9_passes_83 : decode cX9_passes 83 = .ok (.aload_n 0, 1) := by decide +kernel
theorem dX9_passes_84 : decode cX9_passes 84 = .ok (.getfield 34, 3) := by decide +kernel
theorem dX9_passes_87 : decode cX9_passes 87 = .ok (.iload_n 1, 1) := by decide +kernel
theorem dX9_passes_88 : decode cX9_passes 88 = .ok (.iaload, 1) := by decide +kernel
theorem dX9_passes_89 : decode cX9_passes 89 = .ok (.iconst (-1), 1) := by decide +kernel
theorem dX9_passes_90 : decode cX9_passes 90 = .ok (.if_icmp .eq 70, 3) := by decide +kernel
theorem dX9_passes_93 : decode cX9_passes 93 = .ok (.aload_n 0, 1) := by decide +kernel
theorem dX9_passes_94 : decode cX9_passes 94 = .ok (.iload_n 1, 1) := by decide +kernel
theorem dX9_passes_95 : decode cX9_passes 95 = .ok (.aload_n 0, 1) := by decide +kernel
theorem dX9_passes_96 : decode cX9_passes 96 = .ok (.getfield 187, 3) := by decide +kernel
theorem dX9_passes_99 : decode cX9_passes 99 = .ok (.invokevirtual 234, 3) := by decide +kernel
theorem dX9_passes_102 : decode cX9_passes 102 = .ok (.istore_n 2, 1) := by decide +kernel
theorem dX9_passes_103 : decode cX9_passes 103 = .ok (.iload_n 2, 1) := by decide +kernel
theorem dX9_passes_104 : decode cX9_passes 104 = .ok (.ifCond .eq 16, 3) := by decide +kernel
theorem dX9_passes_107 : decode cX9_passes 107 = .ok (.iload_n 2, 1) := by decide +kernel
theorem dX9_passes_108 : decode cX9_passes 108 = .ok (.iconst 2, 1) := by decide +kernel
theorem dX9_passes_109 : decode cX9_passes 109 = .ok (.if_icmp .eq 11, 3) := by decide +kernel
theorem dX9_passes_112 : decode cX9_passes 112 = .ok (.aload_n 0, 1) := by decide +kernel
theorem dX9_passes_113 : decode cX9_passes 113 = .ok (.iload_n 1, 1) := by decide +kernel
theorem dX9_passes_114 : decode cX9_passes 114 = .ok (.invokevirtual 249, 3) := by decide +kernel
theorem dX9_passes_117 : decode cX9_passes 117 = .ok (.goto 43, 3) := by decide +kernel
theorem dX9_passes_120 : decode cX9_passes 120 = .ok (.aload_n 0, 1) := by decide +kernel
theorem dX9_passes_121 : decode cX9_passes 121 = .ok (.getfield 40, 3) := by decide +kernel
theorem dX9_passes_124 : decode cX9_passes 124 = .ok (.iload_n 1, 1) := by decide +kernel
theorem dX9_passes_125 : decode cX9_passes 125 = .ok (.iaload, 1) := by decide +kernel
theorem dX9_passes_126 : decode cX9_passes 126 = .ok (.ifCond .le 34, 3) := by decide +kernel
theorem dX9_passes_129 : decode cX9_passes 129 = .ok (.aload_n 0, 1) := by decide +kernel
theorem dX9_passes_130 : decode cX9_passes 130 = .ok (.getfield 187, 3) := by decide +kernel
theorem dX9_passes_133 : decode cX9_passes 133 = .ok (.aload_n 0, 1) := by decide +kernel
theorem dX9_passes_134 : decode cX9_passes 134 = .ok (.getfield 131, 3) := by decide +kernel
theorem dX9_passes_137 : decode cX9_passes 137 = .ok (.aload_n 0, 1) := by decide +kernel
theorem dX9_passes_138 : decode cX9_passes 138 = .ok (.getfield 34, 3) := by decide +kernel
theorem dX9_passes_141 : decode cX9_passes 141 = .ok (.iload_n 1, 1) := by decide +kernel
theorem dX9_passes_142 : decode cX9_passes 142 = .ok (.iaload, 1) := by decide +kernel
theorem dX9_passes_143 : decode cX9_passes 143 = .ok (.iaload, 1) := by decide +kernel
theorem dX9_passes_144 : decode cX9_passes 144 = .ok (.isub, 1) := by decide +kernel
theorem dX9_passes_145 : decode cX9_passes 145 = .ok (.aload_n 0, 1) := by decide +kernel
theorem dX9_passes_146 : decode cX9_passes 146 = .ok (.getfield 40, 3) := by decide +kernel
theorem dX9_passes_149 : decode cX9_passes 149 = .ok (.iload_n 1, 1) := by decide +kernel
theorem dX9_passes_150 : decode cX9_passes 150 = .ok (.iaload, 1) := by decide +kernel
theorem dX9_passes_151 : decode cX9_passes 151 = .ok (.irem, 1) := by decide +kernel
theorem dX9_passes_152 : decode cX9_passes 152 = .ok (.ifCond .ne 8, 3) := by decide +kernel
theorem dX9_passes_155 : decode cX9_passes 155 = .ok (.aload_n 0, 1) := by decide +kernel
theorem dX9_passes_156 : decode cX9_passes 156 = .ok (.iload_n 1, 1) := by decide +kernel
theorem dX9_passes_157 : decode cX9_passes 157 = .ok (.invokevirtual 277, 3) := by decide +kernel
theorem dX9_passes_160 : decode cX9_passes 160 = .ok (.iinc 1 1, 3) := by decide +kernel
theorem dX9_passes_163 : decode cX9_passes 163 = .ok (.goto (-88), 3) := by decide +kernel
theorem dX9_passes_166 : decode cX9_passes 166 = .ok (.return_, 1) := by decide +kernel
theorem dX9_pass_0 : decode cX9_pass 0 = .ok (.aload_n 0, 1) := by decide +kernel
theorem dX9_pass_1 : decode cX9_pass 1 = .ok (.iload_n 1, 1) := by decide +kernel
theorem dX9_pass_2 : decode cX9_pass 2 = .ok (.iconst 1, 1) := by decide +kernel
theorem dX9_pass_3 : decode cX9_pass 3 = .ok (.sipush 400, 3) := by decide +kernel
theorem dX9_pass_6 : decode cX9_pass 6 = .ok (.invokestatic 165, 3) := by decide +kernel
theorem dX9_pass_9 : decode cX9_pass 9 = .ok (.aload_n 0, 1) := by decide +kernel
theorem dX9_pass_10 : decode cX9_pass 10 = .ok (.getfield 187, 3) := by decide +kernel
theorem dX9_pass_13 : decode cX9_pass 13 = .ok (.iload_n 1, 1) := by decide +kernel
theorem dX9_pass_14 : decode cX9_pass 14 = .ok (.iadd, 1) := by decide +kernel
theorem dX9_pass_15 : decode cX9_pass 15 = .ok (.sipush 12000, 3) := by decide +kernel
theorem dX9_pass_18 : decode cX9_pass 18 = .ok (.if_icmp .gt 7, 3) := by decide +kernel
theorem dX9_pass_21 : decode cX9_pass 21 = .ok (.iconst 1, 1) := by decide +kernel
theorem dX9_pass_22 : decode cX9_pass 22 = .ok (.goto 4, 3) := by decide +kernel
theorem dX9_pass_25 : decode cX9_pass 25 = .ok (.iconst 0, 1) := by decide +kernel
theorem dX9_pass_26 : decode cX9_pass 26 = .ok (.iconst 1, 1) := by decide +kernel
theorem dX9_pass_27 : decode cX9_pass 27 = .ok (.invokevirtual 179, 3) := by decide +kernel
theorem dX9_pass_30 : decode cX9_pass 30 = .ok (.ifCond .ne 5, 3) := by decide +kernel
theorem dX9_pass_33 : decode cX9_pass 33 = .ok (.iconst 0, 1) := by decide +kernel
theorem dX9_pass_34 : decode cX9_pass 34 = .ok (.ireturn, 1) := by decide +kernel
theorem dX9_pass_35 : decode cX9_pass 35 = .ok (.iconst 0, 1) := by decide +kernel
theorem dX9_pass_36 : decode cX9_pass 36 = .ok (.istore_n 2, 1) := by decide +kernel
theorem dX9_pass_37 : decode cX9_pass 37 = .ok (.iload_n 2, 1) := by decide +kernel
theorem dX9_pass_38 : decode cX9_pass 38 = .ok (.iload_n 1, 1) := by decide +kernel
theorem dX9_pass_39 : decode cX9_pass 39 = .ok (.if_icmp .ge 13, 3) := by decide +kernel
theorem dX9_pass_42 : decode cX9_pass 42 = .ok (.aload_n 0, 1) := by decide +kernel
theorem dX9_pass_43 : decode cX9_pass 43 = .ok (.invokevirtual 280, 3) := by decide +kernel
theorem dX9_pass_46 : decode cX9_pass 46 = .ok (.iinc 2 1, 3) := by decide +kernel
theorem dX9_pass_49 : decode cX9_pass 49 = .ok (.goto (-12), 3) := by decide +kernel
theorem dX9_pass_52 : decode cX9_pass 52 = .ok (.aload_n 0, 1) := by decide +kernel
theorem dX9_pass_53 : decode cX9_pass 53 = .ok (.getfield 187, 3) := by decide +kernel
theorem dX9_pass_56 : decode cX9_pass 56 = .ok (.ireturn, 1) := by decide +kernel
theorem dX9_childIs_0 : decode cX9_childIs 0 = .ok (.aload_n 0, 1) := by decide +kernel
theorem dX9_childIs_1 : decode cX9_childIs 1 = .ok (.aload_n 0, 1) := by decide +kernel
theorem dX9_childIs_2 : decode cX9_childIs 2 = .ok (.iload_n 1, 1) := by decide +kernel
theorem dX9_childIs_3 : decode cX9_childIs 3 = .ok (.invokevirtual 208, 3) := by decide +kernel
theorem dX9_childIs_6 : decode cX9_childIs 6 = .ok (.iload_n 2, 1) := by decide +kernel
theorem dX9_childIs_7 : decode cX9_childIs 7 = .ok (.iconst 0, 1) := by decide +kernel
theorem dX9_childIs_8 : decode cX9_childIs 8 = .ok (.bipush 6, 2) := by decide +kernel
theorem dX9_childIs_10 : decode cX9_childIs 10 = .ok (.invokestatic 165, 3) := by decide +kernel
theorem dX9_childIs_13 : decode cX9_childIs 13 = .ok (.iconst 1, 1) := by decide +kernel
theorem dX9_childIs_14 : decode cX9_childIs 14 = .ok (.invokevirtual 179, 3) := by decide +kernel
theorem dX9_childIs_17 : decode cX9_childIs 17 = .ok (.ifCond .ne 5, 3) := by decide +kernel
theorem dX9_childIs_20 : decode cX9_childIs 20 = .ok (.iconst 0, 1) := by decide +kernel
theorem dX9_childIs_21 : decode cX9_childIs 21 = .ok (.ireturn, 1) := by decide +kernel
theorem dX9_childIs_22 : decode cX9_childIs 22 = .ok (.iload_n 2, 1) := by decide +kernel
theorem dX9_childIs_23 : decode cX9_childIs 23 = .ok (.tableswitch 89 0 5 #[37, 43, 53, 60, 67, 74], 37) := by decide +kernel
theorem dX9_childIs_60 : decode cX9_childIs 60 = .ok (.aload_n 0, 1) := by decide +kernel
theorem dX9_childIs_61 : decode cX9_childIs 61 = .ok (.iload_n 1, 1) := by decide +kernel
theorem dX9_childIs_62 : decode cX9_childIs 62 = .ok (.invokevirtual 227, 3) := by decide +kernel
theorem dX9_childIs_65 : decode cX9_childIs 65 = .ok (.ireturn, 1) := by decide +kernel
theorem dX9_childIs_66 : decode cX9_childIs 66 = .ok (.aload_n 0, 1) := by decide +kernel
theorem dX9_childIs_67 : decode cX9_childIs 67 = .ok (.iload_n 1, 1) := by decide +kernel
theorem dX9_childIs_68 : decode cX9_childIs 68 = .ok (.aload_n 0, 1) := by decide +kernel
theorem dX9_childIs_69 : decode cX9_childIs 69 = .ok (.getfield 187, 3) := by decide +kernel
theorem dX9_childIs_72 : decode cX9_childIs 72 = .ok (.invokevirtual 224, 3) := by decide +kernel
theorem dX9_childIs_75 : decode cX9_childIs 75 = .ok (.ireturn, 1) := by decide +kernel
theorem dX9_childIs_76 : decode cX9_childIs 76 = .ok (.aload_n 0, 1) := by decide +kernel
theorem dX9_childIs_77 : decode cX9_childIs 77 = .ok (.getfield 37, 3) := by decide +kernel
theorem dX9_childIs_80 : decode cX9_childIs 80 = .ok (.iload_n 1, 1) := by decide +kernel
theorem dX9_childIs_81 : decode cX9_childIs 81 = .ok (.iaload, 1) := by decide +kernel
theorem dX9_childIs_82 : decode cX9_childIs 82 = .ok (.ireturn, 1) := by decide +kernel
theorem dX9_childIs_83 : decode cX9_childIs 83 = .ok (.aload_n 0, 1) := by decide +kernel
theorem dX9_childIs_84 : decode cX9_childIs 84 = .ok (.getfield 47, 3) := by decide +kernel
theorem dX9_childIs_87 : decode cX9_childIs 87 = .ok (.iload_n 1, 1) := by decide +kernel
theorem dX9_childIs_88 : decode cX9_childIs 88 = .ok (.iaload, 1) := by decide +kernel
theorem dX9_childIs_89 : decode cX9_childIs 89 = .ok (.ireturn, 1) := by decide +kernel
theorem dX9_childIs_90 : decode cX9_childIs 90 = .ok (.aload_n 0, 1) := by decide +kernel
theorem dX9_childIs_91 : decode cX9_childIs 91 = .ok (.getfield 50, 3) := by decide +kernel
theorem dX9_childIs_94 : decode cX9_childIs 94 = .ok (.iload_n 1, 1) := by decide +kernel
theorem dX9_childIs_95 : decode cX9_childIs 95 = .ok (.iaload, 1) := by decide +kernel
theorem dX9_childIs_96 : decode cX9_childIs 96 = .ok (.ireturn, 1) := by decide +kernel
theorem dX9_childIs_97 : decode cX9_childIs 97 = .ok (.aload_n 0, 1) := by decide +kernel
theorem dX9_childIs_98 : decode cX9_childIs 98 = .ok (.getfield 59, 3) := by decide +kernel
theorem dX9_childIs_101 : decode cX9_childIs 101 = .ok (.iload_n 1, 1) := by decide +kernel
theorem dX9_childIs_102 : decode cX9_childIs 102 = .ok (.baload, 1) := by decide +kernel
theorem dX9_childIs_103 : decode cX9_childIs 103 = .ok (.ifCond .eq 7, 3) := by decide +kernel
theorem dX9_childIs_106 : decode cX9_childIs 106 = .ok (.iconst 1, 1) := by decide +kernel
theorem dX9_childIs_107 : decode cX9_childIs 107 = .ok (.goto 4, 3) := by decide +kernel
theorem dX9_childIs_110 : decode cX9_childIs 110 = .ok (.iconst 0, 1) := by decide +kernel
theorem dX9_childIs_111 : decode cX9_childIs 111 = .ok (.ireturn, 1) := by decide +kernel
theorem dX9_childIs_112 : decode cX9_childIs 112 = .ok (.aload_n 0, 1) := by decide +kernel
theorem dX9_childIs_113 : decode cX9_childIs 113 = .ok (.getfield 28, 3) := by decide +kernel
theorem dX9_childIs_116 : decode cX9_childIs 116 = .ok (.iload_n 1, 1) := by decide +kernel
theorem dX9_childIs_117 : decode cX9_childIs 117 = .ok (.iaload, 1) := by decide +kernel
theorem dX9_childIs_118 : decode cX9_childIs 118 = .ok (.ireturn, 1) := by decide +kernel
theorem dX9_stay_0 : decode cX9_stay 0 = .ok (.aload_n 0, 1) := by decide +kernel
theorem dX9_stay_1 : decode cX9_stay 1 = .ok (.iload_n 1, 1) := by decide +kernel
theorem dX9_stay_2 : decode cX9_stay 2 = .ok (.iconst 0, 1) := by decide +kernel
theorem dX9_stay_3 : decode cX9_stay 3 = .ok (.aload_n 0, 1) := by decide +kernel
theorem dX9_stay_4 : decode cX9_stay 4 = .ok (.getfield 253, 3) := by decide +kernel
theorem dX9_stay_7 : decode cX9_stay 7 = .ok (.iconst 1, 1) := by decide +kernel
theorem dX9_stay_8 : decode cX9_stay 8 = .ok (.isub, 1) := by decide +kernel
theorem dX9_stay_9 : decode cX9_stay 9 = .ok (.invokestatic 165, 3) := by decide +kernel
theorem dX9_stay_12 : decode cX9_stay 12 = .ok (.iload_n 2, 1) := by decide +kernel
theorem dX9_stay_13 : decode cX9_stay 13 = .ok (.iconst 0, 1) := by decide +kernel
theorem dX9_stay_14 : decode cX9_stay 14 = .ok (.iconst 4, 1) := by decide +kernel
theorem dX9_stay_15 : decode cX9_stay 15 = .ok (.invokestatic 165, 3) := by decide +kernel
theorem dX9_stay_18 : decode cX9_stay 18 = .ok (.iconst 1, 1) := by decide +kernel
theorem dX9_stay_19 : decode cX9_stay 19 = .ok (.invokevirtual 179, 3) := by decide +kernel
theorem dX9_stay_22 : decode cX9_stay 22 = .ok (.ifCond .ne 5, 3) := by decide +kernel
theorem dX9_stay_25 : decode cX9_stay 25 = .ok (.iconst 0, 1) := by decide +kernel
theorem dX9_stay_26 : decode cX9_stay 26 = .ok (.ireturn, 1) := by decide +kernel
theorem dX9_stay_27 : decode cX9_stay 27 = .ok (.iload_n 2, 1) := by decide +kernel
theorem dX9_stay_28 : decode cX9_stay 28 = .ok (.ifCond .ne 12, 3) := by decide +kernel
theorem dX9_stay_31 : decode cX9_stay 31 = .ok (.aload_n 0, 1) := by decide +kernel
theorem dX9_stay_32 : decode cX9_stay 32 = .ok (.getfield 125, 3) := by decide +kernel
theorem dX9_stay_35 : decode cX9_stay 35 = .ok (.iload_n 1, 1) := by decide +kernel
theorem dX9_stay_36 : decode cX9_stay 36 = .ok (.iaload, 1) := by decide +kernel
theorem dX9_stay_37 : decode cX9_stay 37 = .ok (.goto 51, 3) := by decide +kernel
theorem dX9_stay_40 : decode cX9_stay 40 = .ok (.iload_n 2, 1) := by decide +kernel
theorem dX9_stay_41 : decode cX9_stay 41 = .ok (.iconst 1, 1) := by decide +kernel
theorem dX9_stay_42 : decode cX9_stay 42 = .ok (.if_icmp .ne 12, 3) := by decide +kernel
theorem dX9_stay_45 : decode cX9_stay 45 = .ok (.aload_n 0, 1) := by decide +kernel
theorem dX9_stay_46 : decode cX9_stay 46 = .ok (.getfield 128, 3) := by decide +kernel
theorem dX9_stay_49 : decode cX9_stay 49 = .ok (.iload_n 1, 1) := by decide +kernel
theorem dX9_stay_50 : decode cX9_stay 50 = .ok (.iaload, 1) := by decide +kernel
theorem dX9_stay_51 : decode cX9_stay 51 = .ok (.goto 37, 3) := by decide +kernel
theorem dX9_stay_54 : decode cX9_stay 54 = .ok (.iload_n 2, 1) := by decide +kernel
theorem dX9_stay_55 : decode cX9_stay 55 = .ok (.iconst 2, 1) := by decide +kernel
theorem dX9_stay_56 : decode cX9_stay 56 = .ok (.if_icmp .ne 12, 3) := by decide +kernel
theorem dX9_stay_59 : decode cX9_stay 59 = .ok (.aload_n 0, 1) := by decide +kernel
theorem dX9_stay_60 : decode cX9_stay 60 = .ok (.getfield 131, 3) := by decide +kernel
theorem dX9_stay_63 : decode cX9_stay 63 = .ok (.iload_n 1, 1) := by decide +kernel
theorem dX9_stay_64 : decode cX9_stay 64 = .ok (.iaload, 1) := by decide +kernel
theorem dX9_stay_65 : decode cX9_stay 65 = .ok (.goto 23, 3) := by decide +kernel
theorem dX9_stay_68 : decode cX9_stay 68 = .ok (.iload_n 2, 1) := by decide +kernel
theorem dX9_stay_69 : decode cX9_stay 69 = .ok (.iconst 3, 1) := by decide +kernel
theorem dX9_stay_70 : decode cX9_stay 70 = .ok (.if_icmp .ne 12, 3) := by decide +kernel
theorem dX9_stay_73 : decode cX9_stay 73 = .ok (.aload_n 0, 1) := by decide +kernel
theorem dX9_stay_74 : decode cX9_stay 74 = .ok (.getfield 134, 3) := by decide +kernel
theorem dX9_stay_77 : decode cX9_stay 77 = .ok (.iload_n 1, 1) := by decide +kernel
theorem dX9_stay_78 : decode cX9_stay 78 = .ok (.iaload, 1) := by decide +kernel
theorem dX9_stay_79 : decode cX9_stay 79 = .ok (.goto 9, 3) := by decide +kernel
theorem dX9_stay_82 : decode cX9_stay 82 = .ok (.aload_n 0, 1) := by decide +kernel
theorem dX9_stay_83 : decode cX9_stay 83 = .ok (.getfield 137, 3) := by decide +kernel
theorem dX9_stay_86 : decode cX9_stay 86 = .ok (.iload_n 1, 1) := by decide +kernel
theorem dX9_stay_87 : decode cX9_stay 87 = .ok (.iaload, 1) := by decide +kernel
theorem dX9_stay_88 : decode cX9_stay 88 = .ok (.ireturn, 1) := by decide +kernel
theorem dX9_wasAllowed_0 : decode cX9_wasAllowed 0 = .ok (.aload_n 0, 1) := by decide +kernel
theorem dX9_wasAllowed_1 : decode cX9_wasAllowed 1 = .ok (.iload_n 1, 1) := by decide +kernel
theorem dX9_wasAllowed_2 : decode cX9_wasAllowed 2 = .ok (.iconst 0, 1) := by decide +kernel
theorem dX9_wasAllowed_3 : decode cX9_wasAllowed 3 = .ok (.aload_n 0, 1) := by decide +kernel
theorem dX9_wasAllowed_4 : decode cX9_wasAllowed 4 = .ok (.getfield 253, 3) := by decide +kernel
theorem dX9_wasAllowed_7 : decode cX9_wasAllowed 7 = .ok (.iconst 1, 1) := by decide +kernel
theorem dX9_wasAllowed_8 : decode cX9_wasAllowed 8 = .ok (.isub, 1) := by decide +kernel
theorem dX9_wasAllowed_9 : decode cX9_wasAllowed 9 = .ok (.invokestatic 165, 3) := by decide +kernel
theorem dX9_wasAllowed_12 : decode cX9_wasAllowed 12 = .ok (.iconst 1, 1) := by decide +kernel
theorem dX9_wasAllowed_13 : decode cX9_wasAllowed 13 = .ok (.iconst 1, 1) := by decide +kernel
theorem dX9_wasAllowed_14 : decode cX9_wasAllowed 14 = .ok (.invokevirtual 179, 3) := by decide +kernel
theorem dX9_wasAllowed_17 : decode cX9_wasAllowed 17 = .ok (.ifCond .eq 32, 3) := by decide +kernel
theorem dX9_wasAllowed_20 : decode cX9_wasAllowed 20 = .ok (.aload_n 0, 1) := by decide +kernel
theorem dX9_wasAllowed_21 : decode cX9_wasAllowed 21 = .ok (.aload_n 0, 1) := by decide +kernel
theorem dX9_wasAllowed_22 : decode cX9_wasAllowed 22 = .ok (.getfield 125, 3) := by decide +kernel
theorem dX9_wasAllowed_25 : decode cX9_wasAllowed 25 = .ok (.iload_n 1, 1) := by decide +kernel
theorem dX9_wasAllowed_26 : decode cX9_wasAllowed 26 = .ok (.iaload, 1) := by decide +kernel
theorem dX9_wasAllowed_27 : decode cX9_wasAllowed 27 = .ok (.aload_n 0, 1) := by decide +kernel
theorem dX9_wasAllowed_28 : decode cX9_wasAllowed 28 = .ok (.getfield 128, 3) := by decide +kernel
theorem dX9_wasAllowed_31 : decode cX9_wasAllowed 31 = .ok (.iload_n 1, 1) := by decide +kernel
theorem dX9_wasAllowed_32 : decode cX9_wasAllowed 32 = .ok (.iaload, 1) := by decide +kernel
theorem dX9_wasAllowed_33 : decode cX9_wasAllowed 33 = .ok (.aload_n 0, 1) := by decide +kernel
theorem dX9_wasAllowed_34 : decode cX9_wasAllowed 34 = .ok (.getfield 131, 3) := by decide +kernel
theorem dX9_wasAllowed_37 : decode cX9_wasAllowed 37 = .ok (.iload_n 1, 1) := by decide +kernel
theorem dX9_wasAllowed_38 : decode cX9_wasAllowed 38 = .ok (.iaload, 1) := by decide +kernel
theorem dX9_wasAllowed_39 : decode cX9_wasAllowed 39 = .ok (.invokevirtual 237, 3) := by decide +kernel
theorem dX9_wasAllowed_42 : decode cX9_wasAllowed 42 = .ok (.ifCond .ne 7, 3) := by decide +kernel
theorem dX9_wasAllowed_45 : decode cX9_wasAllowed 45 = .ok (.iconst 1, 1) := by decide +kernel
theorem dX9_wasAllowed_46 : decode cX9_wasAllowed 46 = .ok (.goto 4, 3) := by decide +kernel
theorem dX9_wasAllowed_49 : decode cX9_wasAllowed 49 = .ok (.iconst 0, 1) := by decide +kernel
theorem dX9_wasAllowed_50 : decode cX9_wasAllowed 50 = .ok (.ireturn, 1) := by decide +kernel
theorem dX9_blacken_0 : decode cX9_blacken 0 = .ok (.aload_n 0, 1) := by decide +kernel
theorem dX9_blacken_1 : decode cX9_blacken 1 = .ok (.aload_n 0, 1) := by decide +kernel
theorem dX9_blacken_2 : decode cX9_blacken 2 = .ok (.iload_n 1, 1) := by decide +kernel
theorem dX9_blacken_3 : decode cX9_blacken 3 = .ok (.invokevirtual 193, 3) := by decide +kernel
theorem dX9_blacken_6 : decode cX9_blacken 6 = .ok (.iconst 1, 1) := by decide +kernel
theorem dX9_blacken_7 : decode cX9_blacken 7 = .ok (.iconst 1, 1) := by decide +kernel
theorem dX9_blacken_8 : decode cX9_blacken 8 = .ok (.invokevirtual 179, 3) := by decide +kernel
theorem dX9_blacken_11 : decode cX9_blacken 11 = .ok (.ifCond .ne 5, 3) := by decide +kernel
theorem dX9_blacken_14 : decode cX9_blacken 14 = .ok (.iconst 0, 1) := by decide +kernel
theorem dX9_blacken_15 : decode cX9_blacken 15 = .ok (.ireturn, 1) := by decide +kernel
theorem dX9_blacken_16 : decode cX9_blacken 16 = .ok (.aload_n 0, 1) := by decide +kernel
theorem dX9_blacken_17 : decode cX9_blacken 17 = .ok (.getfield 80, 3) := by decide +kernel
theorem dX9_blacken_20 : decode cX9_blacken 20 = .ok (.iload_n 1, 1) := by decide +kernel
theorem dX9_blacken_21 : decode cX9_blacken 21 = .ok (.baload, 1) := by decide +kernel
theorem dX9_blacken_22 : decode cX9_blacken 22 = .ok (.istore_n 3, 1) := by decide +kernel
theorem dX9_blacken_23 : decode cX9_blacken 23 = .ok (.aload_n 0, 1) := by decide +kernel
theorem dX9_blacken_24 : decode cX9_blacken 24 = .ok (.getfield 80, 3) := by decide +kernel
theorem dX9_blacken_27 : decode cX9_blacken 27 = .ok (.iload_n 1, 1) := by decide +kernel
theorem dX9_blacken_28 : decode cX9_blacken 28 = .ok (.iload_n 2, 1) := by decide +kernel
theorem dX9_blacken_29 : decode cX9_blacken 29 = .ok (.bastore, 1) := by decide +kernel
theorem dX9_blacken_30 : decode cX9_blacken 30 = .ok (.iload_n 3, 1) := by decide +kernel
theorem dX9_blacken_31 : decode cX9_blacken 31 = .ok (.ireturn, 1) := by decide +kernel
theorem dX9_file_0 : decode cX9_file 0 = .ok (.aload_n 0, 1) := by decide +kernel
theorem dX9_file_1 : decode cX9_file 1 = .ok (.iload_n 1, 1) := by decide +kernel
theorem dX9_file_2 : decode cX9_file 2 = .ok (.invokevirtual 208, 3) := by decide +kernel
theorem dX9_file_5 : decode cX9_file 5 = .ok (.ifCond .eq 11, 3) := by decide +kernel
theorem dX9_file_8 : decode cX9_file 8 = .ok (.iload_n 2, 1) := by decide +kernel
theorem dX9_file_9 : decode cX9_file 9 = .ok (.ifCond .lt 7, 3) := by decide +kernel
theorem dX9_file_12 : decode cX9_file 12 = .ok (.iconst 1, 1) := by decide +kernel
theorem dX9_file_13 : decode cX9_file 13 = .ok (.goto 4, 3) := by decide +kernel
theorem dX9_file_16 : decode cX9_file 16 = .ok (.iconst 0, 1) := by decide +kernel
theorem dX9_file_17 : decode cX9_file 17 = .ok (.istore_n 3, 1) := by decide +kernel
theorem dX9_file_18 : decode cX9_file 18 = .ok (.aload_n 0, 1) := by decide +kernel
theorem dX9_file_19 : decode cX9_file 19 = .ok (.iload_n 3, 1) := by decide +kernel
theorem dX9_file_20 : decode cX9_file 20 = .ok (.iload_n 3, 1) := by decide +kernel
theorem dX9_file_21 : decode cX9_file 21 = .ok (.ifCond .eq 21, 3) := by decide +kernel
theorem dX9_file_24 : decode cX9_file 24 = .ok (.aload_n 0, 1) := by decide +kernel
theorem dX9_file_25 : decode cX9_file 25 = .ok (.iload_n 1, 1) := by decide +kernel
theorem dX9_file_26 : decode cX9_file 26 = .ok (.aload_n 0, 1) := by decide +kernel
theorem dX9_file_27 : decode cX9_file 27 = .ok (.getfield 187, 3) := by decide +kernel
theorem dX9_file_30 : decode cX9_file 30 = .ok (.invokevirtual 224, 3) := by decide +kernel
theorem dX9_file_33 : decode cX9_file 33 = .ok (.bipush 18, 2) := by decide +kernel
theorem dX9_file_35 : decode cX9_file 35 = .ok (.if_icmp .lt 7, 3) := by decide +kernel
theorem dX9_file_38 : decode cX9_file 38 = .ok (.iconst 1, 1) := by decide +kernel
theorem dX9_file_39 : decode cX9_file 39 = .ok (.goto 4, 3) := by decide +kernel
theorem dX9_file_42 : decode cX9_file 42 = .ok (.iconst 0, 1) := by decide +kernel
theorem dX9_file_43 : decode cX9_file 43 = .ok (.iconst 1, 1) := by decide +kernel
theorem dX9_file_44 : decode cX9_file 44 = .ok (.invokevirtual 179, 3) := by decide +kernel
theorem dX9_file_47 : decode cX9_file 47 = .ok (.ifCond .ne 5, 3) := by decide +kernel
theorem dX9_file_50 : decode cX9_file 50 = .ok (.iconst 0, 1) := by decide +kernel
theorem dX9_file_51 : decode cX9_file 51 = .ok (.ireturn, 1) := by decide +kernel
theorem dX9_file_52 : decode cX9_file 52 = .ok (.iload_n 2, 1) := by decide +kernel
theorem dX9_file_53 : decode cX9_file 53 = .ok (.istore 4, 2) := by decide +kernel
theorem dX9_file_55 : decode cX9_file 55 = .ok (.iconst 0, 1) := by decide +kernel
theorem dX9_file_56 : decode cX9_file 56 = .ok (.istore 5, 2) := by decide +kernel
theorem dX9_file_58 : decode cX9_file 58 = .ok (.iload 5, 2) := by decide +kernel
theorem dX9_file_60 : decode cX9_file 60 = .ok (.aload_n 0, 1) := by decide +kernel
theorem dX9_file_61 : decode cX9_file 61 = .ok (.getfield 253, 3) := by decide +kernel
theorem dX9_file_64 : decode cX9_file 64 = .ok (.if_icmp .ge 56, 3) := by decide +kernel
theorem dX9_file_67 : decode cX9_file 67 = .ok (.aload_n 0, 1) := by decide +kernel
theorem dX9_file_68 : decode cX9_file 68 = .ok (.getfield 125, 3) := by decide +kernel
theorem dX9_file_71 : decode cX9_file 71 = .ok (.iload 5, 2) := by decide +kernel
theorem dX9_file_73 : decode cX9_file 73 = .ok (.iaload, 1) := by decide +kernel
theorem dX9_file_74 : decode cX9_file 74 = .ok (.iload_n 1, 1) := by decide +kernel
theorem dX9_file_75 : decode cX9_file 75 = .ok (.if_icmp .ne 39, 3) := by decide +kernel
theorem dX9_file_78 : decode cX9_file 78 = .ok (.iload 4, 2) := by decide +kernel
theorem dX9_file_80 : decode cX9_file 80 = .ok (.ifCond .ne 31, 3) := by decide +kernel
theorem dX9_file_83 : decode cX9_file 83 = .ok (.aload_n 0, 1) := by decide +kernel
theorem dX9_file_84 : decode cX9_file 84 = .ok (.getfield 80, 3) := by decide +kernel
theorem dX9_file_87 : decode cX9_file 87 = .ok (.aload_n 0, 1) := by decide +kernel
theorem dX9_file_88 : decode cX9_file 88 = .ok (.getfield 128, 3) := by decide +kernel
theorem dX9_file_91 : decode cX9_file 91 = .ok (.iload 5, 2) := by decide +kernel
theorem dX9_file_93 : decode cX9_file 93 = .ok (.iaload, 1) := by decide +kernel
theorem dX9_file_94 : decode cX9_file 94 = .ok (.baload, 1) := by decide +kernel
theorem dX9_file_95 : decode cX9_file 95 = .ok (.ifCond .eq 8, 3) := by decide +kernel
theorem dX9_file_98 : decode cX9_file 98 = .ok (.bipush (-2), 2) := by decide +kernel
theorem dX9_file_100 : decode cX9_file 100 = .ok (.goto 10, 3) := by decide +kernel
theorem dX9_file_103 : decode cX9_file 103 = .ok (.aload_n 0, 1) := by decide +kernel
theorem dX9_file_104 : decode cX9_file 104 = .ok (.getfield 128, 3) := by decide +kernel
theorem dX9_file_107 : decode cX9_file 107 = .ok (.iload 5, 2) := by decide +kernel
theorem dX9_file_109 : decode cX9_file 109 = .ok (.iaload, 1) := by decide +kernel
theorem dX9_file_110 : decode cX9_file 110 = .ok (.ireturn, 1) := by decide +kernel
theorem dX9_file_111 : decode cX9_file 111 = .ok (.iinc 4 (-1), 3) := by decide +kernel
theorem dX9_file_114 : decode cX9_file 114 = .ok (.iinc 5 1, 3) := by decide +kernel
theorem dX9_file_117 : decode cX9_file 117 = .ok (.goto (-59), 3) := by decide +kernel
theorem dX9_file_120 : decode cX9_file 120 = .ok (.iconst (-1), 1) := by decide +kernel
theorem dX9_file_121 : decode cX9_file 121 = .ok (.ireturn, 1) := by decide +kernel
theorem dJ6_bitCount_0f7a4_0 : decode cJ6_bitCount_0f7a4 0 = .ok (.iload_n 0, 1) := by decide +kernel
theorem dJ6_bitCount_0f7a4_1 : decode cJ6_bitCount_0f7a4 1 = .ok (.iload_n 0, 1) := by decide +kernel
theorem dJ6_bitCount_0f7a4_2 : decode cJ6_bitCount_0f7a4 2 = .ok (.iconst 1, 1) := by decide +kernel
theorem dJ6_bitCount_0f7a4_3 : decode cJ6_bitCount_0f7a4 3 = .ok (.iushr, 1) := by decide +kernel
theorem dJ6_bitCount_0f7a4_4 : decode cJ6_bitCount_0f7a4 4 = .ok (.ldc_w 265, 3) := by decide +kernel
theorem dJ6_bitCount_0f7a4_7 : decode cJ6_bitCount_0f7a4 7 = .ok (.iand, 1) := by decide +kernel
theorem dJ6_bitCount_0f7a4_8 : decode cJ6_bitCount_0f7a4 8 = .ok (.isub, 1) := by decide +kernel
theorem dJ6_bitCount_0f7a4_9 : decode cJ6_bitCount_0f7a4 9 = .ok (.istore_n 0, 1) := by decide +kernel
theorem dJ6_bitCount_0f7a4_10 : decode cJ6_bitCount_0f7a4 10 = .ok (.iload_n 0, 1) := by decide +kernel
theorem dJ6_bitCount_0f7a4_11 : decode cJ6_bitCount_0f7a4 11 = .ok (.ldc_w 266, 3) := by decide +kernel
theorem dJ6_bitCount_0f7a4_14 : decode cJ6_bitCount_0f7a4 14 = .ok (.iand, 1) := by decide +kernel
theorem dJ6_bitCount_0f7a4_15 : decode cJ6_bitCount_0f7a4 15 = .ok (.iload_n 0, 1) := by decide +kernel
theorem dJ6_bitCount_0f7a4_16 : decode cJ6_bitCount_0f7a4 16 = .ok (.iconst 2, 1) := by decide +kernel
theorem dJ6_bitCount_0f7a4_17 : decode cJ6_bitCount_0f7a4 17 = .ok (.iushr, 1) := by decide +kernel
theorem dJ6_bitCount_0f7a4_18 : decode cJ6_bitCount_0f7a4 18 = .ok (.ldc_w 266, 3) := by decide +kernel
theorem dJ6_bitCount_0f7a4_21 : decode cJ6_bitCount_0f7a4 21 = .ok (.iand, 1) := by decide +kernel
theorem dJ6_bitCount_0f7a4_22 : decode cJ6_bitCount_0f7a4 22 = .ok (.iadd, 1) := by decide +kernel
theorem dJ6_bitCount_0f7a4_23 : decode cJ6_bitCount_0f7a4 23 = .ok (.istore_n 0, 1) := by decide +kernel
theorem dJ6_bitCount_0f7a4_24 : decode cJ6_bitCount_0f7a4 24 = .ok (.iload_n 0, 1) := by decide +kernel
theorem dJ6_bitCount_0f7a4_25 : decode cJ6_bitCount_0f7a4 25 = .ok (.iload_n 0, 1) := by decide +kernel
theorem dJ6_bitCount_0f7a4_26 : decode cJ6_bitCount_0f7a4 26 = .ok (.iconst 4, 1) := by decide +kernel
theorem dJ6_bitCount_0f7a4_27 : decode cJ6_bitCount_0f7a4 27 = .ok (.iushr, 1) := by decide +kernel
theorem dJ6_bitCount_0f7a4_28 : decode cJ6_bitCount_0f7a4 28 = .ok (.iadd, 1) := by decide +kernel
theorem dJ6_bitCount_0f7a4_29 : decode cJ6_bitCount_0f7a4 29 = .ok (.ldc_w 267, 3) := by decide +kernel
theorem dJ6_bitCount_0f7a4_32 : decode cJ6_bitCount_0f7a4 32 = .ok (.iand, 1) := by decide +kernel
theorem dJ6_bitCount_0f7a4_33 : decode cJ6_bitCount_0f7a4 33 = .ok (.istore_n 0, 1) := by decide +kernel
theorem dJ6_bitCount_0f7a4_34 : decode cJ6_bitCount_0f7a4 34 = .ok (.iload_n 0, 1) := by decide +kernel
theorem dJ6_bitCount_0f7a4_35 : decode cJ6_bitCount_0f7a4 35 = .ok (.iload_n 0, 1) := by decide +kernel
theorem dJ6_bitCount_0f7a4_36 : decode cJ6_bitCount_0f7a4 36 = .ok (.bipush 8, 2) := by decide +kernel
end
section
theorem dJ6_bitCount_0f7a4_38 : decode cJ6_bitCount_0f7a4 38 = .ok (.iushr, 1) := by decide +kernel
theorem dJ6_bitCount_0f7a4_39 : decode cJ6_bitCount_0f7a4 39 = .ok (.iadd, 1) := by decide +kernel
theorem dJ6_bitCount_0f7a4_40 : decode cJ6_bitCount_0f7a4 40 = .ok (.istore_n 0, 1) := by decide +kernel
theorem dJ6_bitCount_0f7a4_41 : decode cJ6_bitCount_0f7a4 41 = .ok (.iload_n 0, 1) := by decide +kernel
theorem dJ6_bitCount_0f7a4_42 : decode cJ6_bitCount_0f7a4 42 = .ok (.iload_n 0, 1) := by decide +kernel
theorem dJ6_bitCount_0f7a4_43 : decode cJ6_bitCount_0f7a4 43 = .ok (.bipush 16, 2) := by decide +kernel
theorem dJ6_bitCount_0f7a4_45 : decode cJ6_bitCount_0f7a4 45 = .ok (.iushr, 1) := by decide +kernel
theorem dJ6_bitCount_0f7a4_46 : decode cJ6_bitCount_0f7a4 46 = .ok (.iadd, 1) := by decide +kernel
theorem dJ6_bitCount_0f7a4_47 : decode cJ6_bitCount_0f7a4 47 = .ok (.istore_n 0, 1) := by decide +kernel
theorem dJ6_bitCount_0f7a4_48 : decode cJ6_bitCount_0f7a4 48 = .ok (.iload_n 0, 1) := by decide +kernel
theorem dJ6_bitCount_0f7a4_49 : decode cJ6_bitCount_0f7a4 49 = .ok (.bipush 63, 2) := by decide +kernel
theorem dJ6_bitCount_0f7a4_51 : decode cJ6_bitCount_0f7a4 51 = .ok (.iand, 1) := by decide +kernel
theorem dJ6_bitCount_0f7a4_52 : decode cJ6_bitCount_0f7a4 52 = .ok (.ireturn, 1) := by decide +kernel
theorem dJ9_abs_0f7a4_0 : decode cJ9_abs_0f7a4 0 = .ok (.iload_n 0, 1) := by decide +kernel
theorem dJ9_abs_0f7a4_1 : decode cJ9_abs_0f7a4 1 = .ok (.ifCond .ge 8, 3) := by decide +kernel
theorem dJ9_abs_0f7a4_4 : decode cJ9_abs_0f7a4 4 = .ok (.iload_n 0, 1) := by decide +kernel
theorem dJ9_abs_0f7a4_5 : decode cJ9_abs_0f7a4 5 = .ok (.ineg, 1) := by decide +kernel
theorem dJ9_abs_0f7a4_6 : decode cJ9_abs_0f7a4 6 = .ok (.goto 4, 3) := by decide +kernel
theorem dJ9_abs_0f7a4_9 : decode cJ9_abs_0f7a4 9 = .ok (.iload_n 0, 1) := by decide +kernel
theorem dJ9_abs_0f7a4_10 : decode cJ9_abs_0f7a4 10 = .ok (.ireturn, 1) := by decide +kernel
theorem dJ9_max_7cf53_0 : decode cJ9_max_7cf53 0 = .ok (.iload_n 0, 1) := by decide +kernel
theorem dJ9_max_7cf53_1 : decode cJ9_max_7cf53 1 = .ok (.iload_n 1, 1) := by decide +kernel
theorem dJ9_max_7cf53_2 : decode cJ9_max_7cf53 2 = .ok (.if_icmp .lt 7, 3) := by decide +kernel
theorem dJ9_max_7cf53_5 : decode cJ9_max_7cf53 5 = .ok (.iload_n 0, 1) := by decide +kernel
theorem dJ9_max_7cf53_6 : decode cJ9_max_7cf53 6 = .ok (.goto 4, 3) := by decide +kernel
theorem dJ9_max_7cf53_9 : decode cJ9_max_7cf53 9 = .ok (.iload_n 1, 1) := by decide +kernel
theorem dJ9_max_7cf53_10 : decode cJ9_max_7cf53 10 = .ok (.ireturn, 1) := by decide +kernel
theorem dJ9_min_7cf53_0 : decode cJ9_min_7cf53 0 = .ok (.iload_n 0, 1) := by decide +kernel
theorem dJ9_min_7cf53_1 : decode cJ9_min_7cf53 1 = .ok (.iload_n 1, 1) := by decide +kernel
theorem dJ9_min_7cf53_2 : decode cJ9_min_7cf53 2 = .ok (.if_icmp .gt 7, 3) := by decide +kernel
theorem dJ9_min_7cf53_5 : decode cJ9_min_7cf53 5 = .ok (.iload_n 0, 1) := by decide +kernel
theorem dJ9_min_7cf53_6 : decode cJ9_min_7cf53 6 = .ok (.goto 4, 3) := by decide +kernel
theorem dJ9_min_7cf53_9 : decode cJ9_min_7cf53 9 = .ok (.iload_n 1, 1) := by decide +kernel
theorem dJ9_min_7cf53_10 : decode cJ9_min_7cf53 10 = .ok (.ireturn, 1) := by decide +kernel
end
section
theorem dL_child_0 : decode cL_child 0 = .ok (.aload 6, 2) := by decide +kernel
theorem dL_child_2 : decode cL_child 2 = .ok (.iconst 0, 1) := by decide +kernel
theorem dL_child_3 : decode cL_child 3 = .ok (.aload_n 0, 1) := by decide +kernel
theorem dL_child_4 : decode cL_child 4 = .ok (.iload_n 1, 1) := by decide +kernel
theorem dL_child_5 : decode cL_child 5 = .ok (.iload_n 2, 1) := by decide +kernel
theorem dL_child_6 : decode cL_child 6 = .ok (.iload_n 3, 1) := by decide +kernel
theorem dL_child_7 : decode cL_child 7 = .ok (.iload 4, 2) := by decide +kernel
theorem dL_child_9 : decode cL_child 9 = .ok (.iload 5, 2) := by decide +kernel
theorem dL_child_11 : decode cL_child 11 = .ok (.invokevirtual 7, 3) := by decide +kernel
theorem dL_child_14 : decode cL_child 14 = .ok (.i2l, 1) := by decide +kernel
theorem dL_child_15 : decode cL_child 15 = .ok (.lastore, 1) := by decide +kernel
theorem dL_child_16 : decode cL_child 16 = .ok (.goto 11, 3) := by decide +kernel
theorem dL_child_19 : decode cL_child 19 = .ok (.astore 7, 2) := by decide +kernel
theorem dL_child_21 : decode cL_child 21 = .ok (.iconst 1, 1) := by decide +kernel
theorem dL_child_22 : decode cL_child 22 = .ok (.ireturn, 1) := by decide +kernel
theorem dL_child_23 : decode cL_child 23 = .ok (.astore 7, 2) := by decide +kernel
theorem dL_child_25 : decode cL_child 25 = .ok (.iconst 2, 1) := by decide +kernel
theorem dL_child_26 : decode cL_child 26 = .ok (.ireturn, 1) := by decide +kernel
theorem dL_child_27 : decode cL_child 27 = .ok (.iconst 0, 1) := by decide +kernel
theorem dL_child_28 : decode cL_child 28 = .ok (.ireturn, 1) := by decide +kernel
theorem dL_home_0 : decode cL_home 0 = .ok (.aload 4, 2) := by decide +kernel
theorem dL_home_2 : decode cL_home 2 = .ok (.iconst 0, 1) := by decide +kernel
theorem dL_home_3 : decode cL_home 3 = .ok (.aload_n 0, 1) := by decide +kernel
theorem dL_home_4 : decode cL_home 4 = .ok (.iload_n 1, 1) := by decide +kernel
theorem dL_home_5 : decode cL_home 5 = .ok (.iload_n 2, 1) := by decide +kernel
theorem dL_home_6 : decode cL_home 6 = .ok (.iload_n 3, 1) := by decide +kernel
theorem dL_home_7 : decode cL_home 7 = .ok (.invokevirtual 17, 3) := by decide +kernel
theorem dL_home_10 : decode cL_home 10 = .ok (.i2l, 1) := by decide +kernel
theorem dL_home_11 : decode cL_home 11 = .ok (.lastore, 1) := by decide +kernel
theorem dL_home_12 : decode cL_home 12 = .ok (.goto 11, 3) := by decide +kernel
theorem dL_home_15 : decode cL_home 15 = .ok (.astore 5, 2) := by decide +kernel
theorem dL_home_17 : decode cL_home 17 = .ok (.iconst 1, 1) := by decide +kernel
theorem dL_home_18 : decode cL_home 18 = .ok (.ireturn, 1) := by decide +kernel
theorem dL_home_19 : decode cL_home 19 = .ok (.astore 5, 2) := by decide +kernel
theorem dL_home_21 : decode cL_home 21 = .ok (.iconst 2, 1) := by decide +kernel
theorem dL_home_22 : decode cL_home 22 = .ok (.ireturn, 1) := by decide +kernel
theorem dL_home_23 : decode cL_home 23 = .ok (.iconst 0, 1) := by decide +kernel
theorem dL_home_24 : decode cL_home 24 = .ok (.ireturn, 1) := by decide +kernel
theorem dL_approve_0 : decode cL_approve 0 = .ok (.aload_n 0, 1) := by decide +kernel
theorem dL_approve_1 : decode cL_approve 1 = .ok (.iload_n 1, 1) := by decide +kernel
theorem dL_approve_2 : decode cL_approve 2 = .ok (.iload_n 2, 1) := by decide +kernel
theorem dL_approve_3 : decode cL_approve 3 = .ok (.iload_n 3, 1) := by decide +kernel
theorem dL_approve_4 : decode cL_approve 4 = .ok (.iload 4, 2) := by decide +kernel
theorem dL_approve_6 : decode cL_approve 6 = .ok (.invokevirtual 21, 3) := by decide +kernel
theorem dL_approve_9 : decode cL_approve 9 = .ok (.goto 11, 3) := by decide +kernel
theorem dL_approve_12 : decode cL_approve 12 = .ok (.astore 5, 2) := by decide +kernel
theorem dL_approve_14 : decode cL_approve 14 = .ok (.iconst 1, 1) := by decide +kernel
theorem dL_approve_15 : decode cL_approve 15 = .ok (.ireturn, 1) := by decide +kernel
theorem dL_approve_16 : decode cL_approve 16 = .ok (.astore 5, 2) := by decide +kernel
theorem dL_approve_18 : decode cL_approve 18 = .ok (.iconst 2, 1) := by decide +kernel
theorem dL_approve_19 : decode cL_approve 19 = .ok (.ireturn, 1) := by decide +kernel
theorem dL_approve_20 : decode cL_approve 20 = .ok (.iconst 0, 1) := by decide +kernel
theorem dL_approve_21 : decode cL_approve 21 = .ok (.ireturn, 1) := by decide +kernel
theorem dL_train_0 : decode cL_train 0 = .ok (.aload_n 0, 1) := by decide +kernel
theorem dL_train_1 : decode cL_train 1 = .ok (.iload_n 1, 1) := by decide +kernel
theorem dL_train_2 : decode cL_train 2 = .ok (.iload_n 2, 1) := by decide +kernel
theorem dL_train_3 : decode cL_train 3 = .ok (.iload_n 3, 1) := by decide +kernel
theorem dL_train_4 : decode cL_train 4 = .ok (.invokevirtual 27, 3) := by decide +kernel
theorem dL_train_7 : decode cL_train 7 = .ok (.goto 11, 3) := by decide +kernel
theorem dL_train_10 : decode cL_train 10 = .ok (.astore 4, 2) := by decide +kernel
theorem dL_train_12 : decode cL_train 12 = .ok (.iconst 1, 1) := by decide +kernel
theorem dL_train_13 : decode cL_train 13 = .ok (.ireturn, 1) := by decide +kernel
theorem dL_train_14 : decode cL_train 14 = .ok (.astore 4, 2) := by decide +kernel
theorem dL_train_16 : decode cL_train 16 = .ok (.iconst 2, 1) := by decide +kernel
theorem dL_train_17 : decode cL_train 17 = .ok (.ireturn, 1) := by decide +kernel
theorem dL_train_18 : decode cL_train 18 = .ok (.iconst 0, 1) := by decide +kernel
theorem dL_train_19 : decode cL_train 19 = .ok (.ireturn, 1) := by decide +kernel
theorem dL_rest_0 : decode cL_rest 0 = .ok (.aload_n 0, 1) := by decide +kernel
theorem dL_rest_1 : decode cL_rest 1 = .ok (.iload_n 1, 1) := by decide +kernel
theorem dL_rest_2 : decode cL_rest 2 = .ok (.iload_n 2, 1) := by decide +kernel
theorem dL_rest_3 : decode cL_rest 3 = .ok (.iload_n 3, 1) := by decide +kernel
theorem dL_rest_4 : decode cL_rest 4 = .ok (.invokevirtual 31, 3) := by decide +kernel
theorem dL_rest_7 : decode cL_rest 7 = .ok (.goto 11, 3) := by decide +kernel
theorem dL_rest_10 : decode cL_rest 10 = .ok (.astore 4, 2) := by decide +kernel
theorem dL_rest_12 : decode cL_rest 12 = .ok (.iconst 1, 1) := by decide +kernel
theorem dL_rest_13 : decode cL_rest 13 = .ok (.ireturn, 1) := by decide +kernel
theorem dL_rest_14 : decode cL_rest 14 = .ok (.astore 4, 2) := by decide +kernel
theorem dL_rest_16 : decode cL_rest 16 = .ok (.iconst 2, 1) := by decide +kernel
theorem dL_rest_17 : decode cL_rest 17 = .ok (.ireturn, 1) := by decide +kernel
theorem dL_rest_18 : decode cL_rest 18 = .ok (.iconst 0, 1) := by decide +kernel
theorem dL_rest_19 : decode cL_rest 19 = .ok (.ireturn, 1) := by decide +kernel
theorem dL_report_0 : decode cL_report 0 = .ok (.aload 4, 2) := by decide +kernel
theorem dL_report_2 : decode cL_report 2 = .ok (.iconst 0, 1) := by decide +kernel
theorem dL_report_3 : decode cL_report 3 = .ok (.aload_n 0, 1) := by decide +kernel
theorem dL_report_4 : decode cL_report 4 = .ok (.iload_n 1, 1) := by decide +kernel
theorem dL_report_5 : decode cL_report 5 = .ok (.iload_n 2, 1) := by decide +kernel
theorem dL_report_6 : decode cL_report 6 = .ok (.iload_n 3, 1) := by decide +kernel
theorem dL_report_7 : decode cL_report 7 = .ok (.invokevirtual 34, 3) := by decide +kernel
theorem dL_report_10 : decode cL_report 10 = .ok (.i2l, 1) := by decide +kernel
theorem dL_report_11 : decode cL_report 11 = .ok (.lastore, 1) := by decide +kernel
theorem dL_report_12 : decode cL_report 12 = .ok (.goto 15, 3) := by decide +kernel
theorem dL_report_15 : decode cL_report 15 = .ok (.astore 5, 2) := by decide +kernel
theorem dL_report_17 : decode cL_report 17 = .ok (.iconst 1, 1) := by decide +kernel
theorem dL_report_18 : decode cL_report 18 = .ok (.ireturn, 1) := by decide +kernel
theorem dL_report_19 : decode cL_report 19 = .ok (.astore 5, 2) := by decide +kernel
theorem dL_report_21 : decode cL_report 21 = .ok (.iconst 2, 1) := by decide +kernel
theorem dL_report_22 : decode cL_report 22 = .ok (.ireturn, 1) := by decide +kernel
theorem dL_report_23 : decode cL_report 23 = .ok (.astore 5, 2) := by decide +kernel
theorem dL_report_25 : decode cL_report 25 = .ok (.iconst 3, 1) := by decide +kernel
theorem dL_report_26 : decode cL_report 26 = .ok (.ireturn, 1) := by decide +kernel
theorem dL_report_27 : decode cL_report 27 = .ok (.iconst 0, 1) := by decide +kernel
theorem dL_report_28 : decode cL_report 28 = .ok (.ireturn, 1) := by decide +kernel
theorem dL_see_0 : decode cL_see 0 = .ok (.aload_n 2, 1) := by decide +kernel
theorem dL_see_1 : decode cL_see 1 = .ok (.iconst 0, 1) := by decide +kernel
theorem dL_see_2 : decode cL_see 2 = .ok (.aload_n 0, 1) := by decide +kernel
theorem dL_see_3 : decode cL_see 3 = .ok (.iload_n 1, 1) := by decide +kernel
theorem dL_see_4 : decode cL_see 4 = .ok (.invokevirtual 37, 3) := by decide +kernel
theorem dL_see_7 : decode cL_see 7 = .ok (.ifCond .eq 7, 3) := by decide +kernel
theorem dL_see_10 : decode cL_see 10 = .ok (.lconst 1, 1) := by decide +kernel
theorem dL_see_11 : decode cL_see 11 = .ok (.goto 4, 3) := by decide +kernel
theorem dL_see_14 : decode cL_see 14 = .ok (.lconst 0, 1) := by decide +kernel
theorem dL_see_15 : decode cL_see 15 = .ok (.lastore, 1) := by decide +kernel
theorem dL_see_16 : decode cL_see 16 = .ok (.goto 6, 3) := by decide +kernel
theorem dL_see_19 : decode cL_see 19 = .ok (.astore_n 3, 1) := by decide +kernel
theorem dL_see_20 : decode cL_see 20 = .ok (.iconst 1, 1) := by decide +kernel
theorem dL_see_21 : decode cL_see 21 = .ok (.ireturn, 1) := by decide +kernel
theorem dL_see_22 : decode cL_see 22 = .ok (.iconst 0, 1) := by decide +kernel
theorem dL_see_23 : decode cL_see 23 = .ok (.ireturn, 1) := by decide +kernel
theorem dL_risk_0 : decode cL_risk 0 = .ok (.aload_n 2, 1) := by decide +kernel
theorem dL_risk_1 : decode cL_risk 1 = .ok (.iconst 0, 1) := by decide +kernel
theorem dL_risk_2 : decode cL_risk 2 = .ok (.aload_n 0, 1) := by decide +kernel
theorem dL_risk_3 : decode cL_risk 3 = .ok (.iload_n 1, 1) := by decide +kernel
theorem dL_risk_4 : decode cL_risk 4 = .ok (.invokevirtual 41, 3) := by decide +kernel
theorem dL_risk_7 : decode cL_risk 7 = .ok (.i2l, 1) := by decide +kernel
theorem dL_risk_8 : decode cL_risk 8 = .ok (.lastore, 1) := by decide +kernel
theorem dL_risk_9 : decode cL_risk 9 = .ok (.goto 6, 3) := by decide +kernel
theorem dL_risk_12 : decode cL_risk 12 = .ok (.astore_n 3, 1) := by decide +kernel
theorem dL_risk_13 : decode cL_risk 13 = .ok (.iconst 1, 1) := by decide +kernel
theorem dL_risk_14 : decode cL_risk 14 = .ok (.ireturn, 1) := by decide +kernel
theorem dL_risk_15 : decode cL_risk 15 = .ok (.iconst 0, 1) := by decide +kernel
theorem dL_risk_16 : decode cL_risk 16 = .ok (.ireturn, 1) := by decide +kernel
theorem dL_seeBy_0 : decode cL_seeBy 0 = .ok (.aload_n 2, 1) := by decide +kernel
theorem dL_seeBy_1 : decode cL_seeBy 1 = .ok (.iconst 0, 1) := by decide +kernel
theorem dL_seeBy_2 : decode cL_seeBy 2 = .ok (.aload_n 0, 1) := by decide +kernel
theorem dL_seeBy_3 : decode cL_seeBy 3 = .ok (.iload_n 1, 1) := by decide +kernel
theorem dL_seeBy_4 : decode cL_seeBy 4 = .ok (.invokevirtual 45, 3) := by decide +kernel
theorem dL_seeBy_7 : decode cL_seeBy 7 = .ok (.i2l, 1) := by decide +kernel
theorem dL_seeBy_8 : decode cL_seeBy 8 = .ok (.lastore, 1) := by decide +kernel
theorem dL_seeBy_9 : decode cL_seeBy 9 = .ok (.goto 6, 3) := by decide +kernel
theorem dL_seeBy_12 : decode cL_seeBy 12 = .ok (.astore_n 3, 1) := by decide +kernel
theorem dL_seeBy_13 : decode cL_seeBy 13 = .ok (.iconst 1, 1) := by decide +kernel
theorem dL_seeBy_14 : decode cL_seeBy 14 = .ok (.ireturn, 1) := by decide +kernel
theorem dL_seeBy_15 : decode cL_seeBy 15 = .ok (.iconst 0, 1) := by decide +kernel
theorem dL_seeBy_16 : decode cL_seeBy 16 = .ok (.ireturn, 1) := by decide +kernel
theorem dL_order_0 : decode cL_order 0 = .ok (.aload 5, 2) := by decide +kernel
theorem dL_order_2 : decode cL_order 2 = .ok (.iconst 0, 1) := by decide +kernel
theorem dL_order_3 : decode cL_order 3 = .ok (.aload_n 0, 1) := by decide +kernel
theorem dL_order_4 : decode cL_order 4 = .ok (.iload_n 1, 1) := by decide +kernel
theorem dL_order_5 : decode cL_order 5 = .ok (.iload_n 2, 1) := by decide +kernel
theorem dL_order_6 : decode cL_order 6 = .ok (.iload_n 3, 1) := by decide +kernel
theorem dL_order_7 : decode cL_order 7 = .ok (.iload 4, 2) := by decide +kernel
theorem dL_order_9 : decode cL_order 9 = .ok (.invokevirtual 48, 3) := by decide +kernel
theorem dL_order_12 : decode cL_order 12 = .ok (.i2l, 1) := by decide +kernel
theorem dL_order_13 : decode cL_order 13 = .ok (.lastore, 1) := by decide +kernel
theorem dL_order_14 : decode cL_order 14 = .ok (.goto 15, 3) := by decide +kernel
theorem dL_order_17 : decode cL_order 17 = .ok (.astore 6, 2) := by decide +kernel
theorem dL_order_19 : decode cL_order 19 = .ok (.iconst 1, 1) := by decide +kernel
theorem dL_order_20 : decode cL_order 20 = .ok (.ireturn, 1) := by decide +kernel
theorem dL_order_21 : decode cL_order 21 = .ok (.astore 6, 2) := by decide +kernel
theorem dL_order_23 : decode cL_order 23 = .ok (.iconst 2, 1) := by decide +kernel
theorem dL_order_24 : decode cL_order 24 = .ok (.ireturn, 1) := by decide +kernel
theorem dL_order_25 : decode cL_order 25 = .ok (.astore 6, 2) := by decide +kernel
theorem dL_order_27 : decode cL_order 27 = .ok (.iconst 3, 1) := by decide +kernel
theorem dL_order_28 : decode cL_order 28 = .ok (.ireturn, 1) := by decide +kernel
theorem dL_order_29 : decode cL_order 29 = .ok (.iconst 0, 1) := by decide +kernel
theorem dL_order_30 : decode cL_order 30 = .ok (.ireturn, 1) := by decide +kernel
theorem dL_counts_0 : decode cL_counts 0 = .ok (.aload_n 3, 1) := by decide +kernel
theorem dL_counts_1 : decode cL_counts 1 = .ok (.iconst 0, 1) := by decide +kernel
theorem dL_counts_2 : decode cL_counts 2 = .ok (.aload_n 0, 1) := by decide +kernel
theorem dL_counts_3 : decode cL_counts 3 = .ok (.iload_n 1, 1) := by decide +kernel
theorem dL_counts_4 : decode cL_counts 4 = .ok (.iload_n 2, 1) := by decide +kernel
theorem dL_counts_5 : decode cL_counts 5 = .ok (.invokevirtual 52, 3) := by decide +kernel
theorem dL_counts_8 : decode cL_counts 8 = .ok (.i2l, 1) := by decide +kernel
theorem dL_counts_9 : decode cL_counts 9 = .ok (.lastore, 1) := by decide +kernel
theorem dL_counts_10 : decode cL_counts 10 = .ok (.goto 11, 3) := by decide +kernel
theorem dL_counts_13 : decode cL_counts 13 = .ok (.astore 4, 2) := by decide +kernel
theorem dL_counts_15 : decode cL_counts 15 = .ok (.iconst 1, 1) := by decide +kernel
theorem dL_counts_16 : decode cL_counts 16 = .ok (.ireturn, 1) := by decide +kernel
theorem dL_counts_17 : decode cL_counts 17 = .ok (.astore 4, 2) := by decide +kernel
theorem dL_counts_19 : decode cL_counts 19 = .ok (.iconst 2, 1) := by decide +kernel
theorem dL_counts_20 : decode cL_counts 20 = .ok (.ireturn, 1) := by decide +kernel
theorem dL_counts_21 : decode cL_counts 21 = .ok (.iconst 0, 1) := by decide +kernel
theorem dL_counts_22 : decode cL_counts 22 = .ok (.ireturn, 1) := by decide +kernel
theorem dL_wish_0 : decode cL_wish 0 = .ok (.aload_n 0, 1) := by decide +kernel
theorem dL_wish_1 : decode cL_wish 1 = .ok (.iload_n 1, 1) := by decide +kernel
theorem dL_wish_2 : decode cL_wish 2 = .ok (.iload_n 2, 1) := by decide +kernel
theorem dL_wish_3 : decode cL_wish 3 = .ok (.iload_n 3, 1) := by decide +kernel
theorem dL_wish_4 : decode cL_wish 4 = .ok (.invokevirtual 56, 3) := by decide +kernel
theorem dL_wish_7 : decode cL_wish 7 = .ok (.goto 7, 3) := by decide +kernel
theorem dL_wish_10 : decode cL_wish 10 = .ok (.astore 4, 2) := by decide +kernel
theorem dL_wish_12 : decode cL_wish 12 = .ok (.iconst 1, 1) := by decide +kernel
theorem dL_wish_13 : decode cL_wish 13 = .ok (.ireturn, 1) := by decide +kernel
theorem dL_wish_14 : decode cL_wish 14 = .ok (.iconst 0, 1) := by decide +kernel
theorem dL_wish_15 : decode cL_wish 15 = .ok (.ireturn, 1) := by decide +kernel
theorem dL_why_0 : decode cL_why 0 = .ok (.aload_n 3, 1) := by decide +kernel
theorem dL_why_1 : decode cL_why 1 = .ok (.iconst 0, 1) := by decide +kernel
theorem dL_why_2 : decode cL_why 2 = .ok (.aload_n 0, 1) := by decide +kernel
theorem dL_why_3 : decode cL_why 3 = .ok (.iload_n 1, 1) := by decide +kernel
theorem dL_why_4 : decode cL_why 4 = .ok (.iload_n 2, 1) := by decide +kernel
theorem dL_why_5 : decode cL_why 5 = .ok (.invokevirtual 60, 3) := by decide +kernel
theorem dL_why_8 : decode cL_why 8 = .ok (.i2l, 1) := by decide +kernel
theorem dL_why_9 : decode cL_why 9 = .ok (.lastore, 1) := by decide +kernel
theorem dL_why_10 : decode cL_why 10 = .ok (.goto 7, 3) := by decide +kernel
theorem dL_why_13 : decode cL_why 13 = .ok (.astore 4, 2) := by decide +kernel
theorem dL_why_15 : decode cL_why 15 = .ok (.iconst 1, 1) := by decide +kernel
theorem dL_why_16 : decode cL_why 16 = .ok (.ireturn, 1) := by decide +kernel
theorem dL_why_17 : decode cL_why 17 = .ok (.iconst 0, 1) := by decide +kernel
theorem dL_why_18 : decode cL_why 18 = .ok (.ireturn, 1) := by decide +kernel
theorem dL_worth_0 : decode cL_worth 0 = .ok (.aload_n 3, 1) := by decide +kernel
theorem dL_worth_1 : decode cL_worth 1 = .ok (.iconst 0, 1) := by decide +kernel
theorem dL_worth_2 : decode cL_worth 2 = .ok (.aload_n 0, 1) := by decide +kernel
theorem dL_worth_3 : decode cL_worth 3 = .ok (.iload_n 1, 1) := by decide +kernel
theorem dL_worth_4 : decode cL_worth 4 = .ok (.iload_n 2, 1) := by decide +kernel
theorem dL_worth_5 : decode cL_worth 5 = .ok (.invokevirtual 63, 3) := by decide +kernel
theorem dL_worth_8 : decode cL_worth 8 = .ok (.i2l, 1) := by decide +kernel
theorem dL_worth_9 : decode cL_worth 9 = .ok (.lastore, 1) := by decide +kernel
theorem dL_worth_10 : decode cL_worth 10 = .ok (.goto 7, 3) := by decide +kernel
theorem dL_worth_13 : decode cL_worth 13 = .ok (.astore 4, 2) := by decide +kernel
theorem dL_worth_15 : decode cL_worth 15 = .ok (.iconst 1, 1) := by decide +kernel
theorem dL_worth_16 : decode cL_worth 16 = .ok (.ireturn, 1) := by decide +kernel
theorem dL_worth_17 : decode cL_worth 17 = .ok (.iconst 0, 1) := by decide +kernel
theorem dL_worth_18 : decode cL_worth 18 = .ok (.ireturn, 1) := by decide +kernel
theorem dL_best_0 : decode cL_best 0 = .ok (.aload_n 2, 1) := by decide +kernel
theorem dL_best_1 : decode cL_best 1 = .ok (.iconst 0, 1) := by decide +kernel
theorem dL_best_2 : decode cL_best 2 = .ok (.aload_n 0, 1) := by decide +kernel
theorem dL_best_3 : decode cL_best 3 = .ok (.iload_n 1, 1) := by decide +kernel
theorem dL_best_4 : decode cL_best 4 = .ok (.invokevirtual 66, 3) := by decide +kernel
theorem dL_best_7 : decode cL_best 7 = .ok (.i2l, 1) := by decide +kernel
theorem dL_best_8 : decode cL_best 8 = .ok (.lastore, 1) := by decide +kernel
theorem dL_best_9 : decode cL_best 9 = .ok (.goto 6, 3) := by decide +kernel
theorem dL_best_12 : decode cL_best 12 = .ok (.astore_n 3, 1) := by decide +kernel
theorem dL_best_13 : decode cL_best 13 = .ok (.iconst 1, 1) := by decide +kernel
theorem dL_best_14 : decode cL_best 14 = .ok (.ireturn, 1) := by decide +kernel
theorem dL_best_15 : decode cL_best 15 = .ok (.iconst 0, 1) := by decide +kernel
theorem dL_best_16 : decode cL_best 16 = .ok (.ireturn, 1) := by decide +kernel
theorem dL_place_0 : decode cL_place 0 = .ok (.aload_n 3, 1) := by decide +kernel
theorem dL_place_1 : decode cL_place 1 = .ok (.iconst 0, 1) := by decide +kernel
theorem dL_place_2 : decode cL_place 2 = .ok (.aload_n 0, 1) := by decide +kernel
theorem dL_place_3 : decode cL_place 3 = .ok (.iload_n 1, 1) := by decide +kernel
theorem dL_place_4 : decode cL_place 4 = .ok (.iload_n 2, 1) := by decide +kernel
theorem dL_place_5 : decode cL_place 5 = .ok (.invokevirtual 69, 3) := by decide +kernel
theorem dL_place_8 : decode cL_place 8 = .ok (.i2l, 1) := by decide +kernel
theorem dL_place_9 : decode cL_place 9 = .ok (.lastore, 1) := by decide +kernel
theorem dL_place_10 : decode cL_place 10 = .ok (.goto 11, 3) := by decide +kernel
theorem dL_place_13 : decode cL_place 13 = .ok (.astore 4, 2) := by decide +kernel
theorem dL_place_15 : decode cL_place 15 = .ok (.iconst 1, 1) := by decide +kernel
theorem dL_place_16 : decode cL_place 16 = .ok (.ireturn, 1) := by decide +kernel
theorem dL_place_17 : decode cL_place 17 = .ok (.astore 4, 2) := by decide +kernel
theorem dL_place_19 : decode cL_place 19 = .ok (.iconst 2, 1) := by decide +kernel
theorem dL_place_20 : decode cL_place 20 = .ok (.ireturn, 1) := by decide +kernel
theorem dL_place_21 : decode cL_place 21 = .ok (.iconst 0, 1) := by decide +kernel
theorem dL_place_22 : decode cL_place 22 = .ok (.ireturn, 1) := by decide +kernel
theorem dL_placeAll_0 : decode cL_placeAll 0 = .ok (.aload_n 2, 1) := by decide +kernel
theorem dL_placeAll_1 : decode cL_placeAll 1 = .ok (.iconst 0, 1) := by decide +kernel
theorem dL_placeAll_2 : decode cL_placeAll 2 = .ok (.aload_n 0, 1) := by decide +kernel
theorem dL_placeAll_3 : decode cL_placeAll 3 = .ok (.iload_n 1, 1) := by decide +kernel
theorem dL_placeAll_4 : decode cL_placeAll 4 = .ok (.invokevirtual 72, 3) := by decide +kernel
theorem dL_placeAll_7 : decode cL_placeAll 7 = .ok (.i2l, 1) := by decide +kernel
theorem dL_placeAll_8 : decode cL_placeAll 8 = .ok (.lastore, 1) := by decide +kernel
theorem dL_placeAll_9 : decode cL_placeAll 9 = .ok (.goto 9, 3) := by decide +kernel
theorem dL_placeAll_12 : decode cL_placeAll 12 = .ok (.astore_n 3, 1) := by decide +kernel
theorem dL_placeAll_13 : decode cL_placeAll 13 = .ok (.iconst 1, 1) := by decide +kernel
theorem dL_placeAll_14 : decode cL_placeAll 14 = .ok (.ireturn, 1) := by decide +kernel
theorem dL_placeAll_15 : decode cL_placeAll 15 = .ok (.astore_n 3, 1) := by decide +kernel
theorem dL_placeAll_16 : decode cL_placeAll 16 = .ok (.iconst 2, 1) := by decide +kernel
theorem dL_placeAll_17 : decode cL_placeAll 17 = .ok (.ireturn, 1) := by decide +kernel
theorem dL_placeAll_18 : decode cL_placeAll 18 = .ok (.iconst 0, 1) := by decide +kernel
theorem dL_placeAll_19 : decode cL_placeAll 19 = .ok (.ireturn, 1) := by decide +kernel
theorem dL_visits_0 : decode cL_visits 0 = .ok (.aload_n 3, 1) := by decide +kernel
theorem dL_visits_1 : decode cL_visits 1 = .ok (.iconst 0, 1) := by decide +kernel
theorem dL_visits_2 : decode cL_visits 2 = .ok (.aload_n 0, 1) := by decide +kernel
theorem dL_visits_3 : decode cL_visits 3 = .ok (.iload_n 1, 1) := by decide +kernel
theorem dL_visits_4 : decode cL_visits 4 = .ok (.iload_n 2, 1) := by decide +kernel
theorem dL_visits_5 : decode cL_visits 5 = .ok (.invokevirtual 75, 3) := by decide +kernel
theorem dL_visits_8 : decode cL_visits 8 = .ok (.i2l, 1) := by decide +kernel
theorem dL_visits_9 : decode cL_visits 9 = .ok (.lastore, 1) := by decide +kernel
theorem dL_visits_10 : decode cL_visits 10 = .ok (.goto 11, 3) := by decide +kernel
theorem dL_visits_13 : decode cL_visits 13 = .ok (.astore 4, 2) := by decide +kernel
theorem dL_visits_15 : decode cL_visits 15 = .ok (.iconst 1, 1) := by decide +kernel
theorem dL_visits_16 : decode cL_visits 16 = .ok (.ireturn, 1) := by decide +kernel
theorem dL_visits_17 : decode cL_visits 17 = .ok (.astore 4, 2) := by decide +kernel
theorem dL_visits_19 : decode cL_visits 19 = .ok (.iconst 2, 1) := by decide +kernel
theorem dL_visits_20 : decode cL_visits 20 = .ok (.ireturn, 1) := by decide +kernel
theorem dL_visits_21 : decode cL_visits 21 = .ok (.iconst 0, 1) := by decide +kernel
theorem dL_visits_22 : decode cL_visits 22 = .ok (.ireturn, 1) := by decide +kernel
theorem dL_came_0 : decode cL_came 0 = .ok (.aload_n 0, 1) := by decide +kernel
theorem dL_came_1 : decode cL_came 1 = .ok (.iload_n 1, 1) := by decide +kernel
theorem dL_came_2 : decode cL_came 2 = .ok (.invokevirtual 78, 3) := by decide +kernel
theorem dL_came_5 : decode cL_came 5 = .ok (.goto 9, 3) := by decide +kernel
theorem dL_came_8 : decode cL_came 8 = .ok (.astore_n 2, 1) := by decide +kernel
theorem dL_came_9 : decode cL_came 9 = .ok (.iconst 1, 1) := by decide +kernel
theorem dL_came_10 : decode cL_came 10 = .ok (.ireturn, 1) := by decide +kernel
theorem dL_came_11 : decode cL_came 11 = .ok (.astore_n 2, 1) := by decide +kernel
theorem dL_came_12 : decode cL_came 12 = .ok (.iconst 2, 1) := by decide +kernel
theorem dL_came_13 : decode cL_came 13 = .ok (.ireturn, 1) := by decide +kernel
theorem dL_came_14 : decode cL_came 14 = .ok (.iconst 0, 1) := by decide +kernel
theorem dL_came_15 : decode cL_came 15 = .ok (.ireturn, 1) := by decide +kernel
theorem dL_pay_0 : decode cL_pay 0 = .ok (.aload_n 3, 1) := by decide +kernel
theorem dL_pay_1 : decode cL_pay 1 = .ok (.iconst 0, 1) := by decide +kernel
theorem dL_pay_2 : decode cL_pay 2 = .ok (.aload_n 0, 1) := by decide +kernel
theorem dL_pay_3 : decode cL_pay 3 = .ok (.iload_n 1, 1) := by decide +kernel
theorem dL_pay_4 : decode cL_pay 4 = .ok (.iload_n 2, 1) := by decide +kernel
theorem dL_pay_5 : decode cL_pay 5 = .ok (.invokevirtual 82, 3) := by decide +kernel
theorem dL_pay_8 : decode cL_pay 8 = .ok (.i2l, 1) := by decide +kernel
theorem dL_pay_9 : decode cL_pay 9 = .ok (.lastore, 1) := by decide +kernel
theorem dL_pay_10 : decode cL_pay 10 = .ok (.goto 11, 3) := by decide +kernel
theorem dL_pay_13 : decode cL_pay 13 = .ok (.astore 4, 2) := by decide +kernel
theorem dL_pay_15 : decode cL_pay 15 = .ok (.iconst 1, 1) := by decide +kernel
theorem dL_pay_16 : decode cL_pay 16 = .ok (.ireturn, 1) := by decide +kernel
theorem dL_pay_17 : decode cL_pay 17 = .ok (.astore 4, 2) := by decide +kernel
theorem dL_pay_19 : decode cL_pay 19 = .ok (.iconst 2, 1) := by decide +kernel
theorem dL_pay_20 : decode cL_pay 20 = .ok (.ireturn, 1) := by decide +kernel
theorem dL_pay_21 : decode cL_pay 21 = .ok (.iconst 0, 1) := by decide +kernel
theorem dL_pay_22 : decode cL_pay 22 = .ok (.ireturn, 1) := by decide +kernel
theorem dL_owed_0 : decode cL_owed 0 = .ok (.aload_n 2, 1) := by decide +kernel
theorem dL_owed_1 : decode cL_owed 1 = .ok (.iconst 0, 1) := by decide +kernel
theorem dL_owed_2 : decode cL_owed 2 = .ok (.aload_n 0, 1) := by decide +kernel
theorem dL_owed_3 : decode cL_owed 3 = .ok (.iload_n 1, 1) := by decide +kernel
theorem dL_owed_4 : decode cL_owed 4 = .ok (.invokevirtual 85, 3) := by decide +kernel
theorem dL_owed_7 : decode cL_owed 7 = .ok (.i2l, 1) := by decide +kernel
theorem dL_owed_8 : decode cL_owed 8 = .ok (.lastore, 1) := by decide +kernel
theorem dL_owed_9 : decode cL_owed 9 = .ok (.goto 6, 3) := by decide +kernel
theorem dL_owed_12 : decode cL_owed 12 = .ok (.astore_n 3, 1) := by decide +kernel
theorem dL_owed_13 : decode cL_owed 13 = .ok (.iconst 1, 1) := by decide +kernel
theorem dL_owed_14 : decode cL_owed 14 = .ok (.ireturn, 1) := by decide +kernel
theorem dL_owed_15 : decode cL_owed 15 = .ok (.iconst 0, 1) := by decide +kernel
theorem dL_owed_16 : decode cL_owed 16 = .ok (.ireturn, 1) := by decide +kernel
theorem dL_handOver_0 : decode cL_handOver 0 = .ok (.aload_n 3, 1) := by decide +kernel
theorem dL_handOver_1 : decode cL_handOver 1 = .ok (.iconst 0, 1) := by decide +kernel
theorem dL_handOver_2 : decode cL_handOver 2 = .ok (.aload_n 0, 1) := by decide +kernel
theorem dL_handOver_3 : decode cL_handOver 3 = .ok (.iload_n 1, 1) := by decide +kernel
theorem dL_handOver_4 : decode cL_handOver 4 = .ok (.iload_n 2, 1) := by decide +kernel
theorem dL_handOver_5 : decode cL_handOver 5 = .ok (.invokevirtual 88, 3) := by decide +kernel
theorem dL_handOver_8 : decode cL_handOver 8 = .ok (.i2l, 1) := by decide +kernel
theorem dL_handOver_9 : decode cL_handOver 9 = .ok (.lastore, 1) := by decide +kernel
theorem dL_handOver_10 : decode cL_handOver 10 = .ok (.goto 7, 3) := by decide +kernel
theorem dL_handOver_13 : decode cL_handOver 13 = .ok (.astore 4, 2) := by decide +kernel
theorem dL_handOver_15 : decode cL_handOver 15 = .ok (.iconst 1, 1) := by decide +kernel
theorem dL_handOver_16 : decode cL_handOver 16 = .ok (.ireturn, 1) := by decide +kernel
theorem dL_handOver_17 : decode cL_handOver 17 = .ok (.iconst 0, 1) := by decide +kernel
theorem dL_handOver_18 : decode cL_handOver 18 = .ok (.ireturn, 1) := by decide +kernel
theorem dL_load_0 : decode cL_load 0 = .ok (.aload_n 2, 1) := by decide +kernel
theorem dL_load_1 : decode cL_load 1 = .ok (.iconst 0, 1) := by decide +kernel
theorem dL_load_2 : decode cL_load 2 = .ok (.aload_n 0, 1) := by decide +kernel
theorem dL_load_3 : decode cL_load 3 = .ok (.iload_n 1, 1) := by decide +kernel
theorem dL_load_4 : decode cL_load 4 = .ok (.invokevirtual 91, 3) := by decide +kernel
theorem dL_load_7 : decode cL_load 7 = .ok (.i2l, 1) := by decide +kernel
theorem dL_load_8 : decode cL_load 8 = .ok (.lastore, 1) := by decide +kernel
theorem dL_load_9 : decode cL_load 9 = .ok (.goto 6, 3) := by decide +kernel
theorem dL_load_12 : decode cL_load 12 = .ok (.astore_n 3, 1) := by decide +kernel
theorem dL_load_13 : decode cL_load 13 = .ok (.iconst 1, 1) := by decide +kernel
theorem dL_load_14 : decode cL_load 14 = .ok (.ireturn, 1) := by decide +kernel
theorem dL_load_15 : decode cL_load 15 = .ok (.iconst 0, 1) := by decide +kernel
theorem dL_load_16 : decode cL_load 16 = .ok (.ireturn, 1) := by decide +kernel
theorem dL_pass_0 : decode cL_pass 0 = .ok (.aload_n 2, 1) := by decide +kernel
theorem dL_pass_1 : decode cL_pass 1 = .ok (.iconst 0, 1) := by decide +kernel
theorem dL_pass_2 : decode cL_pass 2 = .ok (.aload_n 0, 1) := by decide +kernel
theorem dL_pass_3 : decode cL_pass 3 = .ok (.iload_n 1, 1) := by decide +kernel
theorem dL_pass_4 : decode cL_pass 4 = .ok (.invokevirtual 94, 3) := by decide +kernel
theorem dL_pass_7 : decode cL_pass 7 = .ok (.i2l, 1) := by decide +kernel
theorem dL_pass_8 : decode cL_pass 8 = .ok (.lastore, 1) := by decide +kernel
theorem dL_pass_9 : decode cL_pass 9 = .ok (.goto 9, 3) := by decide +kernel
theorem dL_pass_12 : decode cL_pass 12 = .ok (.astore_n 3, 1) := by decide +kernel
theorem dL_pass_13 : decode cL_pass 13 = .ok (.iconst 1, 1) := by decide +kernel
theorem dL_pass_14 : decode cL_pass 14 = .ok (.ireturn, 1) := by decide +kernel
theorem dL_pass_15 : decode cL_pass 15 = .ok (.astore_n 3, 1) := by decide +kernel
theorem dL_pass_16 : decode cL_pass 16 = .ok (.iconst 2, 1) := by decide +kernel
theorem dL_pass_17 : decode cL_pass 17 = .ok (.ireturn, 1) := by decide +kernel
theorem dL_pass_18 : decode cL_pass 18 = .ok (.iconst 0, 1) := by decide +kernel
theorem dL_pass_19 : decode cL_pass 19 = .ok (.ireturn, 1) := by decide +kernel
theorem dL_childIs_0 : decode cL_childIs 0 = .ok (.aload_n 3, 1) := by decide +kernel
theorem dL_childIs_1 : decode cL_childIs 1 = .ok (.iconst 0, 1) := by decide +kernel
theorem dL_childIs_2 : decode cL_childIs 2 = .ok (.aload_n 0, 1) := by decide +kernel
theorem dL_childIs_3 : decode cL_childIs 3 = .ok (.iload_n 1, 1) := by decide +kernel
theorem dL_childIs_4 : decode cL_childIs 4 = .ok (.iload_n 2, 1) := by decide +kernel
theorem dL_childIs_5 : decode cL_childIs 5 = .ok (.invokevirtual 97, 3) := by decide +kernel
theorem dL_childIs_8 : decode cL_childIs 8 = .ok (.i2l, 1) := by decide +kernel
theorem dL_childIs_9 : decode cL_childIs 9 = .ok (.lastore, 1) := by decide +kernel
theorem dL_childIs_10 : decode cL_childIs 10 = .ok (.goto 11, 3) := by decide +kernel
theorem dL_childIs_13 : decode cL_childIs 13 = .ok (.astore 4, 2) := by decide +kernel
theorem dL_childIs_15 : decode cL_childIs 15 = .ok (.iconst 1, 1) := by decide +kernel
theorem dL_childIs_16 : decode cL_childIs 16 = .ok (.ireturn, 1) := by decide +kernel
theorem dL_childIs_17 : decode cL_childIs 17 = .ok (.astore 4, 2) := by decide +kernel
theorem dL_childIs_19 : decode cL_childIs 19 = .ok (.iconst 2, 1) := by decide +kernel
theorem dL_childIs_20 : decode cL_childIs 20 = .ok (.ireturn, 1) := by decide +kernel
theorem dL_childIs_21 : decode cL_childIs 21 = .ok (.iconst 0, 1) := by decide +kernel
theorem dL_childIs_22 : decode cL_childIs 22 = .ok (.ireturn, 1) := by decide +kernel
theorem dL_stay_0 : decode cL_stay 0 = .ok (.aload_n 3, 1) := by decide +kernel
theorem dL_stay_1 : decode cL_stay 1 = .ok (.iconst 0, 1) := by decide +kernel
theorem dL_stay_2 : decode cL_stay 2 = .ok (.aload_n 0, 1) := by decide +kernel
theorem dL_stay_3 : decode cL_stay 3 = .ok (.iload_n 1, 1) := by decide +kernel
theorem dL_stay_4 : decode cL_stay 4 = .ok (.iload_n 2, 1) := by decide +kernel
theorem dL_stay_5 : decode cL_stay 5 = .ok (.invokevirtual 100, 3) := by decide +kernel
theorem dL_stay_8 : decode cL_stay 8 = .ok (.i2l, 1) := by decide +kernel
theorem dL_stay_9 : decode cL_stay 9 = .ok (.lastore, 1) := by decide +kernel
theorem dL_stay_10 : decode cL_stay 10 = .ok (.goto 11, 3) := by decide +kernel
theorem dL_stay_13 : decode cL_stay 13 = .ok (.astore 4, 2) := by decide +kernel
theorem dL_stay_15 : decode cL_stay 15 = .ok (.iconst 1, 1) := by decide +kernel
theorem dL_stay_16 : decode cL_stay 16 = .ok (.ireturn, 1) := by decide +kernel
theorem dL_stay_17 : decode cL_stay 17 = .ok (.astore 4, 2) := by decide +kernel
theorem dL_stay_19 : decode cL_stay 19 = .ok (.iconst 2, 1) := by decide +kernel
theorem dL_stay_20 : decode cL_stay 20 = .ok (.ireturn, 1) := by decide +kernel
theorem dL_stay_21 : decode cL_stay 21 = .ok (.iconst 0, 1) := by decide +kernel
theorem dL_stay_22 : decode cL_stay 22 = .ok (.ireturn, 1) := by decide +kernel
theorem dL_wasAllowed_0 : decode cL_wasAllowed 0 = .ok (.aload_n 2, 1) := by decide +kernel
theorem dL_wasAllowed_1 : decode cL_wasAllowed 1 = .ok (.iconst 0, 1) := by decide +kernel
theorem dL_wasAllowed_2 : decode cL_wasAllowed 2 = .ok (.aload_n 0, 1) := by decide +kernel
theorem dL_wasAllowed_3 : decode cL_wasAllowed 3 = .ok (.iload_n 1, 1) := by decide +kernel
theorem dL_wasAllowed_4 : decode cL_wasAllowed 4 = .ok (.invokevirtual 103, 3) := by decide +kernel
theorem dL_wasAllowed_7 : decode cL_wasAllowed 7 = .ok (.ifCond .eq 7, 3) := by decide +kernel
theorem dL_wasAllowed_10 : decode cL_wasAllowed 10 = .ok (.lconst 1, 1) := by decide +kernel
theorem dL_wasAllowed_11 : decode cL_wasAllowed 11 = .ok (.goto 4, 3) := by decide +kernel
theorem dL_wasAllowed_14 : decode cL_wasAllowed 14 = .ok (.lconst 0, 1) := by decide +kernel
theorem dL_wasAllowed_15 : decode cL_wasAllowed 15 = .ok (.lastore, 1) := by decide +kernel
theorem dL_wasAllowed_16 : decode cL_wasAllowed 16 = .ok (.goto 6, 3) := by decide +kernel
theorem dL_wasAllowed_19 : decode cL_wasAllowed 19 = .ok (.astore_n 3, 1) := by decide +kernel
theorem dL_wasAllowed_20 : decode cL_wasAllowed 20 = .ok (.iconst 1, 1) := by decide +kernel
theorem dL_wasAllowed_21 : decode cL_wasAllowed 21 = .ok (.ireturn, 1) := by decide +kernel
theorem dL_wasAllowed_22 : decode cL_wasAllowed 22 = .ok (.iconst 0, 1) := by decide +kernel
theorem dL_wasAllowed_23 : decode cL_wasAllowed 23 = .ok (.ireturn, 1) := by decide +kernel
theorem dL_blacken_0 : decode cL_blacken 0 = .ok (.aload_n 3, 1) := by decide +kernel
theorem dL_blacken_1 : decode cL_blacken 1 = .ok (.iconst 0, 1) := by decide +kernel
theorem dL_blacken_2 : decode cL_blacken 2 = .ok (.aload_n 0, 1) := by decide +kernel
theorem dL_blacken_3 : decode cL_blacken 3 = .ok (.iload_n 1, 1) := by decide +kernel
theorem dL_blacken_4 : decode cL_blacken 4 = .ok (.iload_n 2, 1) := by decide +kernel
theorem dL_blacken_5 : decode cL_blacken 5 = .ok (.invokevirtual 106, 3) := by decide +kernel
theorem dL_blacken_8 : decode cL_blacken 8 = .ok (.ifCond .eq 7, 3) := by decide +kernel
theorem dL_blacken_11 : decode cL_blacken 11 = .ok (.lconst 1, 1) := by decide +kernel
theorem dL_blacken_12 : decode cL_blacken 12 = .ok (.goto 4, 3) := by decide +kernel
theorem dL_blacken_15 : decode cL_blacken 15 = .ok (.lconst 0, 1) := by decide +kernel
theorem dL_blacken_16 : decode cL_blacken 16 = .ok (.lastore, 1) := by decide +kernel
theorem dL_blacken_17 : decode cL_blacken 17 = .ok (.goto 7, 3) := by decide +kernel
theorem dL_blacken_20 : decode cL_blacken 20 = .ok (.astore 4, 2) := by decide +kernel
theorem dL_blacken_22 : decode cL_blacken 22 = .ok (.iconst 1, 1) := by decide +kernel
theorem dL_blacken_23 : decode cL_blacken 23 = .ok (.ireturn, 1) := by decide +kernel
theorem dL_blacken_24 : decode cL_blacken 24 = .ok (.iconst 0, 1) := by decide +kernel
theorem dL_blacken_25 : decode cL_blacken 25 = .ok (.ireturn, 1) := by decide +kernel
theorem dL_file_0 : decode cL_file 0 = .ok (.aload_n 3, 1) := by decide +kernel
theorem dL_file_1 : decode cL_file 1 = .ok (.iconst 0, 1) := by decide +kernel
theorem dL_file_2 : decode cL_file 2 = .ok (.aload_n 0, 1) := by decide +kernel
theorem dL_file_3 : decode cL_file 3 = .ok (.iload_n 1, 1) := by decide +kernel
theorem dL_file_4 : decode cL_file 4 = .ok (.iload_n 2, 1) := by decide +kernel
theorem dL_file_5 : decode cL_file 5 = .ok (.invokevirtual 110, 3) := by decide +kernel
theorem dL_file_8 : decode cL_file 8 = .ok (.i2l, 1) := by decide +kernel
theorem dL_file_9 : decode cL_file 9 = .ok (.lastore, 1) := by decide +kernel
theorem dL_file_10 : decode cL_file 10 = .ok (.goto 11, 3) := by decide +kernel
theorem dL_file_13 : decode cL_file 13 = .ok (.astore 4, 2) := by decide +kernel
theorem dL_file_15 : decode cL_file 15 = .ok (.iconst 1, 1) := by decide +kernel
theorem dL_file_16 : decode cL_file 16 = .ok (.ireturn, 1) := by decide +kernel
theorem dL_file_17 : decode cL_file 17 = .ok (.astore 4, 2) := by decide +kernel
theorem dL_file_19 : decode cL_file 19 = .ok (.iconst 2, 1) := by decide +kernel
theorem dL_file_20 : decode cL_file 20 = .ok (.ireturn, 1) := by decide +kernel
theorem dL_file_21 : decode cL_file 21 = .ok (.iconst 0, 1) := by decide +kernel
theorem dL_file_22 : decode cL_file 22 = .ok (.ireturn, 1) := by decide +kernel
end
section
theorem dL_law_0 : decode cL_law 0 = .ok (.new 8, 3) := by decide +kernel
theorem dL_law_3 : decode cL_law 3 = .ok (.dup, 1) := by decide +kernel
theorem dL_law_4 : decode cL_law 4 = .ok (.invokespecial 113, 3) := by decide +kernel
theorem dL_law_7 : decode cL_law 7 = .ok (.astore_n 1, 1) := by decide +kernel
theorem dL_law_8 : decode cL_law 8 = .ok (.new 114, 3) := by decide +kernel
theorem dL_law_11 : decode cL_law 11 = .ok (.dup, 1) := by decide +kernel
theorem dL_law_12 : decode cL_law 12 = .ok (.invokespecial 116, 3) := by decide +kernel
theorem dL_law_15 : decode cL_law 15 = .ok (.astore_n 2, 1) := by decide +kernel
theorem dL_law_16 : decode cL_law 16 = .ok (.iconst 1, 1) := by decide +kernel
theorem dL_law_17 : decode cL_law 17 = .ok (.newarray .long, 2) := by decide +kernel
theorem dL_law_19 : decode cL_law 19 = .ok (.astore_n 3, 1) := by decide +kernel
theorem dL_law_20 : decode cL_law 20 = .ok (.iconst 0, 1) := by decide +kernel
theorem dL_law_21 : decode cL_law 21 = .ok (.istore 4, 2) := by decide +kernel
theorem dL_law_23 : decode cL_law 23 = .ok (.iload 4, 2) := by decide +kernel
theorem dL_law_25 : decode cL_law 25 = .ok (.aload_n 0, 1) := by decide +kernel
theorem dL_law_26 : decode cL_law 26 = .ok (.arraylength, 1) := by decide +kernel
theorem dL_law_27 : decode cL_law 27 = .ok (.bipush 6, 2) := by decide +kernel
theorem dL_law_29 : decode cL_law 29 = .ok (.isub, 1) := by decide +kernel
theorem dL_law_30 : decode cL_law 30 = .ok (.if_icmp .gt 2097, 3) := by decide +kernel
theorem dL_law_33 : decode cL_law 33 = .ok (.aload_n 0, 1) := by decide +kernel
theorem dL_law_34 : decode cL_law 34 = .ok (.iload 4, 2) := by decide +kernel
theorem dL_law_36 : decode cL_law 36 = .ok (.iaload, 1) := by decide +kernel
theorem dL_law_37 : decode cL_law 37 = .ok (.bipush 31, 2) := by decide +kernel
theorem dL_law_39 : decode cL_law 39 = .ok (.iand, 1) := by decide +kernel
theorem dL_law_40 : decode cL_law 40 = .ok (.tableswitch 2081 0 28 #[132, 236, 316, 388, 448, 508, 588, 651, 707, 763, 855, 923, 999, 1067, 1135, 1191, 1259, 1315, 1383, 1419, 1487, 1543, 1611, 1667, 1723, 1791, 1859, 1922, 2013], 132) := by decide +kernel
theorem dL_law_172 : decode cL_law 172 = .ok (.aload_n 1, 1) := by decide +kernel
theorem dL_law_173 : decode cL_law 173 = .ok (.aload_n 0, 1) := by decide +kernel
theorem dL_law_174 : decode cL_law 174 = .ok (.iload 4, 2) := by decide +kernel
theorem dL_law_176 : decode cL_law 176 = .ok (.iconst 1, 1) := by decide +kernel
theorem dL_law_177 : decode cL_law 177 = .ok (.iadd, 1) := by decide +kernel
theorem dL_law_178 : decode cL_law 178 = .ok (.iaload, 1) := by decide +kernel
theorem dL_law_179 : decode cL_law 179 = .ok (.aload_n 0, 1) := by decide +kernel
theorem dL_law_180 : decode cL_law 180 = .ok (.iload 4, 2) := by decide +kernel
theorem dL_law_182 : decode cL_law 182 = .ok (.iconst 2, 1) := by decide +kernel
theorem dL_law_183 : decode cL_law 183 = .ok (.iadd, 1) := by decide +kernel
theorem dL_law_184 : decode cL_law 184 = .ok (.iaload, 1) := by decide +kernel
theorem dL_law_185 : decode cL_law 185 = .ok (.aload_n 0, 1) := by decide +kernel
theorem dL_law_186 : decode cL_law 186 = .ok (.iload 4, 2) := by decide +kernel
theorem dL_law_188 : decode cL_law 188 = .ok (.iconst 3, 1) := by decide +kernel
theorem dL_law_189 : decode cL_law 189 = .ok (.iadd, 1) := by decide +kernel
theorem dL_law_190 : decode cL_law 190 = .ok (.iaload, 1) := by decide +kernel
theorem dL_law_191 : decode cL_law 191 = .ok (.aload_n 0, 1) := by decide +kernel
theorem dL_law_192 : decode cL_law 192 = .ok (.iload 4, 2) := by decide +kernel
theorem dL_law_194 : decode cL_law 194 = .ok (.iconst 4, 1) := by decide +kernel
theorem dL_law_195 : decode cL_law 195 = .ok (.iadd, 1) := by decide +kernel
theorem dL_law_196 : decode cL_law 196 = .ok (.iaload, 1) := by decide +kernel
theorem dL_law_197 : decode cL_law 197 = .ok (.aload_n 0, 1) := by decide +kernel
theorem dL_law_198 : decode cL_law 198 = .ok (.iload 4, 2) := by decide +kernel
theorem dL_law_200 : decode cL_law 200 = .ok (.iconst 5, 1) := by decide +kernel
theorem dL_law_201 : decode cL_law 201 = .ok (.iadd, 1) := by decide +kernel
theorem dL_law_202 : decode cL_law 202 = .ok (.iaload, 1) := by decide +kernel
theorem dL_law_203 : decode cL_law 203 = .ok (.aload_n 3, 1) := by decide +kernel
theorem dL_law_204 : decode cL_law 204 = .ok (.invokestatic 117, 3) := by decide +kernel
theorem dL_law_207 : decode cL_law 207 = .ok (.istore 5, 2) := by decide +kernel
theorem dL_law_209 : decode cL_law 209 = .ok (.aload_n 2, 1) := by decide +kernel
theorem dL_law_210 : decode cL_law 210 = .ok (.aload_n 0, 1) := by decide +kernel
theorem dL_law_211 : decode cL_law 211 = .ok (.iload 4, 2) := by decide +kernel
theorem dL_law_213 : decode cL_law 213 = .ok (.iconst 1, 1) := by decide +kernel
theorem dL_law_214 : decode cL_law 214 = .ok (.iadd, 1) := by decide +kernel
theorem dL_law_215 : decode cL_law 215 = .ok (.iaload, 1) := by decide +kernel
theorem dL_law_216 : decode cL_law 216 = .ok (.aload_n 0, 1) := by decide +kernel
theorem dL_law_217 : decode cL_law 217 = .ok (.iload 4, 2) := by decide +kernel
theorem dL_law_219 : decode cL_law 219 = .ok (.iconst 2, 1) := by decide +kernel
theorem dL_law_220 : decode cL_law 220 = .ok (.iadd, 1) := by decide +kernel
theorem dL_law_221 : decode cL_law 221 = .ok (.iaload, 1) := by decide +kernel
theorem dL_law_222 : decode cL_law 222 = .ok (.aload_n 0, 1) := by decide +kernel
theorem dL_law_223 : decode cL_law 223 = .ok (.iload 4, 2) := by decide +kernel
theorem dL_law_225 : decode cL_law 225 = .ok (.iconst 3, 1) := by decide +kernel
theorem dL_law_226 : decode cL_law 226 = .ok (.iadd, 1) := by decide +kernel
theorem dL_law_227 : decode cL_law 227 = .ok (.iaload, 1) := by decide +kernel
theorem dL_law_228 : decode cL_law 228 = .ok (.aload_n 0, 1) := by decide +kernel
theorem dL_law_229 : decode cL_law 229 = .ok (.iload 4, 2) := by decide +kernel
theorem dL_law_231 : decode cL_law 231 = .ok (.iconst 4, 1) := by decide +kernel
theorem dL_law_232 : decode cL_law 232 = .ok (.iadd, 1) := by decide +kernel
theorem dL_law_233 : decode cL_law 233 = .ok (.iaload, 1) := by decide +kernel
theorem dL_law_234 : decode cL_law 234 = .ok (.aload_n 0, 1) := by decide +kernel
theorem dL_law_235 : decode cL_law 235 = .ok (.iload 4, 2) := by decide +kernel
theorem dL_law_237 : decode cL_law 237 = .ok (.iconst 5, 1) := by decide +kernel
theorem dL_law_238 : decode cL_law 238 = .ok (.iadd, 1) := by decide +kernel
theorem dL_law_239 : decode cL_law 239 = .ok (.iaload, 1) := by decide +kernel
theorem dL_law_240 : decode cL_law 240 = .ok (.invokevirtual 122, 3) := by decide +kernel
theorem dL_law_243 : decode cL_law 243 = .ok (.istore 6, 2) := by decide +kernel
theorem dL_law_245 : decode cL_law 245 = .ok (.aload_n 2, 1) := by decide +kernel
theorem dL_law_246 : decode cL_law 246 = .ok (.invokevirtual 123, 3) := by decide +kernel
theorem dL_law_249 : decode cL_law 249 = .ok (.iload 5, 2) := by decide +kernel
theorem dL_law_251 : decode cL_law 251 = .ok (.if_icmp .eq 5, 3) := by decide +kernel
theorem dL_law_254 : decode cL_law 254 = .ok (.iconst 0, 1) := by decide +kernel
theorem dL_law_255 : decode cL_law 255 = .ok (.ireturn, 1) := by decide +kernel
theorem dL_law_256 : decode cL_law 256 = .ok (.iload 5, 2) := by decide +kernel
theorem dL_law_258 : decode cL_law 258 = .ok (.ifCond .ne 15, 3) := by decide +kernel
theorem dL_law_261 : decode cL_law 261 = .ok (.aload_n 3, 1) := by decide +kernel
theorem dL_law_262 : decode cL_law 262 = .ok (.iconst 0, 1) := by decide +kernel
theorem dL_law_263 : decode cL_law 263 = .ok (.laload, 1) := by decide +kernel
theorem dL_law_264 : decode cL_law 264 = .ok (.iload 6, 2) := by decide +kernel
theorem dL_law_266 : decode cL_law 266 = .ok (.i2l, 1) := by decide +kernel
theorem dL_law_267 : decode cL_law 267 = .ok (.lcmp, 1) := by decide +kernel
theorem dL_law_268 : decode cL_law 268 = .ok (.ifCond .eq 5, 3) := by decide +kernel
theorem dL_law_271 : decode cL_law 271 = .ok (.iconst 0, 1) := by decide +kernel
theorem dL_law_272 : decode cL_law 272 = .ok (.ireturn, 1) := by decide +kernel
theorem dL_law_273 : decode cL_law 273 = .ok (.goto 1848, 3) := by decide +kernel
theorem dL_law_276 : decode cL_law 276 = .ok (.aload_n 1, 1) := by decide +kernel
theorem dL_law_277 : decode cL_law 277 = .ok (.aload_n 0, 1) := by decide +kernel
theorem dL_law_278 : decode cL_law 278 = .ok (.iload 4, 2) := by decide +kernel
theorem dL_law_280 : decode cL_law 280 = .ok (.iconst 1, 1) := by decide +kernel
theorem dL_law_281 : decode cL_law 281 = .ok (.iadd, 1) := by decide +kernel
theorem dL_law_282 : decode cL_law 282 = .ok (.iaload, 1) := by decide +kernel
theorem dL_law_283 : decode cL_law 283 = .ok (.aload_n 0, 1) := by decide +kernel
theorem dL_law_284 : decode cL_law 284 = .ok (.iload 4, 2) := by decide +kernel
theorem dL_law_286 : decode cL_law 286 = .ok (.iconst 2, 1) := by decide +kernel
theorem dL_law_287 : decode cL_law 287 = .ok (.iadd, 1) := by decide +kernel
theorem dL_law_288 : decode cL_law 288 = .ok (.iaload, 1) := by decide +kernel
theorem dL_law_289 : decode cL_law 289 = .ok (.aload_n 0, 1) := by decide +kernel
theorem dL_law_290 : decode cL_law 290 = .ok (.iload 4, 2) := by decide +kernel
theorem dL_law_292 : decode cL_law 292 = .ok (.iconst 3, 1) := by decide +kernel
theorem dL_law_293 : decode cL_law 293 = .ok (.iadd, 1) := by decide +kernel
theorem dL_law_294 : decode cL_law 294 = .ok (.iaload, 1) := by decide +kernel
theorem dL_law_295 : decode cL_law 295 = .ok (.aload_n 3, 1) := by decide +kernel
theorem dL_law_296 : decode cL_law 296 = .ok (.invokestatic 127, 3) := by decide +kernel
theorem dL_law_299 : decode cL_law 299 = .ok (.istore 5, 2) := by decide +kernel
theorem dL_law_301 : decode cL_law 301 = .ok (.aload_n 2, 1) := by decide +kernel
theorem dL_law_302 : decode cL_law 302 = .ok (.aload_n 0, 1) := by decide +kernel
theorem dL_law_303 : decode cL_law 303 = .ok (.iload 4, 2) := by decide +kernel
theorem dL_law_305 : decode cL_law 305 = .ok (.iconst 1, 1) := by decide +kernel
theorem dL_law_306 : decode cL_law 306 = .ok (.iadd, 1) := by decide +kernel
theorem dL_law_307 : decode cL_law 307 = .ok (.iaload, 1) := by decide +kernel
theorem dL_law_308 : decode cL_law 308 = .ok (.aload_n 0, 1) := by decide +kernel
theorem dL_law_309 : decode cL_law 309 = .ok (.iload 4, 2) := by decide +kernel
theorem dL_law_311 : decode cL_law 311 = .ok (.iconst 2, 1) := by decide +kernel
theorem dL_law_312 : decode cL_law 312 = .ok (.iadd, 1) := by decide +kernel
theorem dL_law_313 : decode cL_law 313 = .ok (.iaload, 1) := by decide +kernel
theorem dL_law_314 : decode cL_law 314 = .ok (.aload_n 0, 1) := by decide +kernel
theorem dL_law_315 : decode cL_law 315 = .ok (.iload 4, 2) := by decide +kernel
theorem dL_law_317 : decode cL_law 317 = .ok (.iconst 3, 1) := by decide +kernel
theorem dL_law_318 : decode cL_law 318 = .ok (.iadd, 1) := by decide +kernel
theorem dL_law_319 : decode cL_law 319 = .ok (.iaload, 1) := by decide +kernel
theorem dL_law_320 : decode cL_law 320 = .ok (.invokevirtual 130, 3) := by decide +kernel
theorem dL_law_323 : decode cL_law 323 = .ok (.istore 6, 2) := by decide +kernel
theorem dL_law_325 : decode cL_law 325 = .ok (.aload_n 2, 1) := by decide +kernel
theorem dL_law_326 : decode cL_law 326 = .ok (.invokevirtual 123, 3) := by decide +kernel
theorem dL_law_329 : decode cL_law 329 = .ok (.iload 5, 2) := by decide +kernel
theorem dL_law_331 : decode cL_law 331 = .ok (.if_icmp .eq 5, 3) := by decide +kernel
theorem dL_law_334 : decode cL_law 334 = .ok (.iconst 0, 1) := by decide +kernel
theorem dL_law_335 : decode cL_law 335 = .ok (.ireturn, 1) := by decide +kernel
theorem dL_law_336 : decode cL_law 336 = .ok (.iload 5, 2) := by decide +kernel
theorem dL_law_338 : decode cL_law 338 = .ok (.ifCond .ne 15, 3) := by decide +kernel
theorem dL_law_341 : decode cL_law 341 = .ok (.aload_n 3, 1) := by decide +kernel
theorem dL_law_342 : decode cL_law 342 = .ok (.iconst 0, 1) := by decide +kernel
theorem dL_law_343 : decode cL_law 343 = .ok (.laload, 1) := by decide +kernel
theorem dL_law_344 : decode cL_law 344 = .ok (.iload 6, 2) := by decide +kernel
theorem dL_law_346 : decode cL_law 346 = .ok (.i2l, 1) := by decide +kernel
theorem dL_law_347 : decode cL_law 347 = .ok (.lcmp, 1) := by decide +kernel
theorem dL_law_348 : decode cL_law 348 = .ok (.ifCond .eq 5, 3) := by decide +kernel
theorem dL_law_351 : decode cL_law 351 = .ok (.iconst 0, 1) := by decide +kernel
theorem dL_law_352 : decode cL_law 352 = .ok (.ireturn, 1) := by decide +kernel
theorem dL_law_353 : decode cL_law 353 = .ok (.goto 1768, 3) := by decide +kernel
theorem dL_law_356 : decode cL_law 356 = .ok (.aload_n 1, 1) := by decide +kernel
theorem dL_law_357 : decode cL_law 357 = .ok (.aload_n 0, 1) := by decide +kernel
theorem dL_law_358 : decode cL_law 358 = .ok (.iload 4, 2) := by decide +kernel
theorem dL_law_360 : decode cL_law 360 = .ok (.iconst 1, 1) := by decide +kernel
theorem dL_law_361 : decode cL_law 361 = .ok (.iadd, 1) := by decide +kernel
theorem dL_law_362 : decode cL_law 362 = .ok (.iaload, 1) := by decide +kernel
theorem dL_law_363 : decode cL_law 363 = .ok (.aload_n 0, 1) := by decide +kernel
theorem dL_law_364 : decode cL_law 364 = .ok (.iload 4, 2) := by decide +kernel
theorem dL_law_366 : decode cL_law 366 = .ok (.iconst 2, 1) := by decide +kernel
theorem dL_law_367 : decode cL_law 367 = .ok (.iadd, 1) := by decide +kernel
theorem dL_law_368 : decode cL_law 368 = .ok (.iaload, 1) := by decide +kernel
theorem dL_law_369 : decode cL_law 369 = .ok (.aload_n 0, 1) := by decide +kernel
theorem dL_law_370 : decode cL_law 370 = .ok (.iload 4, 2) := by decide +kernel
theorem dL_law_372 : decode cL_law 372 = .ok (.iconst 3, 1) := by decide +kernel
theorem dL_law_373 : decode cL_law 373 = .ok (.iadd, 1) := by decide +kernel
theorem dL_law_374 : decode cL_law 374 = .ok (.iaload, 1) := by decide +kernel
theorem dL_law_375 : decode cL_law 375 = .ok (.aload_n 0, 1) := by decide +kernel
theorem dL_law_376 : decode cL_law 376 = .ok (.iload 4, 2) := by decide +kernel
theorem dL_law_378 : decode cL_law 378 = .ok (.iconst 4, 1) := by decide +kernel
theorem dL_law_379 : decode cL_law 379 = .ok (.iadd, 1) := by decide +kernel
theorem dL_law_380 : decode cL_law 380 = .ok (.iaload, 1) := by decide +kernel
theorem dL_law_381 : decode cL_law 381 = .ok (.invokestatic 131, 3) := by decide +kernel
theorem dL_law_384 : decode cL_law 384 = .ok (.istore 5, 2) := by decide +kernel
theorem dL_law_386 : decode cL_law 386 = .ok (.aload_n 2, 1) := by decide +kernel
theorem dL_law_387 : decode cL_law 387 = .ok (.aload_n 0, 1) := by decide +kernel
theorem dL_law_388 : decode cL_law 388 = .ok (.iload 4, 2) := by decide +kernel
theorem dL_law_390 : decode cL_law 390 = .ok (.iconst 1, 1) := by decide +kernel
theorem dL_law_391 : decode cL_law 391 = .ok (.iadd, 1) := by decide +kernel
theorem dL_law_392 : decode cL_law 392 = .ok (.iaload, 1) := by decide +kernel
theorem dL_law_393 : decode cL_law 393 = .ok (.aload_n 0, 1) := by decide +kernel
theorem dL_law_394 : decode cL_law 394 = .ok (.iload 4, 2) := by decide +kernel
theorem dL_law_396 : decode cL_law 396 = .ok (.iconst 2, 1) := by decide +kernel
theorem dL_law_397 : decode cL_law 397 = .ok (.iadd, 1) := by decide +kernel
theorem dL_law_398 : decode cL_law 398 = .ok (.iaload, 1) := by decide +kernel
theorem dL_law_399 : decode cL_law 399 = .ok (.aload_n 0, 1) := by decide +kernel
theorem dL_law_400 : decode cL_law 400 = .ok (.iload 4, 2) := by decide +kernel
theorem dL_law_402 : decode cL_law 402 = .ok (.iconst 3, 1) := by decide +kernel
theorem dL_law_403 : decode cL_law 403 = .ok (.iadd, 1) := by decide +kernel
theorem dL_law_404 : decode cL_law 404 = .ok (.iaload, 1) := by decide +kernel
theorem dL_law_405 : decode cL_law 405 = .ok (.aload_n 0, 1) := by decide +kernel
theorem dL_law_406 : decode cL_law 406 = .ok (.iload 4, 2) := by decide +kernel
theorem dL_law_408 : decode cL_law 408 = .ok (.iconst 4, 1) := by decide +kernel
theorem dL_law_409 : decode cL_law 409 = .ok (.iadd, 1) := by decide +kernel
theorem dL_law_410 : decode cL_law 410 = .ok (.iaload, 1) := by decide +kernel
theorem dL_law_411 : decode cL_law 411 = .ok (.invokevirtual 134, 3) := by decide +kernel
theorem dL_law_414 : decode cL_law 414 = .ok (.aload_n 2, 1) := by decide +kernel
theorem dL_law_415 : decode cL_law 415 = .ok (.invokevirtual 123, 3) := by decide +kernel
theorem dL_law_418 : decode cL_law 418 = .ok (.iload 5, 2) := by decide +kernel
theorem dL_law_420 : decode cL_law 420 = .ok (.if_icmp .eq 5, 3) := by decide +kernel
theorem dL_law_423 : decode cL_law 423 = .ok (.iconst 0, 1) := by decide +kernel
theorem dL_law_424 : decode cL_law 424 = .ok (.ireturn, 1) := by decide +kernel
theorem dL_law_425 : decode cL_law 425 = .ok (.goto 1696, 3) := by decide +kernel
theorem dL_law_428 : decode cL_law 428 = .ok (.aload_n 1, 1) := by decide +kernel
theorem dL_law_429 : decode cL_law 429 = .ok (.aload_n 0, 1) := by decide +kernel
theorem dL_law_430 : decode cL_law 430 = .ok (.iload 4, 2) := by decide +kernel
theorem dL_law_432 : decode cL_law 432 = .ok (.iconst 1, 1) := by decide +kernel
theorem dL_law_433 : decode cL_law 433 = .ok (.iadd, 1) := by decide +kernel
theorem dL_law_434 : decode cL_law 434 = .ok (.iaload, 1) := by decide +kernel
theorem dL_law_435 : decode cL_law 435 = .ok (.aload_n 0, 1) := by decide +kernel
theorem dL_law_436 : decode cL_law 436 = .ok (.iload 4, 2) := by decide +kernel
theorem dL_law_438 : decode cL_law 438 = .ok (.iconst 2, 1) := by decide +kernel
theorem dL_law_439 : decode cL_law 439 = .ok (.iadd, 1) := by decide +kernel
theorem dL_law_440 : decode cL_law 440 = .ok (.iaload, 1) := by decide +kernel
theorem dL_law_441 : decode cL_law 441 = .ok (.aload_n 0, 1) := by decide +kernel
theorem dL_law_442 : decode cL_law 442 = .ok (.iload 4, 2) := by decide +kernel
theorem dL_law_444 : decode cL_law 444 = .ok (.iconst 3, 1) := by decide +kernel
theorem dL_law_445 : decode cL_law 445 = .ok (.iadd, 1) := by decide +kernel
theorem dL_law_446 : decode cL_law 446 = .ok (.iaload, 1) := by decide +kernel
theorem dL_law_447 : decode cL_law 447 = .ok (.invokestatic 135, 3) := by decide +kernel
theorem dL_law_450 : decode cL_law 450 = .ok (.istore 5, 2) := by decide +kernel
theorem dL_law_452 : decode cL_law 452 = .ok (.aload_n 2, 1) := by decide +kernel
theorem dL_law_453 : decode cL_law 453 = .ok (.aload_n 0, 1) := by decide +kernel
theorem dL_law_454 : decode cL_law 454 = .ok (.iload 4, 2) := by decide +kernel
theorem dL_law_456 : decode cL_law 456 = .ok (.iconst 1, 1) := by decide +kernel
theorem dL_law_457 : decode cL_law 457 = .ok (.iadd, 1) := by decide +kernel
theorem dL_law_458 : decode cL_law 458 = .ok (.iaload, 1) := by decide +kernel
theorem dL_law_459 : decode cL_law 459 = .ok (.aload_n 0, 1) := by decide +kernel
theorem dL_law_460 : decode cL_law 460 = .ok (.iload 4, 2) := by decide +kernel
theorem dL_law_462 : decode cL_law 462 = .ok (.iconst 2, 1) := by decide +kernel
theorem dL_law_463 : decode cL_law 463 = .ok (.iadd, 1) := by decide +kernel
theorem dL_law_464 : decode cL_law 464 = .ok (.iaload, 1) := by decide +kernel
theorem dL_law_465 : decode cL_law 465 = .ok (.aload_n 0, 1) := by decide +kernel
theorem dL_law_466 : decode cL_law 466 = .ok (.iload 4, 2) := by decide +kernel
theorem dL_law_468 : decode cL_law 468 = .ok (.iconst 3, 1) := by decide +kernel
theorem dL_law_469 : decode cL_law 469 = .ok (.iadd, 1) := by decide +kernel
theorem dL_law_470 : decode cL_law 470 = .ok (.iaload, 1) := by decide +kernel
theorem dL_law_471 : decode cL_law 471 = .ok (.invokevirtual 138, 3) := by decide +kernel
theorem dL_law_474 : decode cL_law 474 = .ok (.aload_n 2, 1) := by decide +kernel
theorem dL_law_475 : decode cL_law 475 = .ok (.invokevirtual 123, 3) := by decide +kernel
theorem dL_law_478 : decode cL_law 478 = .ok (.iload 5, 2) := by decide +kernel
theorem dL_law_480 : decode cL_law 480 = .ok (.if_icmp .eq 5, 3) := by decide +kernel
theorem dL_law_483 : decode cL_law 483 = .ok (.iconst 0, 1) := by decide +kernel
theorem dL_law_484 : decode cL_law 484 = .ok (.ireturn, 1) := by decide +kernel
theorem dL_law_485 : decode cL_law 485 = .ok (.goto 1636, 3) := by decide +kernel
theorem dL_law_488 : decode cL_law 488 = .ok (.aload_n 1, 1) := by decide +kernel
theorem dL_law_489 : decode cL_law 489 = .ok (.aload_n 0, 1) := by decide +kernel
theorem dL_law_490 : decode cL_law 490 = .ok (.iload 4, 2) := by decide +kernel
theorem dL_law_492 : decode cL_law 492 = .ok (.iconst 1, 1) := by decide +kernel
theorem dL_law_493 : decode cL_law 493 = .ok (.iadd, 1) := by decide +kernel
theorem dL_law_494 : decode cL_law 494 = .ok (.iaload, 1) := by decide +kernel
theorem dL_law_495 : decode cL_law 495 = .ok (.aload_n 0, 1) := by decide +kernel
theorem dL_law_496 : decode cL_law 496 = .ok (.iload 4, 2) := by decide +kernel
theorem dL_law_498 : decode cL_law 498 = .ok (.iconst 2, 1) := by decide +kernel
theorem dL_law_499 : decode cL_law 499 = .ok (.iadd, 1) := by decide +kernel
theorem dL_law_500 : decode cL_law 500 = .ok (.iaload, 1) := by decide +kernel
theorem dL_law_501 : decode cL_law 501 = .ok (.aload_n 0, 1) := by decide +kernel
theorem dL_law_502 : decode cL_law 502 = .ok (.iload 4, 2) := by decide +kernel
theorem dL_law_504 : decode cL_law 504 = .ok (.iconst 3, 1) := by decide +kernel
theorem dL_law_505 : decode cL_law 505 = .ok (.iadd, 1) := by decide +kernel
theorem dL_law_506 : decode cL_law 506 = .ok (.iaload, 1) := by decide +kernel
theorem dL_law_507 : decode cL_law 507 = .ok (.invokestatic 139, 3) := by decide +kernel
theorem dL_law_510 : decode cL_law 510 = .ok (.istore 5, 2) := by decide +kernel
theorem dL_law_512 : decode cL_law 512 = .ok (.aload_n 2, 1) := by decide +kernel
theorem dL_law_513 : decode cL_law 513 = .ok (.aload_n 0, 1) := by decide +kernel
theorem dL_law_514 : decode cL_law 514 = .ok (.iload 4, 2) := by decide +kernel
theorem dL_law_516 : decode cL_law 516 = .ok (.iconst 1, 1) := by decide +kernel
theorem dL_law_517 : decode cL_law 517 = .ok (.iadd, 1) := by decide +kernel
theorem dL_law_518 : decode cL_law 518 = .ok (.iaload, 1) := by decide +kernel
theorem dL_law_519 : decode cL_law 519 = .ok (.aload_n 0, 1) := by decide +kernel
theorem dL_law_520 : decode cL_law 520 = .ok (.iload 4, 2) := by decide +kernel
theorem dL_law_522 : decode cL_law 522 = .ok (.iconst 2, 1) := by decide +kernel
theorem dL_law_523 : decode cL_law 523 = .ok (.iadd, 1) := by decide +kernel
theorem dL_law_524 : decode cL_law 524 = .ok (.iaload, 1) := by decide +kernel
theorem dL_law_525 : decode cL_law 525 = .ok (.aload_n 0, 1) := by decide +kernel
theorem dL_law_526 : decode cL_law 526 = .ok (.iload 4, 2) := by decide +kernel
theorem dL_law_528 : decode cL_law 528 = .ok (.iconst 3, 1) := by decide +kernel
theorem dL_law_529 : decode cL_law 529 = .ok (.iadd, 1) := by decide +kernel
theorem dL_law_530 : decode cL_law 530 = .ok (.iaload, 1) := by decide +kernel
theorem dL_law_531 : decode cL_law 531 = .ok (.invokevirtual 141, 3) := by decide +kernel
theorem dL_law_534 : decode cL_law 534 = .ok (.aload_n 2, 1) := by decide +kernel
theorem dL_law_535 : decode cL_law 535 = .ok (.invokevirtual 123, 3) := by decide +kernel
theorem dL_law_538 : decode cL_law 538 = .ok (.iload 5, 2) := by decide +kernel
theorem dL_law_540 : decode cL_law 540 = .ok (.if_icmp .eq 5, 3) := by decide +kernel
theorem dL_law_543 : decode cL_law 543 = .ok (.iconst 0, 1) := by decide +kernel
theorem dL_law_544 : decode cL_law 544 = .ok (.ireturn, 1) := by decide +kernel
theorem dL_law_545 : decode cL_law 545 = .ok (.goto 1576, 3) := by decide +kernel
theorem dL_law_548 : decode cL_law 548 = .ok (.aload_n 1, 1) := by decide +kernel
theorem dL_law_549 : decode cL_law 549 = .ok (.aload_n 0, 1) := by decide +kernel
theorem dL_law_550 : decode cL_law 550 = .ok (.iload 4, 2) := by decide +kernel
theorem dL_law_552 : decode cL_law 552 = .ok (.iconst 1, 1) := by decide +kernel
theorem dL_law_553 : decode cL_law 553 = .ok (.iadd, 1) := by decide +kernel
theorem dL_law_554 : decode cL_law 554 = .ok (.iaload, 1) := by decide +kernel
theorem dL_law_555 : decode cL_law 555 = .ok (.aload_n 0, 1) := by decide +kernel
theorem dL_law_556 : decode cL_law 556 = .ok (.iload 4, 2) := by decide +kernel
theorem dL_law_558 : decode cL_law 558 = .ok (.iconst 2, 1) := by decide +kernel
theorem dL_law_559 : decode cL_law 559 = .ok (.iadd, 1) := by decide +kernel
theorem dL_law_560 : decode cL_law 560 = .ok (.iaload, 1) := by decide +kernel
theorem dL_law_561 : decode cL_law 561 = .ok (.aload_n 0, 1) := by decide +kernel
theorem dL_law_562 : decode cL_law 562 = .ok (.iload 4, 2) := by decide +kernel
theorem dL_law_564 : decode cL_law 564 = .ok (.iconst 3, 1) := by decide +kernel
theorem dL_law_565 : decode cL_law 565 = .ok (.iadd, 1) := by decide +kernel
theorem dL_law_566 : decode cL_law 566 = .ok (.iaload, 1) := by decide +kernel
theorem dL_law_567 : decode cL_law 567 = .ok (.aload_n 3, 1) := by decide +kernel
theorem dL_law_568 : decode cL_law 568 = .ok (.invokestatic 142, 3) := by decide +kernel
theorem dL_law_571 : decode cL_law 571 = .ok (.istore 5, 2) := by decide +kernel
theorem dL_law_573 : decode cL_law 573 = .ok (.aload_n 2, 1) := by decide +kernel
theorem dL_law_574 : decode cL_law 574 = .ok (.aload_n 0, 1) := by decide +kernel
theorem dL_law_575 : decode cL_law 575 = .ok (.iload 4, 2) := by decide +kernel
theorem dL_law_577 : decode cL_law 577 = .ok (.iconst 1, 1) := by decide +kernel
theorem dL_law_578 : decode cL_law 578 = .ok (.iadd, 1) := by decide +kernel
theorem dL_law_579 : decode cL_law 579 = .ok (.iaload, 1) := by decide +kernel
theorem dL_law_580 : decode cL_law 580 = .ok (.aload_n 0, 1) := by decide +kernel
theorem dL_law_581 : decode cL_law 581 = .ok (.iload 4, 2) := by decide +kernel
theorem dL_law_583 : decode cL_law 583 = .ok (.iconst 2, 1) := by decide +kernel
theorem dL_law_584 : decode cL_law 584 = .ok (.iadd, 1) := by decide +kernel
theorem dL_law_585 : decode cL_law 585 = .ok (.iaload, 1) := by decide +kernel
theorem dL_law_586 : decode cL_law 586 = .ok (.aload_n 0, 1) := by decide +kernel
theorem dL_law_587 : decode cL_law 587 = .ok (.iload 4, 2) := by decide +kernel
theorem dL_law_589 : decode cL_law 589 = .ok (.iconst 3, 1) := by decide +kernel
theorem dL_law_590 : decode cL_law 590 = .ok (.iadd, 1) := by decide +kernel
theorem dL_law_591 : decode cL_law 591 = .ok (.iaload, 1) := by decide +kernel
theorem dL_law_592 : decode cL_law 592 = .ok (.invokevirtual 144, 3) := by decide +kernel
theorem dL_law_595 : decode cL_law 595 = .ok (.istore 6, 2) := by decide +kernel
theorem dL_law_597 : decode cL_law 597 = .ok (.aload_n 2, 1) := by decide +kernel
theorem dL_law_598 : decode cL_law 598 = .ok (.invokevirtual 123, 3) := by decide +kernel
end
section
theorem dL_law_601 : decode cL_law 601 = .ok (.iload 5, 2) := by decide +kernel
theorem dL_law_603 : decode cL_law 603 = .ok (.if_icmp .eq 5, 3) := by decide +kernel
theorem dL_law_606 : decode cL_law 606 = .ok (.iconst 0, 1) := by decide +kernel
theorem dL_law_607 : decode cL_law 607 = .ok (.ireturn, 1) := by decide +kernel
theorem dL_law_608 : decode cL_law 608 = .ok (.iload 5, 2) := by decide +kernel
theorem dL_law_610 : decode cL_law 610 = .ok (.ifCond .ne 15, 3) := by decide +kernel
theorem dL_law_613 : decode cL_law 613 = .ok (.aload_n 3, 1) := by decide +kernel
theorem dL_law_614 : decode cL_law 614 = .ok (.iconst 0, 1) := by decide +kernel
theorem dL_law_615 : decode cL_law 615 = .ok (.laload, 1) := by decide +kernel
theorem dL_law_616 : decode cL_law 616 = .ok (.iload 6, 2) := by decide +kernel
theorem dL_law_618 : decode cL_law 618 = .ok (.i2l, 1) := by decide +kernel
theorem dL_law_619 : decode cL_law 619 = .ok (.lcmp, 1) := by decide +kernel
theorem dL_law_620 : decode cL_law 620 = .ok (.ifCond .eq 5, 3) := by decide +kernel
theorem dL_law_623 : decode cL_law 623 = .ok (.iconst 0, 1) := by decide +kernel
theorem dL_law_624 : decode cL_law 624 = .ok (.ireturn, 1) := by decide +kernel
theorem dL_law_625 : decode cL_law 625 = .ok (.goto 1496, 3) := by decide +kernel
theorem dL_law_628 : decode cL_law 628 = .ok (.aload_n 1, 1) := by decide +kernel
theorem dL_law_629 : decode cL_law 629 = .ok (.aload_n 0, 1) := by decide +kernel
theorem dL_law_630 : decode cL_law 630 = .ok (.iload 4, 2) := by decide +kernel
theorem dL_law_632 : decode cL_law 632 = .ok (.iconst 1, 1) := by decide +kernel
theorem dL_law_633 : decode cL_law 633 = .ok (.iadd, 1) := by decide +kernel
theorem dL_law_634 : decode cL_law 634 = .ok (.iaload, 1) := by decide +kernel
theorem dL_law_635 : decode cL_law 635 = .ok (.aload_n 3, 1) := by decide +kernel
theorem dL_law_636 : decode cL_law 636 = .ok (.invokestatic 145, 3) := by decide +kernel
theorem dL_law_639 : decode cL_law 639 = .ok (.istore 5, 2) := by decide +kernel
theorem dL_law_641 : decode cL_law 641 = .ok (.aload_n 2, 1) := by decide +kernel
theorem dL_law_642 : decode cL_law 642 = .ok (.aload_n 0, 1) := by decide +kernel
theorem dL_law_643 : decode cL_law 643 = .ok (.iload 4, 2) := by decide +kernel
theorem dL_law_645 : decode cL_law 645 = .ok (.iconst 1, 1) := by decide +kernel
theorem dL_law_646 : decode cL_law 646 = .ok (.iadd, 1) := by decide +kernel
theorem dL_law_647 : decode cL_law 647 = .ok (.iaload, 1) := by decide +kernel
theorem dL_law_648 : decode cL_law 648 = .ok (.invokevirtual 148, 3) := by decide +kernel
theorem dL_law_651 : decode cL_law 651 = .ok (.istore 6, 2) := by decide +kernel
theorem dL_law_653 : decode cL_law 653 = .ok (.aload_n 2, 1) := by decide +kernel
theorem dL_law_654 : decode cL_law 654 = .ok (.invokevirtual 123, 3) := by decide +kernel
theorem dL_law_657 : decode cL_law 657 = .ok (.iload 5, 2) := by decide +kernel
theorem dL_law_659 : decode cL_law 659 = .ok (.if_icmp .eq 5, 3) := by decide +kernel
theorem dL_law_662 : decode cL_law 662 = .ok (.iconst 0, 1) := by decide +kernel
theorem dL_law_663 : decode cL_law 663 = .ok (.ireturn, 1) := by decide +kernel
theorem dL_law_664 : decode cL_law 664 = .ok (.iload 5, 2) := by decide +kernel
theorem dL_law_666 : decode cL_law 666 = .ok (.ifCond .ne 22, 3) := by decide +kernel
theorem dL_law_669 : decode cL_law 669 = .ok (.aload_n 3, 1) := by decide +kernel
theorem dL_law_670 : decode cL_law 670 = .ok (.iconst 0, 1) := by decide +kernel
theorem dL_law_671 : decode cL_law 671 = .ok (.laload, 1) := by decide +kernel
theorem dL_law_672 : decode cL_law 672 = .ok (.iload 6, 2) := by decide +kernel
theorem dL_law_674 : decode cL_law 674 = .ok (.ifCond .eq 7, 3) := by decide +kernel
theorem dL_law_677 : decode cL_law 677 = .ok (.lconst 1, 1) := by decide +kernel
theorem dL_law_678 : decode cL_law 678 = .ok (.goto 4, 3) := by decide +kernel
theorem dL_law_681 : decode cL_law 681 = .ok (.lconst 0, 1) := by decide +kernel
theorem dL_law_682 : decode cL_law 682 = .ok (.lcmp, 1) := by decide +kernel
theorem dL_law_683 : decode cL_law 683 = .ok (.ifCond .eq 5, 3) := by decide +kernel
theorem dL_law_686 : decode cL_law 686 = .ok (.iconst 0, 1) := by decide +kernel
theorem dL_law_687 : decode cL_law 687 = .ok (.ireturn, 1) := by decide +kernel
theorem dL_law_688 : decode cL_law 688 = .ok (.goto 1433, 3) := by decide +kernel
theorem dL_law_691 : decode cL_law 691 = .ok (.aload_n 1, 1) := by decide +kernel
theorem dL_law_692 : decode cL_law 692 = .ok (.aload_n 0, 1) := by decide +kernel
theorem dL_law_693 : decode cL_law 693 = .ok (.iload 4, 2) := by decide +kernel
theorem dL_law_695 : decode cL_law 695 = .ok (.iconst 1, 1) := by decide +kernel
theorem dL_law_696 : decode cL_law 696 = .ok (.iadd, 1) := by decide +kernel
theorem dL_law_697 : decode cL_law 697 = .ok (.iaload, 1) := by decide +kernel
theorem dL_law_698 : decode cL_law 698 = .ok (.aload_n 3, 1) := by decide +kernel
theorem dL_law_699 : decode cL_law 699 = .ok (.invokestatic 149, 3) := by decide +kernel
theorem dL_law_702 : decode cL_law 702 = .ok (.istore 5, 2) := by decide +kernel
theorem dL_law_704 : decode cL_law 704 = .ok (.aload_n 2, 1) := by decide +kernel
theorem dL_law_705 : decode cL_law 705 = .ok (.aload_n 0, 1) := by decide +kernel
theorem dL_law_706 : decode cL_law 706 = .ok (.iload 4, 2) := by decide +kernel
theorem dL_law_708 : decode cL_law 708 = .ok (.iconst 1, 1) := by decide +kernel
theorem dL_law_709 : decode cL_law 709 = .ok (.iadd, 1) := by decide +kernel
theorem dL_law_710 : decode cL_law 710 = .ok (.iaload, 1) := by decide +kernel
theorem dL_law_711 : decode cL_law 711 = .ok (.invokevirtual 151, 3) := by decide +kernel
theorem dL_law_714 : decode cL_law 714 = .ok (.istore 6, 2) := by decide +kernel
theorem dL_law_716 : decode cL_law 716 = .ok (.aload_n 2, 1) := by decide +kernel
theorem dL_law_717 : decode cL_law 717 = .ok (.invokevirtual 123, 3) := by decide +kernel
theorem dL_law_720 : decode cL_law 720 = .ok (.iload 5, 2) := by decide +kernel
theorem dL_law_722 : decode cL_law 722 = .ok (.if_icmp .eq 5, 3) := by decide +kernel
theorem dL_law_725 : decode cL_law 725 = .ok (.iconst 0, 1) := by decide +kernel
theorem dL_law_726 : decode cL_law 726 = .ok (.ireturn, 1) := by decide +kernel
theorem dL_law_727 : decode cL_law 727 = .ok (.iload 5, 2) := by decide +kernel
theorem dL_law_729 : decode cL_law 729 = .ok (.ifCond .ne 15, 3) := by decide +kernel
theorem dL_law_732 : decode cL_law 732 = .ok (.aload_n 3, 1) := by decide +kernel
theorem dL_law_733 : decode cL_law 733 = .ok (.iconst 0, 1) := by decide +kernel
theorem dL_law_734 : decode cL_law 734 = .ok (.laload, 1) := by decide +kernel
theorem dL_law_735 : decode cL_law 735 = .ok (.iload 6, 2) := by decide +kernel
theorem dL_law_737 : decode cL_law 737 = .ok (.i2l, 1) := by decide +kernel
theorem dL_law_738 : decode cL_law 738 = .ok (.lcmp, 1) := by decide +kernel
theorem dL_law_739 : decode cL_law 739 = .ok (.ifCond .eq 5, 3) := by decide +kernel
theorem dL_law_742 : decode cL_law 742 = .ok (.iconst 0, 1) := by decide +kernel
theorem dL_law_743 : decode cL_law 743 = .ok (.ireturn, 1) := by decide +kernel
theorem dL_law_744 : decode cL_law 744 = .ok (.goto 1377, 3) := by decide +kernel
theorem dL_law_747 : decode cL_law 747 = .ok (.aload_n 1, 1) := by decide +kernel
theorem dL_law_748 : decode cL_law 748 = .ok (.aload_n 0, 1) := by decide +kernel
theorem dL_law_749 : decode cL_law 749 = .ok (.iload 4, 2) := by decide +kernel
theorem dL_law_751 : decode cL_law 751 = .ok (.iconst 1, 1) := by decide +kernel
theorem dL_law_752 : decode cL_law 752 = .ok (.iadd, 1) := by decide +kernel
theorem dL_law_753 : decode cL_law 753 = .ok (.iaload, 1) := by decide +kernel
theorem dL_law_754 : decode cL_law 754 = .ok (.aload_n 3, 1) := by decide +kernel
theorem dL_law_755 : decode cL_law 755 = .ok (.invokestatic 152, 3) := by decide +kernel
theorem dL_law_758 : decode cL_law 758 = .ok (.istore 5, 2) := by decide +kernel
theorem dL_law_760 : decode cL_law 760 = .ok (.aload_n 2, 1) := by decide +kernel
theorem dL_law_761 : decode cL_law 761 = .ok (.aload_n 0, 1) := by decide +kernel
theorem dL_law_762 : decode cL_law 762 = .ok (.iload 4, 2) := by decide +kernel
theorem dL_law_764 : decode cL_law 764 = .ok (.iconst 1, 1) := by decide +kernel
theorem dL_law_765 : decode cL_law 765 = .ok (.iadd, 1) := by decide +kernel
theorem dL_law_766 : decode cL_law 766 = .ok (.iaload, 1) := by decide +kernel
theorem dL_law_767 : decode cL_law 767 = .ok (.invokevirtual 154, 3) := by decide +kernel
theorem dL_law_770 : decode cL_law 770 = .ok (.istore 6, 2) := by decide +kernel
theorem dL_law_772 : decode cL_law 772 = .ok (.aload_n 2, 1) := by decide +kernel
theorem dL_law_773 : decode cL_law 773 = .ok (.invokevirtual 123, 3) := by decide +kernel
theorem dL_law_776 : decode cL_law 776 = .ok (.iload 5, 2) := by decide +kernel
theorem dL_law_778 : decode cL_law 778 = .ok (.if_icmp .eq 5, 3) := by decide +kernel
theorem dL_law_781 : decode cL_law 781 = .ok (.iconst 0, 1) := by decide +kernel
theorem dL_law_782 : decode cL_law 782 = .ok (.ireturn, 1) := by decide +kernel
theorem dL_law_783 : decode cL_law 783 = .ok (.iload 5, 2) := by decide +kernel
theorem dL_law_785 : decode cL_law 785 = .ok (.ifCond .ne 15, 3) := by decide +kernel
theorem dL_law_788 : decode cL_law 788 = .ok (.aload_n 3, 1) := by decide +kernel
theorem dL_law_789 : decode cL_law 789 = .ok (.iconst 0, 1) := by decide +kernel
theorem dL_law_790 : decode cL_law 790 = .ok (.laload, 1) := by decide +kernel
theorem dL_law_791 : decode cL_law 791 = .ok (.iload 6, 2) := by decide +kernel
theorem dL_law_793 : decode cL_law 793 = .ok (.i2l, 1) := by decide +kernel
theorem dL_law_794 : decode cL_law 794 = .ok (.lcmp, 1) := by decide +kernel
theorem dL_law_795 : decode cL_law 795 = .ok (.ifCond .eq 5, 3) := by decide +kernel
theorem dL_law_798 : decode cL_law 798 = .ok (.iconst 0, 1) := by decide +kernel
theorem dL_law_799 : decode cL_law 799 = .ok (.ireturn, 1) := by decide +kernel
theorem dL_law_800 : decode cL_law 800 = .ok (.goto 1321, 3) := by decide +kernel
theorem dL_law_803 : decode cL_law 803 = .ok (.aload_n 1, 1) := by decide +kernel
theorem dL_law_804 : decode cL_law 804 = .ok (.aload_n 0, 1) := by decide +kernel
theorem dL_law_805 : decode cL_law 805 = .ok (.iload 4, 2) := by decide +kernel
theorem dL_law_807 : decode cL_law 807 = .ok (.iconst 1, 1) := by decide +kernel
theorem dL_law_808 : decode cL_law 808 = .ok (.iadd, 1) := by decide +kernel
theorem dL_law_809 : decode cL_law 809 = .ok (.iaload, 1) := by decide +kernel
theorem dL_law_810 : decode cL_law 810 = .ok (.aload_n 0, 1) := by decide +kernel
theorem dL_law_811 : decode cL_law 811 = .ok (.iload 4, 2) := by decide +kernel
theorem dL_law_813 : decode cL_law 813 = .ok (.iconst 2, 1) := by decide +kernel
theorem dL_law_814 : decode cL_law 814 = .ok (.iadd, 1) := by decide +kernel
theorem dL_law_815 : decode cL_law 815 = .ok (.iaload, 1) := by decide +kernel
theorem dL_law_816 : decode cL_law 816 = .ok (.aload_n 0, 1) := by decide +kernel
theorem dL_law_817 : decode cL_law 817 = .ok (.iload 4, 2) := by decide +kernel
theorem dL_law_819 : decode cL_law 819 = .ok (.iconst 3, 1) := by decide +kernel
theorem dL_law_820 : decode cL_law 820 = .ok (.iadd, 1) := by decide +kernel
theorem dL_law_821 : decode cL_law 821 = .ok (.iaload, 1) := by decide +kernel
theorem dL_law_822 : decode cL_law 822 = .ok (.aload_n 0, 1) := by decide +kernel
theorem dL_law_823 : decode cL_law 823 = .ok (.iload 4, 2) := by decide +kernel
theorem dL_law_825 : decode cL_law 825 = .ok (.iconst 4, 1) := by decide +kernel
theorem dL_law_826 : decode cL_law 826 = .ok (.iadd, 1) := by decide +kernel
theorem dL_law_827 : decode cL_law 827 = .ok (.iaload, 1) := by decide +kernel
theorem dL_law_828 : decode cL_law 828 = .ok (.aload_n 3, 1) := by decide +kernel
theorem dL_law_829 : decode cL_law 829 = .ok (.invokestatic 155, 3) := by decide +kernel
theorem dL_law_832 : decode cL_law 832 = .ok (.istore 5, 2) := by decide +kernel
theorem dL_law_834 : decode cL_law 834 = .ok (.aload_n 2, 1) := by decide +kernel
theorem dL_law_835 : decode cL_law 835 = .ok (.aload_n 0, 1) := by decide +kernel
theorem dL_law_836 : decode cL_law 836 = .ok (.iload 4, 2) := by decide +kernel
theorem dL_law_838 : decode cL_law 838 = .ok (.iconst 1, 1) := by decide +kernel
theorem dL_law_839 : decode cL_law 839 = .ok (.iadd, 1) := by decide +kernel
theorem dL_law_840 : decode cL_law 840 = .ok (.iaload, 1) := by decide +kernel
theorem dL_law_841 : decode cL_law 841 = .ok (.aload_n 0, 1) := by decide +kernel
theorem dL_law_842 : decode cL_law 842 = .ok (.iload 4, 2) := by decide +kernel
theorem dL_law_844 : decode cL_law 844 = .ok (.iconst 2, 1) := by decide +kernel
theorem dL_law_845 : decode cL_law 845 = .ok (.iadd, 1) := by decide +kernel
theorem dL_law_846 : decode cL_law 846 = .ok (.iaload, 1) := by decide +kernel
theorem dL_law_847 : decode cL_law 847 = .ok (.aload_n 0, 1) := by decide +kernel
theorem dL_law_848 : decode cL_law 848 = .ok (.iload 4, 2) := by decide +kernel
theorem dL_law_850 : decode cL_law 850 = .ok (.iconst 3, 1) := by decide +kernel
theorem dL_law_851 : decode cL_law 851 = .ok (.iadd, 1) := by decide +kernel
theorem dL_law_852 : decode cL_law 852 = .ok (.iaload, 1) := by decide +kernel
theorem dL_law_853 : decode cL_law 853 = .ok (.aload_n 0, 1) := by decide +kernel
theorem dL_law_854 : decode cL_law 854 = .ok (.iload 4, 2) := by decide +kernel
theorem dL_law_856 : decode cL_law 856 = .ok (.iconst 4, 1) := by decide +kernel
theorem dL_law_857 : decode cL_law 857 = .ok (.iadd, 1) := by decide +kernel
theorem dL_law_858 : decode cL_law 858 = .ok (.iaload, 1) := by decide +kernel
theorem dL_law_859 : decode cL_law 859 = .ok (.invokevirtual 158, 3) := by decide +kernel
theorem dL_law_862 : decode cL_law 862 = .ok (.istore 6, 2) := by decide +kernel
theorem dL_law_864 : decode cL_law 864 = .ok (.aload_n 2, 1) := by decide +kernel
theorem dL_law_865 : decode cL_law 865 = .ok (.invokevirtual 123, 3) := by decide +kernel
theorem dL_law_868 : decode cL_law 868 = .ok (.iload 5, 2) := by decide +kernel
theorem dL_law_870 : decode cL_law 870 = .ok (.if_icmp .eq 5, 3) := by decide +kernel
theorem dL_law_873 : decode cL_law 873 = .ok (.iconst 0, 1) := by decide +kernel
theorem dL_law_874 : decode cL_law 874 = .ok (.ireturn, 1) := by decide +kernel
theorem dL_law_875 : decode cL_law 875 = .ok (.iload 5, 2) := by decide +kernel
theorem dL_law_877 : decode cL_law 877 = .ok (.ifCond .ne 15, 3) := by decide +kernel
theorem dL_law_880 : decode cL_law 880 = .ok (.aload_n 3, 1) := by decide +kernel
theorem dL_law_881 : decode cL_law 881 = .ok (.iconst 0, 1) := by decide +kernel
theorem dL_law_882 : decode cL_law 882 = .ok (.laload, 1) := by decide +kernel
theorem dL_law_883 : decode cL_law 883 = .ok (.iload 6, 2) := by decide +kernel
theorem dL_law_885 : decode cL_law 885 = .ok (.i2l, 1) := by decide +kernel
theorem dL_law_886 : decode cL_law 886 = .ok (.lcmp, 1) := by decide +kernel
theorem dL_law_887 : decode cL_law 887 = .ok (.ifCond .eq 5, 3) := by decide +kernel
theorem dL_law_890 : decode cL_law 890 = .ok (.iconst 0, 1) := by decide +kernel
theorem dL_law_891 : decode cL_law 891 = .ok (.ireturn, 1) := by decide +kernel
theorem dL_law_892 : decode cL_law 892 = .ok (.goto 1229, 3) := by decide +kernel
theorem dL_law_895 : decode cL_law 895 = .ok (.aload_n 1, 1) := by decide +kernel
theorem dL_law_896 : decode cL_law 896 = .ok (.aload_n 0, 1) := by decide +kernel
theorem dL_law_897 : decode cL_law 897 = .ok (.iload 4, 2) := by decide +kernel
theorem dL_law_899 : decode cL_law 899 = .ok (.iconst 1, 1) := by decide +kernel
theorem dL_law_900 : decode cL_law 900 = .ok (.iadd, 1) := by decide +kernel
theorem dL_law_901 : decode cL_law 901 = .ok (.iaload, 1) := by decide +kernel
theorem dL_law_902 : decode cL_law 902 = .ok (.aload_n 0, 1) := by decide +kernel
theorem dL_law_903 : decode cL_law 903 = .ok (.iload 4, 2) := by decide +kernel
theorem dL_law_905 : decode cL_law 905 = .ok (.iconst 2, 1) := by decide +kernel
theorem dL_law_906 : decode cL_law 906 = .ok (.iadd, 1) := by decide +kernel
theorem dL_law_907 : decode cL_law 907 = .ok (.iaload, 1) := by decide +kernel
theorem dL_law_908 : decode cL_law 908 = .ok (.aload_n 3, 1) := by decide +kernel
theorem dL_law_909 : decode cL_law 909 = .ok (.invokestatic 159, 3) := by decide +kernel
theorem dL_law_912 : decode cL_law 912 = .ok (.istore 5, 2) := by decide +kernel
theorem dL_law_914 : decode cL_law 914 = .ok (.aload_n 2, 1) := by decide +kernel
theorem dL_law_915 : decode cL_law 915 = .ok (.aload_n 0, 1) := by decide +kernel
theorem dL_law_916 : decode cL_law 916 = .ok (.iload 4, 2) := by decide +kernel
theorem dL_law_918 : decode cL_law 918 = .ok (.iconst 1, 1) := by decide +kernel
theorem dL_law_919 : decode cL_law 919 = .ok (.iadd, 1) := by decide +kernel
theorem dL_law_920 : decode cL_law 920 = .ok (.iaload, 1) := by decide +kernel
theorem dL_law_921 : decode cL_law 921 = .ok (.aload_n 0, 1) := by decide +kernel
theorem dL_law_922 : decode cL_law 922 = .ok (.iload 4, 2) := by decide +kernel
theorem dL_law_924 : decode cL_law 924 = .ok (.iconst 2, 1) := by decide +kernel
theorem dL_law_925 : decode cL_law 925 = .ok (.iadd, 1) := by decide +kernel
theorem dL_law_926 : decode cL_law 926 = .ok (.iaload, 1) := by decide +kernel
theorem dL_law_927 : decode cL_law 927 = .ok (.invokevirtual 162, 3) := by decide +kernel
theorem dL_law_930 : decode cL_law 930 = .ok (.istore 6, 2) := by decide +kernel
theorem dL_law_932 : decode cL_law 932 = .ok (.aload_n 2, 1) := by decide +kernel
theorem dL_law_933 : decode cL_law 933 = .ok (.invokevirtual 123, 3) := by decide +kernel
theorem dL_law_936 : decode cL_law 936 = .ok (.iload 5, 2) := by decide +kernel
theorem dL_law_938 : decode cL_law 938 = .ok (.if_icmp .eq 5, 3) := by decide +kernel
theorem dL_law_941 : decode cL_law 941 = .ok (.iconst 0, 1) := by decide +kernel
theorem dL_law_942 : decode cL_law 942 = .ok (.ireturn, 1) := by decide +kernel
theorem dL_law_943 : decode cL_law 943 = .ok (.iload 5, 2) := by decide +kernel
theorem dL_law_945 : decode cL_law 945 = .ok (.ifCond .ne 15, 3) := by decide +kernel
theorem dL_law_948 : decode cL_law 948 = .ok (.aload_n 3, 1) := by decide +kernel
theorem dL_law_949 : decode cL_law 949 = .ok (.iconst 0, 1) := by decide +kernel
theorem dL_law_950 : decode cL_law 950 = .ok (.laload, 1) := by decide +kernel
theorem dL_law_951 : decode cL_law 951 = .ok (.iload 6, 2) := by decide +kernel
theorem dL_law_953 : decode cL_law 953 = .ok (.i2l, 1) := by decide +kernel
theorem dL_law_954 : decode cL_law 954 = .ok (.lcmp, 1) := by decide +kernel
theorem dL_law_955 : decode cL_law 955 = .ok (.ifCond .eq 5, 3) := by decide +kernel
theorem dL_law_958 : decode cL_law 958 = .ok (.iconst 0, 1) := by decide +kernel
theorem dL_law_959 : decode cL_law 959 = .ok (.ireturn, 1) := by decide +kernel
theorem dL_law_960 : decode cL_law 960 = .ok (.goto 1161, 3) := by decide +kernel
theorem dL_law_963 : decode cL_law 963 = .ok (.aload_n 1, 1) := by decide +kernel
theorem dL_law_964 : decode cL_law 964 = .ok (.aload_n 0, 1) := by decide +kernel
theorem dL_law_965 : decode cL_law 965 = .ok (.iload 4, 2) := by decide +kernel
theorem dL_law_967 : decode cL_law 967 = .ok (.iconst 1, 1) := by decide +kernel
theorem dL_law_968 : decode cL_law 968 = .ok (.iadd, 1) := by decide +kernel
theorem dL_law_969 : decode cL_law 969 = .ok (.iaload, 1) := by decide +kernel
theorem dL_law_970 : decode cL_law 970 = .ok (.aload_n 0, 1) := by decide +kernel
theorem dL_law_971 : decode cL_law 971 = .ok (.iload 4, 2) := by decide +kernel
theorem dL_law_973 : decode cL_law 973 = .ok (.iconst 2, 1) := by decide +kernel
theorem dL_law_974 : decode cL_law 974 = .ok (.iadd, 1) := by decide +kernel
theorem dL_law_975 : decode cL_law 975 = .ok (.iaload, 1) := by decide +kernel
theorem dL_law_976 : decode cL_law 976 = .ok (.aload_n 0, 1) := by decide +kernel
theorem dL_law_977 : decode cL_law 977 = .ok (.iload 4, 2) := by decide +kernel
theorem dL_law_979 : decode cL_law 979 = .ok (.iconst 3, 1) := by decide +kernel
theorem dL_law_980 : decode cL_law 980 = .ok (.iadd, 1) := by decide +kernel
theorem dL_law_981 : decode cL_law 981 = .ok (.iaload, 1) := by decide +kernel
theorem dL_law_982 : decode cL_law 982 = .ok (.ifCond .eq 7, 3) := by decide +kernel
theorem dL_law_985 : decode cL_law 985 = .ok (.iconst 1, 1) := by decide +kernel
theorem dL_law_986 : decode cL_law 986 = .ok (.goto 4, 3) := by decide +kernel
theorem dL_law_989 : decode cL_law 989 = .ok (.iconst 0, 1) := by decide +kernel
theorem dL_law_990 : decode cL_law 990 = .ok (.invokestatic 163, 3) := by decide +kernel
theorem dL_law_993 : decode cL_law 993 = .ok (.istore 5, 2) := by decide +kernel
theorem dL_law_995 : decode cL_law 995 = .ok (.aload_n 2, 1) := by decide +kernel
theorem dL_law_996 : decode cL_law 996 = .ok (.aload_n 0, 1) := by decide +kernel
theorem dL_law_997 : decode cL_law 997 = .ok (.iload 4, 2) := by decide +kernel
theorem dL_law_999 : decode cL_law 999 = .ok (.iconst 1, 1) := by decide +kernel
theorem dL_law_1000 : decode cL_law 1000 = .ok (.iadd, 1) := by decide +kernel
theorem dL_law_1001 : decode cL_law 1001 = .ok (.iaload, 1) := by decide +kernel
theorem dL_law_1002 : decode cL_law 1002 = .ok (.aload_n 0, 1) := by decide +kernel
theorem dL_law_1003 : decode cL_law 1003 = .ok (.iload 4, 2) := by decide +kernel
theorem dL_law_1005 : decode cL_law 1005 = .ok (.iconst 2, 1) := by decide +kernel
theorem dL_law_1006 : decode cL_law 1006 = .ok (.iadd, 1) := by decide +kernel
theorem dL_law_1007 : decode cL_law 1007 = .ok (.iaload, 1) := by decide +kernel
theorem dL_law_1008 : decode cL_law 1008 = .ok (.aload_n 0, 1) := by decide +kernel
theorem dL_law_1009 : decode cL_law 1009 = .ok (.iload 4, 2) := by decide +kernel
theorem dL_law_1011 : decode cL_law 1011 = .ok (.iconst 3, 1) := by decide +kernel
theorem dL_law_1012 : decode cL_law 1012 = .ok (.iadd, 1) := by decide +kernel
theorem dL_law_1013 : decode cL_law 1013 = .ok (.iaload, 1) := by decide +kernel
theorem dL_law_1014 : decode cL_law 1014 = .ok (.ifCond .eq 7, 3) := by decide +kernel
theorem dL_law_1017 : decode cL_law 1017 = .ok (.iconst 1, 1) := by decide +kernel
theorem dL_law_1018 : decode cL_law 1018 = .ok (.goto 4, 3) := by decide +kernel
theorem dL_law_1021 : decode cL_law 1021 = .ok (.iconst 0, 1) := by decide +kernel
theorem dL_law_1022 : decode cL_law 1022 = .ok (.invokevirtual 166, 3) := by decide +kernel
theorem dL_law_1025 : decode cL_law 1025 = .ok (.aload_n 2, 1) := by decide +kernel
theorem dL_law_1026 : decode cL_law 1026 = .ok (.invokevirtual 123, 3) := by decide +kernel
theorem dL_law_1029 : decode cL_law 1029 = .ok (.iload 5, 2) := by decide +kernel
theorem dL_law_1031 : decode cL_law 1031 = .ok (.if_icmp .eq 5, 3) := by decide +kernel
theorem dL_law_1034 : decode cL_law 1034 = .ok (.iconst 0, 1) := by decide +kernel
theorem dL_law_1035 : decode cL_law 1035 = .ok (.ireturn, 1) := by decide +kernel
theorem dL_law_1036 : decode cL_law 1036 = .ok (.goto 1085, 3) := by decide +kernel
theorem dL_law_1039 : decode cL_law 1039 = .ok (.aload_n 1, 1) := by decide +kernel
theorem dL_law_1040 : decode cL_law 1040 = .ok (.aload_n 0, 1) := by decide +kernel
theorem dL_law_1041 : decode cL_law 1041 = .ok (.iload 4, 2) := by decide +kernel
theorem dL_law_1043 : decode cL_law 1043 = .ok (.iconst 1, 1) := by decide +kernel
theorem dL_law_1044 : decode cL_law 1044 = .ok (.iadd, 1) := by decide +kernel
theorem dL_law_1045 : decode cL_law 1045 = .ok (.iaload, 1) := by decide +kernel
theorem dL_law_1046 : decode cL_law 1046 = .ok (.aload_n 0, 1) := by decide +kernel
theorem dL_law_1047 : decode cL_law 1047 = .ok (.iload 4, 2) := by decide +kernel
theorem dL_law_1049 : decode cL_law 1049 = .ok (.iconst 2, 1) := by decide +kernel
theorem dL_law_1050 : decode cL_law 1050 = .ok (.iadd, 1) := by decide +kernel
theorem dL_law_1051 : decode cL_law 1051 = .ok (.iaload, 1) := by decide +kernel
theorem dL_law_1052 : decode cL_law 1052 = .ok (.aload_n 3, 1) := by decide +kernel
theorem dL_law_1053 : decode cL_law 1053 = .ok (.invokestatic 167, 3) := by decide +kernel
theorem dL_law_1056 : decode cL_law 1056 = .ok (.istore 5, 2) := by decide +kernel
theorem dL_law_1058 : decode cL_law 1058 = .ok (.aload_n 2, 1) := by decide +kernel
theorem dL_law_1059 : decode cL_law 1059 = .ok (.aload_n 0, 1) := by decide +kernel
theorem dL_law_1060 : decode cL_law 1060 = .ok (.iload 4, 2) := by decide +kernel
theorem dL_law_1062 : decode cL_law 1062 = .ok (.iconst 1, 1) := by decide +kernel
theorem dL_law_1063 : decode cL_law 1063 = .ok (.iadd, 1) := by decide +kernel
theorem dL_law_1064 : decode cL_law 1064 = .ok (.iaload, 1) := by decide +kernel
theorem dL_law_1065 : decode cL_law 1065 = .ok (.aload_n 0, 1) := by decide +kernel
theorem dL_law_1066 : decode cL_law 1066 = .ok (.iload 4, 2) := by decide +kernel
theorem dL_law_1068 : decode cL_law 1068 = .ok (.iconst 2, 1) := by decide +kernel
theorem dL_law_1069 : decode cL_law 1069 = .ok (.iadd, 1) := by decide +kernel
theorem dL_law_1070 : decode cL_law 1070 = .ok (.iaload, 1) := by decide +kernel
theorem dL_law_1071 : decode cL_law 1071 = .ok (.invokevirtual 169, 3) := by decide +kernel
theorem dL_law_1074 : decode cL_law 1074 = .ok (.istore 6, 2) := by decide +kernel
theorem dL_law_1076 : decode cL_law 1076 = .ok (.aload_n 2, 1) := by decide +kernel
theorem dL_law_1077 : decode cL_law 1077 = .ok (.invokevirtual 123, 3) := by decide +kernel
theorem dL_law_1080 : decode cL_law 1080 = .ok (.iload 5, 2) := by decide +kernel
theorem dL_law_1082 : decode cL_law 1082 = .ok (.if_icmp .eq 5, 3) := by decide +kernel
theorem dL_law_1085 : decode cL_law 1085 = .ok (.iconst 0, 1) := by decide +kernel
theorem dL_law_1086 : decode cL_law 1086 = .ok (.ireturn, 1) := by decide +kernel
theorem dL_law_1087 : decode cL_law 1087 = .ok (.iload 5, 2) := by decide +kernel
theorem dL_law_1089 : decode cL_law 1089 = .ok (.ifCond .ne 15, 3) := by decide +kernel
theorem dL_law_1092 : decode cL_law 1092 = .ok (.aload_n 3, 1) := by decide +kernel
theorem dL_law_1093 : decode cL_law 1093 = .ok (.iconst 0, 1) := by decide +kernel
theorem dL_law_1094 : decode cL_law 1094 = .ok (.laload, 1) := by decide +kernel
theorem dL_law_1095 : decode cL_law 1095 = .ok (.iload 6, 2) := by decide +kernel
theorem dL_law_1097 : decode cL_law 1097 = .ok (.i2l, 1) := by decide +kernel
theorem dL_law_1098 : decode cL_law 1098 = .ok (.lcmp, 1) := by decide +kernel
theorem dL_law_1099 : decode cL_law 1099 = .ok (.ifCond .eq 5, 3) := by decide +kernel
theorem dL_law_1102 : decode cL_law 1102 = .ok (.iconst 0, 1) := by decide +kernel
theorem dL_law_1103 : decode cL_law 1103 = .ok (.ireturn, 1) := by decide +kernel
theorem dL_law_1104 : decode cL_law 1104 = .ok (.goto 1017, 3) := by decide +kernel
theorem dL_law_1107 : decode cL_law 1107 = .ok (.aload_n 1, 1) := by decide +kernel
end
section
theorem dL_law_1108 : decode cL_law 1108 = .ok (.aload_n 0, 1) := by decide +kernel
theorem dL_law_1109 : decode cL_law 1109 = .ok (.iload 4, 2) := by decide +kernel
theorem dL_law_1111 : decode cL_law 1111 = .ok (.iconst 1, 1) := by decide +kernel
theorem dL_law_1112 : decode cL_law 1112 = .ok (.iadd, 1) := by decide +kernel
theorem dL_law_1113 : decode cL_law 1113 = .ok (.iaload, 1) := by decide +kernel
theorem dL_law_1114 : decode cL_law 1114 = .ok (.aload_n 0, 1) := by decide +kernel
theorem dL_law_1115 : decode cL_law 1115 = .ok (.iload 4, 2) := by decide +kernel
theorem dL_law_1117 : decode cL_law 1117 = .ok (.iconst 2, 1) := by decide +kernel
theorem dL_law_1118 : decode cL_law 1118 = .ok (.iadd, 1) := by decide +kernel
theorem dL_law_1119 : decode cL_law 1119 = .ok (.iaload, 1) := by decide +kernel
theorem dL_law_1120 : decode cL_law 1120 = .ok (.aload_n 3, 1) := by decide +kernel
theorem dL_law_1121 : decode cL_law 1121 = .ok (.invokestatic 170, 3) := by decide +kernel
theorem dL_law_1124 : decode cL_law 1124 = .ok (.istore 5, 2) := by decide +kernel
theorem dL_law_1126 : decode cL_law 1126 = .ok (.aload_n 2, 1) := by decide +kernel
theorem dL_law_1127 : decode cL_law 1127 = .ok (.aload_n 0, 1) := by decide +kernel
theorem dL_law_1128 : decode cL_law 1128 = .ok (.iload 4, 2) := by decide +kernel
theorem dL_law_1130 : decode cL_law 1130 = .ok (.iconst 1, 1) := by decide +kernel
theorem dL_law_1131 : decode cL_law 1131 = .ok (.iadd, 1) := by decide +kernel
theorem dL_law_1132 : decode cL_law 1132 = .ok (.iaload, 1) := by decide +kernel
theorem dL_law_1133 : decode cL_law 1133 = .ok (.aload_n 0, 1) := by decide +kernel
theorem dL_law_1134 : decode cL_law 1134 = .ok (.iload 4, 2) := by decide +kernel
theorem dL_law_1136 : decode cL_law 1136 = .ok (.iconst 2, 1) := by decide +kernel
theorem dL_law_1137 : decode cL_law 1137 = .ok (.iadd, 1) := by decide +kernel
theorem dL_law_1138 : decode cL_law 1138 = .ok (.iaload, 1) := by decide +kernel
theorem dL_law_1139 : decode cL_law 1139 = .ok (.invokevirtual 172, 3) := by decide +kernel
theorem dL_law_1142 : decode cL_law 1142 = .ok (.istore 6, 2) := by decide +kernel
theorem dL_law_1144 : decode cL_law 1144 = .ok (.aload_n 2, 1) := by decide +kernel
theorem dL_law_1145 : decode cL_law 1145 = .ok (.invokevirtual 123, 3) := by decide +kernel
theorem dL_law_1148 : decode cL_law 1148 = .ok (.iload 5, 2) := by decide +kernel
theorem dL_law_1150 : decode cL_law 1150 = .ok (.if_icmp .eq 5, 3) := by decide +kernel
theorem dL_law_1153 : decode cL_law 1153 = .ok (.iconst 0, 1) := by decide +kernel
theorem dL_law_1154 : decode cL_law 1154 = .ok (.ireturn, 1) := by decide +kernel
theorem dL_law_1155 : decode cL_law 1155 = .ok (.iload 5, 2) := by decide +kernel
theorem dL_law_1157 : decode cL_law 1157 = .ok (.ifCond .ne 15, 3) := by decide +kernel
theorem dL_law_1160 : decode cL_law 1160 = .ok (.aload_n 3, 1) := by decide +kernel
theorem dL_law_1161 : decode cL_law 1161 = .ok (.iconst 0, 1) := by decide +kernel
theorem dL_law_1162 : decode cL_law 1162 = .ok (.laload, 1) := by decide +kernel
theorem dL_law_1163 : decode cL_law 1163 = .ok (.iload 6, 2) := by decide +kernel
theorem dL_law_1165 : decode cL_law 1165 = .ok (.i2l, 1) := by decide +kernel
theorem dL_law_1166 : decode cL_law 1166 = .ok (.lcmp, 1) := by decide +kernel
theorem dL_law_1167 : decode cL_law 1167 = .ok (.ifCond .eq 5, 3) := by decide +kernel
theorem dL_law_1170 : decode cL_law 1170 = .ok (.iconst 0, 1) := by decide +kernel
theorem dL_law_1171 : decode cL_law 1171 = .ok (.ireturn, 1) := by decide +kernel
theorem dL_law_1172 : decode cL_law 1172 = .ok (.goto 949, 3) := by decide +kernel
theorem dL_law_1175 : decode cL_law 1175 = .ok (.aload_n 1, 1) := by decide +kernel
theorem dL_law_1176 : decode cL_law 1176 = .ok (.aload_n 0, 1) := by decide +kernel
theorem dL_law_1177 : decode cL_law 1177 = .ok (.iload 4, 2) := by decide +kernel
theorem dL_law_1179 : decode cL_law 1179 = .ok (.iconst 1, 1) := by decide +kernel
theorem dL_law_1180 : decode cL_law 1180 = .ok (.iadd, 1) := by decide +kernel
theorem dL_law_1181 : decode cL_law 1181 = .ok (.iaload, 1) := by decide +kernel
theorem dL_law_1182 : decode cL_law 1182 = .ok (.aload_n 3, 1) := by decide +kernel
theorem dL_law_1183 : decode cL_law 1183 = .ok (.invokestatic 173, 3) := by decide +kernel
theorem dL_law_1186 : decode cL_law 1186 = .ok (.istore 5, 2) := by decide +kernel
theorem dL_law_1188 : decode cL_law 1188 = .ok (.aload_n 2, 1) := by decide +kernel
theorem dL_law_1189 : decode cL_law 1189 = .ok (.aload_n 0, 1) := by decide +kernel
theorem dL_law_1190 : decode cL_law 1190 = .ok (.iload 4, 2) := by decide +kernel
theorem dL_law_1192 : decode cL_law 1192 = .ok (.iconst 1, 1) := by decide +kernel
theorem dL_law_1193 : decode cL_law 1193 = .ok (.iadd, 1) := by decide +kernel
theorem dL_law_1194 : decode cL_law 1194 = .ok (.iaload, 1) := by decide +kernel
theorem dL_law_1195 : decode cL_law 1195 = .ok (.invokevirtual 175, 3) := by decide +kernel
theorem dL_law_1198 : decode cL_law 1198 = .ok (.istore 6, 2) := by decide +kernel
theorem dL_law_1200 : decode cL_law 1200 = .ok (.aload_n 2, 1) := by decide +kernel
theorem dL_law_1201 : decode cL_law 1201 = .ok (.invokevirtual 123, 3) := by decide +kernel
theorem dL_law_1204 : decode cL_law 1204 = .ok (.iload 5, 2) := by decide +kernel
theorem dL_law_1206 : decode cL_law 1206 = .ok (.if_icmp .eq 5, 3) := by decide +kernel
theorem dL_law_1209 : decode cL_law 1209 = .ok (.iconst 0, 1) := by decide +kernel
theorem dL_law_1210 : decode cL_law 1210 = .ok (.ireturn, 1) := by decide +kernel
theorem dL_law_1211 : decode cL_law 1211 = .ok (.iload 5, 2) := by decide +kernel
theorem dL_law_1213 : decode cL_law 1213 = .ok (.ifCond .ne 15, 3) := by decide +kernel
theorem dL_law_1216 : decode cL_law 1216 = .ok (.aload_n 3, 1) := by decide +kernel
theorem dL_law_1217 : decode cL_law 1217 = .ok (.iconst 0, 1) := by decide +kernel
theorem dL_law_1218 : decode cL_law 1218 = .ok (.laload, 1) := by decide +kernel
theorem dL_law_1219 : decode cL_law 1219 = .ok (.iload 6, 2) := by decide +kernel
theorem dL_law_1221 : decode cL_law 1221 = .ok (.i2l, 1) := by decide +kernel
theorem dL_law_1222 : decode cL_law 1222 = .ok (.lcmp, 1) := by decide +kernel
theorem dL_law_1223 : decode cL_law 1223 = .ok (.ifCond .eq 5, 3) := by decide +kernel
theorem dL_law_1226 : decode cL_law 1226 = .ok (.iconst 0, 1) := by decide +kernel
theorem dL_law_1227 : decode cL_law 1227 = .ok (.ireturn, 1) := by decide +kernel
theorem dL_law_1228 : decode cL_law 1228 = .ok (.goto 893, 3) := by decide +kernel
theorem dL_law_1231 : decode cL_law 1231 = .ok (.aload_n 1, 1) := by decide +kernel
theorem dL_law_1232 : decode cL_law 1232 = .ok (.aload_n 0, 1) := by decide +kernel
theorem dL_law_1233 : decode cL_law 1233 = .ok (.iload 4, 2) := by decide +kernel
theorem dL_law_1235 : decode cL_law 1235 = .ok (.iconst 1, 1) := by decide +kernel
theorem dL_law_1236 : decode cL_law 1236 = .ok (.iadd, 1) := by decide +kernel
theorem dL_law_1237 : decode cL_law 1237 = .ok (.iaload, 1) := by decide +kernel
theorem dL_law_1238 : decode cL_law 1238 = .ok (.aload_n 0, 1) := by decide +kernel
theorem dL_law_1239 : decode cL_law 1239 = .ok (.iload 4, 2) := by decide +kernel
theorem dL_law_1241 : decode cL_law 1241 = .ok (.iconst 2, 1) := by decide +kernel
theorem dL_law_1242 : decode cL_law 1242 = .ok (.iadd, 1) := by decide +kernel
theorem dL_law_1243 : decode cL_law 1243 = .ok (.iaload, 1) := by decide +kernel
theorem dL_law_1244 : decode cL_law 1244 = .ok (.aload_n 3, 1) := by decide +kernel
theorem dL_law_1245 : decode cL_law 1245 = .ok (.invokestatic 176, 3) := by decide +kernel
theorem dL_law_1248 : decode cL_law 1248 = .ok (.istore 5, 2) := by decide +kernel
theorem dL_law_1250 : decode cL_law 1250 = .ok (.aload_n 2, 1) := by decide +kernel
theorem dL_law_1251 : decode cL_law 1251 = .ok (.aload_n 0, 1) := by decide +kernel
theorem dL_law_1252 : decode cL_law 1252 = .ok (.iload 4, 2) := by decide +kernel
theorem dL_law_1254 : decode cL_law 1254 = .ok (.iconst 1, 1) := by decide +kernel
theorem dL_law_1255 : decode cL_law 1255 = .ok (.iadd, 1) := by decide +kernel
theorem dL_law_1256 : decode cL_law 1256 = .ok (.iaload, 1) := by decide +kernel
theorem dL_law_1257 : decode cL_law 1257 = .ok (.aload_n 0, 1) := by decide +kernel
theorem dL_law_1258 : decode cL_law 1258 = .ok (.iload 4, 2) := by decide +kernel
theorem dL_law_1260 : decode cL_law 1260 = .ok (.iconst 2, 1) := by decide +kernel
theorem dL_law_1261 : decode cL_law 1261 = .ok (.iadd, 1) := by decide +kernel
theorem dL_law_1262 : decode cL_law 1262 = .ok (.iaload, 1) := by decide +kernel
theorem dL_law_1263 : decode cL_law 1263 = .ok (.invokevirtual 178, 3) := by decide +kernel
theorem dL_law_1266 : decode cL_law 1266 = .ok (.istore 6, 2) := by decide +kernel
theorem dL_law_1268 : decode cL_law 1268 = .ok (.aload_n 2, 1) := by decide +kernel
theorem dL_law_1269 : decode cL_law 1269 = .ok (.invokevirtual 123, 3) := by decide +kernel
theorem dL_law_1272 : decode cL_law 1272 = .ok (.iload 5, 2) := by decide +kernel
theorem dL_law_1274 : decode cL_law 1274 = .ok (.if_icmp .eq 5, 3) := by decide +kernel
theorem dL_law_1277 : decode cL_law 1277 = .ok (.iconst 0, 1) := by decide +kernel
theorem dL_law_1278 : decode cL_law 1278 = .ok (.ireturn, 1) := by decide +kernel
theorem dL_law_1279 : decode cL_law 1279 = .ok (.iload 5, 2) := by decide +kernel
theorem dL_law_1281 : decode cL_law 1281 = .ok (.ifCond .ne 15, 3) := by decide +kernel
theorem dL_law_1284 : decode cL_law 1284 = .ok (.aload_n 3, 1) := by decide +kernel
theorem dL_law_1285 : decode cL_law 1285 = .ok (.iconst 0, 1) := by decide +kernel
theorem dL_law_1286 : decode cL_law 1286 = .ok (.laload, 1) := by decide +kernel
theorem dL_law_1287 : decode cL_law 1287 = .ok (.iload 6, 2) := by decide +kernel
theorem dL_law_1289 : decode cL_law 1289 = .ok (.i2l, 1) := by decide +kernel
theorem dL_law_1290 : decode cL_law 1290 = .ok (.lcmp, 1) := by decide +kernel
theorem dL_law_1291 : decode cL_law 1291 = .ok (.ifCond .eq 5, 3) := by decide +kernel
theorem dL_law_1294 : decode cL_law 1294 = .ok (.iconst 0, 1) := by decide +kernel
theorem dL_law_1295 : decode cL_law 1295 = .ok (.ireturn, 1) := by decide +kernel
theorem dL_law_1296 : decode cL_law 1296 = .ok (.goto 825, 3) := by decide +kernel
theorem dL_law_1299 : decode cL_law 1299 = .ok (.aload_n 1, 1) := by decide +kernel
theorem dL_law_1300 : decode cL_law 1300 = .ok (.aload_n 0, 1) := by decide +kernel
theorem dL_law_1301 : decode cL_law 1301 = .ok (.iload 4, 2) := by decide +kernel
theorem dL_law_1303 : decode cL_law 1303 = .ok (.iconst 1, 1) := by decide +kernel
theorem dL_law_1304 : decode cL_law 1304 = .ok (.iadd, 1) := by decide +kernel
theorem dL_law_1305 : decode cL_law 1305 = .ok (.iaload, 1) := by decide +kernel
theorem dL_law_1306 : decode cL_law 1306 = .ok (.aload_n 3, 1) := by decide +kernel
theorem dL_law_1307 : decode cL_law 1307 = .ok (.invokestatic 179, 3) := by decide +kernel
theorem dL_law_1310 : decode cL_law 1310 = .ok (.istore 5, 2) := by decide +kernel
theorem dL_law_1312 : decode cL_law 1312 = .ok (.aload_n 2, 1) := by decide +kernel
theorem dL_law_1313 : decode cL_law 1313 = .ok (.aload_n 0, 1) := by decide +kernel
theorem dL_law_1314 : decode cL_law 1314 = .ok (.iload 4, 2) := by decide +kernel
theorem dL_law_1316 : decode cL_law 1316 = .ok (.iconst 1, 1) := by decide +kernel
theorem dL_law_1317 : decode cL_law 1317 = .ok (.iadd, 1) := by decide +kernel
theorem dL_law_1318 : decode cL_law 1318 = .ok (.iaload, 1) := by decide +kernel
theorem dL_law_1319 : decode cL_law 1319 = .ok (.invokevirtual 181, 3) := by decide +kernel
theorem dL_law_1322 : decode cL_law 1322 = .ok (.istore 6, 2) := by decide +kernel
theorem dL_law_1324 : decode cL_law 1324 = .ok (.aload_n 2, 1) := by decide +kernel
theorem dL_law_1325 : decode cL_law 1325 = .ok (.invokevirtual 123, 3) := by decide +kernel
theorem dL_law_1328 : decode cL_law 1328 = .ok (.iload 5, 2) := by decide +kernel
theorem dL_law_1330 : decode cL_law 1330 = .ok (.if_icmp .eq 5, 3) := by decide +kernel
theorem dL_law_1333 : decode cL_law 1333 = .ok (.iconst 0, 1) := by decide +kernel
theorem dL_law_1334 : decode cL_law 1334 = .ok (.ireturn, 1) := by decide +kernel
theorem dL_law_1335 : decode cL_law 1335 = .ok (.iload 5, 2) := by decide +kernel
theorem dL_law_1337 : decode cL_law 1337 = .ok (.ifCond .ne 15, 3) := by decide +kernel
theorem dL_law_1340 : decode cL_law 1340 = .ok (.aload_n 3, 1) := by decide +kernel
theorem dL_law_1341 : decode cL_law 1341 = .ok (.iconst 0, 1) := by decide +kernel
theorem dL_law_1342 : decode cL_law 1342 = .ok (.laload, 1) := by decide +kernel
theorem dL_law_1343 : decode cL_law 1343 = .ok (.iload 6, 2) := by decide +kernel
theorem dL_law_1345 : decode cL_law 1345 = .ok (.i2l, 1) := by decide +kernel
theorem dL_law_1346 : decode cL_law 1346 = .ok (.lcmp, 1) := by decide +kernel
theorem dL_law_1347 : decode cL_law 1347 = .ok (.ifCond .eq 5, 3) := by decide +kernel
theorem dL_law_1350 : decode cL_law 1350 = .ok (.iconst 0, 1) := by decide +kernel
theorem dL_law_1351 : decode cL_law 1351 = .ok (.ireturn, 1) := by decide +kernel
theorem dL_law_1352 : decode cL_law 1352 = .ok (.goto 769, 3) := by decide +kernel
theorem dL_law_1355 : decode cL_law 1355 = .ok (.aload_n 1, 1) := by decide +kernel
theorem dL_law_1356 : decode cL_law 1356 = .ok (.aload_n 0, 1) := by decide +kernel
theorem dL_law_1357 : decode cL_law 1357 = .ok (.iload 4, 2) := by decide +kernel
theorem dL_law_1359 : decode cL_law 1359 = .ok (.iconst 1, 1) := by decide +kernel
theorem dL_law_1360 : decode cL_law 1360 = .ok (.iadd, 1) := by decide +kernel
theorem dL_law_1361 : decode cL_law 1361 = .ok (.iaload, 1) := by decide +kernel
theorem dL_law_1362 : decode cL_law 1362 = .ok (.aload_n 0, 1) := by decide +kernel
theorem dL_law_1363 : decode cL_law 1363 = .ok (.iload 4, 2) := by decide +kernel
theorem dL_law_1365 : decode cL_law 1365 = .ok (.iconst 2, 1) := by decide +kernel
theorem dL_law_1366 : decode cL_law 1366 = .ok (.iadd, 1) := by decide +kernel
theorem dL_law_1367 : decode cL_law 1367 = .ok (.iaload, 1) := by decide +kernel
theorem dL_law_1368 : decode cL_law 1368 = .ok (.aload_n 3, 1) := by decide +kernel
theorem dL_law_1369 : decode cL_law 1369 = .ok (.invokestatic 182, 3) := by decide +kernel
theorem dL_law_1372 : decode cL_law 1372 = .ok (.istore 5, 2) := by decide +kernel
theorem dL_law_1374 : decode cL_law 1374 = .ok (.aload_n 2, 1) := by decide +kernel
theorem dL_law_1375 : decode cL_law 1375 = .ok (.aload_n 0, 1) := by decide +kernel
theorem dL_law_1376 : decode cL_law 1376 = .ok (.iload 4, 2) := by decide +kernel
theorem dL_law_1378 : decode cL_law 1378 = .ok (.iconst 1, 1) := by decide +kernel
theorem dL_law_1379 : decode cL_law 1379 = .ok (.iadd, 1) := by decide +kernel
theorem dL_law_1380 : decode cL_law 1380 = .ok (.iaload, 1) := by decide +kernel
theorem dL_law_1381 : decode cL_law 1381 = .ok (.aload_n 0, 1) := by decide +kernel
theorem dL_law_1382 : decode cL_law 1382 = .ok (.iload 4, 2) := by decide +kernel
theorem dL_law_1384 : decode cL_law 1384 = .ok (.iconst 2, 1) := by decide +kernel
theorem dL_law_1385 : decode cL_law 1385 = .ok (.iadd, 1) := by decide +kernel
theorem dL_law_1386 : decode cL_law 1386 = .ok (.iaload, 1) := by decide +kernel
theorem dL_law_1387 : decode cL_law 1387 = .ok (.invokevirtual 184, 3) := by decide +kernel
theorem dL_law_1390 : decode cL_law 1390 = .ok (.istore 6, 2) := by decide +kernel
theorem dL_law_1392 : decode cL_law 1392 = .ok (.aload_n 2, 1) := by decide +kernel
theorem dL_law_1393 : decode cL_law 1393 = .ok (.invokevirtual 123, 3) := by decide +kernel
theorem dL_law_1396 : decode cL_law 1396 = .ok (.iload 5, 2) := by decide +kernel
theorem dL_law_1398 : decode cL_law 1398 = .ok (.if_icmp .eq 5, 3) := by decide +kernel
theorem dL_law_1401 : decode cL_law 1401 = .ok (.iconst 0, 1) := by decide +kernel
theorem dL_law_1402 : decode cL_law 1402 = .ok (.ireturn, 1) := by decide +kernel
theorem dL_law_1403 : decode cL_law 1403 = .ok (.iload 5, 2) := by decide +kernel
theorem dL_law_1405 : decode cL_law 1405 = .ok (.ifCond .ne 15, 3) := by decide +kernel
theorem dL_law_1408 : decode cL_law 1408 = .ok (.aload_n 3, 1) := by decide +kernel
theorem dL_law_1409 : decode cL_law 1409 = .ok (.iconst 0, 1) := by decide +kernel
theorem dL_law_1410 : decode cL_law 1410 = .ok (.laload, 1) := by decide +kernel
theorem dL_law_1411 : decode cL_law 1411 = .ok (.iload 6, 2) := by decide +kernel
theorem dL_law_1413 : decode cL_law 1413 = .ok (.i2l, 1) := by decide +kernel
theorem dL_law_1414 : decode cL_law 1414 = .ok (.lcmp, 1) := by decide +kernel
theorem dL_law_1415 : decode cL_law 1415 = .ok (.ifCond .eq 5, 3) := by decide +kernel
theorem dL_law_1418 : decode cL_law 1418 = .ok (.iconst 0, 1) := by decide +kernel
theorem dL_law_1419 : decode cL_law 1419 = .ok (.ireturn, 1) := by decide +kernel
theorem dL_law_1420 : decode cL_law 1420 = .ok (.goto 701, 3) := by decide +kernel
theorem dL_law_1423 : decode cL_law 1423 = .ok (.aload_n 1, 1) := by decide +kernel
theorem dL_law_1424 : decode cL_law 1424 = .ok (.aload_n 0, 1) := by decide +kernel
theorem dL_law_1425 : decode cL_law 1425 = .ok (.iload 4, 2) := by decide +kernel
theorem dL_law_1427 : decode cL_law 1427 = .ok (.iconst 1, 1) := by decide +kernel
theorem dL_law_1428 : decode cL_law 1428 = .ok (.iadd, 1) := by decide +kernel
theorem dL_law_1429 : decode cL_law 1429 = .ok (.iaload, 1) := by decide +kernel
theorem dL_law_1430 : decode cL_law 1430 = .ok (.invokestatic 185, 3) := by decide +kernel
theorem dL_law_1433 : decode cL_law 1433 = .ok (.istore 5, 2) := by decide +kernel
theorem dL_law_1435 : decode cL_law 1435 = .ok (.aload_n 2, 1) := by decide +kernel
theorem dL_law_1436 : decode cL_law 1436 = .ok (.aload_n 0, 1) := by decide +kernel
theorem dL_law_1437 : decode cL_law 1437 = .ok (.iload 4, 2) := by decide +kernel
theorem dL_law_1439 : decode cL_law 1439 = .ok (.iconst 1, 1) := by decide +kernel
theorem dL_law_1440 : decode cL_law 1440 = .ok (.iadd, 1) := by decide +kernel
theorem dL_law_1441 : decode cL_law 1441 = .ok (.iaload, 1) := by decide +kernel
theorem dL_law_1442 : decode cL_law 1442 = .ok (.invokevirtual 188, 3) := by decide +kernel
theorem dL_law_1445 : decode cL_law 1445 = .ok (.aload_n 2, 1) := by decide +kernel
theorem dL_law_1446 : decode cL_law 1446 = .ok (.invokevirtual 123, 3) := by decide +kernel
theorem dL_law_1449 : decode cL_law 1449 = .ok (.iload 5, 2) := by decide +kernel
theorem dL_law_1451 : decode cL_law 1451 = .ok (.if_icmp .eq 5, 3) := by decide +kernel
theorem dL_law_1454 : decode cL_law 1454 = .ok (.iconst 0, 1) := by decide +kernel
theorem dL_law_1455 : decode cL_law 1455 = .ok (.ireturn, 1) := by decide +kernel
theorem dL_law_1456 : decode cL_law 1456 = .ok (.goto 665, 3) := by decide +kernel
theorem dL_law_1459 : decode cL_law 1459 = .ok (.aload_n 1, 1) := by decide +kernel
theorem dL_law_1460 : decode cL_law 1460 = .ok (.aload_n 0, 1) := by decide +kernel
theorem dL_law_1461 : decode cL_law 1461 = .ok (.iload 4, 2) := by decide +kernel
theorem dL_law_1463 : decode cL_law 1463 = .ok (.iconst 1, 1) := by decide +kernel
theorem dL_law_1464 : decode cL_law 1464 = .ok (.iadd, 1) := by decide +kernel
theorem dL_law_1465 : decode cL_law 1465 = .ok (.iaload, 1) := by decide +kernel
theorem dL_law_1466 : decode cL_law 1466 = .ok (.aload_n 0, 1) := by decide +kernel
theorem dL_law_1467 : decode cL_law 1467 = .ok (.iload 4, 2) := by decide +kernel
theorem dL_law_1469 : decode cL_law 1469 = .ok (.iconst 2, 1) := by decide +kernel
theorem dL_law_1470 : decode cL_law 1470 = .ok (.iadd, 1) := by decide +kernel
theorem dL_law_1471 : decode cL_law 1471 = .ok (.iaload, 1) := by decide +kernel
theorem dL_law_1472 : decode cL_law 1472 = .ok (.aload_n 3, 1) := by decide +kernel
theorem dL_law_1473 : decode cL_law 1473 = .ok (.invokestatic 189, 3) := by decide +kernel
theorem dL_law_1476 : decode cL_law 1476 = .ok (.istore 5, 2) := by decide +kernel
theorem dL_law_1478 : decode cL_law 1478 = .ok (.aload_n 2, 1) := by decide +kernel
theorem dL_law_1479 : decode cL_law 1479 = .ok (.aload_n 0, 1) := by decide +kernel
theorem dL_law_1480 : decode cL_law 1480 = .ok (.iload 4, 2) := by decide +kernel
theorem dL_law_1482 : decode cL_law 1482 = .ok (.iconst 1, 1) := by decide +kernel
theorem dL_law_1483 : decode cL_law 1483 = .ok (.iadd, 1) := by decide +kernel
theorem dL_law_1484 : decode cL_law 1484 = .ok (.iaload, 1) := by decide +kernel
theorem dL_law_1485 : decode cL_law 1485 = .ok (.aload_n 0, 1) := by decide +kernel
theorem dL_law_1486 : decode cL_law 1486 = .ok (.iload 4, 2) := by decide +kernel
theorem dL_law_1488 : decode cL_law 1488 = .ok (.iconst 2, 1) := by decide +kernel
theorem dL_law_1489 : decode cL_law 1489 = .ok (.iadd, 1) := by decide +kernel
theorem dL_law_1490 : decode cL_law 1490 = .ok (.iaload, 1) := by decide +kernel
theorem dL_law_1491 : decode cL_law 1491 = .ok (.invokevirtual 191, 3) := by decide +kernel
theorem dL_law_1494 : decode cL_law 1494 = .ok (.istore 6, 2) := by decide +kernel
theorem dL_law_1496 : decode cL_law 1496 = .ok (.aload_n 2, 1) := by decide +kernel
theorem dL_law_1497 : decode cL_law 1497 = .ok (.invokevirtual 123, 3) := by decide +kernel
theorem dL_law_1500 : decode cL_law 1500 = .ok (.iload 5, 2) := by decide +kernel
theorem dL_law_1502 : decode cL_law 1502 = .ok (.if_icmp .eq 5, 3) := by decide +kernel
theorem dL_law_1505 : decode cL_law 1505 = .ok (.iconst 0, 1) := by decide +kernel
theorem dL_law_1506 : decode cL_law 1506 = .ok (.ireturn, 1) := by decide +kernel
theorem dL_law_1507 : decode cL_law 1507 = .ok (.iload 5, 2) := by decide +kernel
theorem dL_law_1509 : decode cL_law 1509 = .ok (.ifCond .ne 15, 3) := by decide +kernel
theorem dL_law_1512 : decode cL_law 1512 = .ok (.aload_n 3, 1) := by decide +kernel
theorem dL_law_1513 : decode cL_law 1513 = .ok (.iconst 0, 1) := by decide +kernel
theorem dL_law_1514 : decode cL_law 1514 = .ok (.laload, 1) := by decide +kernel
theorem dL_law_1515 : decode cL_law 1515 = .ok (.iload 6, 2) := by decide +kernel
theorem dL_law_1517 : decode cL_law 1517 = .ok (.i2l, 1) := by decide +kernel
theorem dL_law_1518 : decode cL_law 1518 = .ok (.lcmp, 1) := by decide +kernel
theorem dL_law_1519 : decode cL_law 1519 = .ok (.ifCond .eq 5, 3) := by decide +kernel
theorem dL_law_1522 : decode cL_law 1522 = .ok (.iconst 0, 1) := by decide +kernel
theorem dL_law_1523 : decode cL_law 1523 = .ok (.ireturn, 1) := by decide +kernel
theorem dL_law_1524 : decode cL_law 1524 = .ok (.goto 597, 3) := by decide +kernel
theorem dL_law_1527 : decode cL_law 1527 = .ok (.aload_n 1, 1) := by decide +kernel
theorem dL_law_1528 : decode cL_law 1528 = .ok (.aload_n 0, 1) := by decide +kernel
theorem dL_law_1529 : decode cL_law 1529 = .ok (.iload 4, 2) := by decide +kernel
theorem dL_law_1531 : decode cL_law 1531 = .ok (.iconst 1, 1) := by decide +kernel
theorem dL_law_1532 : decode cL_law 1532 = .ok (.iadd, 1) := by decide +kernel
theorem dL_law_1533 : decode cL_law 1533 = .ok (.iaload, 1) := by decide +kernel
theorem dL_law_1534 : decode cL_law 1534 = .ok (.aload_n 3, 1) := by decide +kernel
theorem dL_law_1535 : decode cL_law 1535 = .ok (.invokestatic 192, 3) := by decide +kernel
theorem dL_law_1538 : decode cL_law 1538 = .ok (.istore 5, 2) := by decide +kernel
theorem dL_law_1540 : decode cL_law 1540 = .ok (.aload_n 2, 1) := by decide +kernel
theorem dL_law_1541 : decode cL_law 1541 = .ok (.aload_n 0, 1) := by decide +kernel
theorem dL_law_1542 : decode cL_law 1542 = .ok (.iload 4, 2) := by decide +kernel
theorem dL_law_1544 : decode cL_law 1544 = .ok (.iconst 1, 1) := by decide +kernel
theorem dL_law_1545 : decode cL_law 1545 = .ok (.iadd, 1) := by decide +kernel
theorem dL_law_1546 : decode cL_law 1546 = .ok (.iaload, 1) := by decide +kernel
theorem dL_law_1547 : decode cL_law 1547 = .ok (.invokevirtual 194, 3) := by decide +kernel
theorem dL_law_1550 : decode cL_law 1550 = .ok (.istore 6, 2) := by decide +kernel
theorem dL_law_1552 : decode cL_law 1552 = .ok (.aload_n 2, 1) := by decide +kernel
theorem dL_law_1553 : decode cL_law 1553 = .ok (.invokevirtual 123, 3) := by decide +kernel
theorem dL_law_1556 : decode cL_law 1556 = .ok (.iload 5, 2) := by decide +kernel
theorem dL_law_1558 : decode cL_law 1558 = .ok (.if_icmp .eq 5, 3) := by decide +kernel
theorem dL_law_1561 : decode cL_law 1561 = .ok (.iconst 0, 1) := by decide +kernel
theorem dL_law_1562 : decode cL_law 1562 = .ok (.ireturn, 1) := by decide +kernel
theorem dL_law_1563 : decode cL_law 1563 = .ok (.iload 5, 2) := by decide +kernel
theorem dL_law_1565 : decode cL_law 1565 = .ok (.ifCond .ne 15, 3) := by decide +kernel
theorem dL_law_1568 : decode cL_law 1568 = .ok (.aload_n 3, 1) := by decide +kernel
theorem dL_law_1569 : decode cL_law 1569 = .ok (.iconst 0, 1) := by decide +kernel
theorem dL_law_1570 : decode cL_law 1570 = .ok (.laload, 1) := by decide +kernel
theorem dL_law_1571 : decode cL_law 1571 = .ok (.iload 6, 2) := by decide +kernel
theorem dL_law_1573 : decode cL_law 1573 = .ok (.i2l, 1) := by decide +kernel
theorem dL_law_1574 : decode cL_law 1574 = .ok (.lcmp, 1) := by decide +kernel
theorem dL_law_1575 : decode cL_law 1575 = .ok (.ifCond .eq 5, 3) := by decide +kernel
theorem dL_law_1578 : decode cL_law 1578 = .ok (.iconst 0, 1) := by decide +kernel
theorem dL_law_1579 : decode cL_law 1579 = .ok (.ireturn, 1) := by decide +kernel
theorem dL_law_1580 : decode cL_law 1580 = .ok (.goto 541, 3) := by decide +kernel
theorem dL_law_1583 : decode cL_law 1583 = .ok (.aload_n 1, 1) := by decide +kernel
theorem dL_law_1584 : decode cL_law 1584 = .ok (.aload_n 0, 1) := by decide +kernel
theorem dL_law_1585 : decode cL_law 1585 = .ok (.iload 4, 2) := by decide +kernel
theorem dL_law_1587 : decode cL_law 1587 = .ok (.iconst 1, 1) := by decide +kernel
theorem dL_law_1588 : decode cL_law 1588 = .ok (.iadd, 1) := by decide +kernel
theorem dL_law_1589 : decode cL_law 1589 = .ok (.iaload, 1) := by decide +kernel
theorem dL_law_1590 : decode cL_law 1590 = .ok (.aload_n 0, 1) := by decide +kernel
theorem dL_law_1591 : decode cL_law 1591 = .ok (.iload 4, 2) := by decide +kernel
theorem dL_law_1593 : decode cL_law 1593 = .ok (.iconst 2, 1) := by decide +kernel
theorem dL_law_1594 : decode cL_law 1594 = .ok (.iadd, 1) := by decide +kernel
theorem dL_law_1595 : decode cL_law 1595 = .ok (.iaload, 1) := by decide +kernel
theorem dL_law_1596 : decode cL_law 1596 = .ok (.aload_n 3, 1) := by decide +kernel
theorem dL_law_1597 : decode cL_law 1597 = .ok (.invokestatic 195, 3) := by decide +kernel
theorem dL_law_1600 : decode cL_law 1600 = .ok (.istore 5, 2) := by decide +kernel
theorem dL_law_1602 : decode cL_law 1602 = .ok (.aload_n 2, 1) := by decide +kernel
theorem dL_law_1603 : decode cL_law 1603 = .ok (.aload_n 0, 1) := by decide +kernel
theorem dL_law_1604 : decode cL_law 1604 = .ok (.iload 4, 2) := by decide +kernel
theorem dL_law_1606 : decode cL_law 1606 = .ok (.iconst 1, 1) := by decide +kernel
theorem dL_law_1607 : decode cL_law 1607 = .ok (.iadd, 1) := by decide +kernel
theorem dL_law_1608 : decode cL_law 1608 = .ok (.iaload, 1) := by decide +kernel
theorem dL_law_1609 : decode cL_law 1609 = .ok (.aload_n 0, 1) := by decide +kernel
theorem dL_law_1610 : decode cL_law 1610 = .ok (.iload 4, 2) := by decide +kernel
theorem dL_law_1612 : decode cL_law 1612 = .ok (.iconst 2, 1) := by decide +kernel
theorem dL_law_1613 : decode cL_law 1613 = .ok (.iadd, 1) := by decide +kernel
end
section
theorem dL_law_1614 : decode cL_law 1614 = .ok (.iaload, 1) := by decide +kernel
theorem dL_law_1615 : decode cL_law 1615 = .ok (.invokevirtual 197, 3) := by decide +kernel
theorem dL_law_1618 : decode cL_law 1618 = .ok (.istore 6, 2) := by decide +kernel
theorem dL_law_1620 : decode cL_law 1620 = .ok (.aload_n 2, 1) := by decide +kernel
theorem dL_law_1621 : decode cL_law 1621 = .ok (.invokevirtual 123, 3) := by decide +kernel
theorem dL_law_1624 : decode cL_law 1624 = .ok (.iload 5, 2) := by decide +kernel
theorem dL_law_1626 : decode cL_law 1626 = .ok (.if_icmp .eq 5, 3) := by decide +kernel
theorem dL_law_1629 : decode cL_law 1629 = .ok (.iconst 0, 1) := by decide +kernel
theorem dL_law_1630 : decode cL_law 1630 = .ok (.ireturn, 1) := by decide +kernel
theorem dL_law_1631 : decode cL_law 1631 = .ok (.iload 5, 2) := by decide +kernel
theorem dL_law_1633 : decode cL_law 1633 = .ok (.ifCond .ne 15, 3) := by decide +kernel
theorem dL_law_1636 : decode cL_law 1636 = .ok (.aload_n 3, 1) := by decide +kernel
theorem dL_law_1637 : decode cL_law 1637 = .ok (.iconst 0, 1) := by decide +kernel
theorem dL_law_1638 : decode cL_law 1638 = .ok (.laload, 1) := by decide +kernel
theorem dL_law_1639 : decode cL_law 1639 = .ok (.iload 6, 2) := by decide +kernel
theorem dL_law_1641 : decode cL_law 1641 = .ok (.i2l, 1) := by decide +kernel
theorem dL_law_1642 : decode cL_law 1642 = .ok (.lcmp, 1) := by decide +kernel
theorem dL_law_1643 : decode cL_law 1643 = .ok (.ifCond .eq 5, 3) := by decide +kernel
theorem dL_law_1646 : decode cL_law 1646 = .ok (.iconst 0, 1) := by decide +kernel
theorem dL_law_1647 : decode cL_law 1647 = .ok (.ireturn, 1) := by decide +kernel
theorem dL_law_1648 : decode cL_law 1648 = .ok (.goto 473, 3) := by decide +kernel
theorem dL_law_1651 : decode cL_law 1651 = .ok (.aload_n 1, 1) := by decide +kernel
theorem dL_law_1652 : decode cL_law 1652 = .ok (.aload_n 0, 1) := by decide +kernel
theorem dL_law_1653 : decode cL_law 1653 = .ok (.iload 4, 2) := by decide +kernel
theorem dL_law_1655 : decode cL_law 1655 = .ok (.iconst 1, 1) := by decide +kernel
theorem dL_law_1656 : decode cL_law 1656 = .ok (.iadd, 1) := by decide +kernel
theorem dL_law_1657 : decode cL_law 1657 = .ok (.iaload, 1) := by decide +kernel
theorem dL_law_1658 : decode cL_law 1658 = .ok (.aload_n 3, 1) := by decide +kernel
theorem dL_law_1659 : decode cL_law 1659 = .ok (.invokestatic 198, 3) := by decide +kernel
theorem dL_law_1662 : decode cL_law 1662 = .ok (.istore 5, 2) := by decide +kernel
theorem dL_law_1664 : decode cL_law 1664 = .ok (.aload_n 2, 1) := by decide +kernel
theorem dL_law_1665 : decode cL_law 1665 = .ok (.aload_n 0, 1) := by decide +kernel
theorem dL_law_1666 : decode cL_law 1666 = .ok (.iload 4, 2) := by decide +kernel
theorem dL_law_1668 : decode cL_law 1668 = .ok (.iconst 1, 1) := by decide +kernel
theorem dL_law_1669 : decode cL_law 1669 = .ok (.iadd, 1) := by decide +kernel
theorem dL_law_1670 : decode cL_law 1670 = .ok (.iaload, 1) := by decide +kernel
theorem dL_law_1671 : decode cL_law 1671 = .ok (.invokevirtual 200, 3) := by decide +kernel
theorem dL_law_1674 : decode cL_law 1674 = .ok (.istore 6, 2) := by decide +kernel
theorem dL_law_1676 : decode cL_law 1676 = .ok (.aload_n 2, 1) := by decide +kernel
theorem dL_law_1677 : decode cL_law 1677 = .ok (.invokevirtual 123, 3) := by decide +kernel
theorem dL_law_1680 : decode cL_law 1680 = .ok (.iload 5, 2) := by decide +kernel
theorem dL_law_1682 : decode cL_law 1682 = .ok (.if_icmp .eq 5, 3) := by decide +kernel
theorem dL_law_1685 : decode cL_law 1685 = .ok (.iconst 0, 1) := by decide +kernel
theorem dL_law_1686 : decode cL_law 1686 = .ok (.ireturn, 1) := by decide +kernel
theorem dL_law_1687 : decode cL_law 1687 = .ok (.iload 5, 2) := by decide +kernel
theorem dL_law_1689 : decode cL_law 1689 = .ok (.ifCond .ne 15, 3) := by decide +kernel
theorem dL_law_1692 : decode cL_law 1692 = .ok (.aload_n 3, 1) := by decide +kernel
theorem dL_law_1693 : decode cL_law 1693 = .ok (.iconst 0, 1) := by decide +kernel
theorem dL_law_1694 : decode cL_law 1694 = .ok (.laload, 1) := by decide +kernel
theorem dL_law_1695 : decode cL_law 1695 = .ok (.iload 6, 2) := by decide +kernel
theorem dL_law_1697 : decode cL_law 1697 = .ok (.i2l, 1) := by decide +kernel
theorem dL_law_1698 : decode cL_law 1698 = .ok (.lcmp, 1) := by decide +kernel
theorem dL_law_1699 : decode cL_law 1699 = .ok (.ifCond .eq 5, 3) := by decide +kernel
theorem dL_law_1702 : decode cL_law 1702 = .ok (.iconst 0, 1) := by decide +kernel
theorem dL_law_1703 : decode cL_law 1703 = .ok (.ireturn, 1) := by decide +kernel
theorem dL_law_1704 : decode cL_law 1704 = .ok (.goto 417, 3) := by decide +kernel
theorem dL_law_1707 : decode cL_law 1707 = .ok (.aload_n 1, 1) := by decide +kernel
theorem dL_law_1708 : decode cL_law 1708 = .ok (.aload_n 0, 1) := by decide +kernel
theorem dL_law_1709 : decode cL_law 1709 = .ok (.iload 4, 2) := by decide +kernel
theorem dL_law_1711 : decode cL_law 1711 = .ok (.iconst 1, 1) := by decide +kernel
theorem dL_law_1712 : decode cL_law 1712 = .ok (.iadd, 1) := by decide +kernel
theorem dL_law_1713 : decode cL_law 1713 = .ok (.iaload, 1) := by decide +kernel
theorem dL_law_1714 : decode cL_law 1714 = .ok (.aload_n 3, 1) := by decide +kernel
theorem dL_law_1715 : decode cL_law 1715 = .ok (.invokestatic 201, 3) := by decide +kernel
theorem dL_law_1718 : decode cL_law 1718 = .ok (.istore 5, 2) := by decide +kernel
theorem dL_law_1720 : decode cL_law 1720 = .ok (.aload_n 2, 1) := by decide +kernel
theorem dL_law_1721 : decode cL_law 1721 = .ok (.aload_n 0, 1) := by decide +kernel
theorem dL_law_1722 : decode cL_law 1722 = .ok (.iload 4, 2) := by decide +kernel
theorem dL_law_1724 : decode cL_law 1724 = .ok (.iconst 1, 1) := by decide +kernel
theorem dL_law_1725 : decode cL_law 1725 = .ok (.iadd, 1) := by decide +kernel
theorem dL_law_1726 : decode cL_law 1726 = .ok (.iaload, 1) := by decide +kernel
theorem dL_law_1727 : decode cL_law 1727 = .ok (.invokevirtual 203, 3) := by decide +kernel
theorem dL_law_1730 : decode cL_law 1730 = .ok (.istore 6, 2) := by decide +kernel
theorem dL_law_1732 : decode cL_law 1732 = .ok (.aload_n 2, 1) := by decide +kernel
theorem dL_law_1733 : decode cL_law 1733 = .ok (.invokevirtual 123, 3) := by decide +kernel
theorem dL_law_1736 : decode cL_law 1736 = .ok (.iload 5, 2) := by decide +kernel
theorem dL_law_1738 : decode cL_law 1738 = .ok (.if_icmp .eq 5, 3) := by decide +kernel
theorem dL_law_1741 : decode cL_law 1741 = .ok (.iconst 0, 1) := by decide +kernel
theorem dL_law_1742 : decode cL_law 1742 = .ok (.ireturn, 1) := by decide +kernel
theorem dL_law_1743 : decode cL_law 1743 = .ok (.iload 5, 2) := by decide +kernel
theorem dL_law_1745 : decode cL_law 1745 = .ok (.ifCond .ne 15, 3) := by decide +kernel
theorem dL_law_1748 : decode cL_law 1748 = .ok (.aload_n 3, 1) := by decide +kernel
theorem dL_law_1749 : decode cL_law 1749 = .ok (.iconst 0, 1) := by decide +kernel
theorem dL_law_1750 : decode cL_law 1750 = .ok (.laload, 1) := by decide +kernel
theorem dL_law_1751 : decode cL_law 1751 = .ok (.iload 6, 2) := by decide +kernel
theorem dL_law_1753 : decode cL_law 1753 = .ok (.i2l, 1) := by decide +kernel
theorem dL_law_1754 : decode cL_law 1754 = .ok (.lcmp, 1) := by decide +kernel
theorem dL_law_1755 : decode cL_law 1755 = .ok (.ifCond .eq 5, 3) := by decide +kernel
theorem dL_law_1758 : decode cL_law 1758 = .ok (.iconst 0, 1) := by decide +kernel
theorem dL_law_1759 : decode cL_law 1759 = .ok (.ireturn, 1) := by decide +kernel
theorem dL_law_1760 : decode cL_law 1760 = .ok (.goto 361, 3) := by decide +kernel
theorem dL_law_1763 : decode cL_law 1763 = .ok (.aload_n 1, 1) := by decide +kernel
theorem dL_law_1764 : decode cL_law 1764 = .ok (.aload_n 0, 1) := by decide +kernel
theorem dL_law_1765 : decode cL_law 1765 = .ok (.iload 4, 2) := by decide +kernel
theorem dL_law_1767 : decode cL_law 1767 = .ok (.iconst 1, 1) := by decide +kernel
theorem dL_law_1768 : decode cL_law 1768 = .ok (.iadd, 1) := by decide +kernel
theorem dL_law_1769 : decode cL_law 1769 = .ok (.iaload, 1) := by decide +kernel
theorem dL_law_1770 : decode cL_law 1770 = .ok (.aload_n 0, 1) := by decide +kernel
theorem dL_law_1771 : decode cL_law 1771 = .ok (.iload 4, 2) := by decide +kernel
theorem dL_law_1773 : decode cL_law 1773 = .ok (.iconst 2, 1) := by decide +kernel
theorem dL_law_1774 : decode cL_law 1774 = .ok (.iadd, 1) := by decide +kernel
theorem dL_law_1775 : decode cL_law 1775 = .ok (.iaload, 1) := by decide +kernel
theorem dL_law_1776 : decode cL_law 1776 = .ok (.aload_n 3, 1) := by decide +kernel
theorem dL_law_1777 : decode cL_law 1777 = .ok (.invokestatic 204, 3) := by decide +kernel
theorem dL_law_1780 : decode cL_law 1780 = .ok (.istore 5, 2) := by decide +kernel
theorem dL_law_1782 : decode cL_law 1782 = .ok (.aload_n 2, 1) := by decide +kernel
theorem dL_law_1783 : decode cL_law 1783 = .ok (.aload_n 0, 1) := by decide +kernel
theorem dL_law_1784 : decode cL_law 1784 = .ok (.iload 4, 2) := by decide +kernel
theorem dL_law_1786 : decode cL_law 1786 = .ok (.iconst 1, 1) := by decide +kernel
theorem dL_law_1787 : decode cL_law 1787 = .ok (.iadd, 1) := by decide +kernel
theorem dL_law_1788 : decode cL_law 1788 = .ok (.iaload, 1) := by decide +kernel
theorem dL_law_1789 : decode cL_law 1789 = .ok (.aload_n 0, 1) := by decide +kernel
theorem dL_law_1790 : decode cL_law 1790 = .ok (.iload 4, 2) := by decide +kernel
theorem dL_law_1792 : decode cL_law 1792 = .ok (.iconst 2, 1) := by decide +kernel
theorem dL_law_1793 : decode cL_law 1793 = .ok (.iadd, 1) := by decide +kernel
theorem dL_law_1794 : decode cL_law 1794 = .ok (.iaload, 1) := by decide +kernel
theorem dL_law_1795 : decode cL_law 1795 = .ok (.invokevirtual 206, 3) := by decide +kernel
theorem dL_law_1798 : decode cL_law 1798 = .ok (.istore 6, 2) := by decide +kernel
theorem dL_law_1800 : decode cL_law 1800 = .ok (.aload_n 2, 1) := by decide +kernel
theorem dL_law_1801 : decode cL_law 1801 = .ok (.invokevirtual 123, 3) := by decide +kernel
theorem dL_law_1804 : decode cL_law 1804 = .ok (.iload 5, 2) := by decide +kernel
theorem dL_law_1806 : decode cL_law 1806 = .ok (.if_icmp .eq 5, 3) := by decide +kernel
theorem dL_law_1809 : decode cL_law 1809 = .ok (.iconst 0, 1) := by decide +kernel
theorem dL_law_1810 : decode cL_law 1810 = .ok (.ireturn, 1) := by decide +kernel
theorem dL_law_1811 : decode cL_law 1811 = .ok (.iload 5, 2) := by decide +kernel
theorem dL_law_1813 : decode cL_law 1813 = .ok (.ifCond .ne 15, 3) := by decide +kernel
theorem dL_law_1816 : decode cL_law 1816 = .ok (.aload_n 3, 1) := by decide +kernel
theorem dL_law_1817 : decode cL_law 1817 = .ok (.iconst 0, 1) := by decide +kernel
theorem dL_law_1818 : decode cL_law 1818 = .ok (.laload, 1) := by decide +kernel
theorem dL_law_1819 : decode cL_law 1819 = .ok (.iload 6, 2) := by decide +kernel
theorem dL_law_1821 : decode cL_law 1821 = .ok (.i2l, 1) := by decide +kernel
theorem dL_law_1822 : decode cL_law 1822 = .ok (.lcmp, 1) := by decide +kernel
theorem dL_law_1823 : decode cL_law 1823 = .ok (.ifCond .eq 5, 3) := by decide +kernel
theorem dL_law_1826 : decode cL_law 1826 = .ok (.iconst 0, 1) := by decide +kernel
theorem dL_law_1827 : decode cL_law 1827 = .ok (.ireturn, 1) := by decide +kernel
theorem dL_law_1828 : decode cL_law 1828 = .ok (.goto 293, 3) := by decide +kernel
theorem dL_law_1831 : decode cL_law 1831 = .ok (.aload_n 1, 1) := by decide +kernel
theorem dL_law_1832 : decode cL_law 1832 = .ok (.aload_n 0, 1) := by decide +kernel
theorem dL_law_1833 : decode cL_law 1833 = .ok (.iload 4, 2) := by decide +kernel
theorem dL_law_1835 : decode cL_law 1835 = .ok (.iconst 1, 1) := by decide +kernel
theorem dL_law_1836 : decode cL_law 1836 = .ok (.iadd, 1) := by decide +kernel
theorem dL_law_1837 : decode cL_law 1837 = .ok (.iaload, 1) := by decide +kernel
theorem dL_law_1838 : decode cL_law 1838 = .ok (.aload_n 0, 1) := by decide +kernel
theorem dL_law_1839 : decode cL_law 1839 = .ok (.iload 4, 2) := by decide +kernel
theorem dL_law_1841 : decode cL_law 1841 = .ok (.iconst 2, 1) := by decide +kernel
theorem dL_law_1842 : decode cL_law 1842 = .ok (.iadd, 1) := by decide +kernel
theorem dL_law_1843 : decode cL_law 1843 = .ok (.iaload, 1) := by decide +kernel
theorem dL_law_1844 : decode cL_law 1844 = .ok (.aload_n 3, 1) := by decide +kernel
theorem dL_law_1845 : decode cL_law 1845 = .ok (.invokestatic 207, 3) := by decide +kernel
theorem dL_law_1848 : decode cL_law 1848 = .ok (.istore 5, 2) := by decide +kernel
theorem dL_law_1850 : decode cL_law 1850 = .ok (.aload_n 2, 1) := by decide +kernel
theorem dL_law_1851 : decode cL_law 1851 = .ok (.aload_n 0, 1) := by decide +kernel
theorem dL_law_1852 : decode cL_law 1852 = .ok (.iload 4, 2) := by decide +kernel
theorem dL_law_1854 : decode cL_law 1854 = .ok (.iconst 1, 1) := by decide +kernel
theorem dL_law_1855 : decode cL_law 1855 = .ok (.iadd, 1) := by decide +kernel
theorem dL_law_1856 : decode cL_law 1856 = .ok (.iaload, 1) := by decide +kernel
theorem dL_law_1857 : decode cL_law 1857 = .ok (.aload_n 0, 1) := by decide +kernel
theorem dL_law_1858 : decode cL_law 1858 = .ok (.iload 4, 2) := by decide +kernel
theorem dL_law_1860 : decode cL_law 1860 = .ok (.iconst 2, 1) := by decide +kernel
theorem dL_law_1861 : decode cL_law 1861 = .ok (.iadd, 1) := by decide +kernel
theorem dL_law_1862 : decode cL_law 1862 = .ok (.iaload, 1) := by decide +kernel
theorem dL_law_1863 : decode cL_law 1863 = .ok (.invokevirtual 209, 3) := by decide +kernel
theorem dL_law_1866 : decode cL_law 1866 = .ok (.istore 6, 2) := by decide +kernel
theorem dL_law_1868 : decode cL_law 1868 = .ok (.aload_n 2, 1) := by decide +kernel
theorem dL_law_1869 : decode cL_law 1869 = .ok (.invokevirtual 123, 3) := by decide +kernel
theorem dL_law_1872 : decode cL_law 1872 = .ok (.iload 5, 2) := by decide +kernel
theorem dL_law_1874 : decode cL_law 1874 = .ok (.if_icmp .eq 5, 3) := by decide +kernel
theorem dL_law_1877 : decode cL_law 1877 = .ok (.iconst 0, 1) := by decide +kernel
theorem dL_law_1878 : decode cL_law 1878 = .ok (.ireturn, 1) := by decide +kernel
theorem dL_law_1879 : decode cL_law 1879 = .ok (.iload 5, 2) := by decide +kernel
theorem dL_law_1881 : decode cL_law 1881 = .ok (.ifCond .ne 15, 3) := by decide +kernel
theorem dL_law_1884 : decode cL_law 1884 = .ok (.aload_n 3, 1) := by decide +kernel
theorem dL_law_1885 : decode cL_law 1885 = .ok (.iconst 0, 1) := by decide +kernel
theorem dL_law_1886 : decode cL_law 1886 = .ok (.laload, 1) := by decide +kernel
theorem dL_law_1887 : decode cL_law 1887 = .ok (.iload 6, 2) := by decide +kernel
theorem dL_law_1889 : decode cL_law 1889 = .ok (.i2l, 1) := by decide +kernel
theorem dL_law_1890 : decode cL_law 1890 = .ok (.lcmp, 1) := by decide +kernel
theorem dL_law_1891 : decode cL_law 1891 = .ok (.ifCond .eq 5, 3) := by decide +kernel
theorem dL_law_1894 : decode cL_law 1894 = .ok (.iconst 0, 1) := by decide +kernel
theorem dL_law_1895 : decode cL_law 1895 = .ok (.ireturn, 1) := by decide +kernel
theorem dL_law_1896 : decode cL_law 1896 = .ok (.goto 225, 3) := by decide +kernel
theorem dL_law_1899 : decode cL_law 1899 = .ok (.aload_n 1, 1) := by decide +kernel
theorem dL_law_1900 : decode cL_law 1900 = .ok (.aload_n 0, 1) := by decide +kernel
theorem dL_law_1901 : decode cL_law 1901 = .ok (.iload 4, 2) := by decide +kernel
theorem dL_law_1903 : decode cL_law 1903 = .ok (.iconst 1, 1) := by decide +kernel
theorem dL_law_1904 : decode cL_law 1904 = .ok (.iadd, 1) := by decide +kernel
theorem dL_law_1905 : decode cL_law 1905 = .ok (.iaload, 1) := by decide +kernel
theorem dL_law_1906 : decode cL_law 1906 = .ok (.aload_n 3, 1) := by decide +kernel
theorem dL_law_1907 : decode cL_law 1907 = .ok (.invokestatic 210, 3) := by decide +kernel
theorem dL_law_1910 : decode cL_law 1910 = .ok (.istore 5, 2) := by decide +kernel
theorem dL_law_1912 : decode cL_law 1912 = .ok (.aload_n 2, 1) := by decide +kernel
theorem dL_law_1913 : decode cL_law 1913 = .ok (.aload_n 0, 1) := by decide +kernel
theorem dL_law_1914 : decode cL_law 1914 = .ok (.iload 4, 2) := by decide +kernel
theorem dL_law_1916 : decode cL_law 1916 = .ok (.iconst 1, 1) := by decide +kernel
theorem dL_law_1917 : decode cL_law 1917 = .ok (.iadd, 1) := by decide +kernel
theorem dL_law_1918 : decode cL_law 1918 = .ok (.iaload, 1) := by decide +kernel
theorem dL_law_1919 : decode cL_law 1919 = .ok (.invokevirtual 212, 3) := by decide +kernel
theorem dL_law_1922 : decode cL_law 1922 = .ok (.istore 6, 2) := by decide +kernel
theorem dL_law_1924 : decode cL_law 1924 = .ok (.aload_n 2, 1) := by decide +kernel
theorem dL_law_1925 : decode cL_law 1925 = .ok (.invokevirtual 123, 3) := by decide +kernel
theorem dL_law_1928 : decode cL_law 1928 = .ok (.iload 5, 2) := by decide +kernel
theorem dL_law_1930 : decode cL_law 1930 = .ok (.if_icmp .eq 5, 3) := by decide +kernel
theorem dL_law_1933 : decode cL_law 1933 = .ok (.iconst 0, 1) := by decide +kernel
theorem dL_law_1934 : decode cL_law 1934 = .ok (.ireturn, 1) := by decide +kernel
theorem dL_law_1935 : decode cL_law 1935 = .ok (.iload 5, 2) := by decide +kernel
theorem dL_law_1937 : decode cL_law 1937 = .ok (.ifCond .ne 22, 3) := by decide +kernel
theorem dL_law_1940 : decode cL_law 1940 = .ok (.aload_n 3, 1) := by decide +kernel
theorem dL_law_1941 : decode cL_law 1941 = .ok (.iconst 0, 1) := by decide +kernel
theorem dL_law_1942 : decode cL_law 1942 = .ok (.laload, 1) := by decide +kernel
theorem dL_law_1943 : decode cL_law 1943 = .ok (.iload 6, 2) := by decide +kernel
theorem dL_law_1945 : decode cL_law 1945 = .ok (.ifCond .eq 7, 3) := by decide +kernel
theorem dL_law_1948 : decode cL_law 1948 = .ok (.lconst 1, 1) := by decide +kernel
theorem dL_law_1949 : decode cL_law 1949 = .ok (.goto 4, 3) := by decide +kernel
theorem dL_law_1952 : decode cL_law 1952 = .ok (.lconst 0, 1) := by decide +kernel
theorem dL_law_1953 : decode cL_law 1953 = .ok (.lcmp, 1) := by decide +kernel
theorem dL_law_1954 : decode cL_law 1954 = .ok (.ifCond .eq 5, 3) := by decide +kernel
theorem dL_law_1957 : decode cL_law 1957 = .ok (.iconst 0, 1) := by decide +kernel
theorem dL_law_1958 : decode cL_law 1958 = .ok (.ireturn, 1) := by decide +kernel
theorem dL_law_1959 : decode cL_law 1959 = .ok (.goto 162, 3) := by decide +kernel
theorem dL_law_1962 : decode cL_law 1962 = .ok (.aload_n 1, 1) := by decide +kernel
theorem dL_law_1963 : decode cL_law 1963 = .ok (.aload_n 0, 1) := by decide +kernel
theorem dL_law_1964 : decode cL_law 1964 = .ok (.iload 4, 2) := by decide +kernel
theorem dL_law_1966 : decode cL_law 1966 = .ok (.iconst 1, 1) := by decide +kernel
theorem dL_law_1967 : decode cL_law 1967 = .ok (.iadd, 1) := by decide +kernel
theorem dL_law_1968 : decode cL_law 1968 = .ok (.iaload, 1) := by decide +kernel
theorem dL_law_1969 : decode cL_law 1969 = .ok (.aload_n 0, 1) := by decide +kernel
theorem dL_law_1970 : decode cL_law 1970 = .ok (.iload 4, 2) := by decide +kernel
theorem dL_law_1972 : decode cL_law 1972 = .ok (.iconst 2, 1) := by decide +kernel
theorem dL_law_1973 : decode cL_law 1973 = .ok (.iadd, 1) := by decide +kernel
theorem dL_law_1974 : decode cL_law 1974 = .ok (.iaload, 1) := by decide +kernel
theorem dL_law_1975 : decode cL_law 1975 = .ok (.ifCond .eq 7, 3) := by decide +kernel
theorem dL_law_1978 : decode cL_law 1978 = .ok (.iconst 1, 1) := by decide +kernel
theorem dL_law_1979 : decode cL_law 1979 = .ok (.goto 4, 3) := by decide +kernel
theorem dL_law_1982 : decode cL_law 1982 = .ok (.iconst 0, 1) := by decide +kernel
theorem dL_law_1983 : decode cL_law 1983 = .ok (.aload_n 3, 1) := by decide +kernel
theorem dL_law_1984 : decode cL_law 1984 = .ok (.invokestatic 213, 3) := by decide +kernel
theorem dL_law_1987 : decode cL_law 1987 = .ok (.istore 5, 2) := by decide +kernel
theorem dL_law_1989 : decode cL_law 1989 = .ok (.aload_n 2, 1) := by decide +kernel
theorem dL_law_1990 : decode cL_law 1990 = .ok (.aload_n 0, 1) := by decide +kernel
theorem dL_law_1991 : decode cL_law 1991 = .ok (.iload 4, 2) := by decide +kernel
theorem dL_law_1993 : decode cL_law 1993 = .ok (.iconst 1, 1) := by decide +kernel
theorem dL_law_1994 : decode cL_law 1994 = .ok (.iadd, 1) := by decide +kernel
theorem dL_law_1995 : decode cL_law 1995 = .ok (.iaload, 1) := by decide +kernel
theorem dL_law_1996 : decode cL_law 1996 = .ok (.aload_n 0, 1) := by decide +kernel
theorem dL_law_1997 : decode cL_law 1997 = .ok (.iload 4, 2) := by decide +kernel
theorem dL_law_1999 : decode cL_law 1999 = .ok (.iconst 2, 1) := by decide +kernel
theorem dL_law_2000 : decode cL_law 2000 = .ok (.iadd, 1) := by decide +kernel
theorem dL_law_2001 : decode cL_law 2001 = .ok (.iaload, 1) := by decide +kernel
theorem dL_law_2002 : decode cL_law 2002 = .ok (.ifCond .eq 7, 3) := by decide +kernel
theorem dL_law_2005 : decode cL_law 2005 = .ok (.iconst 1, 1) := by decide +kernel
theorem dL_law_2006 : decode cL_law 2006 = .ok (.goto 4, 3) := by decide +kernel
theorem dL_law_2009 : decode cL_law 2009 = .ok (.iconst 0, 1) := by decide +kernel
theorem dL_law_2010 : decode cL_law 2010 = .ok (.invokevirtual 216, 3) := by decide +kernel
theorem dL_law_2013 : decode cL_law 2013 = .ok (.istore 6, 2) := by decide +kernel
theorem dL_law_2015 : decode cL_law 2015 = .ok (.aload_n 2, 1) := by decide +kernel
theorem dL_law_2016 : decode cL_law 2016 = .ok (.invokevirtual 123, 3) := by decide +kernel
theorem dL_law_2019 : decode cL_law 2019 = .ok (.iload 5, 2) := by decide +kernel
theorem dL_law_2021 : decode cL_law 2021 = .ok (.if_icmp .eq 5, 3) := by decide +kernel
theorem dL_law_2024 : decode cL_law 2024 = .ok (.iconst 0, 1) := by decide +kernel
theorem dL_law_2025 : decode cL_law 2025 = .ok (.ireturn, 1) := by decide +kernel
theorem dL_law_2026 : decode cL_law 2026 = .ok (.iload 5, 2) := by decide +kernel
theorem dL_law_2028 : decode cL_law 2028 = .ok (.ifCond .ne 22, 3) := by decide +kernel
theorem dL_law_2031 : decode cL_law 2031 = .ok (.aload_n 3, 1) := by decide +kernel
theorem dL_law_2032 : decode cL_law 2032 = .ok (.iconst 0, 1) := by decide +kernel
theorem dL_law_2033 : decode cL_law 2033 = .ok (.laload, 1) := by decide +kernel
theorem dL_law_2034 : decode cL_law 2034 = .ok (.iload 6, 2) := by decide +kernel
theorem dL_law_2036 : decode cL_law 2036 = .ok (.ifCond .eq 7, 3) := by decide +kernel
theorem dL_law_2039 : decode cL_law 2039 = .ok (.lconst 1, 1) := by decide +kernel
theorem dL_law_2040 : decode cL_law 2040 = .ok (.goto 4, 3) := by decide +kernel
theorem dL_law_2043 : decode cL_law 2043 = .ok (.lconst 0, 1) := by decide +kernel
theorem dL_law_2044 : decode cL_law 2044 = .ok (.lcmp, 1) := by decide +kernel
theorem dL_law_2045 : decode cL_law 2045 = .ok (.ifCond .eq 5, 3) := by decide +kernel
theorem dL_law_2048 : decode cL_law 2048 = .ok (.iconst 0, 1) := by decide +kernel
theorem dL_law_2049 : decode cL_law 2049 = .ok (.ireturn, 1) := by decide +kernel
theorem dL_law_2050 : decode cL_law 2050 = .ok (.goto 71, 3) := by decide +kernel
theorem dL_law_2053 : decode cL_law 2053 = .ok (.aload_n 1, 1) := by decide +kernel
theorem dL_law_2054 : decode cL_law 2054 = .ok (.aload_n 0, 1) := by decide +kernel
theorem dL_law_2055 : decode cL_law 2055 = .ok (.iload 4, 2) := by decide +kernel
theorem dL_law_2057 : decode cL_law 2057 = .ok (.iconst 1, 1) := by decide +kernel
theorem dL_law_2058 : decode cL_law 2058 = .ok (.iadd, 1) := by decide +kernel
theorem dL_law_2059 : decode cL_law 2059 = .ok (.iaload, 1) := by decide +kernel
theorem dL_law_2060 : decode cL_law 2060 = .ok (.aload_n 0, 1) := by decide +kernel
theorem dL_law_2061 : decode cL_law 2061 = .ok (.iload 4, 2) := by decide +kernel
theorem dL_law_2063 : decode cL_law 2063 = .ok (.iconst 2, 1) := by decide +kernel
theorem dL_law_2064 : decode cL_law 2064 = .ok (.iadd, 1) := by decide +kernel
theorem dL_law_2065 : decode cL_law 2065 = .ok (.iaload, 1) := by decide +kernel
theorem dL_law_2066 : decode cL_law 2066 = .ok (.aload_n 3, 1) := by decide +kernel
theorem dL_law_2067 : decode cL_law 2067 = .ok (.invokestatic 217, 3) := by decide +kernel
theorem dL_law_2070 : decode cL_law 2070 = .ok (.istore 5, 2) := by decide +kernel
theorem dL_law_2072 : decode cL_law 2072 = .ok (.aload_n 2, 1) := by decide +kernel
theorem dL_law_2073 : decode cL_law 2073 = .ok (.aload_n 0, 1) := by decide +kernel
theorem dL_law_2074 : decode cL_law 2074 = .ok (.iload 4, 2) := by decide +kernel
theorem dL_law_2076 : decode cL_law 2076 = .ok (.iconst 1, 1) := by decide +kernel
theorem dL_law_2077 : decode cL_law 2077 = .ok (.iadd, 1) := by decide +kernel
theorem dL_law_2078 : decode cL_law 2078 = .ok (.iaload, 1) := by decide +kernel
theorem dL_law_2079 : decode cL_law 2079 = .ok (.aload_n 0, 1) := by decide +kernel
theorem dL_law_2080 : decode cL_law 2080 = .ok (.iload 4, 2) := by decide +kernel
theorem dL_law_2082 : decode cL_law 2082 = .ok (.iconst 2, 1) := by decide +kernel
theorem dL_law_2083 : decode cL_law 2083 = .ok (.iadd, 1) := by decide +kernel
theorem dL_law_2084 : decode cL_law 2084 = .ok (.iaload, 1) := by decide +kernel
theorem dL_law_2085 : decode cL_law 2085 = .ok (.invokevirtual 219, 3) := by decide +kernel
theorem dL_law_2088 : decode cL_law 2088 = .ok (.istore 6, 2) := by decide +kernel
theorem dL_law_2090 : decode cL_law 2090 = .ok (.aload_n 2, 1) := by decide +kernel
theorem dL_law_2091 : decode cL_law 2091 = .ok (.invokevirtual 123, 3) := by decide +kernel
theorem dL_law_2094 : decode cL_law 2094 = .ok (.iload 5, 2) := by decide +kernel
theorem dL_law_2096 : decode cL_law 2096 = .ok (.if_icmp .eq 5, 3) := by decide +kernel
theorem dL_law_2099 : decode cL_law 2099 = .ok (.iconst 0, 1) := by decide +kernel
theorem dL_law_2100 : decode cL_law 2100 = .ok (.ireturn, 1) := by decide +kernel
theorem dL_law_2101 : decode cL_law 2101 = .ok (.iload 5, 2) := by decide +kernel
theorem dL_law_2103 : decode cL_law 2103 = .ok (.ifCond .ne 15, 3) := by decide +kernel
theorem dL_law_2106 : decode cL_law 2106 = .ok (.aload_n 3, 1) := by decide +kernel
theorem dL_law_2107 : decode cL_law 2107 = .ok (.iconst 0, 1) := by decide +kernel
theorem dL_law_2108 : decode cL_law 2108 = .ok (.laload, 1) := by decide +kernel
theorem dL_law_2109 : decode cL_law 2109 = .ok (.iload 6, 2) := by decide +kernel
theorem dL_law_2111 : decode cL_law 2111 = .ok (.i2l, 1) := by decide +kernel
theorem dL_law_2112 : decode cL_law 2112 = .ok (.lcmp, 1) := by decide +kernel
theorem dL_law_2113 : decode cL_law 2113 = .ok (.ifCond .eq 5, 3) := by decide +kernel
theorem dL_law_2116 : decode cL_law 2116 = .ok (.iconst 0, 1) := by decide +kernel
theorem dL_law_2117 : decode cL_law 2117 = .ok (.ireturn, 1) := by decide +kernel
theorem dL_law_2118 : decode cL_law 2118 = .ok (.goto 3, 3) := by decide +kernel
theorem dL_law_2121 : decode cL_law 2121 = .ok (.iinc 4 6, 3) := by decide +kernel
theorem dL_law_2124 : decode cL_law 2124 = .ok (.goto (-2101), 3) := by decide +kernel
theorem dL_law_2127 : decode cL_law 2127 = .ok (.iconst 1, 1) := by decide +kernel
theorem dL_law_2128 : decode cL_law 2128 = .ok (.ireturn, 1) := by decide +kernel
end
section
/-! THE STORE: a flat picture of all cells that the law's run made: kind and length of each address, fields by field number (100 * class + place), arrays. -/
abbrev sS : Type := (Nat → Nat) × (Nat → Nat) × (Nat → Nat → Int32) × (Nat → Nat → Option Nat) × (Nat → Nat → Int32) × (Nat → Nat → Int64) × (Nat → Nat → Option Nat)
def sK (S : sS) : Nat → Nat := S.1
def sL (S : sS) : Nat → Nat := S.2.1
def sI (S : sS) : Nat → Nat → Int32 := S.2.2.1
def sR (S : sS) : Nat → Nat → Option Nat := S.2.2.2.1
def sA (S : sS) : Nat → Nat → Int32 := S.2.2.2.2.1
def sJ (S : sS) : Nat → Nat → Int64 := S.2.2.2.2.2.1
def sQ (S : sS) : Nat → Nat → Option Nat := S.2.2.2.2.2.2
def up1 {α : Type} (f : Nat → α) (a : Nat) (v : α) : Nat → α := fun x => if x = a then v else f x
def up2 {α : Type} (f : Nat → Nat → α) (a b : Nat) (v : α) : Nat → Nat → α := fun x y => if x = a ∧ y = b then v else f x y
def upR {α : Type} (f : Nat → Nat → α) (a : Nat) (v : Nat → α) : Nat → Nat → α := fun x => if x = a then v else f x
theorem up2_s {α : Type} {f : Nat → Nat → α} {a b : Nat} {v : α} : up2 f a b v a b = v := if_pos ⟨rfl, rfl⟩
theorem up2_n1 {α : Type} {f : Nat → Nat → α} {a b x y : Nat} {v : α} (h : x ≠ a) : up2 f a b v x y = f x y := if_neg fun q => h q.1
theorem up2_n2 {α : Type} {f : Nat → Nat → α} {a b x y : Nat} {v : α} (h : y ≠ b) : up2 f a b v x y = f x y := if_neg fun q => h q.2
theorem up1_s {α : Type} {f : Nat → α} {a : Nat} {v : α} : up1 f a v a = v := if_pos rfl
theorem up1_n {α : Type} {f : Nat → α} {a x : Nat} {v : α} (h : x ≠ a) : up1 f a v x = f x := if_neg h
def pI (S : sS) (f a : Nat) (v : Int32) : sS := (sK S, sL S, up2 (sI S) f a v, sR S, sA S, sJ S, sQ S)
def pR (S : sS) (f a : Nat) (v : Option Nat) : sS := (sK S, sL S, sI S, up2 (sR S) f a v, sA S, sJ S, sQ S)
def pA (S : sS) (a j : Nat) (v : Int32) : sS := (sK S, sL S, sI S, sR S, up2 (sA S) a j v, sJ S, sQ S)
def pJ (S : sS) (a j : Nat) (v : Int64) : sS := (sK S, sL S, sI S, sR S, sA S, up2 (sJ S) a j v, sQ S)
def pQ (S : sS) (a j : Nat) (v : Option Nat) : sS := (sK S, sL S, sI S, sR S, sA S, sJ S, up2 (sQ S) a j v)
/-- a new object of kind k at a: all its fields at their defaults; a new array of kind k and length n -/
def nO (S : sS) (k a : Nat) : sS := (up1 (sK S) a k, sL S, (fun f x => if x = a then 0 else sI S f x), (fun f x => if x = a then none else sR S f x), sA S, sJ S, sQ S)
def nA (S : sS) (k n a : Nat) : sS := (up1 (sK S) a k, up1 (sL S) a n, sI S, sR S, upR (sA S) a (fun _ => 0), upR (sJ S) a (fun _ => 0), upR (sQ S) a (fun _ => none))
/-- which fields hold references -/
def fRef (f : Nat) : Bool := [6, 7, 8, 10, 11, 204, 205, 206, 304, 400, 401, 402, 403, 404, 405, 406, 500, 501, 502, 600, 601, 700, 800, 801, 802, 803, 902, 903, 904, 905, 906, 907, 908, 909, 910, 911, 912, 913, 914, 915, 916, 917, 918, 919, 921, 922, 923, 924, 925, 926, 928, 929, 930, 931, 932, 933, 934, 935, 936, 937, 939, 940, 941, 942, 944, 945, 946, 947, 948, 950, 951, 952, 953, 954, 955].contains f
def nF : Nat → Nat
  | 0 => 13 | 1 => 7 | 2 => 9 | 3 => 5 | 4 => 9 | 5 => 6 | 6 => 5 | 7 => 7 | 8 => 9 | 9 => 57 | _ => 0
def sV (S : sS) (f a : Nat) : Value := if fRef f = true then va_rf (sR S f a) else .int (sI S f a)
def sFs (S : sS) (c a : Nat) : List Value := (List.range (nF c)).map (fun k => sV S (100 * c + k) a)
/-- the layout of the classes, the classes of the arrays (1 int, 2 boolean, 3 long, 4 Child, 5 Home, 6 Stay, 7 int[]), the heap at the law's entry -/
abbrev gG : Type := va_G × (Nat → ClassId) × Heap
def wA (G : gG) (S : sS) (a : Nat) : Nat → va_E
  | 1 => .inl (G.2.1 1, sL S a, .inl (sA S a))
  | 2 => .inl (G.2.1 2, sL S a, .inl (sA S a))
  | 3 => .inl (G.2.1 3, sL S a, .inr (.inl (sJ S a)))
  | k => .inl (G.2.1 k, sL S a, .inr (.inr (.inr (.inr (sQ S a)))))
def wE (G : gG) (S : sS) (a : Nat) : va_E := if sK S a < 100 then .inr (sK S a - 1, sFs S (sK S a - 1) a) else wA G S a (sK S a % 10)
def wB (G : gG) : Nat := G.2.2.size
def wW (G : gG) (S : sS) (H : Heap) : Prop := wB G ≤ H.size ∧ (∀ q : Nat, q < wB G → H[q]? = G.2.2[q]?) ∧ ∀ a, sK S a ≠ 0 → wB G ≤ a ∧ va_at G.1 vwCl (a, wE G S a) H
def tyA : Nat → FieldType
  | 1 => .int | 2 => .boolean | 3 => .long | 4 => .object "FosterHouse$Child" | 5 => .object "FosterHouse$Home" | 6 => .object "FosterHouse$Stay" | _ => .array .int
def tysA (G : gG) : List (ClassId × FieldType) := [(G.2.1 0, .int), (G.2.1 1, .int), (G.2.1 2, .boolean), (G.2.1 3, .long), (G.2.1 4, .object "FosterHouse$Child"), (G.2.1 5, .object "FosterHouse$Home"), (G.2.1 6, .object "FosterHouse$Stay"), (G.2.1 7, .array .int)]
/-- the texts of the throws -/
def strT : List (String × Nat × String) := [("FosterHouse", 275, "an argument is out of range"), ("FosterHouse", 48, "there are as many children as can be"), ("FosterHouse", 66, "there are as many homes as can be"), ("FosterHouse", 281, "there is no such home"), ("FosterHouse", 279, "there is no such child"), ("FosterHouse", 103, "the child has as many reports as can be"), ("FosterHouse", 122, "there are as many orders as can be"), ("FosterHouse", 154, "the child is there or may not be placed there"), ("FosterHouse", 341, "there are as many stays as can be"), ("FosterHouse", 367, "more children are to be placed than can be at once"), ("FosterHouse", 169, "there would be more stays than can be"), ("FosterHouse", 190, "the child is in no home"), ("FosterHouse", 277, "there is no such worker"), ("FosterHouse", 213, "the day would be too late"), ("FosterHouse", 238, "nothing of that kind is told of a child"), ("FosterHouse", 283, "there is no such stay"), ("FosterHouse", 259, "nothing of that kind is told of a stay"), ("FosterHouse", 270, "there is no such place in a file"), ("FosterHouse", 273, "the file is sealed")]
def aOv (t : FieldType) (U : State) : Prop := (Cond.arrayOver t).before #[] U = true
def wN (G : gG) : Nat → Prop := fun q => wB G ≤ q
/-- the exceptions of the program, and what is said of their casts -/
def exT : List String := ["java/lang/IllegalArgumentException", "java/lang/IllegalStateException", "java/lang/IndexOutOfBoundsException"]
def wX (U : State) : Prop := (∀ E ∈ exT, va_Nw (.castable E E) U) ∧ (∀ E ∈ exT, ∀ F ∈ exT, E ≠ F → va_Nc E F U) ∧ va_Nw (.methodLinkNest RX0 46 yX1_init "FosterHouse") U
theorem wX_mv {s U : State} (hW : s.WarmedH U.vm) (h : wX s) : wX U := by
  obtain ⟨h1, h2, h3⟩ := h
  exact ⟨fun E hE => va_Nw.warmC hW (h1 E hE), fun E hE F hF hn => (h2 E hE F hF hn).moved hW.alike, va_Nw.warmM hW h3⟩
/-- what is known of the machine everywhere in the run -/
def wK (G : gG) (U : State) : Prop := va_K G.1 vwCl (tysA G) U ∧ (aOv (.object "FosterHouse$Child") U ∧ aOv (.object "FosterHouse$Home") U ∧ aOv (.object "FosterHouse$Stay") U ∧ aOv (.array .int) U) ∧
  (vx_Zq Bundle.tN "UNASSIGNED_STACK" Bundle.steD (wN G) U G.2.2 ∧ vx_Zq Bundle.tN "SUPPRESSED_SENTINEL" Bundle.listD (wN G) U G.2.2) ∧
  (∃ t : Nat, va_Z "FosterHouse$Plan" "RANKS" "[I" (.ref t) (wN G) U G.2.2 ∧ va_T .int t 5 (fun j => .int ([14641, 1331, 121, 11, 1].getD j 0)) (wN G) U G.2.2) ∧
  (∀ q ∈ strT, ∃ a : Nat, vk_R q.1 q.2.1 q.2.2 a U) ∧ wX U
theorem aOv_mv {t : FieldType} {s U : State} (hW : s.WarmedH U.vm) (h : aOv t s) : aOv t U := by
  have h1 : (Cond.arrayOver t).before #[] (s.setVm U.vm) = true := by
    show (Cond.arrayOver t).before #[] (s.setVm U.vm) = true
    rw [Cond.arrayOver_setVmC hW.alike t]; exact h
  have h2 : (Cond.arrayOver t).before #[] U = (Cond.arrayOver t).before #[] (s.setVm U.vm) := by
    simp only [Cond.before, Cond.holds, Cond.value, State.setVm]
    rfl
  unfold aOv
  rw [h2]; exact h1
theorem wK_mv {G : gG} {s U : State} (hW : s.WarmedH U.vm) (h : wK G s) : wK G U := by
  obtain ⟨h1, ⟨h2, h3, h4, h5⟩, ⟨h6, h7⟩, ⟨t, h8, h9⟩, h10, h11⟩ := h
  exact ⟨va_K.moved hW.alike h1, ⟨aOv_mv hW h2, aOv_mv hW h3, aOv_mv hW h4, aOv_mv hW h5⟩, ⟨h6.moved hW.alike, h7.moved hW.alike⟩, ⟨t, h8.moved hW.alike, h9.moved hW.alike⟩, fun q hq => (h10 q hq).imp fun a ha => vk_R.warm hW ha, wX_mv hW h11⟩
/-- the words that stand behind every call: those of the tables that are good -/
def lw_good : List Cond := lw_tbl.filter goodWord
theorem lg_in {w : Cond} (i : Nat) (h : lw_tbl[i]? = some w) (g : goodWord w = true) : w ∈ lw_good := List.mem_filter.mpr ⟨List.mem_of_getElem? h, g⟩
theorem lg_good : ∀ w ∈ lw_good, goodWord w = true := fun w h => (List.mem_filter.mp h).2
theorem lg_all {ws : List Cond} (h : ∀ w ∈ ws, w ∈ lw_good) : GoodIn lw_good ws := fun w hw => ⟨h w hw, good_of_word (lg_good w (h w hw))⟩
theorem lg_code {w : Cond} (h : w ∈ lw_good) : GoodIn lw_good (w :: lw_good) := lg_all fun x hx => (List.mem_cons.mp hx).elim (fun e => e ▸ h) id
end
section
/-! THE WALK: V is the kit's W over the store; a row an instruction. -/
abbrev xX : Type := Program × Launch × Env × Room × State × MethodId × Array Value × List Frame × Method × Code
abbrev lO : Type := List (Nat × Bool × Value)
def lk (ls : Array Slot) (nL : Nat) (lo : lO) : Prop := ls.size = nL ∧ lv_wf ls ∧ ∀ q ∈ lo, ls[q.1]? = some (.val q.2.2) ∧ (q.2.1 = false → q.2.2.category = 1)
def lget : lO → Nat → Option Value
  | [], _ => none
  | q :: t, i => if q.1 = i then some q.2.2 else lget t i
theorem lk_get {ls : Array Slot} {nL : Nat} {lo : lO} (h : lk ls nL lo) {i : Nat} {v : Value} (e : lget lo i = some v) : ls[i]? = some (.val v) := by
  have h3 := h.2.2
  clear h
  induction lo with
  | nil => cases e
  | cons q t ih =>
    unfold lget at e
    by_cases hq : q.1 = i
    · rw [if_pos hq] at e
      cases e
      rw [← hq]
      exact (h3 q List.mem_cons_self).1
    · rw [if_neg hq] at e
      exact ih e fun x hx => h3 x (List.mem_cons_of_mem _ hx)
def lset1 (lo : lO) (i : Nat) (v : Value) : lO := (i, false, v) :: lo.filter (fun q => !(q.1 == i) && !(q.1 + 1 == i && q.2.1))
def lset2 (lo : lO) (i : Nat) (v : Value) : lO := (i, true, v) :: lo.filter (fun q => !(q.1 == i) && (!(q.1 == i + 1) && !(q.1 + 1 == i && q.2.1)))
def lmap (lo : lO) : List (Nat × Value) := lo.map fun q => (q.1, q.2.2)
theorem lk_has {ls : Array Slot} {nL : Nat} {lo : lO} (h : lk ls nL lo) : lv_has ls nL (lmap lo) := ⟨h.1, h.2.1, fun q hq => by
  obtain ⟨x, hx, rfl⟩ := List.mem_map.mp hq
  exact (h.2.2 x hx).1⟩
theorem lk_set1 {ls ls' : Array Slot} {nL : Nat} {lo : lO} {i : Nat} {v : Value} (h : lk ls nL lo) (hc : v.category = 1)
    (h' : lv_has ls' nL ((i, v) :: (lmap lo).filter (fun q => !(q.1 == i) && !(q.1 + 1 == i && q.2.category == 2)))) : lk ls' nL (lset1 lo i v) := by
  refine ⟨h'.1, h'.2.1, fun q hq => ?_⟩
  rcases List.mem_cons.mp hq with rfl | hq
  · exact ⟨h'.2.2 _ List.mem_cons_self, fun _ => hc⟩
  · obtain ⟨h1, h2⟩ := List.mem_filter.mp hq
    refine ⟨h'.2.2 (q.1, q.2.2) (List.mem_cons_of_mem _ (List.mem_filter.mpr ⟨List.mem_map.mpr ⟨q, h1, rfl⟩, ?_⟩)), (h.2.2 q h1).2⟩
    simp only [Bool.and_eq_true, Bool.not_eq_true', Bool.and_eq_false_iff, beq_eq_false_iff_ne] at h2 ⊢
    refine ⟨h2.1, ?_⟩
    rcases h2.2 with h3 | h3
    · exact Or.inl h3
    · exact Or.inr (by rw [(h.2.2 q h1).2 h3]; decide)
theorem lk_set2 {ls ls' : Array Slot} {nL : Nat} {lo : lO} {i : Nat} {v : Value} (h : lk ls nL lo)
    (h' : lv_has ls' nL ((i, v) :: (lmap lo).filter (fun q => !(q.1 == i) && (!(q.1 == i + 1) && !(q.1 + 1 == i && q.2.category == 2))))) : lk ls' nL (lset2 lo i v) := by
  refine ⟨h'.1, h'.2.1, fun q hq => ?_⟩
  rcases List.mem_cons.mp hq with rfl | hq
  · exact ⟨h'.2.2 _ List.mem_cons_self, fun e => nomatch e⟩
  · obtain ⟨h1, h2⟩ := List.mem_filter.mp hq
    refine ⟨h'.2.2 (q.1, q.2.2) (List.mem_cons_of_mem _ (List.mem_filter.mpr ⟨List.mem_map.mpr ⟨q, h1, rfl⟩, ?_⟩)), (h.2.2 q h1).2⟩
    simp only [Bool.and_eq_true, Bool.not_eq_true', Bool.and_eq_false_iff, beq_eq_false_iff_ne] at h2 ⊢
    refine ⟨h2.1, h2.2.1, ?_⟩
    rcases h2.2.2 with h3 | h3
    · exact Or.inl h3
    · exact Or.inr (by rw [(h.2.2 q h1).2 h3]; decide)
def isR (v : Value) : Prop := v = .null ∨ ∃ a, v = .ref a
theorem isR_r (a : Nat) : isR (.ref a) := Or.inr ⟨a, rfl⟩
theorem isR_n : isR .null := Or.inl rfl
theorem isR_q (o : Option Nat) : isR (va_rf o) := match o with
  | none => Or.inl rfl
  | some a => Or.inr ⟨a, rfl⟩
theorem isR_c {v : Value} (h : isR v) : v.category = 1 := by
  rcases h with rfl | ⟨a, rfl⟩ <;> rfl
def V (X : xX) (G : gG) (nL : Nat) (Q : State → Prop) (k n pc : Nat) (lo : lO) (st : List Value) (S : sS) : Prop :=
  ∀ (H : Heap) (ls : Array Slot) (locs : List Loc), wW G S H → lk ls nL lo → (∀ z ∈ locs, wB G ≤ z.base) →
    W X.1 X.2.1 X.2.2.1 X.2.2.2.1 X.2.2.2.2.1 X.2.2.2.2.2.1 X.2.2.2.2.2.2.1 X.2.2.2.2.2.2.2.1 X.2.2.2.2.2.2.2.2.1 X.2.2.2.2.2.2.2.2.2 H locs k n Q (F0 X.2.2.2.2.2.1 pc ls st)
/-- the frame at hand: the machine, the code at hand, its number of locals, its return type, its room, its table, the good words, what is known of the machine -/
def Cx (X : xX) (G : gG) (own : String) (cc : ByteArray) (nL : Nat) (ret : Option FieldType) (rm : Room) (tb : List ExceptionTableEntry) : Prop :=
  X.1.tables.exec = Jvm.exec ∧ X.2.2.2.2.2.2.2.2.2.code = cc ∧ X.2.2.2.2.2.2.2.2.2.maxLocals = nL ∧ X.2.2.2.2.1.vm.findClass own = some X.2.2.2.2.2.1.cls ∧ (∀ w ∈ lw_good, w.before X.2.2.2.2.2.2.1 X.2.2.2.2.1 = true) ∧
  wK G X.2.2.2.2.1 ∧ (wB G ≤ X.2.2.2.2.1.heap.size ∧ ∀ q : Nat, q < wB G → X.2.2.2.2.1.heap[q]? = G.2.2[q]?) ∧ X.2.1.stackTraces = false ∧ X.2.2.2.2.2.2.2.2.1.locks = false ∧ X.2.2.2.2.2.2.2.2.1.sig.returnType = ret ∧ X.2.2.2.1 = rm ∧ X.2.2.2.2.2.2.2.2.2.exceptionTable.toList = tb
section VR
variable {X : xX} {G : gG} {own : String} {cc : ByteArray} {nL : Nat} {ret : Option FieldType} {rm : Room} {tb : List ExceptionTableEntry} {Q : State → Prop} {k n pc : Nat} {lo : lO} {st : List Value} {S : sS}
theorem V_pick (is : List Nat) {lo' : lO} (h : is.filterMap (fun i => lo[i]?) = lo') (kk : V X G nL Q k n pc lo' st S) : V X G nL Q k n pc lo st S := fun H ls locs hW hl hf => kk H ls locs hW ⟨hl.1, hl.2.1, fun q hq => by
  rw [← h] at hq
  obtain ⟨i, -, hi⟩ := List.mem_filterMap.mp hq
  exact hl.2.2 q (List.mem_of_getElem? hi)⟩ hf
theorem V_widen {k' n' : Nat} (h1 : k ≤ k') (h2 : n ≤ n') (kk : V X G nL Q k' n' pc lo st S) : V X G nL Q k n pc lo st S := fun H ls locs hW hl hf => W.widen h1 h2 (kk H ls locs hW hl hf)
theorem V_at {pc' : Nat} (h : pc' = pc) (kk : V X G nL Q k n pc' lo st S) : V X G nL Q k n pc lo st S := h ▸ kk

theorem V_iconst (C : Cx X G own cc nL ret rm tb) {i : Int} {v : Int32} (d : decode cc pc = .ok (.iconst i, 1)) (hv : Int32.ofInt i = v) (kk : V X G nL Q k n (pc + 1) lo (.int v :: st) S) : V X G nL Q k n pc lo st S := fun H ls locs hW hl hf => lv_iconst C.1 C.2.1 d hv (kk H ls locs hW hl hf)
theorem V_bipush (C : Cx X G own cc nL ret rm tb) {i : Int} {v : Int32} (d : decode cc pc = .ok (.bipush i, 2)) (hv : (Int8.ofInt i).toInt32 = v) (kk : V X G nL Q k n (pc + 2) lo (.int v :: st) S) : V X G nL Q k n pc lo st S := fun H ls locs hW hl hf => lv_bipush C.1 C.2.1 d hv (kk H ls locs hW hl hf)
theorem V_sipush (C : Cx X G own cc nL ret rm tb) {i : Int} {v : Int32} (d : decode cc pc = .ok (.sipush i, 3)) (hv : (Int16.ofInt i).toInt32 = v) (kk : V X G nL Q k n (pc + 3) lo (.int v :: st) S) : V X G nL Q k n pc lo st S := fun H ls locs hW hl hf => lv_sipush C.1 C.2.1 d hv (kk H ls locs hW hl hf)
theorem V_lconst (C : Cx X G own cc nL ret rm tb) {i : Fin 2} {v : Int64} (d : decode cc pc = .ok (.lconst i, 1)) (hv : Int64.ofNat (i : Nat) = v) (kk : V X G nL Q k n (pc + 1) lo (.long v :: st) S) : V X G nL Q k n pc lo st S := fun H ls locs hW hl hf => lv_lconst C.1 C.2.1 d hv (kk H ls locs hW hl hf)
theorem V_aconst_null (C : Cx X G own cc nL ret rm tb)  (d : decode cc pc = .ok (.aconst_null, 1))  (kk : V X G nL Q k n (pc + 1) lo (.null :: st) S) : V X G nL Q k n pc lo st S := fun H ls locs hW hl hf => lv_null C.1 C.2.1 d (kk H ls locs hW hl hf)
theorem V_ldc (C : Cx X G own cc nL ret rm tb) {i : Nat} {v : Int32} (d : decode cc pc = .ok (.ldc i, 2)) (hw : Cond.constant own i v ∈ lw_good) (kk : V X G nL Q k n (pc + 2) lo (.int v :: st) S) : V X G nL Q k n pc lo st S := fun H ls locs hW hl hf => lv_ldc C.1 C.2.1 C.2.2.2.1 (C.2.2.2.2.1 _ hw) d (kk H ls locs hW hl hf)
theorem V_ldc_w (C : Cx X G own cc nL ret rm tb) {i : Nat} {v : Int32} (d : decode cc pc = .ok (.ldc_w i, 3)) (hw : Cond.constant own i v ∈ lw_good) (kk : V X G nL Q k n (pc + 3) lo (.int v :: st) S) : V X G nL Q k n pc lo st S := fun H ls locs hW hl hf => lv_ldcw C.1 C.2.1 C.2.2.2.1 (C.2.2.2.2.1 _ hw) d (kk H ls locs hW hl hf)
theorem V_ldc2 (C : Cx X G own cc nL ret rm tb) {i : Nat} {v : Int64} (d : decode cc pc = .ok (.ldc2_w i, 3)) (hw : Cond.constantLong own i v ∈ lw_good) (kk : V X G nL Q k n (pc + 3) lo (.long v :: st) S) : V X G nL Q k n pc lo st S := fun H ls locs hW hl hf => lv_ldc2 C.1 C.2.1 C.2.2.2.1 (C.2.2.2.2.1 _ hw) d (kk H ls locs hW hl hf)
theorem V_iload (C : Cx X G own cc nL ret rm tb) {i : Nat} {x : Int32} (d : decode cc pc = .ok (.iload i, 2)) (hg : lget lo i = some (.int x)) (kk : V X G nL Q k n (pc + 2) lo (.int x :: st) S) : V X G nL Q k n pc lo st S := fun H ls locs hW hl hf => lv_iload C.1 C.2.1 d (lk_get hl hg) (kk H ls locs hW hl hf)
theorem V_iload_n (C : Cx X G own cc nL ret rm tb) {j : Fin 4} {x : Int32} (d : decode cc pc = .ok (.iload_n j, 1)) (hg : lget lo (j : Nat) = some (.int x)) (kk : V X G nL Q k n (pc + 1) lo (.int x :: st) S) : V X G nL Q k n pc lo st S := fun H ls locs hW hl hf => lv_iload_n C.1 C.2.1 d rfl (lk_get hl hg) (kk H ls locs hW hl hf)
theorem V_lload (C : Cx X G own cc nL ret rm tb) {i : Nat} {x : Int64} (d : decode cc pc = .ok (.lload i, 2)) (hg : lget lo i = some (.long x)) (kk : V X G nL Q k n (pc + 2) lo (.long x :: st) S) : V X G nL Q k n pc lo st S := fun H ls locs hW hl hf => lv_lload C.1 C.2.1 d (lk_get hl hg) (kk H ls locs hW hl hf)
theorem V_lload_n (C : Cx X G own cc nL ret rm tb) {j : Fin 4} {x : Int64} (d : decode cc pc = .ok (.lload_n j, 1)) (hg : lget lo (j : Nat) = some (.long x)) (kk : V X G nL Q k n (pc + 1) lo (.long x :: st) S) : V X G nL Q k n pc lo st S := fun H ls locs hW hl hf => lv_lload_n C.1 C.2.1 d rfl (lk_get hl hg) (kk H ls locs hW hl hf)
theorem V_aload (C : Cx X G own cc nL ret rm tb) {i : Nat} {v : Value} (d : decode cc pc = .ok (.aload i, 2)) (hg : lget lo i = some v) (hv : isR v) (kk : V X G nL Q k n (pc + 2) lo (v :: st) S) : V X G nL Q k n pc lo st S := by
  rcases hv with rfl | ⟨a, rfl⟩
  · exact fun H ls locs hW hl hf => lv_aloadN C.1 C.2.1 d (lk_get hl hg) (kk H ls locs hW hl hf)
  · exact fun H ls locs hW hl hf => lv_aload C.1 C.2.1 d (lk_get hl hg) (kk H ls locs hW hl hf)
theorem V_aload_n (C : Cx X G own cc nL ret rm tb) {j : Fin 4} {v : Value} (d : decode cc pc = .ok (.aload_n j, 1)) (hg : lget lo (j : Nat) = some v) (hv : isR v) (kk : V X G nL Q k n (pc + 1) lo (v :: st) S) : V X G nL Q k n pc lo st S := by
  rcases hv with rfl | ⟨a, rfl⟩
  · exact fun H ls locs hW hl hf => lv_aload_nN C.1 C.2.1 d rfl (lk_get hl hg) (kk H ls locs hW hl hf)
  · exact fun H ls locs hW hl hf => lv_aload_n C.1 C.2.1 d rfl (lk_get hl hg) (kk H ls locs hW hl hf)
theorem V_istore (C : Cx X G own cc nL ret rm tb) {i : Nat} {x : Int32} {lo' : lO} (d : decode cc pc = .ok (.istore i, 2)) (hn : i < nL) (hs : lset1 lo i (.int x) = lo') (kk : V X G nL Q k n (pc + 2) lo' st S) : V X G nL Q k n pc lo (.int x :: st) S := fun H ls locs hW hl hf => lv_istore C.1 C.2.1 d (lk_has hl) hn rfl fun ls2 h2 => kk H ls2 locs hW (hs ▸ lk_set1 hl rfl h2) hf
theorem V_istore_n (C : Cx X G own cc nL ret rm tb) {j : Fin 4} {x : Int32} {lo' : lO} (d : decode cc pc = .ok (.istore_n j, 1)) (hn : (j : Nat) < nL) (hs : lset1 lo (j : Nat) (.int x) = lo') (kk : V X G nL Q k n (pc + 1) lo' st S) : V X G nL Q k n pc lo (.int x :: st) S := fun H ls locs hW hl hf => lv_istore_n C.1 C.2.1 d rfl (lk_has hl) hn rfl fun ls2 h2 => kk H ls2 locs hW (hs ▸ lk_set1 hl rfl h2) hf
theorem V_lstore (C : Cx X G own cc nL ret rm tb) {i : Nat} {x : Int64} {lo' : lO} (d : decode cc pc = .ok (.lstore i, 2)) (hn : i + 1 < nL) (hs : lset2 lo i (.long x) = lo') (kk : V X G nL Q k n (pc + 2) lo' st S) : V X G nL Q k n pc lo (.long x :: st) S := fun H ls locs hW hl hf => lv_lstore C.1 C.2.1 d (lk_has hl) hn rfl fun ls2 h2 => kk H ls2 locs hW (hs ▸ lk_set2 hl h2) hf
theorem V_lstore_n (C : Cx X G own cc nL ret rm tb) {j : Fin 4} {x : Int64} {lo' : lO} (d : decode cc pc = .ok (.lstore_n j, 1)) (hn : (j : Nat) + 1 < nL) (hs : lset2 lo (j : Nat) (.long x) = lo') (kk : V X G nL Q k n (pc + 1) lo' st S) : V X G nL Q k n pc lo (.long x :: st) S := fun H ls locs hW hl hf => lv_lstore_n C.1 C.2.1 d rfl (lk_has hl) hn rfl fun ls2 h2 => kk H ls2 locs hW (hs ▸ lk_set2 hl h2) hf
theorem V_astore (C : Cx X G own cc nL ret rm tb) {i : Nat} {v : Value} {lo' : lO} (d : decode cc pc = .ok (.astore i, 2)) (hn : i < nL) (hv : isR v) (hs : lset1 lo i v = lo') (kk : V X G nL Q k n (pc + 2) lo' st S) : V X G nL Q k n pc lo (v :: st) S := by
  rcases hv with rfl | ⟨a, rfl⟩
  · exact fun H ls locs hW hl hf => lv_astoreN C.1 C.2.1 d (lk_has hl) hn rfl fun ls2 h2 => kk H ls2 locs hW (hs ▸ lk_set1 hl rfl h2) hf
  · exact fun H ls locs hW hl hf => lv_astore C.1 C.2.1 d (lk_has hl) hn rfl fun ls2 h2 => kk H ls2 locs hW (hs ▸ lk_set1 hl rfl h2) hf
theorem V_astore_n (C : Cx X G own cc nL ret rm tb) {j : Fin 4} {v : Value} {lo' : lO} (d : decode cc pc = .ok (.astore_n j, 1)) (hn : (j : Nat) < nL) (hv : isR v) (hs : lset1 lo (j : Nat) v = lo') (kk : V X G nL Q k n (pc + 1) lo' st S) : V X G nL Q k n pc lo (v :: st) S := by
  rcases hv with rfl | ⟨a, rfl⟩
  · exact fun H ls locs hW hl hf => lv_astore_nN C.1 C.2.1 d rfl (lk_has hl) hn rfl fun ls2 h2 => kk H ls2 locs hW (hs ▸ lk_set1 hl rfl h2) hf
  · exact fun H ls locs hW hl hf => lv_astore_n C.1 C.2.1 d rfl (lk_has hl) hn rfl fun ls2 h2 => kk H ls2 locs hW (hs ▸ lk_set1 hl rfl h2) hf
theorem V_iinc (C : Cx X G own cc nL ret rm tb) {i : Nat} {z : Int} {x v : Int32} {lo' : lO} (d : decode cc pc = .ok (.iinc i z, 3)) (hg : lget lo i = some (.int x)) (hv : x + Int32.ofInt z = v) (hn : i < nL) (hs : lset1 lo i (.int v) = lo') (kk : V X G nL Q k n (pc + 3) lo' st S) : V X G nL Q k n pc lo st S := fun H ls locs hW hl hf =>
  lv_iinc (k := 0) (lv := (i, .int x) :: lmap lo) C.1 C.2.1 d ⟨hl.1, hl.2.1, fun q hq => (List.mem_cons.mp hq).elim (fun e => by rw [e]; exact lk_get hl hg) fun hq => (lk_has hl).2.2 q hq⟩ rfl hv hn rfl fun ls2 h2 => kk H ls2 locs hW (hs ▸ lk_set1 hl rfl ⟨h2.1, h2.2.1, fun q hq => by
    rcases List.mem_cons.mp hq with rfl | hq
    · exact h2.2.2 _ List.mem_cons_self
    · refine h2.2.2 q (List.mem_cons_of_mem _ ?_)
      obtain ⟨h3, h4⟩ := List.mem_filter.mp hq
      exact List.mem_filter.mpr ⟨List.mem_cons_of_mem _ h3, h4⟩⟩) hf
theorem V_iadd (C : Cx X G own cc nL ret rm tb) {x y : Int32} (d : decode cc pc = .ok (.iadd, 1))  (kk : V X G nL Q k n (pc + 1) lo (.int (x + y) :: st) S) : V X G nL Q k n pc lo (.int y :: .int x :: st) S := fun H ls locs hW hl hf => lv_iadd C.1 C.2.1 d (kk H ls locs hW hl hf)
theorem V_isub (C : Cx X G own cc nL ret rm tb) {x y : Int32} (d : decode cc pc = .ok (.isub, 1))  (kk : V X G nL Q k n (pc + 1) lo (.int (x - y) :: st) S) : V X G nL Q k n pc lo (.int y :: .int x :: st) S := fun H ls locs hW hl hf => lv_isub C.1 C.2.1 d (kk H ls locs hW hl hf)
theorem V_imul (C : Cx X G own cc nL ret rm tb) {x y : Int32} (d : decode cc pc = .ok (.imul, 1))  (kk : V X G nL Q k n (pc + 1) lo (.int (x * y) :: st) S) : V X G nL Q k n pc lo (.int y :: .int x :: st) S := fun H ls locs hW hl hf => lv_imul C.1 C.2.1 d (kk H ls locs hW hl hf)
theorem V_ishr (C : Cx X G own cc nL ret rm tb) {x y : Int32} (d : decode cc pc = .ok (.ishr, 1))  (kk : V X G nL Q k n (pc + 1) lo (.int (x >>> (y &&& 31)) :: st) S) : V X G nL Q k n pc lo (.int y :: .int x :: st) S := fun H ls locs hW hl hf => lv_ishr C.1 C.2.1 d (kk H ls locs hW hl hf)
theorem V_ishl (C : Cx X G own cc nL ret rm tb) {x y : Int32} (d : decode cc pc = .ok (.ishl, 1))  (kk : V X G nL Q k n (pc + 1) lo (.int (x <<< (y &&& 31)) :: st) S) : V X G nL Q k n pc lo (.int y :: .int x :: st) S := fun H ls locs hW hl hf => lv_ishl C.1 C.2.1 d (kk H ls locs hW hl hf)
theorem V_iand (C : Cx X G own cc nL ret rm tb) {x y : Int32} (d : decode cc pc = .ok (.iand, 1))  (kk : V X G nL Q k n (pc + 1) lo (.int (x &&& y) :: st) S) : V X G nL Q k n pc lo (.int y :: .int x :: st) S := fun H ls locs hW hl hf => lv_iand C.1 C.2.1 d (kk H ls locs hW hl hf)
theorem V_ixor (C : Cx X G own cc nL ret rm tb) {x y : Int32} (d : decode cc pc = .ok (.ixor, 1))  (kk : V X G nL Q k n (pc + 1) lo (.int (x ^^^ y) :: st) S) : V X G nL Q k n pc lo (.int y :: .int x :: st) S := fun H ls locs hW hl hf => lv_ixor C.1 C.2.1 d (kk H ls locs hW hl hf)
theorem V_iushr (C : Cx X G own cc nL ret rm tb) {x y : Int32} (d : decode cc pc = .ok (.iushr, 1))  (kk : V X G nL Q k n (pc + 1) lo (.int ((x.toUInt32 >>> (y.toUInt32 &&& Int32.toUInt32 31)).toInt32) :: st) S) : V X G nL Q k n pc lo (.int y :: .int x :: st) S := fun H ls locs hW hl hf => lv_iushr C.1 C.2.1 d rfl (kk H ls locs hW hl hf)
theorem V_idiv (C : Cx X G own cc nL ret rm tb) {x y : Int32} (d : decode cc pc = .ok (.idiv, 1)) (hy : ¬ y = 0) (kk : V X G nL Q k n (pc + 1) lo (.int (x / y) :: st) S) : V X G nL Q k n pc lo (.int y :: .int x :: st) S := fun H ls locs hW hl hf => lv_idiv C.1 C.2.1 d hy (kk H ls locs hW hl hf)
theorem V_irem (C : Cx X G own cc nL ret rm tb) {x y : Int32} (d : decode cc pc = .ok (.irem, 1)) (hy : ¬ y = 0) (kk : V X G nL Q k n (pc + 1) lo (.int (x - x / y * y) :: st) S) : V X G nL Q k n pc lo (.int y :: .int x :: st) S := fun H ls locs hW hl hf => lv_irem C.1 C.2.1 d hy (kk H ls locs hW hl hf)
theorem V_ineg (C : Cx X G own cc nL ret rm tb) {x : Int32} (d : decode cc pc = .ok (.ineg, 1))  (kk : V X G nL Q k n (pc + 1) lo (.int (-x) :: st) S) : V X G nL Q k n pc lo (.int x :: st) S := fun H ls locs hW hl hf => lv_ineg C.1 C.2.1 d (kk H ls locs hW hl hf)
theorem V_ladd (C : Cx X G own cc nL ret rm tb) {x y : Int64} (d : decode cc pc = .ok (.ladd, 1))  (kk : V X G nL Q k n (pc + 1) lo (.long (x + y) :: st) S) : V X G nL Q k n pc lo (.long y :: .long x :: st) S := fun H ls locs hW hl hf => lv_ladd C.1 C.2.1 d (kk H ls locs hW hl hf)
theorem V_lmul (C : Cx X G own cc nL ret rm tb) {x y : Int64} (d : decode cc pc = .ok (.lmul, 1))  (kk : V X G nL Q k n (pc + 1) lo (.long (x * y) :: st) S) : V X G nL Q k n pc lo (.long y :: .long x :: st) S := fun H ls locs hW hl hf => lv_lmul C.1 C.2.1 d (kk H ls locs hW hl hf)
theorem V_i2l (C : Cx X G own cc nL ret rm tb) {x : Int32} (d : decode cc pc = .ok (.i2l, 1))  (kk : V X G nL Q k n (pc + 1) lo (.long x.toInt64 :: st) S) : V X G nL Q k n pc lo (.int x :: st) S := fun H ls locs hW hl hf => lv_i2l C.1 C.2.1 d rfl (kk H ls locs hW hl hf)
theorem V_lcmp (C : Cx X G own cc nL ret rm tb) {x y : Int64} (d : decode cc pc = .ok (.lcmp, 1))  (kk : V X G nL Q k n (pc + 1) lo (.int (lg_cmp x y) :: st) S) : V X G nL Q k n pc lo (.long y :: .long x :: st) S := fun H ls locs hW hl hf => W.lcmp C.1 C.2.1 d (kk H ls locs hW hl hf)
theorem V_pop (C : Cx X G own cc nL ret rm tb) {v : Value} (d : decode cc pc = .ok (.pop, 1)) (hc : v.category = 1) (kk : V X G nL Q k n (pc + 1) lo st S) : V X G nL Q k n pc lo (v :: st) S := fun H ls locs hW hl hf => lv_pop C.1 C.2.1 d hc (kk H ls locs hW hl hf)
theorem V_dup (C : Cx X G own cc nL ret rm tb) {v : Value} (d : decode cc pc = .ok (.dup, 1)) (hc : v.category = 1) (kk : V X G nL Q k n (pc + 1) lo (v :: v :: st) S) : V X G nL Q k n pc lo (v :: st) S := fun H ls locs hW hl hf => lv_dup C.1 C.2.1 d hc (kk H ls locs hW hl hf)
theorem V_dup2 (C : Cx X G own cc nL ret rm tb) {v w : Value} (d : decode cc pc = .ok (.dup2, 1)) (hv : v.category = 1) (hc : w.category = 1) (kk : V X G nL Q k n (pc + 1) lo (w :: v :: w :: v :: st) S) : V X G nL Q k n pc lo (w :: v :: st) S := fun H ls locs hW hl hf => lv_dup2_11 C.1 C.2.1 d hc hv (kk H ls locs hW hl hf)
theorem V_goto (C : Cx X G own cc nL ret rm tb) {off : Int} {tgt : Nat} (d : decode cc pc = .ok (.goto off, 3)) (ht : (pc : Int) + off = (tgt : Int)) (kk : V X G nL Q k n tgt lo st S) : V X G nL Q k n pc lo st S := fun H ls locs hW hl hf => lv_goto C.1 C.2.1 d ht (kk H ls locs hW hl hf)
theorem V_icmp_eq (C : Cx X G own cc nL ret rm tb) {x y : Int32} {off : Int} {tgt : Nat} (d : decode cc pc = .ok (.if_icmp .eq off, 3)) (ht : (pc : Int) + off = (tgt : Int)) (kt : x = y → V X G nL Q k n tgt lo st S) (kf : ¬ x = y → V X G nL Q k n (pc + 3) lo st S) : V X G nL Q k n pc lo (.int y :: .int x :: st) S := fun H ls locs hW hl hf => lv_icmp_eq C.1 C.2.1 d ht (fun h => kt h H ls locs hW hl hf) (fun h => kf h H ls locs hW hl hf)
theorem V_if_eq (C : Cx X G own cc nL ret rm tb) {x : Int32} {off : Int} {tgt : Nat} (d : decode cc pc = .ok (.ifCond .eq off, 3)) (ht : (pc : Int) + off = (tgt : Int)) (kt : x = 0 → V X G nL Q k n tgt lo st S) (kf : ¬ x = 0 → V X G nL Q k n (pc + 3) lo st S) : V X G nL Q k n pc lo (.int x :: st) S := fun H ls locs hW hl hf => lv_if_eq C.1 C.2.1 d ht (fun h => kt h H ls locs hW hl hf) (fun h => kf h H ls locs hW hl hf)
theorem V_icmp_ne (C : Cx X G own cc nL ret rm tb) {x y : Int32} {off : Int} {tgt : Nat} (d : decode cc pc = .ok (.if_icmp .ne off, 3)) (ht : (pc : Int) + off = (tgt : Int)) (kt : (¬ x = y) → V X G nL Q k n tgt lo st S) (kf : x = y → V X G nL Q k n (pc + 3) lo st S) : V X G nL Q k n pc lo (.int y :: .int x :: st) S := fun H ls locs hW hl hf => lv_icmp_ne C.1 C.2.1 d ht (fun h => kt h H ls locs hW hl hf) (fun h => kf h H ls locs hW hl hf)
theorem V_if_ne (C : Cx X G own cc nL ret rm tb) {x : Int32} {off : Int} {tgt : Nat} (d : decode cc pc = .ok (.ifCond .ne off, 3)) (ht : (pc : Int) + off = (tgt : Int)) (kt : (¬ x = 0) → V X G nL Q k n tgt lo st S) (kf : x = 0 → V X G nL Q k n (pc + 3) lo st S) : V X G nL Q k n pc lo (.int x :: st) S := fun H ls locs hW hl hf => lv_if_ne C.1 C.2.1 d ht (fun h => kt h H ls locs hW hl hf) (fun h => kf h H ls locs hW hl hf)
theorem V_icmp_lt (C : Cx X G own cc nL ret rm tb) {x y : Int32} {off : Int} {tgt : Nat} (d : decode cc pc = .ok (.if_icmp .lt off, 3)) (ht : (pc : Int) + off = (tgt : Int)) (kt : x < y → V X G nL Q k n tgt lo st S) (kf : ¬ x < y → V X G nL Q k n (pc + 3) lo st S) : V X G nL Q k n pc lo (.int y :: .int x :: st) S := fun H ls locs hW hl hf => lv_icmp_lt C.1 C.2.1 d ht (fun h => kt h H ls locs hW hl hf) (fun h => kf h H ls locs hW hl hf)
theorem V_if_lt (C : Cx X G own cc nL ret rm tb) {x : Int32} {off : Int} {tgt : Nat} (d : decode cc pc = .ok (.ifCond .lt off, 3)) (ht : (pc : Int) + off = (tgt : Int)) (kt : x < 0 → V X G nL Q k n tgt lo st S) (kf : ¬ x < 0 → V X G nL Q k n (pc + 3) lo st S) : V X G nL Q k n pc lo (.int x :: st) S := fun H ls locs hW hl hf => lv_if_lt C.1 C.2.1 d ht (fun h => kt h H ls locs hW hl hf) (fun h => kf h H ls locs hW hl hf)
theorem V_icmp_ge (C : Cx X G own cc nL ret rm tb) {x y : Int32} {off : Int} {tgt : Nat} (d : decode cc pc = .ok (.if_icmp .ge off, 3)) (ht : (pc : Int) + off = (tgt : Int)) (kt : y ≤ x → V X G nL Q k n tgt lo st S) (kf : ¬ y ≤ x → V X G nL Q k n (pc + 3) lo st S) : V X G nL Q k n pc lo (.int y :: .int x :: st) S := fun H ls locs hW hl hf => lv_icmp_ge C.1 C.2.1 d ht (fun h => kt h H ls locs hW hl hf) (fun h => kf h H ls locs hW hl hf)
theorem V_if_ge (C : Cx X G own cc nL ret rm tb) {x : Int32} {off : Int} {tgt : Nat} (d : decode cc pc = .ok (.ifCond .ge off, 3)) (ht : (pc : Int) + off = (tgt : Int)) (kt : 0 ≤ x → V X G nL Q k n tgt lo st S) (kf : ¬ 0 ≤ x → V X G nL Q k n (pc + 3) lo st S) : V X G nL Q k n pc lo (.int x :: st) S := fun H ls locs hW hl hf => lv_if_ge C.1 C.2.1 d ht (fun h => kt h H ls locs hW hl hf) (fun h => kf h H ls locs hW hl hf)
theorem V_icmp_gt (C : Cx X G own cc nL ret rm tb) {x y : Int32} {off : Int} {tgt : Nat} (d : decode cc pc = .ok (.if_icmp .gt off, 3)) (ht : (pc : Int) + off = (tgt : Int)) (kt : y < x → V X G nL Q k n tgt lo st S) (kf : ¬ y < x → V X G nL Q k n (pc + 3) lo st S) : V X G nL Q k n pc lo (.int y :: .int x :: st) S := fun H ls locs hW hl hf => lv_icmp_gt C.1 C.2.1 d ht (fun h => kt h H ls locs hW hl hf) (fun h => kf h H ls locs hW hl hf)
theorem V_if_gt (C : Cx X G own cc nL ret rm tb) {x : Int32} {off : Int} {tgt : Nat} (d : decode cc pc = .ok (.ifCond .gt off, 3)) (ht : (pc : Int) + off = (tgt : Int)) (kt : 0 < x → V X G nL Q k n tgt lo st S) (kf : ¬ 0 < x → V X G nL Q k n (pc + 3) lo st S) : V X G nL Q k n pc lo (.int x :: st) S := fun H ls locs hW hl hf => lv_if_gt C.1 C.2.1 d ht (fun h => kt h H ls locs hW hl hf) (fun h => kf h H ls locs hW hl hf)
theorem V_icmp_le (C : Cx X G own cc nL ret rm tb) {x y : Int32} {off : Int} {tgt : Nat} (d : decode cc pc = .ok (.if_icmp .le off, 3)) (ht : (pc : Int) + off = (tgt : Int)) (kt : x ≤ y → V X G nL Q k n tgt lo st S) (kf : ¬ x ≤ y → V X G nL Q k n (pc + 3) lo st S) : V X G nL Q k n pc lo (.int y :: .int x :: st) S := fun H ls locs hW hl hf => lv_icmp_le C.1 C.2.1 d ht (fun h => kt h H ls locs hW hl hf) (fun h => kf h H ls locs hW hl hf)
theorem V_if_le (C : Cx X G own cc nL ret rm tb) {x : Int32} {off : Int} {tgt : Nat} (d : decode cc pc = .ok (.ifCond .le off, 3)) (ht : (pc : Int) + off = (tgt : Int)) (kt : x ≤ 0 → V X G nL Q k n tgt lo st S) (kf : ¬ x ≤ 0 → V X G nL Q k n (pc + 3) lo st S) : V X G nL Q k n pc lo (.int x :: st) S := fun H ls locs hW hl hf => lv_if_le C.1 C.2.1 d ht (fun h => kt h H ls locs hW hl hf) (fun h => kf h H ls locs hW hl hf)
theorem V_acmp_eq (C : Cx X G own cc nL ret rm tb) {rx ry : Option Nat} {off : Int} {tgt : Nat} (d : decode cc pc = .ok (.if_acmp .eq off, 3)) (ht : (pc : Int) + off = (tgt : Int)) (kt : rx = ry → V X G nL Q k n tgt lo st S) (kf : ¬ rx = ry → V X G nL Q k n (pc + 3) lo st S) : V X G nL Q k n pc lo (va_rf ry :: va_rf rx :: st) S := fun H ls locs hW hl hf => lv_acmp_eq C.1 C.2.1 d ht (fun h => kt h H ls locs hW hl hf) (fun h => kf h H ls locs hW hl hf)
theorem V_acmp_ne (C : Cx X G own cc nL ret rm tb) {rx ry : Option Nat} {off : Int} {tgt : Nat} (d : decode cc pc = .ok (.if_acmp .ne off, 3)) (ht : (pc : Int) + off = (tgt : Int)) (kt : (¬ rx = ry) → V X G nL Q k n tgt lo st S) (kf : rx = ry → V X G nL Q k n (pc + 3) lo st S) : V X G nL Q k n pc lo (va_rf ry :: va_rf rx :: st) S := fun H ls locs hW hl hf => lv_acmp_ne C.1 C.2.1 d ht (fun h => kt h H ls locs hW hl hf) (fun h => kf h H ls locs hW hl hf)
theorem V_ifnull (C : Cx X G own cc nL ret rm tb) {o : Option Nat} {off : Int} {tgt : Nat} (d : decode cc pc = .ok (.ifnull off, 3)) (ht : (pc : Int) + off = (tgt : Int)) (kt : o = none → V X G nL Q k n tgt lo st S) (kf : ∀ a, o = some a → V X G nL Q k n (pc + 3) lo st S) : V X G nL Q k n pc lo (va_rf o :: st) S := by
  cases o with
  | none => exact fun H ls locs hW hl hf => lv_ifnullN C.1 C.2.1 d ht (kt rfl H ls locs hW hl hf)
  | some a => exact fun H ls locs hW hl hf => lv_ifnull C.1 C.2.1 d (kf a rfl H ls locs hW hl hf)
theorem V_ifnonnull (C : Cx X G own cc nL ret rm tb) {o : Option Nat} {off : Int} {tgt : Nat} (d : decode cc pc = .ok (.ifnonnull off, 3)) (ht : (pc : Int) + off = (tgt : Int)) (kt : ∀ a, o = some a → V X G nL Q k n tgt lo st S) (kf : o = none → V X G nL Q k n (pc + 3) lo st S) : V X G nL Q k n pc lo (va_rf o :: st) S := by
  cases o with
  | none => exact fun H ls locs hW hl hf => lv_ifnonnullN C.1 C.2.1 d (kf rfl H ls locs hW hl hf)
  | some a => exact fun H ls locs hW hl hf => lv_ifnonnull C.1 C.2.1 d ht (kt a rfl H ls locs hW hl hf)
theorem V_tableIn (C : Cx X G own cc nL ret rm tb) {dflt lo9 hi : Int} {offs : Array Int} {len : Nat} {x : Int32} {off : Int} {tgt : Nat} (d : decode cc pc = .ok (.tableswitch dflt lo9 hi offs, len)) (h1 : ¬ x.toInt < lo9) (h2 : ¬ hi < x.toInt) (ho : offs[(x.toInt - lo9).toNat]? = some off) (ht : (pc : Int) + off = (tgt : Int)) (kk : V X G nL Q k n tgt lo st S) : V X G nL Q k n pc lo (.int x :: st) S := fun H ls locs hW hl hf => lv_tableIn C.1 C.2.1 d h1 h2 ho ht (kk H ls locs hW hl hf)
theorem V_tableOut (C : Cx X G own cc nL ret rm tb) {dflt lo9 hi : Int} {offs : Array Int} {len : Nat} {x : Int32} {tgt : Nat} (d : decode cc pc = .ok (.tableswitch dflt lo9 hi offs, len)) (h : x.toInt < lo9 ∨ hi < x.toInt) (ht : (pc : Int) + dflt = (tgt : Int)) (kk : V X G nL Q k n tgt lo st S) : V X G nL Q k n pc lo (.int x :: st) S := fun H ls locs hW hl hf => lv_tableOut C.1 C.2.1 d h ht (kk H ls locs hW hl hf)
end VR
end
section
/-! ROWS THAT READ AND WRITE THE STORE. -/
def vC (ci : Nat) : vw_C := vwCl.getD ci (RX0, TX0, 0)
def vT : Nat → Nat → FieldType
  | 0 => tyX0 | 1 => tyX1 | 2 => tyX2 | 3 => tyX3 | 4 => tyX4 | 5 => tyX5 | 6 => tyX6 | 7 => tyX7 | 8 => tyX8 | _ => tyX9
/-- what the tables say of a class -/
def cF (ci : Nat) : Prop := ∃ r : vw_C, vwCl[ci]? = some r ∧ vC ci = r ∧ r.2.2 = nF ci ∧ (∀ w ∈ u_ws r.1 r.2.1 r.2.2, w ∈ lw_good) ∧ (∀ k, k < r.2.2 → parseFieldDescriptor (r.2.1 k).2.2.1 = some (vT ci k)) ∧ ∀ a, a < r.2.2 → ∀ b, b < r.2.2 → a ≠ b → (r.2.1 a).2.1 ≠ (r.2.1 b).2.1
/-- what the tables say of a field's entry in a pool -/
def fL (own : String) (idx ci kf : Nat) : Prop := kf < nF ci ∧ Cond.fieldLink own idx ((vC ci).2.1 kf).1 ((vC ci).2.1 kf).2.1 ((vC ci).2.1 kf).2.2.1 ∈ lw_good
theorem sFs_len (S : sS) (c a : Nat) : (sFs S c a).length = nF c := by simp [sFs]
theorem sFs_get (S : sS) {c a k : Nat} (h : k < nF c) : (sFs S c a)[k]? = some (sV S (100 * c + k) a) := by
  simp [sFs, h]
theorem sFs_V (S : sS) {c a k : Nat} (h : k < nF c) : vp_V (sFs S c a) k = sV S (100 * c + k) a := by
  unfold vp_V
  rw [List.getD_eq_getElem?_getD, sFs_get S h]
  rfl
theorem wE_obj {G : gG} {S : sS} {a c : Nat} (h : sK S a = c + 1) (hc : c < 50) : wE G S a = .inr (c, sFs S c a) := by
  unfold wE
  rw [h, if_pos (by omega)]
  rfl
theorem wE_arr {G : gG} {S : sS} {a c : Nat} (h : sK S a = c) (hc : 100 ≤ c) : wE G S a = wA G S a (c % 10) := by
  unfold wE
  rw [h, if_neg (by omega)]
theorem wE_eq {G : gG} {S S' : sS} {a : Nat} (h1 : sK S' a = sK S a) (h2 : sL S' a = sL S a) (h3 : ∀ f, sI S' f a = sI S f a) (h4 : ∀ f, sR S' f a = sR S f a) (h5 : sA S' a = sA S a) (h6 : sJ S' a = sJ S a) (h7 : sQ S' a = sQ S a) : wE G S' a = wE G S a := by
  have e : ∀ c, sFs S' c a = sFs S c a := fun c => by
    unfold sFs sV
    simp only [h3, h4]
  unfold wE wA
  rw [h1, h2, h5, h6, h7, e]
theorem wW_obj {G : gG} {S : sS} {H : Heap} (hW : wW G S H) {a ci : Nat} (hK : sK S a = ci + 1) (hci : ci < 50) : va_P G.1 vwCl [(a, .inr (ci, sFs S ci a))] H := by
  intro k q hq
  have hz : k < 1 := (List.getElem?_eq_some_iff.mp hq).1
  rw [show k = 0 by omega] at hq
  cases hq
  have h := (hW.2.2 a (by omega)).2
  rwa [wE_obj hK hci] at h
theorem wW_arr {G : gG} {S : sS} {H : Heap} (hW : wW G S H) {a c : Nat} (hK : sK S a = c) (hc : 100 ≤ c) : va_P G.1 vwCl [(a, wA G S a (c % 10))] H := by
  intro k q hq
  have hz : k < 1 := (List.getElem?_eq_some_iff.mp hq).1
  rw [show k = 0 by omega] at hq
  cases hq
  have h := (hW.2.2 a (by omega)).2
  rwa [wE_arr hK hc] at h
theorem up2_far {α : Type} {f : Nat → Nat → α} {a b x : Nat} {v : α} (h : x ≠ a) : up2 f a b v x = f x := funext fun y => up2_n1 h
/-- a world with one cell changed -/
theorem wW_upd {G : gG} {S S' : sS} {H H' : Heap} {a : Nat} (hW : wW G S H) (ha : sK S a ≠ 0) (hk : ∀ b, sK S' b = sK S b) (he : ∀ b, b ≠ a → wE G S' b = wE G S b) (h1 : va_at G.1 vwCl (a, wE G S' a) H') (h2 : H'.size = H.size) (h3 : ∀ q : Nat, q ≠ a → H'[q]? = H[q]?) : wW G S' H' := by
  have hB := (hW.2.2 a ha).1
  refine ⟨by rw [h2]; exact hW.1, fun q hq => by rw [h3 q (by omega)]; exact hW.2.1 q hq, fun b hb => ?_⟩
  rw [hk] at hb
  obtain ⟨g1, g2⟩ := hW.2.2 b hb
  refine ⟨g1, ?_⟩
  by_cases e : b = a
  · rw [e]; exact h1
  · rw [he b e]
    exact g2.kept (h3 b e)
section VH
variable {X : xX} {G : gG} {own : String} {cc : ByteArray} {nL : Nat} {ret : Option FieldType} {rm : Room} {tb : List ExceptionTableEntry} {Q : State → Prop} {k n pc : Nat} {lo : lO} {st : List Value} {S : sS}
theorem V_get (C : Cx X G own cc nL ret rm tb) {ci kf idx a : Nat} (hF : cF ci) (hL : fL own idx ci kf) (hci : ci < 50) (d : decode cc pc = .ok (.getfield idx, 3)) (hK : sK S a = ci + 1) (kk : V X G nL Q k n (pc + 3) lo (sV S (100 * ci + kf) a :: st) S) : V X G nL Q k n pc lo (.ref a :: st) S := by
  intro H ls locs hW hl hf
  obtain ⟨r, h1, h2, h3, h4, h5, h6⟩ := hF
  obtain ⟨g1, g2⟩ := hL
  rw [h2] at g2
  exact va_get C.1 C.2.1 (C := r.1) (T := r.2.1) (N := r.2.2) (ci := ci) C.2.2.2.2.1 h4 C.2.2.2.1 C.2.2.2.2.2.1.1 (wW_obj hW hK hci) 0 rfl h1 kf (by rw [h3]; exact g1) (C.2.2.2.2.1 _ g2) (fun x h => h) (sFs_get S g1) d (kk H ls locs hW hl hf)
theorem V_getI (C : Cx X G own cc nL ret rm tb) (ci kf : Nat) {f idx a : Nat} (hf : 100 * ci + kf = f) (hF : cF ci) (hL : fL own idx ci kf) (hci : ci < 50) (hr : fRef f = false) (d : decode cc pc = .ok (.getfield idx, 3)) (hK : sK S a = ci + 1) (kk : V X G nL Q k n (pc + 3) lo (.int (sI S f a) :: st) S) : V X G nL Q k n pc lo (.ref a :: st) S := by
  refine V_get C hF hL hci d hK ?_
  rw [hf]
  unfold sV
  rw [if_neg (by rw [hr]; decide)]
  exact kk
theorem V_getR (C : Cx X G own cc nL ret rm tb) (ci kf : Nat) {f idx a : Nat} (hf : 100 * ci + kf = f) (hF : cF ci) (hL : fL own idx ci kf) (hci : ci < 50) (hr : fRef f = true) (d : decode cc pc = .ok (.getfield idx, 3)) (hK : sK S a = ci + 1) (kk : V X G nL Q k n (pc + 3) lo (va_rf (sR S f a) :: st) S) : V X G nL Q k n pc lo (.ref a :: st) S := by
  refine V_get C hF hL hci d hK ?_
  rw [hf]
  unfold sV
  rw [if_pos hr]
  exact kk
/-- a field that is known to hold a reference -/
theorem V_getS (C : Cx X G own cc nL ret rm tb) (ci kf : Nat) {f idx a x : Nat} (hf : 100 * ci + kf = f) (hF : cF ci) (hL : fL own idx ci kf) (hci : ci < 50) (hr : fRef f = true) (d : decode cc pc = .ok (.getfield idx, 3)) (hK : sK S a = ci + 1) (hx : sR S f a = some x) (kk : V X G nL Q k n (pc + 3) lo (.ref x :: st) S) : V X G nL Q k n pc lo (.ref a :: st) S := by
  refine V_getR C ci kf hf hF hL hci hr d hK ?_
  rw [hx]
  exact kk
/-- the cell of an object with field kf written: the new world -/
theorem wW_put {G : gG} {S S' : sS} {H H' : Heap} {a ci kf : Nat} {v : Value} {r : vw_C} {cell : Cell} (hW : wW G S H) (hK : sK S a = ci + 1) (hci : ci < 50) (h1 : vwCl[ci]? = some r) (h3 : r.2.2 = nF ci) (hkf : kf < nF ci)
    (hap : ∀ x y, x < r.2.2 → y < r.2.2 → x ≠ y → (G.1.2 ci) x ≠ (G.1.2 ci) y)
    (q2 : cell.cls = G.1.1 ci) (q3 : cell.vm = .none) (q4 : ∀ j, j < r.2.2 → cell.slots[(G.1.2 ci) j]? = some (vp_V (sFs S ci a) j))
    (hk : ∀ b, sK S' b = sK S b) (he : ∀ b, b ≠ a → wE G S' b = wE G S b) (hv : sV S' (100 * ci + kf) a = v) (ho : ∀ j, j ≠ kf → sV S' (100 * ci + j) a = sV S (100 * ci + j) a)
    (e1 : H'[a]? = some (cell.setSlot ((G.1.2 ci) kf) v)) (e2 : H'.size = H.size) (e3 : ∀ q : Nat, q ≠ a → H'[q]? = H[q]?) : wW G S' H' := by
  refine wW_upd hW (by omega) hk he ?_ e2 e3
  rw [wE_obj (by rw [hk]; exact hK) hci]
  refine ⟨r, h1, t_OB.to (V := updV (vp_V (sFs S ci a)) kf v) ⟨_, e1, q2, q3, t_set q4 hap (by rw [h3]; exact hkf) v⟩ (fun j hj => ?_)⟩
  rw [h3] at hj
  rw [sFs_V S' hj]
  by_cases e : j = kf
  · subst e
    rw [hv]
    simp [updV]
  · rw [ho j e]
    simp only [updV, if_neg e]
    rw [sFs_V S hj]
/-- what a store into a field asks of the tables -/
def pL (own : String) (idx ci kf : Nat) (fin : Bool) (ty : FieldType) : Prop := fL own idx ci kf ∧ ((vC ci).2.1 kf).2.2.2 = fin ∧ parseFieldDescriptor ((vC ci).2.1 kf).2.2.1 = some ty
theorem V_put (C : Cx X G own cc nL ret rm tb) {ci kf idx a : Nat} {ty : FieldType} {v : Value} {S' : sS} (hF : cF ci) (hL : pL own idx ci kf false ty) (hci : ci < 50) (d : decode cc pc = .ok (.putfield idx, 3)) (hK : sK S a = ci + 1) (hn : narrow ty v = v) (hfit : fits ty v = true)
    (hk : ∀ b, sK S' b = sK S b) (he : ∀ b, b ≠ a → wE G S' b = wE G S b) (hv : sV S' (100 * ci + kf) a = v) (ho : ∀ j, j ≠ kf → sV S' (100 * ci + j) a = sV S (100 * ci + j) a)
    (kk : V X G nL Q k n (pc + 3) lo st S') : V X G nL Q k n pc lo (v :: .ref a :: st) S := by
  intro H ls locs hW hl hf
  obtain ⟨r, h1, h2, h3, h4, h5, h6⟩ := hF
  obtain ⟨⟨g1, g2⟩, g3, g4⟩ := hL
  rw [h2] at g2 g3 g4
  have hkf : kf < r.2.2 := by rw [h3]; exact g1
  have hKK := C.2.2.2.2.2.1.1
  have hts := C.2.2.2.2.1
  have hap := va_apart (own := own) hts h4 (vT ci) h5 h6 hKK h1
  obtain ⟨r', hr', cell, q1, q2, q3, q4⟩ := wW_obj hW hK hci 0 _ rfl
  have er : r' = r := Option.some.inj (hr'.symm.trans h1)
  subst er
  obtain ⟨hS, hfc, kC, hkC, hkind⟩ := hKK.1 ci _ h1
  obtain ⟨cf, kf9, fi, f, hi, hsl⟩ := hS kf hkf
  have hlay := hts _ (h4 _ (u_in_lay hkf))
  unfold u_lay at hlay
  rw [if_neg (by rw [g3]; decide)] at hlay
  have hst := (u_facts hfc hkC (u_lays hts h4 hkf) hi).1
  have h7 := u_store hfc hkC hkind hlay hi g4 hn hfit
  refine W.putK C.1 C.2.1 (f := f) ⟨C.2.2.2.1, hts _ g2, ⟨_, _, _, hi⟩, hst⟩ (by rw [q2]; exact h7) q1 q3 (by rw [hsl]; exact k2_hasslot (q4 kf hkf)) rfl rfl d fun H' e1 e2 e3 => ?_
  rw [hsl] at e1 ⊢
  refine kk H' ls _ (wW_put hW hK hci h1 h3 g1 hap q2 q3 q4 hk he hv ho e1 e2 e3) hl fun z hz => ?_
  rcases List.mem_append.mp hz with h | h
  · exact hf z h
  · rw [List.mem_singleton.mp h]
    exact (hW.2.2 a (by omega)).1
theorem V_putF (C : Cx X G own cc nL ret rm tb) {ci kf idx a : Nat} {ty : FieldType} {v : Value} {S' : sS} (hin2 : X.2.2.2.2.2.2.2.2.1.name = "<init>") (hdecl : ((vC ci).2.1 kf).1 = own) (hF : cF ci) (hL : pL own idx ci kf true ty) (hci : ci < 50) (d : decode cc pc = .ok (.putfield idx, 3)) (hK : sK S a = ci + 1) (hn : narrow ty v = v) (hfit : fits ty v = true)
    (hk : ∀ b, sK S' b = sK S b) (he : ∀ b, b ≠ a → wE G S' b = wE G S b) (hv : sV S' (100 * ci + kf) a = v) (ho : ∀ j, j ≠ kf → sV S' (100 * ci + j) a = sV S (100 * ci + j) a)
    (kk : V X G nL Q k n (pc + 3) lo st S') : V X G nL Q k n pc lo (v :: .ref a :: st) S := by
  intro H ls locs hW hl hf
  obtain ⟨r, h1, h2, h3, h4, h5, h6⟩ := hF
  obtain ⟨⟨g1, g2⟩, g3, g4⟩ := hL
  rw [h2] at g2 g3 g4 hdecl
  have hkf : kf < r.2.2 := by rw [h3]; exact g1
  have hKK := C.2.2.2.2.2.1.1
  have hts := C.2.2.2.2.1
  have hap := va_apart (own := own) hts h4 (vT ci) h5 h6 hKK h1
  obtain ⟨r', hr', cell, q1, q2, q3, q4⟩ := wW_obj hW hK hci 0 _ rfl
  have er : r' = r := Option.some.inj (hr'.symm.trans h1)
  subst er
  obtain ⟨hS, hfc, kC, hkC, hkind⟩ := hKK.1 ci _ h1
  obtain ⟨cf, kf9, fi, f, hi, hsl⟩ := hS kf hkf
  have hlay := hts _ (h4 _ (u_in_lay hkf))
  unfold u_lay at hlay
  rw [if_pos g3] at hlay
  have hst := (u_facts hfc hkC (u_lays hts h4 hkf) hi).1
  have hcf : X.2.2.2.2.2.1.cls = cf := by
    obtain ⟨_, _, c', _, _, _, -, -, hf', -, -, -, hown2, -⟩ := Cond.laysFinal_spec hlay
    have e1 : c' = cf := by have := hi.symm.trans hf'; simp at this; exact this.1.symm
    rw [hdecl] at hown2
    rw [← e1]; exact Option.some.inj (C.2.2.2.1.symm.trans hown2)
  have h7 := u_fits hfc hkC hkind (Or.inr hlay) hi g4 hn hfit
  refine W.putFinK C.1 C.2.1 C.2.2.2.1 (hts _ g2) hi hst hcf hin2 (by rw [q2]; exact h7) q1 q3 (by rw [hsl]; exact k2_hasslot (q4 kf hkf)) rfl rfl d fun H' e1 e2 e3 => ?_
  rw [hsl] at e1 ⊢
  refine kk H' ls _ (wW_put hW hK hci h1 h3 g1 hap q2 q3 q4 hk he hv ho e1 e2 e3) hl fun z hz => ?_
  rcases List.mem_append.mp hz with h | h
  · exact hf z h
  · rw [List.mem_singleton.mp h]
    exact (hW.2.2 a (by omega)).1
theorem pI_he {f a : Nat} {v : Int32} : ∀ b, b ≠ a → wE G (pI S f a v) b = wE G S b := fun b hb => wE_eq rfl rfl (fun g => up2_n2 hb) (fun g => rfl) rfl rfl rfl
theorem pR_he {f a : Nat} {v : Option Nat} : ∀ b, b ≠ a → wE G (pR S f a v) b = wE G S b := fun b hb => wE_eq rfl rfl (fun g => rfl) (fun g => up2_n2 hb) rfl rfl rfl
theorem pI_hv {f a : Nat} {v : Int32} (hr : fRef f = false) : sV (pI S f a v) f a = .int v := by
  unfold sV
  rw [if_neg (by rw [hr]; decide)]
  exact congrArg Value.int up2_s
theorem pI_ho {ci kf f a : Nat} {v : Int32} (hf : 100 * ci + kf = f) : ∀ j, j ≠ kf → sV (pI S f a v) (100 * ci + j) a = sV S (100 * ci + j) a := fun j hj => by
  unfold sV
  rw [show sI (pI S f a v) (100 * ci + j) a = sI S (100 * ci + j) a from up2_n1 (by omega)]
  rfl
theorem pR_hv {f a : Nat} {v : Option Nat} (hr : fRef f = true) : sV (pR S f a v) f a = va_rf v := by
  unfold sV
  rw [if_pos hr]
  exact congrArg va_rf up2_s
theorem pR_ho {ci kf f a : Nat} {v : Option Nat} (hf : 100 * ci + kf = f) : ∀ j, j ≠ kf → sV (pR S f a v) (100 * ci + j) a = sV S (100 * ci + j) a := fun j hj => by
  unfold sV
  rw [show sR (pR S f a v) (100 * ci + j) a = sR S (100 * ci + j) a from up2_n1 (by omega)]
  rfl
theorem V_putI (C : Cx X G own cc nL ret rm tb) (ci kf : Nat) {f idx a : Nat} {v : Int32} (hf : 100 * ci + kf = f) (hF : cF ci) (hL : pL own idx ci kf false .int) (hci : ci < 50) (hr : fRef f = false) (d : decode cc pc = .ok (.putfield idx, 3)) (hK : sK S a = ci + 1) (kk : V X G nL Q k n (pc + 3) lo st (pI S f a v)) : V X G nL Q k n pc lo (.int v :: .ref a :: st) S :=
  V_put (S' := pI S f a v) C hF hL hci d hK rfl rfl (fun _ => rfl) pI_he (by rw [hf]; exact pI_hv hr) (pI_ho hf) kk
theorem V_putZ (C : Cx X G own cc nL ret rm tb) (ci kf : Nat) {f idx a : Nat} {v : Int32} (hf : 100 * ci + kf = f) (hF : cF ci) (hL : pL own idx ci kf false .boolean) (hci : ci < 50) (hr : fRef f = false) (d : decode cc pc = .ok (.putfield idx, 3)) (hK : sK S a = ci + 1) (hz : v = 0 ∨ v = 1) (kk : V X G nL Q k n (pc + 3) lo st (pI S f a v)) : V X G nL Q k n pc lo (.int v :: .ref a :: st) S :=
  V_put (S' := pI S f a v) C hF hL hci d hK (by rcases hz with rfl | rfl <;> rfl) (by rcases hz with rfl | rfl <;> rfl) (fun _ => rfl) pI_he (by rw [hf]; exact pI_hv hr) (pI_ho hf) kk
theorem ref_nf {ty : FieldType} (h : (∃ c, ty = .object c) ∨ ∃ t, ty = .array t) (o : Option Nat) : narrow ty (va_rf o) = va_rf o ∧ fits ty (va_rf o) = true := by
  rcases h with ⟨c, rfl⟩ | ⟨t, rfl⟩ <;> cases o <;> exact ⟨rfl, rfl⟩
theorem V_putR (C : Cx X G own cc nL ret rm tb) (ci kf : Nat) {f idx a : Nat} {ty : FieldType} {o : Option Nat} (hf : 100 * ci + kf = f) (hF : cF ci) (hL : pL own idx ci kf false ty) (hty : (∃ c, ty = .object c) ∨ ∃ t, ty = .array t) (hci : ci < 50) (hr : fRef f = true) (d : decode cc pc = .ok (.putfield idx, 3)) (hK : sK S a = ci + 1) (kk : V X G nL Q k n (pc + 3) lo st (pR S f a o)) : V X G nL Q k n pc lo (va_rf o :: .ref a :: st) S :=
  V_put (S' := pR S f a o) C hF hL hci d hK (ref_nf hty o).1 (ref_nf hty o).2 (fun _ => rfl) pR_he (by rw [hf]; exact pR_hv hr) (pR_ho hf) kk
theorem V_putFI (C : Cx X G own cc nL ret rm tb) (hin2 : X.2.2.2.2.2.2.2.2.1.name = "<init>") (ci kf : Nat) {f idx a : Nat} {v : Int32} (hf : 100 * ci + kf = f) (hF : cF ci) (hL : pL own idx ci kf true .int) (hdecl : ((vC ci).2.1 kf).1 = own) (hci : ci < 50) (hr : fRef f = false) (d : decode cc pc = .ok (.putfield idx, 3)) (hK : sK S a = ci + 1) (kk : V X G nL Q k n (pc + 3) lo st (pI S f a v)) : V X G nL Q k n pc lo (.int v :: .ref a :: st) S :=
  V_putF (S' := pI S f a v) C hin2 hdecl hF hL hci d hK rfl rfl (fun _ => rfl) pI_he (by rw [hf]; exact pI_hv hr) (pI_ho hf) kk
theorem V_putFR (C : Cx X G own cc nL ret rm tb) (hin2 : X.2.2.2.2.2.2.2.2.1.name = "<init>") (ci kf : Nat) {f idx a : Nat} {ty : FieldType} {o : Option Nat} (hf : 100 * ci + kf = f) (hF : cF ci) (hL : pL own idx ci kf true ty) (hdecl : ((vC ci).2.1 kf).1 = own) (hty : (∃ c, ty = .object c) ∨ ∃ t, ty = .array t) (hci : ci < 50) (hr : fRef f = true) (d : decode cc pc = .ok (.putfield idx, 3)) (hK : sK S a = ci + 1) (kk : V X G nL Q k n (pc + 3) lo st (pR S f a o)) : V X G nL Q k n pc lo (va_rf o :: .ref a :: st) S :=
  V_putF (S' := pR S f a o) C hin2 hdecl hF hL hci d hK (ref_nf hty o).1 (ref_nf hty o).2 (fun _ => rfl) pR_he (by rw [hf]; exact pR_hv hr) (pR_ho hf) kk
end VH
end
section
/-! ROWS OF ARRAYS, AND OF WHAT IS MADE. -/
theorem tyA_at (G : gG) {j : Nat} (h0 : 1 ≤ j) (h : j ≤ 7) : (tysA G)[j]? = some (G.2.1 j, tyA j) := by
  rcases (show j = 1 ∨ j = 2 ∨ j = 3 ∨ j = 4 ∨ j = 5 ∨ j = 6 ∨ j = 7 by omega) with rfl | rfl | rfl | rfl | rfl | rfl | rfl <;> rfl
theorem wK_arr {G : gG} {U : State} (h : wK G U) {j : Nat} (h0 : 1 ≤ j) (h1 : j ≤ 7) : ArrOfT U (G.2.1 j) (tyA j) ∧ va_RA U (G.2.1 j) (tyA j) := h.1.2 j _ (tyA_at G h0 h1)
section VA
variable {X : xX} {G : gG} {own : String} {cc : ByteArray} {nL : Nat} {ret : Option FieldType} {rm : Room} {tb : List ExceptionTableEntry} {Q : State → Prop} {k n pc : Nat} {lo : lO} {st : List Value} {S : sS}
theorem V_iald (C : Cx X G own cc nL ret rm tb) {a c : Nat} {i : Int32} (hK : sK S a = c) (hc : 100 ≤ c ∧ c % 10 = 1) (hin : vp_in i (sL S a)) (d : decode cc pc = .ok (.iaload, 1)) (kk : V X G nL Q k n (pc + 1) lo (.int (sA S a i.toNatClampNeg) :: st) S) : V X G nL Q k n pc lo (.int i :: .ref a :: st) S := by
  intro H ls locs hW hl hf
  have hP := wW_arr hW hK hc.1
  rw [hc.2] at hP
  exact va_iald C.1 C.2.1 C.2.2.2.2.2.1.1 hP 0 1 rfl rfl hin d (kk H ls locs hW hl hf)
theorem V_zald (C : Cx X G own cc nL ret rm tb) {a c : Nat} {i : Int32} (hK : sK S a = c) (hc : 100 ≤ c ∧ c % 10 = 2) (hin : vp_in i (sL S a)) (d : decode cc pc = .ok (.baload, 1)) (kk : V X G nL Q k n (pc + 1) lo (.int (sA S a i.toNatClampNeg) :: st) S) : V X G nL Q k n pc lo (.int i :: .ref a :: st) S := by
  intro H ls locs hW hl hf
  have hP := wW_arr hW hK hc.1
  rw [hc.2] at hP
  exact va_zald C.1 C.2.1 C.2.2.2.2.2.1.1 hP 0 2 rfl rfl hin d (kk H ls locs hW hl hf)
theorem V_lald (C : Cx X G own cc nL ret rm tb) {a c : Nat} {i : Int32} (hK : sK S a = c) (hc : 100 ≤ c ∧ c % 10 = 3) (hin : vp_in i (sL S a)) (d : decode cc pc = .ok (.laload, 1)) (kk : V X G nL Q k n (pc + 1) lo (.long (sJ S a i.toNatClampNeg) :: st) S) : V X G nL Q k n pc lo (.int i :: .ref a :: st) S := by
  intro H ls locs hW hl hf
  have hP := wW_arr hW hK hc.1
  rw [hc.2] at hP
  exact va_lald C.1 C.2.1 C.2.2.2.2.2.1.1 hP 0 3 rfl rfl hin d (kk H ls locs hW hl hf)
theorem V_aald (C : Cx X G own cc nL ret rm tb) {a c : Nat} {i : Int32} (t : Nat) (ht : 4 ≤ t ∧ t ≤ 7) (hK : sK S a = c) (hc : 100 ≤ c ∧ c % 10 = t) (hin : vp_in i (sL S a)) (d : decode cc pc = .ok (.aaload, 1)) (kk : V X G nL Q k n (pc + 1) lo (va_rf (sQ S a i.toNatClampNeg) :: st) S) : V X G nL Q k n pc lo (.int i :: .ref a :: st) S := by
  intro H ls locs hW hl hf
  have hP := wW_arr hW hK hc.1
  rw [hc.2] at hP
  have e : wA G S a t = .inl (G.2.1 t, sL S a, .inr (.inr (.inr (.inr (sQ S a))))) := by
    rcases (show t = 4 ∨ t = 5 ∨ t = 6 ∨ t = 7 by omega) with rfl | rfl | rfl | rfl <;> rfl
  rw [e] at hP
  have hlt : i.toNatClampNeg < sL S a := Nat.not_le.mp fun q => hin (Or.inr q)
  have hr : (tyA t).isReference = true := by
    rcases (show t = 4 ∨ t = 5 ∨ t = 6 ∨ t = 7 by omega) with rfl | rfl | rfl | rfl <;> rfl
  exact W.aald (v := va_rf (sQ S a i.toNatClampNeg)) (ty := tyA t) C.1 C.2.1 (hP 0 _ rfl) ((wK_arr C.2.2.2.2.2.1 (by omega) ht.2).1 _ (fun j => va_rf (sQ S a j))) hr (fun q => by cases q) (by show ¬ (i < 0 ∨ (arrV _ _ _).slots.size ≤ _); rw [arrV_size]; exact hin) (by show (arrV _ _ _).slots[_]? = _; rw [arrV_read _ _ hlt]) rfl rfl d (kk H ls locs hW hl hf)
theorem V_alen (C : Cx X G own cc nL ret rm tb) {a c : Nat} {v : Int32} (hK : sK S a = c) (hc : 100 ≤ c ∧ 1 ≤ c % 10 ∧ c % 10 ≤ 7) (hv : Int32.ofNat (sL S a) = v) (d : decode cc pc = .ok (.arraylength, 1)) (kk : V X G nL Q k n (pc + 1) lo (.int v :: st) S) : V X G nL Q k n pc lo (.ref a :: st) S := by
  intro H ls locs hW hl hf
  have hP := wW_arr hW hK hc.1
  have e : ∃ x : vp_A, wA G S a (c % 10) = .inl (G.2.1 (c % 10), x) ∧ x.1 = sL S a := by
    rcases (show c % 10 = 1 ∨ c % 10 = 2 ∨ c % 10 = 3 ∨ c % 10 = 4 ∨ c % 10 = 5 ∨ c % 10 = 6 ∨ c % 10 = 7 by omega) with h | h | h | h | h | h | h <;> rw [h] <;> exact ⟨_, rfl, rfl⟩
  obtain ⟨x, e1, e2⟩ := e
  rw [e1] at hP
  exact va_alen C.1 C.2.1 C.2.2.2.2.2.1.1 hP 0 (c % 10) rfl (tyA_at G hc.2.1 hc.2.2) (by rw [e2]; exact hv) d (kk H ls locs hW hl hf)
theorem arr_put {S' : sS} {H H' : Heap} {a c : Nat} (hW : wW G S H) (hK : sK S a = c) (hc : 100 ≤ c) (hk : ∀ b, sK S' b = sK S b) (he : ∀ b, b ≠ a → wE G S' b = wE G S b) (h1 : va_at G.1 vwCl (a, wA G S' a (c % 10)) H') (h2 : H'.size = H.size) (h3 : ∀ q : Nat, q ≠ a → H'[q]? = H[q]?) : wW G S' H' :=
  wW_upd hW (by omega) hk he (by rw [wE_arr (by rw [hk]; exact hK) hc]; exact h1) h2 h3
theorem locs_put {H : Heap} {locs : List Loc} {a j : Nat} (hW : wW G S H) (ha : sK S a ≠ 0) (hf : ∀ z ∈ locs, wB G ≤ z.base) : ∀ z ∈ locs ++ [(⟨a, j⟩ : Loc)], wB G ≤ z.base := fun z hz => by
  rcases List.mem_append.mp hz with h | h
  · exact hf z h
  · rw [List.mem_singleton.mp h]
    exact (hW.2.2 a ha).1
theorem V_iast (C : Cx X G own cc nL ret rm tb) {a c : Nat} {i v : Int32} (hK : sK S a = c) (hc : 100 ≤ c ∧ c % 10 = 1) (hin : vp_in i (sL S a)) (d : decode cc pc = .ok (.iastore, 1)) (kk : V X G nL Q k n (pc + 1) lo st (pA S a i.toNatClampNeg v)) : V X G nL Q k n pc lo (.int v :: .int i :: .ref a :: st) S := by
  intro H ls locs hW hl hf
  have hP := wW_arr hW hK hc.1
  rw [hc.2] at hP
  refine W.iast C.1 C.2.1 (hP 0 _ rfl) ((wK_arr C.2.2.2.2.2.1 (j := 1) (by omega) (by omega)).1 _ (fun j => .int (sA S a j))) (fun q => by cases q) (by show ¬ (i < 0 ∨ (arrV _ _ _).slots.size ≤ _); rw [arrV_size]; exact hin) rfl rfl d fun H1 e z oq => ?_
  refine kk H1 ls _ (arr_put hW hK hc.1 (fun _ => rfl) (fun b hb => wE_eq rfl rfl (fun _ => rfl) (fun _ => rfl) (up2_far hb) rfl rfl) ?_ z oq) hl (locs_put hW (show sK S a ≠ 0 by rw [hK]; omega) hf)
  rw [hc.2]
  show H1[a]? = some (vp_cell _ _)
  rw [e]
  dsimp only
  rw [vp_cell_i, vp_cell_i, arrV_store]
  congr 2
  funext q
  by_cases hq : q = i.toNatClampNeg
  · subst hq
    simp only [updV, if_pos]
    exact congrArg Value.int up2_s.symm
  · simp only [updV, if_neg hq]
    exact congrArg Value.int (up2_n2 hq).symm
theorem V_zast (C : Cx X G own cc nL ret rm tb) {a c : Nat} {i v : Int32} (hK : sK S a = c) (hc : 100 ≤ c ∧ c % 10 = 2) (hin : vp_in i (sL S a)) (hz : v = 0 ∨ v = 1) (d : decode cc pc = .ok (.bastore, 1)) (kk : V X G nL Q k n (pc + 1) lo st (pA S a i.toNatClampNeg v)) : V X G nL Q k n pc lo (.int v :: .int i :: .ref a :: st) S := by
  intro H ls locs hW hl hf
  have hP := wW_arr hW hK hc.1
  rw [hc.2] at hP
  refine W.zast C.1 C.2.1 (hP 0 _ rfl) ((wK_arr C.2.2.2.2.2.1 (j := 2) (by omega) (by omega)).1 _ (fun j => .int (sA S a j))) (fun q => by cases q) (by show ¬ (i < 0 ∨ (arrV _ _ _).slots.size ≤ _); rw [arrV_size]; exact hin) rfl rfl d fun H1 e z oq => ?_
  refine kk H1 ls _ (arr_put hW hK hc.1 (fun _ => rfl) (fun b hb => wE_eq rfl rfl (fun _ => rfl) (fun _ => rfl) (up2_far hb) rfl rfl) ?_ z oq) hl (locs_put hW (show sK S a ≠ 0 by rw [hK]; omega) hf)
  rw [hc.2]
  show H1[a]? = some (vp_cell _ _)
  rw [e, show narrow .boolean (.int v) = .int v by rcases hz with rfl | rfl <;> rfl]
  dsimp only
  rw [vp_cell_i, vp_cell_i, arrV_store]
  congr 2
  funext q
  by_cases hq : q = i.toNatClampNeg
  · subst hq
    simp only [updV, if_pos]
    exact congrArg Value.int up2_s.symm
  · simp only [updV, if_neg hq]
    exact congrArg Value.int (up2_n2 hq).symm
theorem V_last (C : Cx X G own cc nL ret rm tb) {a c : Nat} {i : Int32} {v : Int64} (hK : sK S a = c) (hc : 100 ≤ c ∧ c % 10 = 3) (hin : vp_in i (sL S a)) (d : decode cc pc = .ok (.lastore, 1)) (kk : V X G nL Q k n (pc + 1) lo st (pJ S a i.toNatClampNeg v)) : V X G nL Q k n pc lo (.long v :: .int i :: .ref a :: st) S := by
  intro H ls locs hW hl hf
  have hP := wW_arr hW hK hc.1
  rw [hc.2] at hP
  refine W.last C.1 C.2.1 (hP 0 _ rfl) ((wK_arr C.2.2.2.2.2.1 (j := 3) (by omega) (by omega)).1 _ (fun j => .long (sJ S a j))) (fun q => by cases q) (by show ¬ (i < 0 ∨ (arrV _ _ _).slots.size ≤ _); rw [arrV_size]; exact hin) rfl rfl d fun H1 e z oq => ?_
  refine kk H1 ls _ (arr_put hW hK hc.1 (fun _ => rfl) (fun b hb => wE_eq rfl rfl (fun _ => rfl) (fun _ => rfl) rfl (up2_far hb) rfl) ?_ z oq) hl (locs_put hW (show sK S a ≠ 0 by rw [hK]; omega) hf)
  rw [hc.2]
  show H1[a]? = some (vp_cell _ _)
  rw [e]
  dsimp only
  rw [vp_cell_l, vp_cell_l, arrV_store]
  congr 2
  funext q
  by_cases hq : q = i.toNatClampNeg
  · subst hq
    simp only [updV, if_pos]
    exact congrArg Value.long up2_s.symm
  · simp only [updV, if_neg hq]
    exact congrArg Value.long (up2_n2 hq).symm
/-- a store of an object of class ci into an array of its class (code t) -/
theorem V_aast (C : Cx X G own cc nL ret rm tb) {a c v : Nat} {i : Int32} (t ci : Nat) (ht : 4 ≤ t ∧ t ≤ 6) (hci : ci < 50) (hty : ∃ r : vw_C, vwCl[ci]? = some r ∧ tyA t = .object r.1) (hK : sK S a = c) (hc : 100 ≤ c ∧ c % 10 = t) (hv : sK S v = ci + 1) (hin : vp_in i (sL S a)) (d : decode cc pc = .ok (.aastore, 1)) (kk : V X G nL Q k n (pc + 1) lo st (pQ S a i.toNatClampNeg (some v))) : V X G nL Q k n pc lo (.ref v :: .int i :: .ref a :: st) S := by
  intro H ls locs hW hl hf
  obtain ⟨r, hr, hty⟩ := hty
  have hP := wW_arr hW hK hc.1
  rw [hc.2] at hP
  have e : ∀ S : sS, wA G S a t = .inl (G.2.1 t, sL S a, .inr (.inr (.inr (.inr (sQ S a))))) := fun S => by
    rcases (show t = 4 ∨ t = 5 ∨ t = 6 by omega) with rfl | rfl | rfl <;> rfl
  rw [e] at hP
  have hlt : i.toNatClampNeg < sL S a := Nat.not_le.mp fun q => hin (Or.inr q)
  have h0 : ¬ i < 0 := fun q => hin (Or.inl q)
  have hKK := C.2.2.2.2.2.1.1
  obtain ⟨r', hr', cellV, g1, g2, g3, -⟩ := wW_obj hW hv hci 0 _ rfl
  have hcls := (hKK.1 ci r hr).2
  have hRA := (wK_arr C.2.2.2.2.2.1 (j := t) (by omega) (by omega)).2
  rw [hty] at hRA
  obtain ⟨kA, comp, k1, k2, k3, -⟩ := hRA
  have hcomp : comp = G.1.1 ci := Option.some.inj (k3.symm.trans hcls.1)
  subst hcomp
  obtain ⟨kC, hkC, -⟩ := hcls.2
  refine W.aast C.1 C.2.1 (hP 0 _ rfl) (fun q h => by cases h) (fun h => by cases h) k1 k2 rfl hkC ⟨h0, by show _ < (arrV _ _ _).slots.size; rw [arrV_size]; exact hlt⟩ g1 (fun q h => by rw [g3] at h; cases h) (by rw [g2]; exact hkC) (by rw [g2]; exact va_assign hcls) rfl rfl d fun H1 e1 z oq => ?_
  refine kk H1 ls _ (arr_put hW hK hc.1 (fun _ => rfl) (fun b hb => wE_eq rfl rfl (fun _ => rfl) (fun _ => rfl) rfl rfl (up2_far hb)) ?_ z oq) hl (locs_put hW (show sK S a ≠ 0 by rw [hK]; omega) hf)
  rw [hc.2, e]
  show H1[a]? = some (vp_cell _ _)
  rw [e1]
  dsimp only
  rw [vp_cell_q, vp_cell_q, arrV_store]
  congr 2
  funext q
  by_cases hq : q = i.toNatClampNeg
  · subst hq
    simp only [updV, if_pos]
    exact (congrArg va_rf (show sQ (pQ S a i.toNatClampNeg (some v)) a i.toNatClampNeg = some v from up2_s)).symm
  · simp only [updV, if_neg hq]
    exact (congrArg va_rf (up2_n2 hq)).symm
/-- a world with one cell more -/
theorem wW_push {S' : sS} {H H' : Heap} (hW : wW G S H) (hk : ∀ b, b ≠ H.size → sK S' b = sK S b) (he : ∀ b, b ≠ H.size → wE G S' b = wE G S b) (h1 : va_at G.1 vwCl (H.size, wE G S' H.size) H') (h2 : H'.size = H.size + 1) (h3 : ∀ q : Nat, q < H.size → H'[q]? = H[q]?) : wW G S' H' := by
  refine ⟨by rw [h2]; exact Nat.le_succ_of_le hW.1, fun q hq => by rw [h3 q (Nat.lt_of_lt_of_le hq hW.1)]; exact hW.2.1 q hq, fun b hb => ?_⟩
  by_cases e : b = H.size
  · rw [e]; exact ⟨hW.1, h1⟩
  · rw [hk b e] at hb
    obtain ⟨g1, g2⟩ := hW.2.2 b hb
    refine ⟨g1, ?_⟩
    rw [he b e]
    exact g2.kept (h3 b g2.lt)
theorem wW_free {H : Heap} (hW : wW G S H) : ∀ x, H.size ≤ x → sK S x = 0 := fun x hx => by
  by_cases h : sK S x = 0
  · exact h
  · exact absurd ((hW.2.2 x h).2.lt) (by show ¬ x < _; omega)
/-- what the tables say of 'new' -/
def nL9 (own : String) (idx ci : Nat) : Prop := Cond.classLink own idx (vC ci).1 ∈ lw_good ∧ Cond.instantiable (vC ci).1 (nF ci) ∈ lw_good ∧ Cond.initialized (vC ci).1 ∈ lw_good ∧ ∀ j, j < nF ci → defaultValue (vT ci j) = if fRef (100 * ci + j) = true then .null else .int 0
theorem V_new (C : Cx X G own cc nL ret rm tb) (ci : Nat) {idx : Nat} (hF : cF ci) (hN : nL9 own idx ci) (hci : ci < 50) (hcells : k + 1 ≤ rm.cells) (hslots : n + nF ci ≤ rm.slots) (d : decode cc pc = .ok (.new idx, 3))
    (kk : ∀ q : Nat, wB G ≤ q → (∀ x, q ≤ x → sK S x = 0) → V X G nL Q (k + 1) (n + nF ci) (pc + 3) lo (.ref q :: st) (nO S (ci + 1) q)) : V X G nL Q k n pc lo st S := by
  intro H ls locs hW hl hf
  obtain ⟨r, h1, h2, h3, h4, h5, h6⟩ := hF
  obtain ⟨n1, n2, n3, n4⟩ := hN
  rw [h2] at n1 n2 n3
  have hts := C.2.2.2.2.1
  have hKn := C.2.2.2.2.2.1.1.1 ci _ h1
  have hR := C.2.2.2.2.2.2.2.2.2.2.1
  refine W.newcK C.1 C.2.1 C.2.2.2.1 (hts _ n1) (hts _ n2) (hts _ n3) rfl d (by rw [hR]; exact hcells) (by rw [hR]; exact hslots) hKn.2.1 rfl fun H1 kC hkC e1 z1 o1 => ?_
  have hk9 : sK (nO S (ci + 1) H.size) H.size = ci + 1 := up1_s
  refine kk H.size hW.1 (wW_free hW) H1 ls locs (wW_push hW (fun b hb => up1_n hb) (fun b hb => wE_eq (up1_n hb) rfl (fun f => if_neg hb) (fun f => if_neg hb) rfl rfl rfl) ?_ z1 o1) hl hf
  rw [wE_obj hk9 hci]
  refine ⟨r, h1, (u_born (vT ci) hts h4 hKn hkC e1 h5).to fun j hj => ?_⟩
  rw [h3] at hj
  rw [sFs_V _ hj, n4 j hj]
  unfold sV
  by_cases hfr : fRef (100 * ci + j) = true
  · rw [if_pos hfr, if_pos hfr]
    show _ = va_rf (if H.size = H.size then none else _)
    rw [if_pos rfl]
    rfl
  · rw [if_neg hfr, if_neg hfr]
    show _ = Value.int (if H.size = H.size then 0 else _)
    rw [if_pos rfl]
theorem nA_he {c m a : Nat} : ∀ b, b ≠ a → wE G (nA S c m a) b = wE G S b := fun b hb => wE_eq (up1_n hb) (up1_n hb) (fun f => rfl) (fun f => rfl) (if_neg hb) (if_neg hb) (if_neg hb)
/-- new int[], boolean[], long[] -/
theorem V_newarr (C : Cx X G own cc nL ret rm tb) (c : Nat) {t m : Nat} {at9 : ArrayType} {i : Int32} (hty : newarray.typeOf at9 = tyA t) (ht : 1 ≤ t ∧ t ≤ 3) (hc : 100 ≤ c ∧ c % 10 = t) (hw : Cond.arrayClass (tyA t) ∈ lw_good) (hi : ¬ i < 0) (hm : i.toNatClampNeg = m) (hbytes : m * 8 ≤ 536870912) (hcells : k + 1 ≤ rm.cells) (hslots : n + m ≤ rm.slots) (d : decode cc pc = .ok (.newarray at9, 2))
    (kk : ∀ q : Nat, wB G ≤ q → (∀ x, q ≤ x → sK S x = 0) → V X G nL Q (k + 1) (n + m) (pc + 2) lo (.ref q :: st) (nA S c m q)) : V X G nL Q k n pc lo (.int i :: st) S := by
  intro H ls locs hW hl hf
  have hR := C.2.2.2.2.2.2.2.2.2.2.1
  have hcb : componentBytes (newarray.typeOf at9) ≤ 8 := by
    rw [hty]
    rcases (show t = 1 ∨ t = 2 ∨ t = 3 by omega) with rfl | rfl | rfl <;> decide
  refine va_newaK C.1 C.2.1 (by rw [hty]; exact C.2.2.2.2.1 _ hw) rfl d rfl hi hm (Nat.le_trans (Nat.mul_le_mul_left m hcb) hbytes) (by rw [hR]; exact hcells) (by rw [hR]; exact hslots) rfl fun H1 cA e1 z1 o1 hAr hNm => ?_
  have hRA := (wK_arr C.2.2.2.2.2.1 (j := t) (by omega) (by omega)).2
  have hcA : cA = G.2.1 t := by
    rw [hty] at hNm
    rcases (show t = 1 ∨ t = 2 ∨ t = 3 by omega) with rfl | rfl | rfl <;> exact Option.some.inj (hNm.symm.trans hRA)
  refine kk H.size hW.1 (wW_free hW) H1 ls locs (wW_push hW (fun b hb => up1_n hb) nA_he ?_ z1 o1) hl hf
  rw [wE_arr (c := c) (show sK (nA S c m H.size) H.size = c from up1_s) hc.1, hc.2]
  rw [hty, hcA] at e1
  have eL : sL (nA S c m H.size) H.size = m := up1_s
  have eA : sA (nA S c m H.size) H.size = fun _ => 0 := if_pos rfl
  have eJ : sJ (nA S c m H.size) H.size = fun _ => 0 := if_pos rfl
  rcases (show t = 1 ∨ t = 2 ∨ t = 3 by omega) with rfl | rfl | rfl
  · show H1[H.size]? = some (vp_cell _ (sL _ _, .inl (sA _ _)))
    rw [eL, eA]; exact e1
  · show H1[H.size]? = some (vp_cell _ (sL _ _, .inl (sA _ _)))
    rw [eL, eA]; exact e1
  · show H1[H.size]? = some (vp_cell _ (sL _ _, .inr (.inl (sJ _ _))))
    rw [eL, eJ]; exact e1
/-- new C[] -/
theorem V_anew (C : Cx X G own cc nL ret rm tb) (c : Nat) {t m idx : Nat} {cn : String} {i : Int32} (hty : tyA t = .object cn) (ht : 4 ≤ t ∧ t ≤ 6) (hc : 100 ≤ c ∧ c % 10 = t) (hw : Cond.classLink own idx cn ∈ lw_good) (hi : ¬ i < 0) (hm : i.toNatClampNeg = m) (hbytes : m * 4 ≤ 536870912) (hcells : k + 1 ≤ rm.cells) (hslots : n + m ≤ rm.slots) (d : decode cc pc = .ok (.anewarray idx, 3))
    (kk : ∀ q : Nat, wB G ≤ q → (∀ x, q ≤ x → sK S x = 0) → V X G nL Q (k + 1) (n + m) (pc + 3) lo (.ref q :: st) (nA S c m q)) : V X G nL Q k n pc lo (.int i :: st) S := by
  intro H ls locs hW hl hf
  subst hm
  have hR := C.2.2.2.2.2.2.2.2.2.2.1
  have hov : aOv (.object cn) X.2.2.2.2.1 := by
    obtain ⟨-, ⟨h2, h3, h4, -⟩, -⟩ := C.2.2.2.2.2.1
    rcases (show t = 4 ∨ t = 5 ∨ t = 6 by omega) with rfl | rfl | rfl
    · rw [← hty]; exact h2
    · rw [← hty]; exact h3
    · rw [← hty]; exact h4
  refine W.anew C.1 C.2.1 C.2.2.2.1 (C.2.2.2.2.1 _ hw) (va_AO.use hov) rfl d rfl hi hbytes (by rw [hR]; exact hcells) (by rw [hR]; exact hslots) fun cA kA comp f1 f2 f3 f4 => ?_
  have hRA := (wK_arr C.2.2.2.2.2.1 (j := t) (by omega) (by omega)).2
  rw [hty] at hRA
  obtain ⟨kB, comp2, k1, k2, k3, k4⟩ := hRA
  have hcA : cA = G.2.1 t := Option.some.inj (f1.symm.trans k4)
  generalize hH1 : H.push ({ cls := cA, slots := Array.replicate i.toNatClampNeg .null, vm := .none } : Cell) = H1
  have z1 : H1.size = H.size + 1 := by rw [← hH1, Array.size_push]
  have e1 : H1[H.size]? = some (arrV cA i.toNatClampNeg (fun _ => .null)) := by rw [← hH1, Array.getElem?_push_size, ← arrV_new]
  have o1 : ∀ q : Nat, q < H.size → H1[q]? = H[q]? := fun q hq => by rw [← hH1, Array.getElem?_push, if_neg (Nat.ne_of_lt hq)]
  refine kk H.size hW.1 (wW_free hW) H1 ls locs (wW_push hW (fun b hb => up1_n hb) nA_he ?_ z1 o1) hl hf
  rw [wE_arr (c := c) (show sK (nA S c i.toNatClampNeg H.size) H.size = c from up1_s) hc.1, hc.2]
  rw [hcA] at e1
  have eL : sL (nA S c i.toNatClampNeg H.size) H.size = i.toNatClampNeg := up1_s
  have eQ : sQ (nA S c i.toNatClampNeg H.size) H.size = fun _ => none := if_pos rfl
  have e : wA G (nA S c i.toNatClampNeg H.size) H.size t = .inl (G.2.1 t, i.toNatClampNeg, .inr (.inr (.inr (.inr (fun _ => none))))) := by
    rcases (show t = 4 ∨ t = 5 ∨ t = 6 by omega) with rfl | rfl | rfl <;> (show (Sum.inl (_, sL _ _, Sum.inr (Sum.inr (Sum.inr (Sum.inr (sQ _ _))))) : va_E) = _) <;> rw [eL, eQ]
  rw [e]
  exact e1
/-- an int array of the world outside: the script, Plan's ranks -/
theorem V_xlen (C : Cx X G own cc nL ret rm tb) {t N : Nat} {f : Nat → Value} (hT : va_T .int t N f (wN G) X.2.2.2.2.1 G.2.2) (d : decode cc pc = .ok (.arraylength, 1)) (kk : V X G nL Q k n (pc + 1) lo (.int (Int32.ofNat N) :: st) S) : V X G nL Q k n pc lo (.ref t :: st) S := by
  intro H ls locs hW hl hf
  obtain ⟨cell, h1, h2, h3, h4, h5, h6, h7⟩ := hT
  have ht : t < wB G := (Array.getElem?_eq_some_iff.mp h1).1
  exact W.alen C.1 C.2.1 (by rw [hW.2.1 t ht]; exact h1) h2 h5 rfl rfl d (kk H ls locs hW hl hf)
theorem V_xld (C : Cx X G own cc nL ret rm tb) {t N : Nat} {f : Nat → Value} {i v : Int32} (hT : va_T .int t N f (wN G) X.2.2.2.2.1 G.2.2) (hin : vp_in i N) (hv : f i.toNatClampNeg = .int v) (d : decode cc pc = .ok (.iaload, 1)) (kk : V X G nL Q k n (pc + 1) lo (.int v :: st) S) : V X G nL Q k n pc lo (.int i :: .ref t :: st) S := by
  intro H ls locs hW hl hf
  obtain ⟨cell, h1, h2, h3, h4, h5, h6, h7⟩ := hT
  have ht : t < wB G := (Array.getElem?_eq_some_iff.mp h1).1
  have hlt : i.toNatClampNeg < N := Nat.not_le.mp fun q => hin (Or.inr q)
  exact W.iald (v := .int v) C.1 C.2.1 (by rw [hW.2.1 t ht]; exact h1) h2 h3 (fun q => q.elim (fun z => hin (Or.inl z)) (fun z => by omega)) (by rw [h6 _ hlt, hv]) rfl rfl d (kk H ls locs hW hl hf)
theorem V_ranks (C : Cx X G own cc nL ret rm tb) {idx : Nat} (hw : Cond.fieldLink own idx "FosterHouse$Plan" "RANKS" "[I" ∈ lw_good) (d : decode cc pc = .ok (.getstatic idx, 3)) (kk : ∀ t : Nat, va_T .int t 5 (fun j => .int ([14641, 1331, 121, 11, 1].getD j 0)) (wN G) X.2.2.2.2.1 G.2.2 → V X G nL Q k n (pc + 3) lo (.ref t :: st) S) : V X G nL Q k n pc lo st S := by
  intro H ls locs hW hl hf
  obtain ⟨t, hZ, hT⟩ := C.2.2.2.2.2.1.2.2.2.1
  obtain ⟨cf, kf, fi, f, a, cell, h1, h2, h3, h4, h5, h6, h7, h8⟩ := hZ
  have ha : a < wB G := (Array.getElem?_eq_some_iff.mp h5).1
  exact W.gets C.1 C.2.1 C.2.2.2.1 (C.2.2.2.2.1 _ hw) h1 h2 h3 h4 (by rw [hW.2.1 a ha]; exact h5) (fun e => by rw [e] at h6; cases h6) h7 rfl d (kk t hT H ls locs hW hl hf)
end VA
end
section
/-! CONTRACTS: from a store and its arguments a method returns or throws; what is answered and the store behind it. -/
def cQ (G : gG) (Pr : Option Value → sS → Prop) : Array Value → State → Outcome → State → Prop := fun _ _ o t => ∃ (v : Option Value) (S : sS), o = .returned v ∧ Pr v S ∧ wW G S t.heap
def cX (G : gG) (Px : String → sS → Prop) : String → State → State → Prop := fun E _ t => ∃ S : sS, Px E S ∧ wW G S t.heap
def cP (G : gG) (av : List Value) (S : sS) : Array Value → State → Prop := fun v U => v = av.toArray ∧ wW G S U.heap ∧ wK G U
def rmD (d k n : Nat) : Room := { frames := d, cells := k, slots := n, locals := 37 * d }
def Ct (l : Launch) (G : gG) (y : MethodName) (cc : ByteArray) (mL : Nat) (ret : Option FieldType) (d k n : Nat) (av : List Value) (S : sS) (Pr : Option Value → sS → Prop) (Px : String → sS → Prop) : Prop :=
  vx_Met l y (Cond.code y cc mL ret :: lw_good) (rmD d k n) (cP G av S) (cQ G Pr) (cX G Px) k n (wN G)
/-- what a body owes at its end -/
def eQ (X : xX) (G : gG) (Pr : Option Value → sS → Prop) (Px : String → sS → Prop) (K N : Nat) : State → Prop := vx_MQ X.2.2.2.2.2.2.2.1 (cQ G Pr) (cX G Px) X.2.2.2.2.2.2.1 X.2.2.2.2.1 K N (wN G)
def lArgs : Nat → List Value → lO
  | _, [] => []
  | i, v :: vs => (i, false, v) :: lArgs (i + 1) vs
theorem lArgs_in : ∀ (vs : List Value) (i : Nat), (∀ v ∈ vs, v.category = 1) → ∀ q ∈ lArgs i vs, (q.1, q.2.2) ∈ lv_args i vs ∧ q.2.2.category = 1
  | [], _, _ => fun q hq => nomatch hq
  | v :: vs, i, h => fun q hq => by
    have h1 := h v List.mem_cons_self
    unfold lv_args
    rw [if_neg (by omega)]
    rcases List.mem_cons.mp hq with rfl | hq
    · exact ⟨List.mem_cons_self, h1⟩
    · obtain ⟨g1, g2⟩ := lArgs_in vs (i + 1) (fun x hx => h x (List.mem_cons_of_mem _ hx)) q hq
      exact ⟨List.mem_cons_of_mem _ g1, g2⟩
theorem lg_sl_len : ∀ vs : List Value, (∀ v ∈ vs, v.category = 1) → (lg_sl vs).length = vs.length
  | [], _ => rfl
  | v :: vs, h => by
    have h1 := h v List.mem_cons_self
    have h2 := lg_sl_len vs fun x hx => h x (List.mem_cons_of_mem _ hx)
    have e : lg_sl (v :: vs) = .val v :: lg_sl vs := by
      unfold lg_sl
      rw [List.flatMap_cons, if_neg (by omega)]
      rfl
    rw [e, List.length_cons, h2, List.length_cons]
theorem lk_entry {vs : List Value} {nL : Nat} (h : ∀ v ∈ vs, v.category = 1) (hn : vs.length ≤ nL) : lk ((lg_sl vs ++ List.replicate (nL - (lg_sl vs).length) Slot.unset).toArray) nL (lArgs 0 vs) := by
  have h1 := lv_entry vs (n := nL) (by rw [lg_sl_len vs h]; exact hn)
  exact ⟨h1.1, h1.2.1, fun q hq => ⟨h1.2.2 _ (lArgs_in vs 0 h q hq).1, fun _ => (lArgs_in vs 0 h q hq).2⟩⟩
theorem fb_cP {G : gG} {av : List Value} {S : sS} : FrameBlind (cP G av S) := fun a U g mk ⟨h1, h2, h3⟩ => ⟨h1, h2, wK_mv (s := U) (U := U.calling g mk a) (State.WarmedH.refl U) h3⟩
theorem Ct_of {l : Launch} {G : gG} {y : MethodName} {cc : ByteArray} {mL : Nat} {ret : Option FieldType} {d k n : Nat} {av : List Value} {S : sS} {Pr : Option Value → sS → Prop} {Px : String → sS → Prop}
    (hy : plainName y.cls = true) (hav : ∀ v ∈ av, v.category = 1) (hlen : av.length ≤ mL) (hl : l.stackTraces = false)
    (body : ∀ X : xX, Cx X G y.cls cc mL ret (rmD d k n) [] → X.2.1 = l → X.2.2.2.2.2.2.2.2.1.name = y.name → V X G mL (eQ X G Pr Px k n) 0 0 0 (lArgs 0 av) [] S) : Ct l G y cc mL ret d k n av S Pr Px := by
  refine vx_ofW (cc := cc) (maxL := mL) (ret := ret) hy rfl ?_
  intro p e s m args below meth c s₁ B hml ht hP
  obtain ⟨rfl, hW, hKn⟩ := hP
  have hts : ∀ w ∈ Cond.code y cc mL ret :: lw_good, w.before av.toArray s = true := atoms_spec B.pre
  have C : Cx (p, l, e, (headSpec (Cond.code y cc mL ret :: lw_good) (rmD d k n)).room, s, m, av.toArray, below, meth, c) G y.cls cc mL ret (rmD d k n) [] :=
    ⟨B.exec, B.bytes, hml, findClass_of_methodNamed B.named, fun w hw => hts w (List.mem_cons_of_mem _ hw), hKn, ⟨hW.1, hW.2.1⟩, hl, B.notSynchronized, B.returns, rfl, List.eq_nil_iff_forall_not_mem.mpr ht⟩
  rw [lg_entry_eq]
  exact body _ C rfl (name_of_methodNamed B.named B.method).1 s.heap _ [] hW (lk_entry hav hlen) (fun z hz => nomatch hz)
section VC
variable {X : xX} {G : gG} {own : String} {cc : ByteArray} {nL : Nat} {ret : Option FieldType} {rm : Room} {tb : List ExceptionTableEntry} {Q : State → Prop} {k n pc : Nat} {lo : lO} {st : List Value} {S : sS}
variable {Pr : Option Value → sS → Prop} {Px : String → sS → Prop} {K N : Nat}
theorem V_zret {ty : FieldType} (C : Cx X G own cc nL (some ty) rm tb) {v : Int32} (hn : narrow ty (.int v) = .int v) (h1 : k ≤ K) (h2 : n ≤ N) (d : decode cc pc = .ok (.ireturn, 1)) (hp : Pr (some (.int v)) S) : V X G nL (eQ X G Pr Px K N) k n pc lo [.int v] S := fun H ls locs hW hl hf =>
  W.widen h1 h2 (vx_ret (W.zret C.1 C.2.1 C.2.2.2.2.2.2.2.2.2.1 hn (fun t ht _ => ⟨_, S, rfl, hp, by rw [ht]; exact hW⟩) hf d C.2.2.2.2.2.2.2.2.1))
theorem V_iret (C : Cx X G own cc nL (some .int) rm tb) {v : Int32} (h1 : k ≤ K) (h2 : n ≤ N) (d : decode cc pc = .ok (.ireturn, 1)) (hp : Pr (some (.int v)) S) : V X G nL (eQ X G Pr Px K N) k n pc lo [.int v] S := V_zret C rfl h1 h2 d hp
theorem V_lret (C : Cx X G own cc nL (some .long) rm tb) {v : Int64} (h1 : k ≤ K) (h2 : n ≤ N) (d : decode cc pc = .ok (.lreturn, 1)) (hp : Pr (some (.long v)) S) : V X G nL (eQ X G Pr Px K N) k n pc lo [.long v] S := fun H ls locs hW hl hf =>
  W.widen h1 h2 (vx_ret (W.lret C.1 C.2.1 C.2.2.2.2.2.2.2.2.2.1 (fun t ht _ => ⟨_, S, rfl, hp, by rw [ht]; exact hW⟩) hf d C.2.2.2.2.2.2.2.2.1))
theorem V_vret (C : Cx X G own cc nL none rm tb) (h1 : k ≤ K) (h2 : n ≤ N) (d : decode cc pc = .ok (.return_, 1)) (hp : Pr none S) : V X G nL (eQ X G Pr Px K N) k n pc lo [] S := fun H ls locs hW hl hf =>
  W.widen h1 h2 (vx_ret (W.vret C.1 C.2.1 C.2.2.2.2.2.2.2.2.2.1 (fun t ht _ => ⟨_, S, rfl, hp, by rw [ht]; exact hW⟩) hf d C.2.2.2.2.2.2.2.2.1))
theorem V_aret {ty : FieldType} (C : Cx X G own cc nL (some ty) rm tb) {v : Value} (hty : (∃ c, ty = .object c) ∨ ∃ t, ty = .array t) (hv : isR v) (h1 : k ≤ K) (h2 : n ≤ N) (d : decode cc pc = .ok (.areturn, 1)) (hp : Pr (some v) S) : V X G nL (eQ X G Pr Px K N) k n pc lo [v] S := fun H ls locs hW hl hf =>
  W.widen h1 h2 (vx_ret (W.aret C.1 C.2.1 C.2.2.2.2.2.2.2.2.2.1 hty hv (fun t ht _ => ⟨_, S, rfl, hp, by rw [ht]; exact hW⟩) hf d C.2.2.2.2.2.2.2.2.1))
/-- an exception of class E has been thrown over the frame -/
def VX (X : xX) (G : gG) (nL : Nat) (Q : State → Prop) (k n pc : Nat) (lo : lO) (st : List Value) (S : sS) (E : String) : Prop :=
  ∀ (H : Heap) (ls : Array Slot) (locs : List Loc) (q : Addr) (ce : Cell), wW G S H → lk ls nL lo → (∀ z ∈ locs, wB G ≤ z.base) → H[q]? = some ce → ce.vm = .none → X.2.2.2.2.1.vm.findClass E = some ce.cls →
    vx_W X.1 X.2.1 X.2.2.1 X.2.2.2.1 X.2.2.2.2.1 X.2.2.2.2.2.1 X.2.2.2.2.2.2.1 X.2.2.2.2.2.2.2.1 X.2.2.2.2.2.2.2.2.1 X.2.2.2.2.2.2.2.2.2 H locs k n Q (F0 X.2.2.2.2.2.1 pc ls st) q
theorem VX_out (C : Cx X G own cc nL ret rm []) {E : String} (h1 : k ≤ K) (h2 : n ≤ N) (hp : Px E S) : VX X G nL (eQ X G Pr Px K N) k n pc lo st S E := fun H ls locs q ce hW hl hf hc hv hE =>
  vx_out (fun x hx => by rw [C.2.2.2.2.2.2.2.2.2.2.2] at hx; cases hx) C.2.2.2.2.2.2.2.2.1 hc hv hE (fun t ht _ => ⟨S, hp, by rw [ht]; exact hW⟩) hf h1 h2
/-- what the tables say of a call -/
def kB (own : String) (idx : Nat) (y : MethodName) (cc : ByteArray) (mL : Nat) (ret : Option FieldType) (np : Nat) : Prop :=
  Cond.methodLink own idx y ∈ lw_good ∧ Cond.initialized y.cls ∈ lw_good ∧ Cond.code y cc mL ret ∈ lw_good ∧ (y.cls ≠ "java/lang/invoke/MethodHandle" ∧ y.cls ≠ "java/lang/invoke/VarHandle" ∧ (parseMethodDescriptor y.desc).map (fun d => d.parameters.length) = some np)
def kV (own : String) (idx : Nat) (y : MethodName) (cc : ByteArray) (mL : Nat) (ret : Option FieldType) (np : Nat) : Prop := kB own idx y cc mL ret np ∧ Cond.instanceMethod y ∈ lw_good ∧ Cond.selects y.cls y y ∈ lw_good
def kS (own : String) (idx : Nat) (y : MethodName) (cc : ByteArray) (mL : Nat) (ret : Option FieldType) (np : Nat) : Prop := kB own idx y cc mL ret np ∧ Cond.static y ∈ lw_good
def kI (own : String) (idx : Nat) (y : MethodName) (cc : ByteArray) (mL : Nat) (np : Nat) : Prop := kB own idx y cc mL none np ∧ Cond.instanceMethod y ∈ lw_good ∧ y.name = "<init>"
theorem kB_ok (C : Cx X G own cc nL ret rm tb) {idx mL np d' k' n' : Nat} {y : MethodName} {c2 : ByteArray} {r2 : Option FieldType} (h : kB own idx y c2 mL r2 np) (hR : d' + 1 ≤ rm.frames ∧ 8 + (mL + 11) + 37 * d' ≤ rm.locals) :
    CallB X.2.2.2.1 X.2.2.2.2.1 X.2.2.2.2.2.2.1 own idx y c2 mL r2 (Cond.code y c2 mL r2 :: lw_good) (rmD d' k' n') k' n' np :=
  callB_of np C.2.2.2.2.1 (lg_code h.2.2.1) rfl rfl rfl (C.2.2.2.2.1 _ h.2.1) (C.2.2.2.2.1 _ h.1) h.2.2.2 (by rw [C.2.2.2.2.2.2.2.2.2.2.1]; exact hR)
theorem fix_ok (C : Cx X G own cc nL ret rm tb) : CallFix X.1 X.2.2.2.2.2.1 X.2.2.2.2.2.2.2.2.2 cc nL X.2.2.2.2.1 X.2.2.2.2.2.2.1 lw_good own := ⟨C.1, C.2.1, C.2.2.1, C.2.2.2.1, C.2.2.2.2.1⟩
/-- behind a run that returns or throws -/
theorem V_run {k' n' : Nat} {rest : List Value} {a : Array Value}
    (hr : ∀ (H : Heap) (ls : Array Slot) (locs : List Loc), wW G S H → lk ls nL lo → vx_Run X.1 X.2.1 X.2.2.1 X.2.2.2.1 X.2.2.2.2.1 X.2.2.2.2.2.1 X.2.2.2.2.2.2.1 X.2.2.2.2.2.2.2.1 X.2.2.2.2.2.2.2.2.1 X.2.2.2.2.2.2.2.2.2 H locs k n k' n' (F0 X.2.2.2.2.2.1 pc ls st) rest (cQ G Pr a) (cX G Px) (wN G))
    (kr : ∀ (v : Option Value) (S' : sS), Pr v S' → V X G nL Q (k + k') (n + n') (pc + 3) lo (v.toList ++ rest) S')
    (kx : ∀ (E : String) (S' : sS), Px E S' → VX X G nL Q (k + k') (n + n') pc lo rest S' E) : V X G nL Q k n pc lo st S := by
  intro H ls locs hW hl hf T hT Y
  have hap : ∀ L : List Loc, (∀ q ∈ L, wN G q.base) → ∀ z ∈ locs ++ L, wB G ≤ z.base := fun L hL z hz => (List.mem_append.mp hz).elim (hf z) (hL z)
  rcases hr H ls locs hW hl T hT Y with ⟨v, st₀, t, T', L, h0, X', hL, e1, e2, ⟨v2, S', hv, hp, hW'⟩, stp⟩ | ⟨q, st₀, t, T', L, E, ce, h0, X', hL, e1, e2, ⟨S', hp, hW'⟩, hce, hcv, hcl, stp⟩
  · cases hv
    obtain ⟨t2, a1, b1⟩ := kr v S' hp T'.heap ls (locs ++ L) (by rw [e1]; exact hW') hl (hap L hL) T' rfl X'
    exact ⟨t2, stp t2 a1, b1⟩
  · obtain ⟨t2, a1, b1⟩ := kx E S' hp T'.heap ls (locs ++ L) q ce (by rw [e1]; exact hW') hl (hap L hL) (by rw [e1]; exact hce) hcv hcl T' rfl X'
    exact ⟨t2, stp.trans a1, b1⟩
theorem pre_ok (C : Cx X G own cc nL ret rm tb) {H : Heap} {av : List Value} (hW : wW G S H) : ∀ U : State, U.heap = H → X.2.2.2.2.1.WarmedH U.vm → cP G av S av.toArray U := fun U hU hw => ⟨rfl, by rw [hU]; exact hW, wK_mv hw C.2.2.2.2.2.1⟩
theorem V_callV (C : Cx X G own cc nL ret rm tb) {idx mL np d' k' n' ci b : Nat} {y : MethodName} {c2 : ByteArray} {r2 : Option FieldType} {As rest : List Value} (hM : Ct X.2.1 G y c2 mL r2 d' k' n' (.ref b :: As) S Pr Px) (hk : kV own idx y c2 mL r2 np) (hF : cF ci) (hci : ci < 50) (hcl : (vC ci).1 = y.cls) (hb : sK S b = ci + 1)
    (hR : d' + 1 ≤ rm.frames ∧ 8 + (mL + 11) + 37 * d' ≤ rm.locals) (hc : k + k' ≤ rm.cells ∧ n + n' ≤ rm.slots) (hn : As.length = np) (hst : st = As.reverse ++ .ref b :: rest) (h8 : (rest.map fun v => v.category).sum ≤ 8) (d : decode cc pc = .ok (.invokevirtual idx, 3))
    (kr : ∀ (v : Option Value) (S' : sS), Pr v S' → V X G nL Q (k + k') (n + n') (pc + 3) lo (v.toList ++ rest) S')
    (kx : ∀ (E : String) (S' : sS), Px E S' → VX X G nL Q (k + k') (n + n') pc lo rest S' E) : V X G nL Q k n pc lo st S := by
  refine V_run (rest := rest) (a := (Value.ref b :: As).toArray) (fun H ls locs hW hl => ?_) kr kx
  obtain ⟨r, h1, h2, -⟩ := hF
  have hrec := va_recv C.2.2.2.2.2.1.1 (wW_obj hW hb hci) h1 (q0 := 0) rfl
  rw [← h2, hcl] at hrec
  exact vx_runV (fix_ok C) hM ⟨kB_ok C hk.1 hR, C.2.2.2.2.1 _ hk.2.1, C.2.2.2.2.1 _ hk.2.2⟩ ⟨fb_cP, hrec, pre_ok C hW⟩ rfl hn hl.1 hst (lv_room h8) d (by rw [C.2.2.2.2.2.2.2.2.2.2.1]; exact hc)
theorem V_callS (C : Cx X G own cc nL ret rm tb) {idx mL np d' k' n' : Nat} {y : MethodName} {c2 : ByteArray} {r2 : Option FieldType} {As rest : List Value} (hM : Ct X.2.1 G y c2 mL r2 d' k' n' As S Pr Px) (hk : kS own idx y c2 mL r2 np)
    (hR : d' + 1 ≤ rm.frames ∧ 8 + (mL + 11) + 37 * d' ≤ rm.locals) (hc : k + k' ≤ rm.cells ∧ n + n' ≤ rm.slots) (hn : As.length = np) (hst : st = As.reverse ++ rest) (h8 : (rest.map fun v => v.category).sum ≤ 8) (d : decode cc pc = .ok (.invokestatic idx, 3))
    (kr : ∀ (v : Option Value) (S' : sS), Pr v S' → V X G nL Q (k + k') (n + n') (pc + 3) lo (v.toList ++ rest) S')
    (kx : ∀ (E : String) (S' : sS), Px E S' → VX X G nL Q (k + k') (n + n') pc lo rest S' E) : V X G nL Q k n pc lo st S :=
  V_run (rest := rest) (a := As.toArray) (fun H ls locs hW hl => vx_runS (fix_ok C) hM ⟨kB_ok C hk.1 hR, C.2.2.2.2.1 _ hk.2⟩ ⟨fb_cP, pre_ok C hW⟩ rfl hn hl.1 hst (lv_room h8) d (by rw [C.2.2.2.2.2.2.2.2.2.2.1]; exact hc)) kr kx
/-- a contract that never throws, in the kit's plain form -/
theorem Ct_met {l : Launch} {y : MethodName} {c2 : ByteArray} {mL d' k' n' : Nat} {r2 : Option FieldType} {av : List Value} (h : Ct l G y c2 mL r2 d' k' n' av S Pr (fun _ _ => False)) : Met l y (Cond.code y c2 mL r2 :: lw_good) (rmD d' k' n') (cP G av S) (cQ G Pr) k' n' (wN G) :=
  MetFree.mono h (fun _ _ h => h) (fun _ _ _ _ _ h => h) fun a s o t _ hq => by
    rcases hq with hq | ⟨q, -, E, ce, L, ⟨S', hf, -⟩, -⟩
    · exact hq
    · exact hf.elim
theorem V_run0 {k' n' : Nat} {rest : List Value} {a : Array Value}
    (hr : ∀ (H : Heap) (ls : Array Slot) (locs : List Loc), wW G S H → lk ls nL lo → va_Run X.1 X.2.1 X.2.2.1 X.2.2.2.1 X.2.2.2.2.1 X.2.2.2.2.2.1 X.2.2.2.2.2.2.1 X.2.2.2.2.2.2.2.1 X.2.2.2.2.2.2.2.2.1 X.2.2.2.2.2.2.2.2.2 H locs k n k' n' (F0 X.2.2.2.2.2.1 pc ls st) rest (cQ G Pr a) (wN G))
    (kr : ∀ (v : Option Value) (S' : sS), Pr v S' → V X G nL Q (k + k') (n + n') (pc + 3) lo (v.toList ++ rest) S') : V X G nL Q k n pc lo st S := by
  intro H ls locs hW hl hf T hT Y
  obtain ⟨v, st₀, t, T', L, h0, X', hL, e1, e2, ⟨v2, S', hv, hp, hW'⟩, stp⟩ := hr H ls locs hW hl T hT Y
  cases hv
  obtain ⟨t2, a1, b1⟩ := kr v S' hp T'.heap ls (locs ++ L) (by rw [e1]; exact hW') hl (fun z hz => (List.mem_append.mp hz).elim (hf z) (hL z)) T' rfl X'
  exact ⟨t2, stp t2 a1, b1⟩
theorem V_callI (C : Cx X G own cc nL ret rm tb) {idx mL np d' k' n' b : Nat} {y : MethodName} {c2 : ByteArray} {As rest : List Value} (hM : Ct X.2.1 G y c2 mL none d' k' n' (.ref b :: As) S Pr (fun _ _ => False)) (hk : kI own idx y c2 mL np)
    (hR : d' + 1 ≤ rm.frames ∧ 8 + (mL + 11) + 37 * d' ≤ rm.locals) (hc : k + k' ≤ rm.cells ∧ n + n' ≤ rm.slots) (hn : As.length = np) (hst : st = As.reverse ++ .ref b :: rest) (h8 : (rest.map fun v => v.category).sum ≤ 8) (d : decode cc pc = .ok (.invokespecial idx, 3))
    (kr : ∀ (v : Option Value) (S' : sS), Pr v S' → V X G nL Q (k + k') (n + n') (pc + 3) lo (v.toList ++ rest) S') : V X G nL Q k n pc lo st S :=
  V_run0 (rest := rest) (a := (Value.ref b :: As).toArray) (fun H ls locs hW hl => va_runI (fix_ok C) (Ct_met hM) ⟨kB_ok C hk.1 hR, hk.2.2, C.2.2.2.2.1 _ hk.2.1⟩ ⟨fb_cP, pre_ok C hW⟩ rfl hn hl.1 hst (lv_room h8) d (by rw [C.2.2.2.2.2.2.2.2.2.2.1]; exact hc)) kr
/-- Object's own constructor -/
theorem V_objI (C : Cx X G own cc nL ret rm tb) {idx b : Nat} {rest : List Value} (hw : Cond.methodLink own idx Lib.objectInit ∈ lw_good) (hw2 : Cond.instanceMethod Lib.objectInit ∈ lw_good) (hw3 : Cond.code Lib.objectInit ⟨#[0xb1]⟩ 1 none ∈ lw_good) (hfr : 1 ≤ rm.frames) (hlo : (rest.map fun v => v.category).sum + 12 ≤ rm.locals) (d : decode cc pc = .ok (.invokespecial idx, 3)) (kk : V X G nL Q k n (pc + 3) lo rest S) : V X G nL Q k n pc lo (.ref b :: rest) S := fun H ls locs hW hl hf =>
  W.objInit C.1 C.2.1 C.2.2.2.1 (C.2.2.2.2.1 _ hw) (C.2.2.2.2.1 _ hw2) (C.2.2.2.2.1 _ hw3) rfl (hl.1.trans C.2.2.1.symm) rfl d (by rw [C.2.2.2.2.2.2.2.2.2.2.1]; exact hfr) (by rw [C.2.2.2.2.2.2.2.2.2.2.1]; show 2 * 0 + _ + 12 ≤ _; omega) (kk H ls locs hW hl hf)
end VC
end
section
/-! THROWS, HANDLERS, THE JDK'S NUMBERS, ARRAYS OF ARRAYS. -/
def nmT : List String := ["java/lang/RuntimeException", "java/lang/Exception"]
/-- what the tables say of 'throw new cls(text)' -/
def tW (own : String) (ik is ic : Nat) (cls text : String) : Prop := Cond.classLink own ik cls ∈ lw_good ∧ Cond.initialized cls ∈ lw_good ∧ (∀ w ∈ vx_atS own ic cls nmT, w = .castable cls cls ∨ w ∈ lw_good) ∧ (own, is, text) ∈ strT ∧ cls ∈ exT ∧ Bundle.fit cls = true
theorem nmT_fit : ∀ n ∈ nmT, Bundle.fit n = true := by decide +kernel
section VM
variable {X : xX} {G : gG} {own : String} {cc : ByteArray} {nL : Nat} {ret : Option FieldType} {rm : Room} {tb : List ExceptionTableEntry} {Q : State → Prop} {k n pc : Nat} {lo : lO} {st : List Value} {S : sS}
variable {Pr : Option Value → sS → Prop} {Px : String → sS → Prop} {K N : Nat}
theorem wW_grow {H H' : Heap} (hW : wW G S H) (h1 : H.size ≤ H'.size) (h2 : ∀ q : Nat, q < H.size → H'[q]? = H[q]?) : wW G S H' :=
  ⟨Nat.le_trans hW.1 h1, fun q hq => by rw [h2 q (Nat.lt_of_lt_of_le hq hW.1)]; exact hW.2.1 q hq, fun a ha => ⟨(hW.2.2 a ha).1, (hW.2.2 a ha).2.kept (h2 a (hW.2.2 a ha).2.lt)⟩⟩
theorem tW_at (C : Cx X G own cc nL ret rm tb) {ik is ic : Nat} {cls text : String} (hT : tW own ik is ic cls text) : (∀ w ∈ vx_atS own ic cls nmT, w.before X.2.2.2.2.2.2.1 X.2.2.2.2.1 = true) ∧ ∀ w ∈ Cond.classLink own ik cls :: Cond.initialized cls :: vx_atS own ic cls nmT, vx_ot w = true := by
  obtain ⟨t1, t2, t3, t4, t5, t6⟩ := hT
  have hg : ∀ w ∈ lw_good, vx_ot w = true := fun w hw => by
    unfold vx_ot
    rw [lg_good w hw, Bool.or_true]
  refine ⟨fun w hw => ?_, fun w hw => ?_⟩
  · rcases t3 w hw with rfl | h
    · exact va_Nw.use rfl (C.2.2.2.2.2.1.2.2.2.2.2.1 _ t5)
    · exact C.2.2.2.2.1 _ h
  · rcases List.mem_cons.mp hw with rfl | hw
    · exact hg _ t1
    · rcases List.mem_cons.mp hw with rfl | hw
      · exact hg _ t2
      · rcases t3 w hw with rfl | h
        · rfl
        · exact hg _ h
theorem stk_size {p : Program} {l : Launch} {e : Env} {R : Room} {s : State} {m : MethodId} {args : Array Value} {below : List Frame} {meth : Method} {c : Code} {T : State} {locs : List Loc} {k n : Nat} (Y : Stand p l e R s m args below meth c T locs k n) : s.heap.size ≤ T.heap.size := Y.same.2.1
theorem hS_ok (C : Cx X G own cc nL ret rm tb) {H : Heap} {locs : List Loc} (hW : wW G S H) (hf : ∀ z ∈ locs, wB G ≤ z.base) (hz : X.2.2.2.2.1.heap.size ≤ H.size) : va_S (wN G) X.2.2.2.2.1.heap H locs :=
  ⟨hz, fun q _ hq => by
    have hq' : q < wB G := Nat.not_le.mp hq
    rw [hW.2.1 q hq', C.2.2.2.2.2.2.1.2 q hq'], hf⟩
theorem zq_ok (C : Cx X G own cc nL ret rm tb) {c9 n9 d9 : String} (h : vx_Zq c9 n9 d9 (wN G) X.2.2.2.2.1 G.2.2) : vx_Zq c9 n9 d9 (wN G) X.2.2.2.2.1 X.2.2.2.2.1.heap := h.kept fun a ha _ => C.2.2.2.2.2.2.1.2 a ha
theorem V_throwS (C : Cx X G own cc nL ret rm []) {ik is ic : Nat} {cls text : String} (hT : tW own ik is ic cls text)
    (d0 : decode cc pc = .ok (.new ik, 3)) (d3 : decode cc (pc + 3) = .ok (.dup, 1)) (d4 : decode cc (pc + 4) = .ok (.ldc is, 2)) (d6 : decode cc (pc + 6) = .ok (.invokespecial ic, 3)) (d9 : decode cc (pc + 9) = .ok (.athrow, 1))
    (hR : 5 < rm.frames ∧ (st.map fun v => v.category).sum + 82 ≤ rm.locals ∧ K ≤ rm.cells ∧ N ≤ rm.slots) (hc : k + 1 ≤ K) (hs : n + 6 ≤ N) (hp : Px cls S) : V X G nL (eQ X G Pr Px K N) k n pc lo st S := by
  intro H ls locs hW hl hf T hTH Y
  have hRm := C.2.2.2.2.2.2.2.2.2.2.1
  have hz : X.2.2.2.2.1.heap.size ≤ H.size := by rw [← hTH]; exact stk_size Y
  obtain ⟨g1, g2⟩ := tW_at C hT
  obtain ⟨t1, t2, t3, t4, t5, t6⟩ := hT
  obtain ⟨sa, hsa⟩ := C.2.2.2.2.2.1.2.2.2.2.1 _ t4
  exact vx_throwS (names := nmT) (A := wN G) C.1 C.2.1 C.2.2.2.2.2.2.2.1 C.2.2.2.1 t6 nmT_fit (C.2.2.2.2.1 _ t1) (C.2.2.2.2.1 _ t2) hsa g1 g2 (zq_ok C C.2.2.2.2.2.1.2.2.1.1) (zq_ok C C.2.2.2.2.2.1.2.2.1.2) (hS_ok C hW hf hz) (hl.1.trans C.2.2.1.symm) d0 d3 d4 d6 d9
    (fun x hx => by rw [C.2.2.2.2.2.2.2.2.2.2.2] at hx; cases hx) (by rw [hRm]; exact hR.1) (by rw [hRm]; exact hR.2.1) (by rw [hRm]; omega) (by rw [hRm]; omega) C.2.2.2.2.2.2.2.2.1
    (fun t _ h1 h2 => ⟨S, hp, wW_grow hW h1 h2⟩) hf hc hs T hTH Y
theorem V_throwSW (C : Cx X G own cc nL ret rm []) {ik is ic : Nat} {cls text : String} (hT : tW own ik is ic cls text)
    (d0 : decode cc pc = .ok (.new ik, 3)) (d3 : decode cc (pc + 3) = .ok (.dup, 1)) (d4 : decode cc (pc + 4) = .ok (.ldc_w is, 3)) (d7 : decode cc (pc + 7) = .ok (.invokespecial ic, 3)) (d10 : decode cc (pc + 10) = .ok (.athrow, 1))
    (hR : 5 < rm.frames ∧ (st.map fun v => v.category).sum + 82 ≤ rm.locals ∧ K ≤ rm.cells ∧ N ≤ rm.slots) (hc : k + 1 ≤ K) (hs : n + 6 ≤ N) (hp : Px cls S) : V X G nL (eQ X G Pr Px K N) k n pc lo st S := by
  intro H ls locs hW hl hf T hTH Y
  have hRm := C.2.2.2.2.2.2.2.2.2.2.1
  have hz : X.2.2.2.2.1.heap.size ≤ H.size := by rw [← hTH]; exact stk_size Y
  obtain ⟨g1, g2⟩ := tW_at C hT
  obtain ⟨t1, t2, t3, t4, t5, t6⟩ := hT
  obtain ⟨sa, hsa⟩ := C.2.2.2.2.2.1.2.2.2.2.1 _ t4
  exact vx_throwSW (names := nmT) (A := wN G) C.1 C.2.1 C.2.2.2.2.2.2.2.1 C.2.2.2.1 t6 nmT_fit (C.2.2.2.2.1 _ t1) (C.2.2.2.2.1 _ t2) hsa g1 g2 (zq_ok C C.2.2.2.2.2.1.2.2.1.1) (zq_ok C C.2.2.2.2.2.1.2.2.1.2) (hS_ok C hW hf hz) (hl.1.trans C.2.2.1.symm) d0 d3 d4 d7 d10
    (fun x hx => by rw [C.2.2.2.2.2.2.2.2.2.2.2] at hx; cases hx) (by rw [hRm]; exact hR.1) (by rw [hRm]; exact hR.2.1) (by rw [hRm]; omega) (by rw [hRm]; omega) C.2.2.2.2.2.2.2.2.1
    (fun t _ h1 h2 => ⟨S, hp, wW_grow hW h1 h2⟩) hf hc hs T hTH Y
/-- caught by the entry x; those ahead name other exceptions -/
theorem VX_catch {hh : List (Nat × Nat × Nat × Nat)} (C : Cx X G own cc nL ret rm (tableOf hh)) {E : String} (pre : List (Nat × Nat × Nat × Nat)) (x : Nat × Nat × Nat × Nat) (suf : List (Nat × Nat × Nat × Nat)) (hsp : hh = pre ++ x :: suf)
    (hpass : ∀ z ∈ pre, z.2.2.2 ≠ 0 ∧ ∃ F, F ∈ exT ∧ E ≠ F ∧ Cond.classLink own z.2.2.2 F ∈ lw_good) (hcov : covers ⟨x.1, x.2.1, x.2.2.1, x.2.2.2⟩ pc = true) (h0 : x.2.2.2 ≠ 0) (hlink : Cond.classLink own x.2.2.2 E ∈ lw_good) (hE : E ∈ exT)
    (kk : ∀ q : Nat, V X G nL Q k n x.2.2.1 lo [.ref q] S) : VX X G nL Q k n pc lo st S E := by
  intro H ls locs q ce hW hl hf hc hv hcl
  have hX := C.2.2.2.2.2.1.2.2.2.2.2
  refine vx_catch (own := own) (name := E) (E := E) C.2.2.2.1 (tableOf pre) ⟨x.1, x.2.1, x.2.2.1, x.2.2.2⟩ (tableOf suf) (by rw [C.2.2.2.2.2.2.2.2.2.2.2, hsp]; simp [tableOf]) ?_ hcov h0 (C.2.2.2.2.1 _ hlink) (va_Nw.use rfl (hX.1 E hE)) hc hv hcl (kk q H ls locs hW hl hf)
  intro z hz
  obtain ⟨z9, hz9, rfl⟩ := List.mem_map.mp hz
  obtain ⟨a1, F, a2, a3, a4⟩ := hpass z9 hz9
  exact Or.inr ⟨a1, F, C.2.2.2.2.1 _ a4, hX.2.1 E hE F a2 a3⟩
/-- a contract of a method with a table, that never throws -/
def Ch (l : Launch) (G : gG) (y : MethodName) (cc : ByteArray) (mL : Nat) (ret : Option FieldType) (hh : List (Nat × Nat × Nat × Nat)) (d k n : Nat) (av : List Value) (S : sS) (Pr : Option Value → sS → Prop) : Prop :=
  Met l y (Cond.codeWith y cc mL ret hh :: lw_good) (rmD d k n) (cP G av S) (cQ G Pr) k n (wN G)
theorem Ch_of {l : Launch} {y : MethodName} {mL : Nat} {hh : List (Nat × Nat × Nat × Nat)} {d : Nat} {av : List Value}
    (hy : plainName y.cls = true) (hav : ∀ v ∈ av, v.category = 1) (hlen : av.length ≤ mL) (hl : l.stackTraces = false)
    (body : ∀ X : xX, Cx X G y.cls cc mL ret (rmD d k n) (tableOf hh) → X.2.1 = l → V X G mL (eQ X G Pr (fun _ _ => False) k n) 0 0 0 (lArgs 0 av) [] S) : Ch l G y cc mL ret hh d k n av S Pr := by
  have h : vx_Met l y (Cond.codeWith y cc mL ret hh :: lw_good) (rmD d k n) (cP G av S) (cQ G Pr) (cX G (fun _ _ => False)) k n (wN G) := by
    refine vx_ofWH (cc := cc) (maxL := mL) (ret := ret) (hh := hh) hy rfl ?_
    intro p e s m args below meth c s₁ B hml hP
    obtain ⟨rfl, hW, hKn⟩ := hP
    have hts : ∀ w ∈ Cond.codeWith y cc mL ret hh :: lw_good, w.before av.toArray s = true := atoms_spec B.pre
    have C : Cx (p, l, e, (headSpec (Cond.codeWith y cc mL ret hh :: lw_good) (rmD d k n)).room, s, m, av.toArray, below, meth, c) G y.cls cc mL ret (rmD d k n) (tableOf hh) :=
      ⟨B.exec, B.bytes, hml, findClass_of_methodNamed B.named, fun w hw => hts w (List.mem_cons_of_mem _ hw), hKn, ⟨hW.1, hW.2.1⟩, hl, B.notSynchronized, B.returns, rfl, vx_table (x := y) B (hts _ List.mem_cons_self)⟩
    rw [lg_entry_eq]
    exact body _ C rfl s.heap _ [] hW (lk_entry hav hlen) (fun z hz => nomatch hz)
  exact MetFree.mono h (fun _ _ h => h) (fun _ _ _ _ _ h => h) fun a s o t _ hq => by
    rcases hq with hq | ⟨q, -, E, ce, L, ⟨S', hf, -⟩, -⟩
    · exact hq
    · exact hf.elim
def kH (own : String) (idx : Nat) (y : MethodName) (cc : ByteArray) (mL : Nat) (ret : Option FieldType) (hh : List (Nat × Nat × Nat × Nat)) (np : Nat) : Prop :=
  Cond.methodLink own idx y ∈ lw_good ∧ Cond.static y ∈ lw_good ∧ Cond.initialized y.cls ∈ lw_good ∧ Cond.codeWith y cc mL ret hh ∈ lw_good ∧ (y.cls ≠ "java/lang/invoke/MethodHandle" ∧ y.cls ≠ "java/lang/invoke/VarHandle" ∧ (parseMethodDescriptor y.desc).map (fun d => d.parameters.length) = some np)
theorem V_callH (C : Cx X G own cc nL ret rm tb) {idx mL np d' k' n' : Nat} {y : MethodName} {c2 : ByteArray} {r2 : Option FieldType} {hh : List (Nat × Nat × Nat × Nat)} {As rest : List Value} (hM : Ch X.2.1 G y c2 mL r2 hh d' k' n' As S Pr) (hk : kH own idx y c2 mL r2 hh np)
    (hR : d' + 1 ≤ rm.frames ∧ 8 + (mL + 11) + 37 * d' ≤ rm.locals) (hc : k + k' ≤ rm.cells ∧ n + n' ≤ rm.slots) (hn : As.length = np) (hst : st = As.reverse ++ rest) (h8 : (rest.map fun v => v.category).sum ≤ 8) (d : decode cc pc = .ok (.invokestatic idx, 3))
    (kr : ∀ (v : Option Value) (S' : sS), Pr v S' → V X G nL Q (k + k') (n + n') (pc + 3) lo (v.toList ++ rest) S') : V X G nL Q k n pc lo st S :=
  V_run0 (rest := rest) (a := As.toArray) (fun H ls locs hW hl => vx_runSW (fix_ok C) hM (vx_cwSW np C.2.2.2.2.1 (lg_all fun w hw => by
      rcases List.mem_append.mp (show w ∈ ([.methodLink own idx y, .static y, .initialized y.cls] : List Cond) ++ _ from hw) with h | h
      · simp only [List.mem_cons, List.not_mem_nil, or_false] at h
        rcases h with rfl | rfl | rfl
        · exact hk.1
        · exact hk.2.1
        · exact hk.2.2.1
      · rcases List.mem_cons.mp h with rfl | h
        · exact hk.2.2.2.1
        · exact h) rfl rfl rfl hk.2.2.2.2 (by rw [C.2.2.2.2.2.2.2.2.2.2.1]; exact hR)) ⟨fb_cP, pre_ok C hW⟩ rfl hn hl.1 hst (lv_room h8) d (by rw [C.2.2.2.2.2.2.2.2.2.2.1]; exact hc)) kr
/-- the private constructor of Family, called from its nest mate -/
theorem V_callIN (C : Cx X G RX0 cc nL ret rm tb) {mL d' k' n' b : Nat} {c2 : ByteArray} {rest : List Value} (hM : Ct X.2.1 G yX1_init c2 mL none d' k' n' [.ref b] S Pr (fun _ _ => False)) (hk1 : Cond.initialized yX1_init.cls ∈ lw_good) (hk2 : Cond.code yX1_init c2 mL none ∈ lw_good) (hk3 : Cond.instanceMethod yX1_init ∈ lw_good)
    (hR : d' + 1 ≤ rm.frames ∧ 8 + (mL + 11) + 37 * d' ≤ rm.locals) (hc : k + k' ≤ rm.cells ∧ n + n' ≤ rm.slots) (h8 : (rest.map fun v => v.category).sum ≤ 8) (d : decode cc pc = .ok (.invokespecial 46, 3))
    (kr : ∀ (v : Option Value) (S' : sS), Pr v S' → V X G nL Q (k + k') (n + n') (pc + 3) lo (v.toList ++ rest) S') : V X G nL Q k n pc lo (.ref b :: rest) S :=
  V_run0 (rest := rest) (a := [Value.ref b].toArray) (fun H ls locs hW hl => va_runIN (As := []) (fix_ok C) (Ct_met hM) ⟨va_cnB 0 C.2.2.2.2.1 (lg_code hk2) rfl rfl rfl C.2.2.2.2.2.1.2.2.2.2.2.2.2 (C.2.2.2.2.1 _ hk1) (by decide +kernel) (by rw [C.2.2.2.2.2.2.2.2.2.2.1]; exact hR), rfl, C.2.2.2.2.1 _ hk3⟩ ⟨fb_cP, pre_ok C hW⟩ rfl rfl hl.1 rfl (lv_room h8) d (by rw [C.2.2.2.2.2.2.2.2.2.2.1]; exact hc)) kr
def kJ (own : String) (idx : Nat) (y : MethodName) (cc : ByteArray) (mL : Nat) : Prop := Cond.methodLink own idx y ∈ lw_good ∧ Cond.static y ∈ lw_good ∧ Cond.initialized "java/lang/Math" ∈ lw_good ∧ Cond.code y cc mL (some .int) ∈ lw_good
theorem V_max (C : Cx X G own cc nL ret rm tb) {idx : Nat} {x y : Int32} (hk : kJ own idx Lib.Math.max.name Lib.Math.max.code 2) (hR : 1 ≤ rm.frames ∧ (st.map fun v => v.category).sum + 13 ≤ rm.locals ∧ k ≤ rm.cells ∧ n ≤ rm.slots) (d : decode cc pc = .ok (.invokestatic idx, 3)) (kk : V X G nL Q k n (pc + 3) lo (.int (if x < y then y else x) :: st) S) : V X G nL Q k n pc lo (.int y :: .int x :: st) S := fun H ls locs hW hl hf =>
  va_mmax C.1 C.2.1 (C.2.2.1.trans hl.1.symm) C.2.2.2.1 (C.2.2.2.2.1 _ hk.1) (C.2.2.2.2.1 _ hk.2.1) (C.2.2.2.2.1 _ hk.2.2.1) (C.2.2.2.2.1 _ hk.2.2.2) (by rw [C.2.2.2.2.2.2.2.2.2.2.1]; exact hR.1) (by rw [C.2.2.2.2.2.2.2.2.2.2.1]; exact hR.2.1) (by rw [C.2.2.2.2.2.2.2.2.2.2.1]; exact hR.2.2.1) (by rw [C.2.2.2.2.2.2.2.2.2.2.1]; exact hR.2.2.2) d (kk H ls locs hW hl hf)
theorem V_min (C : Cx X G own cc nL ret rm tb) {idx : Nat} {x y : Int32} (hk : kJ own idx Lib.Math.min.name Lib.Math.min.code 2) (hR : 1 ≤ rm.frames ∧ (st.map fun v => v.category).sum + 13 ≤ rm.locals ∧ k ≤ rm.cells ∧ n ≤ rm.slots) (d : decode cc pc = .ok (.invokestatic idx, 3)) (kk : V X G nL Q k n (pc + 3) lo (.int (if y < x then y else x) :: st) S) : V X G nL Q k n pc lo (.int y :: .int x :: st) S := fun H ls locs hW hl hf =>
  va_mmin C.1 C.2.1 (C.2.2.1.trans hl.1.symm) C.2.2.2.1 (C.2.2.2.2.1 _ hk.1) (C.2.2.2.2.1 _ hk.2.1) (C.2.2.2.2.1 _ hk.2.2.1) (C.2.2.2.2.1 _ hk.2.2.2) (by rw [C.2.2.2.2.2.2.2.2.2.2.1]; exact hR.1) (by rw [C.2.2.2.2.2.2.2.2.2.2.1]; exact hR.2.1) (by rw [C.2.2.2.2.2.2.2.2.2.2.1]; exact hR.2.2.1) (by rw [C.2.2.2.2.2.2.2.2.2.2.1]; exact hR.2.2.2) d (kk H ls locs hW hl hf)
theorem V_abs (C : Cx X G own cc nL ret rm tb) {idx : Nat} {x : Int32} (hk : kJ own idx Lib.Math.abs.name Lib.Math.abs.code 1) (hR : 1 ≤ rm.frames ∧ (st.map fun v => v.category).sum + 13 ≤ rm.locals ∧ k ≤ rm.cells ∧ n ≤ rm.slots) (d : decode cc pc = .ok (.invokestatic idx, 3)) (kk : V X G nL Q k n (pc + 3) lo (.int (if 0 ≤ x then x else 0 - x) :: st) S) : V X G nL Q k n pc lo (.int x :: st) S := fun H ls locs hW hl hf =>
  va_mabs C.1 C.2.1 (C.2.2.1.trans hl.1.symm) C.2.2.2.1 (C.2.2.2.2.1 _ hk.1) (C.2.2.2.2.1 _ hk.2.1) (C.2.2.2.2.1 _ hk.2.2.1) (C.2.2.2.2.1 _ hk.2.2.2) (by rw [C.2.2.2.2.2.2.2.2.2.2.1]; exact hR.1) (by rw [C.2.2.2.2.2.2.2.2.2.2.1]; exact hR.2.1) (by rw [C.2.2.2.2.2.2.2.2.2.2.1]; exact hR.2.2.1) (by rw [C.2.2.2.2.2.2.2.2.2.2.1]; exact hR.2.2.2) d (kk H ls locs hW hl hf)
/-- a new int[m1][m2]: the outer row at q (kind co), the inner ones behind it (kind ci) -/
def nM (S : sS) (co ci m1 m2 q : Nat) : sS := ((fun x => if x = q then co else if q < x ∧ x ≤ q + m1 then ci else sK S x), (fun x => if x = q then m1 else if q < x ∧ x ≤ q + m1 then m2 else sL S x), sI S, sR S, (fun x => if q < x ∧ x ≤ q + m1 then (fun _ => 0) else sA S x), sJ S, (fun x => if x = q then (fun i => if i < m1 then some (q + 1 + i) else none) else sQ S x))
theorem outer_arr (c : ClassId) (N h0 : Nat) : ∀ i : Nat, Jvm.Free.Multi.outerC c N h0 i = arrV c N (fun j => va_rf (if j < i then some (h0 + 1 + j) else none))
  | 0 => by
    refine (arrV_new c N .null).trans (congrArg (arrV c N) (funext fun j => ?_))
    rw [if_neg (Nat.not_lt_zero j)]
    rfl
  | i + 1 => by
    show (Jvm.Free.Multi.outerC c N h0 i).setSlot i (.ref (h0 + 1 + i)) = _
    rw [outer_arr c N h0 i, arrV_store]
    refine congrArg (arrV c N) (funext fun j => ?_)
    by_cases e : j = i
    · subst e
      simp only [updV, if_true]
      rw [if_pos (Nat.lt_succ_self j)]
      rfl
    · simp only [updV, if_neg e]
      by_cases h : j < i
      · rw [if_pos h, if_pos (Nat.lt_succ_of_lt h)]
      · rw [if_neg h, if_neg (by omega)]
theorem V_mna (C : Cx X G own cc nL ret rm tb) (co ci : Nat) {idx m1 m2 : Nat} {i j : Int32} (hw : Cond.classLink own idx "[[I" ∈ lw_good) (hw2 : Cond.arrayClass .int ∈ lw_good) (hco : 100 ≤ co ∧ co % 10 = 7) (hci : 100 ≤ ci ∧ ci % 10 = 1) (hi : ¬ i < 0) (hj : ¬ j < 0) (h1 : i.toNatClampNeg = m1) (h2 : j.toNatClampNeg = m2) (hb1 : m1 * 4 ≤ 536870912) (hb2 : m2 * 4 ≤ 536870912)
    (hcells : k + (1 + m1) ≤ rm.cells) (hslots : n + (m1 + m1 * m2) ≤ rm.slots) (d : decode cc pc = .ok (.multianewarray idx 2, 4))
    (kk : ∀ q : Nat, wB G ≤ q → (∀ x, q ≤ x → sK S x = 0) → V X G nL Q (k + 1 + m1) (n + m1 + m1 * m2) (pc + 4) lo (.ref q :: st) (nM S co ci m1 m2 q)) : V X G nL Q k n pc lo (.int j :: .int i :: st) S := by
  intro H ls locs hW hl hf T hTH Y
  subst h1; subst h2
  have hR := C.2.2.2.2.2.2.2.2.2.2.1
  have hK := C.2.2.2.2.2.1
  obtain ⟨vm₁, cA, comp, hWm, fA, fC, hO, -, X', step⟩ := Y.multianewarray2F C.1 C.2.2.2.1 (C.2.2.2.2.1 _ hw) (show (Cond.arrayOver (.array .int)).before _ _ = true from hK.2.1.2.2.2) (C.2.2.2.2.1 _ hw2) (g := F0 X.2.2.2.2.2.1 pc ls (.int j :: .int i :: st)) rfl (by rw [C.2.1]; exact d) rfl hi hj hb1 hb2 (by omega) rfl rfl (by rw [hR]; exact hcells) (by rw [hR]; exact hslots)
  have hRA7 : X.2.2.2.2.1.vm.findClass ("[" ++ (FieldType.array .int).toString) = some (G.2.1 7) := (wK_arr hK (j := 7) (by omega) (by omega)).2
  have hRA1 : X.2.2.2.2.1.vm.findClass ("[" ++ FieldType.int.toString) = some (G.2.1 1) := (wK_arr hK (j := 1) (by omega) (by omega)).2
  have ecA : cA = G.2.1 7 := Option.some.inj (fA.symm.trans hRA7)
  have eco : comp = G.2.1 1 := Option.some.inj (fC.symm.trans hRA1)
  subst ecA; subst eco
  obtain ⟨f1, f2, -, -⟩ := Jvm.Free.Multi.fill_facts (T.setVm vm₁) (G.2.1 7) (G.2.1 1) i.toNatClampNeg j.toNatClampNeg (defaultValue .int) i.toNatClampNeg
  have f3 : ∀ a, a < H.size → (Jvm.Free.Multi.fill (T.setVm vm₁) (G.2.1 7) (G.2.1 1) i.toNatClampNeg j.toNatClampNeg (defaultValue .int) i.toNatClampNeg).heap[a]? = H[a]? := fun a ha => by
    rw [Jvm.Free.Multi.fill_old (T.setVm vm₁) _ _ _ _ _ (show a < T.heap.size by rw [hTH]; exact ha)]
    show T.heap[a]? = _
    rw [hTH]
  have f4 := fun jj h => Jvm.Free.Multi.fill_inner (T.setVm vm₁) (G.2.1 7) (G.2.1 1) i.toNatClampNeg j.toNatClampNeg (defaultValue .int) i.toNatClampNeg jj h
  have eH : (T.setVm vm₁).heap = H := hTH
  rw [eH] at f1 f2 f4
  generalize Jvm.Free.Multi.fill (T.setVm vm₁) (G.2.1 7) (G.2.1 1) i.toNatClampNeg j.toNatClampNeg (defaultValue .int) i.toNatClampNeg = F at X' step f1 f2 f3 f4
  have hW' : wW G (nM S co ci i.toNatClampNeg j.toNatClampNeg H.size) F.heap := by
    refine ⟨by rw [f1]; have := hW.1; omega, fun q hq => by rw [f3 q (Nat.lt_of_lt_of_le hq hW.1)]; exact hW.2.1 q hq, fun a ha => ?_⟩
    by_cases e1 : a = H.size
    · subst e1
      have hk9 : sK (nM S co ci i.toNatClampNeg j.toNatClampNeg H.size) H.size = co := if_pos rfl
      refine ⟨hW.1, ?_⟩
      rw [wE_arr hk9 hco.1, hco.2]
      have eL : sL (nM S co ci i.toNatClampNeg j.toNatClampNeg H.size) H.size = i.toNatClampNeg := if_pos rfl
      have eQ : sQ (nM S co ci i.toNatClampNeg j.toNatClampNeg H.size) H.size = fun x => if x < i.toNatClampNeg then some (H.size + 1 + x) else none := if_pos rfl
      show F.heap[H.size]? = some (vp_cell _ (sL _ _, .inr (.inr (.inr (.inr (sQ _ _))))))
      rw [eL, eQ, vp_cell_q, f2, outer_arr]
    · by_cases e2 : H.size < a ∧ a ≤ H.size + i.toNatClampNeg
      · have hk9 : sK (nM S co ci i.toNatClampNeg j.toNatClampNeg H.size) a = ci := (if_neg e1).trans (if_pos e2)
        refine ⟨by have := hW.1; omega, ?_⟩
        rw [wE_arr hk9 hci.1, hci.2]
        have eL : sL (nM S co ci i.toNatClampNeg j.toNatClampNeg H.size) a = j.toNatClampNeg := (if_neg e1).trans (if_pos e2)
        have eA : sA (nM S co ci i.toNatClampNeg j.toNatClampNeg H.size) a = fun _ => 0 := if_pos e2
        show F.heap[a]? = some (vp_cell _ (sL _ _, .inl (sA _ _)))
        rw [eL, eA, vp_cell_i]
        have h9 := f4 (a - (H.size + 1)) (by omega)
        rw [show H.size + 1 + (a - (H.size + 1)) = a by omega] at h9
        rw [h9]
        exact congrArg some (arrV_new _ _ _)
      · have hk9 : sK (nM S co ci i.toNatClampNeg j.toNatClampNeg H.size) a = sK S a := (if_neg e1).trans (if_neg e2)
        rw [hk9] at ha
        obtain ⟨g1, g2⟩ := hW.2.2 a ha
        refine ⟨g1, ?_⟩
        rw [wE_eq (S := S) hk9 ((if_neg e1).trans (if_neg e2)) (fun _ => rfl) (fun _ => rfl) (if_neg e2) rfl (if_neg e1)]
        exact g2.kept (f3 a g2.lt)
  obtain ⟨t2, a1, b1⟩ := kk H.size hW.1 (wW_free hW) F.heap ls locs hW' hl hf F rfl X'
  refine ⟨t2, step t2 ?_, b1⟩
  rw [hTH]
  exact a1
end VM
end
