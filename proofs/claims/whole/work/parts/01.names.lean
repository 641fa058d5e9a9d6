/-- a private method of a class that the tables say can be made, by its rows of tables_1 -/
def lw_okq (q : MethodName × Nat) : Prop := (q.1.cls ≠ "java/lang/invoke/MethodHandle" ∧ q.1.cls ≠ "java/lang/invoke/VarHandle") ∧ Cond.instantiable q.1.cls q.2 ∈ tables_1 ∧ Cond.privateMethod q.1 ∈ tables_1 ∧ Cond.instanceMethod q.1 ∈ tables_1
theorem lw_p0 : lw_okq (⟨"PennyPost$Land", "departure", "(II)I"⟩, 8) := ⟨⟨by decide +kernel, by decide +kernel⟩, List.mem_of_getElem? (i := 30) (by decide +kernel), List.mem_of_getElem? (i := 507) (by decide +kernel), List.mem_of_getElem? (i := 508) (by decide +kernel)⟩
theorem lw_p1 : lw_okq (⟨"PennyPost$Text", "readClause", "()Z"⟩, 8) := ⟨⟨by decide +kernel, by decide +kernel⟩, List.mem_of_getElem? (i := 90) (by decide +kernel), List.mem_of_getElem? (i := 543) (by decide +kernel), List.mem_of_getElem? (i := 544) (by decide +kernel)⟩
theorem lw_p2 : lw_okq (⟨"PennyPost$Text", "readToken", "()V"⟩, 8) := ⟨⟨by decide +kernel, by decide +kernel⟩, List.mem_of_getElem? (i := 90) (by decide +kernel), List.mem_of_getElem? (i := 547) (by decide +kernel), List.mem_of_getElem? (i := 548) (by decide +kernel)⟩
theorem lw_p3 : lw_okq (⟨"PennyPost$Text", "clauseKind", "()I"⟩, 8) := ⟨⟨by decide +kernel, by decide +kernel⟩, List.mem_of_getElem? (i := 90) (by decide +kernel), List.mem_of_getElem? (i := 554) (by decide +kernel), List.mem_of_getElem? (i := 555) (by decide +kernel)⟩
theorem lw_p4 : lw_okq (⟨"PennyPost$Text", "isWord", "(Ljava/lang/String;)Z"⟩, 8) := ⟨⟨by decide +kernel, by decide +kernel⟩, List.mem_of_getElem? (i := 90) (by decide +kernel), List.mem_of_getElem? (i := 559) (by decide +kernel), List.mem_of_getElem? (i := 560) (by decide +kernel)⟩
theorem lw_p5 : lw_okq (⟨"PennyPost$Text", "tokenNumber", "()I"⟩, 8) := ⟨⟨by decide +kernel, by decide +kernel⟩, List.mem_of_getElem? (i := 90) (by decide +kernel), List.mem_of_getElem? (i := 616) (by decide +kernel), List.mem_of_getElem? (i := 617) (by decide +kernel)⟩
theorem lw_p6 : lw_okq (⟨"PennyPost", "isAct", "(I)Z"⟩, 8) := ⟨⟨by decide +kernel, by decide +kernel⟩, List.mem_of_getElem? (i := 22) (by decide +kernel), List.mem_of_getElem? (i := 647) (by decide +kernel), List.mem_of_getElem? (i := 648) (by decide +kernel)⟩
theorem lw_p7 : lw_okq (⟨"PennyPost$Act", "penceFor", "(I)I"⟩, 6) := ⟨⟨by decide +kernel, by decide +kernel⟩, List.mem_of_getElem? (i := 133) (by decide +kernel), List.mem_of_getElem? (i := 670) (by decide +kernel), List.mem_of_getElem? (i := 671) (by decide +kernel)⟩
theorem lw_p8 : lw_okq (⟨"PennyPost$Act", "widestTo", "()I"⟩, 6) := ⟨⟨by decide +kernel, by decide +kernel⟩, List.mem_of_getElem? (i := 133) (by decide +kernel), List.mem_of_getElem? (i := 678) (by decide +kernel), List.mem_of_getElem? (i := 679) (by decide +kernel)⟩
theorem lw_p9 : lw_okq (⟨"PennyPost$Act", "firstWeigh", "()I"⟩, 6) := ⟨⟨by decide +kernel, by decide +kernel⟩, List.mem_of_getElem? (i := 133) (by decide +kernel), List.mem_of_getElem? (i := 685) (by decide +kernel), List.mem_of_getElem? (i := 686) (by decide +kernel)⟩
theorem lw_p10 : lw_okq (⟨"PennyPost$Mail", "pay", "(LPennyPost$Letter;II)V"⟩, 12) := ⟨⟨by decide +kernel, by decide +kernel⟩, List.mem_of_getElem? (i := 171) (by decide +kernel), List.mem_of_getElem? (i := 724) (by decide +kernel), List.mem_of_getElem? (i := 725) (by decide +kernel)⟩
theorem lw_p11 : lw_okq (⟨"PennyPost$Mail", "comeIn", "()V"⟩, 12) := ⟨⟨by decide +kernel, by decide +kernel⟩, List.mem_of_getElem? (i := 171) (by decide +kernel), List.mem_of_getElem? (i := 736) (by decide +kernel), List.mem_of_getElem? (i := 737) (by decide +kernel)⟩
theorem lw_p12 : lw_okq (⟨"PennyPost$Mail", "goToDoors", "()V"⟩, 12) := ⟨⟨by decide +kernel, by decide +kernel⟩, List.mem_of_getElem? (i := 171) (by decide +kernel), List.mem_of_getElem? (i := 740) (by decide +kernel), List.mem_of_getElem? (i := 741) (by decide +kernel)⟩
theorem lw_p13 : lw_okq (⟨"PennyPost$Mail", "owed", "(LPennyPost$Letter;I)I"⟩, 12) := ⟨⟨by decide +kernel, by decide +kernel⟩, List.mem_of_getElem? (i := 171) (by decide +kernel), List.mem_of_getElem? (i := 744) (by decide +kernel), List.mem_of_getElem? (i := 745) (by decide +kernel)⟩
theorem lw_p14 : lw_okq (⟨"PennyPost$Mail", "offer", "(LPennyPost$Letter;I)V"⟩, 12) := ⟨⟨by decide +kernel, by decide +kernel⟩, List.mem_of_getElem? (i := 171) (by decide +kernel), List.mem_of_getElem? (i := 761) (by decide +kernel), List.mem_of_getElem? (i := 762) (by decide +kernel)⟩
theorem lw_p15 : lw_okq (⟨"PennyPost$Mail", "isTaken", "(LPennyPost$Letter;I)Z"⟩, 12) := ⟨⟨by decide +kernel, by decide +kernel⟩, List.mem_of_getElem? (i := 171) (by decide +kernel), List.mem_of_getElem? (i := 765) (by decide +kernel), List.mem_of_getElem? (i := 766) (by decide +kernel)⟩
def lw_privs_1 : List (MethodName × Nat) := [(⟨"PennyPost$Land", "departure", "(II)I"⟩, 8), (⟨"PennyPost$Text", "readClause", "()Z"⟩, 8), (⟨"PennyPost$Text", "readToken", "()V"⟩, 8), (⟨"PennyPost$Text", "clauseKind", "()I"⟩, 8), (⟨"PennyPost$Text", "isWord", "(Ljava/lang/String;)Z"⟩, 8), (⟨"PennyPost$Text", "tokenNumber", "()I"⟩, 8), (⟨"PennyPost", "isAct", "(I)Z"⟩, 8), (⟨"PennyPost$Act", "penceFor", "(I)I"⟩, 6), (⟨"PennyPost$Act", "widestTo", "()I"⟩, 6), (⟨"PennyPost$Act", "firstWeigh", "()I"⟩, 6), (⟨"PennyPost$Mail", "pay", "(LPennyPost$Letter;II)V"⟩, 12), (⟨"PennyPost$Mail", "comeIn", "()V"⟩, 12), (⟨"PennyPost$Mail", "goToDoors", "()V"⟩, 12), (⟨"PennyPost$Mail", "owed", "(LPennyPost$Letter;I)I"⟩, 12), (⟨"PennyPost$Mail", "offer", "(LPennyPost$Letter;I)V"⟩, 12), (⟨"PennyPost$Mail", "isTaken", "(LPennyPost$Letter;I)Z"⟩, 12)]
theorem lw_r1 : ∀ q ∈ lw_privs_1, lw_okq q := List.forall_mem_cons.mpr ⟨lw_p0, List.forall_mem_cons.mpr ⟨lw_p1, List.forall_mem_cons.mpr ⟨lw_p2, List.forall_mem_cons.mpr ⟨lw_p3, List.forall_mem_cons.mpr ⟨lw_p4, List.forall_mem_cons.mpr ⟨lw_p5, List.forall_mem_cons.mpr ⟨lw_p6, List.forall_mem_cons.mpr ⟨lw_p7, List.forall_mem_cons.mpr ⟨lw_p8, List.forall_mem_cons.mpr ⟨lw_p9, List.forall_mem_cons.mpr ⟨lw_p10, List.forall_mem_cons.mpr ⟨lw_p11, List.forall_mem_cons.mpr ⟨lw_p12, List.forall_mem_cons.mpr ⟨lw_p13, List.forall_mem_cons.mpr ⟨lw_p14, List.forall_mem_cons.mpr ⟨lw_p15, fun _ h => absurd h List.not_mem_nil⟩⟩⟩⟩⟩⟩⟩⟩⟩⟩⟩⟩⟩⟩⟩⟩
theorem lw_p16 : lw_okq (⟨"PennyPost$Mail", "isCoded", "(LPennyPost$Letter;)Z"⟩, 12) := ⟨⟨by decide +kernel, by decide +kernel⟩, List.mem_of_getElem? (i := 171) (by decide +kernel), List.mem_of_getElem? (i := 769) (by decide +kernel), List.mem_of_getElem? (i := 770) (by decide +kernel)⟩
theorem lw_p17 : lw_okq (⟨"PennyPost$Mail", "leaveTowns", "()V"⟩, 12) := ⟨⟨by decide +kernel, by decide +kernel⟩, List.mem_of_getElem? (i := 171) (by decide +kernel), List.mem_of_getElem? (i := 773) (by decide +kernel), List.mem_of_getElem? (i := 774) (by decide +kernel)⟩
theorem lw_p18 : lw_okq (⟨"PennyPost$Mail", "leave", "(LPennyPost$Letter;)V"⟩, 12) := ⟨⟨by decide +kernel, by decide +kernel⟩, List.mem_of_getElem? (i := 171) (by decide +kernel), List.mem_of_getElem? (i := 785) (by decide +kernel), List.mem_of_getElem? (i := 786) (by decide +kernel)⟩
theorem lw_p19 : lw_okq (⟨"PennyPost$Mail", "partRuns", "()V"⟩, 12) := ⟨⟨by decide +kernel, by decide +kernel⟩, List.mem_of_getElem? (i := 171) (by decide +kernel), List.mem_of_getElem? (i := 791) (by decide +kernel), List.mem_of_getElem? (i := 792) (by decide +kernel)⟩
theorem lw_p20 : lw_okq (⟨"PennyPost$Mail", "partRun", "(I)V"⟩, 12) := ⟨⟨by decide +kernel, by decide +kernel⟩, List.mem_of_getElem? (i := 171) (by decide +kernel), List.mem_of_getElem? (i := 795) (by decide +kernel), List.mem_of_getElem? (i := 796) (by decide +kernel)⟩
theorem lw_p21 : lw_okq (⟨"PennyPost$Mail", "partOf", "(LPennyPost$Letter;)I"⟩, 12) := ⟨⟨by decide +kernel, by decide +kernel⟩, List.mem_of_getElem? (i := 171) (by decide +kernel), List.mem_of_getElem? (i := 799) (by decide +kernel), List.mem_of_getElem? (i := 800) (by decide +kernel)⟩
theorem lw_p22 : lw_okq (⟨"PennyPost$Mail", "addPenny", "(I)V"⟩, 12) := ⟨⟨by decide +kernel, by decide +kernel⟩, List.mem_of_getElem? (i := 171) (by decide +kernel), List.mem_of_getElem? (i := 803) (by decide +kernel), List.mem_of_getElem? (i := 804) (by decide +kernel)⟩
theorem lw_p23 : lw_okq (⟨"PennyPost$Mail", "endRun", "(I)V"⟩, 12) := ⟨⟨by decide +kernel, by decide +kernel⟩, List.mem_of_getElem? (i := 171) (by decide +kernel), List.mem_of_getElem? (i := 807) (by decide +kernel), List.mem_of_getElem? (i := 808) (by decide +kernel)⟩
theorem lw_p24 : lw_okq (⟨"PennyPost", "isLetter", "(I)Z"⟩, 8) := ⟨⟨by decide +kernel, by decide +kernel⟩, List.mem_of_getElem? (i := 22) (by decide +kernel), List.mem_of_getElem? (i := 815) (by decide +kernel), List.mem_of_getElem? (i := 816) (by decide +kernel)⟩
theorem lw_p25 : lw_okq (⟨"PennyPost$Watch", "isDueBy", "(IIII)Z"⟩, 10) := ⟨⟨by decide +kernel, by decide +kernel⟩, List.mem_of_getElem? (i := 310) (by decide +kernel), List.mem_of_getElem? (i := 851) (by decide +kernel), List.mem_of_getElem? (i := 852) (by decide +kernel)⟩
theorem lw_p26 : lw_okq (⟨"PennyPost$Watch", "findWashable", "(I)V"⟩, 10) := ⟨⟨by decide +kernel, by decide +kernel⟩, List.mem_of_getElem? (i := 310) (by decide +kernel), List.mem_of_getElem? (i := 880) (by decide +kernel), List.mem_of_getElem? (i := 881) (by decide +kernel)⟩
theorem lw_p27 : lw_okq (⟨"PennyPost$Watch", "findFollower", "(II)Z"⟩, 10) := ⟨⟨by decide +kernel, by decide +kernel⟩, List.mem_of_getElem? (i := 310) (by decide +kernel), List.mem_of_getElem? (i := 891) (by decide +kernel), List.mem_of_getElem? (i := 892) (by decide +kernel)⟩
theorem lw_p28 : lw_okq (⟨"PennyPost$Street", "findNear", "(I)V"⟩, 6) := ⟨⟨by decide +kernel, by decide +kernel⟩, List.mem_of_getElem? (i := 348) (by decide +kernel), List.mem_of_getElem? (i := 921) (by decide +kernel), List.mem_of_getElem? (i := 922) (by decide +kernel)⟩
theorem lw_p29 : lw_okq (⟨"PennyPost$Street", "nearTo", "(I)I"⟩, 6) := ⟨⟨by decide +kernel, by decide +kernel⟩, List.mem_of_getElem? (i := 348) (by decide +kernel), List.mem_of_getElem? (i := 927) (by decide +kernel), List.mem_of_getElem? (i := 928) (by decide +kernel)⟩
theorem lw_p30 : lw_okq (⟨"PennyPost$Street", "roundOf", "(I)I"⟩, 6) := ⟨⟨by decide +kernel, by decide +kernel⟩, List.mem_of_getElem? (i := 348) (by decide +kernel), List.mem_of_getElem? (i := 940) (by decide +kernel), List.mem_of_getElem? (i := 941) (by decide +kernel)⟩
theorem lw_p31 : lw_okq (⟨"PennyPost$Street", "goOn", "(III)V"⟩, 6) := ⟨⟨by decide +kernel, by decide +kernel⟩, List.mem_of_getElem? (i := 348) (by decide +kernel), List.mem_of_getElem? (i := 951) (by decide +kernel), List.mem_of_getElem? (i := 952) (by decide +kernel)⟩
def lw_privs_2 : List (MethodName × Nat) := [(⟨"PennyPost$Mail", "isCoded", "(LPennyPost$Letter;)Z"⟩, 12), (⟨"PennyPost$Mail", "leaveTowns", "()V"⟩, 12), (⟨"PennyPost$Mail", "leave", "(LPennyPost$Letter;)V"⟩, 12), (⟨"PennyPost$Mail", "partRuns", "()V"⟩, 12), (⟨"PennyPost$Mail", "partRun", "(I)V"⟩, 12), (⟨"PennyPost$Mail", "partOf", "(LPennyPost$Letter;)I"⟩, 12), (⟨"PennyPost$Mail", "addPenny", "(I)V"⟩, 12), (⟨"PennyPost$Mail", "endRun", "(I)V"⟩, 12), (⟨"PennyPost", "isLetter", "(I)Z"⟩, 8), (⟨"PennyPost$Watch", "isDueBy", "(IIII)Z"⟩, 10), (⟨"PennyPost$Watch", "findWashable", "(I)V"⟩, 10), (⟨"PennyPost$Watch", "findFollower", "(II)Z"⟩, 10), (⟨"PennyPost$Street", "findNear", "(I)V"⟩, 6), (⟨"PennyPost$Street", "nearTo", "(I)I"⟩, 6), (⟨"PennyPost$Street", "roundOf", "(I)I"⟩, 6), (⟨"PennyPost$Street", "goOn", "(III)V"⟩, 6)]
theorem lw_r2 : ∀ q ∈ lw_privs_2, lw_okq q := List.forall_mem_cons.mpr ⟨lw_p16, List.forall_mem_cons.mpr ⟨lw_p17, List.forall_mem_cons.mpr ⟨lw_p18, List.forall_mem_cons.mpr ⟨lw_p19, List.forall_mem_cons.mpr ⟨lw_p20, List.forall_mem_cons.mpr ⟨lw_p21, List.forall_mem_cons.mpr ⟨lw_p22, List.forall_mem_cons.mpr ⟨lw_p23, List.forall_mem_cons.mpr ⟨lw_p24, List.forall_mem_cons.mpr ⟨lw_p25, List.forall_mem_cons.mpr ⟨lw_p26, List.forall_mem_cons.mpr ⟨lw_p27, List.forall_mem_cons.mpr ⟨lw_p28, List.forall_mem_cons.mpr ⟨lw_p29, List.forall_mem_cons.mpr ⟨lw_p30, List.forall_mem_cons.mpr ⟨lw_p31, fun _ h => absurd h List.not_mem_nil⟩⟩⟩⟩⟩⟩⟩⟩⟩⟩⟩⟩⟩⟩⟩⟩
theorem lw_p32 : lw_okq (⟨"PennyPost$Market", "isSmuggled", "(I)Z"⟩, 14) := ⟨⟨by decide +kernel, by decide +kernel⟩, List.mem_of_getElem? (i := 377) (by decide +kernel), List.mem_of_getElem? (i := 978) (by decide +kernel), List.mem_of_getElem? (i := 979) (by decide +kernel)⟩
theorem lw_p33 : lw_okq (⟨"PennyPost$Market", "tryYear", "(IIII)V"⟩, 14) := ⟨⟨by decide +kernel, by decide +kernel⟩, List.mem_of_getElem? (i := 377) (by decide +kernel), List.mem_of_getElem? (i := 1012) (by decide +kernel), List.mem_of_getElem? (i := 1013) (by decide +kernel)⟩
theorem lw_p34 : lw_okq (⟨"PennyPost$Market", "keepBetter", "(III)V"⟩, 14) := ⟨⟨by decide +kernel, by decide +kernel⟩, List.mem_of_getElem? (i := 377) (by decide +kernel), List.mem_of_getElem? (i := 1016) (by decide +kernel), List.mem_of_getElem? (i := 1017) (by decide +kernel)⟩
theorem lw_p35 : lw_okq (⟨"PennyPostModel", "clearDoors", "()V"⟩, 84) := ⟨⟨by decide +kernel, by decide +kernel⟩, List.mem_of_getElem? (i := 1036) (by decide +kernel), List.mem_of_getElem? (i := 1043) (by decide +kernel), List.mem_of_getElem? (i := 1044) (by decide +kernel)⟩
theorem lw_p36 : lw_okq (⟨"PennyPostModel", "otherEnd", "(II)I"⟩, 84) := ⟨⟨by decide +kernel, by decide +kernel⟩, List.mem_of_getElem? (i := 1036) (by decide +kernel), List.mem_of_getElem? (i := 1317) (by decide +kernel), List.mem_of_getElem? (i := 1318) (by decide +kernel)⟩
theorem lw_p37 : lw_okq (⟨"PennyPostModel", "farOf", "(II)I"⟩, 84) := ⟨⟨by decide +kernel, by decide +kernel⟩, List.mem_of_getElem? (i := 1036) (by decide +kernel), List.mem_of_getElem? (i := 1325) (by decide +kernel), List.mem_of_getElem? (i := 1326) (by decide +kernel)⟩
theorem lw_p38 : lw_okq (⟨"PennyPostModel", "dueOf", "(III)I"⟩, 84) := ⟨⟨by decide +kernel, by decide +kernel⟩, List.mem_of_getElem? (i := 1036) (by decide +kernel), List.mem_of_getElem? (i := 1334) (by decide +kernel), List.mem_of_getElem? (i := 1335) (by decide +kernel)⟩
theorem lw_p39 : lw_okq (⟨"PennyPostModel", "layDue", "(II)V"⟩, 84) := ⟨⟨by decide +kernel, by decide +kernel⟩, List.mem_of_getElem? (i := 1036) (by decide +kernel), List.mem_of_getElem? (i := 1338) (by decide +kernel), List.mem_of_getElem? (i := 1339) (by decide +kernel)⟩
theorem lw_p40 : lw_okq (⟨"PennyPostModel", "leaves", "(II)I"⟩, 84) := ⟨⟨by decide +kernel, by decide +kernel⟩, List.mem_of_getElem? (i := 1036) (by decide +kernel), List.mem_of_getElem? (i := 1342) (by decide +kernel), List.mem_of_getElem? (i := 1343) (by decide +kernel)⟩
theorem lw_p41 : lw_okq (⟨"PennyPostModel", "nextOf", "(III)I"⟩, 84) := ⟨⟨by decide +kernel, by decide +kernel⟩, List.mem_of_getElem? (i := 1036) (by decide +kernel), List.mem_of_getElem? (i := 1350) (by decide +kernel), List.mem_of_getElem? (i := 1351) (by decide +kernel)⟩
theorem lw_p42 : lw_okq (⟨"PennyPostModel", "token", "()V"⟩, 84) := ⟨⟨by decide +kernel, by decide +kernel⟩, List.mem_of_getElem? (i := 1036) (by decide +kernel), List.mem_of_getElem? (i := 1368) (by decide +kernel), List.mem_of_getElem? (i := 1369) (by decide +kernel)⟩
theorem lw_p43 : lw_okq (⟨"PennyPostModel", "readsClause", "()Z"⟩, 84) := ⟨⟨by decide +kernel, by decide +kernel⟩, List.mem_of_getElem? (i := 1036) (by decide +kernel), List.mem_of_getElem? (i := 1375) (by decide +kernel), List.mem_of_getElem? (i := 1376) (by decide +kernel)⟩
theorem lw_p44 : lw_okq (⟨"PennyPostModel", "clauseWord", "()I"⟩, 84) := ⟨⟨by decide +kernel, by decide +kernel⟩, List.mem_of_getElem? (i := 1036) (by decide +kernel), List.mem_of_getElem? (i := 1379) (by decide +kernel), List.mem_of_getElem? (i := 1380) (by decide +kernel)⟩
theorem lw_p45 : lw_okq (⟨"PennyPostModel", "isWord", "(II)Z"⟩, 84) := ⟨⟨by decide +kernel, by decide +kernel⟩, List.mem_of_getElem? (i := 1036) (by decide +kernel), List.mem_of_getElem? (i := 1383) (by decide +kernel), List.mem_of_getElem? (i := 1384) (by decide +kernel)⟩
theorem lw_p46 : lw_okq (⟨"PennyPostModel", "isNumber", "(II)Z"⟩, 84) := ⟨⟨by decide +kernel, by decide +kernel⟩, List.mem_of_getElem? (i := 1036) (by decide +kernel), List.mem_of_getElem? (i := 1392) (by decide +kernel), List.mem_of_getElem? (i := 1393) (by decide +kernel)⟩
theorem lw_p47 : lw_okq (⟨"PennyPostModel", "isAct", "(I)Z"⟩, 84) := ⟨⟨by decide +kernel, by decide +kernel⟩, List.mem_of_getElem? (i := 1036) (by decide +kernel), List.mem_of_getElem? (i := 1406) (by decide +kernel), List.mem_of_getElem? (i := 1407) (by decide +kernel)⟩
def lw_privs_3 : List (MethodName × Nat) := [(⟨"PennyPost$Market", "isSmuggled", "(I)Z"⟩, 14), (⟨"PennyPost$Market", "tryYear", "(IIII)V"⟩, 14), (⟨"PennyPost$Market", "keepBetter", "(III)V"⟩, 14), (⟨"PennyPostModel", "clearDoors", "()V"⟩, 84), (⟨"PennyPostModel", "otherEnd", "(II)I"⟩, 84), (⟨"PennyPostModel", "farOf", "(II)I"⟩, 84), (⟨"PennyPostModel", "dueOf", "(III)I"⟩, 84), (⟨"PennyPostModel", "layDue", "(II)V"⟩, 84), (⟨"PennyPostModel", "leaves", "(II)I"⟩, 84), (⟨"PennyPostModel", "nextOf", "(III)I"⟩, 84), (⟨"PennyPostModel", "token", "()V"⟩, 84), (⟨"PennyPostModel", "readsClause", "()Z"⟩, 84), (⟨"PennyPostModel", "clauseWord", "()I"⟩, 84), (⟨"PennyPostModel", "isWord", "(II)Z"⟩, 84), (⟨"PennyPostModel", "isNumber", "(II)Z"⟩, 84), (⟨"PennyPostModel", "isAct", "(I)Z"⟩, 84)]
theorem lw_r3 : ∀ q ∈ lw_privs_3, lw_okq q := List.forall_mem_cons.mpr ⟨lw_p32, List.forall_mem_cons.mpr ⟨lw_p33, List.forall_mem_cons.mpr ⟨lw_p34, List.forall_mem_cons.mpr ⟨lw_p35, List.forall_mem_cons.mpr ⟨lw_p36, List.forall_mem_cons.mpr ⟨lw_p37, List.forall_mem_cons.mpr ⟨lw_p38, List.forall_mem_cons.mpr ⟨lw_p39, List.forall_mem_cons.mpr ⟨lw_p40, List.forall_mem_cons.mpr ⟨lw_p41, List.forall_mem_cons.mpr ⟨lw_p42, List.forall_mem_cons.mpr ⟨lw_p43, List.forall_mem_cons.mpr ⟨lw_p44, List.forall_mem_cons.mpr ⟨lw_p45, List.forall_mem_cons.mpr ⟨lw_p46, List.forall_mem_cons.mpr ⟨lw_p47, fun _ h => absurd h List.not_mem_nil⟩⟩⟩⟩⟩⟩⟩⟩⟩⟩⟩⟩⟩⟩⟩⟩
theorem lw_p48 : lw_okq (⟨"PennyPostModel", "actOf", "(III)I"⟩, 84) := ⟨⟨by decide +kernel, by decide +kernel⟩, List.mem_of_getElem? (i := 1036) (by decide +kernel), List.mem_of_getElem? (i := 1414) (by decide +kernel), List.mem_of_getElem? (i := 1415) (by decide +kernel)⟩
theorem lw_p49 : lw_okq (⟨"PennyPostModel", "postageOf", "(IIIIZ)I"⟩, 84) := ⟨⟨by decide +kernel, by decide +kernel⟩, List.mem_of_getElem? (i := 1036) (by decide +kernel), List.mem_of_getElem? (i := 1424) (by decide +kernel), List.mem_of_getElem? (i := 1425) (by decide +kernel)⟩
theorem lw_p50 : lw_okq (⟨"PennyPostModel", "penceOf", "(II)I"⟩, 84) := ⟨⟨by decide +kernel, by decide +kernel⟩, List.mem_of_getElem? (i := 1036) (by decide +kernel), List.mem_of_getElem? (i := 1428) (by decide +kernel), List.mem_of_getElem? (i := 1429) (by decide +kernel)⟩
theorem lw_p51 : lw_okq (⟨"PennyPostModel", "clauseOf", "(II)I"⟩, 84) := ⟨⟨by decide +kernel, by decide +kernel⟩, List.mem_of_getElem? (i := 1036) (by decide +kernel), List.mem_of_getElem? (i := 1432) (by decide +kernel), List.mem_of_getElem? (i := 1433) (by decide +kernel)⟩
theorem lw_p52 : lw_okq (⟨"PennyPostModel", "pay", "(III)V"⟩, 84) := ⟨⟨by decide +kernel, by decide +kernel⟩, List.mem_of_getElem? (i := 1036) (by decide +kernel), List.mem_of_getElem? (i := 1456) (by decide +kernel), List.mem_of_getElem? (i := 1457) (by decide +kernel)⟩
theorem lw_p53 : lw_okq (⟨"PennyPostModel", "step", "()V"⟩, 84) := ⟨⟨by decide +kernel, by decide +kernel⟩, List.mem_of_getElem? (i := 1036) (by decide +kernel), List.mem_of_getElem? (i := 1465) (by decide +kernel), List.mem_of_getElem? (i := 1466) (by decide +kernel)⟩
theorem lw_p54 : lw_okq (⟨"PennyPostModel", "arrive", "(I)V"⟩, 84) := ⟨⟨by decide +kernel, by decide +kernel⟩, List.mem_of_getElem? (i := 1036) (by decide +kernel), List.mem_of_getElem? (i := 1469) (by decide +kernel), List.mem_of_getElem? (i := 1470) (by decide +kernel)⟩
theorem lw_p55 : lw_okq (⟨"PennyPostModel", "owes", "(I)I"⟩, 84) := ⟨⟨by decide +kernel, by decide +kernel⟩, List.mem_of_getElem? (i := 1036) (by decide +kernel), List.mem_of_getElem? (i := 1473) (by decide +kernel), List.mem_of_getElem? (i := 1474) (by decide +kernel)⟩
theorem lw_p56 : lw_okq (⟨"PennyPostModel", "freeOf", "(I)I"⟩, 84) := ⟨⟨by decide +kernel, by decide +kernel⟩, List.mem_of_getElem? (i := 1036) (by decide +kernel), List.mem_of_getElem? (i := 1480) (by decide +kernel), List.mem_of_getElem? (i := 1481) (by decide +kernel)⟩
theorem lw_p57 : lw_okq (⟨"PennyPostModel", "run", "(II)V"⟩, 84) := ⟨⟨by decide +kernel, by decide +kernel⟩, List.mem_of_getElem? (i := 1036) (by decide +kernel), List.mem_of_getElem? (i := 1484) (by decide +kernel), List.mem_of_getElem? (i := 1485) (by decide +kernel)⟩
theorem lw_p58 : lw_okq (⟨"PennyPostModel", "isOf", "(III)Z"⟩, 84) := ⟨⟨by decide +kernel, by decide +kernel⟩, List.mem_of_getElem? (i := 1036) (by decide +kernel), List.mem_of_getElem? (i := 1488) (by decide +kernel), List.mem_of_getElem? (i := 1489) (by decide +kernel)⟩
theorem lw_p59 : lw_okq (⟨"PennyPostModel", "part", "(I)I"⟩, 84) := ⟨⟨by decide +kernel, by decide +kernel⟩, List.mem_of_getElem? (i := 1036) (by decide +kernel), List.mem_of_getElem? (i := 1492) (by decide +kernel), List.mem_of_getElem? (i := 1493) (by decide +kernel)⟩
theorem lw_p60 : lw_okq (⟨"PennyPostModel", "isLetter", "(I)Z"⟩, 84) := ⟨⟨by decide +kernel, by decide +kernel⟩, List.mem_of_getElem? (i := 1036) (by decide +kernel), List.mem_of_getElem? (i := 1500) (by decide +kernel), List.mem_of_getElem? (i := 1501) (by decide +kernel)⟩
theorem lw_p61 : lw_okq (⟨"PennyPostModel", "can", "(IIII)Z"⟩, 84) := ⟨⟨by decide +kernel, by decide +kernel⟩, List.mem_of_getElem? (i := 1036) (by decide +kernel), List.mem_of_getElem? (i := 1532) (by decide +kernel), List.mem_of_getElem? (i := 1533) (by decide +kernel)⟩
theorem lw_p62 : lw_okq (⟨"PennyPostModel", "alikeOf", "(I)I"⟩, 84) := ⟨⟨by decide +kernel, by decide +kernel⟩, List.mem_of_getElem? (i := 1036) (by decide +kernel), List.mem_of_getElem? (i := 1544) (by decide +kernel), List.mem_of_getElem? (i := 1545) (by decide +kernel)⟩
theorem lw_p63 : lw_okq (⟨"PennyPostModel", "isJoined", "(II)Z"⟩, 84) := ⟨⟨by decide +kernel, by decide +kernel⟩, List.mem_of_getElem? (i := 1036) (by decide +kernel), List.mem_of_getElem? (i := 1552) (by decide +kernel), List.mem_of_getElem? (i := 1553) (by decide +kernel)⟩
def lw_privs_4 : List (MethodName × Nat) := [(⟨"PennyPostModel", "actOf", "(III)I"⟩, 84), (⟨"PennyPostModel", "postageOf", "(IIIIZ)I"⟩, 84), (⟨"PennyPostModel", "penceOf", "(II)I"⟩, 84), (⟨"PennyPostModel", "clauseOf", "(II)I"⟩, 84), (⟨"PennyPostModel", "pay", "(III)V"⟩, 84), (⟨"PennyPostModel", "step", "()V"⟩, 84), (⟨"PennyPostModel", "arrive", "(I)V"⟩, 84), (⟨"PennyPostModel", "owes", "(I)I"⟩, 84), (⟨"PennyPostModel", "freeOf", "(I)I"⟩, 84), (⟨"PennyPostModel", "run", "(II)V"⟩, 84), (⟨"PennyPostModel", "isOf", "(III)Z"⟩, 84), (⟨"PennyPostModel", "part", "(I)I"⟩, 84), (⟨"PennyPostModel", "isLetter", "(I)Z"⟩, 84), (⟨"PennyPostModel", "can", "(IIII)Z"⟩, 84), (⟨"PennyPostModel", "alikeOf", "(I)I"⟩, 84), (⟨"PennyPostModel", "isJoined", "(II)Z"⟩, 84)]
theorem lw_r4 : ∀ q ∈ lw_privs_4, lw_okq q := List.forall_mem_cons.mpr ⟨lw_p48, List.forall_mem_cons.mpr ⟨lw_p49, List.forall_mem_cons.mpr ⟨lw_p50, List.forall_mem_cons.mpr ⟨lw_p51, List.forall_mem_cons.mpr ⟨lw_p52, List.forall_mem_cons.mpr ⟨lw_p53, List.forall_mem_cons.mpr ⟨lw_p54, List.forall_mem_cons.mpr ⟨lw_p55, List.forall_mem_cons.mpr ⟨lw_p56, List.forall_mem_cons.mpr ⟨lw_p57, List.forall_mem_cons.mpr ⟨lw_p58, List.forall_mem_cons.mpr ⟨lw_p59, List.forall_mem_cons.mpr ⟨lw_p60, List.forall_mem_cons.mpr ⟨lw_p61, List.forall_mem_cons.mpr ⟨lw_p62, List.forall_mem_cons.mpr ⟨lw_p63, fun _ h => absurd h List.not_mem_nil⟩⟩⟩⟩⟩⟩⟩⟩⟩⟩⟩⟩⟩⟩⟩⟩
theorem lw_p64 : lw_okq (⟨"PennyPostModel", "mayWash", "(II)Z"⟩, 84) := ⟨⟨by decide +kernel, by decide +kernel⟩, List.mem_of_getElem? (i := 1036) (by decide +kernel), List.mem_of_getElem? (i := 1556) (by decide +kernel), List.mem_of_getElem? (i := 1557) (by decide +kernel)⟩
theorem lw_p65 : lw_okq (⟨"PennyPostModel", "takenBy", "(II)I"⟩, 84) := ⟨⟨by decide +kernel, by decide +kernel⟩, List.mem_of_getElem? (i := 1036) (by decide +kernel), List.mem_of_getElem? (i := 1560) (by decide +kernel), List.mem_of_getElem? (i := 1561) (by decide +kernel)⟩
theorem lw_p66 : lw_okq (⟨"PennyPostModel", "turn", "(II)V"⟩, 84) := ⟨⟨by decide +kernel, by decide +kernel⟩, List.mem_of_getElem? (i := 1036) (by decide +kernel), List.mem_of_getElem? (i := 1564) (by decide +kernel), List.mem_of_getElem? (i := 1565) (by decide +kernel)⟩
theorem lw_p67 : lw_okq (⟨"PennyPostModel", "isDoor", "(I)Z"⟩, 84) := ⟨⟨by decide +kernel, by decide +kernel⟩, List.mem_of_getElem? (i := 1036) (by decide +kernel), List.mem_of_getElem? (i := 1577) (by decide +kernel), List.mem_of_getElem? (i := 1578) (by decide +kernel)⟩
theorem lw_p68 : lw_okq (⟨"PennyPostModel", "beginYears", "()V"⟩, 84) := ⟨⟨by decide +kernel, by decide +kernel⟩, List.mem_of_getElem? (i := 1036) (by decide +kernel), List.mem_of_getElem? (i := 1604) (by decide +kernel), List.mem_of_getElem? (i := 1605) (by decide +kernel)⟩
theorem lw_p69 : lw_okq (⟨"PennyPostModel", "layYear", "(I)V"⟩, 84) := ⟨⟨by decide +kernel, by decide +kernel⟩, List.mem_of_getElem? (i := 1036) (by decide +kernel), List.mem_of_getElem? (i := 1608) (by decide +kernel), List.mem_of_getElem? (i := 1609) (by decide +kernel)⟩
theorem lw_p70 : lw_okq (⟨"PennyPostModel", "choice", "(II)I"⟩, 84) := ⟨⟨by decide +kernel, by decide +kernel⟩, List.mem_of_getElem? (i := 1036) (by decide +kernel), List.mem_of_getElem? (i := 1612) (by decide +kernel), List.mem_of_getElem? (i := 1613) (by decide +kernel)⟩
theorem lw_p71 : lw_okq (⟨"PennyPostModel", "lossNow", "()I"⟩, 84) := ⟨⟨by decide +kernel, by decide +kernel⟩, List.mem_of_getElem? (i := 1036) (by decide +kernel), List.mem_of_getElem? (i := 1616) (by decide +kernel), List.mem_of_getElem? (i := 1617) (by decide +kernel)⟩
theorem lw_p72 : lw_okq (⟨"PennyPostModel", "layPlan", "(I)I"⟩, 84) := ⟨⟨by decide +kernel, by decide +kernel⟩, List.mem_of_getElem? (i := 1036) (by decide +kernel), List.mem_of_getElem? (i := 1636) (by decide +kernel), List.mem_of_getElem? (i := 1637) (by decide +kernel)⟩
theorem lw_p73 : lw_okq (⟨"PennyPostModel", "layNumber", "(II)V"⟩, 84) := ⟨⟨by decide +kernel, by decide +kernel⟩, List.mem_of_getElem? (i := 1036) (by decide +kernel), List.mem_of_getElem? (i := 1640) (by decide +kernel), List.mem_of_getElem? (i := 1641) (by decide +kernel)⟩
theorem lw_p74 : lw_okq (⟨"PennyPostModel", "layRow", "(I)V"⟩, 84) := ⟨⟨by decide +kernel, by decide +kernel⟩, List.mem_of_getElem? (i := 1036) (by decide +kernel), List.mem_of_getElem? (i := 1644) (by decide +kernel), List.mem_of_getElem? (i := 1645) (by decide +kernel)⟩
theorem lw_p75 : lw_okq (⟨"PennyPostModel", "growBy", "(I)V"⟩, 84) := ⟨⟨by decide +kernel, by decide +kernel⟩, List.mem_of_getElem? (i := 1036) (by decide +kernel), List.mem_of_getElem? (i := 1648) (by decide +kernel), List.mem_of_getElem? (i := 1649) (by decide +kernel)⟩
def lw_privs_5 : List (MethodName × Nat) := [(⟨"PennyPostModel", "mayWash", "(II)Z"⟩, 84), (⟨"PennyPostModel", "takenBy", "(II)I"⟩, 84), (⟨"PennyPostModel", "turn", "(II)V"⟩, 84), (⟨"PennyPostModel", "isDoor", "(I)Z"⟩, 84), (⟨"PennyPostModel", "beginYears", "()V"⟩, 84), (⟨"PennyPostModel", "layYear", "(I)V"⟩, 84), (⟨"PennyPostModel", "choice", "(II)I"⟩, 84), (⟨"PennyPostModel", "lossNow", "()I"⟩, 84), (⟨"PennyPostModel", "layPlan", "(I)I"⟩, 84), (⟨"PennyPostModel", "layNumber", "(II)V"⟩, 84), (⟨"PennyPostModel", "layRow", "(I)V"⟩, 84), (⟨"PennyPostModel", "growBy", "(I)V"⟩, 84)]
theorem lw_r5 : ∀ q ∈ lw_privs_5, lw_okq q := List.forall_mem_cons.mpr ⟨lw_p64, List.forall_mem_cons.mpr ⟨lw_p65, List.forall_mem_cons.mpr ⟨lw_p66, List.forall_mem_cons.mpr ⟨lw_p67, List.forall_mem_cons.mpr ⟨lw_p68, List.forall_mem_cons.mpr ⟨lw_p69, List.forall_mem_cons.mpr ⟨lw_p70, List.forall_mem_cons.mpr ⟨lw_p71, List.forall_mem_cons.mpr ⟨lw_p72, List.forall_mem_cons.mpr ⟨lw_p73, List.forall_mem_cons.mpr ⟨lw_p74, List.forall_mem_cons.mpr ⟨lw_p75, fun _ h => absurd h List.not_mem_nil⟩⟩⟩⟩⟩⟩⟩⟩⟩⟩⟩⟩
def lw_privs : List (MethodName × Nat) := lw_privs_1 ++ (lw_privs_2 ++ (lw_privs_3 ++ (lw_privs_4 ++ (lw_privs_5))))
def lw_tbl : List Cond := k2_sels lw_privs ++ tables_1
theorem lw_privs_ok : ∀ q ∈ lw_privs, lw_okq q := by
  show ∀ q ∈ lw_privs_1 ++ (lw_privs_2 ++ (lw_privs_3 ++ (lw_privs_4 ++ (lw_privs_5)))), lw_okq q
  exact List.forall_mem_append.mpr ⟨lw_r1, List.forall_mem_append.mpr ⟨lw_r2, List.forall_mem_append.mpr ⟨lw_r3, List.forall_mem_append.mpr ⟨lw_r4, lw_r5⟩⟩⟩⟩
def RX0 : String := "PennyPost$Act"
def TX0 : u_T := fun k => match k with
  | 0 => ("PennyPost$Act", "kinds", "[I", true)
  | 1 => ("PennyPost$Act", "numbers", "[I", true)
  | 2 => ("PennyPost$Act", "pence", "[I", true)
  | 3 => ("PennyPost$Act", "clauses", "I", false)
  | 4 => ("PennyPost$Act", "day", "I", false)
  | _ => ("PennyPost$Act", "known", "[I", true)
def tyX0 : Nat → FieldType := fun k => match k with
  | 0 => .array .int
  | 1 => .array .int
  | 2 => .array .int
  | 3 => .int
  | 4 => .int
  | _ => .array .int
abbrev wsX00 : List Cond := u_ws RX0 TX0 6
theorem nmX0 : ∀ a, a < 6 → ∀ b, b < 6 → a ≠ b → (TX0 a).2.1 ≠ (TX0 b).2.1 := by decide +kernel
theorem tyX0_ok : ∀ k, k < 6 → parseFieldDescriptor (TX0 k).2.2.1 = some (tyX0 k) := by decide +kernel
abbrev cX0_init : ByteArray := prog_2_method_1_code
def yX0_init : MethodName := ⟨RX0, "<init>", "()V"⟩
abbrev cX0_copyFrom : ByteArray := prog_2_method_2_code
def yX0_copyFrom : MethodName := ⟨RX0, "copyFrom", "(LPennyPost$Text;I)V"⟩
abbrev cX0_clauseFor : ByteArray := prog_2_method_3_code
def yX0_clauseFor : MethodName := ⟨RX0, "clauseFor", "(I)I"⟩
abbrev cX0_charge : ByteArray := prog_2_method_4_code
def yX0_charge : MethodName := ⟨RX0, "charge", "(IIIZ)I"⟩
abbrev cX0_freeLetters : ByteArray := prog_2_method_5_code
def yX0_freeLetters : MethodName := ⟨RX0, "freeLetters", "()I"⟩
abbrev cX0_penceFor : ByteArray := prog_2_method_6_code
def yX0_penceFor : MethodName := ⟨RX0, "penceFor", "(I)I"⟩
abbrev cX0_widestTo : ByteArray := prog_2_method_7_code
def yX0_widestTo : MethodName := ⟨RX0, "widestTo", "()I"⟩
abbrev cX0_firstWeigh : ByteArray := prog_2_method_8_code
def yX0_firstWeigh : MethodName := ⟨RX0, "firstWeigh", "()I"⟩
abbrev cX0_upBy : ByteArray := prog_2_method_9_code
def yX0_upBy : MethodName := ⟨RX0, "upBy", "(II)I"⟩
def RX1 : String := "PennyPost$Distances"
def TX1 : u_T := fun k => match k with
  | 0 => ("PennyPost$Distances", "size", "I", true)
  | _ => ("PennyPost$Distances", "least", "[I", true)
def tyX1 : Nat → FieldType := fun k => match k with
  | 0 => .int
  | _ => .array .int
abbrev wsX10 : List Cond := u_ws RX1 TX1 2
theorem nmX1 : ∀ a, a < 2 → ∀ b, b < 2 → a ≠ b → (TX1 a).2.1 ≠ (TX1 b).2.1 := by decide +kernel
theorem tyX1_ok : ∀ k, k < 2 → parseFieldDescriptor (TX1 k).2.2.1 = some (tyX1 k) := by decide +kernel
abbrev cX1_init : ByteArray := prog_3_method_1_code
def yX1_init : MethodName := ⟨RX1, "<init>", "(I)V"⟩
abbrev cX1_clear : ByteArray := prog_3_method_2_code
def yX1_clear : MethodName := ⟨RX1, "clear", "()V"⟩
abbrev cX1_join : ByteArray := prog_3_method_3_code
def yX1_join : MethodName := ⟨RX1, "join", "(III)V"⟩
abbrev cX1_between : ByteArray := prog_3_method_4_code
def yX1_between : MethodName := ⟨RX1, "between", "(II)I"⟩
def RX2 : String := "PennyPost$Land"
def TX2 : u_T := fun k => match k with
  | 0 => ("PennyPost$Land", "miles", "LPennyPost$Distances;", true)
  | 1 => ("PennyPost$Land", "travel", "[I", true)
  | 2 => ("PennyPost$Land", "cost", "[I", true)
  | 3 => ("PennyPost$Land", "ends", "[I", true)
  | 4 => ("PennyPost$Land", "every", "[I", true)
  | 5 => ("PennyPost$Land", "first", "[I", true)
  | 6 => ("PennyPost$Land", "reached", "[I", true)
  | _ => ("PennyPost$Land", "ways", "I", false)
def tyX2 : Nat → FieldType := fun k => match k with
  | 0 => .object "PennyPost$Distances"
  | 1 => .array .int
  | 2 => .array .int
  | 3 => .array .int
  | 4 => .array .int
  | 5 => .array .int
  | 6 => .array .int
  | _ => .int
abbrev wsX20 : List Cond := u_ws RX2 TX2 8
theorem nmX2 : ∀ a, a < 8 → ∀ b, b < 8 → a ≠ b → (TX2 a).2.1 ≠ (TX2 b).2.1 := by decide +kernel
theorem tyX2_ok : ∀ k, k < 8 → parseFieldDescriptor (TX2 k).2.2.1 = some (tyX2 k) := by decide +kernel
abbrev cX2_init : ByteArray := prog_4_method_1_code
def yX2_init : MethodName := ⟨RX2, "<init>", "()V"⟩
abbrev cX2_hasWay : ByteArray := prog_4_method_2_code
def yX2_hasWay : MethodName := ⟨RX2, "hasWay", "(II)Z"⟩
abbrev cX2_addWay : ByteArray := prog_4_method_3_code
def yX2_addWay : MethodName := ⟨RX2, "addWay", "(IIIIIII)I"⟩
abbrev cX2_arrival : ByteArray := prog_4_method_4_code
def yX2_arrival : MethodName := ⟨RX2, "arrival", "(III)I"⟩
abbrev cX2_bestEnd : ByteArray := prog_4_method_5_code
def yX2_bestEnd : MethodName := ⟨RX2, "bestEnd", "(III)I"⟩
abbrev cX2_leavesIn : ByteArray := prog_4_method_6_code
def yX2_leavesIn : MethodName := ⟨RX2, "leavesIn", "(II)Z"⟩
abbrev cX2_anyLeaves : ByteArray := prog_4_method_7_code
def yX2_anyLeaves : MethodName := ⟨RX2, "anyLeaves", "(II)Z"⟩
abbrev cX2_spreadFrom : ByteArray := prog_4_method_8_code
def yX2_spreadFrom : MethodName := ⟨RX2, "spreadFrom", "(II)V"⟩
abbrev cX2_departure : ByteArray := prog_4_method_9_code
def yX2_departure : MethodName := ⟨RX2, "departure", "(II)I"⟩
def RX3 : String := "PennyPost$Letter"
def TX3 : u_T := fun k => match k with
  | 0 => ("PennyPost$Letter", "from", "I", false)
  | 1 => ("PennyPost$Letter", "to", "I", false)
  | 2 => ("PennyPost$Letter", "sheets", "I", false)
  | 3 => ("PennyPost$Letter", "drams", "I", false)
  | 4 => ("PennyPost$Letter", "worth", "I", false)
  | 5 => ("PennyPost$Letter", "kind", "I", false)
  | 6 => ("PennyPost$Letter", "with", "I", false)
  | 7 => ("PennyPost$Letter", "written", "I", false)
  | 8 => ("PennyPost$Letter", "state", "I", false)
  | 9 => ("PennyPost$Letter", "town", "I", false)
  | 10 => ("PennyPost$Letter", "goal", "I", false)
  | 11 => ("PennyPost$Letter", "comesTo", "I", false)
  | 12 => ("PennyPost$Letter", "comesIn", "I", false)
  | 13 => ("PennyPost$Letter", "refused", "Z", false)
  | 14 => ("PennyPost$Letter", "paid", "I", false)
  | 15 => ("PennyPost$Letter", "borne", "I", false)
  | 16 => ("PennyPost$Letter", "ended", "I", false)
  | 17 => ("PennyPost$Letter", "run", "I", false)
  | _ => ("PennyPost$Letter", "cut", "I", false)
def tyX3 : Nat → FieldType := fun k => match k with
  | 0 => .int
  | 1 => .int
  | 2 => .int
  | 3 => .int
  | 4 => .int
  | 5 => .int
  | 6 => .int
  | 7 => .int
  | 8 => .int
  | 9 => .int
  | 10 => .int
  | 11 => .int
  | 12 => .int
  | 13 => .boolean
  | 14 => .int
  | 15 => .int
  | 16 => .int
  | 17 => .int
  | _ => .int
abbrev wsX30 : List Cond := u_ws RX3 TX3 19
theorem nmX3 : ∀ a, a < 19 → ∀ b, b < 19 → a ≠ b → (TX3 a).2.1 ≠ (TX3 b).2.1 := by decide +kernel
theorem tyX3_ok : ∀ k, k < 19 → parseFieldDescriptor (TX3 k).2.2.1 = some (tyX3 k) := by decide +kernel
abbrev cX3_init : ByteArray := prog_5_method_1_code
def yX3_init : MethodName := ⟨RX3, "<init>", "()V"⟩
def RX4 : String := "PennyPost$Mail"
def TX4 : u_T := fun k => match k with
  | 0 => ("PennyPost$Mail", "land", "LPennyPost$Land;", true)
  | 1 => ("PennyPost$Mail", "offices", "LPennyPost$Offices;", true)
  | 2 => ("PennyPost$Mail", "rules", "[I", true)
  | 3 => ("PennyPost$Mail", "letters", "[LPennyPost$Letter;", true)
  | 4 => ("PennyPost$Mail", "purses", "[I", true)
  | 5 => ("PennyPost$Mail", "codes", "[I", true)
  | 6 => ("PennyPost$Mail", "count", "I", false)
  | 7 => ("PennyPost$Mail", "hour", "I", false)
  | 8 => ("PennyPost$Mail", "allPaid", "I", false)
  | 9 => ("PennyPost$Mail", "allRuns", "I", false)
  | 10 => ("PennyPost$Mail", "refused", "I", false)
  | _ => ("PennyPost$Mail", "given", "I", false)
def tyX4 : Nat → FieldType := fun k => match k with
  | 0 => .object "PennyPost$Land"
  | 1 => .object "PennyPost$Offices"
  | 2 => .array .int
  | 3 => .array (.object "PennyPost$Letter")
  | 4 => .array .int
  | 5 => .array .int
  | 6 => .int
  | 7 => .int
  | 8 => .int
  | 9 => .int
  | 10 => .int
  | _ => .int
abbrev wsX40 : List Cond := u_ws RX4 TX4 12
theorem nmX4 : ∀ a, a < 12 → ∀ b, b < 12 → a ≠ b → (TX4 a).2.1 ≠ (TX4 b).2.1 := by decide +kernel
theorem tyX4_ok : ∀ k, k < 12 → parseFieldDescriptor (TX4 k).2.2.1 = some (tyX4 k) := by decide +kernel
abbrev cX4_init : ByteArray := prog_6_method_1_code
def yX4_init : MethodName := ⟨RX4, "<init>", "(LPennyPost$Land;LPennyPost$Offices;[I)V"⟩
abbrev cX4_chargeAhead : ByteArray := prog_6_method_2_code
def yX4_chargeAhead : MethodName := ⟨RX4, "chargeAhead", "(IIII)I"⟩
abbrev cX4_addLetter : ByteArray := prog_6_method_3_code
def yX4_addLetter : MethodName := ⟨RX4, "addLetter", "(III)LPennyPost$Letter;"⟩
abbrev cX4_frankedIn : ByteArray := prog_6_method_4_code
def yX4_frankedIn : MethodName := ⟨RX4, "frankedIn", "(III)I"⟩
abbrev cX4_passHour : ByteArray := prog_6_method_5_code
def yX4_passHour : MethodName := ⟨RX4, "passHour", "()V"⟩
abbrev cX4_comeIn : ByteArray := prog_6_method_6_code
def yX4_comeIn : MethodName := ⟨RX4, "comeIn", "()V"⟩
abbrev cX4_goToDoors : ByteArray := prog_6_method_7_code
def yX4_goToDoors : MethodName := ⟨RX4, "goToDoors", "()V"⟩
abbrev cX4_owed : ByteArray := prog_6_method_8_code
def yX4_owed : MethodName := ⟨RX4, "owed", "(LPennyPost$Letter;I)I"⟩
abbrev cX4_offer : ByteArray := prog_6_method_9_code
def yX4_offer : MethodName := ⟨RX4, "offer", "(LPennyPost$Letter;I)V"⟩
abbrev cX4_isTaken : ByteArray := prog_6_method_10_code
def yX4_isTaken : MethodName := ⟨RX4, "isTaken", "(LPennyPost$Letter;I)Z"⟩
abbrev cX4_isCoded : ByteArray := prog_6_method_11_code
def yX4_isCoded : MethodName := ⟨RX4, "isCoded", "(LPennyPost$Letter;)Z"⟩
abbrev cX4_pay : ByteArray := prog_6_method_12_code
def yX4_pay : MethodName := ⟨RX4, "pay", "(LPennyPost$Letter;II)V"⟩
abbrev cX4_leaveTowns : ByteArray := prog_6_method_13_code
def yX4_leaveTowns : MethodName := ⟨RX4, "leaveTowns", "()V"⟩
abbrev cX4_leave : ByteArray := prog_6_method_14_code
def yX4_leave : MethodName := ⟨RX4, "leave", "(LPennyPost$Letter;)V"⟩
abbrev cX4_partRuns : ByteArray := prog_6_method_15_code
def yX4_partRuns : MethodName := ⟨RX4, "partRuns", "()V"⟩
abbrev cX4_partRun : ByteArray := prog_6_method_16_code
def yX4_partRun : MethodName := ⟨RX4, "partRun", "(I)V"⟩
abbrev cX4_partOf : ByteArray := prog_6_method_17_code
def yX4_partOf : MethodName := ⟨RX4, "partOf", "(LPennyPost$Letter;)I"⟩
abbrev cX4_addPenny : ByteArray := prog_6_method_18_code
def yX4_addPenny : MethodName := ⟨RX4, "addPenny", "(I)V"⟩
abbrev cX4_endRun : ByteArray := prog_6_method_19_code
def yX4_endRun : MethodName := ⟨RX4, "endRun", "(I)V"⟩
def RX5 : String := "PennyPost$Market"
def TX5 : u_T := fun k => match k with
  | 0 => ("PennyPost$Market", "rules", "[I", true)
  | 1 => ("PennyPost$Market", "from", "[I", true)
  | 2 => ("PennyPost$Market", "to", "[I", true)
  | 3 => ("PennyPost$Market", "people", "[I", true)
  | 4 => ("PennyPost$Market", "worth", "[I", true)
  | 5 => ("PennyPost$Market", "times", "[I", true)
  | 6 => ("PennyPost$Market", "wants", "I", false)
  | 7 => ("PennyPost$Market", "prices", "[I", true)
  | 8 => ("PennyPost$Market", "priceCount", "I", false)
  | 9 => ("PennyPost$Market", "smuggled", "I", false)
  | 10 => ("PennyPost$Market", "tried", "[I", true)
  | 11 => ("PennyPost$Market", "best", "[I", true)
  | 12 => ("PennyPost$Market", "bestLetters", "I", false)
  | _ => ("PennyPost$Market", "bestDebt", "I", false)
def tyX5 : Nat → FieldType := fun k => match k with
  | 0 => .array .int
  | 1 => .array .int
  | 2 => .array .int
  | 3 => .array .int
  | 4 => .array .int
  | 5 => .array .int
  | 6 => .int
  | 7 => .array .int
  | 8 => .int
  | 9 => .int
  | 10 => .array .int
  | 11 => .array .int
  | 12 => .int
  | _ => .int
abbrev wsX50 : List Cond := u_ws RX5 TX5 14
theorem nmX5 : ∀ a, a < 14 → ∀ b, b < 14 → a ≠ b → (TX5 a).2.1 ≠ (TX5 b).2.1 := by decide +kernel
theorem tyX5_ok : ∀ k, k < 14 → parseFieldDescriptor (TX5 k).2.2.1 = some (tyX5 k) := by decide +kernel
abbrev cX5_init : ByteArray := prog_7_method_1_code
def yX5_init : MethodName := ⟨RX5, "<init>", "([I)V"⟩
abbrev cX5_addWant : ByteArray := prog_7_method_2_code
def yX5_addWant : MethodName := ⟨RX5, "addWant", "(IIIII)I"⟩
abbrev cX5_addPrice : ByteArray := prog_7_method_3_code
def yX5_addPrice : MethodName := ⟨RX5, "addPrice", "(I)I"⟩
abbrev cX5_isPosted : ByteArray := prog_7_method_4_code
def yX5_isPosted : MethodName := ⟨RX5, "isPosted", "(II)Z"⟩
abbrev cX5_passYear : ByteArray := prog_7_method_5_code
def yX5_passYear : MethodName := ⟨RX5, "passYear", "(II)I"⟩
abbrev cX5_loss : ByteArray := prog_7_method_6_code
def yX5_loss : MethodName := ⟨RX5, "loss", "(II)I"⟩
abbrev cX5_findBest : ByteArray := prog_7_method_7_code
def yX5_findBest : MethodName := ⟨RX5, "findBest", "(I)Z"⟩
abbrev cX5_tryYear : ByteArray := prog_7_method_8_code
def yX5_tryYear : MethodName := ⟨RX5, "tryYear", "(IIII)V"⟩
abbrev cX5_keepBetter : ByteArray := prog_7_method_9_code
def yX5_keepBetter : MethodName := ⟨RX5, "keepBetter", "(III)V"⟩
abbrev cX5_isSmuggled : ByteArray := prog_7_method_10_code
def yX5_isSmuggled : MethodName := ⟨RX5, "isSmuggled", "(I)Z"⟩
def RX6 : String := "PennyPost$Offices"
def TX6 : u_T := fun k => match k with
  | 0 => ("PennyPost$Offices", "acts", "[LPennyPost$Act;", true)
  | _ => ("PennyPost$Offices", "count", "I", false)
def tyX6 : Nat → FieldType := fun k => match k with
  | 0 => .array (.object "PennyPost$Act")
  | _ => .int
abbrev wsX60 : List Cond := u_ws RX6 TX6 2
theorem nmX6 : ∀ a, a < 2 → ∀ b, b < 2 → a ≠ b → (TX6 a).2.1 ≠ (TX6 b).2.1 := by decide +kernel
theorem tyX6_ok : ∀ k, k < 2 → parseFieldDescriptor (TX6 k).2.2.1 = some (tyX6 k) := by decide +kernel
abbrev cX6_init : ByteArray := prog_8_method_1_code
def yX6_init : MethodName := ⟨RX6, "<init>", "()V"⟩
abbrev cX6_addAct : ByteArray := prog_8_method_2_code
def yX6_addAct : MethodName := ⟨RX6, "addAct", "(LPennyPost$Text;ILPennyPost$Land;I)I"⟩
abbrev cX6_told : ByteArray := prog_8_method_3_code
def yX6_told : MethodName := ⟨RX6, "told", "(III)I"⟩
def RX7 : String := "PennyPost$Street"
def TX7 : u_T := fun k => match k with
  | 0 => ("PennyPost$Street", "lengths", "LPennyPost$Distances;", true)
  | 1 => ("PennyPost$Street", "count", "I", false)
  | 2 => ("PennyPost$Street", "paths", "I", false)
  | 3 => ("PennyPost$Street", "near", "[I", true)
  | 4 => ("PennyPost$Street", "stops", "[I", true)
  | _ => ("PennyPost$Street", "walked", "[I", true)
def tyX7 : Nat → FieldType := fun k => match k with
  | 0 => .object "PennyPost$Distances"
  | 1 => .int
  | 2 => .int
  | 3 => .array .int
  | 4 => .array .int
  | _ => .array .int
abbrev wsX70 : List Cond := u_ws RX7 TX7 6
theorem nmX7 : ∀ a, a < 6 → ∀ b, b < 6 → a ≠ b → (TX7 a).2.1 ≠ (TX7 b).2.1 := by decide +kernel
theorem tyX7_ok : ∀ k, k < 6 → parseFieldDescriptor (TX7 k).2.2.1 = some (tyX7 k) := by decide +kernel
abbrev cX7_init : ByteArray := prog_9_method_1_code
def yX7_init : MethodName := ⟨RX7, "<init>", "()V"⟩
abbrev cX7_build : ByteArray := prog_9_method_2_code
def yX7_build : MethodName := ⟨RX7, "build", "(I)V"⟩
abbrev cX7_addPath : ByteArray := prog_9_method_3_code
def yX7_addPath : MethodName := ⟨RX7, "addPath", "(III)I"⟩
abbrev cX7_fewestBoxes : ByteArray := prog_9_method_4_code
def yX7_fewestBoxes : MethodName := ⟨RX7, "fewestBoxes", "(I)I"⟩
abbrev cX7_findNear : ByteArray := prog_9_method_5_code
def yX7_findNear : MethodName := ⟨RX7, "findNear", "(I)V"⟩
abbrev cX7_nearTo : ByteArray := prog_9_method_6_code
def yX7_nearTo : MethodName := ⟨RX7, "nearTo", "(I)I"⟩
abbrev cX7_round : ByteArray := prog_9_method_7_code
def yX7_round : MethodName := ⟨RX7, "round", "(I)I"⟩
abbrev cX7_roundOf : ByteArray := prog_9_method_8_code
def yX7_roundOf : MethodName := ⟨RX7, "roundOf", "(I)I"⟩
abbrev cX7_goOn : ByteArray := prog_9_method_9_code
def yX7_goOn : MethodName := ⟨RX7, "goOn", "(III)V"⟩
def RX8 : String := "PennyPost$Text"
def TX8 : u_T := fun k => match k with
  | 0 => ("PennyPost$Text", "bytes", "[I", true)
  | 1 => ("PennyPost$Text", "length", "I", false)
  | 2 => ("PennyPost$Text", "start", "I", false)
  | 3 => ("PennyPost$Text", "end", "I", false)
  | 4 => ("PennyPost$Text", "kinds", "[I", true)
  | 5 => ("PennyPost$Text", "numbers", "[I", true)
  | 6 => ("PennyPost$Text", "pence", "[I", true)
  | _ => ("PennyPost$Text", "clauses", "I", false)
def tyX8 : Nat → FieldType := fun k => match k with
  | 0 => .array .int
  | 1 => .int
  | 2 => .int
  | 3 => .int
  | 4 => .array .int
  | 5 => .array .int
  | 6 => .array .int
  | _ => .int
abbrev wsX80 : List Cond := u_ws RX8 TX8 8
theorem nmX8 : ∀ a, a < 8 → ∀ b, b < 8 → a ≠ b → (TX8 a).2.1 ≠ (TX8 b).2.1 := by decide +kernel
theorem tyX8_ok : ∀ k, k < 8 → parseFieldDescriptor (TX8 k).2.2.1 = some (tyX8 k) := by decide +kernel
abbrev cX8_init : ByteArray := prog_10_method_1_code
def yX8_init : MethodName := ⟨RX8, "<init>", "()V"⟩
abbrev cX8_append : ByteArray := prog_10_method_2_code
def yX8_append : MethodName := ⟨RX8, "append", "(I)V"⟩
abbrev cX8_firstFault : ByteArray := prog_10_method_3_code
def yX8_firstFault : MethodName := ⟨RX8, "firstFault", "()I"⟩
abbrev cX8_readClause : ByteArray := prog_10_method_4_code
def yX8_readClause : MethodName := ⟨RX8, "readClause", "()Z"⟩
abbrev cX8_readToken : ByteArray := prog_10_method_5_code
def yX8_readToken : MethodName := ⟨RX8, "readToken", "()V"⟩
abbrev cX8_sortOf : ByteArray := prog_10_method_6_code
def yX8_sortOf : MethodName := ⟨RX8, "sortOf", "(I)I"⟩
abbrev cX8_clauseKind : ByteArray := prog_10_method_7_code
def yX8_clauseKind : MethodName := ⟨RX8, "clauseKind", "()I"⟩
abbrev cX8_isWord : ByteArray := prog_10_method_8_code
def yX8_isWord : MethodName := ⟨RX8, "isWord", "(Ljava/lang/String;)Z"⟩
abbrev cX8_tokenNumber : ByteArray := prog_10_method_9_code
def yX8_tokenNumber : MethodName := ⟨RX8, "tokenNumber", "()I"⟩
def RX9 : String := "PennyPost$Watch"
def TX9 : u_T := fun k => match k with
  | 0 => ("PennyPost$Watch", "land", "LPennyPost$Land;", true)
  | 1 => ("PennyPost$Watch", "mail", "LPennyPost$Mail;", true)
  | 2 => ("PennyPost$Watch", "rules", "[I", true)
  | 3 => ("PennyPost$Watch", "who", "[I", true)
  | 4 => ("PennyPost$Watch", "where", "[I", true)
  | 5 => ("PennyPost$Watch", "when", "[I", true)
  | 6 => ("PennyPost$Watch", "meetings", "I", false)
  | 7 => ("PennyPost$Watch", "washable", "[I", true)
  | 8 => ("PennyPost$Watch", "ahead", "[I", true)
  | _ => ("PennyPost$Watch", "seen", "I", false)
def tyX9 : Nat → FieldType := fun k => match k with
  | 0 => .object "PennyPost$Land"
  | 1 => .object "PennyPost$Mail"
  | 2 => .array .int
  | 3 => .array .int
  | 4 => .array .int
  | 5 => .array .int
  | 6 => .int
  | 7 => .array .int
  | 8 => .array .int
  | _ => .int
abbrev wsX90 : List Cond := u_ws RX9 TX9 10
theorem nmX9 : ∀ a, a < 10 → ∀ b, b < 10 → a ≠ b → (TX9 a).2.1 ≠ (TX9 b).2.1 := by decide +kernel
theorem tyX9_ok : ∀ k, k < 10 → parseFieldDescriptor (TX9 k).2.2.1 = some (tyX9 k) := by decide +kernel
abbrev cX9_init : ByteArray := prog_11_method_1_code
def yX9_init : MethodName := ⟨RX9, "<init>", "(LPennyPost$Land;LPennyPost$Mail;[I)V"⟩
abbrev cX9_addMeeting : ByteArray := prog_11_method_2_code
def yX9_addMeeting : MethodName := ⟨RX9, "addMeeting", "(III)I"⟩
abbrev cX9_isElsewhere : ByteArray := prog_11_method_3_code
def yX9_isElsewhere : MethodName := ⟨RX9, "isElsewhere", "(LPennyPost$Letter;)Z"⟩
abbrev cX9_lettersWith : ByteArray := prog_11_method_4_code
def yX9_lettersWith : MethodName := ⟨RX9, "lettersWith", "(I)I"⟩
abbrev cX9_forgeries : ByteArray := prog_11_method_5_code
def yX9_forgeries : MethodName := ⟨RX9, "forgeries", "(I)I"⟩
abbrev cX9_findWashable : ByteArray := prog_11_method_6_code
def yX9_findWashable : MethodName := ⟨RX9, "findWashable", "(I)V"⟩
abbrev cX9_isDueBy : ByteArray := prog_11_method_7_code
def yX9_isDueBy : MethodName := ⟨RX9, "isDueBy", "(IIII)Z"⟩
abbrev cX9_findFollower : ByteArray := prog_11_method_8_code
def yX9_findFollower : MethodName := ⟨RX9, "findFollower", "(II)Z"⟩
def RX10 : String := "PennyPost"
def TX10 : u_T := fun k => match k with
  | 0 => ("PennyPost", "rules", "[I", true)
  | 1 => ("PennyPost", "land", "LPennyPost$Land;", true)
  | 2 => ("PennyPost", "text", "LPennyPost$Text;", true)
  | 3 => ("PennyPost", "offices", "LPennyPost$Offices;", true)
  | 4 => ("PennyPost", "mail", "LPennyPost$Mail;", true)
  | 5 => ("PennyPost", "watch", "LPennyPost$Watch;", true)
  | 6 => ("PennyPost", "street", "LPennyPost$Street;", true)
  | _ => ("PennyPost", "market", "LPennyPost$Market;", true)
def tyX10 : Nat → FieldType := fun k => match k with
  | 0 => .array .int
  | 1 => .object "PennyPost$Land"
  | 2 => .object "PennyPost$Text"
  | 3 => .object "PennyPost$Offices"
  | 4 => .object "PennyPost$Mail"
  | 5 => .object "PennyPost$Watch"
  | 6 => .object "PennyPost$Street"
  | _ => .object "PennyPost$Market"
abbrev wsX100 : List Cond := u_ws RX10 TX10 8
theorem nmX10 : ∀ a, a < 8 → ∀ b, b < 8 → a ≠ b → (TX10 a).2.1 ≠ (TX10 b).2.1 := by decide +kernel
theorem tyX10_ok : ∀ k, k < 8 → parseFieldDescriptor (TX10 k).2.2.1 = some (tyX10 k) := by decide +kernel
abbrev cX10_init : ByteArray := prog_1_method_1_code
def yX10_init : MethodName := ⟨RX10, "<init>", "()V"⟩
abbrev cX10_way : ByteArray := prog_1_method_2_code
def yX10_way : MethodName := ⟨RX10, "way", "(IIIIIII)I"⟩
abbrev cX10_far : ByteArray := prog_1_method_3_code
def yX10_far : MethodName := ⟨RX10, "far", "(II)I"⟩
abbrev cX10_due : ByteArray := prog_1_method_4_code
def yX10_due : MethodName := ⟨RX10, "due", "(III)I"⟩
abbrev cX10_next : ByteArray := prog_1_method_5_code
def yX10_next : MethodName := ⟨RX10, "next", "(III)I"⟩
abbrev cX10_write : ByteArray := prog_1_method_6_code
def yX10_write : MethodName := ⟨RX10, "write", "(JI)I"⟩
abbrev cX10_erase : ByteArray := prog_1_method_7_code
def yX10_erase : MethodName := ⟨RX10, "erase", "()I"⟩
abbrev cX10_fault : ByteArray := prog_1_method_8_code
def yX10_fault : MethodName := ⟨RX10, "fault", "()I"⟩
abbrev cX10_force : ByteArray := prog_1_method_9_code
def yX10_force : MethodName := ⟨RX10, "force", "(I)I"⟩
abbrev cX10_knows : ByteArray := prog_1_method_10_code
def yX10_knows : MethodName := ⟨RX10, "knows", "(II)I"⟩
abbrev cX10_act : ByteArray := prog_1_method_11_code
def yX10_act : MethodName := ⟨RX10, "act", "(III)I"⟩
abbrev cX10_postage : ByteArray := prog_1_method_12_code
def yX10_postage : MethodName := ⟨RX10, "postage", "(IIIIZ)I"⟩
abbrev cX10_why : ByteArray := prog_1_method_13_code
def yX10_why : MethodName := ⟨RX10, "why", "(II)I"⟩
abbrev cX10_letter : ByteArray := prog_1_method_14_code
def yX10_letter : MethodName := ⟨RX10, "letter", "(IIIIIII)I"⟩
abbrev cX10_hours : ByteArray := prog_1_method_15_code
def yX10_hours : MethodName := ⟨RX10, "hours", "(I)I"⟩
abbrev cX10_at : ByteArray := prog_1_method_16_code
def yX10_at : MethodName := ⟨RX10, "at", "(II)I"⟩
abbrev cX10_purse : ByteArray := prog_1_method_17_code
def yX10_purse : MethodName := ⟨RX10, "purse", "(II)I"⟩
abbrev cX10_code : ByteArray := prog_1_method_18_code
def yX10_code : MethodName := ⟨RX10, "code", "(III)I"⟩
abbrev cX10_set : ByteArray := prog_1_method_19_code
def yX10_set : MethodName := ⟨RX10, "set", "(II)I"⟩
abbrev cX10_met : ByteArray := prog_1_method_20_code
def yX10_met : MethodName := ⟨RX10, "met", "(III)I"⟩
abbrev cX10_cannot : ByteArray := prog_1_method_21_code
def yX10_cannot : MethodName := ⟨RX10, "cannot", "(I)I"⟩
abbrev cX10_more : ByteArray := prog_1_method_22_code
def yX10_more : MethodName := ⟨RX10, "more", "(II)I"⟩
abbrev cX10_alike : ByteArray := prog_1_method_23_code
def yX10_alike : MethodName := ⟨RX10, "alike", "(I)I"⟩
abbrev cX10_forged : ByteArray := prog_1_method_24_code
def yX10_forged : MethodName := ⟨RX10, "forged", "(I)I"⟩
abbrev cX10_doors : ByteArray := prog_1_method_25_code
def yX10_doors : MethodName := ⟨RX10, "doors", "(I)I"⟩
abbrev cX10_path : ByteArray := prog_1_method_26_code
def yX10_path : MethodName := ⟨RX10, "path", "(III)I"⟩
abbrev cX10_boxes : ByteArray := prog_1_method_27_code
def yX10_boxes : MethodName := ⟨RX10, "boxes", "(II)I"⟩
abbrev cX10_walk : ByteArray := prog_1_method_28_code
def yX10_walk : MethodName := ⟨RX10, "walk", "(I)I"⟩
abbrev cX10_want : ByteArray := prog_1_method_29_code
def yX10_want : MethodName := ⟨RX10, "want", "(IIIII)I"⟩
abbrev cX10_year : ByteArray := prog_1_method_30_code
def yX10_year : MethodName := ⟨RX10, "year", "(II)I"⟩
abbrev cX10_even : ByteArray := prog_1_method_31_code
def yX10_even : MethodName := ⟨RX10, "even", "()I"⟩
abbrev cX10_under : ByteArray := prog_1_method_32_code
def yX10_under : MethodName := ⟨RX10, "under", "(II)I"⟩
abbrev cX10_price : ByteArray := prog_1_method_33_code
def yX10_price : MethodName := ⟨RX10, "price", "(I)I"⟩
abbrev cX10_plan : ByteArray := prog_1_method_34_code
def yX10_plan : MethodName := ⟨RX10, "plan", "(II)I"⟩
abbrev cX10_planned : ByteArray := prog_1_method_35_code
def yX10_planned : MethodName := ⟨RX10, "planned", "(II)I"⟩
abbrev cX10_judge : ByteArray := prog_1_method_36_code
def yX10_judge : MethodName := ⟨RX10, "judge", "(JII)I"⟩
abbrev cX10_count : ByteArray := prog_1_method_37_code
def yX10_count : MethodName := ⟨RX10, "count", "(I)I"⟩
abbrev cX10_within : ByteArray := prog_1_method_38_code
def yX10_within : MethodName := ⟨RX10, "within", "(III)Z"⟩
abbrev cX10_isTown : ByteArray := prog_1_method_39_code
def yX10_isTown : MethodName := ⟨RX10, "isTown", "(I)Z"⟩
abbrev cX10_areTwoTowns : ByteArray := prog_1_method_40_code
def yX10_areTwoTowns : MethodName := ⟨RX10, "areTwoTowns", "(II)Z"⟩
abbrev cX10_isMember : ByteArray := prog_1_method_41_code
def yX10_isMember : MethodName := ⟨RX10, "isMember", "(I)Z"⟩
abbrev cX10_isStamp : ByteArray := prog_1_method_42_code
def yX10_isStamp : MethodName := ⟨RX10, "isStamp", "(I)Z"⟩
abbrev cX10_isSize : ByteArray := prog_1_method_43_code
def yX10_isSize : MethodName := ⟨RX10, "isSize", "(II)Z"⟩
abbrev cX10_isAct : ByteArray := prog_1_method_44_code
def yX10_isAct : MethodName := ⟨RX10, "isAct", "(I)Z"⟩
abbrev cX10_isLetter : ByteArray := prog_1_method_45_code
def yX10_isLetter : MethodName := ⟨RX10, "isLetter", "(I)Z"⟩
abbrev cX10_dayOf : ByteArray := prog_1_method_46_code
def yX10_dayOf : MethodName := ⟨RX10, "dayOf", "(I)I"⟩
abbrev cX10_weekOf : ByteArray := prog_1_method_47_code
def yX10_weekOf : MethodName := ⟨RX10, "weekOf", "(I)I"⟩
def RX11 : String := "PennyPostModel"
def TX11 : u_T := fun k => match k with
  | 0 => ("PennyPostModel", "wayA", "[I", true)
  | 1 => ("PennyPostModel", "wayB", "[I", true)
  | 2 => ("PennyPostModel", "wayMiles", "[I", true)
  | 3 => ("PennyPostModel", "wayHours", "[I", true)
  | 4 => ("PennyPostModel", "wayEvery", "[I", true)
  | 5 => ("PennyPostModel", "wayFirst", "[I", true)
  | 6 => ("PennyPostModel", "wayCost", "[I", true)
  | 7 => ("PennyPostModel", "ways", "I", false)
  | 8 => ("PennyPostModel", "hour", "I", false)
  | 9 => ("PennyPostModel", "text", "[I", true)
  | 10 => ("PennyPostModel", "length", "I", false)
  | 11 => ("PennyPostModel", "clauseMany", "[I", true)
  | 12 => ("PennyPostModel", "clauseKind", "[I", true)
  | 13 => ("PennyPostModel", "clauseM", "[I", true)
  | 14 => ("PennyPostModel", "clauseP", "[I", true)
  | 15 => ("PennyPostModel", "actDay", "[I", true)
  | 16 => ("PennyPostModel", "actKnown", "[I", true)
  | 17 => ("PennyPostModel", "acts", "I", false)
  | 18 => ("PennyPostModel", "from", "[I", true)
  | 19 => ("PennyPostModel", "to", "[I", true)
  | 20 => ("PennyPostModel", "sheets", "[I", true)
  | 21 => ("PennyPostModel", "drams", "[I", true)
  | 22 => ("PennyPostModel", "worth", "[I", true)
  | 23 => ("PennyPostModel", "kind", "[I", true)
  | 24 => ("PennyPostModel", "with", "[I", true)
  | 25 => ("PennyPostModel", "written", "[I", true)
  | 26 => ("PennyPostModel", "where", "[I", true)
  | 27 => ("PennyPostModel", "town", "[I", true)
  | 28 => ("PennyPostModel", "goal", "[I", true)
  | 29 => ("PennyPostModel", "comes", "[I", true)
  | 30 => ("PennyPostModel", "isRefused", "[Z", true)
  | 31 => ("PennyPostModel", "paid", "[I", true)
  | 32 => ("PennyPostModel", "borne", "[I", true)
  | 33 => ("PennyPostModel", "ended", "[I", true)
  | 34 => ("PennyPostModel", "leftBy", "[I", true)
  | 35 => ("PennyPostModel", "letters", "I", false)
  | 36 => ("PennyPostModel", "purses", "[I", true)
  | 37 => ("PennyPostModel", "codes", "[I", true)
  | 38 => ("PennyPostModel", "allPaid", "I", false)
  | 39 => ("PennyPostModel", "allRuns", "I", false)
  | 40 => ("PennyPostModel", "allRefused", "I", false)
  | 41 => ("PennyPostModel", "allGiven", "I", false)
  | 42 => ("PennyPostModel", "key", "I", false)
  | 43 => ("PennyPostModel", "wash", "I", false)
  | 44 => ("PennyPostModel", "fixed", "I", false)
  | 45 => ("PennyPostModel", "each", "I", false)
  | 46 => ("PennyPostModel", "grow", "I", false)
  | 47 => ("PennyPostModel", "limit", "I", false)
  | 48 => ("PennyPostModel", "smugglers", "I", false)
  | 49 => ("PennyPostModel", "metMember", "[I", true)
  | 50 => ("PennyPostModel", "metTown", "[I", true)
  | 51 => ("PennyPostModel", "metHour", "[I", true)
  | 52 => ("PennyPostModel", "mets", "I", false)
  | 53 => ("PennyPostModel", "doors", "I", false)
  | 54 => ("PennyPostModel", "paths", "I", false)
  | 55 => ("PennyPostModel", "apart", "[I", true)
  | 56 => ("PennyPostModel", "wantFrom", "[I", true)
  | 57 => ("PennyPostModel", "wantTo", "[I", true)
  | 58 => ("PennyPostModel", "wantPeople", "[I", true)
  | 59 => ("PennyPostModel", "wantWorth", "[I", true)
  | 60 => ("PennyPostModel", "wantTimes", "[I", true)
  | 61 => ("PennyPostModel", "wants", "I", false)
  | 62 => ("PennyPostModel", "prices", "[I", true)
  | 63 => ("PennyPostModel", "priceMany", "I", false)
  | 64 => ("PennyPostModel", "reach", "[I", true)
  | 65 => ("PennyPostModel", "at", "I", false)
  | 66 => ("PennyPostModel", "place", "I", false)
  | 67 => ("PennyPostModel", "end", "I", false)
  | 68 => ("PennyPostModel", "figure", "I", false)
  | 69 => ("PennyPostModel", "comesBy", "[I", true)
  | 70 => ("PennyPostModel", "behind", "[I", true)
  | 71 => ("PennyPostModel", "queue", "[I", true)
  | 72 => ("PennyPostModel", "cameFrom", "[I", true)
  | 73 => ("PennyPostModel", "walked", "[I", true)
  | 74 => ("PennyPostModel", "times", "[I", true)
  | 75 => ("PennyPostModel", "yearLetters", "I", false)
  | 76 => ("PennyPostModel", "yearOther", "I", false)
  | 77 => ("PennyPostModel", "yearIncome", "I", false)
  | 78 => ("PennyPostModel", "rowOf", "[I", true)
  | 79 => ("PennyPostModel", "rowLetters", "I", false)
  | 80 => ("PennyPostModel", "rowDebt", "I", false)
  | 81 => ("PennyPostModel", "rowBad", "I", false)
  | 82 => ("PennyPostModel", "bestLetters", "I", false)
  | _ => ("PennyPostModel", "bestDebt", "I", false)
def tyX11 : Nat → FieldType := fun k => match k with
  | 0 => .array .int
  | 1 => .array .int
  | 2 => .array .int
  | 3 => .array .int
  | 4 => .array .int
  | 5 => .array .int
  | 6 => .array .int
  | 7 => .int
  | 8 => .int
  | 9 => .array .int
  | 10 => .int
  | 11 => .array .int
  | 12 => .array .int
  | 13 => .array .int
  | 14 => .array .int
  | 15 => .array .int
  | 16 => .array .int
  | 17 => .int
  | 18 => .array .int
  | 19 => .array .int
  | 20 => .array .int
  | 21 => .array .int
  | 22 => .array .int
  | 23 => .array .int
  | 24 => .array .int
  | 25 => .array .int
  | 26 => .array .int
  | 27 => .array .int
  | 28 => .array .int
  | 29 => .array .int
  | 30 => .array .boolean
  | 31 => .array .int
  | 32 => .array .int
  | 33 => .array .int
  | 34 => .array .int
  | 35 => .int
  | 36 => .array .int
  | 37 => .array .int
  | 38 => .int
  | 39 => .int
  | 40 => .int
  | 41 => .int
  | 42 => .int
  | 43 => .int
  | 44 => .int
  | 45 => .int
  | 46 => .int
  | 47 => .int
  | 48 => .int
  | 49 => .array .int
  | 50 => .array .int
  | 51 => .array .int
  | 52 => .int
  | 53 => .int
  | 54 => .int
  | 55 => .array .int
  | 56 => .array .int
  | 57 => .array .int
  | 58 => .array .int
  | 59 => .array .int
  | 60 => .array .int
  | 61 => .int
  | 62 => .array .int
  | 63 => .int
  | 64 => .array .int
  | 65 => .int
  | 66 => .int
  | 67 => .int
  | 68 => .int
  | 69 => .array .int
  | 70 => .array .int
  | 71 => .array .int
  | 72 => .array .int
  | 73 => .array .int
  | 74 => .array .int
  | 75 => .int
  | 76 => .int
  | 77 => .int
  | 78 => .array .int
  | 79 => .int
  | 80 => .int
  | 81 => .int
  | 82 => .int
  | _ => .int
abbrev wsX110 : List Cond := u_ws RX11 TX11 84
theorem nmX11 : ∀ a, a < 84 → ∀ b, b < 84 → a ≠ b → (TX11 a).2.1 ≠ (TX11 b).2.1 := by decide +kernel
theorem tyX11_ok : ∀ k, k < 84 → parseFieldDescriptor (TX11 k).2.2.1 = some (tyX11 k) := by decide +kernel
abbrev cX11_init : ByteArray := prog_13_method_1_code
def yX11_init : MethodName := ⟨RX11, "<init>", "()V"⟩
abbrev cX11_in : ByteArray := prog_13_method_2_code
def yX11_in : MethodName := ⟨RX11, "in", "(JJJ)Z"⟩
abbrev cX11_isTown : ByteArray := prog_13_method_3_code
def yX11_isTown : MethodName := ⟨RX11, "isTown", "(I)Z"⟩
abbrev cX11_least : ByteArray := prog_13_method_4_code
def yX11_least : MethodName := ⟨RX11, "least", "(II)I"⟩
abbrev cX11_most : ByteArray := prog_13_method_5_code
def yX11_most : MethodName := ⟨RX11, "most", "(II)I"⟩
abbrev cX11_otherEnd : ByteArray := prog_13_method_6_code
def yX11_otherEnd : MethodName := ⟨RX11, "otherEnd", "(II)I"⟩
abbrev cX11_way : ByteArray := prog_13_method_7_code
def yX11_way : MethodName := ⟨RX11, "way", "(IIIIIII)I"⟩
abbrev cX11_farOf : ByteArray := prog_13_method_8_code
def yX11_farOf : MethodName := ⟨RX11, "farOf", "(II)I"⟩
abbrev cX11_far : ByteArray := prog_13_method_9_code
def yX11_far : MethodName := ⟨RX11, "far", "(II)I"⟩
abbrev cX11_leaves : ByteArray := prog_13_method_10_code
def yX11_leaves : MethodName := ⟨RX11, "leaves", "(II)I"⟩
abbrev cX11_layDue : ByteArray := prog_13_method_11_code
def yX11_layDue : MethodName := ⟨RX11, "layDue", "(II)V"⟩
abbrev cX11_dueOf : ByteArray := prog_13_method_12_code
def yX11_dueOf : MethodName := ⟨RX11, "dueOf", "(III)I"⟩
abbrev cX11_due : ByteArray := prog_13_method_13_code
def yX11_due : MethodName := ⟨RX11, "due", "(III)I"⟩
abbrev cX11_nextOf : ByteArray := prog_13_method_14_code
def yX11_nextOf : MethodName := ⟨RX11, "nextOf", "(III)I"⟩
abbrev cX11_next : ByteArray := prog_13_method_15_code
def yX11_next : MethodName := ⟨RX11, "next", "(III)I"⟩
abbrev cX11_write : ByteArray := prog_13_method_16_code
def yX11_write : MethodName := ⟨RX11, "write", "(JI)I"⟩
abbrev cX11_erase : ByteArray := prog_13_method_17_code
def yX11_erase : MethodName := ⟨RX11, "erase", "()I"⟩
abbrev cX11_sort : ByteArray := prog_13_method_18_code
def yX11_sort : MethodName := ⟨RX11, "sort", "(I)I"⟩
abbrev cX11_token : ByteArray := prog_13_method_19_code
def yX11_token : MethodName := ⟨RX11, "token", "()V"⟩
abbrev cX11_isWord : ByteArray := prog_13_method_20_code
def yX11_isWord : MethodName := ⟨RX11, "isWord", "(II)Z"⟩
abbrev cX11_isNumber : ByteArray := prog_13_method_21_code
def yX11_isNumber : MethodName := ⟨RX11, "isNumber", "(II)Z"⟩
abbrev cX11_clauseWord : ByteArray := prog_13_method_22_code
def yX11_clauseWord : MethodName := ⟨RX11, "clauseWord", "()I"⟩
abbrev cX11_readsClause : ByteArray := prog_13_method_23_code
def yX11_readsClause : MethodName := ⟨RX11, "readsClause", "()Z"⟩
abbrev cX11_fault : ByteArray := prog_13_method_24_code
def yX11_fault : MethodName := ⟨RX11, "fault", "()I"⟩
abbrev cX11_force : ByteArray := prog_13_method_25_code
def yX11_force : MethodName := ⟨RX11, "force", "(I)I"⟩
abbrev cX11_isAct : ByteArray := prog_13_method_26_code
def yX11_isAct : MethodName := ⟨RX11, "isAct", "(I)Z"⟩
abbrev cX11_knows : ByteArray := prog_13_method_27_code
def yX11_knows : MethodName := ⟨RX11, "knows", "(II)I"⟩
abbrev cX11_actOf : ByteArray := prog_13_method_28_code
def yX11_actOf : MethodName := ⟨RX11, "actOf", "(III)I"⟩
abbrev cX11_act : ByteArray := prog_13_method_29_code
def yX11_act : MethodName := ⟨RX11, "act", "(III)I"⟩
abbrev cX11_clauseOf : ByteArray := prog_13_method_30_code
def yX11_clauseOf : MethodName := ⟨RX11, "clauseOf", "(II)I"⟩
abbrev cX11_penceOf : ByteArray := prog_13_method_31_code
def yX11_penceOf : MethodName := ⟨RX11, "penceOf", "(II)I"⟩
abbrev cX11_postageOf : ByteArray := prog_13_method_32_code
def yX11_postageOf : MethodName := ⟨RX11, "postageOf", "(IIIIZ)I"⟩
abbrev cX11_postage : ByteArray := prog_13_method_33_code
def yX11_postage : MethodName := ⟨RX11, "postage", "(IIIIZ)I"⟩
abbrev cX11_why : ByteArray := prog_13_method_34_code
def yX11_why : MethodName := ⟨RX11, "why", "(II)I"⟩
abbrev cX11_freeOf : ByteArray := prog_13_method_35_code
def yX11_freeOf : MethodName := ⟨RX11, "freeOf", "(I)I"⟩
abbrev cX11_dayOf : ByteArray := prog_13_method_36_code
def yX11_dayOf : MethodName := ⟨RX11, "dayOf", "(I)I"⟩
abbrev cX11_weekOf : ByteArray := prog_13_method_37_code
def yX11_weekOf : MethodName := ⟨RX11, "weekOf", "(I)I"⟩
abbrev cX11_isLetter : ByteArray := prog_13_method_38_code
def yX11_isLetter : MethodName := ⟨RX11, "isLetter", "(I)Z"⟩
abbrev cX11_isMember : ByteArray := prog_13_method_39_code
def yX11_isMember : MethodName := ⟨RX11, "isMember", "(I)Z"⟩
abbrev cX11_letter : ByteArray := prog_13_method_40_code
def yX11_letter : MethodName := ⟨RX11, "letter", "(IIIIIII)I"⟩
abbrev cX11_pay : ByteArray := prog_13_method_41_code
def yX11_pay : MethodName := ⟨RX11, "pay", "(III)V"⟩
abbrev cX11_owes : ByteArray := prog_13_method_42_code
def yX11_owes : MethodName := ⟨RX11, "owes", "(I)I"⟩
abbrev cX11_arrive : ByteArray := prog_13_method_43_code
def yX11_arrive : MethodName := ⟨RX11, "arrive", "(I)V"⟩
abbrev cX11_part : ByteArray := prog_13_method_44_code
def yX11_part : MethodName := ⟨RX11, "part", "(I)I"⟩
abbrev cX11_run : ByteArray := prog_13_method_45_code
def yX11_run : MethodName := ⟨RX11, "run", "(II)V"⟩
abbrev cX11_isOf : ByteArray := prog_13_method_46_code
def yX11_isOf : MethodName := ⟨RX11, "isOf", "(III)Z"⟩
abbrev cX11_step : ByteArray := prog_13_method_47_code
def yX11_step : MethodName := ⟨RX11, "step", "()V"⟩
abbrev cX11_hours : ByteArray := prog_13_method_48_code
def yX11_hours : MethodName := ⟨RX11, "hours", "(I)I"⟩
abbrev cX11_at : ByteArray := prog_13_method_49_code
def yX11_at : MethodName := ⟨RX11, "at", "(II)I"⟩
abbrev cX11_purse : ByteArray := prog_13_method_50_code
def yX11_purse : MethodName := ⟨RX11, "purse", "(II)I"⟩
abbrev cX11_code : ByteArray := prog_13_method_51_code
def yX11_code : MethodName := ⟨RX11, "code", "(III)I"⟩
abbrev cX11_set : ByteArray := prog_13_method_52_code
def yX11_set : MethodName := ⟨RX11, "set", "(II)I"⟩
abbrev cX11_met : ByteArray := prog_13_method_53_code
def yX11_met : MethodName := ⟨RX11, "met", "(III)I"⟩
abbrev cX11_can : ByteArray := prog_13_method_54_code
def yX11_can : MethodName := ⟨RX11, "can", "(IIII)Z"⟩
abbrev cX11_cannot : ByteArray := prog_13_method_55_code
def yX11_cannot : MethodName := ⟨RX11, "cannot", "(I)I"⟩
abbrev cX11_more : ByteArray := prog_13_method_56_code
def yX11_more : MethodName := ⟨RX11, "more", "(II)I"⟩
abbrev cX11_alikeOf : ByteArray := prog_13_method_57_code
def yX11_alikeOf : MethodName := ⟨RX11, "alikeOf", "(I)I"⟩
abbrev cX11_alike : ByteArray := prog_13_method_58_code
def yX11_alike : MethodName := ⟨RX11, "alike", "(I)I"⟩
abbrev cX11_mayWash : ByteArray := prog_13_method_59_code
def yX11_mayWash : MethodName := ⟨RX11, "mayWash", "(II)Z"⟩
abbrev cX11_isJoined : ByteArray := prog_13_method_60_code
def yX11_isJoined : MethodName := ⟨RX11, "isJoined", "(II)Z"⟩
abbrev cX11_takenBy : ByteArray := prog_13_method_61_code
def yX11_takenBy : MethodName := ⟨RX11, "takenBy", "(II)I"⟩
abbrev cX11_turn : ByteArray := prog_13_method_62_code
def yX11_turn : MethodName := ⟨RX11, "turn", "(II)V"⟩
abbrev cX11_forged : ByteArray := prog_13_method_63_code
def yX11_forged : MethodName := ⟨RX11, "forged", "(I)I"⟩
abbrev cX11_clearDoors : ByteArray := prog_13_method_64_code
def yX11_clearDoors : MethodName := ⟨RX11, "clearDoors", "()V"⟩
abbrev cX11_doors : ByteArray := prog_13_method_65_code
def yX11_doors : MethodName := ⟨RX11, "doors", "(I)I"⟩
abbrev cX11_isDoor : ByteArray := prog_13_method_66_code
def yX11_isDoor : MethodName := ⟨RX11, "isDoor", "(I)Z"⟩
abbrev cX11_path : ByteArray := prog_13_method_67_code
def yX11_path : MethodName := ⟨RX11, "path", "(III)I"⟩
abbrev cX11_boxes : ByteArray := prog_13_method_68_code
def yX11_boxes : MethodName := ⟨RX11, "boxes", "(II)I"⟩
abbrev cX11_walk : ByteArray := prog_13_method_69_code
def yX11_walk : MethodName := ⟨RX11, "walk", "(I)I"⟩
abbrev cX11_want : ByteArray := prog_13_method_70_code
def yX11_want : MethodName := ⟨RX11, "want", "(IIIII)I"⟩
abbrev cX11_choice : ByteArray := prog_13_method_71_code
def yX11_choice : MethodName := ⟨RX11, "choice", "(II)I"⟩
abbrev cX11_layYear : ByteArray := prog_13_method_72_code
def yX11_layYear : MethodName := ⟨RX11, "layYear", "(I)V"⟩
abbrev cX11_lossNow : ByteArray := prog_13_method_73_code
def yX11_lossNow : MethodName := ⟨RX11, "lossNow", "()I"⟩
abbrev cX11_beginYears : ByteArray := prog_13_method_74_code
def yX11_beginYears : MethodName := ⟨RX11, "beginYears", "()V"⟩
abbrev cX11_growBy : ByteArray := prog_13_method_75_code
def yX11_growBy : MethodName := ⟨RX11, "growBy", "(I)V"⟩
abbrev cX11_year : ByteArray := prog_13_method_76_code
def yX11_year : MethodName := ⟨RX11, "year", "(II)I"⟩
abbrev cX11_even : ByteArray := prog_13_method_77_code
def yX11_even : MethodName := ⟨RX11, "even", "()I"⟩
abbrev cX11_under : ByteArray := prog_13_method_78_code
def yX11_under : MethodName := ⟨RX11, "under", "(II)I"⟩
abbrev cX11_price : ByteArray := prog_13_method_79_code
def yX11_price : MethodName := ⟨RX11, "price", "(I)I"⟩
abbrev cX11_layRow : ByteArray := prog_13_method_80_code
def yX11_layRow : MethodName := ⟨RX11, "layRow", "(I)V"⟩
abbrev cX11_layPlan : ByteArray := prog_13_method_81_code
def yX11_layPlan : MethodName := ⟨RX11, "layPlan", "(I)I"⟩
abbrev cX11_layNumber : ByteArray := prog_13_method_82_code
def yX11_layNumber : MethodName := ⟨RX11, "layNumber", "(II)V"⟩
abbrev cX11_plan : ByteArray := prog_13_method_83_code
def yX11_plan : MethodName := ⟨RX11, "plan", "(II)I"⟩
abbrev cX11_planned : ByteArray := prog_13_method_84_code
def yX11_planned : MethodName := ⟨RX11, "planned", "(II)I"⟩
abbrev cX11_judge : ByteArray := prog_13_method_85_code
def yX11_judge : MethodName := ⟨RX11, "judge", "(JII)I"⟩
abbrev cX11_count : ByteArray := prog_13_method_86_code
def yX11_count : MethodName := ⟨RX11, "count", "(I)I"⟩
def RJ6 : String := "java/lang/Integer"
def TJ6 : u_T := fun k => match k with
  | _ => ("", "", "", false)
def tyJ6 : Nat → FieldType := fun k => match k with
  | _ => .int
abbrev cJ6_bitCount_0f7a4 : ByteArray := prog_14_method_49_code
def yJ6_bitCount_0f7a4 : MethodName := ⟨RJ6, "bitCount", "(I)I"⟩
def RJ9 : String := "java/lang/Math"
def TJ9 : u_T := fun k => match k with
  | _ => ("", "", "", false)
def tyJ9 : Nat → FieldType := fun k => match k with
  | _ => .int
abbrev cJ9_floorMod_7cf53 : ByteArray := prog_15_method_50_code
def yJ9_floorMod_7cf53 : MethodName := ⟨RJ9, "floorMod", "(II)I"⟩
abbrev cJ9_max_7cf53 : ByteArray := prog_15_method_65_code
def yJ9_max_7cf53 : MethodName := ⟨RJ9, "max", "(II)I"⟩
abbrev cJ9_min_7cf53 : ByteArray := prog_15_method_69_code
def yJ9_min_7cf53 : MethodName := ⟨RJ9, "min", "(II)I"⟩
def RJ0 : String := "java/lang/String"
def TJ0 : u_T := fun k => match k with
  | _ => ("", "", "", false)
def tyJ0 : Nat → FieldType := fun k => match k with
  | _ => .int
abbrev cJ0_length_8abf5 : ByteArray := prog_16_method_54_code
def yJ0_length_8abf5 : MethodName := ⟨RJ0, "length", "()I"⟩
abbrev cJ0_charAt_5068e : ByteArray := prog_16_method_56_code
def yJ0_charAt_5068e : MethodName := ⟨RJ0, "charAt", "(I)C"⟩
abbrev cJ0_coder_7d493 : ByteArray := prog_16_method_152_code
def yJ0_coder_7d493 : MethodName := ⟨RJ0, "coder", "()B"⟩
abbrev cJ0_isLatin1_aae02 : ByteArray := prog_16_method_154_code
def yJ0_isLatin1_aae02 : MethodName := ⟨RJ0, "isLatin1", "()Z"⟩
abbrev cJ0_checkIndex_df160 : ByteArray := prog_16_method_155_code
def yJ0_checkIndex_df160 : MethodName := ⟨RJ0, "checkIndex", "(II)V"⟩
def RJ1 : String := "java/lang/StringLatin1"
def TJ1 : u_T := fun k => match k with
  | _ => ("", "", "", false)
def tyJ1 : Nat → FieldType := fun k => match k with
  | _ => .int
abbrev cJ1_charAt_3b067 : ByteArray := prog_17_method_2_code
def yJ1_charAt_3b067 : MethodName := ⟨RJ1, "charAt", "([BI)C"⟩
def RJ2 : String := "java/lang/StringUTF16"
def TJ2 : u_T := fun k => match k with
  | _ => ("", "", "", false)
def tyJ2 : Nat → FieldType := fun k => match k with
  | _ => .int
abbrev cJ2_getChar_3b067 : ByteArray := prog_18_method_5_code
def yJ2_getChar_3b067 : MethodName := ⟨RJ2, "getChar", "([BI)C"⟩
abbrev cJ2_length_9d52b : ByteArray := prog_18_method_6_code
def yJ2_length_9d52b : MethodName := ⟨RJ2, "length", "([B)I"⟩
abbrev cJ2_charAt_3b067 : ByteArray := prog_18_method_83_code
def yJ2_charAt_3b067 : MethodName := ⟨RJ2, "charAt", "([BI)C"⟩
abbrev cJ2_checkIndex_2214a : ByteArray := prog_18_method_91_code
def yJ2_checkIndex_2214a : MethodName := ⟨RJ2, "checkIndex", "(I[B)V"⟩
def RJ10 : String := "java/lang/System"
def TJ10 : u_T := fun k => match k with
  | _ => ("", "", "", false)
def tyJ10 : Nat → FieldType := fun k => match k with
  | _ => .int
def RJ7 : String := "java/util/Arrays"
def TJ7 : u_T := fun k => match k with
  | _ => ("", "", "", false)
def tyJ7 : Nat → FieldType := fun k => match k with
  | _ => .int
abbrev cJ7_rangeCheck_23922 : ByteArray := prog_20_method_30_code
def yJ7_rangeCheck_23922 : MethodName := ⟨RJ7, "rangeCheck", "(III)V"⟩
abbrev cJ7_fill_53178 : ByteArray := prog_20_method_103_code
def yJ7_fill_53178 : MethodName := ⟨RJ7, "fill", "([II)V"⟩
abbrev cJ7_fill_fda19 : ByteArray := prog_20_method_104_code
def yJ7_fill_fda19 : MethodName := ⟨RJ7, "fill", "([IIII)V"⟩
def RJ3 : String := "jdk/internal/util/Preconditions"
def TJ3 : u_T := fun k => match k with
  | _ => ("", "", "", false)
def tyJ3 : Nat → FieldType := fun k => match k with
  | _ => .int
abbrev cJ3_checkIndex_8e157 : ByteArray := prog_21_method_11_code
def yJ3_checkIndex_8e157 : MethodName := ⟨RJ3, "checkIndex", "(IILjava/util/function/BiFunction;)I"⟩
def RL : String := "PennyPostLaw"
abbrev cL_law : ByteArray := code
abbrev vwCl : List vw_C := [(RX0, TX0, 6), (RX1, TX1, 2), (RX2, TX2, 8), (RX3, TX3, 19), (RX4, TX4, 12), (RX5, TX5, 14), (RX6, TX6, 2), (RX7, TX7, 6), (RX8, TX8, 8), (RX9, TX9, 10), (RX10, TX10, 8), (RX11, TX11, 84)]
