section
-- ===== PART A: goes FIRST, ahead of the names: the tables' words, and 'selects' of the private methods out of them =====
/-- a private method of a class that the tables say can be made, by its rows of tables_1 -/
def lw_okq (q : MethodName × Nat) : Prop := (q.1.cls ≠ "java/lang/invoke/MethodHandle" ∧ q.1.cls ≠ "java/lang/invoke/VarHandle") ∧ Cond.instantiable q.1.cls q.2 ∈ tables_1 ∧ Cond.privateMethod q.1 ∈ tables_1 ∧ Cond.instanceMethod q.1 ∈ tables_1
theorem lw_p0 : lw_okq (⟨"InkHours", "finding", "(I)I"⟩, 11) := ⟨⟨by decide +kernel, by decide +kernel⟩, List.mem_of_getElem? (i := 19) (by decide +kernel), List.mem_of_getElem? (i := 280) (by decide +kernel), List.mem_of_getElem? (i := 281) (by decide +kernel)⟩
theorem lw_p1 : lw_okq (⟨"InkHours", "isMark", "(II)Z"⟩, 11) := ⟨⟨by decide +kernel, by decide +kernel⟩, List.mem_of_getElem? (i := 19) (by decide +kernel), List.mem_of_getElem? (i := 325) (by decide +kernel), List.mem_of_getElem? (i := 326) (by decide +kernel)⟩
theorem lw_p2 : lw_okq (⟨"InkHours", "reckoned", "(I)LInkHours$Course;"⟩, 11) := ⟨⟨by decide +kernel, by decide +kernel⟩, List.mem_of_getElem? (i := 19) (by decide +kernel), List.mem_of_getElem? (i := 362) (by decide +kernel), List.mem_of_getElem? (i := 363) (by decide +kernel)⟩
theorem lw_p3 : lw_okq (⟨"InkHours$Course", "stepBehind", "(I)I"⟩, 4) := ⟨⟨by decide +kernel, by decide +kernel⟩, List.mem_of_getElem? (i := 177) (by decide +kernel), List.mem_of_getElem? (i := 438) (by decide +kernel), List.mem_of_getElem? (i := 439) (by decide +kernel)⟩
theorem lw_p4 : lw_okq (⟨"InkHours", "cheapestPair", "(LInkHours$Course;III)I"⟩, 11) := ⟨⟨by decide +kernel, by decide +kernel⟩, List.mem_of_getElem? (i := 19) (by decide +kernel), List.mem_of_getElem? (i := 486) (by decide +kernel), List.mem_of_getElem? (i := 487) (by decide +kernel)⟩
theorem lw_p5 : lw_okq (⟨"InkHours$Copies", "laySteps", "(LInkHours$Course;IIII)V"⟩, 5) := ⟨⟨by decide +kernel, by decide +kernel⟩, List.mem_of_getElem? (i := 156) (by decide +kernel), List.mem_of_getElem? (i := 501) (by decide +kernel), List.mem_of_getElem? (i := 502) (by decide +kernel)⟩
theorem lw_p6 : lw_okq (⟨"InkHours$Copies", "addStep", "(II)V"⟩, 5) := ⟨⟨by decide +kernel, by decide +kernel⟩, List.mem_of_getElem? (i := 156) (by decide +kernel), List.mem_of_getElem? (i := 506) (by decide +kernel), List.mem_of_getElem? (i := 507) (by decide +kernel)⟩
theorem lw_p7 : lw_okq (⟨"InkHours$Copies", "laySets", "(LInkHours$Course;I)I"⟩, 5) := ⟨⟨by decide +kernel, by decide +kernel⟩, List.mem_of_getElem? (i := 156) (by decide +kernel), List.mem_of_getElem? (i := 513) (by decide +kernel), List.mem_of_getElem? (i := 514) (by decide +kernel)⟩
theorem lw_p8 : lw_okq (⟨"InkHours$Copies", "keepsWith", "(LInkHours$Course;II)Z"⟩, 5) := ⟨⟨by decide +kernel, by decide +kernel⟩, List.mem_of_getElem? (i := 156) (by decide +kernel), List.mem_of_getElem? (i := 526) (by decide +kernel), List.mem_of_getElem? (i := 527) (by decide +kernel)⟩
theorem lw_p9 : lw_okq (⟨"InkHours", "firstUnfaded", "(III)I"⟩, 11) := ⟨⟨by decide +kernel, by decide +kernel⟩, List.mem_of_getElem? (i := 19) (by decide +kernel), List.mem_of_getElem? (i := 562) (by decide +kernel), List.mem_of_getElem? (i := 563) (by decide +kernel)⟩
theorem lw_p10 : lw_okq (⟨"InkHours$Text", "readItem", "()Z"⟩, 3) := ⟨⟨by decide +kernel, by decide +kernel⟩, List.mem_of_getElem? (i := 138) (by decide +kernel), List.mem_of_getElem? (i := 630) (by decide +kernel), List.mem_of_getElem? (i := 631) (by decide +kernel)⟩
theorem lw_p11 : lw_okq (⟨"InkHours$Text", "passName", "(Ljava/lang/String;)Z"⟩, 3) := ⟨⟨by decide +kernel, by decide +kernel⟩, List.mem_of_getElem? (i := 138) (by decide +kernel), List.mem_of_getElem? (i := 635) (by decide +kernel), List.mem_of_getElem? (i := 636) (by decide +kernel)⟩
theorem lw_p12 : lw_okq (⟨"InkHours$Text", "readInk", "()Z"⟩, 3) := ⟨⟨by decide +kernel, by decide +kernel⟩, List.mem_of_getElem? (i := 138) (by decide +kernel), List.mem_of_getElem? (i := 692) (by decide +kernel), List.mem_of_getElem? (i := 693) (by decide +kernel)⟩
theorem lw_p13 : lw_okq (⟨"InkHours$Text", "passNumber", "(II)Z"⟩, 3) := ⟨⟨by decide +kernel, by decide +kernel⟩, List.mem_of_getElem? (i := 138) (by decide +kernel), List.mem_of_getElem? (i := 696) (by decide +kernel), List.mem_of_getElem? (i := 697) (by decide +kernel)⟩
theorem lw_p14 : lw_okq (⟨"InkHours$Text", "readPaper", "()Z"⟩, 3) := ⟨⟨by decide +kernel, by decide +kernel⟩, List.mem_of_getElem? (i := 138) (by decide +kernel), List.mem_of_getElem? (i := 704) (by decide +kernel), List.mem_of_getElem? (i := 705) (by decide +kernel)⟩
theorem lw_p15 : lw_okq (⟨"InkHours$Text", "readOn", "()Z"⟩, 3) := ⟨⟨by decide +kernel, by decide +kernel⟩, List.mem_of_getElem? (i := 138) (by decide +kernel), List.mem_of_getElem? (i := 711) (by decide +kernel), List.mem_of_getElem? (i := 712) (by decide +kernel)⟩
def lw_privs_1 : List (MethodName × Nat) := [(⟨"InkHours", "finding", "(I)I"⟩, 11), (⟨"InkHours", "isMark", "(II)Z"⟩, 11), (⟨"InkHours", "reckoned", "(I)LInkHours$Course;"⟩, 11), (⟨"InkHours$Course", "stepBehind", "(I)I"⟩, 4), (⟨"InkHours", "cheapestPair", "(LInkHours$Course;III)I"⟩, 11), (⟨"InkHours$Copies", "laySteps", "(LInkHours$Course;IIII)V"⟩, 5), (⟨"InkHours$Copies", "addStep", "(II)V"⟩, 5), (⟨"InkHours$Copies", "laySets", "(LInkHours$Course;I)I"⟩, 5), (⟨"InkHours$Copies", "keepsWith", "(LInkHours$Course;II)Z"⟩, 5), (⟨"InkHours", "firstUnfaded", "(III)I"⟩, 11), (⟨"InkHours$Text", "readItem", "()Z"⟩, 3), (⟨"InkHours$Text", "passName", "(Ljava/lang/String;)Z"⟩, 3), (⟨"InkHours$Text", "readInk", "()Z"⟩, 3), (⟨"InkHours$Text", "passNumber", "(II)Z"⟩, 3), (⟨"InkHours$Text", "readPaper", "()Z"⟩, 3), (⟨"InkHours$Text", "readOn", "()Z"⟩, 3)]
theorem lw_r1 : ∀ q ∈ lw_privs_1, lw_okq q := List.forall_mem_cons.mpr ⟨lw_p0, List.forall_mem_cons.mpr ⟨lw_p1, List.forall_mem_cons.mpr ⟨lw_p2, List.forall_mem_cons.mpr ⟨lw_p3, List.forall_mem_cons.mpr ⟨lw_p4, List.forall_mem_cons.mpr ⟨lw_p5, List.forall_mem_cons.mpr ⟨lw_p6, List.forall_mem_cons.mpr ⟨lw_p7, List.forall_mem_cons.mpr ⟨lw_p8, List.forall_mem_cons.mpr ⟨lw_p9, List.forall_mem_cons.mpr ⟨lw_p10, List.forall_mem_cons.mpr ⟨lw_p11, List.forall_mem_cons.mpr ⟨lw_p12, List.forall_mem_cons.mpr ⟨lw_p13, List.forall_mem_cons.mpr ⟨lw_p14, List.forall_mem_cons.mpr ⟨lw_p15, fun _ h => absurd h List.not_mem_nil⟩⟩⟩⟩⟩⟩⟩⟩⟩⟩⟩⟩⟩⟩⟩⟩
theorem lw_p16 : lw_okq (⟨"InkHours$Text", "kindOfName", "()I"⟩, 3) := ⟨⟨by decide +kernel, by decide +kernel⟩, List.mem_of_getElem? (i := 138) (by decide +kernel), List.mem_of_getElem? (i := 715) (by decide +kernel), List.mem_of_getElem? (i := 716) (by decide +kernel)⟩
theorem lw_p17 : lw_okq (⟨"InkHours$Text", "readMark", "(LInkHours$Paper;II)Z"⟩, 3) := ⟨⟨by decide +kernel, by decide +kernel⟩, List.mem_of_getElem? (i := 138) (by decide +kernel), List.mem_of_getElem? (i := 730) (by decide +kernel), List.mem_of_getElem? (i := 731) (by decide +kernel)⟩
theorem lw_p18 : lw_okq (⟨"InkHours", "marksInAll", "()I"⟩, 11) := ⟨⟨by decide +kernel, by decide +kernel⟩, List.mem_of_getElem? (i := 19) (by decide +kernel), List.mem_of_getElem? (i := 812) (by decide +kernel), List.mem_of_getElem? (i := 813) (by decide +kernel)⟩
theorem lw_p19 : lw_okq (⟨"InkHours", "marksSeenNow", "()I"⟩, 11) := ⟨⟨by decide +kernel, by decide +kernel⟩, List.mem_of_getElem? (i := 19) (by decide +kernel), List.mem_of_getElem? (i := 816) (by decide +kernel), List.mem_of_getElem? (i := 817) (by decide +kernel)⟩
theorem lw_p20 : lw_okq (⟨"InkHours", "papersWithMeaning", "()I"⟩, 11) := ⟨⟨by decide +kernel, by decide +kernel⟩, List.mem_of_getElem? (i := 19) (by decide +kernel), List.mem_of_getElem? (i := 820) (by decide +kernel), List.mem_of_getElem? (i := 821) (by decide +kernel)⟩
theorem lw_p21 : lw_okq (⟨"InkHoursModel", "finds", "(I)I"⟩, 21) := ⟨⟨by decide +kernel, by decide +kernel⟩, List.mem_of_getElem? (i := 832) (by decide +kernel), List.mem_of_getElem? (i := 911) (by decide +kernel), List.mem_of_getElem? (i := 912) (by decide +kernel)⟩
theorem lw_p22 : lw_okq (⟨"InkHoursModel", "newMark", "(IIII)I"⟩, 21) := ⟨⟨by decide +kernel, by decide +kernel⟩, List.mem_of_getElem? (i := 832) (by decide +kernel), List.mem_of_getElem? (i := 940) (by decide +kernel), List.mem_of_getElem? (i := 941) (by decide +kernel)⟩
theorem lw_p23 : lw_okq (⟨"InkHoursModel", "isMark", "(II)Z"⟩, 21) := ⟨⟨by decide +kernel, by decide +kernel⟩, List.mem_of_getElem? (i := 832) (by decide +kernel), List.mem_of_getElem? (i := 951) (by decide +kernel), List.mem_of_getElem? (i := 952) (by decide +kernel)⟩
theorem lw_p24 : lw_okq (⟨"InkHoursModel", "staysOf", "(II)I"⟩, 21) := ⟨⟨by decide +kernel, by decide +kernel⟩, List.mem_of_getElem? (i := 832) (by decide +kernel), List.mem_of_getElem? (i := 956) (by decide +kernel), List.mem_of_getElem? (i := 957) (by decide +kernel)⟩
theorem lw_p25 : lw_okq (⟨"InkHoursModel", "copies", "(III)V"⟩, 21) := ⟨⟨by decide +kernel, by decide +kernel⟩, List.mem_of_getElem? (i := 832) (by decide +kernel), List.mem_of_getElem? (i := 972) (by decide +kernel), List.mem_of_getElem? (i := 973) (by decide +kernel)⟩
theorem lw_p26 : lw_okq (⟨"InkHoursModel", "seenOf", "(II)I"⟩, 21) := ⟨⟨by decide +kernel, by decide +kernel⟩, List.mem_of_getElem? (i := 832) (by decide +kernel), List.mem_of_getElem? (i := 984) (by decide +kernel), List.mem_of_getElem? (i := 985) (by decide +kernel)⟩
theorem lw_p27 : lw_okq (⟨"InkHoursModel", "isSeen", "(III)Z"⟩, 21) := ⟨⟨by decide +kernel, by decide +kernel⟩, List.mem_of_getElem? (i := 832) (by decide +kernel), List.mem_of_getElem? (i := 988) (by decide +kernel), List.mem_of_getElem? (i := 989) (by decide +kernel)⟩
theorem lw_p28 : lw_okq (⟨"InkHoursModel", "ageOf", "(III)I"⟩, 21) := ⟨⟨by decide +kernel, by decide +kernel⟩, List.mem_of_getElem? (i := 832) (by decide +kernel), List.mem_of_getElem? (i := 992) (by decide +kernel), List.mem_of_getElem? (i := 993) (by decide +kernel)⟩
theorem lw_p29 : lw_okq (⟨"InkHoursModel", "meansAt", "(II)I"⟩, 21) := ⟨⟨by decide +kernel, by decide +kernel⟩, List.mem_of_getElem? (i := 832) (by decide +kernel), List.mem_of_getElem? (i := 1012) (by decide +kernel), List.mem_of_getElem? (i := 1013) (by decide +kernel)⟩
theorem lw_p30 : lw_okq (⟨"InkHoursModel", "begins", "()V"⟩, 21) := ⟨⟨by decide +kernel, by decide +kernel⟩, List.mem_of_getElem? (i := 832) (by decide +kernel), List.mem_of_getElem? (i := 1016) (by decide +kernel), List.mem_of_getElem? (i := 1017) (by decide +kernel)⟩
theorem lw_p31 : lw_okq (⟨"InkHoursModel", "reads", "(II)V"⟩, 21) := ⟨⟨by decide +kernel, by decide +kernel⟩, List.mem_of_getElem? (i := 832) (by decide +kernel), List.mem_of_getElem? (i := 1021) (by decide +kernel), List.mem_of_getElem? (i := 1022) (by decide +kernel)⟩
def lw_privs_2 : List (MethodName × Nat) := [(⟨"InkHours$Text", "kindOfName", "()I"⟩, 3), (⟨"InkHours$Text", "readMark", "(LInkHours$Paper;II)Z"⟩, 3), (⟨"InkHours", "marksInAll", "()I"⟩, 11), (⟨"InkHours", "marksSeenNow", "()I"⟩, 11), (⟨"InkHours", "papersWithMeaning", "()I"⟩, 11), (⟨"InkHoursModel", "finds", "(I)I"⟩, 21), (⟨"InkHoursModel", "newMark", "(IIII)I"⟩, 21), (⟨"InkHoursModel", "isMark", "(II)Z"⟩, 21), (⟨"InkHoursModel", "staysOf", "(II)I"⟩, 21), (⟨"InkHoursModel", "copies", "(III)V"⟩, 21), (⟨"InkHoursModel", "seenOf", "(II)I"⟩, 21), (⟨"InkHoursModel", "isSeen", "(III)Z"⟩, 21), (⟨"InkHoursModel", "ageOf", "(III)I"⟩, 21), (⟨"InkHoursModel", "meansAt", "(II)I"⟩, 21), (⟨"InkHoursModel", "begins", "()V"⟩, 21), (⟨"InkHoursModel", "reads", "(II)V"⟩, 21)]
theorem lw_r2 : ∀ q ∈ lw_privs_2, lw_okq q := List.forall_mem_cons.mpr ⟨lw_p16, List.forall_mem_cons.mpr ⟨lw_p17, List.forall_mem_cons.mpr ⟨lw_p18, List.forall_mem_cons.mpr ⟨lw_p19, List.forall_mem_cons.mpr ⟨lw_p20, List.forall_mem_cons.mpr ⟨lw_p21, List.forall_mem_cons.mpr ⟨lw_p22, List.forall_mem_cons.mpr ⟨lw_p23, List.forall_mem_cons.mpr ⟨lw_p24, List.forall_mem_cons.mpr ⟨lw_p25, List.forall_mem_cons.mpr ⟨lw_p26, List.forall_mem_cons.mpr ⟨lw_p27, List.forall_mem_cons.mpr ⟨lw_p28, List.forall_mem_cons.mpr ⟨lw_p29, List.forall_mem_cons.mpr ⟨lw_p30, List.forall_mem_cons.mpr ⟨lw_p31, fun _ h => absurd h List.not_mem_nil⟩⟩⟩⟩⟩⟩⟩⟩⟩⟩⟩⟩⟩⟩⟩⟩
theorem lw_p32 : lw_okq (⟨"InkHoursModel", "meaning", "()I"⟩, 21) := ⟨⟨by decide +kernel, by decide +kernel⟩, List.mem_of_getElem? (i := 832) (by decide +kernel), List.mem_of_getElem? (i := 1032) (by decide +kernel), List.mem_of_getElem? (i := 1033) (by decide +kernel)⟩
theorem lw_p33 : lw_okq (⟨"InkHoursModel", "isStaying", "(III)Z"⟩, 21) := ⟨⟨by decide +kernel, by decide +kernel⟩, List.mem_of_getElem? (i := 832) (by decide +kernel), List.mem_of_getElem? (i := 1067) (by decide +kernel), List.mem_of_getElem? (i := 1068) (by decide +kernel)⟩
theorem lw_p34 : lw_okq (⟨"InkHoursModel", "puts", "()V"⟩, 21) := ⟨⟨by decide +kernel, by decide +kernel⟩, List.mem_of_getElem? (i := 832) (by decide +kernel), List.mem_of_getElem? (i := 1076) (by decide +kernel), List.mem_of_getElem? (i := 1077) (by decide +kernel)⟩
theorem lw_p35 : lw_okq (⟨"InkHoursModel", "putsBack", "()V"⟩, 21) := ⟨⟨by decide +kernel, by decide +kernel⟩, List.mem_of_getElem? (i := 832) (by decide +kernel), List.mem_of_getElem? (i := 1080) (by decide +kernel), List.mem_of_getElem? (i := 1081) (by decide +kernel)⟩
theorem lw_p36 : lw_okq (⟨"InkHoursModel", "forgedBy", "(IIII)I"⟩, 21) := ⟨⟨by decide +kernel, by decide +kernel⟩, List.mem_of_getElem? (i := 832) (by decide +kernel), List.mem_of_getElem? (i := 1106) (by decide +kernel), List.mem_of_getElem? (i := 1107) (by decide +kernel)⟩
theorem lw_p37 : lw_okq (⟨"InkHoursModel", "token", "()V"⟩, 21) := ⟨⟨by decide +kernel, by decide +kernel⟩, List.mem_of_getElem? (i := 832) (by decide +kernel), List.mem_of_getElem? (i := 1144) (by decide +kernel), List.mem_of_getElem? (i := 1145) (by decide +kernel)⟩
theorem lw_p38 : lw_okq (⟨"InkHoursModel", "byteAt", "(I)I"⟩, 21) := ⟨⟨by decide +kernel, by decide +kernel⟩, List.mem_of_getElem? (i := 832) (by decide +kernel), List.mem_of_getElem? (i := 1148) (by decide +kernel), List.mem_of_getElem? (i := 1149) (by decide +kernel)⟩
theorem lw_p39 : lw_okq (⟨"InkHoursModel", "item", "()V"⟩, 21) := ⟨⟨by decide +kernel, by decide +kernel⟩, List.mem_of_getElem? (i := 832) (by decide +kernel), List.mem_of_getElem? (i := 1162) (by decide +kernel), List.mem_of_getElem? (i := 1163) (by decide +kernel)⟩
theorem lw_p40 : lw_okq (⟨"InkHoursModel", "word", "()J"⟩, 21) := ⟨⟨by decide +kernel, by decide +kernel⟩, List.mem_of_getElem? (i := 832) (by decide +kernel), List.mem_of_getElem? (i := 1166) (by decide +kernel), List.mem_of_getElem? (i := 1167) (by decide +kernel)⟩
theorem lw_p41 : lw_okq (⟨"InkHoursModel", "inkItem", "()V"⟩, 21) := ⟨⟨by decide +kernel, by decide +kernel⟩, List.mem_of_getElem? (i := 832) (by decide +kernel), List.mem_of_getElem? (i := 1173) (by decide +kernel), List.mem_of_getElem? (i := 1174) (by decide +kernel)⟩
theorem lw_p42 : lw_okq (⟨"InkHoursModel", "needs", "(Z)V"⟩, 21) := ⟨⟨by decide +kernel, by decide +kernel⟩, List.mem_of_getElem? (i := 832) (by decide +kernel), List.mem_of_getElem? (i := 1177) (by decide +kernel), List.mem_of_getElem? (i := 1178) (by decide +kernel)⟩
theorem lw_p43 : lw_okq (⟨"InkHoursModel", "number", "(II)V"⟩, 21) := ⟨⟨by decide +kernel, by decide +kernel⟩, List.mem_of_getElem? (i := 832) (by decide +kernel), List.mem_of_getElem? (i := 1181) (by decide +kernel), List.mem_of_getElem? (i := 1182) (by decide +kernel)⟩
theorem lw_p44 : lw_okq (⟨"InkHoursModel", "paperItem", "()V"⟩, 21) := ⟨⟨by decide +kernel, by decide +kernel⟩, List.mem_of_getElem? (i := 832) (by decide +kernel), List.mem_of_getElem? (i := 1188) (by decide +kernel), List.mem_of_getElem? (i := 1189) (by decide +kernel)⟩
theorem lw_p45 : lw_okq (⟨"InkHoursModel", "onItem", "()V"⟩, 21) := ⟨⟨by decide +kernel, by decide +kernel⟩, List.mem_of_getElem? (i := 832) (by decide +kernel), List.mem_of_getElem? (i := 1194) (by decide +kernel), List.mem_of_getElem? (i := 1195) (by decide +kernel)⟩
theorem lw_p46 : lw_okq (⟨"InkHoursModel", "markItem", "(II)V"⟩, 21) := ⟨⟨by decide +kernel, by decide +kernel⟩, List.mem_of_getElem? (i := 832) (by decide +kernel), List.mem_of_getElem? (i := 1199) (by decide +kernel), List.mem_of_getElem? (i := 1200) (by decide +kernel)⟩
theorem lw_p47 : lw_okq (⟨"InkHoursModel", "kindHere", "()I"⟩, 21) := ⟨⟨by decide +kernel, by decide +kernel⟩, List.mem_of_getElem? (i := 832) (by decide +kernel), List.mem_of_getElem? (i := 1203) (by decide +kernel), List.mem_of_getElem? (i := 1204) (by decide +kernel)⟩
def lw_privs_3 : List (MethodName × Nat) := [(⟨"InkHoursModel", "meaning", "()I"⟩, 21), (⟨"InkHoursModel", "isStaying", "(III)Z"⟩, 21), (⟨"InkHoursModel", "puts", "()V"⟩, 21), (⟨"InkHoursModel", "putsBack", "()V"⟩, 21), (⟨"InkHoursModel", "forgedBy", "(IIII)I"⟩, 21), (⟨"InkHoursModel", "token", "()V"⟩, 21), (⟨"InkHoursModel", "byteAt", "(I)I"⟩, 21), (⟨"InkHoursModel", "item", "()V"⟩, 21), (⟨"InkHoursModel", "word", "()J"⟩, 21), (⟨"InkHoursModel", "inkItem", "()V"⟩, 21), (⟨"InkHoursModel", "needs", "(Z)V"⟩, 21), (⟨"InkHoursModel", "number", "(II)V"⟩, 21), (⟨"InkHoursModel", "paperItem", "()V"⟩, 21), (⟨"InkHoursModel", "onItem", "()V"⟩, 21), (⟨"InkHoursModel", "markItem", "(II)V"⟩, 21), (⟨"InkHoursModel", "kindHere", "()I"⟩, 21)]
theorem lw_r3 : ∀ q ∈ lw_privs_3, lw_okq q := List.forall_mem_cons.mpr ⟨lw_p32, List.forall_mem_cons.mpr ⟨lw_p33, List.forall_mem_cons.mpr ⟨lw_p34, List.forall_mem_cons.mpr ⟨lw_p35, List.forall_mem_cons.mpr ⟨lw_p36, List.forall_mem_cons.mpr ⟨lw_p37, List.forall_mem_cons.mpr ⟨lw_p38, List.forall_mem_cons.mpr ⟨lw_p39, List.forall_mem_cons.mpr ⟨lw_p40, List.forall_mem_cons.mpr ⟨lw_p41, List.forall_mem_cons.mpr ⟨lw_p42, List.forall_mem_cons.mpr ⟨lw_p43, List.forall_mem_cons.mpr ⟨lw_p44, List.forall_mem_cons.mpr ⟨lw_p45, List.forall_mem_cons.mpr ⟨lw_p46, List.forall_mem_cons.mpr ⟨lw_p47, fun _ h => absurd h List.not_mem_nil⟩⟩⟩⟩⟩⟩⟩⟩⟩⟩⟩⟩⟩⟩⟩⟩
theorem lw_p48 : lw_okq (⟨"InkHoursModel", "wrong", "(I)I"⟩, 21) := ⟨⟨by decide +kernel, by decide +kernel⟩, List.mem_of_getElem? (i := 832) (by decide +kernel), List.mem_of_getElem? (i := 1237) (by decide +kernel), List.mem_of_getElem? (i := 1238) (by decide +kernel)⟩
def lw_privs_4 : List (MethodName × Nat) := [(⟨"InkHoursModel", "wrong", "(I)I"⟩, 21)]
theorem lw_r4 : ∀ q ∈ lw_privs_4, lw_okq q := List.forall_mem_cons.mpr ⟨lw_p48, fun _ h => absurd h List.not_mem_nil⟩
def lw_privs : List (MethodName × Nat) := lw_privs_1 ++ (lw_privs_2 ++ (lw_privs_3 ++ (lw_privs_4)))
def lw_tbl : List Cond := k2_sels lw_privs ++ tables_1
theorem lw_privs_ok : ∀ q ∈ lw_privs, lw_okq q := by
  show ∀ q ∈ lw_privs_1 ++ (lw_privs_2 ++ (lw_privs_3 ++ (lw_privs_4))), lw_okq q
  exact List.forall_mem_append.mpr ⟨lw_r1, List.forall_mem_append.mpr ⟨lw_r2, List.forall_mem_append.mpr ⟨lw_r3, lw_r4⟩⟩⟩
-- ===== end of PART A; then your names; then what follows =====
end
section
/-! THE MACHINE IN SMALL: the bytecode of the claim's methods, run over whole numbers and numbered cells.
A value: an int (as a whole number, meant modulo 2^32), a long, a cell of ours by its number, a constant by its number (0 null, 1 nothing). -/
abbrev xa_V : Type := Int ⊕ (Int ⊕ (Nat ⊕ Nat))
abbrev xI (z : Int) : xa_V := Sum.inl z
abbrev xL (z : Int) : xa_V := Sum.inr (Sum.inl z)
abbrev xR (k : Nat) : xa_V := Sum.inr (Sum.inr (Sum.inl k))
abbrev xC (c : Nat) : xa_V := Sum.inr (Sum.inr (Sum.inr c))
/-- a cell: 0 an object of class c, 1 an array of ints, 2 an array of references to class c; what it holds -/
abbrev xa_K : Type := Nat × (Nat × List xa_V)
abbrev xa_H : Type := List xa_K
/-- an instruction: its byte, itself, its length, what its numbers mean -/
abbrev xa_E : Type := Nat × (Jvm.ClassFile.Instr × (Nat × List Int))
/-- the methods' code, and of each: places of locals, cells and slots that it makes -/
abbrev xa_G : Type := (Nat → List xa_E) × (Nat → Nat × (Nat × Nat))
def xa_cat (v : xa_V) : Nat := match v with
  | .inr (.inl _) => 2
  | _ => 1
def xa_cats (st : List xa_V) : Nat := (st.map xa_cat).sum
def xa_sl (h : xa_H) : Nat := (h.map (fun c => c.2.2.length)).sum
abbrev xa_rI (z : Int) : Prop := -2147483648 ≤ z ∧ z < 2147483648
abbrev xa_rL (z : Int) : Prop := -9223372036854775808 ≤ z ∧ z < 9223372036854775808
def xa_and (a b : Int) : Int := (Int32.ofInt a &&& Int32.ofInt b).toInt
def xa_or (a b : Int) : Int := (Int32.ofInt a ||| Int32.ofInt b).toInt
def xa_xor (a b : Int) : Int := (Int32.ofInt a ^^^ Int32.ofInt b).toInt
def xa_shl (a b : Int) : Int := (Int32.ofInt a <<< (Int32.ofInt b &&& 31)).toInt
def xa_shr (a b : Int) : Int := (Int32.ofInt a >>> (Int32.ofInt b &&& 31)).toInt
def xa_ushr (a b : Int) : Int := ((Int32.ofInt a).toUInt32 >>> ((Int32.ofInt b).toUInt32 &&& Int32.toUInt32 31)).toInt32.toInt
def xa_i2b (a : Int) : Int := (Int32.ofInt a).toInt8.toInt32.toInt
def xa_i2s (a : Int) : Int := (Int32.ofInt a).toInt16.toInt32.toInt
/-- constants that are rows of numbers: 2 the script, others by their list -/
def xa_ca (X : List Int) (c : Nat) : Option (List Int) := match c with
  | 2 => some X
  | 4 => some [-1, 0, 0, 0, 1, 3, 1]
  | 5 => some [43690, 52428, 61680, 65280]
  | 6 => some [1, 1, 1, 1, 2, 3, 5]
  | 7 => some [0, 1, 2, 3, 0, 0, 0]
  | _ => none
/-- the bytes of the texts, by their numbers (a text 20 + i, its row of bytes 40 + i) -/
def xa_tx : List (List Int) := [[105, 110, 107], [112, 97, 112, 101, 114], [111, 110], [108, 97, 115, 116, 115], [112, 114, 105, 99, 101], [108, 105, 103, 104, 116], [100, 97, 114, 107], [110, 111, 116], [97, 110, 100], [111, 114], [98, 111, 108, 100], [102, 97, 105, 110, 116], [98, 108, 111, 116]]
def xa_cb (c : Nat) : Option (List Int) := if c < 40 then none else xa_tx[c - 40]?
/-- a store of one slot: a long that reaches into it is gone -/
def xa_set (ls : List xa_V) (i : Nat) (v : xa_V) : List xa_V := match i with
  | 0 => ls.set 0 v
  | j + 1 => match ls[j]? with
    | some (.inr (.inl _)) => (ls.set j (xC 1)).set (j + 1) v
    | _ => ls.set (j + 1) v
/-- what comes of one instruction: the next place, an end, or a call -/
abbrev xa_O : Type := (Nat × (List xa_V × (List xa_V × xa_H))) ⊕ ((Option xa_V × xa_H) ⊕ (Nat × (List xa_V × (Nat × (List xa_V × List xa_V)))))
abbrev xa_nx (i : Nat) (ls st : List xa_V) (h : xa_H) : Option xa_O := some (.inl (i, ls, st, h))
def xa_aload (i : Nat) (ls st : List xa_V) (h : xa_H) (k : Nat) : Option xa_O := match ls[k]? with
  | some (.inr (.inr (.inl a))) => xa_nx (i + 1) ls (xR a :: st) h
  | some (.inr (.inr (.inr c))) => if c = 2 ∨ 4 ≤ c then xa_nx (i + 1) ls (xC c :: st) h else none
  | _ => none
def xa_iload (i : Nat) (ls st : List xa_V) (h : xa_H) (k : Nat) : Option xa_O := match ls[k]? with
  | some (.inl z) => xa_nx (i + 1) ls (xI z :: st) h
  | _ => none
def xa_lload (i : Nat) (ls st : List xa_V) (h : xa_H) (k : Nat) : Option xa_O := match ls[k]? with
  | some (.inr (.inl z)) => xa_nx (i + 1) ls (xL z :: st) h
  | _ => none
def xa_astore (i : Nat) (ls st : List xa_V) (h : xa_H) (k : Nat) : Option xa_O := match st with
  | .inr (.inr (.inl a)) :: st => if k < ls.length then xa_nx (i + 1) (xa_set ls k (xR a)) st h else none
  | _ => none
def xa_istore (i : Nat) (ls st : List xa_V) (h : xa_H) (k : Nat) : Option xa_O := match st with
  | .inl z :: st => if k < ls.length then xa_nx (i + 1) (xa_set ls k (xI z)) st h else none
  | _ => none
def xa_lstore (i : Nat) (ls st : List xa_V) (h : xa_H) (k : Nat) : Option xa_O := match st with
  | .inr (.inl z) :: st => if k + 1 < ls.length then xa_nx (i + 1) ((xa_set ls k (xL z)).set (k + 1) (xC 1)) st h else none
  | _ => none
def xa_two (f : Int → Int → Int) (i : Nat) (ls st : List xa_V) (h : xa_H) : Option xa_O := match st with
  | .inl b :: .inl a :: st => xa_nx (i + 1) ls (xI (f a b) :: st) h
  | _ => none
def xa_div (f : Int → Int → Int) (i : Nat) (ls st : List xa_V) (h : xa_H) : Option xa_O := match st with
  | .inl b :: .inl a :: st => if xa_rI a ∧ xa_rI b ∧ b ≠ 0 then xa_nx (i + 1) ls (xI (f a b) :: st) h else none
  | _ => none
def xa_two64 (f : Int → Int → Int) (i : Nat) (ls st : List xa_V) (h : xa_H) : Option xa_O := match st with
  | .inr (.inl b) :: .inr (.inl a) :: st => xa_nx (i + 1) ls (xL (f a b) :: st) h
  | _ => none
def xa_one (f : Int → Int) (i : Nat) (ls st : List xa_V) (h : xa_H) : Option xa_O := match st with
  | .inl a :: st => xa_nx (i + 1) ls (xI (f a) :: st) h
  | _ => none
def xa_cmp (c : Jvm.ClassFile.Cond) (a b : Int) : Bool := match c with
  | .eq => decide (a = b)
  | .ne => decide (a ≠ b)
  | .lt => decide (a < b)
  | .ge => decide (b ≤ a)
  | .gt => decide (b < a)
  | .le => decide (a ≤ b)
/-- what an int is, of the whole numbers that mean it -/
def xa_w (z : Int) : Int := (Int32.ofInt z).toInt
def xa_cmpw (c : Jvm.ClassFile.Cond) (a b : Int) : Bool := if xa_rI a ∧ xa_rI b then xa_cmp c a b else xa_cmp c (xa_w a) (xa_w b)
def xa_if2 (c : Jvm.ClassFile.Cond) (x : List Int) (i : Nat) (ls st : List xa_V) (h : xa_H) : Option xa_O := match st, x with
  | .inl b :: .inl a :: st, [t] => if xa_cmpw c a b = true then xa_nx t.toNat ls st h else xa_nx (i + 1) ls st h
  | _, _ => none
def xa_if1 (c : Jvm.ClassFile.Cond) (x : List Int) (i : Nat) (ls st : List xa_V) (h : xa_H) : Option xa_O := match st, x with
  | .inl a :: st, [t] => if xa_cmpw c a 0 = true then xa_nx t.toNat ls st h else xa_nx (i + 1) ls st h
  | _, _ => none
/-- a value fits a field or an answer: 0 an int, 1 a truth value, 2 a reference, 3 a byte, 4 a char, 5 a long -/
def xa_fit (t : Int) (v : xa_V) : Bool := match v with
  | .inl z => t == 0 || (t == 1 && (z == 0 || z == 1)) || (t == 3 && decide (-128 ≤ z ∧ z ≤ 127)) || (t == 4 && decide (0 ≤ z ∧ z ≤ 65535))
  | .inr (.inl _) => t == 5
  | .inr (.inr (.inl _)) => t == 2
  | _ => false
def xa_getf (x : List Int) (i : Nat) (ls st : List xa_V) (h : xa_H) : Option xa_O := match x, st with
  | [0, ci, k], .inr (.inr (.inl a)) :: st => match h[a]? with
    | some (0, c, fs) => if c = ci.toNat then (match fs[k.toNat]? with
      | some v => xa_nx (i + 1) ls (v :: st) h
      | none => none) else none
    | _ => none
  | [1, f], .inr (.inr (.inr c)) :: st => if 20 ≤ c ∧ c < 33 then (if f = 0 then xa_nx (i + 1) ls (xI 0 :: st) h else if f = 1 then xa_nx (i + 1) ls (xC (c + 20) :: st) h else none) else none
  | _, _ => none
def xa_putf (x : List Int) (i : Nat) (ls st : List xa_V) (h : xa_H) : Option xa_O := match x, st with
  | [_, ci, k, t], v :: .inr (.inr (.inl a)) :: st => match h[a]? with
    | some (0, c, fs) => if c = ci.toNat ∧ k.toNat < fs.length ∧ xa_fit t v = true then xa_nx (i + 1) ls st (h.set a (0, c, fs.set k.toNat v)) else none
    | _ => none
  | _, _ => none
def xa_gets (x : List Int) (i : Nat) (ls st : List xa_V) (h : xa_H) : Option xa_O := match x with
  | [0, c] => xa_nx (i + 1) ls (xC c.toNat :: st) h
  | [1, z] => xa_nx (i + 1) ls (xI z :: st) h
  | _ => none
def xa_iald (X : List Int) (i : Nat) (ls st : List xa_V) (h : xa_H) : Option xa_O := match st with
  | .inl j :: .inr (.inr (.inl a)) :: st => match h[a]? with
    | some (1, _, xs) => if 0 ≤ j ∧ j < (xs.length : Int) ∧ j < 2147483648 then (match xs[j.toNat]? with
      | some (.inl z) => xa_nx (i + 1) ls (xI z :: st) h
      | _ => none) else none
    | _ => none
  | .inl j :: .inr (.inr (.inr c)) :: st => match xa_ca X c with
    | some xs => if 0 ≤ j ∧ j < (xs.length : Int) ∧ j < 2147483648 then (match xs[j.toNat]? with
      | some z => xa_nx (i + 1) ls (xI z :: st) h
      | none => none) else none
    | none => none
  | _ => none
def xa_bald (i : Nat) (ls st : List xa_V) (h : xa_H) : Option xa_O := match st with
  | .inl j :: .inr (.inr (.inr c)) :: st => match xa_cb c with
    | some xs => if 0 ≤ j ∧ j < (xs.length : Int) ∧ j < 2147483648 then (match xs[j.toNat]? with
      | some z => xa_nx (i + 1) ls (xI z :: st) h
      | none => none) else none
    | none => none
  | _ => none
def xa_iast (i : Nat) (ls st : List xa_V) (h : xa_H) : Option xa_O := match st with
  | .inl z :: .inl j :: .inr (.inr (.inl a)) :: st => match h[a]? with
    | some (1, c, xs) => if 0 ≤ j ∧ j < (xs.length : Int) ∧ j < 2147483648 then xa_nx (i + 1) ls st (h.set a (1, c, xs.set j.toNat (xI z))) else none
    | _ => none
  | _ => none
def xa_aald (i : Nat) (ls st : List xa_V) (h : xa_H) : Option xa_O := match st with
  | .inl j :: .inr (.inr (.inl a)) :: st => match h[a]? with
    | some (2, ci, xs) => if (ci = 1 ∨ ci = 2 ∨ ci = 4) ∧ 0 ≤ j ∧ j < (xs.length : Int) ∧ j < 2147483648 then (match xs[j.toNat]? with
      | some (.inr (.inr (.inl b))) => xa_nx (i + 1) ls (xR b :: st) h
      | _ => none) else none
    | _ => none
  | _ => none
def xa_aast (i : Nat) (ls st : List xa_V) (h : xa_H) : Option xa_O := match st with
  | .inr (.inr (.inl b)) :: .inl j :: .inr (.inr (.inl a)) :: st => match h[a]?, h[b]? with
    | some (2, c, xs), some (0, c', _) => if c' = c ∧ (c = 1 ∨ c = 2 ∨ c = 4) ∧ a ≠ b ∧ 0 ≤ j ∧ j < (xs.length : Int) ∧ j < 2147483648 then xa_nx (i + 1) ls st (h.set a (2, c, xs.set j.toNat (xR b))) else none
    | _, _ => none
  | _ => none
def xa_alen (X : List Int) (i : Nat) (ls st : List xa_V) (h : xa_H) : Option xa_O := match st with
  | .inr (.inr (.inl a)) :: st => match h[a]? with
    | some (1, _, xs) => if xs.length < 2147483648 then xa_nx (i + 1) ls (xI xs.length :: st) h else none
    | _ => none
  | .inr (.inr (.inr c)) :: st => match xa_ca X c with
    | some xs => xa_nx (i + 1) ls (xI xs.length :: st) h
    | none => match xa_cb c with
      | some xs => xa_nx (i + 1) ls (xI xs.length :: st) h
      | none => none
  | _ => none
/-- the fields of a new object, by its class -/
def xa_new (f : Nat → List xa_V) (x : List Int) (i : Nat) (ls st : List xa_V) (h : xa_H) : Option xa_O := match x with
  | [ci] => xa_nx (i + 1) ls (xR h.length :: st) (h ++ [(0, ci.toNat, f ci.toNat)])
  | _ => none
def xa_newi (i : Nat) (ls st : List xa_V) (h : xa_H) : Option xa_O := match st with
  | .inl n :: st => if 0 ≤ n ∧ n < 100000 then xa_nx (i + 1) ls (xR h.length :: st) (h ++ [(1, 0, List.replicate n.toNat (xI 0))]) else none
  | _ => none
def xa_newq (x : List Int) (i : Nat) (ls st : List xa_V) (h : xa_H) : Option xa_O := match x, st with
  | [ci], .inl n :: st => if 0 ≤ n ∧ n < 100000 then xa_nx (i + 1) ls (xR h.length :: st) (h ++ [(2, ci.toNat, List.replicate n.toNat (xC 0))]) else none
  | _, _ => none
def xa_ldc (x : List Int) (i : Nat) (ls st : List xa_V) (h : xa_H) : Option xa_O := match x with
  | [0, z] => xa_nx (i + 1) ls (xI z :: st) h
  | [1, c] => xa_nx (i + 1) ls (xC c.toNat :: st) h
  | _ => none
def xa_sw (lo hi : Int) (x : List Int) (ls st : List xa_V) (h : xa_H) : Option xa_O := match x, st with
  | d :: ts, .inl z :: st => if xa_rI z then (if z < lo ∨ hi < z then xa_nx d.toNat ls st h else (match ts[(z - lo).toNat]? with
    | some t => xa_nx t.toNat ls st h
    | none => none)) else none
  | _, _ => none
def xa_lcmp (i : Nat) (ls st : List xa_V) (h : xa_H) : Option xa_O := match st with
  | .inr (.inl b) :: .inr (.inl a) :: st => if xa_rL a ∧ xa_rL b then xa_nx (i + 1) ls (xI (if a < b then -1 else if a = b then 0 else 1) :: st) h else none
  | _ => none
def xa_cpy (xs ys : List xa_V) (s d n : Nat) : List xa_V := ys.take d ++ ((xs.drop s).take n ++ ys.drop (d + n))
/-- calls: 0 static, 1 of an object of ours, 2 a constructor, 3 4 5 the same of nest mates, 6 Object's constructor, 7 max, 8 min, 9 arraycopy, 10 of a text -/
def xa_inv (x : List Int) (i : Nat) (ls st : List xa_V) (h : xa_H) : Option xa_O := match x with
  | [6] => match st with
    | .inr (.inr (.inl _)) :: rest => if xa_cats rest ≤ 8 then xa_nx (i + 1) ls rest h else none
    | _ => none
  | [7] => match st with
    | .inl b :: .inl a :: rest => if xa_rI a ∧ xa_rI b ∧ xa_cats rest ≤ 8 then xa_nx (i + 1) ls (xI (if a < b then b else a) :: rest) h else none
    | _ => none
  | [8] => match st with
    | .inl b :: .inl a :: rest => if xa_rI a ∧ xa_rI b ∧ xa_cats rest ≤ 8 then xa_nx (i + 1) ls (xI (if b < a then b else a) :: rest) h else none
    | _ => none
  | [9] => match st with
    | .inl n :: .inl d :: .inr (.inr (.inl b)) :: .inl s :: .inr (.inr (.inl a)) :: rest => match h[a]?, h[b]? with
      | some (1, _, xs), some (1, c, ys) => if 0 ≤ n ∧ 0 ≤ d ∧ 0 ≤ s ∧ s + n ≤ (xs.length : Int) ∧ d + n ≤ (ys.length : Int) ∧ xs.length < 100000 ∧ ys.length < 100000 ∧ xa_cats rest ≤ 8 then xa_nx (i + 1) ls rest (h.set b (1, c, xa_cpy xs ys s.toNat d.toNat n.toNat)) else none
      | _, _ => none
    | _ => none
  | [0, y, n] => if n.toNat ≤ st.length ∧ xa_cats (st.drop n.toNat) ≤ 8 then some (.inr (.inr (y.toNat, (st.take n.toNat).reverse, i + 1, ls, st.drop n.toNat))) else none
  | [3, y, n] => if n.toNat ≤ st.length ∧ xa_cats (st.drop n.toNat) ≤ 8 then some (.inr (.inr (y.toNat, (st.take n.toNat).reverse, i + 1, ls, st.drop n.toNat))) else none
  | [k, y, n, ci] => match st.drop n.toNat with
    | .inr (.inr (.inl a)) :: rest => match h[a]? with
      | some (0, c, _) => if (k = 1 ∨ k = 2 ∨ k = 4 ∨ k = 5) ∧ c = ci.toNat ∧ n.toNat ≤ st.length ∧ xa_cats rest ≤ 8 then some (.inr (.inr (y.toNat, xR a :: (st.take n.toNat).reverse, i + 1, ls, rest))) else none
      | _ => none
    | .inr (.inr (.inr c)) :: rest => if k = 10 ∧ 20 ≤ c ∧ c < 33 ∧ n.toNat ≤ st.length ∧ xa_cats rest ≤ 8 then some (.inr (.inr (y.toNat, xC c :: (st.take n.toNat).reverse, i + 1, ls, rest))) else none
    | _ => none
  | _ => none
/-- the fields of new objects: of the class of that number, null, 0 or false -/
def xa_nf (ci : Nat) : List xa_V := match ci with
  | 0 => [xC 0, xC 0, xC 0, xC 0, xI 0]
  | 1 => [xC 0, xC 0, xC 0, xC 0]
  | 2 => [xC 0, xC 0, xC 0, xC 0, xI 0, xI 0]
  | 3 => [xI 0, xI 0, xI 0, xI 0, xI 0]
  | 4 => [xC 0, xI 0, xI 0]
  | 5 => [xC 0, xI 0, xI 0, xI 0, xI 0, xI 0]
  | 6 => [xC 0, xC 0, xI 0]
  | 7 => [xC 0, xC 0, xC 0, xC 0, xC 0, xI 0, xI 0]
  | 8 => [xC 0, xC 0, xC 0, xC 0, xC 0, xC 0, xC 0, xC 0, xC 0, xC 0, xI 0]
  | 9 => [xC 0, xC 0, xC 0, xC 0, xI 0, xI 0, xI 0, xI 0, xI 0, xI 0, xC 0, xC 0, xI 0, xI 0, xI 0, xI 0, xI 0, xC 0, xC 0, xC 0, xC 0]
  | _ => []
def xa_one1 (X : List Int) (e : xa_E) (i : Nat) (ls st : List xa_V) (h : xa_H) : Option xa_O := match e.2.1 with
  | .aload k => xa_aload i ls st h k
  | .aload_n k => xa_aload i ls st h k
  | .iload k => xa_iload i ls st h k
  | .iload_n k => xa_iload i ls st h k
  | .lload k => xa_lload i ls st h k
  | .lload_n k => xa_lload i ls st h k
  | .astore k => xa_astore i ls st h k
  | .astore_n k => xa_astore i ls st h k
  | .istore k => xa_istore i ls st h k
  | .istore_n k => xa_istore i ls st h k
  | .lstore k => xa_lstore i ls st h k
  | .lstore_n k => xa_lstore i ls st h k
  | .iconst n => xa_nx (i + 1) ls (xI n :: st) h
  | .bipush n => if -128 ≤ n ∧ n < 128 then xa_nx (i + 1) ls (xI n :: st) h else none
  | .sipush n => if -32768 ≤ n ∧ n < 32768 then xa_nx (i + 1) ls (xI n :: st) h else none
  | .lconst n => xa_nx (i + 1) ls (xL ((n : Nat) : Int) :: st) h
  | .ldc _ => xa_ldc e.2.2.2 i ls st h
  | .ldc_w _ => xa_ldc e.2.2.2 i ls st h
  | .ldc2_w _ => (match e.2.2.2 with
    | [z] => xa_nx (i + 1) ls (xL z :: st) h
    | _ => none)
  | .iadd => xa_two (fun a b => a + b) i ls st h
  | .isub => xa_two (fun a b => a - b) i ls st h
  | .imul => xa_two (fun a b => a * b) i ls st h
  | .iand => xa_two xa_and i ls st h
  | .ior => xa_two xa_or i ls st h
  | .ixor => xa_two xa_xor i ls st h
  | .ishl => xa_two xa_shl i ls st h
  | .ishr => xa_two xa_shr i ls st h
  | .iushr => xa_two xa_ushr i ls st h
  | .idiv => xa_div Int.tdiv i ls st h
  | .irem => xa_div Int.tmod i ls st h
  | .ladd => xa_two64 (fun a b => a + b) i ls st h
  | .lmul => xa_two64 (fun a b => a * b) i ls st h
  | .i2b => xa_one xa_i2b i ls st h
  | .i2s => xa_one xa_i2s i ls st h
  | .i2c => (match st with
    | .inl a :: st => if 0 ≤ a ∧ a < 65536 then xa_nx (i + 1) ls (xI a :: st) h else none
    | _ => none)
  | .i2l => (match st with
    | .inl a :: st => if xa_rI a then xa_nx (i + 1) ls (xL a :: st) h else none
    | _ => none)
  | .l2i => (match st with
    | .inr (.inl a) :: st => xa_nx (i + 1) ls (xI a :: st) h
    | _ => none)
  | .lcmp => xa_lcmp i ls st h
  | .iinc k n => (match ls[k]? with
    | some (.inl z) => xa_nx (i + 1) (xa_set ls k (xI (z + n))) st h
    | _ => none)
  | .dup => (match st with
    | v :: st => if xa_cat v = 1 then xa_nx (i + 1) ls (v :: v :: st) h else none
    | _ => none)
  | .dup2 => (match st with
    | v :: w :: st => if xa_cat v = 1 ∧ xa_cat w = 1 then xa_nx (i + 1) ls (v :: w :: v :: w :: st) h else none
    | _ => none)
  | .pop => (match st with
    | v :: st => if xa_cat v = 1 then xa_nx (i + 1) ls st h else none
    | _ => none)
  | .goto _ => (match e.2.2.2 with
    | [t] => xa_nx t.toNat ls st h
    | _ => none)
  | .if_icmp c _ => xa_if2 c e.2.2.2 i ls st h
  | .ifCond c _ => xa_if1 c e.2.2.2 i ls st h
  | .tableswitch _ lo hi _ => xa_sw lo hi e.2.2.2 ls st h
  | .getfield _ => xa_getf e.2.2.2 i ls st h
  | .putfield _ => xa_putf e.2.2.2 i ls st h
  | .getstatic _ => xa_gets e.2.2.2 i ls st h
  | .iaload => xa_iald X i ls st h
  | .baload => xa_bald i ls st h
  | .iastore => xa_iast i ls st h
  | .aaload => xa_aald i ls st h
  | .aastore => xa_aast i ls st h
  | .arraylength => xa_alen X i ls st h
  | .new _ => xa_new xa_nf e.2.2.2 i ls st h
  | .newarray _ => xa_newi i ls st h
  | .anewarray _ => xa_newq e.2.2.2 i ls st h
  | .invokestatic _ => xa_inv e.2.2.2 i ls st h
  | .invokevirtual _ => xa_inv e.2.2.2 i ls st h
  | .invokespecial _ => xa_inv e.2.2.2 i ls st h
  | .return_ => (match st with
    | [] => some (.inr (.inl (none, h)))
    | _ => none)
  | .ireturn => (match st, e.2.2.2 with
    | [.inl z], [t] => if xa_fit t (xI z) = true then some (.inr (.inl (some (xI z), h))) else none
    | _, _ => none)
  | .lreturn => (match st with
    | [.inr (.inl z)] => some (.inr (.inl (some (xL z), h)))
    | _ => none)
  | .areturn => (match st with
    | [.inr (.inr (.inl a))] => some (.inr (.inl (some (xR a), h)))
    | _ => none)
  | _ => none
/-- a method's arguments in its places -/
def xa_args (args : List xa_V) : List xa_V := args.flatMap (fun v => if xa_cat v = 2 then [v, xC 1] else [v])
def xa_loc (nL : Nat) (args : List xa_V) : List xa_V := xa_args args ++ List.replicate (nL - (xa_args args).length) (xC 1)
/-- n steps and calls at most -/
def xa_ex (G : xa_G) (X : List Int) : Nat → Nat → Nat → List xa_V → List xa_V → xa_H → Option (Option xa_V × xa_H)
  | 0, _, _, _, _, _ => none
  | n + 1, mi, i, ls, st, h => match (G.1 mi)[i]? with
    | none => none
    | some e => match xa_one1 X e i ls st h with
      | none => none
      | some (.inl (i', ls', st', h')) => xa_ex G X n mi i' ls' st' h'
      | some (.inr (.inl r)) => some r
      | some (.inr (.inr (y, args, i', ls', rest))) => if (xa_args args).length ≤ (G.2 y).1 then (match xa_ex G X n y 0 (xa_loc (G.2 y).1 args) [] h with
        | none => none
        | some (rv, h1) => if h1.length = h.length + (G.2 y).2.1 ∧ xa_sl h1 = xa_sl h + (G.2 y).2.2 then xa_ex G X n mi i' ls' (rv.toList ++ rest) h1 else none) else none
theorem xa_ex_more (G : xa_G) (X : List Int) : ∀ (n mi i : Nat) (ls st : List xa_V) (h : xa_H) (r : Option xa_V × xa_H), xa_ex G X n mi i ls st h = some r → ∀ k, n ≤ k → xa_ex G X k mi i ls st h = some r
  | 0, mi, i, ls, st, h, r, e, k, hk => by simp [xa_ex] at e
  | n + 1, mi, i, ls, st, h, r, e, k, hk => by
    obtain ⟨k, rfl⟩ : ∃ k', k = k' + 1 := ⟨k - 1, by omega⟩
    have hk : n ≤ k := by omega
    rw [xa_ex] at e ⊢
    cases hf : (G.1 mi)[i]? with
    | none => rw [hf] at e; simp at e
    | some en =>
      rw [hf] at e
      simp only at e ⊢
      cases ho : xa_one1 X en i ls st h with
      | none => rw [ho] at e; simp at e
      | some o =>
        rw [ho] at e
        match o, e with
        | .inl (i', ls', st', h'), e => exact xa_ex_more G X n _ _ _ _ _ _ e k hk
        | .inr (.inl r'), e => exact e
        | .inr (.inr (y, args, i', ls', rest)), e =>
          simp only at e ⊢
          by_cases hl : (xa_args args).length ≤ (G.2 y).1
          · rw [if_pos hl] at e ⊢
            cases hc : xa_ex G X n y 0 (xa_loc (G.2 y).1 args) [] h with
            | none => rw [hc] at e; simp at e
            | some q =>
              rw [hc] at e
              rw [xa_ex_more G X n _ _ _ _ _ _ hc k hk]
              obtain ⟨rv, h1⟩ := q
              simp only at e ⊢
              split at e
              · next hq =>
                rw [if_pos hq]
                exact xa_ex_more G X n _ _ _ _ _ _ e k hk
              · simp at e
          · rw [if_neg hl] at e
            simp at e
end
section
/-! NUMBERS AND WORLDS: how the small machine's values and cells stand in the real one -/
theorem xa_add (a b : Int) : Int32.ofInt a + Int32.ofInt b = Int32.ofInt (a + b) := (Int32.ofInt_add a b).symm
theorem xa_sub (a b : Int) : Int32.ofInt a - Int32.ofInt b = Int32.ofInt (a - b) := (Int32.ofInt_sub a b).symm
theorem xa_mul (a b : Int) : Int32.ofInt a * Int32.ofInt b = Int32.ofInt (a * b) := (Int32.ofInt_mul a b).symm
theorem xa_addL (a b : Int) : Int64.ofInt a + Int64.ofInt b = Int64.ofInt (a + b) := (Int64.ofInt_add a b).symm
theorem xa_mulL (a b : Int) : Int64.ofInt a * Int64.ofInt b = Int64.ofInt (a * b) := (Int64.ofInt_mul a b).symm
theorem xa_asI (x : Int32) : Int32.ofInt x.toInt = x := Int32.ofInt_toInt x
theorem xa_bmod {z : Int} (h : xa_rI z) : z.bmod (2 ^ 32) = z := by
  obtain ⟨h1, h2⟩ := h
  rw [Int.bmod_def]
  have e : z % ((2 ^ 32 : Nat) : Int) = if 0 ≤ z then z else z + 4294967296 := by
    split <;> omega
  rw [e]
  split <;> split <;> omega
theorem xa_bmodL {z : Int} (h : xa_rL z) : z.bmod (2 ^ 64) = z := by
  obtain ⟨h1, h2⟩ := h
  rw [Int.bmod_def]
  have e : z % ((2 ^ 64 : Nat) : Int) = if 0 ≤ z then z else z + 18446744073709551616 := by
    split <;> omega
  rw [e]
  split <;> split <;> omega
theorem xa_toI {z : Int} (h : xa_rI z) : (Int32.ofInt z).toInt = z := by
  rw [Int32.toInt_ofInt]
  exact xa_bmod h
theorem xa_toL {z : Int} (h : xa_rL z) : (Int64.ofInt z).toInt = z := by
  rw [Int64.toInt_ofInt]
  exact xa_bmodL h
theorem xa_rng (x : Int32) : xa_rI x.toInt := by
  have h1 := Int32.le_toInt x
  have h2 := Int32.toInt_lt x
  exact ⟨by simpa using h1, by simpa using h2⟩
theorem xa_ieq {a b : Int} (ha : xa_rI a) (hb : xa_rI b) : Int32.ofInt a = Int32.ofInt b ↔ a = b := by
  constructor
  · intro h
    rw [← xa_toI ha, ← xa_toI hb, h]
  · intro h; rw [h]
theorem xa_ilt {a b : Int} (ha : xa_rI a) (hb : xa_rI b) : Int32.ofInt a < Int32.ofInt b ↔ a < b := by
  rw [Int32.lt_iff_toInt_lt, xa_toI ha, xa_toI hb]
theorem xa_ile {a b : Int} (ha : xa_rI a) (hb : xa_rI b) : Int32.ofInt a ≤ Int32.ofInt b ↔ a ≤ b := by
  rw [Int32.le_iff_toInt_le, xa_toI ha, xa_toI hb]
theorem xa_cmpw_eq (c : Jvm.ClassFile.Cond) (a b : Int) : xa_cmpw c a b = xa_cmp c (xa_w a) (xa_w b) := by
  unfold xa_cmpw
  split
  · next h => rw [show xa_w a = a from xa_toI h.1, show xa_w b = b from xa_toI h.2]
  · rfl
theorem xa_weq (a b : Int) : Int32.ofInt a = Int32.ofInt b ↔ xa_w a = xa_w b := Int32.toInt_inj.symm
theorem xa_wlt (a b : Int) : Int32.ofInt a < Int32.ofInt b ↔ xa_w a < xa_w b := Int32.lt_iff_toInt_lt
theorem xa_wle (a b : Int) : Int32.ofInt a ≤ Int32.ofInt b ↔ xa_w a ≤ xa_w b := Int32.le_iff_toInt_le
theorem xa_leq {a b : Int} (ha : xa_rL a) (hb : xa_rL b) : Int64.ofInt a = Int64.ofInt b ↔ a = b := by
  constructor
  · intro h
    rw [← xa_toL ha, ← xa_toL hb, h]
  · intro h; rw [h]
theorem xa_llt {a b : Int} (ha : xa_rL a) (hb : xa_rL b) : Int64.ofInt a < Int64.ofInt b ↔ a < b := by
  rw [Int64.lt_iff_toInt_lt, xa_toL ha, xa_toL hb]
theorem xa_z0 : Int32.ofInt 0 = 0 := rfl
theorem xa_r0 : xa_rI 0 := by decide
theorem xa_idiv {a b : Int} (ha : xa_rI a) (hb : xa_rI b) : Int32.ofInt a / Int32.ofInt b = Int32.ofInt (a.tdiv b) := by
  rw [← Int32.toInt_inj, Int32.toInt_div, xa_toI ha, xa_toI hb, Int32.toInt_ofInt]
theorem xa_irem {a b : Int} (ha : xa_rI a) (hb : xa_rI b) : Int32.ofInt a - Int32.ofInt a / Int32.ofInt b * Int32.ofInt b = Int32.ofInt (a.tmod b) := by
  rw [xa_idiv ha hb, xa_mul, xa_sub]
  congr 1
  have := Int.tmod_add_mul_tdiv a b
  rw [Int.mul_comm] at this
  omega
theorem xa_nat {j : Int} (h0 : 0 ≤ j) (h : j < 2147483648) : (Int32.ofInt j).toNatClampNeg = j.toNat := by
  show (Int32.ofInt j).toInt.toNat = j.toNat
  rw [xa_toI ⟨by omega, h⟩]
theorem xa_vin {j : Int} {n : Nat} (h0 : 0 ≤ j) (h1 : j < (n : Int)) (h : j < 2147483648) : vp_in (Int32.ofInt j) n := by
  intro q
  rcases q with q | q
  · have := (xa_ilt (b := 0) ⟨by omega, h⟩ xa_r0).mp q
    omega
  · rw [xa_nat h0 h] at q
    omega
/-- a value, with the first address of ours, the constants' addresses, and what stands in the third -/
def xa_cv (b0 : Nat) (ca : Nat → Nat) (v3 : Value) (v : xa_V) : Value := match v with
  | .inl z => .int (Int32.ofInt z)
  | .inr (.inl z) => .long (Int64.ofInt z)
  | .inr (.inr (.inl k)) => .ref (b0 + k)
  | .inr (.inr (.inr c)) => if c = 0 then .null else if c = 3 then v3 else .ref (ca c)
def xa_iv (v : xa_V) : Int32 := match v with
  | .inl z => Int32.ofInt z
  | _ => 0
def xa_ri (b0 : Nat) (v : xa_V) : Option Nat := match v with
  | .inr (.inr (.inl k)) => some (b0 + k)
  | _ => none
theorem xa_cv_cat {b0 : Nat} {ca : Nat → Nat} {v3 : Value} (h3 : v3.category = 1) (v : xa_V) : (xa_cv b0 ca v3 v).category = xa_cat v := by
  match v with
  | .inl z => rfl
  | .inr (.inl z) => rfl
  | .inr (.inr (.inl k)) => rfl
  | .inr (.inr (.inr c)) =>
    unfold xa_cv
    dsimp only
    split
    · rfl
    · split
      · exact h3
      · rfl
theorem xa_cv_cats {b0 : Nat} {ca : Nat → Nat} {v3 : Value} (h3 : v3.category = 1) (st : List xa_V) : ((st.map (xa_cv b0 ca v3)).map fun v => v.category).sum = xa_cats st := by
  unfold xa_cats
  rw [List.map_map]
  congr 1
  exact List.map_congr_left (fun v _ => xa_cv_cat h3 v)
def xa_ce (b0 : Nat) (ca : Nat → Nat) (v3 : Value) (cI : ClassId) (cQ : Nat → ClassId) (c : xa_K) : va_E := match c with
  | (0, ci, fs) => .inr (ci, fs.map (xa_cv b0 ca v3))
  | (1, _, xs) => .inl (cI, xs.length, .inl (fun j => xa_iv (xs.getD j (xC 0))))
  | (_ + 2, ci, xs) => .inl (cQ ci, xs.length, .inr (.inr (.inr (.inr (fun j => xa_ri b0 (xs.getD j (xC 0)))))))
def xa_W (b0 : Nat) (ca : Nat → Nat) (v3 : Value) (cI : ClassId) (cQ : Nat → ClassId) (h : xa_H) : va_W := h.mapIdx (fun k c => (b0 + k, xa_ce b0 ca v3 cI cQ c))
section XW
variable {b0 : Nat} {ca : Nat → Nat} {v3 : Value} {cI : ClassId} {cQ : Nat → ClassId} {h : xa_H}
theorem xa_W_get {k : Nat} {c : xa_K} (e : h[k]? = some c) : (xa_W b0 ca v3 cI cQ h)[k]? = some (b0 + k, xa_ce b0 ca v3 cI cQ c) := by
  unfold xa_W
  rw [List.getElem?_mapIdx, e]
  rfl
theorem xa_W_inv {k : Nat} {q : Nat × va_E} (e : (xa_W b0 ca v3 cI cQ h)[k]? = some q) : q.1 = b0 + k ∧ k < h.length := by
  unfold xa_W at e
  rw [List.getElem?_mapIdx] at e
  cases hc : h[k]? with
  | none => rw [hc] at e; simp at e
  | some c =>
    rw [hc] at e
    simp only [Option.map_some, Option.some.injEq] at e
    exact ⟨by rw [← e], (List.getElem?_eq_some_iff.mp hc).1⟩
theorem xa_W_set {k : Nat} {c : xa_K} : xa_W b0 ca v3 cI cQ (h.set k c) = (xa_W b0 ca v3 cI cQ h).set k (b0 + k, xa_ce b0 ca v3 cI cQ c) := by
  unfold xa_W
  apply List.ext_getElem?
  intro j
  rw [List.getElem?_mapIdx, List.getElem?_set, List.getElem?_set, List.length_mapIdx, List.getElem?_mapIdx]
  by_cases hj : k = j
  · subst hj
    rw [if_pos rfl, if_pos rfl]
    split <;> rfl
  · rw [if_neg hj, if_neg hj]
theorem xa_W_push {c : xa_K} : xa_W b0 ca v3 cI cQ (h ++ [c]) = xa_W b0 ca v3 cI cQ h ++ [(b0 + h.length, xa_ce b0 ca v3 cI cQ c)] := by
  unfold xa_W
  apply List.ext_getElem?
  intro j
  rw [List.getElem?_mapIdx]
  by_cases hj : j < h.length
  · rw [List.getElem?_append_left hj, List.getElem?_append_left (by rw [List.length_mapIdx]; exact hj), List.getElem?_mapIdx]
  · rw [List.getElem?_append_right (by omega), List.getElem?_append_right (by rw [List.length_mapIdx]; omega), List.length_mapIdx]
    by_cases hj2 : j = h.length
    · subst hj2
      simp
    · rw [List.getElem?_eq_none (by simp; omega), List.getElem?_eq_none (by simp; omega)]
      rfl
theorem xa_W_D : va_D (fun q : Nat => b0 ≤ q) (xa_W b0 ca v3 cI cQ h) := by
  refine ⟨fun i j p q hi hj e => ?_, fun k q hk => ?_⟩
  · have h1 := (xa_W_inv hi).1
    have h2 := (xa_W_inv hj).1
    omega
  · have h1 := (xa_W_inv hk).1
    show b0 ≤ q.1
    omega
end XW
/-- the cells of ours stand from b0 on, and nothing behind them -/
def xa_Rel (b0 : Nat) (ca : Nat → Nat) (v3 : Value) (cI : ClassId) (cQ : Nat → ClassId) (D : va_G) (cl : List vw_C) (h : xa_H) (H : Heap) : Prop := H.size = b0 + h.length ∧ va_P D cl (xa_W b0 ca v3 cI cQ h) H
/-- the places of a method -/
def xa_lr (b0 : Nat) (ca : Nat → Nat) (v3 : Value) (nL : Nat) (ls : List xa_V) (lr : Array Slot) : Prop := lr.size = nL ∧ lv_wf lr ∧ ls.length = nL ∧ ∀ (j : Nat) (v : xa_V), ls[j]? = some v → v ≠ xC 1 → lr[j]? = some (.val (xa_cv b0 ca v3 v))
def xa_pairs (b0 : Nat) (ca : Nat → Nat) (v3 : Value) (ls : List xa_V) : List (Nat × Value) := (List.range ls.length).filterMap (fun j => match ls[j]? with
  | some v => if v = xC 1 then none else some (j, xa_cv b0 ca v3 v)
  | none => none)
section XL
variable {b0 : Nat} {ca : Nat → Nat} {v3 : Value} {nL : Nat} {ls : List xa_V} {lr : Array Slot}
theorem xa_pairs_in {j : Nat} {v : xa_V} (e : ls[j]? = some v) (hv : v ≠ xC 1) : (j, xa_cv b0 ca v3 v) ∈ xa_pairs b0 ca v3 ls := by
  refine List.mem_filterMap.mpr ⟨j, List.mem_range.mpr (List.getElem?_eq_some_iff.mp e).1, ?_⟩
  rw [e]
  dsimp only
  rw [if_neg hv]
theorem xa_pairs_inv {q : Nat × Value} (hq : q ∈ xa_pairs b0 ca v3 ls) : ∃ v, ls[q.1]? = some v ∧ v ≠ xC 1 ∧ q.2 = xa_cv b0 ca v3 v := by
  obtain ⟨j, -, hj⟩ := List.mem_filterMap.mp hq
  cases e : ls[j]? with
  | none => rw [e] at hj; simp at hj
  | some v =>
    rw [e] at hj
    dsimp only at hj
    split at hj
    · simp at hj
    · next hv =>
      cases hj
      exact ⟨v, e, hv, rfl⟩
theorem xa_lr_has (h : xa_lr b0 ca v3 nL ls lr) : lv_has lr nL (xa_pairs b0 ca v3 ls) := by
  refine ⟨h.1, h.2.1, fun q hq => ?_⟩
  obtain ⟨v, h1, h2, h3⟩ := xa_pairs_inv hq
  rw [h3]
  exact h.2.2.2 _ _ h1 h2
theorem xa_set_len (i : Nat) (v : xa_V) : (xa_set ls i v).length = ls.length := by
  unfold xa_set
  split
  · simp
  · split <;> simp
/-- what a store leaves in another place -/
theorem xa_set_ne {i j : Nat} {v w : xa_V} (hj : j ≠ i) (e : (xa_set ls i v)[j]? = some w) (hw : w ≠ xC 1) : ls[j]? = some w ∧ ¬ (j + 1 = i ∧ xa_cat w = 2) := by
  unfold xa_set at e
  split at e
  · rw [List.getElem?_set_ne (by omega)] at e
    exact ⟨e, by omega⟩
  · next k =>
    split at e
    · next z hz =>
      rw [List.getElem?_set_ne (by omega)] at e
      by_cases hk : j = k
      · subst hk
        rw [List.getElem?_set_self' ] at e
        rw [hz] at e
        simp at e
        exact absurd e.symm hw
      · rw [List.getElem?_set_ne (by omega)] at e
        exact ⟨e, by omega⟩
    · next hz =>
      rw [List.getElem?_set_ne (by omega)] at e
      refine ⟨e, fun q => ?_⟩
      obtain ⟨q1, q2⟩ := q
      have : j = k := by omega
      subst this
      match w, q2 with
      | .inr (.inl z), _ => exact hz z e
theorem xa_set_eq {i : Nat} {v : xa_V} (hi : i < ls.length) : (xa_set ls i v)[i]? = some v := by
  unfold xa_set
  split
  · simp [hi]
  · split <;> simp [hi]
theorem xa_lr_set1 {ls' : Array Slot} {i : Nat} {v : xa_V} (h3 : v3.category = 1) (hn : ls.length = nL) (hi : i < nL)
    (h : lv_has ls' nL ((i, xa_cv b0 ca v3 v) :: (xa_pairs b0 ca v3 ls).filter (fun q => !(q.1 == i) && !(q.1 + 1 == i && q.2.category == 2)))) : xa_lr b0 ca v3 nL (xa_set ls i v) ls' := by
  refine ⟨h.1, h.2.1, by rw [xa_set_len]; exact hn, fun j w e hw => ?_⟩
  by_cases hj : j = i
  · subst hj
    rw [xa_set_eq (by omega)] at e
    cases e
    exact h.2.2 _ List.mem_cons_self
  · obtain ⟨e1, e2⟩ := xa_set_ne hj e hw
    refine h.2.2 (j, xa_cv b0 ca v3 w) (List.mem_cons_of_mem _ (List.mem_filter.mpr ⟨xa_pairs_in e1 hw, ?_⟩))
    simp only [Bool.and_eq_true, Bool.not_eq_true', beq_eq_false_iff_ne, ne_eq, Bool.and_eq_false_iff]
    refine ⟨hj, ?_⟩
    by_cases hq : j + 1 = i
    · right
      intro hc
      rw [xa_cv_cat h3] at hc
      exact e2 ⟨hq, hc⟩
    · left; exact hq
theorem xa_lr_set2 {ls' : Array Slot} {i : Nat} {v : xa_V} (h3 : v3.category = 1) (hn : ls.length = nL) (hi : i + 1 < nL) (hv : xa_cat v = 2)
    (h : lv_has ls' nL ((i, xa_cv b0 ca v3 v) :: (xa_pairs b0 ca v3 ls).filter (fun q => !(q.1 == i) && (!(q.1 == i + 1) && !(q.1 + 1 == i && q.2.category == 2))))) : xa_lr b0 ca v3 nL ((xa_set ls i v).set (i + 1) (xC 1)) ls' := by
  refine ⟨h.1, h.2.1, by rw [List.length_set, xa_set_len]; exact hn, fun j w e hw => ?_⟩
  by_cases hj1 : j = i + 1
  · subst hj1
    rw [List.getElem?_set_self (by rw [xa_set_len]; omega)] at e
    cases e
    exact absurd rfl hw
  · rw [List.getElem?_set_ne (by omega)] at e
    by_cases hj : j = i
    · subst hj
      rw [xa_set_eq (by omega)] at e
      cases e
      exact h.2.2 _ List.mem_cons_self
    · obtain ⟨e1, e2⟩ := xa_set_ne hj e hw
      refine h.2.2 (j, xa_cv b0 ca v3 w) (List.mem_cons_of_mem _ (List.mem_filter.mpr ⟨xa_pairs_in e1 hw, ?_⟩))
      simp only [Bool.and_eq_true, Bool.not_eq_true', beq_eq_false_iff_ne, ne_eq, Bool.and_eq_false_iff]
      refine ⟨hj, hj1, ?_⟩
      by_cases hq : j + 1 = i
      · right
        intro hc
        rw [xa_cv_cat h3] at hc
        exact e2 ⟨hq, hc⟩
      · left; exact hq
/-- a method's places at its start -/
theorem xa_sl_len (h3 : v3.category = 1) (av : List xa_V) : (lg_sl (av.map (xa_cv b0 ca v3))).length = (xa_args av).length := by
  induction av with
  | nil => rfl
  | cons v vs ih =>
    have e1 : lg_sl ((v :: vs).map (xa_cv b0 ca v3)) = (if (xa_cv b0 ca v3 v).category = 2 then [.val (xa_cv b0 ca v3 v), .second] else [.val (xa_cv b0 ca v3 v)]) ++ lg_sl (vs.map (xa_cv b0 ca v3)) := by simp [lg_sl]
    have e2 : xa_args (v :: vs) = (if xa_cat v = 2 then [v, xC 1] else [v]) ++ xa_args vs := by simp [xa_args]
    rw [e1, e2, List.length_append, List.length_append, ih, xa_cv_cat h3]
    split <;> rfl
theorem xa_args_in (h3 : v3.category = 1) : ∀ (av : List xa_V) (i j : Nat) (v : xa_V), (xa_args av)[j]? = some v → v ≠ xC 1 → (i + j, xa_cv b0 ca v3 v) ∈ lv_args i (av.map (xa_cv b0 ca v3))
  | [], i, j, v, e, hv => by simp [xa_args] at e
  | a :: av, i, j, v, e, hv => by
    have e2 : xa_args (a :: av) = (if xa_cat a = 2 then [a, xC 1] else [a]) ++ xa_args av := by simp [xa_args]
    rw [e2] at e
    rw [List.map_cons, lv_args]
    by_cases ha : xa_cat a = 2
    · rw [if_pos ha] at e
      rw [if_pos (by rw [xa_cv_cat h3]; exact ha)]
      match j, e with
      | 0, e => simp at e; subst e; exact List.mem_cons_self
      | 1, e => simp at e; exact absurd e.symm hv
      | j + 2, e =>
        have e3 : (xa_args av)[j]? = some v := by simpa using e
        have := xa_args_in h3 av (i + 2) j v e3 hv
        rw [show i + (j + 2) = i + 2 + j by omega]
        exact List.mem_cons_of_mem _ this
    · rw [if_neg ha] at e
      rw [if_neg (by rw [xa_cv_cat h3]; exact ha)]
      match j, e with
      | 0, e => simp at e; subst e; exact List.mem_cons_self
      | j + 1, e =>
        have e3 : (xa_args av)[j]? = some v := by simpa using e
        have := xa_args_in h3 av (i + 1) j v e3 hv
        rw [show i + (j + 1) = i + 1 + j by omega]
        exact List.mem_cons_of_mem _ this
theorem xa_lr_entry {av : List xa_V} (h3 : v3.category = 1) (hl : (xa_args av).length ≤ nL) :
    xa_lr b0 ca v3 nL (xa_loc nL av) ((lg_sl (av.map (xa_cv b0 ca v3)) ++ List.replicate (nL - (lg_sl (av.map (xa_cv b0 ca v3))).length) Slot.unset).toArray) := by
  have h := lv_entry (av.map (xa_cv b0 ca v3)) (n := nL) (by rw [xa_sl_len h3]; exact hl)
  refine ⟨h.1, h.2.1, ?_, fun j v e hv => ?_⟩
  · unfold xa_loc
    rw [List.length_append, List.length_replicate]
    omega
  · unfold xa_loc at e
    by_cases hj : j < (xa_args av).length
    · rw [List.getElem?_append_left hj] at e
      have := xa_args_in (b0 := b0) (ca := ca) (v3 := v3) h3 av 0 j v e hv
      rw [Nat.zero_add] at this
      exact h.2.2 _ this
    · rw [List.getElem?_append_right (by omega)] at e
      have := List.eq_of_mem_replicate (List.mem_of_getElem? e)
      exact absurd this hv
end XL
end
section
/-! WHAT A METHOD MAY ASK OF THE LAUNCH: the classes and their fields, the tables' words, the constants -/
def xb_F0 : u_T := fun k => match k with
  | 0 => ("InkHours$Copies", "copyEnds", "[I", true)
  | 1 => ("InkHours$Copies", "steps", "[I", true)
  | 2 => ("InkHours$Copies", "leftAsWritten", "[I", true)
  | 3 => ("InkHours$Copies", "leftIfCopied", "[I", true)
  | _ => ("InkHours$Copies", "size", "I", false)
def xb_t0 : Nat → FieldType := fun k => match k with
  | 0 => .array .int
  | 1 => .array .int
  | 2 => .array .int
  | 3 => .array .int
  | _ => .int
def xb_F1 : u_T := fun k => match k with
  | 0 => ("InkHours$Course", "paper", "LInkHours$Paper;", true)
  | 1 => ("InkHours$Course", "lasts", "[I", true)
  | 2 => ("InkHours$Course", "ends", "[I", true)
  | _ => ("InkHours$Course", "sentence", "LInkHours$Sentence;", true)
def xb_t1 : Nat → FieldType := fun k => match k with
  | 0 => .object "InkHours$Paper"
  | 1 => .array .int
  | 2 => .array .int
  | _ => .object "InkHours$Sentence"
def xb_F2 : u_T := fun k => match k with
  | 0 => ("InkHours$Paper", "kinds", "[I", true)
  | 1 => ("InkHours$Paper", "letters", "[I", true)
  | 2 => ("InkHours$Paper", "inks", "[I", true)
  | 3 => ("InkHours$Paper", "ats", "[I", true)
  | 4 => ("InkHours$Paper", "size", "I", false)
  | _ => ("InkHours$Paper", "lit", "Z", false)
def xb_t2 : Nat → FieldType := fun k => match k with
  | 0 => .array .int
  | 1 => .array .int
  | 2 => .array .int
  | 3 => .array .int
  | 4 => .int
  | _ => .boolean
def xb_F3 : u_T := fun k => match k with
  | 0 => ("InkHours$Sentence", "ored", "I", false)
  | 1 => ("InkHours$Sentence", "anded", "I", false)
  | 2 => ("InkHours$Sentence", "turned", "Z", false)
  | 3 => ("InkHours$Sentence", "wantsLetter", "Z", false)
  | _ => ("InkHours$Sentence", "broken", "Z", false)
def xb_t3 : Nat → FieldType := fun k => match k with
  | 0 => .int
  | 1 => .int
  | 2 => .boolean
  | 3 => .boolean
  | _ => .boolean
def xb_F4 : u_T := fun k => match k with
  | 0 => ("InkHours$Sheet", "numbers", "[I", true)
  | 1 => ("InkHours$Sheet", "bits", "I", false)
  | _ => ("InkHours$Sheet", "size", "I", false)
def xb_t4 : Nat → FieldType := fun k => match k with
  | 0 => .array .int
  | 1 => .int
  | _ => .int
def xb_F5 : u_T := fun k => match k with
  | 0 => ("InkHours$Tape", "bytes", "[I", true)
  | 1 => ("InkHours$Tape", "end", "I", false)
  | 2 => ("InkHours$Tape", "size", "I", false)
  | 3 => ("InkHours$Tape", "start", "I", false)
  | 4 => ("InkHours$Tape", "token", "I", false)
  | _ => ("InkHours$Tape", "number", "I", false)
def xb_t5 : Nat → FieldType := fun k => match k with
  | 0 => .array .int
  | 1 => .int
  | 2 => .int
  | 3 => .int
  | 4 => .int
  | _ => .int
def xb_F6 : u_T := fun k => match k with
  | 0 => ("InkHours$Text", "tape", "LInkHours$Tape;", true)
  | 1 => ("InkHours$Text", "world", "LInkHours$World;", true)
  | _ => ("InkHours$Text", "number", "I", false)
def xb_t6 : Nat → FieldType := fun k => match k with
  | 0 => .object "InkHours$Tape"
  | 1 => .object "InkHours$World"
  | _ => .int
def xb_F7 : u_T := fun k => match k with
  | 0 => ("InkHours$World", "lasts", "[I", true)
  | 1 => ("InkHours$World", "prices", "[I", true)
  | 2 => ("InkHours$World", "papers", "[LInkHours$Paper;", true)
  | 3 => ("InkHours$World", "spotPapers", "[I", true)
  | 4 => ("InkHours$World", "spotMarks", "[I", true)
  | 5 => ("InkHours$World", "now", "I", false)
  | _ => ("InkHours$World", "z", "I", false)
def xb_t7 : Nat → FieldType := fun k => match k with
  | 0 => .array .int
  | 1 => .array .int
  | 2 => .array (.object "InkHours$Paper")
  | 3 => .array .int
  | 4 => .array .int
  | 5 => .int
  | _ => .int
def xb_F8 : u_T := fun k => match k with
  | 0 => ("InkHours", "world", "LInkHours$World;", true)
  | 1 => ("InkHours", "kept", "LInkHours$World;", true)
  | 2 => ("InkHours", "before", "LInkHours$World;", true)
  | 3 => ("InkHours", "courses", "[LInkHours$Course;", true)
  | 4 => ("InkHours", "tape", "LInkHours$Tape;", true)
  | 5 => ("InkHours", "reader", "LInkHours$Text;", true)
  | 6 => ("InkHours", "sheets", "[LInkHours$Sheet;", true)
  | 7 => ("InkHours", "findings", "[I", true)
  | 8 => ("InkHours", "forgeries", "[I", true)
  | 9 => ("InkHours", "copies", "LInkHours$Copies;", true)
  | _ => ("InkHours", "isKept", "Z", false)
def xb_t8 : Nat → FieldType := fun k => match k with
  | 0 => .object "InkHours$World"
  | 1 => .object "InkHours$World"
  | 2 => .object "InkHours$World"
  | 3 => .array (.object "InkHours$Course")
  | 4 => .object "InkHours$Tape"
  | 5 => .object "InkHours$Text"
  | 6 => .array (.object "InkHours$Sheet")
  | 7 => .array .int
  | 8 => .array .int
  | 9 => .object "InkHours$Copies"
  | _ => .boolean
def xb_F9 : u_T := fun k => match k with
  | 0 => ("InkHoursModel", "s", "[I", true)
  | 1 => ("InkHoursModel", "keptS", "[I", true)
  | 2 => ("InkHoursModel", "other", "[I", true)
  | 3 => ("InkHoursModel", "statuses", "[I", true)
  | 4 => ("InkHoursModel", "isKept", "Z", false)
  | 5 => ("InkHoursModel", "isWanted", "Z", false)
  | 6 => ("InkHoursModel", "isTurned", "Z", false)
  | 7 => ("InkHoursModel", "isSense", "Z", false)
  | 8 => ("InkHoursModel", "joinedUp", "I", false)
  | 9 => ("InkHoursModel", "ored", "I", false)
  | 10 => ("InkHoursModel", "meanings", "[I", true)
  | 11 => ("InkHoursModel", "tape", "[I", true)
  | 12 => ("InkHoursModel", "taped", "I", false)
  | 13 => ("InkHoursModel", "from", "I", false)
  | 14 => ("InkHoursModel", "to", "I", false)
  | 15 => ("InkHoursModel", "value", "I", false)
  | 16 => ("InkHoursModel", "isWrong", "Z", false)
  | 17 => ("InkHoursModel", "bitsOf", "[I", true)
  | 18 => ("InkHoursModel", "sizeOf", "[I", true)
  | 19 => ("InkHoursModel", "number", "[I", true)
  | _ => ("InkHoursModel", "moved", "[I", true)
def xb_t9 : Nat → FieldType := fun k => match k with
  | 0 => .array .int
  | 1 => .array .int
  | 2 => .array .int
  | 3 => .array .int
  | 4 => .boolean
  | 5 => .boolean
  | 6 => .boolean
  | 7 => .boolean
  | 8 => .int
  | 9 => .int
  | 10 => .array .int
  | 11 => .array .int
  | 12 => .int
  | 13 => .int
  | 14 => .int
  | 15 => .int
  | 16 => .boolean
  | 17 => .array .int
  | 18 => .array .int
  | 19 => .array .int
  | _ => .array .int
def xb_cl : List vw_C := [("InkHours$Copies", xb_F0, 5), ("InkHours$Course", xb_F1, 4), ("InkHours$Paper", xb_F2, 6), ("InkHours$Sentence", xb_F3, 5), ("InkHours$Sheet", xb_F4, 3), ("InkHours$Tape", xb_F5, 6), ("InkHours$Text", xb_F6, 3), ("InkHours$World", xb_F7, 7), ("InkHours", xb_F8, 11), ("InkHoursModel", xb_F9, 21)]
def xa_tb : List Jvm.Cond := lw_tbl.filter goodWord
def xa_isN (w : Jvm.Cond) : Bool := match w with
  | .fieldLinkNest .. => true
  | .methodLinkNest .. => true
  | _ => false
def xa_nw : List Jvm.Cond := lw_tbl.filter xa_isN
def xa_ao : List String := ["InkHours$Course", "InkHours$Paper", "InkHours$Sheet"]
/-- the texts: in which class, where, which one, its number -/
def xa_sr : List (String × (Nat × (String × Nat))) := [("InkHours$Text", 41, "ink", 20), ("InkHours$Text", 50, "paper", 21), ("InkHours$Text", 55, "on", 22), ("InkHours$Text", 64, "lasts", 23), ("InkHours$Text", 71, "price", 24), ("InkHours$Text", 80, "light", 25), ("InkHours$Text", 88, "dark", 26), ("InkHours$Text", 104, "not", 27), ("InkHours$Text", 109, "and", 28), ("InkHours$Text", 111, "or", 29), ("InkHours$Text", 113, "bold", 30), ("InkHours$Text", 115, "faint", 31), ("InkHours$Text", 117, "blot", 32)]
/-- static fields and what they hold -/
def xa_st : List (String × (String × (String × xa_V))) := [("InkHours", "KIND_ABOVE", "[I", xC 4), ("InkHours", "TRUTHS_OF_LETTER", "[I", xC 5), ("InkHours", "MORE_KINDS", "[I", xC 6), ("InkHours", "MORE_LETTERS", "[I", xC 7), ("java/lang/String", "COMPACT_STRINGS", "Z", xI 1), ("jdk/internal/util/Preconditions", "SIOOBE_FORMATTER", "Ljava/util/function/BiFunction;", xC 3)]
/-- what stays as it was, for all methods -/
def xa_F (b0 : Nat) (ca : Nat → Nat) (v3 : Value) (X : List Int) (D : va_G) (cI : ClassId) (cQ : Nat → ClassId) (U : State) (H : Heap) : Prop :=
  va_K D xb_cl [(cI, .int), (cQ 1, .object "InkHours$Course"), (cQ 2, .object "InkHours$Paper"), (cQ 4, .object "InkHours$Sheet")] U ∧
  (∀ w ∈ xa_nw, va_Nw w U) ∧ (∀ C ∈ xa_ao, va_AO C U) ∧ (∀ q ∈ xa_sr, vk_R q.1 q.2.1 q.2.2.1 (ca q.2.2.2) U) ∧
  (∀ q ∈ xa_st, va_Z q.1 q.2.1 q.2.2.1 (xa_cv b0 ca v3 q.2.2.2) (fun a : Nat => b0 ≤ a) U H) ∧
  (∀ (c : Nat) (xs : List Int), xa_ca X c = some xs → va_T .int (ca c) xs.length (fun j => .int (Int32.ofInt (xs.getD j 0))) (fun a : Nat => b0 ≤ a) U H) ∧
  (∀ (c : Nat) (xs : List Int), xa_cb c = some xs → va_T .byte (ca c) xs.length (fun j => .int (Int32.ofInt (xs.getD j 0))) (fun a : Nat => b0 ≤ a) U H) ∧
  (∀ c : Nat, 20 ≤ c → c < 33 → va_O "java/lang/String" (ca c) (fun a : Nat => b0 ≤ a) U H ∧ va_OF "java/lang/String" "coder" "B" (.int 0) (ca c) (fun a : Nat => b0 ≤ a) U H ∧ va_OF "java/lang/String" "value" "[B" (.ref (ca (c + 20))) (ca c) (fun a : Nat => b0 ≤ a) U H)
theorem xa_Nw_warm {w : Jvm.Cond} (hw : xa_isN w = true) {s U : State} (hW : s.WarmedH U.vm) (h : va_Nw w s) : va_Nw w U := by
  cases w <;> first | exact va_Nw.warmF hW h | exact va_Nw.warmM hW h | (simp [xa_isN] at hw)
theorem xa_Nw_same {w : Jvm.Cond} (hw : xa_isN w = true) {s U : State} (hW : s.vm = U.vm) (h : va_Nw w s) : va_Nw w U := by
  cases w <;> first | exact va_Nw.same rfl hW h | (simp [xa_isN] at hw)
section XF
variable {b0 : Nat} {ca : Nat → Nat} {v3 : Value} {X : List Int} {D : va_G} {cI : ClassId} {cQ : Nat → ClassId}
theorem xa_F_warm {s U : State} {H H1 : Heap} (hW : s.WarmedH U.vm) (hq : ∀ a : Nat, a < H.size → ¬ b0 ≤ a → H1[a]? = H[a]?) (h : xa_F b0 ca v3 X D cI cQ s H) : xa_F b0 ca v3 X D cI cQ U H1 := by
  obtain ⟨h1, h2, h3, h4, h5, h6, h7, h8⟩ := h
  have hvm := hW.alike
  refine ⟨va_K.moved hvm h1, fun w hw => xa_Nw_warm (List.mem_filter.mp hw).2 hW (h2 w hw), fun C hC => va_AO.moved hvm (h3 C hC), fun q hq => vk_R.warm hW (h4 q hq), fun q hz => (va_Z.moved hvm (h5 q hz)).kept hq, fun c xs e => (va_T.moved hvm (h6 c xs e)).kept hq, fun c xs e => (va_T.moved hvm (h7 c xs e)).kept hq, fun c a b => ?_⟩
  obtain ⟨g1, g2, g3⟩ := h8 c a b
  exact ⟨(va_O.moved hvm g1).kept hq, (va_OF.moved hvm g2).kept hq, (va_OF.moved hvm g3).kept hq⟩
theorem xa_F_same {s U : State} {H : Heap} (hW : s.vm = U.vm) (h : xa_F b0 ca v3 X D cI cQ s H) : xa_F b0 ca v3 X D cI cQ U H := by
  obtain ⟨h1, h2, h3, h4, h5, h6, h7, h8⟩ := h
  have hvm : s.vm.Alike U.vm := by rw [hW]; exact Vm.Alike.refl _
  refine ⟨va_K.moved hvm h1, fun w hw => xa_Nw_same (List.mem_filter.mp hw).2 hW (h2 w hw), fun C hC => va_AO.moved hvm (h3 C hC), fun q hq => vk_R.same hW.symm (h4 q hq), fun q hz => va_Z.moved hvm (h5 q hz), fun c xs e => va_T.moved hvm (h6 c xs e), fun c xs e => va_T.moved hvm (h7 c xs e), fun c a b => ?_⟩
  obtain ⟨g1, g2, g3⟩ := h8 c a b
  exact ⟨va_O.moved hvm g1, va_OF.moved hvm g2, va_OF.moved hvm g3⟩
end XF
/-- of a method: its class, name, code, answer, and the frames and words below it -/
abbrev xa_M : Type := Nat → String × (MethodName × (ByteArray × (Option FieldType × (Nat × Nat))))
def xa_rm (G : xa_G) (S : xa_M) (mi : Nat) : Jvm.Room := { frames := (S mi).2.2.2.2.1, cells := (G.2 mi).2.1, slots := (G.2 mi).2.2, locals := (S mi).2.2.2.2.2 }
def xa_code (G : xa_G) (S : xa_M) (mi : Nat) : Jvm.Cond := .code (S mi).2.1 (S mi).2.2.1 (G.2 mi).1 (S mi).2.2.2.1
def xa_ws (G : xa_G) (S : xa_M) (mi : Nat) : List Jvm.Cond := xa_code G S mi :: xa_tb
def xa_in (p : Nat) (w : Jvm.Cond) : Bool := (match lw_tbl[p]? with
  | some w' => decide (w' = w)
  | none => false) && goodWord w
def xa_inN (p : Nat) (w : Jvm.Cond) : Bool := (match lw_tbl[p]? with
  | some w' => decide (w' = w)
  | none => false) && xa_isN w
theorem xa_in_tb {p : Nat} {w : Jvm.Cond} (h : xa_in p w = true) : w ∈ xa_tb := by
  unfold xa_in at h
  rw [Bool.and_eq_true] at h
  obtain ⟨h1, h2⟩ := h
  refine List.mem_filter.mpr ⟨?_, h2⟩
  cases e : lw_tbl[p]? with
  | none => rw [e] at h1; simp at h1
  | some w' =>
    rw [e] at h1
    simp at h1
    rw [← h1]
    exact List.mem_of_getElem? e
theorem xa_in_nw {p : Nat} {w : Jvm.Cond} (h : xa_inN p w = true) : w ∈ xa_nw := by
  unfold xa_inN at h
  rw [Bool.and_eq_true] at h
  obtain ⟨h1, h2⟩ := h
  refine List.mem_filter.mpr ⟨?_, h2⟩
  cases e : lw_tbl[p]? with
  | none => rw [e] at h1; simp at h1
  | some w' =>
    rw [e] at h1
    simp at h1
    rw [← h1]
    exact List.mem_of_getElem? e
/-- place i of a method stands at the byte b -/
def xa_at (G : xa_G) (mi i b : Nat) : Bool := match (G.1 mi)[i]? with
  | none => true
  | some e => e.1 == b
def xa_jmp (G : xa_G) (mi : Nat) (pc : Nat) (t off : Int) : Bool := match (G.1 mi)[t.toNat]? with
  | none => false
  | some e => decide ((pc : Int) + off = (e.1 : Int))
def xa_len (i : Jvm.ClassFile.Instr) : Nat := match i with
  | .aload_n _ | .iload_n _ | .lload_n _ | .astore_n _ | .istore_n _ | .lstore_n _ | .iconst _ | .lconst _ | .iadd | .isub | .imul | .iand | .ior | .ixor | .ishl | .ishr | .iushr | .idiv | .irem | .ladd | .lmul | .i2b | .i2s | .i2c | .i2l | .l2i | .lcmp | .dup | .dup2 | .pop | .iaload | .baload | .iastore | .aaload | .aastore | .arraylength | .ireturn | .lreturn | .areturn | .return_ | .athrow => 1
  | .aload _ | .iload _ | .lload _ | .astore _ | .istore _ | .lstore _ | .bipush _ | .ldc _ | .newarray _ => 2
  | .sipush _ | .ldc_w _ | .ldc2_w _ | .iinc _ _ | .getfield _ | .putfield _ | .getstatic _ | .new _ | .anewarray _ | .invokestatic _ | .invokevirtual _ | .invokespecial _ | .if_icmp _ _ | .ifCond _ _ | .goto _ => 3
  | _ => 0
def xa_through (i : Jvm.ClassFile.Instr) : Bool := match i with
  | .goto _ | .tableswitch .. | .ireturn | .lreturn | .areturn | .return_ | .athrow => false
  | _ => true
def xa_refD (d : String) : Bool := match parseFieldDescriptor d with
  | some (.object _) => true
  | some (.array _) => true
  | _ => false
/-- a call of method y of n arguments, out of method mi: room, code, number of arguments -/
def xa_callOK (G : xa_G) (S : xa_M) (mi y n q t : Nat) : Bool :=
  xa_in q (.initialized (S y).2.1.cls) && (xa_in t (xa_code G S y) && (decide ((S y).2.1.cls ≠ "java/lang/invoke/MethodHandle" ∧ (S y).2.1.cls ≠ "java/lang/invoke/VarHandle") && (decide ((parseMethodDescriptor (S y).2.1.desc).map (fun d => d.parameters.length) = some n) && (decide ((S y).2.2.2.2.1 + 1 ≤ (S mi).2.2.2.2.1) && decide (8 + ((G.2 y).1 + 11) + (S y).2.2.2.2.2 ≤ (S mi).2.2.2.2.2)))))
def xa_stx (v : xa_V) : List Int := match v with
  | .inl z => [1, z]
  | .inr (.inr (.inr c)) => [0, (c : Int)]
  | _ => []
def xa_extra (G : xa_G) (S : xa_M) (mi : Nat) (en : xa_E) (pl : List Nat) : Bool := match en.2.1, en.2.2.2, pl with
  | .ldc k, [0, z], [p] => xa_in p (.constant (S mi).1 k (Int32.ofInt z))
  | .ldc k, [1, c], [j] => (match xa_sr[j]? with
    | some q => decide (q.1 = (S mi).1 ∧ q.2.1 = k ∧ (q.2.2.2 : Int) = c)
    | none => false)
  | .ldc_w k, [0, z], [p] => xa_in p (.constant (S mi).1 k (Int32.ofInt z))
  | .ldc2_w k, [z], [p] => xa_in p (.constantLong (S mi).1 k (Int64.ofInt z))
  | .goto off, [t], [] => xa_jmp G mi en.1 t off
  | .if_icmp _ off, [t], [] => xa_jmp G mi en.1 t off
  | .ifCond _ off, [t], [] => xa_jmp G mi en.1 t off
  | .tableswitch d _ _ offs, dt :: ts, [] => xa_jmp G mi en.1 dt d && (List.range ts.length).all (fun j => match ts[j]?, offs[j]? with
    | some t, some o => xa_jmp G mi en.1 t o
    | _, _ => false)
  | .getfield k, [0, ci, f], [p] => (match xb_cl[ci.toNat]? with
    | some q => decide (f.toNat < q.2.2) && (decide ((q.2.1 f.toNat).1 = q.1) && xa_in p (.fieldLink (S mi).1 k q.1 (q.2.1 f.toNat).2.1 (q.2.1 f.toNat).2.2.1))
    | none => false)
  | .getfield k, [1, f], [p] => (decide (f = 0) && xa_in p (.fieldLink (S mi).1 k "java/lang/String" "coder" "B")) || (decide (f = 1) && xa_in p (.fieldLink (S mi).1 k "java/lang/String" "value" "[B"))
  | .putfield k, [k0, ci, f, t], [p] => (match xb_cl[ci.toNat]? with
    | some q => decide (f.toNat < q.2.2) && (decide ((q.2.1 f.toNat).1 = q.1) && (xa_in p (.fieldLink (S mi).1 k q.1 (q.2.1 f.toNat).2.1 (q.2.1 f.toNat).2.2.1) && (((decide (k0 = 0) && !(q.2.1 f.toNat).2.2.2) || (decide (k0 = 1) && ((q.2.1 f.toNat).2.2.2 && decide ((S mi).2.1.name = "<init>" ∧ q.1 = (S mi).1)))) && ((decide (t = 0) && decide ((q.2.1 f.toNat).2.2.1 = "I")) || ((decide (t = 1) && decide ((q.2.1 f.toNat).2.2.1 = "Z")) || (decide (t = 2) && xa_refD (q.2.1 f.toNat).2.2.1))))))
    | none => false)
  | .getstatic k, x, [p, j] => (match xa_st[j]? with
    | some q => decide (x = xa_stx q.2.2.2) && xa_in p (.fieldLink (S mi).1 k q.1 q.2.1 q.2.2.1)
    | none => false)
  | .getstatic k, x, [p, j, _] => (match xa_st[j]? with
    | some q => decide (x = xa_stx q.2.2.2) && xa_inN p (.fieldLinkNest (S mi).1 k q.1 q.2.1 q.2.2.1 "InkHours")
    | none => false)
  | .new k, [ci], [p, q, r] => (match xb_cl[ci.toNat]? with
    | some c => xa_in p (.classLink (S mi).1 k c.1) && (xa_in q (.instantiable c.1 c.2.2) && xa_in r (.initialized c.1))
    | none => false)
  | .newarray ty, _, [p] => decide (ty = .int) && xa_in p (.arrayClass .int)
  | .anewarray k, [ci], [p] => (match xb_cl[ci.toNat]? with
    | some c => decide (ci = 1 ∨ ci = 2 ∨ ci = 4) && (decide (c.1 ∈ xa_ao) && xa_in p (.classLink (S mi).1 k c.1))
    | none => false)
  | .invokespecial k, [6], [p, q, r] => xa_in p (.methodLink (S mi).1 k Lib.objectInit) && (xa_in q (.instanceMethod Lib.objectInit) && (xa_in r (.code Lib.objectInit ⟨#[0xb1]⟩ 1 none) && (decide (1 ≤ (S mi).2.2.2.2.1) && decide (20 ≤ (S mi).2.2.2.2.2))))
  | .invokestatic k, [7], [p, q, r, t] => xa_in p (.methodLink (S mi).1 k Lib.Math.max.name) && (xa_in q (.static Lib.Math.max.name) && (xa_in r (.initialized "java/lang/Math") && (xa_in t (.code Lib.Math.max.name Lib.Math.max.code 2 (some .int)) && (decide (1 ≤ (S mi).2.2.2.2.1) && decide (21 ≤ (S mi).2.2.2.2.2)))))
  | .invokestatic k, [8], [p, q, r, t] => xa_in p (.methodLink (S mi).1 k Lib.Math.min.name) && (xa_in q (.static Lib.Math.min.name) && (xa_in r (.initialized "java/lang/Math") && (xa_in t (.code Lib.Math.min.name Lib.Math.min.code 2 (some .int)) && (decide (1 ≤ (S mi).2.2.2.2.1) && decide (21 ≤ (S mi).2.2.2.2.2)))))
  | .invokestatic k, [9], [p, q, r, t] => xa_in p (.methodLink (S mi).1 k arraycopyName) && (xa_in q (.native arraycopyName) && (xa_in r (.static arraycopyName) && (xa_in t (.initialized "java/lang/System") && (decide (1 ≤ (S mi).2.2.2.2.1) && decide (8 + (nativeFrameWords "java/lang/System" "arraycopy" 5 + 11) ≤ (S mi).2.2.2.2.2)))))
  | .invokestatic k, [0, y, n], [p, r, q, t] => xa_in p (.methodLink (S mi).1 k (S y.toNat).2.1) && (xa_in r (.static (S y.toNat).2.1) && xa_callOK G S mi y.toNat n.toNat q t)
  | .invokestatic k, [3, y, n], [p, r, q, t] => xa_inN p (.methodLinkNest (S mi).1 k (S y.toNat).2.1 "InkHours") && (xa_in r (.static (S y.toNat).2.1) && xa_callOK G S mi y.toNat n.toNat q t)
  | .invokevirtual k, [1, y, n, ci], [p, r, u, q, t] => (match xb_cl[ci.toNat]? with
    | some c => decide ((S y.toNat).2.1.cls = c.1) && (xa_in p (.methodLink (S mi).1 k (S y.toNat).2.1) && (xa_in r (.instanceMethod (S y.toNat).2.1) && (xa_in u (.selects c.1 (S y.toNat).2.1 (S y.toNat).2.1) && xa_callOK G S mi y.toNat n.toNat q t)))
    | none => false)
  | .invokevirtual k, [10, y, n, _], [p, r, u, q, t] => decide ((S y.toNat).2.1.cls = "java/lang/String") && (xa_in p (.methodLink (S mi).1 k (S y.toNat).2.1) && (xa_in r (.instanceMethod (S y.toNat).2.1) && (xa_in u (.selects "java/lang/String" (S y.toNat).2.1 (S y.toNat).2.1) && xa_callOK G S mi y.toNat n.toNat q t)))
  | .invokespecial k, [2, y, n, _], [p, r, q, t] => decide ((S y.toNat).2.1.name = "<init>" ∧ (S y.toNat).2.2.2.1 = none) && (xa_in p (.methodLink (S mi).1 k (S y.toNat).2.1) && (xa_in r (.instanceMethod (S y.toNat).2.1) && xa_callOK G S mi y.toNat n.toNat q t))
  | .invokespecial k, [5, y, n, _], [p, r, q, t] => decide ((S y.toNat).2.1.name = "<init>" ∧ (S y.toNat).2.2.2.1 = none) && (xa_inN p (.methodLinkNest (S mi).1 k (S y.toNat).2.1 "InkHours") && (xa_in r (.instanceMethod (S y.toNat).2.1) && xa_callOK G S mi y.toNat n.toNat q t))
  | .ireturn, [t], [] => (decide (t = 0) && decide ((S mi).2.2.2.1 = some .int)) || ((decide (t = 1) && decide ((S mi).2.2.2.1 = some .boolean)) || ((decide (t = 3) && decide ((S mi).2.2.2.1 = some .byte)) || (decide (t = 4) && decide ((S mi).2.2.2.1 = some .char))))
  | .lreturn, [], [] => decide ((S mi).2.2.2.1 = some .long)
  | .areturn, [], [] => (match (S mi).2.2.2.1 with
    | some (.object _) => true
    | _ => false)
  | .return_, [], [] => decide ((S mi).2.2.2.1 = none)
  | .invokespecial _, [], _ => true
  | .invokestatic _, [], _ => true
  | .invokevirtual _, [], _ => true
  | .ldc _, _, _ => false
  | .ldc_w _, _, _ => false
  | .ldc2_w _, _, _ => false
  | .goto _, _, _ => false
  | .if_icmp _ _, _, _ => false
  | .ifCond _ _, _, _ => false
  | .tableswitch _ _ _ _, _, _ => false
  | .getfield _, _, _ => false
  | .putfield _, _, _ => false
  | .getstatic _, _, _ => false
  | .new _, _, _ => false
  | .newarray _, _, _ => false
  | .anewarray _, _, _ => false
  | .invokespecial _, _, _ => false
  | .invokestatic _, _, _ => false
  | .invokevirtual _, _, _ => false
  | .ireturn, _, _ => false
  | .lreturn, _, _ => false
  | .areturn, _, _ => false
  | .return_, _, _ => false
  | _, _, _ => true
def xa_dec (b : ByteArray) (en : xa_E) : Bool := match decode b en.1 with
  | .ok q => decide (q = (en.2.1, en.2.2.1))
  | .error _ => false
def xa_lenOK (en : xa_E) : Bool := match en.2.1 with
  | .tableswitch .. => true
  | i => en.2.2.1 == xa_len i
def xa_ok (G : xa_G) (S : xa_M) (mi i : Nat) (en : xa_E) (pl : List Nat) : Bool :=
  xa_dec (S mi).2.2.1 en && (xa_lenOK en && ((!xa_through en.2.1 || xa_at G mi (i + 1) (en.1 + en.2.2.1)) && xa_extra G S mi en pl))
/-- all of a method's instructions -/
def xa_allOK (G : xa_G) (S : xa_M) (mi : Nat) : Prop := ∀ (i : Nat) (en : xa_E), (G.1 mi)[i]? = some en → ∃ pl, xa_ok G S mi i en pl = true
theorem xa_dec_of {b : ByteArray} {en : xa_E} (h : xa_dec b en = true) : decode b en.1 = .ok (en.2.1, en.2.2.1) := by
  unfold xa_dec at h
  split at h
  · next q e => rw [e, of_decide_eq_true h]
  · simp at h
/-- the classes, as methods need them -/
def xa_ClOK : Prop := ∀ (ci : Nat) (q : vw_C), xb_cl[ci]? = some q → (∀ w ∈ u_ws q.1 q.2.1 q.2.2, w ∈ xa_tb) ∧ (∀ a, a < q.2.2 → ∀ b, b < q.2.2 → a ≠ b → (q.2.1 a).2.1 ≠ (q.2.1 b).2.1) ∧ (xa_nf ci).length = q.2.2 ∧
  ∃ ty : Nat → FieldType, (∀ k, k < q.2.2 → parseFieldDescriptor (q.2.1 k).2.2.1 = some (ty k)) ∧ ∀ (b0 : Nat) (ca : Nat → Nat) (v3 : Value) (j : Nat), j < q.2.2 → defaultValue (ty j) = vp_V ((xa_nf ci).map (xa_cv b0 ca v3)) j
end
section
/-! ONE INSTRUCTION: the real machine follows the small one -/
def xa_Cx (G : xa_G) (S : xa_M) (mi : Nat) (X : List Int) (b0 : Nat) (ca : Nat → Nat) (v3 : Value) (D : va_G) (cI : ClassId) (cQ : Nat → ClassId) (p : Program) (R : Jvm.Room) (s : State) (m : MethodId) (args : Array Value) (meth : Method) (c : Code) : Prop :=
  p.tables.exec = Jvm.exec ∧ c.code = (S mi).2.2.1 ∧ c.maxLocals = (G.2 mi).1 ∧ s.vm.findClass (S mi).1 = some m.cls ∧ (∀ w ∈ xa_tb, w.before args s = true) ∧ xa_F b0 ca v3 X D cI cQ s s.heap ∧ v3.category = 1 ∧ b0 ≤ s.heap.size ∧ meth.name = (S mi).2.1.name ∧ (S mi).2.2.2.2.1 ≤ R.frames ∧ (S mi).2.2.2.2.2 ≤ R.locals
def xa_WW (G : xa_G) (mi : Nat) (b0 : Nat) (ca : Nat → Nat) (v3 : Value) (D : va_G) (cI : ClassId) (cQ : Nat → ClassId) (p : Program) (l : Launch) (e : Env) (R : Jvm.Room) (s : State) (m : MethodId) (args : Array Value) (below : List Frame) (meth : Method) (c : Code) (Q : State → Prop) (h' : xa_H) (i : Nat) (ls st : List xa_V) (h : xa_H) : Prop :=
  ∀ (pc : Nat) (H : Heap) (locs : List Loc) (cells slots : Nat) (lr : Array Slot), xa_at G mi i pc = true → xa_lr b0 ca v3 (G.2 mi).1 ls lr → xa_Rel b0 ca v3 cI cQ D xb_cl h H → va_S (fun a : Nat => b0 ≤ a) s.heap H locs → cells + (h'.length - h.length) ≤ R.cells → slots + (xa_sl h' - xa_sl h) ≤ R.slots →
    W p l e R s m args below meth c H locs cells slots Q (F0 m pc lr (st.map (xa_cv b0 ca v3)))
theorem xa_at_of {G : xa_G} {mi i pc : Nat} {en : xa_E} (hf : (G.1 mi)[i]? = some en) (h : xa_at G mi i pc = true) : en.1 = pc := by
  unfold xa_at at h
  rw [hf] at h
  simpa using h
theorem xa_jmp_of {G : xa_G} {mi pc : Nat} {t off : Int} (h : xa_jmp G mi pc t off = true) : ∃ b : Nat, (pc : Int) + off = (b : Int) ∧ xa_at G mi t.toNat b = true := by
  unfold xa_jmp at h
  split at h
  · simp at h
  · next en hf =>
    refine ⟨en.1, of_decide_eq_true h, ?_⟩
    unfold xa_at
    rw [hf]
    simp
theorem xa_sl_set {h : xa_H} {k : Nat} {a b : xa_K} (e : h[k]? = some a) (hl : b.2.2.length = a.2.2.length) : xa_sl (h.set k b) = xa_sl h := by
  unfold xa_sl
  rw [List.map_set]
  have : (h.map (fun c => c.2.2.length))[k]? = some b.2.2.length := by rw [List.getElem?_map, e, hl]; rfl
  obtain ⟨hk, e2⟩ := List.getElem?_eq_some_iff.mp this
  rw [← e2, List.set_getElem_self]
theorem xa_Rel_set {b0 : Nat} {ca : Nat → Nat} {v3 : Value} {cI : ClassId} {cQ : Nat → ClassId} {D : va_G} {h : xa_H} {k : Nat} {c : xa_K} {H H1 : Heap} (hR : xa_Rel b0 ca v3 cI cQ D xb_cl h H) (hP : va_P D xb_cl ((xa_W b0 ca v3 cI cQ h).set k (b0 + k, xa_ce b0 ca v3 cI cQ c)) H1) (hz : H1.size = H.size) : xa_Rel b0 ca v3 cI cQ D xb_cl (h.set k c) H1 :=
  ⟨by rw [hz, List.length_set]; exact hR.1, by rw [xa_W_set]; exact hP⟩
section XS
variable {p : Program} {l : Launch} {e : Env} {R : Jvm.Room} {s : State} {m : MethodId} {args : Array Value} {below : List Frame} {meth : Method} {c : Code} {Q : State → Prop}
variable {G : xa_G} {S : xa_M} {mi : Nat} {X : List Int} {b0 : Nat} {ca : Nat → Nat} {v3 : Value} {D : va_G} {cI : ClassId} {cQ : Nat → ClassId} {h' : xa_H}
theorem xa_s_iload (C : xa_Cx G S mi X b0 ca v3 D cI cQ p R s m args meth c) {en : xa_E} {i i1 : Nat} {ls ls1 st st1 : List xa_V} {h h1 : xa_H} {pl : List Nat} {k : Nat} (hins : en.2.1 = .iload k) (hf : (G.1 mi)[i]? = some en) (hok : xa_ok G S mi i en pl = true) (ho : xa_one1 X en i ls st h = some (.inl (i1, ls1, st1, h1))) (hm : h1.length ≤ h'.length ∧ xa_sl h1 ≤ xa_sl h') (kk : xa_WW G mi b0 ca v3 D cI cQ p l e R s m args below meth c Q h' i1 ls1 st1 h1) : xa_WW G mi b0 ca v3 D cI cQ p l e R s m args below meth c Q h' i ls st h := by
  obtain ⟨pb, ins, ln, x⟩ := en
  dsimp only at hins
  subst hins
  intro pc H locs cells slots lr hat hL hR hS hc hs
  obtain ⟨hx, hb, hml, hown, hts, hF, h3, hb0, hnm, hfr, hlo⟩ := C
  simp only [xa_ok, Bool.and_eq_true] at hok
  obtain ⟨k1, k2, k3, k4⟩ := hok
  have hpc : pb = pc := xa_at_of hf hat
  subst hpc
  have hdg := xa_dec_of k1
  have hln : ln = 2 := by simpa [xa_lenOK, xa_len] using k2
  subst hln
  have hnx : xa_at G mi (i + 1) (pb + 2) = true := by simpa [xa_through] using k3
  dsimp only [xa_one1] at ho
  dsimp only at hdg
  unfold xa_iload at ho
  split at ho
  · next z e1 =>
    cases ho
    exact lv_iload hx hb hdg (hL.2.2.2 _ _ e1 (by simp)) (kk _ H locs cells slots lr hnx hL hR hS hc hs)
  · cases ho
theorem xa_s_iload_n (C : xa_Cx G S mi X b0 ca v3 D cI cQ p R s m args meth c) {en : xa_E} {i i1 : Nat} {ls ls1 st st1 : List xa_V} {h h1 : xa_H} {pl : List Nat} {k : Fin 4} (hins : en.2.1 = .iload_n k) (hf : (G.1 mi)[i]? = some en) (hok : xa_ok G S mi i en pl = true) (ho : xa_one1 X en i ls st h = some (.inl (i1, ls1, st1, h1))) (hm : h1.length ≤ h'.length ∧ xa_sl h1 ≤ xa_sl h') (kk : xa_WW G mi b0 ca v3 D cI cQ p l e R s m args below meth c Q h' i1 ls1 st1 h1) : xa_WW G mi b0 ca v3 D cI cQ p l e R s m args below meth c Q h' i ls st h := by
  obtain ⟨pb, ins, ln, x⟩ := en
  dsimp only at hins
  subst hins
  intro pc H locs cells slots lr hat hL hR hS hc hs
  obtain ⟨hx, hb, hml, hown, hts, hF, h3, hb0, hnm, hfr, hlo⟩ := C
  simp only [xa_ok, Bool.and_eq_true] at hok
  obtain ⟨k1, k2, k3, k4⟩ := hok
  have hpc : pb = pc := xa_at_of hf hat
  subst hpc
  have hdg := xa_dec_of k1
  have hln : ln = 1 := by simpa [xa_lenOK, xa_len] using k2
  subst hln
  have hnx : xa_at G mi (i + 1) (pb + 1) = true := by simpa [xa_through] using k3
  dsimp only [xa_one1] at ho
  dsimp only at hdg
  unfold xa_iload at ho
  split at ho
  · next z e1 =>
    cases ho
    exact lv_iload_n hx hb hdg rfl (hL.2.2.2 _ _ e1 (by simp)) (kk _ H locs cells slots lr hnx hL hR hS hc hs)
  · cases ho
theorem xa_s_lload (C : xa_Cx G S mi X b0 ca v3 D cI cQ p R s m args meth c) {en : xa_E} {i i1 : Nat} {ls ls1 st st1 : List xa_V} {h h1 : xa_H} {pl : List Nat} {k : Nat} (hins : en.2.1 = .lload k) (hf : (G.1 mi)[i]? = some en) (hok : xa_ok G S mi i en pl = true) (ho : xa_one1 X en i ls st h = some (.inl (i1, ls1, st1, h1))) (hm : h1.length ≤ h'.length ∧ xa_sl h1 ≤ xa_sl h') (kk : xa_WW G mi b0 ca v3 D cI cQ p l e R s m args below meth c Q h' i1 ls1 st1 h1) : xa_WW G mi b0 ca v3 D cI cQ p l e R s m args below meth c Q h' i ls st h := by
  obtain ⟨pb, ins, ln, x⟩ := en
  dsimp only at hins
  subst hins
  intro pc H locs cells slots lr hat hL hR hS hc hs
  obtain ⟨hx, hb, hml, hown, hts, hF, h3, hb0, hnm, hfr, hlo⟩ := C
  simp only [xa_ok, Bool.and_eq_true] at hok
  obtain ⟨k1, k2, k3, k4⟩ := hok
  have hpc : pb = pc := xa_at_of hf hat
  subst hpc
  have hdg := xa_dec_of k1
  have hln : ln = 2 := by simpa [xa_lenOK, xa_len] using k2
  subst hln
  have hnx : xa_at G mi (i + 1) (pb + 2) = true := by simpa [xa_through] using k3
  dsimp only [xa_one1] at ho
  dsimp only at hdg
  unfold xa_lload at ho
  split at ho
  · next z e1 =>
    cases ho
    exact lv_lload hx hb hdg (hL.2.2.2 _ _ e1 (by simp)) (kk _ H locs cells slots lr hnx hL hR hS hc hs)
  · cases ho
theorem xa_s_lload_n (C : xa_Cx G S mi X b0 ca v3 D cI cQ p R s m args meth c) {en : xa_E} {i i1 : Nat} {ls ls1 st st1 : List xa_V} {h h1 : xa_H} {pl : List Nat} {k : Fin 4} (hins : en.2.1 = .lload_n k) (hf : (G.1 mi)[i]? = some en) (hok : xa_ok G S mi i en pl = true) (ho : xa_one1 X en i ls st h = some (.inl (i1, ls1, st1, h1))) (hm : h1.length ≤ h'.length ∧ xa_sl h1 ≤ xa_sl h') (kk : xa_WW G mi b0 ca v3 D cI cQ p l e R s m args below meth c Q h' i1 ls1 st1 h1) : xa_WW G mi b0 ca v3 D cI cQ p l e R s m args below meth c Q h' i ls st h := by
  obtain ⟨pb, ins, ln, x⟩ := en
  dsimp only at hins
  subst hins
  intro pc H locs cells slots lr hat hL hR hS hc hs
  obtain ⟨hx, hb, hml, hown, hts, hF, h3, hb0, hnm, hfr, hlo⟩ := C
  simp only [xa_ok, Bool.and_eq_true] at hok
  obtain ⟨k1, k2, k3, k4⟩ := hok
  have hpc : pb = pc := xa_at_of hf hat
  subst hpc
  have hdg := xa_dec_of k1
  have hln : ln = 1 := by simpa [xa_lenOK, xa_len] using k2
  subst hln
  have hnx : xa_at G mi (i + 1) (pb + 1) = true := by simpa [xa_through] using k3
  dsimp only [xa_one1] at ho
  dsimp only at hdg
  unfold xa_lload at ho
  split at ho
  · next z e1 =>
    cases ho
    exact lv_lload_n hx hb hdg rfl (hL.2.2.2 _ _ e1 (by simp)) (kk _ H locs cells slots lr hnx hL hR hS hc hs)
  · cases ho
theorem xa_s_aload (C : xa_Cx G S mi X b0 ca v3 D cI cQ p R s m args meth c) {en : xa_E} {i i1 : Nat} {ls ls1 st st1 : List xa_V} {h h1 : xa_H} {pl : List Nat} {k : Nat} (hins : en.2.1 = .aload k) (hf : (G.1 mi)[i]? = some en) (hok : xa_ok G S mi i en pl = true) (ho : xa_one1 X en i ls st h = some (.inl (i1, ls1, st1, h1))) (hm : h1.length ≤ h'.length ∧ xa_sl h1 ≤ xa_sl h') (kk : xa_WW G mi b0 ca v3 D cI cQ p l e R s m args below meth c Q h' i1 ls1 st1 h1) : xa_WW G mi b0 ca v3 D cI cQ p l e R s m args below meth c Q h' i ls st h := by
  obtain ⟨pb, ins, ln, x⟩ := en
  dsimp only at hins
  subst hins
  intro pc H locs cells slots lr hat hL hR hS hc hs
  obtain ⟨hx, hb, hml, hown, hts, hF, h3, hb0, hnm, hfr, hlo⟩ := C
  simp only [xa_ok, Bool.and_eq_true] at hok
  obtain ⟨k1, k2, k3, k4⟩ := hok
  have hpc : pb = pc := xa_at_of hf hat
  subst hpc
  have hdg := xa_dec_of k1
  have hln : ln = 2 := by simpa [xa_lenOK, xa_len] using k2
  subst hln
  have hnx : xa_at G mi (i + 1) (pb + 2) = true := by simpa [xa_through] using k3
  dsimp only [xa_one1] at ho
  dsimp only at hdg
  unfold xa_aload at ho
  split at ho
  · next z e1 =>
    cases ho
    exact lv_aload hx hb hdg (hL.2.2.2 _ _ e1 (by simp)) (kk _ H locs cells slots lr hnx hL hR hS hc hs)
  · next z e1 =>
    split at ho
    · next hz =>
      cases ho
      have e2 := hL.2.2.2 _ _ e1 (by intro q; cases q; omega)
      have e3 : xa_cv b0 ca v3 (xC z) = .ref (ca z) := by
        show (if z = 0 then Value.null else if z = 3 then v3 else .ref (ca z)) = _
        rw [if_neg (by omega), if_neg (by omega)]
      have e4 := kk _ H locs cells slots lr hnx hL hR hS hc hs
      rw [List.map_cons] at e4
      rw [show xa_cv b0 ca v3 (.inr (.inr (.inr z))) = .ref (ca z) from e3] at e2 e4
      exact lv_aload hx hb hdg e2 e4
    · cases ho
  · cases ho
theorem xa_s_aload_n (C : xa_Cx G S mi X b0 ca v3 D cI cQ p R s m args meth c) {en : xa_E} {i i1 : Nat} {ls ls1 st st1 : List xa_V} {h h1 : xa_H} {pl : List Nat} {k : Fin 4} (hins : en.2.1 = .aload_n k) (hf : (G.1 mi)[i]? = some en) (hok : xa_ok G S mi i en pl = true) (ho : xa_one1 X en i ls st h = some (.inl (i1, ls1, st1, h1))) (hm : h1.length ≤ h'.length ∧ xa_sl h1 ≤ xa_sl h') (kk : xa_WW G mi b0 ca v3 D cI cQ p l e R s m args below meth c Q h' i1 ls1 st1 h1) : xa_WW G mi b0 ca v3 D cI cQ p l e R s m args below meth c Q h' i ls st h := by
  obtain ⟨pb, ins, ln, x⟩ := en
  dsimp only at hins
  subst hins
  intro pc H locs cells slots lr hat hL hR hS hc hs
  obtain ⟨hx, hb, hml, hown, hts, hF, h3, hb0, hnm, hfr, hlo⟩ := C
  simp only [xa_ok, Bool.and_eq_true] at hok
  obtain ⟨k1, k2, k3, k4⟩ := hok
  have hpc : pb = pc := xa_at_of hf hat
  subst hpc
  have hdg := xa_dec_of k1
  have hln : ln = 1 := by simpa [xa_lenOK, xa_len] using k2
  subst hln
  have hnx : xa_at G mi (i + 1) (pb + 1) = true := by simpa [xa_through] using k3
  dsimp only [xa_one1] at ho
  dsimp only at hdg
  unfold xa_aload at ho
  split at ho
  · next z e1 =>
    cases ho
    exact lv_aload_n hx hb hdg rfl (hL.2.2.2 _ _ e1 (by simp)) (kk _ H locs cells slots lr hnx hL hR hS hc hs)
  · next z e1 =>
    split at ho
    · next hz =>
      cases ho
      have e2 := hL.2.2.2 _ _ e1 (by intro q; cases q; omega)
      have e3 : xa_cv b0 ca v3 (xC z) = .ref (ca z) := by
        show (if z = 0 then Value.null else if z = 3 then v3 else .ref (ca z)) = _
        rw [if_neg (by omega), if_neg (by omega)]
      have e4 := kk _ H locs cells slots lr hnx hL hR hS hc hs
      rw [List.map_cons] at e4
      rw [show xa_cv b0 ca v3 (.inr (.inr (.inr z))) = .ref (ca z) from e3] at e2 e4
      exact lv_aload_n hx hb hdg rfl e2 e4
    · cases ho
  · cases ho
theorem xa_s_istore (C : xa_Cx G S mi X b0 ca v3 D cI cQ p R s m args meth c) {en : xa_E} {i i1 : Nat} {ls ls1 st st1 : List xa_V} {h h1 : xa_H} {pl : List Nat} {k : Nat} (hins : en.2.1 = .istore k) (hf : (G.1 mi)[i]? = some en) (hok : xa_ok G S mi i en pl = true) (ho : xa_one1 X en i ls st h = some (.inl (i1, ls1, st1, h1))) (hm : h1.length ≤ h'.length ∧ xa_sl h1 ≤ xa_sl h') (kk : xa_WW G mi b0 ca v3 D cI cQ p l e R s m args below meth c Q h' i1 ls1 st1 h1) : xa_WW G mi b0 ca v3 D cI cQ p l e R s m args below meth c Q h' i ls st h := by
  obtain ⟨pb, ins, ln, x⟩ := en
  dsimp only at hins
  subst hins
  intro pc H locs cells slots lr hat hL hR hS hc hs
  obtain ⟨hx, hb, hml, hown, hts, hF, h3, hb0, hnm, hfr, hlo⟩ := C
  simp only [xa_ok, Bool.and_eq_true] at hok
  obtain ⟨k1, k2, k3, k4⟩ := hok
  have hpc : pb = pc := xa_at_of hf hat
  subst hpc
  have hdg := xa_dec_of k1
  have hln : ln = 2 := by simpa [xa_lenOK, xa_len] using k2
  subst hln
  have hnx : xa_at G mi (i + 1) (pb + 2) = true := by simpa [xa_through] using k3
  dsimp only [xa_one1] at ho
  dsimp only at hdg
  unfold xa_istore at ho
  split at ho
  · next z st0 =>
    split at ho
    · next hk =>
      cases ho
      have hk2 := hL.2.2.1
      exact lv_istore hx hb hdg (xa_lr_has hL) (by omega) rfl (fun lr' hl' => kk _ H locs cells slots lr' hnx (xa_lr_set1 h3 hk2 (by omega) hl') hR hS hc hs)
    · cases ho
  · cases ho
theorem xa_s_istore_n (C : xa_Cx G S mi X b0 ca v3 D cI cQ p R s m args meth c) {en : xa_E} {i i1 : Nat} {ls ls1 st st1 : List xa_V} {h h1 : xa_H} {pl : List Nat} {k : Fin 4} (hins : en.2.1 = .istore_n k) (hf : (G.1 mi)[i]? = some en) (hok : xa_ok G S mi i en pl = true) (ho : xa_one1 X en i ls st h = some (.inl (i1, ls1, st1, h1))) (hm : h1.length ≤ h'.length ∧ xa_sl h1 ≤ xa_sl h') (kk : xa_WW G mi b0 ca v3 D cI cQ p l e R s m args below meth c Q h' i1 ls1 st1 h1) : xa_WW G mi b0 ca v3 D cI cQ p l e R s m args below meth c Q h' i ls st h := by
  obtain ⟨pb, ins, ln, x⟩ := en
  dsimp only at hins
  subst hins
  intro pc H locs cells slots lr hat hL hR hS hc hs
  obtain ⟨hx, hb, hml, hown, hts, hF, h3, hb0, hnm, hfr, hlo⟩ := C
  simp only [xa_ok, Bool.and_eq_true] at hok
  obtain ⟨k1, k2, k3, k4⟩ := hok
  have hpc : pb = pc := xa_at_of hf hat
  subst hpc
  have hdg := xa_dec_of k1
  have hln : ln = 1 := by simpa [xa_lenOK, xa_len] using k2
  subst hln
  have hnx : xa_at G mi (i + 1) (pb + 1) = true := by simpa [xa_through] using k3
  dsimp only [xa_one1] at ho
  dsimp only at hdg
  unfold xa_istore at ho
  split at ho
  · next z st0 =>
    split at ho
    · next hk =>
      cases ho
      have hk2 := hL.2.2.1
      exact lv_istore_n hx hb hdg rfl (xa_lr_has hL) (by omega) rfl (fun lr' hl' => kk _ H locs cells slots lr' hnx (xa_lr_set1 h3 hk2 (by omega) hl') hR hS hc hs)
    · cases ho
  · cases ho
theorem xa_s_astore (C : xa_Cx G S mi X b0 ca v3 D cI cQ p R s m args meth c) {en : xa_E} {i i1 : Nat} {ls ls1 st st1 : List xa_V} {h h1 : xa_H} {pl : List Nat} {k : Nat} (hins : en.2.1 = .astore k) (hf : (G.1 mi)[i]? = some en) (hok : xa_ok G S mi i en pl = true) (ho : xa_one1 X en i ls st h = some (.inl (i1, ls1, st1, h1))) (hm : h1.length ≤ h'.length ∧ xa_sl h1 ≤ xa_sl h') (kk : xa_WW G mi b0 ca v3 D cI cQ p l e R s m args below meth c Q h' i1 ls1 st1 h1) : xa_WW G mi b0 ca v3 D cI cQ p l e R s m args below meth c Q h' i ls st h := by
  obtain ⟨pb, ins, ln, x⟩ := en
  dsimp only at hins
  subst hins
  intro pc H locs cells slots lr hat hL hR hS hc hs
  obtain ⟨hx, hb, hml, hown, hts, hF, h3, hb0, hnm, hfr, hlo⟩ := C
  simp only [xa_ok, Bool.and_eq_true] at hok
  obtain ⟨k1, k2, k3, k4⟩ := hok
  have hpc : pb = pc := xa_at_of hf hat
  subst hpc
  have hdg := xa_dec_of k1
  have hln : ln = 2 := by simpa [xa_lenOK, xa_len] using k2
  subst hln
  have hnx : xa_at G mi (i + 1) (pb + 2) = true := by simpa [xa_through] using k3
  dsimp only [xa_one1] at ho
  dsimp only at hdg
  unfold xa_astore at ho
  split at ho
  · next z st0 =>
    split at ho
    · next hk =>
      cases ho
      have hk2 := hL.2.2.1
      exact lv_astore hx hb hdg (xa_lr_has hL) (by omega) rfl (fun lr' hl' => kk _ H locs cells slots lr' hnx (xa_lr_set1 h3 hk2 (by omega) hl') hR hS hc hs)
    · cases ho
  · cases ho
theorem xa_s_astore_n (C : xa_Cx G S mi X b0 ca v3 D cI cQ p R s m args meth c) {en : xa_E} {i i1 : Nat} {ls ls1 st st1 : List xa_V} {h h1 : xa_H} {pl : List Nat} {k : Fin 4} (hins : en.2.1 = .astore_n k) (hf : (G.1 mi)[i]? = some en) (hok : xa_ok G S mi i en pl = true) (ho : xa_one1 X en i ls st h = some (.inl (i1, ls1, st1, h1))) (hm : h1.length ≤ h'.length ∧ xa_sl h1 ≤ xa_sl h') (kk : xa_WW G mi b0 ca v3 D cI cQ p l e R s m args below meth c Q h' i1 ls1 st1 h1) : xa_WW G mi b0 ca v3 D cI cQ p l e R s m args below meth c Q h' i ls st h := by
  obtain ⟨pb, ins, ln, x⟩ := en
  dsimp only at hins
  subst hins
  intro pc H locs cells slots lr hat hL hR hS hc hs
  obtain ⟨hx, hb, hml, hown, hts, hF, h3, hb0, hnm, hfr, hlo⟩ := C
  simp only [xa_ok, Bool.and_eq_true] at hok
  obtain ⟨k1, k2, k3, k4⟩ := hok
  have hpc : pb = pc := xa_at_of hf hat
  subst hpc
  have hdg := xa_dec_of k1
  have hln : ln = 1 := by simpa [xa_lenOK, xa_len] using k2
  subst hln
  have hnx : xa_at G mi (i + 1) (pb + 1) = true := by simpa [xa_through] using k3
  dsimp only [xa_one1] at ho
  dsimp only at hdg
  unfold xa_astore at ho
  split at ho
  · next z st0 =>
    split at ho
    · next hk =>
      cases ho
      have hk2 := hL.2.2.1
      exact lv_astore_n hx hb hdg rfl (xa_lr_has hL) (by omega) rfl (fun lr' hl' => kk _ H locs cells slots lr' hnx (xa_lr_set1 h3 hk2 (by omega) hl') hR hS hc hs)
    · cases ho
  · cases ho
theorem xa_s_lstore (C : xa_Cx G S mi X b0 ca v3 D cI cQ p R s m args meth c) {en : xa_E} {i i1 : Nat} {ls ls1 st st1 : List xa_V} {h h1 : xa_H} {pl : List Nat} {k : Nat} (hins : en.2.1 = .lstore k) (hf : (G.1 mi)[i]? = some en) (hok : xa_ok G S mi i en pl = true) (ho : xa_one1 X en i ls st h = some (.inl (i1, ls1, st1, h1))) (hm : h1.length ≤ h'.length ∧ xa_sl h1 ≤ xa_sl h') (kk : xa_WW G mi b0 ca v3 D cI cQ p l e R s m args below meth c Q h' i1 ls1 st1 h1) : xa_WW G mi b0 ca v3 D cI cQ p l e R s m args below meth c Q h' i ls st h := by
  obtain ⟨pb, ins, ln, x⟩ := en
  dsimp only at hins
  subst hins
  intro pc H locs cells slots lr hat hL hR hS hc hs
  obtain ⟨hx, hb, hml, hown, hts, hF, h3, hb0, hnm, hfr, hlo⟩ := C
  simp only [xa_ok, Bool.and_eq_true] at hok
  obtain ⟨k1, k2, k3, k4⟩ := hok
  have hpc : pb = pc := xa_at_of hf hat
  subst hpc
  have hdg := xa_dec_of k1
  have hln : ln = 2 := by simpa [xa_lenOK, xa_len] using k2
  subst hln
  have hnx : xa_at G mi (i + 1) (pb + 2) = true := by simpa [xa_through] using k3
  dsimp only [xa_one1] at ho
  dsimp only at hdg
  unfold xa_lstore at ho
  split at ho
  · next z st0 =>
    split at ho
    · next hk =>
      cases ho
      have hk2 := hL.2.2.1
      exact lv_lstore hx hb hdg (xa_lr_has hL) (by omega) rfl (fun lr' hl' => kk _ H locs cells slots lr' hnx (xa_lr_set2 h3 hk2 (by omega) rfl hl') hR hS hc hs)
    · cases ho
  · cases ho
theorem xa_s_lstore_n (C : xa_Cx G S mi X b0 ca v3 D cI cQ p R s m args meth c) {en : xa_E} {i i1 : Nat} {ls ls1 st st1 : List xa_V} {h h1 : xa_H} {pl : List Nat} {k : Fin 4} (hins : en.2.1 = .lstore_n k) (hf : (G.1 mi)[i]? = some en) (hok : xa_ok G S mi i en pl = true) (ho : xa_one1 X en i ls st h = some (.inl (i1, ls1, st1, h1))) (hm : h1.length ≤ h'.length ∧ xa_sl h1 ≤ xa_sl h') (kk : xa_WW G mi b0 ca v3 D cI cQ p l e R s m args below meth c Q h' i1 ls1 st1 h1) : xa_WW G mi b0 ca v3 D cI cQ p l e R s m args below meth c Q h' i ls st h := by
  obtain ⟨pb, ins, ln, x⟩ := en
  dsimp only at hins
  subst hins
  intro pc H locs cells slots lr hat hL hR hS hc hs
  obtain ⟨hx, hb, hml, hown, hts, hF, h3, hb0, hnm, hfr, hlo⟩ := C
  simp only [xa_ok, Bool.and_eq_true] at hok
  obtain ⟨k1, k2, k3, k4⟩ := hok
  have hpc : pb = pc := xa_at_of hf hat
  subst hpc
  have hdg := xa_dec_of k1
  have hln : ln = 1 := by simpa [xa_lenOK, xa_len] using k2
  subst hln
  have hnx : xa_at G mi (i + 1) (pb + 1) = true := by simpa [xa_through] using k3
  dsimp only [xa_one1] at ho
  dsimp only at hdg
  unfold xa_lstore at ho
  split at ho
  · next z st0 =>
    split at ho
    · next hk =>
      cases ho
      have hk2 := hL.2.2.1
      exact lv_lstore_n hx hb hdg rfl (xa_lr_has hL) (by omega) rfl (fun lr' hl' => kk _ H locs cells slots lr' hnx (xa_lr_set2 h3 hk2 (by omega) rfl hl') hR hS hc hs)
    · cases ho
  · cases ho
theorem xa_s_iconst (C : xa_Cx G S mi X b0 ca v3 D cI cQ p R s m args meth c) {en : xa_E} {i i1 : Nat} {ls ls1 st st1 : List xa_V} {h h1 : xa_H} {pl : List Nat} {n : Int} (hins : en.2.1 = .iconst n) (hf : (G.1 mi)[i]? = some en) (hok : xa_ok G S mi i en pl = true) (ho : xa_one1 X en i ls st h = some (.inl (i1, ls1, st1, h1))) (hm : h1.length ≤ h'.length ∧ xa_sl h1 ≤ xa_sl h') (kk : xa_WW G mi b0 ca v3 D cI cQ p l e R s m args below meth c Q h' i1 ls1 st1 h1) : xa_WW G mi b0 ca v3 D cI cQ p l e R s m args below meth c Q h' i ls st h := by
  obtain ⟨pb, ins, ln, x⟩ := en
  dsimp only at hins
  subst hins
  intro pc H locs cells slots lr hat hL hR hS hc hs
  obtain ⟨hx, hb, hml, hown, hts, hF, h3, hb0, hnm, hfr, hlo⟩ := C
  simp only [xa_ok, Bool.and_eq_true] at hok
  obtain ⟨k1, k2, k3, k4⟩ := hok
  have hpc : pb = pc := xa_at_of hf hat
  subst hpc
  have hdg := xa_dec_of k1
  have hln : ln = 1 := by simpa [xa_lenOK, xa_len] using k2
  subst hln
  have hnx : xa_at G mi (i + 1) (pb + 1) = true := by simpa [xa_through] using k3
  dsimp only [xa_one1] at ho
  dsimp only at hdg
  cases ho
  exact lv_iconst hx hb hdg rfl (kk _ H locs cells slots lr hnx hL hR hS hc hs)
theorem xa_s_bipush (C : xa_Cx G S mi X b0 ca v3 D cI cQ p R s m args meth c) {en : xa_E} {i i1 : Nat} {ls ls1 st st1 : List xa_V} {h h1 : xa_H} {pl : List Nat} {n : Int} (hins : en.2.1 = .bipush n) (hf : (G.1 mi)[i]? = some en) (hok : xa_ok G S mi i en pl = true) (ho : xa_one1 X en i ls st h = some (.inl (i1, ls1, st1, h1))) (hm : h1.length ≤ h'.length ∧ xa_sl h1 ≤ xa_sl h') (kk : xa_WW G mi b0 ca v3 D cI cQ p l e R s m args below meth c Q h' i1 ls1 st1 h1) : xa_WW G mi b0 ca v3 D cI cQ p l e R s m args below meth c Q h' i ls st h := by
  obtain ⟨pb, ins, ln, x⟩ := en
  dsimp only at hins
  subst hins
  intro pc H locs cells slots lr hat hL hR hS hc hs
  obtain ⟨hx, hb, hml, hown, hts, hF, h3, hb0, hnm, hfr, hlo⟩ := C
  simp only [xa_ok, Bool.and_eq_true] at hok
  obtain ⟨k1, k2, k3, k4⟩ := hok
  have hpc : pb = pc := xa_at_of hf hat
  subst hpc
  have hdg := xa_dec_of k1
  have hln : ln = 2 := by simpa [xa_lenOK, xa_len] using k2
  subst hln
  have hnx : xa_at G mi (i + 1) (pb + 2) = true := by simpa [xa_through] using k3
  dsimp only [xa_one1] at ho
  dsimp only at hdg
  split at ho
  · next hn =>
    cases ho
    refine lv_bipush hx hb hdg ?_ (kk _ H locs cells slots lr hnx hL hR hS hc hs)
    rw [← Int32.toInt_inj, Int8.toInt_toInt32, Int8.toInt_ofInt, xa_toI ⟨by omega, by omega⟩]
    show n.bmod 256 = n
    rw [Int.bmod_def]
    split <;> omega
  · cases ho
theorem xa_s_sipush (C : xa_Cx G S mi X b0 ca v3 D cI cQ p R s m args meth c) {en : xa_E} {i i1 : Nat} {ls ls1 st st1 : List xa_V} {h h1 : xa_H} {pl : List Nat} {n : Int} (hins : en.2.1 = .sipush n) (hf : (G.1 mi)[i]? = some en) (hok : xa_ok G S mi i en pl = true) (ho : xa_one1 X en i ls st h = some (.inl (i1, ls1, st1, h1))) (hm : h1.length ≤ h'.length ∧ xa_sl h1 ≤ xa_sl h') (kk : xa_WW G mi b0 ca v3 D cI cQ p l e R s m args below meth c Q h' i1 ls1 st1 h1) : xa_WW G mi b0 ca v3 D cI cQ p l e R s m args below meth c Q h' i ls st h := by
  obtain ⟨pb, ins, ln, x⟩ := en
  dsimp only at hins
  subst hins
  intro pc H locs cells slots lr hat hL hR hS hc hs
  obtain ⟨hx, hb, hml, hown, hts, hF, h3, hb0, hnm, hfr, hlo⟩ := C
  simp only [xa_ok, Bool.and_eq_true] at hok
  obtain ⟨k1, k2, k3, k4⟩ := hok
  have hpc : pb = pc := xa_at_of hf hat
  subst hpc
  have hdg := xa_dec_of k1
  have hln : ln = 3 := by simpa [xa_lenOK, xa_len] using k2
  subst hln
  have hnx : xa_at G mi (i + 1) (pb + 3) = true := by simpa [xa_through] using k3
  dsimp only [xa_one1] at ho
  dsimp only at hdg
  split at ho
  · next hn =>
    cases ho
    refine lv_sipush hx hb hdg ?_ (kk _ H locs cells slots lr hnx hL hR hS hc hs)
    rw [← Int32.toInt_inj, Int16.toInt_toInt32, Int16.toInt_ofInt, xa_toI ⟨by omega, by omega⟩]
    show n.bmod 65536 = n
    rw [Int.bmod_def]
    split <;> omega
  · cases ho
theorem xa_s_lconst (C : xa_Cx G S mi X b0 ca v3 D cI cQ p R s m args meth c) {en : xa_E} {i i1 : Nat} {ls ls1 st st1 : List xa_V} {h h1 : xa_H} {pl : List Nat} {n : Fin 2} (hins : en.2.1 = .lconst n) (hf : (G.1 mi)[i]? = some en) (hok : xa_ok G S mi i en pl = true) (ho : xa_one1 X en i ls st h = some (.inl (i1, ls1, st1, h1))) (hm : h1.length ≤ h'.length ∧ xa_sl h1 ≤ xa_sl h') (kk : xa_WW G mi b0 ca v3 D cI cQ p l e R s m args below meth c Q h' i1 ls1 st1 h1) : xa_WW G mi b0 ca v3 D cI cQ p l e R s m args below meth c Q h' i ls st h := by
  obtain ⟨pb, ins, ln, x⟩ := en
  dsimp only at hins
  subst hins
  intro pc H locs cells slots lr hat hL hR hS hc hs
  obtain ⟨hx, hb, hml, hown, hts, hF, h3, hb0, hnm, hfr, hlo⟩ := C
  simp only [xa_ok, Bool.and_eq_true] at hok
  obtain ⟨k1, k2, k3, k4⟩ := hok
  have hpc : pb = pc := xa_at_of hf hat
  subst hpc
  have hdg := xa_dec_of k1
  have hln : ln = 1 := by simpa [xa_lenOK, xa_len] using k2
  subst hln
  have hnx : xa_at G mi (i + 1) (pb + 1) = true := by simpa [xa_through] using k3
  dsimp only [xa_one1] at ho
  dsimp only at hdg
  cases ho
  refine lv_lconst hx hb hdg ?_ (kk _ H locs cells slots lr hnx hL hR hS hc hs)
  match n with
  | 0 => rfl
  | 1 => rfl
theorem xa_s_ldc (C : xa_Cx G S mi X b0 ca v3 D cI cQ p R s m args meth c) {en : xa_E} {i i1 : Nat} {ls ls1 st st1 : List xa_V} {h h1 : xa_H} {pl : List Nat} {k : Nat} (hins : en.2.1 = .ldc k) (hf : (G.1 mi)[i]? = some en) (hok : xa_ok G S mi i en pl = true) (ho : xa_one1 X en i ls st h = some (.inl (i1, ls1, st1, h1))) (hm : h1.length ≤ h'.length ∧ xa_sl h1 ≤ xa_sl h') (kk : xa_WW G mi b0 ca v3 D cI cQ p l e R s m args below meth c Q h' i1 ls1 st1 h1) : xa_WW G mi b0 ca v3 D cI cQ p l e R s m args below meth c Q h' i ls st h := by
  obtain ⟨pb, ins, ln, x⟩ := en
  dsimp only at hins
  subst hins
  intro pc H locs cells slots lr hat hL hR hS hc hs
  obtain ⟨hx, hb, hml, hown, hts, hF, h3, hb0, hnm, hfr, hlo⟩ := C
  simp only [xa_ok, Bool.and_eq_true] at hok
  obtain ⟨k1, k2, k3, k4⟩ := hok
  have hpc : pb = pc := xa_at_of hf hat
  subst hpc
  have hdg := xa_dec_of k1
  have hln : ln = 2 := by simpa [xa_lenOK, xa_len] using k2
  subst hln
  have hnx : xa_at G mi (i + 1) (pb + 2) = true := by simpa [xa_through] using k3
  dsimp only [xa_one1] at ho
  dsimp only at hdg
  unfold xa_ldc at ho
  split at ho
  · next z =>
    cases ho
    match pl, k4 with
    | [q], k4 => exact lv_ldc hx hb hown (hts _ (xa_in_tb (by simpa [xa_extra] using k4))) hdg (kk _ H locs cells slots lr hnx hL hR hS hc hs)
  · next z =>
    cases ho
    match pl, k4 with
    | [q], k4 =>
      simp only [xa_extra] at k4
      split at k4
      · next r hr =>
        obtain ⟨g1, g2, g3⟩ := of_decide_eq_true k4
        have hZ := hF.2.2.2.1 r (List.mem_of_getElem? hr)
        rw [g1, g2] at hZ
        have hr20 : 20 ≤ r.2.2.2 := by
          have : ∀ r ∈ xa_sr, 20 ≤ r.2.2.2 := by decide
          exact this r (List.mem_of_getElem? hr)
        have e3 : xa_cv b0 ca v3 (xC z.toNat) = .ref (ca r.2.2.2) := by
          show (if z.toNat = 0 then Value.null else if z.toNat = 3 then v3 else .ref (ca z.toNat)) = _
          rw [← g3]
          rw [if_neg (by omega), if_neg (by omega)]
          rfl
        have e4 := kk _ H locs cells slots lr hnx hL hR hS hc hs
        rw [List.map_cons, e3] at e4
        exact va_ldcS hx hb hown hZ hdg e4
      · cases k4
  · cases ho
theorem xa_s_ldc_w (C : xa_Cx G S mi X b0 ca v3 D cI cQ p R s m args meth c) {en : xa_E} {i i1 : Nat} {ls ls1 st st1 : List xa_V} {h h1 : xa_H} {pl : List Nat} {k : Nat} (hins : en.2.1 = .ldc_w k) (hf : (G.1 mi)[i]? = some en) (hok : xa_ok G S mi i en pl = true) (ho : xa_one1 X en i ls st h = some (.inl (i1, ls1, st1, h1))) (hm : h1.length ≤ h'.length ∧ xa_sl h1 ≤ xa_sl h') (kk : xa_WW G mi b0 ca v3 D cI cQ p l e R s m args below meth c Q h' i1 ls1 st1 h1) : xa_WW G mi b0 ca v3 D cI cQ p l e R s m args below meth c Q h' i ls st h := by
  obtain ⟨pb, ins, ln, x⟩ := en
  dsimp only at hins
  subst hins
  intro pc H locs cells slots lr hat hL hR hS hc hs
  obtain ⟨hx, hb, hml, hown, hts, hF, h3, hb0, hnm, hfr, hlo⟩ := C
  simp only [xa_ok, Bool.and_eq_true] at hok
  obtain ⟨k1, k2, k3, k4⟩ := hok
  have hpc : pb = pc := xa_at_of hf hat
  subst hpc
  have hdg := xa_dec_of k1
  have hln : ln = 3 := by simpa [xa_lenOK, xa_len] using k2
  subst hln
  have hnx : xa_at G mi (i + 1) (pb + 3) = true := by simpa [xa_through] using k3
  dsimp only [xa_one1] at ho
  dsimp only at hdg
  unfold xa_ldc at ho
  split at ho
  · next z =>
    cases ho
    match pl, k4 with
    | [q], k4 => exact lv_ldcw hx hb hown (hts _ (xa_in_tb (by simpa [xa_extra] using k4))) hdg (kk _ H locs cells slots lr hnx hL hR hS hc hs)
  · next z =>
    cases ho
    simp [xa_extra] at k4
  · cases ho
theorem xa_s_ldc2_w (C : xa_Cx G S mi X b0 ca v3 D cI cQ p R s m args meth c) {en : xa_E} {i i1 : Nat} {ls ls1 st st1 : List xa_V} {h h1 : xa_H} {pl : List Nat} {k : Nat} (hins : en.2.1 = .ldc2_w k) (hf : (G.1 mi)[i]? = some en) (hok : xa_ok G S mi i en pl = true) (ho : xa_one1 X en i ls st h = some (.inl (i1, ls1, st1, h1))) (hm : h1.length ≤ h'.length ∧ xa_sl h1 ≤ xa_sl h') (kk : xa_WW G mi b0 ca v3 D cI cQ p l e R s m args below meth c Q h' i1 ls1 st1 h1) : xa_WW G mi b0 ca v3 D cI cQ p l e R s m args below meth c Q h' i ls st h := by
  obtain ⟨pb, ins, ln, x⟩ := en
  dsimp only at hins
  subst hins
  intro pc H locs cells slots lr hat hL hR hS hc hs
  obtain ⟨hx, hb, hml, hown, hts, hF, h3, hb0, hnm, hfr, hlo⟩ := C
  simp only [xa_ok, Bool.and_eq_true] at hok
  obtain ⟨k1, k2, k3, k4⟩ := hok
  have hpc : pb = pc := xa_at_of hf hat
  subst hpc
  have hdg := xa_dec_of k1
  have hln : ln = 3 := by simpa [xa_lenOK, xa_len] using k2
  subst hln
  have hnx : xa_at G mi (i + 1) (pb + 3) = true := by simpa [xa_through] using k3
  dsimp only [xa_one1] at ho
  dsimp only at hdg
  split at ho
  · next z =>
    cases ho
    match pl, k4 with
    | [q], k4 => exact lv_ldc2 hx hb hown (hts _ (xa_in_tb (by simpa [xa_extra] using k4))) hdg (kk _ H locs cells slots lr hnx hL hR hS hc hs)
  · cases ho
theorem xa_s_iadd (C : xa_Cx G S mi X b0 ca v3 D cI cQ p R s m args meth c) {en : xa_E} {i i1 : Nat} {ls ls1 st st1 : List xa_V} {h h1 : xa_H} {pl : List Nat}  (hins : en.2.1 = .iadd) (hf : (G.1 mi)[i]? = some en) (hok : xa_ok G S mi i en pl = true) (ho : xa_one1 X en i ls st h = some (.inl (i1, ls1, st1, h1))) (hm : h1.length ≤ h'.length ∧ xa_sl h1 ≤ xa_sl h') (kk : xa_WW G mi b0 ca v3 D cI cQ p l e R s m args below meth c Q h' i1 ls1 st1 h1) : xa_WW G mi b0 ca v3 D cI cQ p l e R s m args below meth c Q h' i ls st h := by
  obtain ⟨pb, ins, ln, x⟩ := en
  dsimp only at hins
  subst hins
  intro pc H locs cells slots lr hat hL hR hS hc hs
  obtain ⟨hx, hb, hml, hown, hts, hF, h3, hb0, hnm, hfr, hlo⟩ := C
  simp only [xa_ok, Bool.and_eq_true] at hok
  obtain ⟨k1, k2, k3, k4⟩ := hok
  have hpc : pb = pc := xa_at_of hf hat
  subst hpc
  have hdg := xa_dec_of k1
  have hln : ln = 1 := by simpa [xa_lenOK, xa_len] using k2
  subst hln
  have hnx : xa_at G mi (i + 1) (pb + 1) = true := by simpa [xa_through] using k3
  dsimp only [xa_one1] at ho
  dsimp only at hdg
  unfold xa_two at ho
  split at ho
  · next b a st0 =>
    cases ho
    have e4 := kk _ H locs cells slots lr hnx hL hR hS hc hs
    refine lv_iadd hx hb hdg ?_
    rw [xa_add]
    exact e4
  · cases ho
theorem xa_s_isub (C : xa_Cx G S mi X b0 ca v3 D cI cQ p R s m args meth c) {en : xa_E} {i i1 : Nat} {ls ls1 st st1 : List xa_V} {h h1 : xa_H} {pl : List Nat}  (hins : en.2.1 = .isub) (hf : (G.1 mi)[i]? = some en) (hok : xa_ok G S mi i en pl = true) (ho : xa_one1 X en i ls st h = some (.inl (i1, ls1, st1, h1))) (hm : h1.length ≤ h'.length ∧ xa_sl h1 ≤ xa_sl h') (kk : xa_WW G mi b0 ca v3 D cI cQ p l e R s m args below meth c Q h' i1 ls1 st1 h1) : xa_WW G mi b0 ca v3 D cI cQ p l e R s m args below meth c Q h' i ls st h := by
  obtain ⟨pb, ins, ln, x⟩ := en
  dsimp only at hins
  subst hins
  intro pc H locs cells slots lr hat hL hR hS hc hs
  obtain ⟨hx, hb, hml, hown, hts, hF, h3, hb0, hnm, hfr, hlo⟩ := C
  simp only [xa_ok, Bool.and_eq_true] at hok
  obtain ⟨k1, k2, k3, k4⟩ := hok
  have hpc : pb = pc := xa_at_of hf hat
  subst hpc
  have hdg := xa_dec_of k1
  have hln : ln = 1 := by simpa [xa_lenOK, xa_len] using k2
  subst hln
  have hnx : xa_at G mi (i + 1) (pb + 1) = true := by simpa [xa_through] using k3
  dsimp only [xa_one1] at ho
  dsimp only at hdg
  unfold xa_two at ho
  split at ho
  · next b a st0 =>
    cases ho
    have e4 := kk _ H locs cells slots lr hnx hL hR hS hc hs
    refine lv_isub hx hb hdg ?_
    rw [xa_sub]
    exact e4
  · cases ho
theorem xa_s_imul (C : xa_Cx G S mi X b0 ca v3 D cI cQ p R s m args meth c) {en : xa_E} {i i1 : Nat} {ls ls1 st st1 : List xa_V} {h h1 : xa_H} {pl : List Nat}  (hins : en.2.1 = .imul) (hf : (G.1 mi)[i]? = some en) (hok : xa_ok G S mi i en pl = true) (ho : xa_one1 X en i ls st h = some (.inl (i1, ls1, st1, h1))) (hm : h1.length ≤ h'.length ∧ xa_sl h1 ≤ xa_sl h') (kk : xa_WW G mi b0 ca v3 D cI cQ p l e R s m args below meth c Q h' i1 ls1 st1 h1) : xa_WW G mi b0 ca v3 D cI cQ p l e R s m args below meth c Q h' i ls st h := by
  obtain ⟨pb, ins, ln, x⟩ := en
  dsimp only at hins
  subst hins
  intro pc H locs cells slots lr hat hL hR hS hc hs
  obtain ⟨hx, hb, hml, hown, hts, hF, h3, hb0, hnm, hfr, hlo⟩ := C
  simp only [xa_ok, Bool.and_eq_true] at hok
  obtain ⟨k1, k2, k3, k4⟩ := hok
  have hpc : pb = pc := xa_at_of hf hat
  subst hpc
  have hdg := xa_dec_of k1
  have hln : ln = 1 := by simpa [xa_lenOK, xa_len] using k2
  subst hln
  have hnx : xa_at G mi (i + 1) (pb + 1) = true := by simpa [xa_through] using k3
  dsimp only [xa_one1] at ho
  dsimp only at hdg
  unfold xa_two at ho
  split at ho
  · next b a st0 =>
    cases ho
    have e4 := kk _ H locs cells slots lr hnx hL hR hS hc hs
    refine lv_imul hx hb hdg ?_
    rw [xa_mul]
    exact e4
  · cases ho
theorem xa_s_iand (C : xa_Cx G S mi X b0 ca v3 D cI cQ p R s m args meth c) {en : xa_E} {i i1 : Nat} {ls ls1 st st1 : List xa_V} {h h1 : xa_H} {pl : List Nat}  (hins : en.2.1 = .iand) (hf : (G.1 mi)[i]? = some en) (hok : xa_ok G S mi i en pl = true) (ho : xa_one1 X en i ls st h = some (.inl (i1, ls1, st1, h1))) (hm : h1.length ≤ h'.length ∧ xa_sl h1 ≤ xa_sl h') (kk : xa_WW G mi b0 ca v3 D cI cQ p l e R s m args below meth c Q h' i1 ls1 st1 h1) : xa_WW G mi b0 ca v3 D cI cQ p l e R s m args below meth c Q h' i ls st h := by
  obtain ⟨pb, ins, ln, x⟩ := en
  dsimp only at hins
  subst hins
  intro pc H locs cells slots lr hat hL hR hS hc hs
  obtain ⟨hx, hb, hml, hown, hts, hF, h3, hb0, hnm, hfr, hlo⟩ := C
  simp only [xa_ok, Bool.and_eq_true] at hok
  obtain ⟨k1, k2, k3, k4⟩ := hok
  have hpc : pb = pc := xa_at_of hf hat
  subst hpc
  have hdg := xa_dec_of k1
  have hln : ln = 1 := by simpa [xa_lenOK, xa_len] using k2
  subst hln
  have hnx : xa_at G mi (i + 1) (pb + 1) = true := by simpa [xa_through] using k3
  dsimp only [xa_one1] at ho
  dsimp only at hdg
  unfold xa_two at ho
  split at ho
  · next b a st0 =>
    cases ho
    have e4 := kk _ H locs cells slots lr hnx hL hR hS hc hs
    refine lv_iand hx hb hdg ?_
    rw [List.map_cons, show xa_cv b0 ca v3 (xI (xa_and a b)) = .int (Int32.ofInt (xa_and a b)) from rfl, show Int32.ofInt (xa_and a b) = _ from xa_asI _] at e4
    exact e4
  · cases ho
theorem xa_s_ior (C : xa_Cx G S mi X b0 ca v3 D cI cQ p R s m args meth c) {en : xa_E} {i i1 : Nat} {ls ls1 st st1 : List xa_V} {h h1 : xa_H} {pl : List Nat}  (hins : en.2.1 = .ior) (hf : (G.1 mi)[i]? = some en) (hok : xa_ok G S mi i en pl = true) (ho : xa_one1 X en i ls st h = some (.inl (i1, ls1, st1, h1))) (hm : h1.length ≤ h'.length ∧ xa_sl h1 ≤ xa_sl h') (kk : xa_WW G mi b0 ca v3 D cI cQ p l e R s m args below meth c Q h' i1 ls1 st1 h1) : xa_WW G mi b0 ca v3 D cI cQ p l e R s m args below meth c Q h' i ls st h := by
  obtain ⟨pb, ins, ln, x⟩ := en
  dsimp only at hins
  subst hins
  intro pc H locs cells slots lr hat hL hR hS hc hs
  obtain ⟨hx, hb, hml, hown, hts, hF, h3, hb0, hnm, hfr, hlo⟩ := C
  simp only [xa_ok, Bool.and_eq_true] at hok
  obtain ⟨k1, k2, k3, k4⟩ := hok
  have hpc : pb = pc := xa_at_of hf hat
  subst hpc
  have hdg := xa_dec_of k1
  have hln : ln = 1 := by simpa [xa_lenOK, xa_len] using k2
  subst hln
  have hnx : xa_at G mi (i + 1) (pb + 1) = true := by simpa [xa_through] using k3
  dsimp only [xa_one1] at ho
  dsimp only at hdg
  unfold xa_two at ho
  split at ho
  · next b a st0 =>
    cases ho
    have e4 := kk _ H locs cells slots lr hnx hL hR hS hc hs
    refine lv_ior hx hb hdg ?_
    rw [List.map_cons, show xa_cv b0 ca v3 (xI (xa_or a b)) = .int (Int32.ofInt (xa_or a b)) from rfl, show Int32.ofInt (xa_or a b) = _ from xa_asI _] at e4
    exact e4
  · cases ho
theorem xa_s_ixor (C : xa_Cx G S mi X b0 ca v3 D cI cQ p R s m args meth c) {en : xa_E} {i i1 : Nat} {ls ls1 st st1 : List xa_V} {h h1 : xa_H} {pl : List Nat}  (hins : en.2.1 = .ixor) (hf : (G.1 mi)[i]? = some en) (hok : xa_ok G S mi i en pl = true) (ho : xa_one1 X en i ls st h = some (.inl (i1, ls1, st1, h1))) (hm : h1.length ≤ h'.length ∧ xa_sl h1 ≤ xa_sl h') (kk : xa_WW G mi b0 ca v3 D cI cQ p l e R s m args below meth c Q h' i1 ls1 st1 h1) : xa_WW G mi b0 ca v3 D cI cQ p l e R s m args below meth c Q h' i ls st h := by
  obtain ⟨pb, ins, ln, x⟩ := en
  dsimp only at hins
  subst hins
  intro pc H locs cells slots lr hat hL hR hS hc hs
  obtain ⟨hx, hb, hml, hown, hts, hF, h3, hb0, hnm, hfr, hlo⟩ := C
  simp only [xa_ok, Bool.and_eq_true] at hok
  obtain ⟨k1, k2, k3, k4⟩ := hok
  have hpc : pb = pc := xa_at_of hf hat
  subst hpc
  have hdg := xa_dec_of k1
  have hln : ln = 1 := by simpa [xa_lenOK, xa_len] using k2
  subst hln
  have hnx : xa_at G mi (i + 1) (pb + 1) = true := by simpa [xa_through] using k3
  dsimp only [xa_one1] at ho
  dsimp only at hdg
  unfold xa_two at ho
  split at ho
  · next b a st0 =>
    cases ho
    have e4 := kk _ H locs cells slots lr hnx hL hR hS hc hs
    refine lv_ixor hx hb hdg ?_
    rw [List.map_cons, show xa_cv b0 ca v3 (xI (xa_xor a b)) = .int (Int32.ofInt (xa_xor a b)) from rfl, show Int32.ofInt (xa_xor a b) = _ from xa_asI _] at e4
    exact e4
  · cases ho
theorem xa_s_ishl (C : xa_Cx G S mi X b0 ca v3 D cI cQ p R s m args meth c) {en : xa_E} {i i1 : Nat} {ls ls1 st st1 : List xa_V} {h h1 : xa_H} {pl : List Nat}  (hins : en.2.1 = .ishl) (hf : (G.1 mi)[i]? = some en) (hok : xa_ok G S mi i en pl = true) (ho : xa_one1 X en i ls st h = some (.inl (i1, ls1, st1, h1))) (hm : h1.length ≤ h'.length ∧ xa_sl h1 ≤ xa_sl h') (kk : xa_WW G mi b0 ca v3 D cI cQ p l e R s m args below meth c Q h' i1 ls1 st1 h1) : xa_WW G mi b0 ca v3 D cI cQ p l e R s m args below meth c Q h' i ls st h := by
  obtain ⟨pb, ins, ln, x⟩ := en
  dsimp only at hins
  subst hins
  intro pc H locs cells slots lr hat hL hR hS hc hs
  obtain ⟨hx, hb, hml, hown, hts, hF, h3, hb0, hnm, hfr, hlo⟩ := C
  simp only [xa_ok, Bool.and_eq_true] at hok
  obtain ⟨k1, k2, k3, k4⟩ := hok
  have hpc : pb = pc := xa_at_of hf hat
  subst hpc
  have hdg := xa_dec_of k1
  have hln : ln = 1 := by simpa [xa_lenOK, xa_len] using k2
  subst hln
  have hnx : xa_at G mi (i + 1) (pb + 1) = true := by simpa [xa_through] using k3
  dsimp only [xa_one1] at ho
  dsimp only at hdg
  unfold xa_two at ho
  split at ho
  · next b a st0 =>
    cases ho
    have e4 := kk _ H locs cells slots lr hnx hL hR hS hc hs
    refine lv_ishl hx hb hdg ?_
    rw [List.map_cons, show xa_cv b0 ca v3 (xI (xa_shl a b)) = .int (Int32.ofInt (xa_shl a b)) from rfl, show Int32.ofInt (xa_shl a b) = _ from xa_asI _] at e4
    exact e4
  · cases ho
theorem xa_s_ishr (C : xa_Cx G S mi X b0 ca v3 D cI cQ p R s m args meth c) {en : xa_E} {i i1 : Nat} {ls ls1 st st1 : List xa_V} {h h1 : xa_H} {pl : List Nat}  (hins : en.2.1 = .ishr) (hf : (G.1 mi)[i]? = some en) (hok : xa_ok G S mi i en pl = true) (ho : xa_one1 X en i ls st h = some (.inl (i1, ls1, st1, h1))) (hm : h1.length ≤ h'.length ∧ xa_sl h1 ≤ xa_sl h') (kk : xa_WW G mi b0 ca v3 D cI cQ p l e R s m args below meth c Q h' i1 ls1 st1 h1) : xa_WW G mi b0 ca v3 D cI cQ p l e R s m args below meth c Q h' i ls st h := by
  obtain ⟨pb, ins, ln, x⟩ := en
  dsimp only at hins
  subst hins
  intro pc H locs cells slots lr hat hL hR hS hc hs
  obtain ⟨hx, hb, hml, hown, hts, hF, h3, hb0, hnm, hfr, hlo⟩ := C
  simp only [xa_ok, Bool.and_eq_true] at hok
  obtain ⟨k1, k2, k3, k4⟩ := hok
  have hpc : pb = pc := xa_at_of hf hat
  subst hpc
  have hdg := xa_dec_of k1
  have hln : ln = 1 := by simpa [xa_lenOK, xa_len] using k2
  subst hln
  have hnx : xa_at G mi (i + 1) (pb + 1) = true := by simpa [xa_through] using k3
  dsimp only [xa_one1] at ho
  dsimp only at hdg
  unfold xa_two at ho
  split at ho
  · next b a st0 =>
    cases ho
    have e4 := kk _ H locs cells slots lr hnx hL hR hS hc hs
    refine lv_ishr hx hb hdg ?_
    rw [List.map_cons, show xa_cv b0 ca v3 (xI (xa_shr a b)) = .int (Int32.ofInt (xa_shr a b)) from rfl, show Int32.ofInt (xa_shr a b) = _ from xa_asI _] at e4
    exact e4
  · cases ho
theorem xa_s_iushr (C : xa_Cx G S mi X b0 ca v3 D cI cQ p R s m args meth c) {en : xa_E} {i i1 : Nat} {ls ls1 st st1 : List xa_V} {h h1 : xa_H} {pl : List Nat}  (hins : en.2.1 = .iushr) (hf : (G.1 mi)[i]? = some en) (hok : xa_ok G S mi i en pl = true) (ho : xa_one1 X en i ls st h = some (.inl (i1, ls1, st1, h1))) (hm : h1.length ≤ h'.length ∧ xa_sl h1 ≤ xa_sl h') (kk : xa_WW G mi b0 ca v3 D cI cQ p l e R s m args below meth c Q h' i1 ls1 st1 h1) : xa_WW G mi b0 ca v3 D cI cQ p l e R s m args below meth c Q h' i ls st h := by
  obtain ⟨pb, ins, ln, x⟩ := en
  dsimp only at hins
  subst hins
  intro pc H locs cells slots lr hat hL hR hS hc hs
  obtain ⟨hx, hb, hml, hown, hts, hF, h3, hb0, hnm, hfr, hlo⟩ := C
  simp only [xa_ok, Bool.and_eq_true] at hok
  obtain ⟨k1, k2, k3, k4⟩ := hok
  have hpc : pb = pc := xa_at_of hf hat
  subst hpc
  have hdg := xa_dec_of k1
  have hln : ln = 1 := by simpa [xa_lenOK, xa_len] using k2
  subst hln
  have hnx : xa_at G mi (i + 1) (pb + 1) = true := by simpa [xa_through] using k3
  dsimp only [xa_one1] at ho
  dsimp only at hdg
  unfold xa_two at ho
  split at ho
  · next b a st0 =>
    cases ho
    have e4 := kk _ H locs cells slots lr hnx hL hR hS hc hs
    refine lv_iushr hx hb hdg rfl ?_
    rw [List.map_cons, show xa_cv b0 ca v3 (xI (xa_ushr a b)) = .int (Int32.ofInt (xa_ushr a b)) from rfl, show Int32.ofInt (xa_ushr a b) = _ from xa_asI _] at e4
    exact e4
  · cases ho
theorem xa_s_ladd (C : xa_Cx G S mi X b0 ca v3 D cI cQ p R s m args meth c) {en : xa_E} {i i1 : Nat} {ls ls1 st st1 : List xa_V} {h h1 : xa_H} {pl : List Nat}  (hins : en.2.1 = .ladd) (hf : (G.1 mi)[i]? = some en) (hok : xa_ok G S mi i en pl = true) (ho : xa_one1 X en i ls st h = some (.inl (i1, ls1, st1, h1))) (hm : h1.length ≤ h'.length ∧ xa_sl h1 ≤ xa_sl h') (kk : xa_WW G mi b0 ca v3 D cI cQ p l e R s m args below meth c Q h' i1 ls1 st1 h1) : xa_WW G mi b0 ca v3 D cI cQ p l e R s m args below meth c Q h' i ls st h := by
  obtain ⟨pb, ins, ln, x⟩ := en
  dsimp only at hins
  subst hins
  intro pc H locs cells slots lr hat hL hR hS hc hs
  obtain ⟨hx, hb, hml, hown, hts, hF, h3, hb0, hnm, hfr, hlo⟩ := C
  simp only [xa_ok, Bool.and_eq_true] at hok
  obtain ⟨k1, k2, k3, k4⟩ := hok
  have hpc : pb = pc := xa_at_of hf hat
  subst hpc
  have hdg := xa_dec_of k1
  have hln : ln = 1 := by simpa [xa_lenOK, xa_len] using k2
  subst hln
  have hnx : xa_at G mi (i + 1) (pb + 1) = true := by simpa [xa_through] using k3
  dsimp only [xa_one1] at ho
  dsimp only at hdg
  unfold xa_two64 at ho
  split at ho
  · next b a st0 =>
    cases ho
    have e4 := kk _ H locs cells slots lr hnx hL hR hS hc hs
    refine lv_ladd hx hb hdg ?_
    rw [xa_addL]
    exact e4
  · cases ho
theorem xa_s_lmul (C : xa_Cx G S mi X b0 ca v3 D cI cQ p R s m args meth c) {en : xa_E} {i i1 : Nat} {ls ls1 st st1 : List xa_V} {h h1 : xa_H} {pl : List Nat}  (hins : en.2.1 = .lmul) (hf : (G.1 mi)[i]? = some en) (hok : xa_ok G S mi i en pl = true) (ho : xa_one1 X en i ls st h = some (.inl (i1, ls1, st1, h1))) (hm : h1.length ≤ h'.length ∧ xa_sl h1 ≤ xa_sl h') (kk : xa_WW G mi b0 ca v3 D cI cQ p l e R s m args below meth c Q h' i1 ls1 st1 h1) : xa_WW G mi b0 ca v3 D cI cQ p l e R s m args below meth c Q h' i ls st h := by
  obtain ⟨pb, ins, ln, x⟩ := en
  dsimp only at hins
  subst hins
  intro pc H locs cells slots lr hat hL hR hS hc hs
  obtain ⟨hx, hb, hml, hown, hts, hF, h3, hb0, hnm, hfr, hlo⟩ := C
  simp only [xa_ok, Bool.and_eq_true] at hok
  obtain ⟨k1, k2, k3, k4⟩ := hok
  have hpc : pb = pc := xa_at_of hf hat
  subst hpc
  have hdg := xa_dec_of k1
  have hln : ln = 1 := by simpa [xa_lenOK, xa_len] using k2
  subst hln
  have hnx : xa_at G mi (i + 1) (pb + 1) = true := by simpa [xa_through] using k3
  dsimp only [xa_one1] at ho
  dsimp only at hdg
  unfold xa_two64 at ho
  split at ho
  · next b a st0 =>
    cases ho
    have e4 := kk _ H locs cells slots lr hnx hL hR hS hc hs
    refine lv_lmul hx hb hdg ?_
    rw [xa_mulL]
    exact e4
  · cases ho
theorem xa_s_idiv (C : xa_Cx G S mi X b0 ca v3 D cI cQ p R s m args meth c) {en : xa_E} {i i1 : Nat} {ls ls1 st st1 : List xa_V} {h h1 : xa_H} {pl : List Nat}  (hins : en.2.1 = .idiv) (hf : (G.1 mi)[i]? = some en) (hok : xa_ok G S mi i en pl = true) (ho : xa_one1 X en i ls st h = some (.inl (i1, ls1, st1, h1))) (hm : h1.length ≤ h'.length ∧ xa_sl h1 ≤ xa_sl h') (kk : xa_WW G mi b0 ca v3 D cI cQ p l e R s m args below meth c Q h' i1 ls1 st1 h1) : xa_WW G mi b0 ca v3 D cI cQ p l e R s m args below meth c Q h' i ls st h := by
  obtain ⟨pb, ins, ln, x⟩ := en
  dsimp only at hins
  subst hins
  intro pc H locs cells slots lr hat hL hR hS hc hs
  obtain ⟨hx, hb, hml, hown, hts, hF, h3, hb0, hnm, hfr, hlo⟩ := C
  simp only [xa_ok, Bool.and_eq_true] at hok
  obtain ⟨k1, k2, k3, k4⟩ := hok
  have hpc : pb = pc := xa_at_of hf hat
  subst hpc
  have hdg := xa_dec_of k1
  have hln : ln = 1 := by simpa [xa_lenOK, xa_len] using k2
  subst hln
  have hnx : xa_at G mi (i + 1) (pb + 1) = true := by simpa [xa_through] using k3
  dsimp only [xa_one1] at ho
  dsimp only at hdg
  unfold xa_div at ho
  split at ho
  · next b a st0 =>
    split at ho
    · next hq =>
      cases ho
      obtain ⟨ha, hb2, hne⟩ := hq
      have e4 := kk _ H locs cells slots lr hnx hL hR hS hc hs
      refine lv_idiv hx hb hdg (fun q => hne ((xa_ieq hb2 xa_r0).mp q)) ?_
      rw [xa_idiv ha hb2]
      exact e4
    · cases ho
  · cases ho
theorem xa_s_irem (C : xa_Cx G S mi X b0 ca v3 D cI cQ p R s m args meth c) {en : xa_E} {i i1 : Nat} {ls ls1 st st1 : List xa_V} {h h1 : xa_H} {pl : List Nat}  (hins : en.2.1 = .irem) (hf : (G.1 mi)[i]? = some en) (hok : xa_ok G S mi i en pl = true) (ho : xa_one1 X en i ls st h = some (.inl (i1, ls1, st1, h1))) (hm : h1.length ≤ h'.length ∧ xa_sl h1 ≤ xa_sl h') (kk : xa_WW G mi b0 ca v3 D cI cQ p l e R s m args below meth c Q h' i1 ls1 st1 h1) : xa_WW G mi b0 ca v3 D cI cQ p l e R s m args below meth c Q h' i ls st h := by
  obtain ⟨pb, ins, ln, x⟩ := en
  dsimp only at hins
  subst hins
  intro pc H locs cells slots lr hat hL hR hS hc hs
  obtain ⟨hx, hb, hml, hown, hts, hF, h3, hb0, hnm, hfr, hlo⟩ := C
  simp only [xa_ok, Bool.and_eq_true] at hok
  obtain ⟨k1, k2, k3, k4⟩ := hok
  have hpc : pb = pc := xa_at_of hf hat
  subst hpc
  have hdg := xa_dec_of k1
  have hln : ln = 1 := by simpa [xa_lenOK, xa_len] using k2
  subst hln
  have hnx : xa_at G mi (i + 1) (pb + 1) = true := by simpa [xa_through] using k3
  dsimp only [xa_one1] at ho
  dsimp only at hdg
  unfold xa_div at ho
  split at ho
  · next b a st0 =>
    split at ho
    · next hq =>
      cases ho
      obtain ⟨ha, hb2, hne⟩ := hq
      have e4 := kk _ H locs cells slots lr hnx hL hR hS hc hs
      refine lv_irem hx hb hdg (fun q => hne ((xa_ieq hb2 xa_r0).mp q)) ?_
      rw [xa_irem ha hb2]
      exact e4
    · cases ho
  · cases ho
theorem xa_s_i2b (C : xa_Cx G S mi X b0 ca v3 D cI cQ p R s m args meth c) {en : xa_E} {i i1 : Nat} {ls ls1 st st1 : List xa_V} {h h1 : xa_H} {pl : List Nat}  (hins : en.2.1 = .i2b) (hf : (G.1 mi)[i]? = some en) (hok : xa_ok G S mi i en pl = true) (ho : xa_one1 X en i ls st h = some (.inl (i1, ls1, st1, h1))) (hm : h1.length ≤ h'.length ∧ xa_sl h1 ≤ xa_sl h') (kk : xa_WW G mi b0 ca v3 D cI cQ p l e R s m args below meth c Q h' i1 ls1 st1 h1) : xa_WW G mi b0 ca v3 D cI cQ p l e R s m args below meth c Q h' i ls st h := by
  obtain ⟨pb, ins, ln, x⟩ := en
  dsimp only at hins
  subst hins
  intro pc H locs cells slots lr hat hL hR hS hc hs
  obtain ⟨hx, hb, hml, hown, hts, hF, h3, hb0, hnm, hfr, hlo⟩ := C
  simp only [xa_ok, Bool.and_eq_true] at hok
  obtain ⟨k1, k2, k3, k4⟩ := hok
  have hpc : pb = pc := xa_at_of hf hat
  subst hpc
  have hdg := xa_dec_of k1
  have hln : ln = 1 := by simpa [xa_lenOK, xa_len] using k2
  subst hln
  have hnx : xa_at G mi (i + 1) (pb + 1) = true := by simpa [xa_through] using k3
  dsimp only [xa_one1] at ho
  dsimp only at hdg
  unfold xa_one at ho
  split at ho
  · next a st0 =>
    cases ho
    have e4 := kk _ H locs cells slots lr hnx hL hR hS hc hs
    rw [List.map_cons, show xa_cv b0 ca v3 (xI (xa_i2b a)) = .int (Int32.ofInt (xa_i2b a)) from rfl, show Int32.ofInt (xa_i2b a) = _ from xa_asI _] at e4
    exact lv_i2b hx hb hdg rfl e4
  · cases ho
theorem xa_s_i2s (C : xa_Cx G S mi X b0 ca v3 D cI cQ p R s m args meth c) {en : xa_E} {i i1 : Nat} {ls ls1 st st1 : List xa_V} {h h1 : xa_H} {pl : List Nat}  (hins : en.2.1 = .i2s) (hf : (G.1 mi)[i]? = some en) (hok : xa_ok G S mi i en pl = true) (ho : xa_one1 X en i ls st h = some (.inl (i1, ls1, st1, h1))) (hm : h1.length ≤ h'.length ∧ xa_sl h1 ≤ xa_sl h') (kk : xa_WW G mi b0 ca v3 D cI cQ p l e R s m args below meth c Q h' i1 ls1 st1 h1) : xa_WW G mi b0 ca v3 D cI cQ p l e R s m args below meth c Q h' i ls st h := by
  obtain ⟨pb, ins, ln, x⟩ := en
  dsimp only at hins
  subst hins
  intro pc H locs cells slots lr hat hL hR hS hc hs
  obtain ⟨hx, hb, hml, hown, hts, hF, h3, hb0, hnm, hfr, hlo⟩ := C
  simp only [xa_ok, Bool.and_eq_true] at hok
  obtain ⟨k1, k2, k3, k4⟩ := hok
  have hpc : pb = pc := xa_at_of hf hat
  subst hpc
  have hdg := xa_dec_of k1
  have hln : ln = 1 := by simpa [xa_lenOK, xa_len] using k2
  subst hln
  have hnx : xa_at G mi (i + 1) (pb + 1) = true := by simpa [xa_through] using k3
  dsimp only [xa_one1] at ho
  dsimp only at hdg
  unfold xa_one at ho
  split at ho
  · next a st0 =>
    cases ho
    have e4 := kk _ H locs cells slots lr hnx hL hR hS hc hs
    rw [List.map_cons, show xa_cv b0 ca v3 (xI (xa_i2s a)) = .int (Int32.ofInt (xa_i2s a)) from rfl, show Int32.ofInt (xa_i2s a) = _ from xa_asI _] at e4
    exact lv_i2s hx hb hdg rfl e4
  · cases ho
theorem xa_s_i2c (C : xa_Cx G S mi X b0 ca v3 D cI cQ p R s m args meth c) {en : xa_E} {i i1 : Nat} {ls ls1 st st1 : List xa_V} {h h1 : xa_H} {pl : List Nat}  (hins : en.2.1 = .i2c) (hf : (G.1 mi)[i]? = some en) (hok : xa_ok G S mi i en pl = true) (ho : xa_one1 X en i ls st h = some (.inl (i1, ls1, st1, h1))) (hm : h1.length ≤ h'.length ∧ xa_sl h1 ≤ xa_sl h') (kk : xa_WW G mi b0 ca v3 D cI cQ p l e R s m args below meth c Q h' i1 ls1 st1 h1) : xa_WW G mi b0 ca v3 D cI cQ p l e R s m args below meth c Q h' i ls st h := by
  obtain ⟨pb, ins, ln, x⟩ := en
  dsimp only at hins
  subst hins
  intro pc H locs cells slots lr hat hL hR hS hc hs
  obtain ⟨hx, hb, hml, hown, hts, hF, h3, hb0, hnm, hfr, hlo⟩ := C
  simp only [xa_ok, Bool.and_eq_true] at hok
  obtain ⟨k1, k2, k3, k4⟩ := hok
  have hpc : pb = pc := xa_at_of hf hat
  subst hpc
  have hdg := xa_dec_of k1
  have hln : ln = 1 := by simpa [xa_lenOK, xa_len] using k2
  subst hln
  have hnx : xa_at G mi (i + 1) (pb + 1) = true := by simpa [xa_through] using k3
  dsimp only [xa_one1] at ho
  dsimp only at hdg
  split at ho
  · next a st0 =>
    split at ho
    · next hq =>
      cases ho
      have e4 := kk _ H locs cells slots lr hnx hL hR hS hc hs
      refine lv_i2c hx hb hdg ?_ e4
      obtain ⟨n, rfl⟩ := Int.eq_ofNat_of_zero_le hq.1
      have hn : n < 65536 := by omega
      have e5 : Int32.ofInt (n : Int) = nI n := rfl
      rw [e5, pk_char, pk_tn (by omega), Nat.mod_eq_of_lt hn]
    · cases ho
  · cases ho
theorem xa_s_i2l (C : xa_Cx G S mi X b0 ca v3 D cI cQ p R s m args meth c) {en : xa_E} {i i1 : Nat} {ls ls1 st st1 : List xa_V} {h h1 : xa_H} {pl : List Nat}  (hins : en.2.1 = .i2l) (hf : (G.1 mi)[i]? = some en) (hok : xa_ok G S mi i en pl = true) (ho : xa_one1 X en i ls st h = some (.inl (i1, ls1, st1, h1))) (hm : h1.length ≤ h'.length ∧ xa_sl h1 ≤ xa_sl h') (kk : xa_WW G mi b0 ca v3 D cI cQ p l e R s m args below meth c Q h' i1 ls1 st1 h1) : xa_WW G mi b0 ca v3 D cI cQ p l e R s m args below meth c Q h' i ls st h := by
  obtain ⟨pb, ins, ln, x⟩ := en
  dsimp only at hins
  subst hins
  intro pc H locs cells slots lr hat hL hR hS hc hs
  obtain ⟨hx, hb, hml, hown, hts, hF, h3, hb0, hnm, hfr, hlo⟩ := C
  simp only [xa_ok, Bool.and_eq_true] at hok
  obtain ⟨k1, k2, k3, k4⟩ := hok
  have hpc : pb = pc := xa_at_of hf hat
  subst hpc
  have hdg := xa_dec_of k1
  have hln : ln = 1 := by simpa [xa_lenOK, xa_len] using k2
  subst hln
  have hnx : xa_at G mi (i + 1) (pb + 1) = true := by simpa [xa_through] using k3
  dsimp only [xa_one1] at ho
  dsimp only at hdg
  split at ho
  · next a st0 =>
    split at ho
    · next hq =>
      cases ho
      have e4 := kk _ H locs cells slots lr hnx hL hR hS hc hs
      refine lv_i2l hx hb hdg ?_ e4
      rw [← Int64.toInt_inj, Int32.toInt_toInt64, xa_toI hq, xa_toL ⟨by omega, by omega⟩]
    · cases ho
  · cases ho
theorem xa_s_l2i (C : xa_Cx G S mi X b0 ca v3 D cI cQ p R s m args meth c) {en : xa_E} {i i1 : Nat} {ls ls1 st st1 : List xa_V} {h h1 : xa_H} {pl : List Nat}  (hins : en.2.1 = .l2i) (hf : (G.1 mi)[i]? = some en) (hok : xa_ok G S mi i en pl = true) (ho : xa_one1 X en i ls st h = some (.inl (i1, ls1, st1, h1))) (hm : h1.length ≤ h'.length ∧ xa_sl h1 ≤ xa_sl h') (kk : xa_WW G mi b0 ca v3 D cI cQ p l e R s m args below meth c Q h' i1 ls1 st1 h1) : xa_WW G mi b0 ca v3 D cI cQ p l e R s m args below meth c Q h' i ls st h := by
  obtain ⟨pb, ins, ln, x⟩ := en
  dsimp only at hins
  subst hins
  intro pc H locs cells slots lr hat hL hR hS hc hs
  obtain ⟨hx, hb, hml, hown, hts, hF, h3, hb0, hnm, hfr, hlo⟩ := C
  simp only [xa_ok, Bool.and_eq_true] at hok
  obtain ⟨k1, k2, k3, k4⟩ := hok
  have hpc : pb = pc := xa_at_of hf hat
  subst hpc
  have hdg := xa_dec_of k1
  have hln : ln = 1 := by simpa [xa_lenOK, xa_len] using k2
  subst hln
  have hnx : xa_at G mi (i + 1) (pb + 1) = true := by simpa [xa_through] using k3
  dsimp only [xa_one1] at ho
  dsimp only at hdg
  split at ho
  · next a st0 =>
    cases ho
    have e4 := kk _ H locs cells slots lr hnx hL hR hS hc hs
    refine lv_l2i hx hb hdg ?_ e4
    rw [← Int32.toInt_inj, Int64.toInt_toInt32, Int64.toInt_ofInt, Int32.toInt_ofInt]
    exact Int.bmod_bmod_of_dvd (by decide)
  · cases ho
theorem xa_s_lcmp (C : xa_Cx G S mi X b0 ca v3 D cI cQ p R s m args meth c) {en : xa_E} {i i1 : Nat} {ls ls1 st st1 : List xa_V} {h h1 : xa_H} {pl : List Nat}  (hins : en.2.1 = .lcmp) (hf : (G.1 mi)[i]? = some en) (hok : xa_ok G S mi i en pl = true) (ho : xa_one1 X en i ls st h = some (.inl (i1, ls1, st1, h1))) (hm : h1.length ≤ h'.length ∧ xa_sl h1 ≤ xa_sl h') (kk : xa_WW G mi b0 ca v3 D cI cQ p l e R s m args below meth c Q h' i1 ls1 st1 h1) : xa_WW G mi b0 ca v3 D cI cQ p l e R s m args below meth c Q h' i ls st h := by
  obtain ⟨pb, ins, ln, x⟩ := en
  dsimp only at hins
  subst hins
  intro pc H locs cells slots lr hat hL hR hS hc hs
  obtain ⟨hx, hb, hml, hown, hts, hF, h3, hb0, hnm, hfr, hlo⟩ := C
  simp only [xa_ok, Bool.and_eq_true] at hok
  obtain ⟨k1, k2, k3, k4⟩ := hok
  have hpc : pb = pc := xa_at_of hf hat
  subst hpc
  have hdg := xa_dec_of k1
  have hln : ln = 1 := by simpa [xa_lenOK, xa_len] using k2
  subst hln
  have hnx : xa_at G mi (i + 1) (pb + 1) = true := by simpa [xa_through] using k3
  dsimp only [xa_one1] at ho
  dsimp only at hdg
  unfold xa_lcmp at ho
  split at ho
  · next b a st0 =>
    split at ho
    · next hq =>
      cases ho
      obtain ⟨ha, hb2⟩ := hq
      have e4 := kk _ H locs cells slots lr hnx hL hR hS hc hs
      refine W.lcmp hx hb hdg ?_
      have e5 : lg_cmp (Int64.ofInt a) (Int64.ofInt b) = Int32.ofInt (if a < b then -1 else if a = b then 0 else 1) := by
        unfold lg_cmp
        by_cases q1 : a < b
        · rw [if_pos q1, if_neg (fun z => by have := (xa_llt hb2 ha).mp z; omega), if_neg (fun z => by have := (xa_leq ha hb2).mp z; omega)]
          rfl
        · by_cases q2 : a = b
          · rw [if_neg q1, if_pos q2, if_neg (fun z => by have := (xa_llt hb2 ha).mp z; omega), if_pos ((xa_leq ha hb2).mpr q2)]
            rfl
          · rw [if_neg q1, if_neg q2, if_pos ((xa_llt hb2 ha).mpr (by omega))]
            rfl
      rw [e5]
      exact e4
    · cases ho
  · cases ho
theorem xa_s_iinc (C : xa_Cx G S mi X b0 ca v3 D cI cQ p R s m args meth c) {en : xa_E} {i i1 : Nat} {ls ls1 st st1 : List xa_V} {h h1 : xa_H} {pl : List Nat} {k : Nat} {n : Int} (hins : en.2.1 = .iinc k n) (hf : (G.1 mi)[i]? = some en) (hok : xa_ok G S mi i en pl = true) (ho : xa_one1 X en i ls st h = some (.inl (i1, ls1, st1, h1))) (hm : h1.length ≤ h'.length ∧ xa_sl h1 ≤ xa_sl h') (kk : xa_WW G mi b0 ca v3 D cI cQ p l e R s m args below meth c Q h' i1 ls1 st1 h1) : xa_WW G mi b0 ca v3 D cI cQ p l e R s m args below meth c Q h' i ls st h := by
  obtain ⟨pb, ins, ln, x⟩ := en
  dsimp only at hins
  subst hins
  intro pc H locs cells slots lr hat hL hR hS hc hs
  obtain ⟨hx, hb, hml, hown, hts, hF, h3, hb0, hnm, hfr, hlo⟩ := C
  simp only [xa_ok, Bool.and_eq_true] at hok
  obtain ⟨k1, k2, k3, k4⟩ := hok
  have hpc : pb = pc := xa_at_of hf hat
  subst hpc
  have hdg := xa_dec_of k1
  have hln : ln = 3 := by simpa [xa_lenOK, xa_len] using k2
  subst hln
  have hnx : xa_at G mi (i + 1) (pb + 3) = true := by simpa [xa_through] using k3
  dsimp only [xa_one1] at ho
  dsimp only at hdg
  split at ho
  · next z e1 =>
    cases ho
    have hk2 := hL.2.2.1
    have hk : k < ls.length := (List.getElem?_eq_some_iff.mp e1).1
    have hp := xa_pairs_in (b0 := b0) (ca := ca) (v3 := v3) e1 (by simp)
    obtain ⟨j, hj⟩ := List.getElem?_of_mem hp
    exact lv_iinc hx hb hdg (xa_lr_has hL) (k := j) hj (xa_add z n) (by omega) rfl (fun lr' hl' => kk _ H locs cells slots lr' hnx (xa_lr_set1 (v := xI (z + n)) h3 hk2 (by omega) hl') hR hS hc hs)
  · cases ho
theorem xa_s_dup (C : xa_Cx G S mi X b0 ca v3 D cI cQ p R s m args meth c) {en : xa_E} {i i1 : Nat} {ls ls1 st st1 : List xa_V} {h h1 : xa_H} {pl : List Nat}  (hins : en.2.1 = .dup) (hf : (G.1 mi)[i]? = some en) (hok : xa_ok G S mi i en pl = true) (ho : xa_one1 X en i ls st h = some (.inl (i1, ls1, st1, h1))) (hm : h1.length ≤ h'.length ∧ xa_sl h1 ≤ xa_sl h') (kk : xa_WW G mi b0 ca v3 D cI cQ p l e R s m args below meth c Q h' i1 ls1 st1 h1) : xa_WW G mi b0 ca v3 D cI cQ p l e R s m args below meth c Q h' i ls st h := by
  obtain ⟨pb, ins, ln, x⟩ := en
  dsimp only at hins
  subst hins
  intro pc H locs cells slots lr hat hL hR hS hc hs
  obtain ⟨hx, hb, hml, hown, hts, hF, h3, hb0, hnm, hfr, hlo⟩ := C
  simp only [xa_ok, Bool.and_eq_true] at hok
  obtain ⟨k1, k2, k3, k4⟩ := hok
  have hpc : pb = pc := xa_at_of hf hat
  subst hpc
  have hdg := xa_dec_of k1
  have hln : ln = 1 := by simpa [xa_lenOK, xa_len] using k2
  subst hln
  have hnx : xa_at G mi (i + 1) (pb + 1) = true := by simpa [xa_through] using k3
  dsimp only [xa_one1] at ho
  dsimp only at hdg
  split at ho
  · next v st0 =>
    split at ho
    · next hv =>
      cases ho
      exact lv_dup hx hb hdg (by rw [xa_cv_cat h3]; exact hv) (kk _ H locs cells slots lr hnx hL hR hS hc hs)
    · cases ho
  · cases ho
theorem xa_s_dup2 (C : xa_Cx G S mi X b0 ca v3 D cI cQ p R s m args meth c) {en : xa_E} {i i1 : Nat} {ls ls1 st st1 : List xa_V} {h h1 : xa_H} {pl : List Nat}  (hins : en.2.1 = .dup2) (hf : (G.1 mi)[i]? = some en) (hok : xa_ok G S mi i en pl = true) (ho : xa_one1 X en i ls st h = some (.inl (i1, ls1, st1, h1))) (hm : h1.length ≤ h'.length ∧ xa_sl h1 ≤ xa_sl h') (kk : xa_WW G mi b0 ca v3 D cI cQ p l e R s m args below meth c Q h' i1 ls1 st1 h1) : xa_WW G mi b0 ca v3 D cI cQ p l e R s m args below meth c Q h' i ls st h := by
  obtain ⟨pb, ins, ln, x⟩ := en
  dsimp only at hins
  subst hins
  intro pc H locs cells slots lr hat hL hR hS hc hs
  obtain ⟨hx, hb, hml, hown, hts, hF, h3, hb0, hnm, hfr, hlo⟩ := C
  simp only [xa_ok, Bool.and_eq_true] at hok
  obtain ⟨k1, k2, k3, k4⟩ := hok
  have hpc : pb = pc := xa_at_of hf hat
  subst hpc
  have hdg := xa_dec_of k1
  have hln : ln = 1 := by simpa [xa_lenOK, xa_len] using k2
  subst hln
  have hnx : xa_at G mi (i + 1) (pb + 1) = true := by simpa [xa_through] using k3
  dsimp only [xa_one1] at ho
  dsimp only at hdg
  split at ho
  · next v w st0 =>
    split at ho
    · next hv =>
      cases ho
      exact lv_dup2_11 hx hb hdg (by rw [xa_cv_cat h3]; exact hv.1) (by rw [xa_cv_cat h3]; exact hv.2) (kk _ H locs cells slots lr hnx hL hR hS hc hs)
    · cases ho
  · cases ho
theorem xa_s_pop (C : xa_Cx G S mi X b0 ca v3 D cI cQ p R s m args meth c) {en : xa_E} {i i1 : Nat} {ls ls1 st st1 : List xa_V} {h h1 : xa_H} {pl : List Nat}  (hins : en.2.1 = .pop) (hf : (G.1 mi)[i]? = some en) (hok : xa_ok G S mi i en pl = true) (ho : xa_one1 X en i ls st h = some (.inl (i1, ls1, st1, h1))) (hm : h1.length ≤ h'.length ∧ xa_sl h1 ≤ xa_sl h') (kk : xa_WW G mi b0 ca v3 D cI cQ p l e R s m args below meth c Q h' i1 ls1 st1 h1) : xa_WW G mi b0 ca v3 D cI cQ p l e R s m args below meth c Q h' i ls st h := by
  obtain ⟨pb, ins, ln, x⟩ := en
  dsimp only at hins
  subst hins
  intro pc H locs cells slots lr hat hL hR hS hc hs
  obtain ⟨hx, hb, hml, hown, hts, hF, h3, hb0, hnm, hfr, hlo⟩ := C
  simp only [xa_ok, Bool.and_eq_true] at hok
  obtain ⟨k1, k2, k3, k4⟩ := hok
  have hpc : pb = pc := xa_at_of hf hat
  subst hpc
  have hdg := xa_dec_of k1
  have hln : ln = 1 := by simpa [xa_lenOK, xa_len] using k2
  subst hln
  have hnx : xa_at G mi (i + 1) (pb + 1) = true := by simpa [xa_through] using k3
  dsimp only [xa_one1] at ho
  dsimp only at hdg
  split at ho
  · next v st0 =>
    split at ho
    · next hv =>
      cases ho
      exact lv_pop hx hb hdg (by rw [xa_cv_cat h3]; exact hv) (kk _ H locs cells slots lr hnx hL hR hS hc hs)
    · cases ho
  · cases ho
theorem xa_s_goto (C : xa_Cx G S mi X b0 ca v3 D cI cQ p R s m args meth c) {en : xa_E} {i i1 : Nat} {ls ls1 st st1 : List xa_V} {h h1 : xa_H} {pl : List Nat} {off : Int} (hins : en.2.1 = .goto off) (hf : (G.1 mi)[i]? = some en) (hok : xa_ok G S mi i en pl = true) (ho : xa_one1 X en i ls st h = some (.inl (i1, ls1, st1, h1))) (hm : h1.length ≤ h'.length ∧ xa_sl h1 ≤ xa_sl h') (kk : xa_WW G mi b0 ca v3 D cI cQ p l e R s m args below meth c Q h' i1 ls1 st1 h1) : xa_WW G mi b0 ca v3 D cI cQ p l e R s m args below meth c Q h' i ls st h := by
  obtain ⟨pb, ins, ln, x⟩ := en
  dsimp only at hins
  subst hins
  intro pc H locs cells slots lr hat hL hR hS hc hs
  obtain ⟨hx, hb, hml, hown, hts, hF, h3, hb0, hnm, hfr, hlo⟩ := C
  simp only [xa_ok, Bool.and_eq_true] at hok
  obtain ⟨k1, k2, k3, k4⟩ := hok
  have hpc : pb = pc := xa_at_of hf hat
  subst hpc
  have hdg := xa_dec_of k1
  have hln : ln = 3 := by simpa [xa_lenOK, xa_len] using k2
  subst hln
  dsimp only [xa_one1] at ho
  dsimp only at hdg
  split at ho
  · next t =>
    cases ho
    match pl, k4 with
    | [], k4 =>
      obtain ⟨b, hb1, hb2⟩ := xa_jmp_of (show xa_jmp G mi pb t off = true from by simpa [xa_extra] using k4)
      exact lv_goto hx hb hdg hb1 (kk _ H locs cells slots lr hb2 hL hR hS hc hs)
  · cases ho
theorem xa_s_icmp (C : xa_Cx G S mi X b0 ca v3 D cI cQ p R s m args meth c) {en : xa_E} {i i1 : Nat} {ls ls1 st st1 : List xa_V} {h h1 : xa_H} {pl : List Nat} {cd : Jvm.ClassFile.Cond} {off : Int} (hins : en.2.1 = .if_icmp cd off) (hf : (G.1 mi)[i]? = some en) (hok : xa_ok G S mi i en pl = true) (ho : xa_one1 X en i ls st h = some (.inl (i1, ls1, st1, h1))) (hm : h1.length ≤ h'.length ∧ xa_sl h1 ≤ xa_sl h') (kk : xa_WW G mi b0 ca v3 D cI cQ p l e R s m args below meth c Q h' i1 ls1 st1 h1) : xa_WW G mi b0 ca v3 D cI cQ p l e R s m args below meth c Q h' i ls st h := by
  obtain ⟨pb, ins, ln, x⟩ := en
  dsimp only at hins
  subst hins
  intro pc H locs cells slots lr hat hL hR hS hc hs
  obtain ⟨hx, hb, hml, hown, hts, hF, h3, hb0, hnm, hfr, hlo⟩ := C
  simp only [xa_ok, Bool.and_eq_true] at hok
  obtain ⟨k1, k2, k3, k4⟩ := hok
  have hpc : pb = pc := xa_at_of hf hat
  subst hpc
  have hdg := xa_dec_of k1
  have hln : ln = 3 := by simpa [xa_lenOK, xa_len] using k2
  subst hln
  have hnx : xa_at G mi (i + 1) (pb + 3) = true := by simpa [xa_through] using k3
  dsimp only [xa_one1] at ho
  dsimp only at hdg
  unfold xa_if2 at ho
  split at ho
  · next b a st0 t =>
    rw [xa_cmpw_eq] at ho
    match pl, k4 with
    | [], k4 =>
      obtain ⟨tb, hb1, hbt⟩ := xa_jmp_of (show xa_jmp G mi pb t off = true from by simpa [xa_extra] using k4)
      have key : (xa_cmp cd (xa_w a) (xa_w b) = true → W p l e R s m args below meth c H locs cells slots Q (F0 m tb lr (st0.map (xa_cv b0 ca v3)))) ∧ (¬ xa_cmp cd (xa_w a) (xa_w b) = true → W p l e R s m args below meth c H locs cells slots Q (F0 m (pb + 3) lr (st0.map (xa_cv b0 ca v3)))) := by
        refine ⟨fun q => ?_, fun q => ?_⟩
        · rw [if_pos q] at ho
          cases ho
          exact kk _ H locs cells slots lr hbt hL hR hS hc hs
        · rw [if_neg q] at ho
          cases ho
          exact kk _ H locs cells slots lr hnx hL hR hS hc hs
      obtain ⟨kt, kf⟩ := key
      cases cd with
      | eq => exact lv_icmp_eq hx hb hdg hb1 (fun z => kt (decide_eq_true ((xa_weq a b).mp z))) (fun z => kf (fun q => z ((xa_weq a b).mpr (of_decide_eq_true q))))
      | ne => exact lv_icmp_ne hx hb hdg hb1 (fun z => kt (decide_eq_true (fun q => z ((xa_weq a b).mpr q)))) (fun z => kf (fun q => of_decide_eq_true q ((xa_weq a b).mp z)))
      | lt => exact lv_icmp_lt hx hb hdg hb1 (fun z => kt (decide_eq_true ((xa_wlt a b).mp z))) (fun z => kf (fun q => z ((xa_wlt a b).mpr (of_decide_eq_true q))))
      | ge => exact lv_icmp_ge hx hb hdg hb1 (fun z => kt (decide_eq_true ((xa_wle b a).mp z))) (fun z => kf (fun q => z ((xa_wle b a).mpr (of_decide_eq_true q))))
      | gt => exact lv_icmp_gt hx hb hdg hb1 (fun z => kt (decide_eq_true ((xa_wlt b a).mp z))) (fun z => kf (fun q => z ((xa_wlt b a).mpr (of_decide_eq_true q))))
      | le => exact lv_icmp_le hx hb hdg hb1 (fun z => kt (decide_eq_true ((xa_wle a b).mp z))) (fun z => kf (fun q => z ((xa_wle a b).mpr (of_decide_eq_true q))))
  · cases ho
theorem xa_s_ifc (C : xa_Cx G S mi X b0 ca v3 D cI cQ p R s m args meth c) {en : xa_E} {i i1 : Nat} {ls ls1 st st1 : List xa_V} {h h1 : xa_H} {pl : List Nat} {cd : Jvm.ClassFile.Cond} {off : Int} (hins : en.2.1 = .ifCond cd off) (hf : (G.1 mi)[i]? = some en) (hok : xa_ok G S mi i en pl = true) (ho : xa_one1 X en i ls st h = some (.inl (i1, ls1, st1, h1))) (hm : h1.length ≤ h'.length ∧ xa_sl h1 ≤ xa_sl h') (kk : xa_WW G mi b0 ca v3 D cI cQ p l e R s m args below meth c Q h' i1 ls1 st1 h1) : xa_WW G mi b0 ca v3 D cI cQ p l e R s m args below meth c Q h' i ls st h := by
  obtain ⟨pb, ins, ln, x⟩ := en
  dsimp only at hins
  subst hins
  intro pc H locs cells slots lr hat hL hR hS hc hs
  obtain ⟨hx, hb, hml, hown, hts, hF, h3, hb0, hnm, hfr, hlo⟩ := C
  simp only [xa_ok, Bool.and_eq_true] at hok
  obtain ⟨k1, k2, k3, k4⟩ := hok
  have hpc : pb = pc := xa_at_of hf hat
  subst hpc
  have hdg := xa_dec_of k1
  have hln : ln = 3 := by simpa [xa_lenOK, xa_len] using k2
  subst hln
  have hnx : xa_at G mi (i + 1) (pb + 3) = true := by simpa [xa_through] using k3
  dsimp only [xa_one1] at ho
  dsimp only at hdg
  unfold xa_if1 at ho
  split at ho
  · next a st0 t =>
    rw [xa_cmpw_eq] at ho
    match pl, k4 with
    | [], k4 =>
      obtain ⟨tb, hb1, hbt⟩ := xa_jmp_of (show xa_jmp G mi pb t off = true from by simpa [xa_extra] using k4)
      have key : (xa_cmp cd (xa_w a) (xa_w 0) = true → W p l e R s m args below meth c H locs cells slots Q (F0 m tb lr (st0.map (xa_cv b0 ca v3)))) ∧ (¬ xa_cmp cd (xa_w a) (xa_w 0) = true → W p l e R s m args below meth c H locs cells slots Q (F0 m (pb + 3) lr (st0.map (xa_cv b0 ca v3)))) := by
        refine ⟨fun q => ?_, fun q => ?_⟩
        · rw [if_pos q] at ho
          cases ho
          exact kk _ H locs cells slots lr hbt hL hR hS hc hs
        · rw [if_neg q] at ho
          cases ho
          exact kk _ H locs cells slots lr hnx hL hR hS hc hs
      obtain ⟨kt, kf⟩ := key
      cases cd with
      | eq => exact lv_if_eq hx hb hdg hb1 (fun z => kt (decide_eq_true ((xa_weq a 0).mp z))) (fun z => kf (fun q => z ((xa_weq a 0).mpr (of_decide_eq_true q))))
      | ne => exact lv_if_ne hx hb hdg hb1 (fun z => kt (decide_eq_true (fun q => z ((xa_weq a 0).mpr q)))) (fun z => kf (fun q => of_decide_eq_true q ((xa_weq a 0).mp z)))
      | lt => exact lv_if_lt hx hb hdg hb1 (fun z => kt (decide_eq_true ((xa_wlt a 0).mp z))) (fun z => kf (fun q => z ((xa_wlt a 0).mpr (of_decide_eq_true q))))
      | ge => exact lv_if_ge hx hb hdg hb1 (fun z => kt (decide_eq_true ((xa_wle 0 a).mp z))) (fun z => kf (fun q => z ((xa_wle 0 a).mpr (of_decide_eq_true q))))
      | gt => exact lv_if_gt hx hb hdg hb1 (fun z => kt (decide_eq_true ((xa_wlt 0 a).mp z))) (fun z => kf (fun q => z ((xa_wlt 0 a).mpr (of_decide_eq_true q))))
      | le => exact lv_if_le hx hb hdg hb1 (fun z => kt (decide_eq_true ((xa_wle a 0).mp z))) (fun z => kf (fun q => z ((xa_wle a 0).mpr (of_decide_eq_true q))))
  · cases ho
theorem xa_s_tsw (C : xa_Cx G S mi X b0 ca v3 D cI cQ p R s m args meth c) {en : xa_E} {i i1 : Nat} {ls ls1 st st1 : List xa_V} {h h1 : xa_H} {pl : List Nat} {d lo hi : Int} {offs : Array Int} (hins : en.2.1 = .tableswitch d lo hi offs) (hf : (G.1 mi)[i]? = some en) (hok : xa_ok G S mi i en pl = true) (ho : xa_one1 X en i ls st h = some (.inl (i1, ls1, st1, h1))) (hm : h1.length ≤ h'.length ∧ xa_sl h1 ≤ xa_sl h') (kk : xa_WW G mi b0 ca v3 D cI cQ p l e R s m args below meth c Q h' i1 ls1 st1 h1) : xa_WW G mi b0 ca v3 D cI cQ p l e R s m args below meth c Q h' i ls st h := by
  obtain ⟨pb, ins, ln, x⟩ := en
  dsimp only at hins
  subst hins
  intro pc H locs cells slots lr hat hL hR hS hc hs
  obtain ⟨hx, hb, hml, hown, hts, hF, h3, hb0, hnm, hfr, hlo⟩ := C
  simp only [xa_ok, Bool.and_eq_true] at hok
  obtain ⟨k1, k2, k3, k4⟩ := hok
  have hpc : pb = pc := xa_at_of hf hat
  subst hpc
  have hdg := xa_dec_of k1
  dsimp only [xa_one1] at ho
  dsimp only at hdg
  unfold xa_sw at ho
  split at ho
  · next dt ts z st0 =>
    split at ho
    · next hz =>
      match pl, k4 with
      | [], k4 =>
        simp only [xa_extra, Bool.and_eq_true] at k4
        obtain ⟨k5, k6⟩ := k4
        split at ho
        · next hq =>
          cases ho
          obtain ⟨b, hb1, hb2⟩ := xa_jmp_of k5
          exact lv_tableOut hx hb hdg (by rw [xa_toI hz]; exact hq) hb1 (kk _ H locs cells slots lr hb2 hL hR hS hc hs)
        · next hq =>
          split at ho
          · next t ht =>
            cases ho
            have hlt := (List.getElem?_eq_some_iff.mp ht).1
            have k7 := List.all_eq_true.mp k6 _ (List.mem_range.mpr hlt)
            rw [ht] at k7
            split at k7
            · next o1 o ho1 ho2 =>
              cases ho1
              obtain ⟨b, hb1, hb2⟩ := xa_jmp_of k7
              exact lv_tableIn hx hb hdg (by rw [xa_toI hz]; omega) (by rw [xa_toI hz]; omega) (by rw [xa_toI hz]; exact ho2) hb1 (kk _ H locs cells slots lr hb2 hL hR hS hc hs)
            · cases k7
          · cases ho
    · cases ho
  · cases ho
end XS
end
