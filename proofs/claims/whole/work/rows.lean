section
-- ===== PART A: goes FIRST, ahead of the names: the tables' words, and 'selects' of the private methods out of them =====
/-- a private method of a class that the tables say can be made, by its rows of tables_1 -/
def lw_okq (q : MethodName × Nat) : Prop := (q.1.cls ≠ "java/lang/invoke/MethodHandle" ∧ q.1.cls ≠ "java/lang/invoke/VarHandle") ∧ Cond.instantiable q.1.cls q.2 ∈ tables_1 ∧ Cond.privateMethod q.1 ∈ tables_1 ∧ Cond.instanceMethod q.1 ∈ tables_1
theorem lw_p0 : lw_okq (⟨"InkHours", "finding", "(I)I"⟩, 11) := ⟨⟨by decide +kernel, by decide +kernel⟩, List.mem_of_getElem? (i := 19) (by decide +kernel), List.mem_of_getElem? (i := 280) (by decide +kernel), List.mem_of_getElem? (i := 281) (by decide +kernel)⟩
theorem lw_p1 : lw_okq (⟨"InkHours", "isMark", "(II)Z"⟩, 11) := ⟨⟨by decide +kernel, by decide +kernel⟩, List.mem_of_getElem? (i := 19) (by decide +kernel), List.mem_of_getElem? (i := 325) (by decide +kernel), List.mem_of_getElem? (i := 326) (by decide +kernel)⟩
theorem lw_p2 : lw_okq (⟨"InkHours", "reckoned", "(I)LInkHours$Course;"⟩, 11) := ⟨⟨by decide +kernel, by decide +kernel⟩, List.mem_of_getElem? (i := 19) (by decide +kernel), List.mem_of_getElem? (i := 362) (by decide +kernel), List.mem_of_getElem? (i := 363) (by decide +kernel)⟩
theorem lw_p3 : lw_okq (⟨"InkHours$Course", "stepBehind", "(I)I"⟩, 4) := ⟨⟨by decide +kernel, by decide +kernel⟩, List.mem_of_getElem? (i := 177) (by decide +kernel), List.mem_of_getElem? (i := 438) (by decide +kernel), List.mem_of_getElem? (i := 439) (by decide +kernel)⟩
theorem lw_p4 : lw_okq (⟨"InkHours", "cheapestPair", "(LInkHours$Course;III)I"⟩, 11) := ⟨⟨by decide +kernel, by decide +kernel⟩, List.mem_of_getElem? (i := 19) (by decide +kernel), List.mem_of_getElem? (i := 486) (by decide +kernel), List.mem_of_getElem? (i := 487) (by decide +kernel)⟩
theorem lw_p5 : lw_okq (⟨"InkHours$Copies", "laySteps", "(LInkHours$Course;IIII)V"⟩, 5) := ⟨⟨by decide +kernel, by decide +kernel⟩, List.mem_of_getElem? (i := 156) (by decide +kernel), List.mem_of_getElem? (i := 501) (by decide +kernel), List.mem_of_getElem? (i := 502) (by decide +kernel)⟩
theorem lw_p6 : lw_okq (⟨"InkHours$Copies", "addStep", "(II)V"⟩, 5) := ⟨⟨by decide +kernel, by decide +kernel⟩, List.mem_of_getElem? (i := 156) (by decide +kernel), List.mem_of_getElem? (i := 506) (by decide +kernel), List.mem_of_getElem? (i := 507) (by decide +kernel)⟩
theorem lw_p7 : lw_okq (⟨"InkHours$Copies", "laySets", "(LInkHours$Course;I)I"⟩, 5) := ⟨⟨by decide +kernel, by decide +kernel⟩, List.mem_of_getElem? (i := 156) (by decide +kernel), List.mem_of_getElem? (i := 513) (by decide +kernel), List.mem_of_getElem? (i := 514) (by decide +kernel)⟩
theorem lw_p8 : lw_okq (⟨"InkHours$Copies", "keepsWith", "(LInkHours$Course;II)Z"⟩, 5) := ⟨⟨by decide +kernel, by decide +kernel⟩, List.mem_of_getElem? (i := 156) (by decide +kernel), List.mem_of_getElem? (i := 526) (by decide +kernel), List.mem_of_getElem? (i := 527) (by decide +kernel)⟩
theorem lw_p9 : lw_okq (⟨"InkHours", "firstUnfaded", "(III)I"⟩, 11) := ⟨⟨by decide +kernel, by decide +kernel⟩, List.mem_of_getElem? (i := 19) (by decide +kernel), List.mem_of_getElem? (i := 562) (by decide +kernel), List.mem_of_getElem? (i := 563) (by decide +kernel)⟩
theorem lw_p10 : lw_okq (⟨"InkHours$Text", "readItem", "()Z"⟩, 3) := ⟨⟨by decide +kernel, by decide +kernel⟩, List.mem_of_getElem? (i := 138) (by decide +kernel), List.mem_of_getElem? (i := 630) (by decide +kernel), List.mem_of_getElem? (i := 631) (by decide +kernel)⟩
theorem lw_p11 : lw_okq (⟨"InkHours$Text", "passName", "(Ljava/lang/String;)Z"⟩, 3) := ⟨⟨by decide +kernel, by decide +kernel⟩, List.mem_of_getElem? (i := 138) (by decide +kernel), List.mem_of_getElem? (i := 635) (by decide +kernel), List.mem_of_getElem? (i := 636) (by decide +kernel)⟩
theorem lw_p12 : lw_okq (⟨"InkHours$Text", "readInk", "()Z"⟩, 3) := ⟨⟨by decide +kernel, by decide +kernel⟩, List.mem_of_getElem? (i := 138) (by decide +kernel), List.mem_of_getElem? (i := 692) (by decide +kernel), List.mem_of_getElem? (i := 693) (by decide +kernel)⟩
theorem lw_p13 : lw_okq (⟨"InkHours$Text", "passNumber", "(II)Z"⟩, 3) := ⟨⟨by decide +kernel, by decide +kernel⟩, List.mem_of_getElem? (i := 138) (by decide +kernel), List.mem_of_getElem? (i := 696) (by decide +kernel), List.mem_of_getElem? (i := 697) (by decide +kernel)⟩
theorem lw_p14 : lw_okq (⟨"InkHours$Text", "readPaper", "()Z"⟩, 3) := ⟨⟨by decide +kernel, by decide +kernel⟩, List.mem_of_getElem? (i := 138) (by decide +kernel), List.mem_of_getElem? (i := 704) (by decide +kernel), List.mem_of_getElem? (i := 705) (by decide +kernel)⟩
theorem lw_p15 : lw_okq (⟨"InkHours$Text", "readOn", "()Z"⟩, 3) := ⟨⟨by decide +kernel, by decide +kernel⟩, List.mem_of_getElem? (i := 138) (by decide +kernel), List.mem_of_getElem? (i := 711) (by decide +kernel), List.mem_of_getElem? (i := 712) (by decide +kernel)⟩
def lw_privs_1 : List (MethodName × Nat) := [(⟨"InkHours", "finding", "(I)I"⟩, 11), (⟨"InkHours", "isMark", "(II)Z"⟩, 11), (⟨"InkHours", "reckoned", "(I)LInkHours$Course;"⟩, 11), (⟨"InkHours$Course", "stepBehind", "(I)I"⟩, 4), (⟨"InkHours", "cheapestPair", "(LInkHours$Course;III)I"⟩, 11), (⟨"InkHours$Copies", "laySteps", "(LInkHours$Course;IIII)V"⟩, 5), (⟨"InkHours$Copies", "addStep", "(II)V"⟩, 5), (⟨"InkHours$Copies", "laySets", "(LInkHours$Course;I)I"⟩, 5), (⟨"InkHours$Copies", "keepsWith", "(LInkHours$Course;II)Z"⟩, 5), (⟨"InkHours", "firstUnfaded", "(III)I"⟩, 11), (⟨"InkHours$Text", "readItem", "()Z"⟩, 3), (⟨"InkHours$Text", "passName", "(Ljava/lang/String;)Z"⟩, 3), (⟨"InkHours$Text", "readInk", "()Z"⟩, 3), (⟨"InkHours$Text", "passNumber", "(II)Z"⟩, 3), (⟨"InkHours$Text", "readPaper", "()Z"⟩, 3), (⟨"InkHours$Text", "readOn", "()Z"⟩, 3)]
theorem lw_r1 : ∀ q ∈ lw_privs_1, lw_okq q := List.forall_mem_cons.mpr ⟨lw_p0, List.forall_mem_cons.mpr ⟨lw_p1, List.forall_mem_cons.mpr ⟨lw_p2, List.forall_mem_cons.mpr ⟨lw_p3, List.forall_mem_cons.mpr ⟨lw_p4, List.forall_mem_cons.mpr ⟨lw_p5, List.forall_mem_cons.mpr ⟨lw_p6, List.forall_mem_cons.mpr ⟨lw_p7, List.forall_mem_cons.mpr ⟨lw_p8, List.forall_mem_cons.mpr ⟨lw_p9, List.forall_mem_cons.mpr ⟨lw_p10, List.forall_mem_cons.mpr ⟨lw_p11, List.forall_mem_cons.mpr ⟨lw_p12, List.forall_mem_cons.mpr ⟨lw_p13, List.forall_mem_cons.mpr ⟨lw_p14, List.forall_mem_cons.mpr ⟨lw_p15, fun _ h => absurd h List.not_mem_nil⟩⟩⟩⟩⟩⟩⟩⟩⟩⟩⟩⟩⟩⟩⟩⟩
theorem lw_p16 : lw_okq (⟨"InkHours$Text", "kindOfName", "()I"⟩, 3) := ⟨⟨by decide +kernel, by decide +kernel⟩, List.mem_of_getElem? (i := 138) (by decide +kernel), List.mem_of_getElem? (i := 715) (by decide +kernel), List.mem_of_getElem? (i := 716) (by decide +kernel)⟩
theorem lw_p17 : lw_okq (⟨"InkHours$Text", "readMark", "(LInkHours$Paper;II)Z"⟩, 3) := ⟨⟨by decide +kernel, by decide +kernel⟩, List.mem_of_getElem? (i := 138) (by decide +kernel), List.mem_of_getElem? (i := 730) (by decide +kernel), List.mem_of_getElem? (i := 731) (by decide +kernel)⟩
theorem lw_p18 : lw_okq (⟨"InkHours", "marksInAll", "()I"⟩, 11) := ⟨⟨by decide +kernel, by decide +kernel⟩, List.mem_of_getElem? (i := 19) (by decide +kernel), List.mem_of_getElem? (i := 812) (by decide +kernel), List.mem_of_getElem? (i := 813) (by decide +kernel)⟩
theorem lw_p19 : lw_okq (⟨"InkHours", "marksSeenNow", "()I"⟩, 11) := ⟨⟨by decide +kernel, by decide +kernel⟩, List.mem_of_getElem? (i := 19) (by decide +kernel), List.mem_of_getElem? (i := 816) (by decide +kernel), List.mem_of_getElem? (i := 817) (by decide +kernel)⟩
theorem lw_p20 : lw_okq (⟨"InkHours", "papersWithMeaning", "()I"⟩, 11) := ⟨⟨by decide +kernel, by decide +kernel⟩, List.mem_of_getElem? (i := 19) (by decide +kernel), List.mem_of_getElem? (i := 820) (by decide +kernel), List.mem_of_getElem? (i := 821) (by decide +kernel)⟩
theorem lw_p21 : lw_okq (⟨"InkHoursModel", "finds", "(I)I"⟩, 21) := ⟨⟨by decide +kernel, by decide +kernel⟩, List.mem_of_getElem? (i := 832) (by decide +kernel), List.mem_of_getElem? (i := 911) (by decide +kernel), List.mem_of_getElem? (i := 912) (by decide +kernel)⟩
theorem lw_p22 : lw_okq (⟨"InkHoursModel", "newMark", "(IIII)I"⟩, 21) := ⟨⟨by decide +kernel, by decide +kernel⟩, List.mem_of_getElem? (i := 832) (by decide +kernel), List.mem_of_getElem? (i := 940) (by decide +kernel), List.mem_of_getElem? (i := 941) (by decide +kernel)⟩
theorem lw_p23 : lw_okq (⟨"InkHoursModel", "isMark", "(II)Z"⟩, 21) := ⟨⟨by decide +kernel, by decide +kernel⟩, List.mem_of_getElem? (i := 832) (by decide +kernel), List.mem_of_getElem? (i := 951) (by decide +kernel), List.mem_of_getElem? (i := 952) (by decide +kernel)⟩
theorem lw_p24 : lw_okq (⟨"InkHoursModel", "staysOf", "(II)I"⟩, 21) := ⟨⟨by decide +kernel, by decide +kernel⟩, List.mem_of_getElem? (i := 832) (by decide +kernel), List.mem_of_getElem? (i := 956) (by decide +kernel), List.mem_of_getElem? (i := 957) (by decide +kernel)⟩
theorem lw_p25 : lw_okq (⟨"InkHoursModel", "copies", "(III)V"⟩, 21) := ⟨⟨by decide +kernel, by decide +kernel⟩, List.mem_of_getElem? (i := 832) (by decide +kernel), List.mem_of_getElem? (i := 972) (by decide +kernel), List.mem_of_getElem? (i := 973) (by decide +kernel)⟩
theorem lw_p26 : lw_okq (⟨"InkHoursModel", "seenOf", "(II)I"⟩, 21) := ⟨⟨by decide +kernel, by decide +kernel⟩, List.mem_of_getElem? (i := 832) (by decide +kernel), List.mem_of_getElem? (i := 984) (by decide +kernel), List.mem_of_getElem? (i := 985) (by decide +kernel)⟩
theorem lw_p27 : lw_okq (⟨"InkHoursModel", "isSeen", "(III)Z"⟩, 21) := ⟨⟨by decide +kernel, by decide +kernel⟩, List.mem_of_getElem? (i := 832) (by decide +kernel), List.mem_of_getElem? (i := 988) (by decide +kernel), List.mem_of_getElem? (i := 989) (by decide +kernel)⟩
theorem lw_p28 : lw_okq (⟨"InkHoursModel", "ageOf", "(III)I"⟩, 21) := ⟨⟨by decide +kernel, by decide +kernel⟩, List.mem_of_getElem? (i := 832) (by decide +kernel), List.mem_of_getElem? (i := 992) (by decide +kernel), List.mem_of_getElem? (i := 993) (by decide +kernel)⟩
theorem lw_p29 : lw_okq (⟨"InkHoursModel", "meansAt", "(II)I"⟩, 21) := ⟨⟨by decide +kernel, by decide +kernel⟩, List.mem_of_getElem? (i := 832) (by decide +kernel), List.mem_of_getElem? (i := 1012) (by decide +kernel), List.mem_of_getElem? (i := 1013) (by decide +kernel)⟩
theorem lw_p30 : lw_okq (⟨"InkHoursModel", "begins", "()V"⟩, 21) := ⟨⟨by decide +kernel, by decide +kernel⟩, List.mem_of_getElem? (i := 832) (by decide +kernel), List.mem_of_getElem? (i := 1016) (by decide +kernel), List.mem_of_getElem? (i := 1017) (by decide +kernel)⟩
theorem lw_p31 : lw_okq (⟨"InkHoursModel", "reads", "(II)V"⟩, 21) := ⟨⟨by decide +kernel, by decide +kernel⟩, List.mem_of_getElem? (i := 832) (by decide +kernel), List.mem_of_getElem? (i := 1021) (by decide +kernel), List.mem_of_getElem? (i := 1022) (by decide +kernel)⟩
def lw_privs_2 : List (MethodName × Nat) := [(⟨"InkHours$Text", "kindOfName", "()I"⟩, 3), (⟨"InkHours$Text", "readMark", "(LInkHours$Paper;II)Z"⟩, 3), (⟨"InkHours", "marksInAll", "()I"⟩, 11), (⟨"InkHours", "marksSeenNow", "()I"⟩, 11), (⟨"InkHours", "papersWithMeaning", "()I"⟩, 11), (⟨"InkHoursModel", "finds", "(I)I"⟩, 21), (⟨"InkHoursModel", "newMark", "(IIII)I"⟩, 21), (⟨"InkHoursModel", "isMark", "(II)Z"⟩, 21), (⟨"InkHoursModel", "staysOf", "(II)I"⟩, 21), (⟨"InkHoursModel", "copies", "(III)V"⟩, 21), (⟨"InkHoursModel", "seenOf", "(II)I"⟩, 21), (⟨"InkHoursModel", "isSeen", "(III)Z"⟩, 21), (⟨"InkHoursModel", "ageOf", "(III)I"⟩, 21), (⟨"InkHoursModel", "meansAt", "(II)I"⟩, 21), (⟨"InkHoursModel", "begins", "()V"⟩, 21), (⟨"InkHoursModel", "reads", "(II)V"⟩, 21)]
theorem lw_r2 : ∀ q ∈ lw_privs_2, lw_okq q := List.forall_mem_cons.mpr ⟨lw_p16, List.forall_mem_cons.mpr ⟨lw_p17, List.forall_mem_cons.mpr ⟨lw_p18, List.forall_mem_cons.mpr ⟨lw_p19, List.forall_mem_cons.mpr ⟨lw_p20, List.forall_mem_cons.mpr ⟨lw_p21, List.forall_mem_cons.mpr ⟨lw_p22, List.forall_mem_cons.mpr ⟨lw_p23, List.forall_mem_cons.mpr ⟨lw_p24, List.forall_mem_cons.mpr ⟨lw_p25, List.forall_mem_cons.mpr ⟨lw_p26, List.forall_mem_cons.mpr ⟨lw_p27, List.forall_mem_cons.mpr ⟨lw_p28, List.forall_mem_cons.mpr ⟨lw_p29, List.forall_mem_cons.mpr ⟨lw_p30, List.forall_mem_cons.mpr ⟨lw_p31, fun _ h => absurd h List.not_mem_nil⟩⟩⟩⟩⟩⟩⟩⟩⟩⟩⟩⟩⟩⟩⟩⟩
theorem lw_p32 : lw_okq (⟨"InkHoursModel", "meaning", "()I"⟩, 21) := ⟨⟨by decide +kernel, by decide +kernel⟩, List.mem_of_getElem? (i := 832) (by decide +kernel), List.mem_of_getElem? (i := 1032) (by decide +kernel), List.mem_of_getElem? (i := 1033) (by decide +kernel)⟩
theorem lw_p33 : lw_okq (⟨"InkHoursModel", "isStaying", "(III)Z"⟩, 21) := ⟨⟨by decide +kernel, by decide +kernel⟩, List.mem_of_getElem? (i := 832) (by decide +kernel), List.mem_of_getElem? (i := 1067) (by decide +kernel), List.mem_of_getElem? (i := 1068) (by decide +kernel)⟩
theorem lw_p34 : lw_okq (⟨"InkHoursModel", "puts", "()V"⟩, 21) := ⟨⟨by decide +kernel, by decide +kernel⟩, List.mem_of_getElem? (i := 832) (by decide +kernel), List.mem_of_getElem? (i := 1076) (by decide +kernel), List.mem_of_getElem? (i := 1077) (by decide +kernel)⟩
theorem lw_p35 : lw_okq (⟨"InkHoursModel", "putsBack", "()V"⟩, 21) := ⟨⟨by decide +kernel, by decide +kernel⟩, List.mem_of_getElem? (i := 832) (by decide +kernel), List.mem_of_getElem? (i := 1080) (by decide +kernel), List.mem_of_getElem? (i := 1081) (by decide +kernel)⟩
theorem lw_p36 : lw_okq (⟨"InkHoursModel", "forgedBy", "(IIII)I"⟩, 21) := ⟨⟨by decide +kernel, by decide +kernel⟩, List.mem_of_getElem? (i := 832) (by decide +kernel), List.mem_of_getElem? (i := 1106) (by decide +kernel), List.mem_of_getElem? (i := 1107) (by decide +kernel)⟩
theorem lw_p37 : lw_okq (⟨"InkHoursModel", "token", "()V"⟩, 21) := ⟨⟨by decide +kernel, by decide +kernel⟩, List.mem_of_getElem? (i := 832) (by decide +kernel), List.mem_of_getElem? (i := 1144) (by decide +kernel), List.mem_of_getElem? (i := 1145) (by decide +kernel)⟩
theorem lw_p38 : lw_okq (⟨"InkHoursModel", "byteAt", "(I)I"⟩, 21) := ⟨⟨by decide +kernel, by decide +kernel⟩, List.mem_of_getElem? (i := 832) (by decide +kernel), List.mem_of_getElem? (i := 1148) (by decide +kernel), List.mem_of_getElem? (i := 1149) (by decide +kernel)⟩
theorem lw_p39 : lw_okq (⟨"InkHoursModel", "item", "()V"⟩, 21) := ⟨⟨by decide +kernel, by decide +kernel⟩, List.mem_of_getElem? (i := 832) (by decide +kernel), List.mem_of_getElem? (i := 1162) (by decide +kernel), List.mem_of_getElem? (i := 1163) (by decide +kernel)⟩
theorem lw_p40 : lw_okq (⟨"InkHoursModel", "word", "()J"⟩, 21) := ⟨⟨by decide +kernel, by decide +kernel⟩, List.mem_of_getElem? (i := 832) (by decide +kernel), List.mem_of_getElem? (i := 1166) (by decide +kernel), List.mem_of_getElem? (i := 1167) (by decide +kernel)⟩
theorem lw_p41 : lw_okq (⟨"InkHoursModel", "inkItem", "()V"⟩, 21) := ⟨⟨by decide +kernel, by decide +kernel⟩, List.mem_of_getElem? (i := 832) (by decide +kernel), List.mem_of_getElem? (i := 1173) (by decide +kernel), List.mem_of_getElem? (i := 1174) (by decide +kernel)⟩
theorem lw_p42 : lw_okq (⟨"InkHoursModel", "needs", "(Z)V"⟩, 21) := ⟨⟨by decide +kernel, by decide +kernel⟩, List.mem_of_getElem? (i := 832) (by decide +kernel), List.mem_of_getElem? (i := 1177) (by decide +kernel), List.mem_of_getElem? (i := 1178) (by decide +kernel)⟩
theorem lw_p43 : lw_okq (⟨"InkHoursModel", "number", "(II)V"⟩, 21) := ⟨⟨by decide +kernel, by decide +kernel⟩, List.mem_of_getElem? (i := 832) (by decide +kernel), List.mem_of_getElem? (i := 1181) (by decide +kernel), List.mem_of_getElem? (i := 1182) (by decide +kernel)⟩
theorem lw_p44 : lw_okq (⟨"InkHoursModel", "paperItem", "()V"⟩, 21) := ⟨⟨by decide +kernel, by decide +kernel⟩, List.mem_of_getElem? (i := 832) (by decide +kernel), List.mem_of_getElem? (i := 1188) (by decide +kernel), List.mem_of_getElem? (i := 1189) (by decide +kernel)⟩
theorem lw_p45 : lw_okq (⟨"InkHoursModel", "onItem", "()V"⟩, 21) := ⟨⟨by decide +kernel, by decide +kernel⟩, List.mem_of_getElem? (i := 832) (by decide +kernel), List.mem_of_getElem? (i := 1194) (by decide +kernel), List.mem_of_getElem? (i := 1195) (by decide +kernel)⟩
theorem lw_p46 : lw_okq (⟨"InkHoursModel", "markItem", "(II)V"⟩, 21) := ⟨⟨by decide +kernel, by decide +kernel⟩, List.mem_of_getElem? (i := 832) (by decide +kernel), List.mem_of_getElem? (i := 1199) (by decide +kernel), List.mem_of_getElem? (i := 1200) (by decide +kernel)⟩
theorem lw_p47 : lw_okq (⟨"InkHoursModel", "kindHere", "()I"⟩, 21) := ⟨⟨by decide +kernel, by decide +kernel⟩, List.mem_of_getElem? (i := 832) (by decide +kernel), List.mem_of_getElem? (i := 1203) (by decide +kernel), List.mem_of_getElem? (i := 1204) (by decide +kernel)⟩
def lw_privs_3 : List (MethodName × Nat) := [(⟨"InkHoursModel", "meaning", "()I"⟩, 21), (⟨"InkHoursModel", "isStaying", "(III)Z"⟩, 21), (⟨"InkHoursModel", "puts", "()V"⟩, 21), (⟨"InkHoursModel", "putsBack", "()V"⟩, 21), (⟨"InkHoursModel", "forgedBy", "(IIII)I"⟩, 21), (⟨"InkHoursModel", "token", "()V"⟩, 21), (⟨"InkHoursModel", "byteAt", "(I)I"⟩, 21), (⟨"InkHoursModel", "item", "()V"⟩, 21), (⟨"InkHoursModel", "word", "()J"⟩, 21), (⟨"InkHoursModel", "inkItem", "()V"⟩, 21), (⟨"InkHoursModel", "needs", "(Z)V"⟩, 21), (⟨"InkHoursModel", "number", "(II)V"⟩, 21), (⟨"InkHoursModel", "paperItem", "()V"⟩, 21), (⟨"InkHoursModel", "onItem", "()V"⟩, 21), (⟨"InkHoursModel", "markItem", "(II)V"⟩, 21), (⟨"InkHoursModel", "kindHere", "()I"⟩, 21)]
theorem lw_r3 : ∀ q ∈ lw_privs_3, lw_okq q := List.forall_mem_cons.mpr ⟨lw_p32, List.forall_mem_cons.mpr ⟨lw_p33, List.forall_mem_cons.mpr ⟨lw_p34, List.forall_mem_cons.mpr ⟨lw_p35, List.forall_mem_cons.mpr ⟨lw_p36, List.forall_mem_cons.mpr ⟨lw_p37, List.forall_mem_cons.mpr ⟨lw_p38, List.forall_mem_cons.mpr ⟨lw_p39, List.forall_mem_cons.mpr ⟨lw_p40, List.forall_mem_cons.mpr ⟨lw_p41, List.forall_mem_cons.mpr ⟨lw_p42, List.forall_mem_cons.mpr ⟨lw_p43, List.forall_mem_cons.mpr ⟨lw_p44, List.forall_mem_cons.mpr ⟨lw_p45, List.forall_mem_cons.mpr ⟨lw_p46, List.forall_mem_cons.mpr ⟨lw_p47, fun _ h => absurd h List.not_mem_nil⟩⟩⟩⟩⟩⟩⟩⟩⟩⟩⟩⟩⟩⟩⟩⟩
theorem lw_p48 : lw_okq (⟨"InkHoursModel", "wrong", "(I)I"⟩, 21) := ⟨⟨by decide +kernel, by decide +kernel⟩, List.mem_of_getElem? (i := 832) (by decide +kernel), List.mem_of_getElem? (i := 1237) (by decide +kernel), List.mem_of_getElem? (i := 1238) (by decide +kernel)⟩
def lw_privs_4 : List (MethodName × Nat) := [(⟨"InkHoursModel", "wrong", "(I)I"⟩, 21)]
theorem lw_r4 : ∀ q ∈ lw_privs_4, lw_okq q := List.forall_mem_cons.mpr ⟨lw_p48, fun _ h => absurd h List.not_mem_nil⟩
def lw_privs : List (MethodName × Nat) := lw_privs_1 ++ (lw_privs_2 ++ (lw_privs_3 ++ (lw_privs_4)))
def lw_tbl : List Cond := k2_sels lw_privs ++ tables_1
theorem lw_privs_ok : ∀ q ∈ lw_privs, lw_okq q := by
  show ∀ q ∈ lw_privs_1 ++ (lw_privs_2 ++ (lw_privs_3 ++ (lw_privs_4))), lw_okq q
  exact List.forall_mem_append.mpr ⟨lw_r1, List.forall_mem_append.mpr ⟨lw_r2, List.forall_mem_append.mpr ⟨lw_r3, lw_r4⟩⟩⟩
-- ===== end of PART A; then your names; then what follows =====
end
section
/-! THE MACHINE IN SMALL: the bytecode of the claim's methods, run over whole numbers and numbered cells.
A value: an int (as a whole number, meant modulo 2^32), a long, a cell of ours by its number, a constant by its number (0 null, 1 nothing). -/
abbrev xa_V : Type := Int ⊕ (Int ⊕ (Nat ⊕ Nat))
abbrev xI (z : Int) : xa_V := Sum.inl z
abbrev xL (z : Int) : xa_V := Sum.inr (Sum.inl z)
abbrev xR (k : Nat) : xa_V := Sum.inr (Sum.inr (Sum.inl k))
abbrev xC (c : Nat) : xa_V := Sum.inr (Sum.inr (Sum.inr c))
/-- a cell: 0 an object of class c, 1 an array of ints, 2 an array of references to class c; what it holds -/
abbrev xa_K : Type := Nat × (Nat × List xa_V)
abbrev xa_H : Type := List xa_K
/-- an instruction: its byte, itself, its length, what its numbers mean -/
abbrev xa_E : Type := Nat × (Jvm.ClassFile.Instr × (Nat × List Int))
/-- the methods' code, and of each: places of locals, cells and slots that it makes -/
abbrev xa_G : Type := (Nat → List xa_E) × (Nat → Nat × (Nat × Nat))
def xa_cat (v : xa_V) : Nat := match v with
  | .inr (.inl _) => 2
  | _ => 1
def xa_cats (st : List xa_V) : Nat := (st.map xa_cat).sum
def xa_sl (h : xa_H) : Nat := (h.map (fun c => c.2.2.length)).sum
abbrev xa_rI (z : Int) : Prop := -2147483648 ≤ z ∧ z < 2147483648
abbrev xa_rL (z : Int) : Prop := -9223372036854775808 ≤ z ∧ z < 9223372036854775808
def xa_and (a b : Int) : Int := (Int32.ofInt a &&& Int32.ofInt b).toInt
def xa_or (a b : Int) : Int := (Int32.ofInt a ||| Int32.ofInt b).toInt
def xa_xor (a b : Int) : Int := (Int32.ofInt a ^^^ Int32.ofInt b).toInt
def xa_shl (a b : Int) : Int := (Int32.ofInt a <<< (Int32.ofInt b &&& 31)).toInt
def xa_shr (a b : Int) : Int := (Int32.ofInt a >>> (Int32.ofInt b &&& 31)).toInt
def xa_ushr (a b : Int) : Int := ((Int32.ofInt a).toUInt32 >>> ((Int32.ofInt b).toUInt32 &&& Int32.toUInt32 31)).toInt32.toInt
def xa_i2b (a : Int) : Int := (Int32.ofInt a).toInt8.toInt32.toInt
def xa_i2s (a : Int) : Int := (Int32.ofInt a).toInt16.toInt32.toInt
/-- constants that are rows of numbers: 2 the script, others by their list -/
def xa_ca (X : List Int) (c : Nat) : Option (List Int) := match c with
  | 2 => some X
  | 4 => some [-1, 0, 0, 0, 1, 3, 1]
  | 5 => some [43690, 52428, 61680, 65280]
  | 6 => some [1, 1, 1, 1, 2, 3, 5]
  | 7 => some [0, 1, 2, 3, 0, 0, 0]
  | _ => none
/-- the bytes of the texts, by their numbers (a text 20 + i, its row of bytes 40 + i) -/
def xa_tx : List (List Int) := [[105, 110, 107], [112, 97, 112, 101, 114], [111, 110], [108, 97, 115, 116, 115], [112, 114, 105, 99, 101], [108, 105, 103, 104, 116], [100, 97, 114, 107], [110, 111, 116], [97, 110, 100], [111, 114], [98, 111, 108, 100], [102, 97, 105, 110, 116], [98, 108, 111, 116]]
def xa_cb (c : Nat) : Option (List Int) := if c < 40 then none else xa_tx[c - 40]?
/-- a store of one slot: a long that reaches into it is gone -/
def xa_set (ls : List xa_V) (i : Nat) (v : xa_V) : List xa_V := match i with
  | 0 => ls.set 0 v
  | j + 1 => match ls[j]? with
    | some (.inr (.inl _)) => (ls.set j (xC 1)).set (j + 1) v
    | _ => ls.set (j + 1) v
/-- what comes of one instruction: the next place, an end, or a call -/
abbrev xa_O : Type := (Nat × (List xa_V × (List xa_V × xa_H))) ⊕ ((Option xa_V × xa_H) ⊕ (Nat × (List xa_V × (Nat × (List xa_V × List xa_V)))))
abbrev xa_nx (i : Nat) (ls st : List xa_V) (h : xa_H) : Option xa_O := some (.inl (i, ls, st, h))
def xa_aload (i : Nat) (ls st : List xa_V) (h : xa_H) (k : Nat) : Option xa_O := match ls[k]? with
  | some (.inr (.inr (.inl a))) => xa_nx (i + 1) ls (xR a :: st) h
  | some (.inr (.inr (.inr c))) => if c = 2 ∨ 4 ≤ c then xa_nx (i + 1) ls (xC c :: st) h else none
  | _ => none
def xa_iload (i : Nat) (ls st : List xa_V) (h : xa_H) (k : Nat) : Option xa_O := match ls[k]? with
  | some (.inl z) => xa_nx (i + 1) ls (xI z :: st) h
  | _ => none
def xa_lload (i : Nat) (ls st : List xa_V) (h : xa_H) (k : Nat) : Option xa_O := match ls[k]? with
  | some (.inr (.inl z)) => xa_nx (i + 1) ls (xL z :: st) h
  | _ => none
def xa_astore (i : Nat) (ls st : List xa_V) (h : xa_H) (k : Nat) : Option xa_O := match st with
  | .inr (.inr (.inl a)) :: st => if k < ls.length then xa_nx (i + 1) (xa_set ls k (xR a)) st h else none
  | _ => none
def xa_istore (i : Nat) (ls st : List xa_V) (h : xa_H) (k : Nat) : Option xa_O := match st with
  | .inl z :: st => if k < ls.length then xa_nx (i + 1) (xa_set ls k (xI z)) st h else none
  | _ => none
def xa_lstore (i : Nat) (ls st : List xa_V) (h : xa_H) (k : Nat) : Option xa_O := match st with
  | .inr (.inl z) :: st => if k + 1 < ls.length then xa_nx (i + 1) ((xa_set ls k (xL z)).set (k + 1) (xC 1)) st h else none
  | _ => none
def xa_two (f : Int → Int → Int) (i : Nat) (ls st : List xa_V) (h : xa_H) : Option xa_O := match st with
  | .inl b :: .inl a :: st => xa_nx (i + 1) ls (xI (f a b) :: st) h
  | _ => none
def xa_div (f : Int → Int → Int) (i : Nat) (ls st : List xa_V) (h : xa_H) : Option xa_O := match st with
  | .inl b :: .inl a :: st => if xa_rI a ∧ xa_rI b ∧ b ≠ 0 then xa_nx (i + 1) ls (xI (f a b) :: st) h else none
  | _ => none
def xa_two64 (f : Int → Int → Int) (i : Nat) (ls st : List xa_V) (h : xa_H) : Option xa_O := match st with
  | .inr (.inl b) :: .inr (.inl a) :: st => xa_nx (i + 1) ls (xL (f a b) :: st) h
  | _ => none
def xa_one (f : Int → Int) (i : Nat) (ls st : List xa_V) (h : xa_H) : Option xa_O := match st with
  | .inl a :: st => xa_nx (i + 1) ls (xI (f a) :: st) h
  | _ => none
def xa_cmp (c : Jvm.ClassFile.Cond) (a b : Int) : Bool := match c with
  | .eq => decide (a = b)
  | .ne => decide (a ≠ b)
  | .lt => decide (a < b)
  | .ge => decide (b ≤ a)
  | .gt => decide (b < a)
  | .le => decide (a ≤ b)
/-- what an int is, of the whole numbers that mean it -/
def xa_w (z : Int) : Int := (Int32.ofInt z).toInt
def xa_cmpw (c : Jvm.ClassFile.Cond) (a b : Int) : Bool := if xa_rI a ∧ xa_rI b then xa_cmp c a b else xa_cmp c (xa_w a) (xa_w b)
def xa_if2 (c : Jvm.ClassFile.Cond) (x : List Int) (i : Nat) (ls st : List xa_V) (h : xa_H) : Option xa_O := match st, x with
  | .inl b :: .inl a :: st, [t] => if xa_cmpw c a b = true then xa_nx t.toNat ls st h else xa_nx (i + 1) ls st h
  | _, _ => none
def xa_if1 (c : Jvm.ClassFile.Cond) (x : List Int) (i : Nat) (ls st : List xa_V) (h : xa_H) : Option xa_O := match st, x with
  | .inl a :: st, [t] => if xa_cmpw c a 0 = true then xa_nx t.toNat ls st h else xa_nx (i + 1) ls st h
  | _, _ => none
/-- a value fits a field or an answer: 0 an int, 1 a truth value, 2 a reference, 3 a byte, 4 a char, 5 a long -/
def xa_fit (t : Int) (v : xa_V) : Bool := match v with
  | .inl z => t == 0 || (t == 1 && (z == 0 || z == 1)) || (t == 3 && decide (-128 ≤ z ∧ z ≤ 127)) || (t == 4 && decide (0 ≤ z ∧ z ≤ 65535))
  | .inr (.inl _) => t == 5
  | .inr (.inr (.inl _)) => t == 2
  | _ => false
def xa_getf (x : List Int) (i : Nat) (ls st : List xa_V) (h : xa_H) : Option xa_O := match x, st with
  | [0, ci, k], .inr (.inr (.inl a)) :: st => match h[a]? with
    | some (0, c, fs) => if c = ci.toNat then (match fs[k.toNat]? with
      | some v => xa_nx (i + 1) ls (v :: st) h
      | none => none) else none
    | _ => none
  | [1, f], .inr (.inr (.inr c)) :: st => if 20 ≤ c ∧ c < 33 then (if f = 0 then xa_nx (i + 1) ls (xI 0 :: st) h else if f = 1 then xa_nx (i + 1) ls (xC (c + 20) :: st) h else none) else none
  | _, _ => none
def xa_putf (x : List Int) (i : Nat) (ls st : List xa_V) (h : xa_H) : Option xa_O := match x, st with
  | [_, ci, k, t], v :: .inr (.inr (.inl a)) :: st => match h[a]? with
    | some (0, c, fs) => if c = ci.toNat ∧ k.toNat < fs.length ∧ xa_fit t v = true then xa_nx (i + 1) ls st (h.set a (0, c, fs.set k.toNat v)) else none
    | _ => none
  | _, _ => none
def xa_gets (x : List Int) (i : Nat) (ls st : List xa_V) (h : xa_H) : Option xa_O := match x with
  | [0, c] => xa_nx (i + 1) ls (xC c.toNat :: st) h
  | [1, z] => xa_nx (i + 1) ls (xI z :: st) h
  | _ => none
def xa_iald (X : List Int) (i : Nat) (ls st : List xa_V) (h : xa_H) : Option xa_O := match st with
  | .inl j :: .inr (.inr (.inl a)) :: st => match h[a]? with
    | some (1, _, xs) => if 0 ≤ j ∧ j < (xs.length : Int) ∧ j < 2147483648 then (match xs[j.toNat]? with
      | some (.inl z) => xa_nx (i + 1) ls (xI z :: st) h
      | _ => none) else none
    | _ => none
  | .inl j :: .inr (.inr (.inr c)) :: st => match xa_ca X c with
    | some xs => if 0 ≤ j ∧ j < (xs.length : Int) ∧ j < 2147483648 then (match xs[j.toNat]? with
      | some z => xa_nx (i + 1) ls (xI z :: st) h
      | none => none) else none
    | none => none
  | _ => none
def xa_bald (i : Nat) (ls st : List xa_V) (h : xa_H) : Option xa_O := match st with
  | .inl j :: .inr (.inr (.inr c)) :: st => match xa_cb c with
    | some xs => if 0 ≤ j ∧ j < (xs.length : Int) ∧ j < 2147483648 then (match xs[j.toNat]? with
      | some z => xa_nx (i + 1) ls (xI z :: st) h
      | none => none) else none
    | none => none
  | _ => none
def xa_iast (i : Nat) (ls st : List xa_V) (h : xa_H) : Option xa_O := match st with
  | .inl z :: .inl j :: .inr (.inr (.inl a)) :: st => match h[a]? with
    | some (1, c, xs) => if 0 ≤ j ∧ j < (xs.length : Int) ∧ j < 2147483648 then xa_nx (i + 1) ls st (h.set a (1, c, xs.set j.toNat (xI z))) else none
    | _ => none
  | _ => none
def xa_aald (i : Nat) (ls st : List xa_V) (h : xa_H) : Option xa_O := match st with
  | .inl j :: .inr (.inr (.inl a)) :: st => match h[a]? with
    | some (2, ci, xs) => if (ci = 1 ∨ ci = 2 ∨ ci = 4) ∧ 0 ≤ j ∧ j < (xs.length : Int) ∧ j < 2147483648 then (match xs[j.toNat]? with
      | some (.inr (.inr (.inl b))) => xa_nx (i + 1) ls (xR b :: st) h
      | _ => none) else none
    | _ => none
  | _ => none
def xa_aast (i : Nat) (ls st : List xa_V) (h : xa_H) : Option xa_O := match st with
  | .inr (.inr (.inl b)) :: .inl j :: .inr (.inr (.inl a)) :: st => match h[a]?, h[b]? with
    | some (2, c, xs), some (0, c', _) => if c' = c ∧ (c = 1 ∨ c = 2 ∨ c = 4) ∧ a ≠ b ∧ 0 ≤ j ∧ j < (xs.length : Int) ∧ j < 2147483648 then xa_nx (i + 1) ls st (h.set a (2, c, xs.set j.toNat (xR b))) else none
    | _, _ => none
  | _ => none
def xa_alen (X : List Int) (i : Nat) (ls st : List xa_V) (h : xa_H) : Option xa_O := match st with
  | .inr (.inr (.inl a)) :: st => match h[a]? with
    | some (1, _, xs) => if xs.length < 2147483648 then xa_nx (i + 1) ls (xI xs.length :: st) h else none
    | _ => none
  | .inr (.inr (.inr c)) :: st => match xa_ca X c with
    | some xs => xa_nx (i + 1) ls (xI xs.length :: st) h
    | none => match xa_cb c with
      | some xs => xa_nx (i + 1) ls (xI xs.length :: st) h
      | none => none
  | _ => none
/-- the fields of a new object, by its class -/
def xa_new (f : Nat → List xa_V) (x : List Int) (i : Nat) (ls st : List xa_V) (h : xa_H) : Option xa_O := match x with
  | [ci] => xa_nx (i + 1) ls (xR h.length :: st) (h ++ [(0, ci.toNat, f ci.toNat)])
  | _ => none
def xa_newi (i : Nat) (ls st : List xa_V) (h : xa_H) : Option xa_O := match st with
  | .inl n :: st => if 0 ≤ n ∧ n < 100000 then xa_nx (i + 1) ls (xR h.length :: st) (h ++ [(1, 0, List.replicate n.toNat (xI 0))]) else none
  | _ => none
def xa_newq (x : List Int) (i : Nat) (ls st : List xa_V) (h : xa_H) : Option xa_O := match x, st with
  | [ci], .inl n :: st => if 0 ≤ n ∧ n < 100000 then xa_nx (i + 1) ls (xR h.length :: st) (h ++ [(2, ci.toNat, List.replicate n.toNat (xC 0))]) else none
  | _, _ => none
def xa_ldc (x : List Int) (i : Nat) (ls st : List xa_V) (h : xa_H) : Option xa_O := match x with
  | [0, z] => xa_nx (i + 1) ls (xI z :: st) h
  | [1, c] => xa_nx (i + 1) ls (xC c.toNat :: st) h
  | _ => none
def xa_sw (lo hi : Int) (x : List Int) (ls st : List xa_V) (h : xa_H) : Option xa_O := match x, st with
  | d :: ts, .inl z :: st => if xa_rI z then (if z < lo ∨ hi < z then xa_nx d.toNat ls st h else (match ts[(z - lo).toNat]? with
    | some t => xa_nx t.toNat ls st h
    | none => none)) else none
  | _, _ => none
def xa_lcmp (i : Nat) (ls st : List xa_V) (h : xa_H) : Option xa_O := match st with
  | .inr (.inl b) :: .inr (.inl a) :: st => if xa_rL a ∧ xa_rL b then xa_nx (i + 1) ls (xI (if a < b then -1 else if a = b then 0 else 1) :: st) h else none
  | _ => none
def xa_cpy (xs ys : List xa_V) (s d n : Nat) : List xa_V := ys.take d ++ ((xs.drop s).take n ++ ys.drop (d + n))
/-- calls: 0 static, 1 of an object of ours, 2 a constructor, 3 4 5 the same of nest mates, 6 Object's constructor, 7 max, 8 min, 9 arraycopy, 10 of a text -/
def xa_inv (x : List Int) (i : Nat) (ls st : List xa_V) (h : xa_H) : Option xa_O := match x with
  | [6] => match st with
    | .inr (.inr (.inl _)) :: rest => if xa_cats rest ≤ 8 then xa_nx (i + 1) ls rest h else none
    | _ => none
  | [7] => match st with
    | .inl b :: .inl a :: rest => if xa_rI a ∧ xa_rI b ∧ xa_cats rest ≤ 8 then xa_nx (i + 1) ls (xI (if a < b then b else a) :: rest) h else none
    | _ => none
  | [8] => match st with
    | .inl b :: .inl a :: rest => if xa_rI a ∧ xa_rI b ∧ xa_cats rest ≤ 8 then xa_nx (i + 1) ls (xI (if b < a then b else a) :: rest) h else none
    | _ => none
  | [9] => match st with
    | .inl n :: .inl d :: .inr (.inr (.inl b)) :: .inl s :: .inr (.inr (.inl a)) :: rest => match h[a]?, h[b]? with
      | some (1, _, xs), some (1, c, ys) => if 0 ≤ n ∧ 0 ≤ d ∧ 0 ≤ s ∧ s + n ≤ (xs.length : Int) ∧ d + n ≤ (ys.length : Int) ∧ xs.length < 100000 ∧ ys.length < 100000 ∧ xa_cats rest ≤ 8 then xa_nx (i + 1) ls rest (h.set b (1, c, xa_cpy xs ys s.toNat d.toNat n.toNat)) else none
      | _, _ => none
    | _ => none
  | [0, y, n] => if n.toNat ≤ st.length ∧ xa_cats (st.drop n.toNat) ≤ 8 then some (.inr (.inr (y.toNat, (st.take n.toNat).reverse, i + 1, ls, st.drop n.toNat))) else none
  | [3, y, n] => if n.toNat ≤ st.length ∧ xa_cats (st.drop n.toNat) ≤ 8 then some (.inr (.inr (y.toNat, (st.take n.toNat).reverse, i + 1, ls, st.drop n.toNat))) else none
  | [k, y, n, ci] => match st.drop n.toNat with
    | .inr (.inr (.inl a)) :: rest => match h[a]? with
      | some (0, c, _) => if (k = 1 ∨ k = 2 ∨ k = 4 ∨ k = 5) ∧ c = ci.toNat ∧ n.toNat ≤ st.length ∧ xa_cats rest ≤ 8 then some (.inr (.inr (y.toNat, xR a :: (st.take n.toNat).reverse, i + 1, ls, rest))) else none
      | _ => none
    | .inr (.inr (.inr c)) :: rest => if k = 10 ∧ 20 ≤ c ∧ c < 33 ∧ n.toNat ≤ st.length ∧ xa_cats rest ≤ 8 then some (.inr (.inr (y.toNat, xC c :: (st.take n.toNat).reverse, i + 1, ls, rest))) else none
    | _ => none
  | _ => none
/-- the fields of new objects: of the class of that number, null, 0 or false -/
def xa_nf (ci : Nat) : List xa_V := match ci with
  | 0 => [xC 0, xC 0, xC 0, xC 0, xI 0]
  | 1 => [xC 0, xC 0, xC 0, xC 0]
  | 2 => [xC 0, xC 0, xC 0, xC 0, xI 0, xI 0]
  | 3 => [xI 0, xI 0, xI 0, xI 0, xI 0]
  | 4 => [xC 0, xI 0, xI 0]
  | 5 => [xC 0, xI 0, xI 0, xI 0, xI 0, xI 0]
  | 6 => [xC 0, xC 0, xI 0]
  | 7 => [xC 0, xC 0, xC 0, xC 0, xC 0, xI 0, xI 0]
  | 8 => [xC 0, xC 0, xC 0, xC 0, xC 0, xC 0, xC 0, xC 0, xC 0, xC 0, xI 0]
  | 9 => [xC 0, xC 0, xC 0, xC 0, xI 0, xI 0, xI 0, xI 0, xI 0, xI 0, xC 0, xC 0, xI 0, xI 0, xI 0, xI 0, xI 0, xC 0, xC 0, xC 0, xC 0]
  | _ => []
def xa_one1 (X : List Int) (e : xa_E) (i : Nat) (ls st : List xa_V) (h : xa_H) : Option xa_O := match e.2.1 with
  | .aload k => xa_aload i ls st h k
  | .aload_n k => xa_aload i ls st h k
  | .iload k => xa_iload i ls st h k
  | .iload_n k => xa_iload i ls st h k
  | .lload k => xa_lload i ls st h k
  | .lload_n k => xa_lload i ls st h k
  | .astore k => xa_astore i ls st h k
  | .astore_n k => xa_astore i ls st h k
  | .istore k => xa_istore i ls st h k
  | .istore_n k => xa_istore i ls st h k
  | .lstore k => xa_lstore i ls st h k
  | .lstore_n k => xa_lstore i ls st h k
  | .iconst n => xa_nx (i + 1) ls (xI n :: st) h
  | .bipush n => if -128 ≤ n ∧ n < 128 then xa_nx (i + 1) ls (xI n :: st) h else none
  | .sipush n => if -32768 ≤ n ∧ n < 32768 then xa_nx (i + 1) ls (xI n :: st) h else none
  | .lconst n => xa_nx (i + 1) ls (xL ((n : Nat) : Int) :: st) h
  | .ldc _ => xa_ldc e.2.2.2 i ls st h
  | .ldc_w _ => xa_ldc e.2.2.2 i ls st h
  | .ldc2_w _ => (match e.2.2.2 with
    | [z] => xa_nx (i + 1) ls (xL z :: st) h
    | _ => none)
  | .iadd => xa_two (fun a b => a + b) i ls st h
  | .isub => xa_two (fun a b => a - b) i ls st h
  | .imul => xa_two (fun a b => a * b) i ls st h
  | .iand => xa_two xa_and i ls st h
  | .ior => xa_two xa_or i ls st h
  | .ixor => xa_two xa_xor i ls st h
  | .ishl => xa_two xa_shl i ls st h
  | .ishr => xa_two xa_shr i ls st h
  | .iushr => xa_two xa_ushr i ls st h
  | .idiv => xa_div Int.tdiv i ls st h
  | .irem => xa_div Int.tmod i ls st h
  | .ladd => xa_two64 (fun a b => a + b) i ls st h
  | .lmul => xa_two64 (fun a b => a * b) i ls st h
  | .i2b => xa_one xa_i2b i ls st h
  | .i2s => xa_one xa_i2s i ls st h
  | .i2c => (match st with
    | .inl a :: st => if 0 ≤ a ∧ a < 65536 then xa_nx (i + 1) ls (xI a :: st) h else none
    | _ => none)
  | .i2l => (match st with
    | .inl a :: st => if xa_rI a then xa_nx (i + 1) ls (xL a :: st) h else none
    | _ => none)
  | .l2i => (match st with
    | .inr (.inl a) :: st => xa_nx (i + 1) ls (xI a :: st) h
    | _ => none)
  | .lcmp => xa_lcmp i ls st h
  | .iinc k n => (match ls[k]? with
    | some (.inl z) => xa_nx (i + 1) (xa_set ls k (xI (z + n))) st h
    | _ => none)
  | .dup => (match st with
    | v :: st => if xa_cat v = 1 then xa_nx (i + 1) ls (v :: v :: st) h else none
    | _ => none)
  | .dup2 => (match st with
    | v :: w :: st => if xa_cat v = 1 ∧ xa_cat w = 1 then xa_nx (i + 1) ls (v :: w :: v :: w :: st) h else none
    | _ => none)
  | .pop => (match st with
    | v :: st => if xa_cat v = 1 then xa_nx (i + 1) ls st h else none
    | _ => none)
  | .goto _ => (match e.2.2.2 with
    | [t] => xa_nx t.toNat ls st h
    | _ => none)
  | .if_icmp c _ => xa_if2 c e.2.2.2 i ls st h
  | .ifCond c _ => xa_if1 c e.2.2.2 i ls st h
  | .tableswitch _ lo hi _ => xa_sw lo hi e.2.2.2 ls st h
  | .getfield _ => xa_getf e.2.2.2 i ls st h
  | .putfield _ => xa_putf e.2.2.2 i ls st h
  | .getstatic _ => xa_gets e.2.2.2 i ls st h
  | .iaload => xa_iald X i ls st h
  | .baload => xa_bald i ls st h
  | .iastore => xa_iast i ls st h
  | .aaload => xa_aald i ls st h
  | .aastore => xa_aast i ls st h
  | .arraylength => xa_alen X i ls st h
  | .new _ => xa_new xa_nf e.2.2.2 i ls st h
  | .newarray _ => xa_newi i ls st h
  | .anewarray _ => xa_newq e.2.2.2 i ls st h
  | .invokestatic _ => xa_inv e.2.2.2 i ls st h
  | .invokevirtual _ => xa_inv e.2.2.2 i ls st h
  | .invokespecial _ => xa_inv e.2.2.2 i ls st h
  | .return_ => (match st with
    | [] => some (.inr (.inl (none, h)))
    | _ => none)
  | .ireturn => (match st, e.2.2.2 with
    | [.inl z], [t] => if xa_fit t (xI z) = true then some (.inr (.inl (some (xI z), h))) else none
    | _, _ => none)
  | .lreturn => (match st with
    | [.inr (.inl z)] => some (.inr (.inl (some (xL z), h)))
    | _ => none)
  | .areturn => (match st with
    | [.inr (.inr (.inl a))] => some (.inr (.inl (some (xR a), h)))
    | _ => none)
  | _ => none
/-- a method's arguments in its places -/
def xa_args (args : List xa_V) : List xa_V := args.flatMap (fun v => if xa_cat v = 2 then [v, xC 1] else [v])
def xa_loc (nL : Nat) (args : List xa_V) : List xa_V := xa_args args ++ List.replicate (nL - (xa_args args).length) (xC 1)
/-- n steps and calls at most -/
def xa_ex (G : xa_G) (X : List Int) : Nat → Nat → Nat → List xa_V → List xa_V → xa_H → Option (Option xa_V × xa_H)
  | 0, _, _, _, _, _ => none
  | n + 1, mi, i, ls, st, h => match (G.1 mi)[i]? with
    | none => none
    | some e => match xa_one1 X e i ls st h with
      | none => none
      | some (.inl (i', ls', st', h')) => xa_ex G X n mi i' ls' st' h'
      | some (.inr (.inl r)) => some r
      | some (.inr (.inr (y, args, i', ls', rest))) => if (xa_args args).length ≤ (G.2 y).1 then (match xa_ex G X n y 0 (xa_loc (G.2 y).1 args) [] h with
        | none => none
        | some (rv, h1) => if h1.length = h.length + (G.2 y).2.1 ∧ xa_sl h1 = xa_sl h + (G.2 y).2.2 then xa_ex G X n mi i' ls' (rv.toList ++ rest) h1 else none) else none
theorem xa_ex_more (G : xa_G) (X : List Int) : ∀ (n mi i : Nat) (ls st : List xa_V) (h : xa_H) (r : Option xa_V × xa_H), xa_ex G X n mi i ls st h = some r → ∀ k, n ≤ k → xa_ex G X k mi i ls st h = some r
  | 0, mi, i, ls, st, h, r, e, k, hk => by simp [xa_ex] at e
  | n + 1, mi, i, ls, st, h, r, e, k, hk => by
    obtain ⟨k, rfl⟩ : ∃ k', k = k' + 1 := ⟨k - 1, by omega⟩
    have hk : n ≤ k := by omega
    rw [xa_ex] at e ⊢
    cases hf : (G.1 mi)[i]? with
    | none => rw [hf] at e; simp at e
    | some en =>
      rw [hf] at e
      simp only at e ⊢
      cases ho : xa_one1 X en i ls st h with
      | none => rw [ho] at e; simp at e
      | some o =>
        rw [ho] at e
        match o, e with
        | .inl (i', ls', st', h'), e => exact xa_ex_more G X n _ _ _ _ _ _ e k hk
        | .inr (.inl r'), e => exact e
        | .inr (.inr (y, args, i', ls', rest)), e =>
          simp only at e ⊢
          by_cases hl : (xa_args args).length ≤ (G.2 y).1
          · rw [if_pos hl] at e ⊢
            cases hc : xa_ex G X n y 0 (xa_loc (G.2 y).1 args) [] h with
            | none => rw [hc] at e; simp at e
            | some q =>
              rw [hc] at e
              rw [xa_ex_more G X n _ _ _ _ _ _ hc k hk]
              obtain ⟨rv, h1⟩ := q
              simp only at e ⊢
              split at e
              · next hq =>
                rw [if_pos hq]
                exact xa_ex_more G X n _ _ _ _ _ _ e k hk
              · simp at e
          · rw [if_neg hl] at e
            simp at e
end
section
/-! NUMBERS AND WORLDS: how the small machine's values and cells stand in the real one -/
theorem xa_add (a b : Int) : Int32.ofInt a + Int32.ofInt b = Int32.ofInt (a + b) := (Int32.ofInt_add a b).symm
theorem xa_sub (a b : Int) : Int32.ofInt a - Int32.ofInt b = Int32.ofInt (a - b) := (Int32.ofInt_sub a b).symm
theorem xa_mul (a b : Int) : Int32.ofInt a * Int32.ofInt b = Int32.ofInt (a * b) := (Int32.ofInt_mul a b).symm
theorem xa_addL (a b : Int) : Int64.ofInt a + Int64.ofInt b = Int64.ofInt (a + b) := (Int64.ofInt_add a b).symm
theorem xa_mulL (a b : Int) : Int64.ofInt a * Int64.ofInt b = Int64.ofInt (a * b) := (Int64.ofInt_mul a b).symm
theorem xa_asI (x : Int32) : Int32.ofInt x.toInt = x := Int32.ofInt_toInt x
theorem xa_bmod {z : Int} (h : xa_rI z) : z.bmod (2 ^ 32) = z := by
  obtain ⟨h1, h2⟩ := h
  rw [Int.bmod_def]
  have e : z % ((2 ^ 32 : Nat) : Int) = if 0 ≤ z then z else z + 4294967296 := by
    split <;> omega
  rw [e]
  split <;> split <;> omega
theorem xa_bmodL {z : Int} (h : xa_rL z) : z.bmod (2 ^ 64) = z := by
  obtain ⟨h1, h2⟩ := h
  rw [Int.bmod_def]
  have e : z % ((2 ^ 64 : Nat) : Int) = if 0 ≤ z then z else z + 18446744073709551616 := by
    split <;> omega
  rw [e]
  split <;> split <;> omega
theorem xa_toI {z : Int} (h : xa_rI z) : (Int32.ofInt z).toInt = z := by
  rw [Int32.toInt_ofInt]
  exact xa_bmod h
theorem xa_toL {z : Int} (h : xa_rL z) : (Int64.ofInt z).toInt = z := by
  rw [Int64.toInt_ofInt]
  exact xa_bmodL h
theorem xa_rng (x : Int32) : xa_rI x.toInt := by
  have h1 := Int32.le_toInt x
  have h2 := Int32.toInt_lt x
  exact ⟨by simpa using h1, by simpa using h2⟩
theorem xa_ieq {a b : Int} (ha : xa_rI a) (hb : xa_rI b) : Int32.ofInt a = Int32.ofInt b ↔ a = b := by
  constructor
  · intro h
    rw [← xa_toI ha, ← xa_toI hb, h]
  · intro h; rw [h]
theorem xa_ilt {a b : Int} (ha : xa_rI a) (hb : xa_rI b) : Int32.ofInt a < Int32.ofInt b ↔ a < b := by
  rw [Int32.lt_iff_toInt_lt, xa_toI ha, xa_toI hb]
theorem xa_ile {a b : Int} (ha : xa_rI a) (hb : xa_rI b) : Int32.ofInt a ≤ Int32.ofInt b ↔ a ≤ b := by
  rw [Int32.le_iff_toInt_le, xa_toI ha, xa_toI hb]
theorem xa_cmpw_eq (c : Jvm.ClassFile.Cond) (a b : Int) : xa_cmpw c a b = xa_cmp c (xa_w a) (xa_w b) := by
  unfold xa_cmpw
  split
  · next h => rw [show xa_w a = a from xa_toI h.1, show xa_w b = b from xa_toI h.2]
  · rfl
theorem xa_weq (a b : Int) : Int32.ofInt a = Int32.ofInt b ↔ xa_w a = xa_w b := Int32.toInt_inj.symm
theorem xa_wlt (a b : Int) : Int32.ofInt a < Int32.ofInt b ↔ xa_w a < xa_w b := Int32.lt_iff_toInt_lt
theorem xa_wle (a b : Int) : Int32.ofInt a ≤ Int32.ofInt b ↔ xa_w a ≤ xa_w b := Int32.le_iff_toInt_le
theorem xa_leq {a b : Int} (ha : xa_rL a) (hb : xa_rL b) : Int64.ofInt a = Int64.ofInt b ↔ a = b := by
  constructor
  · intro h
    rw [← xa_toL ha, ← xa_toL hb, h]
  · intro h; rw [h]
theorem xa_llt {a b : Int} (ha : xa_rL a) (hb : xa_rL b) : Int64.ofInt a < Int64.ofInt b ↔ a < b := by
  rw [Int64.lt_iff_toInt_lt, xa_toL ha, xa_toL hb]
theorem xa_z0 : Int32.ofInt 0 = 0 := rfl
theorem xa_r0 : xa_rI 0 := by decide
theorem xa_idiv {a b : Int} (ha : xa_rI a) (hb : xa_rI b) : Int32.ofInt a / Int32.ofInt b = Int32.ofInt (a.tdiv b) := by
  rw [← Int32.toInt_inj, Int32.toInt_div, xa_toI ha, xa_toI hb, Int32.toInt_ofInt]
theorem xa_irem {a b : Int} (ha : xa_rI a) (hb : xa_rI b) : Int32.ofInt a - Int32.ofInt a / Int32.ofInt b * Int32.ofInt b = Int32.ofInt (a.tmod b) := by
  rw [xa_idiv ha hb, xa_mul, xa_sub]
  congr 1
  have := Int.tmod_add_mul_tdiv a b
  rw [Int.mul_comm] at this
  omega
theorem xa_nat {j : Int} (h0 : 0 ≤ j) (h : j < 2147483648) : (Int32.ofInt j).toNatClampNeg = j.toNat := by
  show (Int32.ofInt j).toInt.toNat = j.toNat
  rw [xa_toI ⟨by omega, h⟩]
theorem xa_vin {j : Int} {n : Nat} (h0 : 0 ≤ j) (h1 : j < (n : Int)) (h : j < 2147483648) : vp_in (Int32.ofInt j) n := by
  intro q
  rcases q with q | q
  · have := (xa_ilt (b := 0) ⟨by omega, h⟩ xa_r0).mp q
    omega
  · rw [xa_nat h0 h] at q
    omega
/-- a value, with the first address of ours, the constants' addresses, and what stands in the third -/
def xa_cv (b0 : Nat) (ca : Nat → Nat) (v3 : Value) (v : xa_V) : Value := match v with
  | .inl z => .int (Int32.ofInt z)
  | .inr (.inl z) => .long (Int64.ofInt z)
  | .inr (.inr (.inl k)) => .ref (b0 + k)
  | .inr (.inr (.inr c)) => if c = 0 then .null else if c = 3 then v3 else .ref (ca c)
def xa_iv (v : xa_V) : Int32 := match v with
  | .inl z => Int32.ofInt z
  | _ => 0
def xa_ri (b0 : Nat) (v : xa_V) : Option Nat := match v with
  | .inr (.inr (.inl k)) => some (b0 + k)
  | _ => none
theorem xa_cv_cat {b0 : Nat} {ca : Nat → Nat} {v3 : Value} (h3 : v3.category = 1) (v : xa_V) : (xa_cv b0 ca v3 v).category = xa_cat v := by
  match v with
  | .inl z => rfl
  | .inr (.inl z) => rfl
  | .inr (.inr (.inl k)) => rfl
  | .inr (.inr (.inr c)) =>
    unfold xa_cv
    dsimp only
    split
    · rfl
    · split
      · exact h3
      · rfl
theorem xa_cv_cats {b0 : Nat} {ca : Nat → Nat} {v3 : Value} (h3 : v3.category = 1) (st : List xa_V) : ((st.map (xa_cv b0 ca v3)).map fun v => v.category).sum = xa_cats st := by
  unfold xa_cats
  rw [List.map_map]
  congr 1
  exact List.map_congr_left (fun v _ => xa_cv_cat h3 v)
def xa_ce (b0 : Nat) (ca : Nat → Nat) (v3 : Value) (cI : ClassId) (cQ : Nat → ClassId) (c : xa_K) : va_E := match c with
  | (0, ci, fs) => .inr (ci, fs.map (xa_cv b0 ca v3))
  | (1, _, xs) => .inl (cI, xs.length, .inl (fun j => xa_iv (xs.getD j (xC 0))))
  | (_ + 2, ci, xs) => .inl (cQ ci, xs.length, .inr (.inr (.inr (.inr (fun j => xa_ri b0 (xs.getD j (xC 0)))))))
def xa_W (b0 : Nat) (ca : Nat → Nat) (v3 : Value) (cI : ClassId) (cQ : Nat → ClassId) (h : xa_H) : va_W := h.mapIdx (fun k c => (b0 + k, xa_ce b0 ca v3 cI cQ c))
section XW
variable {b0 : Nat} {ca : Nat → Nat} {v3 : Value} {cI : ClassId} {cQ : Nat → ClassId} {h : xa_H}
theorem xa_W_get {k : Nat} {c : xa_K} (e : h[k]? = some c) : (xa_W b0 ca v3 cI cQ h)[k]? = some (b0 + k, xa_ce b0 ca v3 cI cQ c) := by
  unfold xa_W
  rw [List.getElem?_mapIdx, e]
  rfl
theorem xa_W_inv {k : Nat} {q : Nat × va_E} (e : (xa_W b0 ca v3 cI cQ h)[k]? = some q) : q.1 = b0 + k ∧ k < h.length := by
  unfold xa_W at e
  rw [List.getElem?_mapIdx] at e
  cases hc : h[k]? with
  | none => rw [hc] at e; simp at e
  | some c =>
    rw [hc] at e
    simp only [Option.map_some, Option.some.injEq] at e
    exact ⟨by rw [← e], (List.getElem?_eq_some_iff.mp hc).1⟩
theorem xa_W_set {k : Nat} {c : xa_K} : xa_W b0 ca v3 cI cQ (h.set k c) = (xa_W b0 ca v3 cI cQ h).set k (b0 + k, xa_ce b0 ca v3 cI cQ c) := by
  unfold xa_W
  apply List.ext_getElem?
  intro j
  rw [List.getElem?_mapIdx, List.getElem?_set, List.getElem?_set, List.length_mapIdx, List.getElem?_mapIdx]
  by_cases hj : k = j
  · subst hj
    rw [if_pos rfl, if_pos rfl]
    split <;> rfl
  · rw [if_neg hj, if_neg hj]
theorem xa_W_push {c : xa_K} : xa_W b0 ca v3 cI cQ (h ++ [c]) = xa_W b0 ca v3 cI cQ h ++ [(b0 + h.length, xa_ce b0 ca v3 cI cQ c)] := by
  unfold xa_W
  apply List.ext_getElem?
  intro j
  rw [List.getElem?_mapIdx]
  by_cases hj : j < h.length
  · rw [List.getElem?_append_left hj, List.getElem?_append_left (by rw [List.length_mapIdx]; exact hj), List.getElem?_mapIdx]
  · rw [List.getElem?_append_right (by omega), List.getElem?_append_right (by rw [List.length_mapIdx]; omega), List.length_mapIdx]
    by_cases hj2 : j = h.length
    · subst hj2
      simp
    · rw [List.getElem?_eq_none (by simp; omega), List.getElem?_eq_none (by simp; omega)]
      rfl
theorem xa_W_D : va_D (fun q : Nat => b0 ≤ q) (xa_W b0 ca v3 cI cQ h) := by
  refine ⟨fun i j p q hi hj e => ?_, fun k q hk => ?_⟩
  · have h1 := (xa_W_inv hi).1
    have h2 := (xa_W_inv hj).1
    omega
  · have h1 := (xa_W_inv hk).1
    show b0 ≤ q.1
    omega
end XW
/-- the cells of ours stand from b0 on, and nothing behind them -/
def xa_Rel (b0 : Nat) (ca : Nat → Nat) (v3 : Value) (cI : ClassId) (cQ : Nat → ClassId) (D : va_G) (cl : List vw_C) (h : xa_H) (H : Heap) : Prop := H.size = b0 + h.length ∧ va_P D cl (xa_W b0 ca v3 cI cQ h) H
/-- the places of a method -/
def xa_lr (b0 : Nat) (ca : Nat → Nat) (v3 : Value) (nL : Nat) (ls : List xa_V) (lr : Array Slot) : Prop := lr.size = nL ∧ lv_wf lr ∧ ls.length = nL ∧ ∀ (j : Nat) (v : xa_V), ls[j]? = some v → v ≠ xC 1 → lr[j]? = some (.val (xa_cv b0 ca v3 v))
def xa_pairs (b0 : Nat) (ca : Nat → Nat) (v3 : Value) (ls : List xa_V) : List (Nat × Value) := (List.range ls.length).filterMap (fun j => match ls[j]? with
  | some v => if v = xC 1 then none else some (j, xa_cv b0 ca v3 v)
  | none => none)
section XL
variable {b0 : Nat} {ca : Nat → Nat} {v3 : Value} {nL : Nat} {ls : List xa_V} {lr : Array Slot}
theorem xa_pairs_in {j : Nat} {v : xa_V} (e : ls[j]? = some v) (hv : v ≠ xC 1) : (j, xa_cv b0 ca v3 v) ∈ xa_pairs b0 ca v3 ls := by
  refine List.mem_filterMap.mpr ⟨j, List.mem_range.mpr (List.getElem?_eq_some_iff.mp e).1, ?_⟩
  rw [e]
  dsimp only
  rw [if_neg hv]
theorem xa_pairs_inv {q : Nat × Value} (hq : q ∈ xa_pairs b0 ca v3 ls) : ∃ v, ls[q.1]? = some v ∧ v ≠ xC 1 ∧ q.2 = xa_cv b0 ca v3 v := by
  obtain ⟨j, -, hj⟩ := List.mem_filterMap.mp hq
  cases e : ls[j]? with
  | none => rw [e] at hj; simp at hj
  | some v =>
    rw [e] at hj
    dsimp only at hj
    split at hj
    · simp at hj
    · next hv =>
      cases hj
      exact ⟨v, e, hv, rfl⟩
theorem xa_lr_has (h : xa_lr b0 ca v3 nL ls lr) : lv_has lr nL (xa_pairs b0 ca v3 ls) := by
  refine ⟨h.1, h.2.1, fun q hq => ?_⟩
  obtain ⟨v, h1, h2, h3⟩ := xa_pairs_inv hq
  rw [h3]
  exact h.2.2.2 _ _ h1 h2
theorem xa_set_len (i : Nat) (v : xa_V) : (xa_set ls i v).length = ls.length := by
  unfold xa_set
  split
  · simp
  · split <;> simp
/-- what a store leaves in another place -/
theorem xa_set_ne {i j : Nat} {v w : xa_V} (hj : j ≠ i) (e : (xa_set ls i v)[j]? = some w) (hw : w ≠ xC 1) : ls[j]? = some w ∧ ¬ (j + 1 = i ∧ xa_cat w = 2) := by
  unfold xa_set at e
  split at e
  · rw [List.getElem?_set_ne (by omega)] at e
    exact ⟨e, by omega⟩
  · next k =>
    split at e
    · next z hz =>
      rw [List.getElem?_set_ne (by omega)] at e
      by_cases hk : j = k
      · subst hk
        rw [List.getElem?_set_self' ] at e
        rw [hz] at e
        simp at e
        exact absurd e.symm hw
      · rw [List.getElem?_set_ne (by omega)] at e
        exact ⟨e, by omega⟩
    · next hz =>
      rw [List.getElem?_set_ne (by omega)] at e
      refine ⟨e, fun q => ?_⟩
      obtain ⟨q1, q2⟩ := q
      have : j = k := by omega
      subst this
      match w, q2 with
      | .inr (.inl z), _ => exact hz z e
theorem xa_set_eq {i : Nat} {v : xa_V} (hi : i < ls.length) : (xa_set ls i v)[i]? = some v := by
  unfold xa_set
  split
  · simp [hi]
  · split <;> simp [hi]
theorem xa_lr_set1 {ls' : Array Slot} {i : Nat} {v : xa_V} (h3 : v3.category = 1) (hn : ls.length = nL) (hi : i < nL)
    (h : lv_has ls' nL ((i, xa_cv b0 ca v3 v) :: (xa_pairs b0 ca v3 ls).filter (fun q => !(q.1 == i) && !(q.1 + 1 == i && q.2.category == 2)))) : xa_lr b0 ca v3 nL (xa_set ls i v) ls' := by
  refine ⟨h.1, h.2.1, by rw [xa_set_len]; exact hn, fun j w e hw => ?_⟩
  by_cases hj : j = i
  · subst hj
    rw [xa_set_eq (by omega)] at e
    cases e
    exact h.2.2 _ List.mem_cons_self
  · obtain ⟨e1, e2⟩ := xa_set_ne hj e hw
    refine h.2.2 (j, xa_cv b0 ca v3 w) (List.mem_cons_of_mem _ (List.mem_filter.mpr ⟨xa_pairs_in e1 hw, ?_⟩))
    simp only [Bool.and_eq_true, Bool.not_eq_true', beq_eq_false_iff_ne, ne_eq, Bool.and_eq_false_iff]
    refine ⟨hj, ?_⟩
    by_cases hq : j + 1 = i
    · right
      intro hc
      rw [xa_cv_cat h3] at hc
      exact e2 ⟨hq, hc⟩
    · left; exact hq
theorem xa_lr_set2 {ls' : Array Slot} {i : Nat} {v : xa_V} (h3 : v3.category = 1) (hn : ls.length = nL) (hi : i + 1 < nL) (hv : xa_cat v = 2)
    (h : lv_has ls' nL ((i, xa_cv b0 ca v3 v) :: (xa_pairs b0 ca v3 ls).filter (fun q => !(q.1 == i) && (!(q.1 == i + 1) && !(q.1 + 1 == i && q.2.category == 2))))) : xa_lr b0 ca v3 nL ((xa_set ls i v).set (i + 1) (xC 1)) ls' := by
  refine ⟨h.1, h.2.1, by rw [List.length_set, xa_set_len]; exact hn, fun j w e hw => ?_⟩
  by_cases hj1 : j = i + 1
  · subst hj1
    rw [List.getElem?_set_self (by rw [xa_set_len]; omega)] at e
    cases e
    exact absurd rfl hw
  · rw [List.getElem?_set_ne (by omega)] at e
    by_cases hj : j = i
    · subst hj
      rw [xa_set_eq (by omega)] at e
      cases e
      exact h.2.2 _ List.mem_cons_self
    · obtain ⟨e1, e2⟩ := xa_set_ne hj e hw
      refine h.2.2 (j, xa_cv b0 ca v3 w) (List.mem_cons_of_mem _ (List.mem_filter.mpr ⟨xa_pairs_in e1 hw, ?_⟩))
      simp only [Bool.and_eq_true, Bool.not_eq_true', beq_eq_false_iff_ne, ne_eq, Bool.and_eq_false_iff]
      refine ⟨hj, hj1, ?_⟩
      by_cases hq : j + 1 = i
      · right
        intro hc
        rw [xa_cv_cat h3] at hc
        exact e2 ⟨hq, hc⟩
      · left; exact hq
/-- a method's places at its start -/
theorem xa_sl_len (h3 : v3.category = 1) (av : List xa_V) : (lg_sl (av.map (xa_cv b0 ca v3))).length = (xa_args av).length := by
  induction av with
  | nil => rfl
  | cons v vs ih =>
    have e1 : lg_sl ((v :: vs).map (xa_cv b0 ca v3)) = (if (xa_cv b0 ca v3 v).category = 2 then [.val (xa_cv b0 ca v3 v), .second] else [.val (xa_cv b0 ca v3 v)]) ++ lg_sl (vs.map (xa_cv b0 ca v3)) := by simp [lg_sl]
    have e2 : xa_args (v :: vs) = (if xa_cat v = 2 then [v, xC 1] else [v]) ++ xa_args vs := by simp [xa_args]
    rw [e1, e2, List.length_append, List.length_append, ih, xa_cv_cat h3]
    split <;> rfl
theorem xa_args_in (h3 : v3.category = 1) : ∀ (av : List xa_V) (i j : Nat) (v : xa_V), (xa_args av)[j]? = some v → v ≠ xC 1 → (i + j, xa_cv b0 ca v3 v) ∈ lv_args i (av.map (xa_cv b0 ca v3))
  | [], i, j, v, e, hv => by simp [xa_args] at e
  | a :: av, i, j, v, e, hv => by
    have e2 : xa_args (a :: av) = (if xa_cat a = 2 then [a, xC 1] else [a]) ++ xa_args av := by simp [xa_args]
    rw [e2] at e
    rw [List.map_cons, lv_args]
    by_cases ha : xa_cat a = 2
    · rw [if_pos ha] at e
      rw [if_pos (by rw [xa_cv_cat h3]; exact ha)]
      match j, e with
      | 0, e => simp at e; subst e; exact List.mem_cons_self
      | 1, e => simp at e; exact absurd e.symm hv
      | j + 2, e =>
        have e3 : (xa_args av)[j]? = some v := by simpa using e
        have := xa_args_in h3 av (i + 2) j v e3 hv
        rw [show i + (j + 2) = i + 2 + j by omega]
        exact List.mem_cons_of_mem _ this
    · rw [if_neg ha] at e
      rw [if_neg (by rw [xa_cv_cat h3]; exact ha)]
      match j, e with
      | 0, e => simp at e; subst e; exact List.mem_cons_self
      | j + 1, e =>
        have e3 : (xa_args av)[j]? = some v := by simpa using e
        have := xa_args_in h3 av (i + 1) j v e3 hv
        rw [show i + (j + 1) = i + 1 + j by omega]
        exact List.mem_cons_of_mem _ this
theorem xa_lr_entry {av : List xa_V} (h3 : v3.category = 1) (hl : (xa_args av).length ≤ nL) :
    xa_lr b0 ca v3 nL (xa_loc nL av) ((lg_sl (av.map (xa_cv b0 ca v3)) ++ List.replicate (nL - (lg_sl (av.map (xa_cv b0 ca v3))).length) Slot.unset).toArray) := by
  have h := lv_entry (av.map (xa_cv b0 ca v3)) (n := nL) (by rw [xa_sl_len h3]; exact hl)
  refine ⟨h.1, h.2.1, ?_, fun j v e hv => ?_⟩
  · unfold xa_loc
    rw [List.length_append, List.length_replicate]
    omega
  · unfold xa_loc at e
    by_cases hj : j < (xa_args av).length
    · rw [List.getElem?_append_left hj] at e
      have := xa_args_in (b0 := b0) (ca := ca) (v3 := v3) h3 av 0 j v e hv
      rw [Nat.zero_add] at this
      exact h.2.2 _ this
    · rw [List.getElem?_append_right (by omega)] at e
      have := List.eq_of_mem_replicate (List.mem_of_getElem? e)
      exact absurd this hv
end XL
end
section
/-! WHAT A METHOD MAY ASK OF THE LAUNCH: the classes and their fields, the tables' words, the constants -/
def xb_F0 : u_T := fun k => match k with
  | 0 => ("InkHours$Copies", "copyEnds", "[I", true)
  | 1 => ("InkHours$Copies", "steps", "[I", true)
  | 2 => ("InkHours$Copies", "leftAsWritten", "[I", true)
  | 3 => ("InkHours$Copies", "leftIfCopied", "[I", true)
  | _ => ("InkHours$Copies", "size", "I", false)
def xb_t0 : Nat → FieldType := fun k => match k with
  | 0 => .array .int
  | 1 => .array .int
  | 2 => .array .int
  | 3 => .array .int
  | _ => .int
def xb_F1 : u_T := fun k => match k with
  | 0 => ("InkHours$Course", "paper", "LInkHours$Paper;", true)
  | 1 => ("InkHours$Course", "lasts", "[I", true)
  | 2 => ("InkHours$Course", "ends", "[I", true)
  | _ => ("InkHours$Course", "sentence", "LInkHours$Sentence;", true)
def xb_t1 : Nat → FieldType := fun k => match k with
  | 0 => .object "InkHours$Paper"
  | 1 => .array .int
  | 2 => .array .int
  | _ => .object "InkHours$Sentence"
def xb_F2 : u_T := fun k => match k with
  | 0 => ("InkHours$Paper", "kinds", "[I", true)
  | 1 => ("InkHours$Paper", "letters", "[I", true)
  | 2 => ("InkHours$Paper", "inks", "[I", true)
  | 3 => ("InkHours$Paper", "ats", "[I", true)
  | 4 => ("InkHours$Paper", "size", "I", false)
  | _ => ("InkHours$Paper", "lit", "Z", false)
def xb_t2 : Nat → FieldType := fun k => match k with
  | 0 => .array .int
  | 1 => .array .int
  | 2 => .array .int
  | 3 => .array .int
  | 4 => .int
  | _ => .boolean
def xb_F3 : u_T := fun k => match k with
  | 0 => ("InkHours$Sentence", "ored", "I", false)
  | 1 => ("InkHours$Sentence", "anded", "I", false)
  | 2 => ("InkHours$Sentence", "turned", "Z", false)
  | 3 => ("InkHours$Sentence", "wantsLetter", "Z", false)
  | _ => ("InkHours$Sentence", "broken", "Z", false)
def xb_t3 : Nat → FieldType := fun k => match k with
  | 0 => .int
  | 1 => .int
  | 2 => .boolean
  | 3 => .boolean
  | _ => .boolean
def xb_F4 : u_T := fun k => match k with
  | 0 => ("InkHours$Sheet", "numbers", "[I", true)
  | 1 => ("InkHours$Sheet", "bits", "I", false)
  | _ => ("InkHours$Sheet", "size", "I", false)
def xb_t4 : Nat → FieldType := fun k => match k with
  | 0 => .array .int
  | 1 => .int
  | _ => .int
def xb_F5 : u_T := fun k => match k with
  | 0 => ("InkHours$Tape", "bytes", "[I", true)
  | 1 => ("InkHours$Tape", "end", "I", false)
  | 2 => ("InkHours$Tape", "size", "I", false)
  | 3 => ("InkHours$Tape", "start", "I", false)
  | 4 => ("InkHours$Tape", "token", "I", false)
  | _ => ("InkHours$Tape", "number", "I", false)
def xb_t5 : Nat → FieldType := fun k => match k with
  | 0 => .array .int
  | 1 => .int
  | 2 => .int
  | 3 => .int
  | 4 => .int
  | _ => .int
def xb_F6 : u_T := fun k => match k with
  | 0 => ("InkHours$Text", "tape", "LInkHours$Tape;", true)
  | 1 => ("InkHours$Text", "world", "LInkHours$World;", true)
  | _ => ("InkHours$Text", "number", "I", false)
def xb_t6 : Nat → FieldType := fun k => match k with
  | 0 => .object "InkHours$Tape"
  | 1 => .object "InkHours$World"
  | _ => .int
def xb_F7 : u_T := fun k => match k with
  | 0 => ("InkHours$World", "lasts", "[I", true)
  | 1 => ("InkHours$World", "prices", "[I", true)
  | 2 => ("InkHours$World", "papers", "[LInkHours$Paper;", true)
  | 3 => ("InkHours$World", "spotPapers", "[I", true)
  | 4 => ("InkHours$World", "spotMarks", "[I", true)
  | 5 => ("InkHours$World", "now", "I", false)
  | _ => ("InkHours$World", "z", "I", false)
def xb_t7 : Nat → FieldType := fun k => match k with
  | 0 => .array .int
  | 1 => .array .int
  | 2 => .array (.object "InkHours$Paper")
  | 3 => .array .int
  | 4 => .array .int
  | 5 => .int
  | _ => .int
def xb_F8 : u_T := fun k => match k with
  | 0 => ("InkHours", "world", "LInkHours$World;", true)
  | 1 => ("InkHours", "kept", "LInkHours$World;", true)
  | 2 => ("InkHours", "before", "LInkHours$World;", true)
  | 3 => ("InkHours", "courses", "[LInkHours$Course;", true)
  | 4 => ("InkHours", "tape", "LInkHours$Tape;", true)
  | 5 => ("InkHours", "reader", "LInkHours$Text;", true)
  | 6 => ("InkHours", "sheets", "[LInkHours$Sheet;", true)
  | 7 => ("InkHours", "findings", "[I", true)
  | 8 => ("InkHours", "forgeries", "[I", true)
  | 9 => ("InkHours", "copies", "LInkHours$Copies;", true)
  | _ => ("InkHours", "isKept", "Z", false)
def xb_t8 : Nat → FieldType := fun k => match k with
  | 0 => .object "InkHours$World"
  | 1 => .object "InkHours$World"
  | 2 => .object "InkHours$World"
  | 3 => .array (.object "InkHours$Course")
  | 4 => .object "InkHours$Tape"
  | 5 => .object "InkHours$Text"
  | 6 => .array (.object "InkHours$Sheet")
  | 7 => .array .int
  | 8 => .array .int
  | 9 => .object "InkHours$Copies"
  | _ => .boolean
def xb_F9 : u_T := fun k => match k with
  | 0 => ("InkHoursModel", "s", "[I", true)
  | 1 => ("InkHoursModel", "keptS", "[I", true)
  | 2 => ("InkHoursModel", "other", "[I", true)
  | 3 => ("InkHoursModel", "statuses", "[I", true)
  | 4 => ("InkHoursModel", "isKept", "Z", false)
  | 5 => ("InkHoursModel", "isWanted", "Z", false)
  | 6 => ("InkHoursModel", "isTurned", "Z", false)
  | 7 => ("InkHoursModel", "isSense", "Z", false)
  | 8 => ("InkHoursModel", "joinedUp", "I", false)
  | 9 => ("InkHoursModel", "ored", "I", false)
  | 10 => ("InkHoursModel", "meanings", "[I", true)
  | 11 => ("InkHoursModel", "tape", "[I", true)
  | 12 => ("InkHoursModel", "taped", "I", false)
  | 13 => ("InkHoursModel", "from", "I", false)
  | 14 => ("InkHoursModel", "to", "I", false)
  | 15 => ("InkHoursModel", "value", "I", false)
  | 16 => ("InkHoursModel", "isWrong", "Z", false)
  | 17 => ("InkHoursModel", "bitsOf", "[I", true)
  | 18 => ("InkHoursModel", "sizeOf", "[I", true)
  | 19 => ("InkHoursModel", "number", "[I", true)
  | _ => ("InkHoursModel", "moved", "[I", true)
def xb_t9 : Nat → FieldType := fun k => match k with
  | 0 => .array .int
  | 1 => .array .int
  | 2 => .array .int
  | 3 => .array .int
  | 4 => .boolean
  | 5 => .boolean
  | 6 => .boolean
  | 7 => .boolean
  | 8 => .int
  | 9 => .int
  | 10 => .array .int
  | 11 => .array .int
  | 12 => .int
  | 13 => .int
  | 14 => .int
  | 15 => .int
  | 16 => .boolean
  | 17 => .array .int
  | 18 => .array .int
  | 19 => .array .int
  | _ => .array .int
def xb_cl : List vw_C := [("InkHours$Copies", xb_F0, 5), ("InkHours$Course", xb_F1, 4), ("InkHours$Paper", xb_F2, 6), ("InkHours$Sentence", xb_F3, 5), ("InkHours$Sheet", xb_F4, 3), ("InkHours$Tape", xb_F5, 6), ("InkHours$Text", xb_F6, 3), ("InkHours$World", xb_F7, 7), ("InkHours", xb_F8, 11), ("InkHoursModel", xb_F9, 21)]
def xa_tb : List Jvm.Cond := lw_tbl.filter goodWord
def xa_isN (w : Jvm.Cond) : Bool := match w with
  | .fieldLinkNest .. => true
  | .methodLinkNest .. => true
  | _ => false
def xa_nw : List Jvm.Cond := lw_tbl.filter xa_isN
def xa_ao : List String := ["InkHours$Course", "InkHours$Paper", "InkHours$Sheet"]
/-- the texts: in which class, where, which one, its number -/
def xa_sr : List (String × (Nat × (String × Nat))) := [("InkHours$Text", 41, "ink", 20), ("InkHours$Text", 50, "paper", 21), ("InkHours$Text", 55, "on", 22), ("InkHours$Text", 64, "lasts", 23), ("InkHours$Text", 71, "price", 24), ("InkHours$Text", 80, "light", 25), ("InkHours$Text", 88, "dark", 26), ("InkHours$Text", 104, "not", 27), ("InkHours$Text", 109, "and", 28), ("InkHours$Text", 111, "or", 29), ("InkHours$Text", 113, "bold", 30), ("InkHours$Text", 115, "faint", 31), ("InkHours$Text", 117, "blot", 32)]
/-- static fields and what they hold -/
def xa_st : List (String × (String × (String × xa_V))) := [("InkHours", "KIND_ABOVE", "[I", xC 4), ("InkHours", "TRUTHS_OF_LETTER", "[I", xC 5), ("InkHours", "MORE_KINDS", "[I", xC 6), ("InkHours", "MORE_LETTERS", "[I", xC 7), ("java/lang/String", "COMPACT_STRINGS", "Z", xI 1), ("jdk/internal/util/Preconditions", "SIOOBE_FORMATTER", "Ljava/util/function/BiFunction;", xC 3)]
/-- what stays as it was, for all methods -/
def xa_F (b0 : Nat) (ca : Nat → Nat) (v3 : Value) (X : List Int) (D : va_G) (cI : ClassId) (cQ : Nat → ClassId) (U : State) (H : Heap) : Prop :=
  va_K D xb_cl [(cI, .int), (cQ 1, .object "InkHours$Course"), (cQ 2, .object "InkHours$Paper"), (cQ 4, .object "InkHours$Sheet")] U ∧
  (∀ w ∈ xa_nw, va_Nw w U) ∧ (∀ C ∈ xa_ao, va_AO C U) ∧ (∀ q ∈ xa_sr, vk_R q.1 q.2.1 q.2.2.1 (ca q.2.2.2) U) ∧
  (∀ q ∈ xa_st, va_Z q.1 q.2.1 q.2.2.1 (xa_cv b0 ca v3 q.2.2.2) (fun a : Nat => b0 ≤ a) U H) ∧
  (∀ (c : Nat) (xs : List Int), xa_ca X c = some xs → va_T .int (ca c) xs.length (fun j => .int (Int32.ofInt (xs.getD j 0))) (fun a : Nat => b0 ≤ a) U H) ∧
  (∀ (c : Nat) (xs : List Int), xa_cb c = some xs → va_T .byte (ca c) xs.length (fun j => .int (Int32.ofInt (xs.getD j 0))) (fun a : Nat => b0 ≤ a) U H) ∧
  (∀ c : Nat, 20 ≤ c → c < 33 → va_O "java/lang/String" (ca c) (fun a : Nat => b0 ≤ a) U H ∧ va_OF "java/lang/String" "coder" "B" (.int 0) (ca c) (fun a : Nat => b0 ≤ a) U H ∧ va_OF "java/lang/String" "value" "[B" (.ref (ca (c + 20))) (ca c) (fun a : Nat => b0 ≤ a) U H)
theorem xa_Nw_warm {w : Jvm.Cond} (hw : xa_isN w = true) {s U : State} (hW : s.WarmedH U.vm) (h : va_Nw w s) : va_Nw w U := by
  cases w <;> first | exact va_Nw.warmF hW h | exact va_Nw.warmM hW h | (simp [xa_isN] at hw)
theorem xa_Nw_same {w : Jvm.Cond} (hw : xa_isN w = true) {s U : State} (hW : s.vm = U.vm) (h : va_Nw w s) : va_Nw w U := by
  cases w <;> first | exact va_Nw.same rfl hW h | (simp [xa_isN] at hw)
section XF
variable {b0 : Nat} {ca : Nat → Nat} {v3 : Value} {X : List Int} {D : va_G} {cI : ClassId} {cQ : Nat → ClassId}
theorem xa_F_warm {s U : State} {H H1 : Heap} (hW : s.WarmedH U.vm) (hq : ∀ a : Nat, a < H.size → ¬ b0 ≤ a → H1[a]? = H[a]?) (h : xa_F b0 ca v3 X D cI cQ s H) : xa_F b0 ca v3 X D cI cQ U H1 := by
  obtain ⟨h1, h2, h3, h4, h5, h6, h7, h8⟩ := h
  have hvm := hW.alike
  refine ⟨va_K.moved hvm h1, fun w hw => xa_Nw_warm (List.mem_filter.mp hw).2 hW (h2 w hw), fun C hC => va_AO.moved hvm (h3 C hC), fun q hq => vk_R.warm hW (h4 q hq), fun q hz => (va_Z.moved hvm (h5 q hz)).kept hq, fun c xs e => (va_T.moved hvm (h6 c xs e)).kept hq, fun c xs e => (va_T.moved hvm (h7 c xs e)).kept hq, fun c a b => ?_⟩
  obtain ⟨g1, g2, g3⟩ := h8 c a b
  exact ⟨(va_O.moved hvm g1).kept hq, (va_OF.moved hvm g2).kept hq, (va_OF.moved hvm g3).kept hq⟩
theorem xa_F_same {s U : State} {H : Heap} (hW : s.vm = U.vm) (h : xa_F b0 ca v3 X D cI cQ s H) : xa_F b0 ca v3 X D cI cQ U H := by
  obtain ⟨h1, h2, h3, h4, h5, h6, h7, h8⟩ := h
  have hvm : s.vm.Alike U.vm := by rw [hW]; exact Vm.Alike.refl _
  refine ⟨va_K.moved hvm h1, fun w hw => xa_Nw_same (List.mem_filter.mp hw).2 hW (h2 w hw), fun C hC => va_AO.moved hvm (h3 C hC), fun q hq => vk_R.same hW.symm (h4 q hq), fun q hz => va_Z.moved hvm (h5 q hz), fun c xs e => va_T.moved hvm (h6 c xs e), fun c xs e => va_T.moved hvm (h7 c xs e), fun c a b => ?_⟩
  obtain ⟨g1, g2, g3⟩ := h8 c a b
  exact ⟨va_O.moved hvm g1, va_OF.moved hvm g2, va_OF.moved hvm g3⟩
end XF
/-- of a method: its class, name, code, answer, and the frames and words below it -/
abbrev xa_M : Type := Nat → String × (MethodName × (ByteArray × (Option FieldType × (Nat × Nat))))
def xa_rm (G : xa_G) (S : xa_M) (mi : Nat) : Jvm.Room := { frames := (S mi).2.2.2.2.1, cells := (G.2 mi).2.1, slots := (G.2 mi).2.2, locals := (S mi).2.2.2.2.2 }
def xa_code (G : xa_G) (S : xa_M) (mi : Nat) : Jvm.Cond := .code (S mi).2.1 (S mi).2.2.1 (G.2 mi).1 (S mi).2.2.2.1
def xa_ws (G : xa_G) (S : xa_M) (mi : Nat) : List Jvm.Cond := xa_code G S mi :: xa_tb
def xa_in (p : Nat) (w : Jvm.Cond) : Bool := (match lw_tbl[p]? with
  | some w' => decide (w' = w)
  | none => false) && goodWord w
def xa_inN (p : Nat) (w : Jvm.Cond) : Bool := (match lw_tbl[p]? with
  | some w' => decide (w' = w)
  | none => false) && xa_isN w
theorem xa_in_tb {p : Nat} {w : Jvm.Cond} (h : xa_in p w = true) : w ∈ xa_tb := by
  unfold xa_in at h
  rw [Bool.and_eq_true] at h
  obtain ⟨h1, h2⟩ := h
  refine List.mem_filter.mpr ⟨?_, h2⟩
  cases e : lw_tbl[p]? with
  | none => rw [e] at h1; simp at h1
  | some w' =>
    rw [e] at h1
    simp at h1
    rw [← h1]
    exact List.mem_of_getElem? e
theorem xa_in_nw {p : Nat} {w : Jvm.Cond} (h : xa_inN p w = true) : w ∈ xa_nw := by
  unfold xa_inN at h
  rw [Bool.and_eq_true] at h
  obtain ⟨h1, h2⟩ := h
  refine List.mem_filter.mpr ⟨?_, h2⟩
  cases e : lw_tbl[p]? with
  | none => rw [e] at h1; simp at h1
  | some w' =>
    rw [e] at h1
    simp at h1
    rw [← h1]
    exact List.mem_of_getElem? e
/-- place i of a method stands at the byte b -/
def xa_at (G : xa_G) (mi i b : Nat) : Bool := match (G.1 mi)[i]? with
  | none => true
  | some e => e.1 == b
def xa_jmp (G : xa_G) (mi : Nat) (pc : Nat) (t off : Int) : Bool := match (G.1 mi)[t.toNat]? with
  | none => false
  | some e => decide ((pc : Int) + off = (e.1 : Int))
def xa_len (i : Jvm.ClassFile.Instr) : Nat := match i with
  | .aload_n _ | .iload_n _ | .lload_n _ | .astore_n _ | .istore_n _ | .lstore_n _ | .iconst _ | .lconst _ | .iadd | .isub | .imul | .iand | .ior | .ixor | .ishl | .ishr | .iushr | .idiv | .irem | .ladd | .lmul | .i2b | .i2s | .i2c | .i2l | .l2i | .lcmp | .dup | .dup2 | .pop | .iaload | .baload | .iastore | .aaload | .aastore | .arraylength | .ireturn | .lreturn | .areturn | .return_ | .athrow => 1
  | .aload _ | .iload _ | .lload _ | .astore _ | .istore _ | .lstore _ | .bipush _ | .ldc _ | .newarray _ => 2
  | .sipush _ | .ldc_w _ | .ldc2_w _ | .iinc _ _ | .getfield _ | .putfield _ | .getstatic _ | .new _ | .anewarray _ | .invokestatic _ | .invokevirtual _ | .invokespecial _ | .if_icmp _ _ | .ifCond _ _ | .goto _ => 3
  | _ => 0
def xa_through (i : Jvm.ClassFile.Instr) : Bool := match i with
  | .goto _ | .tableswitch .. | .ireturn | .lreturn | .areturn | .return_ | .athrow => false
  | _ => true
def xa_refD (d : String) : Bool := match parseFieldDescriptor d with
  | some (.object _) => true
  | some (.array _) => true
  | _ => false
/-- a call of method y of n arguments, out of method mi: room, code, number of arguments -/
def xa_callOK (G : xa_G) (S : xa_M) (mi y n q t : Nat) : Bool :=
  xa_in q (.initialized (S y).2.1.cls) && (xa_in t (xa_code G S y) && (decide ((S y).2.1.cls ≠ "java/lang/invoke/MethodHandle" ∧ (S y).2.1.cls ≠ "java/lang/invoke/VarHandle") && (decide ((parseMethodDescriptor (S y).2.1.desc).map (fun d => d.parameters.length) = some n) && (decide ((S y).2.2.2.2.1 + 1 ≤ (S mi).2.2.2.2.1) && decide (8 + ((G.2 y).1 + 11) + (S y).2.2.2.2.2 ≤ (S mi).2.2.2.2.2)))))
def xa_stx (v : xa_V) : List Int := match v with
  | .inl z => [1, z]
  | .inr (.inr (.inr c)) => [0, (c : Int)]
  | _ => []
def xa_extra (G : xa_G) (S : xa_M) (mi : Nat) (en : xa_E) (pl : List Nat) : Bool := match en.2.1, en.2.2.2, pl with
  | .ldc k, [0, z], [p] => xa_in p (.constant (S mi).1 k (Int32.ofInt z))
  | .ldc k, [1, c], [j] => (match xa_sr[j]? with
    | some q => decide (q.1 = (S mi).1 ∧ q.2.1 = k ∧ (q.2.2.2 : Int) = c)
    | none => false)
  | .ldc_w k, [0, z], [p] => xa_in p (.constant (S mi).1 k (Int32.ofInt z))
  | .ldc2_w k, [z], [p] => xa_in p (.constantLong (S mi).1 k (Int64.ofInt z))
  | .goto off, [t], [] => xa_jmp G mi en.1 t off
  | .if_icmp _ off, [t], [] => xa_jmp G mi en.1 t off
  | .ifCond _ off, [t], [] => xa_jmp G mi en.1 t off
  | .tableswitch d _ _ offs, dt :: ts, [] => xa_jmp G mi en.1 dt d && (List.range ts.length).all (fun j => match ts[j]?, offs[j]? with
    | some t, some o => xa_jmp G mi en.1 t o
    | _, _ => false)
  | .getfield k, [0, ci, f], [p] => (match xb_cl[ci.toNat]? with
    | some q => decide (f.toNat < q.2.2) && (decide ((q.2.1 f.toNat).1 = q.1) && xa_in p (.fieldLink (S mi).1 k q.1 (q.2.1 f.toNat).2.1 (q.2.1 f.toNat).2.2.1))
    | none => false)
  | .getfield k, [1, f], [p] => (decide (f = 0) && xa_in p (.fieldLink (S mi).1 k "java/lang/String" "coder" "B")) || (decide (f = 1) && xa_in p (.fieldLink (S mi).1 k "java/lang/String" "value" "[B"))
  | .putfield k, [k0, ci, f, t], [p] => (match xb_cl[ci.toNat]? with
    | some q => decide (f.toNat < q.2.2) && (decide ((q.2.1 f.toNat).1 = q.1) && (xa_in p (.fieldLink (S mi).1 k q.1 (q.2.1 f.toNat).2.1 (q.2.1 f.toNat).2.2.1) && (((decide (k0 = 0) && !(q.2.1 f.toNat).2.2.2) || (decide (k0 = 1) && ((q.2.1 f.toNat).2.2.2 && decide ((S mi).2.1.name = "<init>" ∧ q.1 = (S mi).1)))) && ((decide (t = 0) && decide ((q.2.1 f.toNat).2.2.1 = "I")) || ((decide (t = 1) && decide ((q.2.1 f.toNat).2.2.1 = "Z")) || (decide (t = 2) && xa_refD (q.2.1 f.toNat).2.2.1))))))
    | none => false)
  | .getstatic k, x, [p, j] => (match xa_st[j]? with
    | some q => decide (x = xa_stx q.2.2.2) && xa_in p (.fieldLink (S mi).1 k q.1 q.2.1 q.2.2.1)
    | none => false)
  | .getstatic k, x, [p, j, _] => (match xa_st[j]? with
    | some q => decide (x = xa_stx q.2.2.2) && xa_inN p (.fieldLinkNest (S mi).1 k q.1 q.2.1 q.2.2.1 "InkHours")
    | none => false)
  | .new k, [ci], [p, q, r] => (match xb_cl[ci.toNat]? with
    | some c => xa_in p (.classLink (S mi).1 k c.1) && (xa_in q (.instantiable c.1 c.2.2) && xa_in r (.initialized c.1))
    | none => false)
  | .newarray ty, _, [p] => decide (ty = .int) && xa_in p (.arrayClass .int)
  | .anewarray k, [ci], [p] => (match xb_cl[ci.toNat]? with
    | some c => decide (ci = 1 ∨ ci = 2 ∨ ci = 4) && (decide (c.1 ∈ xa_ao) && xa_in p (.classLink (S mi).1 k c.1))
    | none => false)
  | .invokespecial k, [6], [p, q, r] => xa_in p (.methodLink (S mi).1 k Lib.objectInit) && (xa_in q (.instanceMethod Lib.objectInit) && (xa_in r (.code Lib.objectInit ⟨#[0xb1]⟩ 1 none) && (decide (1 ≤ (S mi).2.2.2.2.1) && decide (20 ≤ (S mi).2.2.2.2.2))))
  | .invokestatic k, [7], [p, q, r, t] => xa_in p (.methodLink (S mi).1 k Lib.Math.max.name) && (xa_in q (.static Lib.Math.max.name) && (xa_in r (.initialized "java/lang/Math") && (xa_in t (.code Lib.Math.max.name Lib.Math.max.code 2 (some .int)) && (decide (1 ≤ (S mi).2.2.2.2.1) && decide (21 ≤ (S mi).2.2.2.2.2)))))
  | .invokestatic k, [8], [p, q, r, t] => xa_in p (.methodLink (S mi).1 k Lib.Math.min.name) && (xa_in q (.static Lib.Math.min.name) && (xa_in r (.initialized "java/lang/Math") && (xa_in t (.code Lib.Math.min.name Lib.Math.min.code 2 (some .int)) && (decide (1 ≤ (S mi).2.2.2.2.1) && decide (21 ≤ (S mi).2.2.2.2.2)))))
  | .invokestatic k, [9], [p, q, r, t] => xa_in p (.methodLink (S mi).1 k arraycopyName) && (xa_in q (.native arraycopyName) && (xa_in r (.static arraycopyName) && (xa_in t (.initialized "java/lang/System") && (decide (1 ≤ (S mi).2.2.2.2.1) && decide (8 + (nativeFrameWords "java/lang/System" "arraycopy" 5 + 11) ≤ (S mi).2.2.2.2.2)))))
  | .invokestatic k, [0, y, n], [p, r, q, t] => xa_in p (.methodLink (S mi).1 k (S y.toNat).2.1) && (xa_in r (.static (S y.toNat).2.1) && xa_callOK G S mi y.toNat n.toNat q t)
  | .invokestatic k, [3, y, n], [p, r, q, t] => xa_inN p (.methodLinkNest (S mi).1 k (S y.toNat).2.1 "InkHours") && (xa_in r (.static (S y.toNat).2.1) && xa_callOK G S mi y.toNat n.toNat q t)
  | .invokevirtual k, [1, y, n, ci], [p, r, u, q, t] => (match xb_cl[ci.toNat]? with
    | some c => decide ((S y.toNat).2.1.cls = c.1) && (xa_in p (.methodLink (S mi).1 k (S y.toNat).2.1) && (xa_in r (.instanceMethod (S y.toNat).2.1) && (xa_in u (.selects c.1 (S y.toNat).2.1 (S y.toNat).2.1) && xa_callOK G S mi y.toNat n.toNat q t)))
    | none => false)
  | .invokevirtual k, [10, y, n, _], [p, r, u, q, t] => decide ((S y.toNat).2.1.cls = "java/lang/String") && (xa_in p (.methodLink (S mi).1 k (S y.toNat).2.1) && (xa_in r (.instanceMethod (S y.toNat).2.1) && (xa_in u (.selects "java/lang/String" (S y.toNat).2.1 (S y.toNat).2.1) && xa_callOK G S mi y.toNat n.toNat q t)))
  | .invokespecial k, [2, y, n, _], [p, r, q, t] => decide ((S y.toNat).2.1.name = "<init>" ∧ (S y.toNat).2.2.2.1 = none) && (xa_in p (.methodLink (S mi).1 k (S y.toNat).2.1) && (xa_in r (.instanceMethod (S y.toNat).2.1) && xa_callOK G S mi y.toNat n.toNat q t))
  | .invokespecial k, [5, y, n, _], [p, r, q, t] => decide ((S y.toNat).2.1.name = "<init>" ∧ (S y.toNat).2.2.2.1 = none) && (xa_inN p (.methodLinkNest (S mi).1 k (S y.toNat).2.1 "InkHours") && (xa_in r (.instanceMethod (S y.toNat).2.1) && xa_callOK G S mi y.toNat n.toNat q t))
  | .ireturn, [t], [] => (decide (t = 0) && decide ((S mi).2.2.2.1 = some .int)) || ((decide (t = 1) && decide ((S mi).2.2.2.1 = some .boolean)) || ((decide (t = 3) && decide ((S mi).2.2.2.1 = some .byte)) || (decide (t = 4) && decide ((S mi).2.2.2.1 = some .char))))
  | .lreturn, [], [] => decide ((S mi).2.2.2.1 = some .long)
  | .areturn, [], [] => (match (S mi).2.2.2.1 with
    | some (.object _) => true
    | _ => false)
  | .return_, [], [] => decide ((S mi).2.2.2.1 = none)
  | .invokespecial _, [], _ => true
  | .invokestatic _, [], _ => true
  | .invokevirtual _, [], _ => true
  | .ldc _, _, _ => false
  | .ldc_w _, _, _ => false
  | .ldc2_w _, _, _ => false
  | .goto _, _, _ => false
  | .if_icmp _ _, _, _ => false
  | .ifCond _ _, _, _ => false
  | .tableswitch _ _ _ _, _, _ => false
  | .getfield _, _, _ => false
  | .putfield _, _, _ => false
  | .getstatic _, _, _ => false
  | .new _, _, _ => false
  | .newarray _, _, _ => false
  | .anewarray _, _, _ => false
  | .invokespecial _, _, _ => false
  | .invokestatic _, _, _ => false
  | .invokevirtual _, _, _ => false
  | .ireturn, _, _ => false
  | .lreturn, _, _ => false
  | .areturn, _, _ => false
  | .return_, _, _ => false
  | _, _, _ => true
def xa_dec (b : ByteArray) (en : xa_E) : Bool := match decode b en.1 with
  | .ok q => decide (q = (en.2.1, en.2.2.1))
  | .error _ => false
def xa_lenOK (en : xa_E) : Bool := match en.2.1 with
  | .tableswitch .. => true
  | i => en.2.2.1 == xa_len i
def xa_ok (G : xa_G) (S : xa_M) (mi i : Nat) (en : xa_E) (pl : List Nat) : Bool :=
  xa_dec (S mi).2.2.1 en && (xa_lenOK en && ((!xa_through en.2.1 || xa_at G mi (i + 1) (en.1 + en.2.2.1)) && xa_extra G S mi en pl))
/-- all of a method's instructions -/
def xa_allOK (G : xa_G) (S : xa_M) (mi : Nat) : Prop := ∀ (i : Nat) (en : xa_E), (G.1 mi)[i]? = some en → ∃ pl, xa_ok G S mi i en pl = true
theorem xa_dec_of {b : ByteArray} {en : xa_E} (h : xa_dec b en = true) : decode b en.1 = .ok (en.2.1, en.2.2.1) := by
  unfold xa_dec at h
  split at h
  · next q e => rw [e, of_decide_eq_true h]
  · simp at h
/-- the classes, as methods need them -/
def xa_ClOK : Prop := ∀ (ci : Nat) (q : vw_C), xb_cl[ci]? = some q → (∀ w ∈ u_ws q.1 q.2.1 q.2.2, w ∈ xa_tb) ∧ (∀ a, a < q.2.2 → ∀ b, b < q.2.2 → a ≠ b → (q.2.1 a).2.1 ≠ (q.2.1 b).2.1) ∧ (xa_nf ci).length = q.2.2 ∧
  ∃ ty : Nat → FieldType, (∀ k, k < q.2.2 → parseFieldDescriptor (q.2.1 k).2.2.1 = some (ty k)) ∧ ∀ (b0 : Nat) (ca : Nat → Nat) (v3 : Value) (j : Nat), j < q.2.2 → defaultValue (ty j) = vp_V ((xa_nf ci).map (xa_cv b0 ca v3)) j
end
section
/-! ONE INSTRUCTION: the real machine follows the small one -/
def xa_Cx (G : xa_G) (S : xa_M) (mi : Nat) (X : List Int) (b0 : Nat) (ca : Nat → Nat) (v3 : Value) (D : va_G) (cI : ClassId) (cQ : Nat → ClassId) (p : Program) (R : Jvm.Room) (s : State) (m : MethodId) (args : Array Value) (meth : Method) (c : Code) : Prop :=
  p.tables.exec = Jvm.exec ∧ c.code = (S mi).2.2.1 ∧ c.maxLocals = (G.2 mi).1 ∧ s.vm.findClass (S mi).1 = some m.cls ∧ (∀ w ∈ xa_tb, w.before args s = true) ∧ xa_F b0 ca v3 X D cI cQ s s.heap ∧ v3.category = 1 ∧ b0 ≤ s.heap.size ∧ meth.name = (S mi).2.1.name ∧ (S mi).2.2.2.2.1 ≤ R.frames ∧ (S mi).2.2.2.2.2 ≤ R.locals
def xa_WW (G : xa_G) (mi : Nat) (b0 : Nat) (ca : Nat → Nat) (v3 : Value) (D : va_G) (cI : ClassId) (cQ : Nat → ClassId) (p : Program) (l : Launch) (e : Env) (R : Jvm.Room) (s : State) (m : MethodId) (args : Array Value) (below : List Frame) (meth : Method) (c : Code) (Q : State → Prop) (h' : xa_H) (i : Nat) (ls st : List xa_V) (h : xa_H) : Prop :=
  ∀ (pc : Nat) (H : Heap) (locs : List Loc) (cells slots : Nat) (lr : Array Slot), xa_at G mi i pc = true → xa_lr b0 ca v3 (G.2 mi).1 ls lr → xa_Rel b0 ca v3 cI cQ D xb_cl h H → va_S (fun a : Nat => b0 ≤ a) s.heap H locs → cells + (h'.length - h.length) ≤ R.cells → slots + (xa_sl h' - xa_sl h) ≤ R.slots →
    W p l e R s m args below meth c H locs cells slots Q (F0 m pc lr (st.map (xa_cv b0 ca v3)))
theorem xa_at_of {G : xa_G} {mi i pc : Nat} {en : xa_E} (hf : (G.1 mi)[i]? = some en) (h : xa_at G mi i pc = true) : en.1 = pc := by
  unfold xa_at at h
  rw [hf] at h
  simpa using h
theorem xa_jmp_of {G : xa_G} {mi pc : Nat} {t off : Int} (h : xa_jmp G mi pc t off = true) : ∃ b : Nat, (pc : Int) + off = (b : Int) ∧ xa_at G mi t.toNat b = true := by
  unfold xa_jmp at h
  split at h
  · simp at h
  · next en hf =>
    refine ⟨en.1, of_decide_eq_true h, ?_⟩
    unfold xa_at
    rw [hf]
    simp
theorem xa_sl_set {h : xa_H} {k : Nat} {a b : xa_K} (e : h[k]? = some a) (hl : b.2.2.length = a.2.2.length) : xa_sl (h.set k b) = xa_sl h := by
  unfold xa_sl
  rw [List.map_set]
  have : (h.map (fun c => c.2.2.length))[k]? = some b.2.2.length := by rw [List.getElem?_map, e, hl]; rfl
  obtain ⟨hk, e2⟩ := List.getElem?_eq_some_iff.mp this
  rw [← e2, List.set_getElem_self]
theorem xa_Rel_set {b0 : Nat} {ca : Nat → Nat} {v3 : Value} {cI : ClassId} {cQ : Nat → ClassId} {D : va_G} {h : xa_H} {k : Nat} {c : xa_K} {H H1 : Heap} (hR : xa_Rel b0 ca v3 cI cQ D xb_cl h H) (hP : va_P D xb_cl ((xa_W b0 ca v3 cI cQ h).set k (b0 + k, xa_ce b0 ca v3 cI cQ c)) H1) (hz : H1.size = H.size) : xa_Rel b0 ca v3 cI cQ D xb_cl (h.set k c) H1 :=
  ⟨by rw [hz, List.length_set]; exact hR.1, by rw [xa_W_set]; exact hP⟩
section XS
variable {p : Program} {l : Launch} {e : Env} {R : Jvm.Room} {s : State} {m : MethodId} {args : Array Value} {below : List Frame} {meth : Method} {c : Code} {Q : State → Prop}
variable {G : xa_G} {S : xa_M} {mi : Nat} {X : List Int} {b0 : Nat} {ca : Nat → Nat} {v3 : Value} {D : va_G} {cI : ClassId} {cQ : Nat → ClassId} {h' : xa_H}
theorem xa_s_iload (C : xa_Cx G S mi X b0 ca v3 D cI cQ p R s m args meth c) {en : xa_E} {i i1 : Nat} {ls ls1 st st1 : List xa_V} {h h1 : xa_H} {pl : List Nat} {k : Nat} (hins : en.2.1 = .iload k) (hf : (G.1 mi)[i]? = some en) (hok : xa_ok G S mi i en pl = true) (ho : xa_one1 X en i ls st h = some (.inl (i1, ls1, st1, h1))) (hm : h1.length ≤ h'.length ∧ xa_sl h1 ≤ xa_sl h') (kk : xa_WW G mi b0 ca v3 D cI cQ p l e R s m args below meth c Q h' i1 ls1 st1 h1) : xa_WW G mi b0 ca v3 D cI cQ p l e R s m args below meth c Q h' i ls st h := by
  obtain ⟨pb, ins, ln, x⟩ := en
  dsimp only at hins
  subst hins
  intro pc H locs cells slots lr hat hL hR hS hc hs
  obtain ⟨hx, hb, hml, hown, hts, hF, h3, hb0, hnm, hfr, hlo⟩ := C
  simp only [xa_ok, Bool.and_eq_true] at hok
  obtain ⟨k1, k2, k3, k4⟩ := hok
  have hpc : pb = pc := xa_at_of hf hat
  subst hpc
  have hdg := xa_dec_of k1
  have hln : ln = 2 := by simpa [xa_lenOK, xa_len] using k2
  subst hln
  have hnx : xa_at G mi (i + 1) (pb + 2) = true := by simpa [xa_through] using k3
  dsimp only [xa_one1] at ho
  dsimp only at hdg
  unfold xa_iload at ho
  split at ho
  · next z e1 =>
    cases ho
    exact lv_iload hx hb hdg (hL.2.2.2 _ _ e1 (by simp)) (kk _ H locs cells slots lr hnx hL hR hS hc hs)
  · cases ho
theorem xa_s_iload_n (C : xa_Cx G S mi X b0 ca v3 D cI cQ p R s m args meth c) {en : xa_E} {i i1 : Nat} {ls ls1 st st1 : List xa_V} {h h1 : xa_H} {pl : List Nat} {k : Fin 4} (hins : en.2.1 = .iload_n k) (hf : (G.1 mi)[i]? = some en) (hok : xa_ok G S mi i en pl = true) (ho : xa_one1 X en i ls st h = some (.inl (i1, ls1, st1, h1))) (hm : h1.length ≤ h'.length ∧ xa_sl h1 ≤ xa_sl h') (kk : xa_WW G mi b0 ca v3 D cI cQ p l e R s m args below meth c Q h' i1 ls1 st1 h1) : xa_WW G mi b0 ca v3 D cI cQ p l e R s m args below meth c Q h' i ls st h := by
  obtain ⟨pb, ins, ln, x⟩ := en
  dsimp only at hins
  subst hins
  intro pc H locs cells slots lr hat hL hR hS hc hs
  obtain ⟨hx, hb, hml, hown, hts, hF, h3, hb0, hnm, hfr, hlo⟩ := C
  simp only [xa_ok, Bool.and_eq_true] at hok
  obtain ⟨k1, k2, k3, k4⟩ := hok
  have hpc : pb = pc := xa_at_of hf hat
  subst hpc
  have hdg := xa_dec_of k1
  have hln : ln = 1 := by simpa [xa_lenOK, xa_len] using k2
  subst hln
  have hnx : xa_at G mi (i + 1) (pb + 1) = true := by simpa [xa_through] using k3
  dsimp only [xa_one1] at ho
  dsimp only at hdg
  unfold xa_iload at ho
  split at ho
  · next z e1 =>
    cases ho
    exact lv_iload_n hx hb hdg rfl (hL.2.2.2 _ _ e1 (by simp)) (kk _ H locs cells slots lr hnx hL hR hS hc hs)
  · cases ho
theorem xa_s_lload (C : xa_Cx G S mi X b0 ca v3 D cI cQ p R s m args meth c) {en : xa_E} {i i1 : Nat} {ls ls1 st st1 : List xa_V} {h h1 : xa_H} {pl : List Nat} {k : Nat} (hins : en.2.1 = .lload k) (hf : (G.1 mi)[i]? = some en) (hok : xa_ok G S mi i en pl = true) (ho : xa_one1 X en i ls st h = some (.inl (i1, ls1, st1, h1))) (hm : h1.length ≤ h'.length ∧ xa_sl h1 ≤ xa_sl h') (kk : xa_WW G mi b0 ca v3 D cI cQ p l e R s m args below meth c Q h' i1 ls1 st1 h1) : xa_WW G mi b0 ca v3 D cI cQ p l e R s m args below meth c Q h' i ls st h := by
  obtain ⟨pb, ins, ln, x⟩ := en
  dsimp only at hins
  subst hins
  intro pc H locs cells slots lr hat hL hR hS hc hs
  obtain ⟨hx, hb, hml, hown, hts, hF, h3, hb0, hnm, hfr, hlo⟩ := C
  simp only [xa_ok, Bool.and_eq_true] at hok
  obtain ⟨k1, k2, k3, k4⟩ := hok
  have hpc : pb = pc := xa_at_of hf hat
  subst hpc
  have hdg := xa_dec_of k1
  have hln : ln = 2 := by simpa [xa_lenOK, xa_len] using k2
  subst hln
  have hnx : xa_at G mi (i + 1) (pb + 2) = true := by simpa [xa_through] using k3
  dsimp only [xa_one1] at ho
  dsimp only at hdg
  unfold xa_lload at ho
  split at ho
  · next z e1 =>
    cases ho
    exact lv_lload hx hb hdg (hL.2.2.2 _ _ e1 (by simp)) (kk _ H locs cells slots lr hnx hL hR hS hc hs)
  · cases ho
theorem xa_s_lload_n (C : xa_Cx G S mi X b0 ca v3 D cI cQ p R s m args meth c) {en : xa_E} {i i1 : Nat} {ls ls1 st st1 : List xa_V} {h h1 : xa_H} {pl : List Nat} {k : Fin 4} (hins : en.2.1 = .lload_n k) (hf : (G.1 mi)[i]? = some en) (hok : xa_ok G S mi i en pl = true) (ho : xa_one1 X en i ls st h = some (.inl (i1, ls1, st1, h1))) (hm : h1.length ≤ h'.length ∧ xa_sl h1 ≤ xa_sl h') (kk : xa_WW G mi b0 ca v3 D cI cQ p l e R s m args below meth c Q h' i1 ls1 st1 h1) : xa_WW G mi b0 ca v3 D cI cQ p l e R s m args below meth c Q h' i ls st h := by
  obtain ⟨pb, ins, ln, x⟩ := en
  dsimp only at hins
  subst hins
  intro pc H locs cells slots lr hat hL hR hS hc hs
  obtain ⟨hx, hb, hml, hown, hts, hF, h3, hb0, hnm, hfr, hlo⟩ := C
  simp only [xa_ok, Bool.and_eq_true] at hok
  obtain ⟨k1, k2, k3, k4⟩ := hok
  have hpc : pb = pc := xa_at_of hf hat
  subst hpc
  have hdg := xa_dec_of k1
  have hln : ln = 1 := by simpa [xa_lenOK, xa_len] using k2
  subst hln
  have hnx : xa_at G mi (i + 1) (pb + 1) = true := by simpa [xa_through] using k3
  dsimp only [xa_one1] at ho
  dsimp only at hdg
  unfold xa_lload at ho
  split at ho
  · next z e1 =>
    cases ho
    exact lv_lload_n hx hb hdg rfl (hL.2.2.2 _ _ e1 (by simp)) (kk _ H locs cells slots lr hnx hL hR hS hc hs)
  · cases ho
theorem xa_s_aload (C : xa_Cx G S mi X b0 ca v3 D cI cQ p R s m args meth c) {en : xa_E} {i i1 : Nat} {ls ls1 st st1 : List xa_V} {h h1 : xa_H} {pl : List Nat} {k : Nat} (hins : en.2.1 = .aload k) (hf : (G.1 mi)[i]? = some en) (hok : xa_ok G S mi i en pl = true) (ho : xa_one1 X en i ls st h = some (.inl (i1, ls1, st1, h1))) (hm : h1.length ≤ h'.length ∧ xa_sl h1 ≤ xa_sl h') (kk : xa_WW G mi b0 ca v3 D cI cQ p l e R s m args below meth c Q h' i1 ls1 st1 h1) : xa_WW G mi b0 ca v3 D cI cQ p l e R s m args below meth c Q h' i ls st h := by
  obtain ⟨pb, ins, ln, x⟩ := en
  dsimp only at hins
  subst hins
  intro pc H locs cells slots lr hat hL hR hS hc hs
  obtain ⟨hx, hb, hml, hown, hts, hF, h3, hb0, hnm, hfr, hlo⟩ := C
  simp only [xa_ok, Bool.and_eq_true] at hok
  obtain ⟨k1, k2, k3, k4⟩ := hok
  have hpc : pb = pc := xa_at_of hf hat
  subst hpc
  have hdg := xa_dec_of k1
  have hln : ln = 2 := by simpa [xa_lenOK, xa_len] using k2
  subst hln
  have hnx : xa_at G mi (i + 1) (pb + 2) = true := by simpa [xa_through] using k3
  dsimp only [xa_one1] at ho
  dsimp only at hdg
  unfold xa_aload at ho
  split at ho
  · next z e1 =>
    cases ho
    exact lv_aload hx hb hdg (hL.2.2.2 _ _ e1 (by simp)) (kk _ H locs cells slots lr hnx hL hR hS hc hs)
  · next z e1 =>
    split at ho
    · next hz =>
      cases ho
      have e2 := hL.2.2.2 _ _ e1 (by intro q; cases q; omega)
      have e3 : xa_cv b0 ca v3 (xC z) = .ref (ca z) := by
        show (if z = 0 then Value.null else if z = 3 then v3 else .ref (ca z)) = _
        rw [if_neg (by omega), if_neg (by omega)]
      have e4 := kk _ H locs cells slots lr hnx hL hR hS hc hs
      rw [List.map_cons] at e4
      rw [show xa_cv b0 ca v3 (.inr (.inr (.inr z))) = .ref (ca z) from e3] at e2 e4
      exact lv_aload hx hb hdg e2 e4
    · cases ho
  · cases ho
theorem xa_s_aload_n (C : xa_Cx G S mi X b0 ca v3 D cI cQ p R s m args meth c) {en : xa_E} {i i1 : Nat} {ls ls1 st st1 : List xa_V} {h h1 : xa_H} {pl : List Nat} {k : Fin 4} (hins : en.2.1 = .aload_n k) (hf : (G.1 mi)[i]? = some en) (hok : xa_ok G S mi i en pl = true) (ho : xa_one1 X en i ls st h = some (.inl (i1, ls1, st1, h1))) (hm : h1.length ≤ h'.length ∧ xa_sl h1 ≤ xa_sl h') (kk : xa_WW G mi b0 ca v3 D cI cQ p l e R s m args below meth c Q h' i1 ls1 st1 h1) : xa_WW G mi b0 ca v3 D cI cQ p l e R s m args below meth c Q h' i ls st h := by
  obtain ⟨pb, ins, ln, x⟩ := en
  dsimp only at hins
  subst hins
  intro pc H locs cells slots lr hat hL hR hS hc hs
  obtain ⟨hx, hb, hml, hown, hts, hF, h3, hb0, hnm, hfr, hlo⟩ := C
  simp only [xa_ok, Bool.and_eq_true] at hok
  obtain ⟨k1, k2, k3, k4⟩ := hok
  have hpc : pb = pc := xa_at_of hf hat
  subst hpc
  have hdg := xa_dec_of k1
  have hln : ln = 1 := by simpa [xa_lenOK, xa_len] using k2
  subst hln
  have hnx : xa_at G mi (i + 1) (pb + 1) = true := by simpa [xa_through] using k3
  dsimp only [xa_one1] at ho
  dsimp only at hdg
  unfold xa_aload at ho
  split at ho
  · next z e1 =>
    cases ho
    exact lv_aload_n hx hb hdg rfl (hL.2.2.2 _ _ e1 (by simp)) (kk _ H locs cells slots lr hnx hL hR hS hc hs)
  · next z e1 =>
    split at ho
    · next hz =>
      cases ho
      have e2 := hL.2.2.2 _ _ e1 (by intro q; cases q; omega)
      have e3 : xa_cv b0 ca v3 (xC z) = .ref (ca z) := by
        show (if z = 0 then Value.null else if z = 3 then v3 else .ref (ca z)) = _
        rw [if_neg (by omega), if_neg (by omega)]
      have e4 := kk _ H locs cells slots lr hnx hL hR hS hc hs
      rw [List.map_cons] at e4
      rw [show xa_cv b0 ca v3 (.inr (.inr (.inr z))) = .ref (ca z) from e3] at e2 e4
      exact lv_aload_n hx hb hdg rfl e2 e4
    · cases ho
  · cases ho
theorem xa_s_istore (C : xa_Cx G S mi X b0 ca v3 D cI cQ p R s m args meth c) {en : xa_E} {i i1 : Nat} {ls ls1 st st1 : List xa_V} {h h1 : xa_H} {pl : List Nat} {k : Nat} (hins : en.2.1 = .istore k) (hf : (G.1 mi)[i]? = some en) (hok : xa_ok G S mi i en pl = true) (ho : xa_one1 X en i ls st h = some (.inl (i1, ls1, st1, h1))) (hm : h1.length ≤ h'.length ∧ xa_sl h1 ≤ xa_sl h') (kk : xa_WW G mi b0 ca v3 D cI cQ p l e R s m args below meth c Q h' i1 ls1 st1 h1) : xa_WW G mi b0 ca v3 D cI cQ p l e R s m args below meth c Q h' i ls st h := by
  obtain ⟨pb, ins, ln, x⟩ := en
  dsimp only at hins
  subst hins
  intro pc H locs cells slots lr hat hL hR hS hc hs
  obtain ⟨hx, hb, hml, hown, hts, hF, h3, hb0, hnm, hfr, hlo⟩ := C
  simp only [xa_ok, Bool.and_eq_true] at hok
  obtain ⟨k1, k2, k3, k4⟩ := hok
  have hpc : pb = pc := xa_at_of hf hat
  subst hpc
  have hdg := xa_dec_of k1
  have hln : ln = 2 := by simpa [xa_lenOK, xa_len] using k2
  subst hln
  have hnx : xa_at G mi (i + 1) (pb + 2) = true := by simpa [xa_through] using k3
  dsimp only [xa_one1] at ho
  dsimp only at hdg
  unfold xa_istore at ho
  split at ho
  · next z st0 =>
    split at ho
    · next hk =>
      cases ho
      have hk2 := hL.2.2.1
      exact lv_istore hx hb hdg (xa_lr_has hL) (by omega) rfl (fun lr' hl' => kk _ H locs cells slots lr' hnx (xa_lr_set1 h3 hk2 (by omega) hl') hR hS hc hs)
    · cases ho
  · cases ho
theorem xa_s_istore_n (C : xa_Cx G S mi X b0 ca v3 D cI cQ p R s m args meth c) {en : xa_E} {i i1 : Nat} {ls ls1 st st1 : List xa_V} {h h1 : xa_H} {pl : List Nat} {k : Fin 4} (hins : en.2.1 = .istore_n k) (hf : (G.1 mi)[i]? = some en) (hok : xa_ok G S mi i en pl = true) (ho : xa_one1 X en i ls st h = some (.inl (i1, ls1, st1, h1))) (hm : h1.length ≤ h'.length ∧ xa_sl h1 ≤ xa_sl h') (kk : xa_WW G mi b0 ca v3 D cI cQ p l e R s m args below meth c Q h' i1 ls1 st1 h1) : xa_WW G mi b0 ca v3 D cI cQ p l e R s m args below meth c Q h' i ls st h := by
  obtain ⟨pb, ins, ln, x⟩ := en
  dsimp only at hins
  subst hins
  intro pc H locs cells slots lr hat hL hR hS hc hs
  obtain ⟨hx, hb, hml, hown, hts, hF, h3, hb0, hnm, hfr, hlo⟩ := C
  simp only [xa_ok, Bool.and_eq_true] at hok
  obtain ⟨k1, k2, k3, k4⟩ := hok
  have hpc : pb = pc := xa_at_of hf hat
  subst hpc
  have hdg := xa_dec_of k1
  have hln : ln = 1 := by simpa [xa_lenOK, xa_len] using k2
  subst hln
  have hnx : xa_at G mi (i + 1) (pb + 1) = true := by simpa [xa_through] using k3
  dsimp only [xa_one1] at ho
  dsimp only at hdg
  unfold xa_istore at ho
  split at ho
  · next z st0 =>
    split at ho
    · next hk =>
      cases ho
      have hk2 := hL.2.2.1
      exact lv_istore_n hx hb hdg rfl (xa_lr_has hL) (by omega) rfl (fun lr' hl' => kk _ H locs cells slots lr' hnx (xa_lr_set1 h3 hk2 (by omega) hl') hR hS hc hs)
    · cases ho
  · cases ho
theorem xa_s_astore (C : xa_Cx G S mi X b0 ca v3 D cI cQ p R s m args meth c) {en : xa_E} {i i1 : Nat} {ls ls1 st st1 : List xa_V} {h h1 : xa_H} {pl : List Nat} {k : Nat} (hins : en.2.1 = .astore k) (hf : (G.1 mi)[i]? = some en) (hok : xa_ok G S mi i en pl = true) (ho : xa_one1 X en i ls st h = some (.inl (i1, ls1, st1, h1))) (hm : h1.length ≤ h'.length ∧ xa_sl h1 ≤ xa_sl h') (kk : xa_WW G mi b0 ca v3 D cI cQ p l e R s m args below meth c Q h' i1 ls1 st1 h1) : xa_WW G mi b0 ca v3 D cI cQ p l e R s m args below meth c Q h' i ls st h := by
  obtain ⟨pb, ins, ln, x⟩ := en
  dsimp only at hins
  subst hins
  intro pc H locs cells slots lr hat hL hR hS hc hs
  obtain ⟨hx, hb, hml, hown, hts, hF, h3, hb0, hnm, hfr, hlo⟩ := C
  simp only [xa_ok, Bool.and_eq_true] at hok
  obtain ⟨k1, k2, k3, k4⟩ := hok
  have hpc : pb = pc := xa_at_of hf hat
  subst hpc
  have hdg := xa_dec_of k1
  have hln : ln = 2 := by simpa [xa_lenOK, xa_len] using k2
  subst hln
  have hnx : xa_at G mi (i + 1) (pb + 2) = true := by simpa [xa_through] using k3
  dsimp only [xa_one1] at ho
  dsimp only at hdg
  unfold xa_astore at ho
  split at ho
  · next z st0 =>
    split at ho
    · next hk =>
      cases ho
      have hk2 := hL.2.2.1
      exact lv_astore hx hb hdg (xa_lr_has hL) (by omega) rfl (fun lr' hl' => kk _ H locs cells slots lr' hnx (xa_lr_set1 h3 hk2 (by omega) hl') hR hS hc hs)
    · cases ho
  · cases ho
theorem xa_s_astore_n (C : xa_Cx G S mi X b0 ca v3 D cI cQ p R s m args meth c) {en : xa_E} {i i1 : Nat} {ls ls1 st st1 : List xa_V} {h h1 : xa_H} {pl : List Nat} {k : Fin 4} (hins : en.2.1 = .astore_n k) (hf : (G.1 mi)[i]? = some en) (hok : xa_ok G S mi i en pl = true) (ho : xa_one1 X en i ls st h = some (.inl (i1, ls1, st1, h1))) (hm : h1.length ≤ h'.length ∧ xa_sl h1 ≤ xa_sl h') (kk : xa_WW G mi b0 ca v3 D cI cQ p l e R s m args below meth c Q h' i1 ls1 st1 h1) : xa_WW G mi b0 ca v3 D cI cQ p l e R s m args below meth c Q h' i ls st h := by
  obtain ⟨pb, ins, ln, x⟩ := en
  dsimp only at hins
  subst hins
  intro pc H locs cells slots lr hat hL hR hS hc hs
  obtain ⟨hx, hb, hml, hown, hts, hF, h3, hb0, hnm, hfr, hlo⟩ := C
  simp only [xa_ok, Bool.and_eq_true] at hok
  obtain ⟨k1, k2, k3, k4⟩ := hok
  have hpc : pb = pc := xa_at_of hf hat
  subst hpc
  have hdg := xa_dec_of k1
  have hln : ln = 1 := by simpa [xa_lenOK, xa_len] using k2
  subst hln
  have hnx : xa_at G mi (i + 1) (pb + 1) = true := by simpa [xa_through] using k3
  dsimp only [xa_one1] at ho
  dsimp only at hdg
  unfold xa_astore at ho
  split at ho
  · next z st0 =>
    split at ho
    · next hk =>
      cases ho
      have hk2 := hL.2.2.1
      exact lv_astore_n hx hb hdg rfl (xa_lr_has hL) (by omega) rfl (fun lr' hl' => kk _ H locs cells slots lr' hnx (xa_lr_set1 h3 hk2 (by omega) hl') hR hS hc hs)
    · cases ho
  · cases ho
theorem xa_s_lstore (C : xa_Cx G S mi X b0 ca v3 D cI cQ p R s m args meth c) {en : xa_E} {i i1 : Nat} {ls ls1 st st1 : List xa_V} {h h1 : xa_H} {pl : List Nat} {k : Nat} (hins : en.2.1 = .lstore k) (hf : (G.1 mi)[i]? = some en) (hok : xa_ok G S mi i en pl = true) (ho : xa_one1 X en i ls st h = some (.inl (i1, ls1, st1, h1))) (hm : h1.length ≤ h'.length ∧ xa_sl h1 ≤ xa_sl h') (kk : xa_WW G mi b0 ca v3 D cI cQ p l e R s m args below meth c Q h' i1 ls1 st1 h1) : xa_WW G mi b0 ca v3 D cI cQ p l e R s m args below meth c Q h' i ls st h := by
  obtain ⟨pb, ins, ln, x⟩ := en
  dsimp only at hins
  subst hins
  intro pc H locs cells slots lr hat hL hR hS hc hs
  obtain ⟨hx, hb, hml, hown, hts, hF, h3, hb0, hnm, hfr, hlo⟩ := C
  simp only [xa_ok, Bool.and_eq_true] at hok
  obtain ⟨k1, k2, k3, k4⟩ := hok
  have hpc : pb = pc := xa_at_of hf hat
  subst hpc
  have hdg := xa_dec_of k1
  have hln : ln = 2 := by simpa [xa_lenOK, xa_len] using k2
  subst hln
  have hnx : xa_at G mi (i + 1) (pb + 2) = true := by simpa [xa_through] using k3
  dsimp only [xa_one1] at ho
  dsimp only at hdg
  unfold xa_lstore at ho
  split at ho
  · next z st0 =>
    split at ho
    · next hk =>
      cases ho
      have hk2 := hL.2.2.1
      exact lv_lstore hx hb hdg (xa_lr_has hL) (by omega) rfl (fun lr' hl' => kk _ H locs cells slots lr' hnx (xa_lr_set2 h3 hk2 (by omega) rfl hl') hR hS hc hs)
    · cases ho
  · cases ho
theorem xa_s_lstore_n (C : xa_Cx G S mi X b0 ca v3 D cI cQ p R s m args meth c) {en : xa_E} {i i1 : Nat} {ls ls1 st st1 : List xa_V} {h h1 : xa_H} {pl : List Nat} {k : Fin 4} (hins : en.2.1 = .lstore_n k) (hf : (G.1 mi)[i]? = some en) (hok : xa_ok G S mi i en pl = true) (ho : xa_one1 X en i ls st h = some (.inl (i1, ls1, st1, h1))) (hm : h1.length ≤ h'.length ∧ xa_sl h1 ≤ xa_sl h') (kk : xa_WW G mi b0 ca v3 D cI cQ p l e R s m args below meth c Q h' i1 ls1 st1 h1) : xa_WW G mi b0 ca v3 D cI cQ p l e R s m args below meth c Q h' i ls st h := by
  obtain ⟨pb, ins, ln, x⟩ := en
  dsimp only at hins
  subst hins
  intro pc H locs cells slots lr hat hL hR hS hc hs
  obtain ⟨hx, hb, hml, hown, hts, hF, h3, hb0, hnm, hfr, hlo⟩ := C
  simp only [xa_ok, Bool.and_eq_true] at hok
  obtain ⟨k1, k2, k3, k4⟩ := hok
  have hpc : pb = pc := xa_at_of hf hat
  subst hpc
  have hdg := xa_dec_of k1
  have hln : ln = 1 := by simpa [xa_lenOK, xa_len] using k2
  subst hln
  have hnx : xa_at G mi (i + 1) (pb + 1) = true := by simpa [xa_through] using k3
  dsimp only [xa_one1] at ho
  dsimp only at hdg
  unfold xa_lstore at ho
  split at ho
  · next z st0 =>
    split at ho
    · next hk =>
      cases ho
      have hk2 := hL.2.2.1
      exact lv_lstore_n hx hb hdg rfl (xa_lr_has hL) (by omega) rfl (fun lr' hl' => kk _ H locs cells slots lr' hnx (xa_lr_set2 h3 hk2 (by omega) rfl hl') hR hS hc hs)
    · cases ho
  · cases ho
theorem xa_s_iconst (C : xa_Cx G S mi X b0 ca v3 D cI cQ p R s m args meth c) {en : xa_E} {i i1 : Nat} {ls ls1 st st1 : List xa_V} {h h1 : xa_H} {pl : List Nat} {n : Int} (hins : en.2.1 = .iconst n) (hf : (G.1 mi)[i]? = some en) (hok : xa_ok G S mi i en pl = true) (ho : xa_one1 X en i ls st h = some (.inl (i1, ls1, st1, h1))) (hm : h1.length ≤ h'.length ∧ xa_sl h1 ≤ xa_sl h') (kk : xa_WW G mi b0 ca v3 D cI cQ p l e R s m args below meth c Q h' i1 ls1 st1 h1) : xa_WW G mi b0 ca v3 D cI cQ p l e R s m args below meth c Q h' i ls st h := by
  obtain ⟨pb, ins, ln, x⟩ := en
  dsimp only at hins
  subst hins
  intro pc H locs cells slots lr hat hL hR hS hc hs
  obtain ⟨hx, hb, hml, hown, hts, hF, h3, hb0, hnm, hfr, hlo⟩ := C
  simp only [xa_ok, Bool.and_eq_true] at hok
  obtain ⟨k1, k2, k3, k4⟩ := hok
  have hpc : pb = pc := xa_at_of hf hat
  subst hpc
  have hdg := xa_dec_of k1
  have hln : ln = 1 := by simpa [xa_lenOK, xa_len] using k2
  subst hln
  have hnx : xa_at G mi (i + 1) (pb + 1) = true := by simpa [xa_through] using k3
  dsimp only [xa_one1] at ho
  dsimp only at hdg
  cases ho
  exact lv_iconst hx hb hdg rfl (kk _ H locs cells slots lr hnx hL hR hS hc hs)
theorem xa_s_bipush (C : xa_Cx G S mi X b0 ca v3 D cI cQ p R s m args meth c) {en : xa_E} {i i1 : Nat} {ls ls1 st st1 : List xa_V} {h h1 : xa_H} {pl : List Nat} {n : Int} (hins : en.2.1 = .bipush n) (hf : (G.1 mi)[i]? = some en) (hok : xa_ok G S mi i en pl = true) (ho : xa_one1 X en i ls st h = some (.inl (i1, ls1, st1, h1))) (hm : h1.length ≤ h'.length ∧ xa_sl h1 ≤ xa_sl h') (kk : xa_WW G mi b0 ca v3 D cI cQ p l e R s m args below meth c Q h' i1 ls1 st1 h1) : xa_WW G mi b0 ca v3 D cI cQ p l e R s m args below meth c Q h' i ls st h := by
  obtain ⟨pb, ins, ln, x⟩ := en
  dsimp only at hins
  subst hins
  intro pc H locs cells slots lr hat hL hR hS hc hs
  obtain ⟨hx, hb, hml, hown, hts, hF, h3, hb0, hnm, hfr, hlo⟩ := C
  simp only [xa_ok, Bool.and_eq_true] at hok
  obtain ⟨k1, k2, k3, k4⟩ := hok
  have hpc : pb = pc := xa_at_of hf hat
  subst hpc
  have hdg := xa_dec_of k1
  have hln : ln = 2 := by simpa [xa_lenOK, xa_len] using k2
  subst hln
  have hnx : xa_at G mi (i + 1) (pb + 2) = true := by simpa [xa_through] using k3
  dsimp only [xa_one1] at ho
  dsimp only at hdg
  split at ho
  · next hn =>
    cases ho
    refine lv_bipush hx hb hdg ?_ (kk _ H locs cells slots lr hnx hL hR hS hc hs)
    rw [← Int32.toInt_inj, Int8.toInt_toInt32, Int8.toInt_ofInt, xa_toI ⟨by omega, by omega⟩]
    show n.bmod 256 = n
    rw [Int.bmod_def]
    split <;> omega
  · cases ho
theorem xa_s_sipush (C : xa_Cx G S mi X b0 ca v3 D cI cQ p R s m args meth c) {en : xa_E} {i i1 : Nat} {ls ls1 st st1 : List xa_V} {h h1 : xa_H} {pl : List Nat} {n : Int} (hins : en.2.1 = .sipush n) (hf : (G.1 mi)[i]? = some en) (hok : xa_ok G S mi i en pl = true) (ho : xa_one1 X en i ls st h = some (.inl (i1, ls1, st1, h1))) (hm : h1.length ≤ h'.length ∧ xa_sl h1 ≤ xa_sl h') (kk : xa_WW G mi b0 ca v3 D cI cQ p l e R s m args below meth c Q h' i1 ls1 st1 h1) : xa_WW G mi b0 ca v3 D cI cQ p l e R s m args below meth c Q h' i ls st h := by
  obtain ⟨pb, ins, ln, x⟩ := en
  dsimp only at hins
  subst hins
  intro pc H locs cells slots lr hat hL hR hS hc hs
  obtain ⟨hx, hb, hml, hown, hts, hF, h3, hb0, hnm, hfr, hlo⟩ := C
  simp only [xa_ok, Bool.and_eq_true] at hok
  obtain ⟨k1, k2, k3, k4⟩ := hok
  have hpc : pb = pc := xa_at_of hf hat
  subst hpc
  have hdg := xa_dec_of k1
  have hln : ln = 3 := by simpa [xa_lenOK, xa_len] using k2
  subst hln
  have hnx : xa_at G mi (i + 1) (pb + 3) = true := by simpa [xa_through] using k3
  dsimp only [xa_one1] at ho
  dsimp only at hdg
  split at ho
  · next hn =>
    cases ho
    refine lv_sipush hx hb hdg ?_ (kk _ H locs cells slots lr hnx hL hR hS hc hs)
    rw [← Int32.toInt_inj, Int16.toInt_toInt32, Int16.toInt_ofInt, xa_toI ⟨by omega, by omega⟩]
    show n.bmod 65536 = n
    rw [Int.bmod_def]
    split <;> omega
  · cases ho
theorem xa_s_lconst (C : xa_Cx G S mi X b0 ca v3 D cI cQ p R s m args meth c) {en : xa_E} {i i1 : Nat} {ls ls1 st st1 : List xa_V} {h h1 : xa_H} {pl : List Nat} {n : Fin 2} (hins : en.2.1 = .lconst n) (hf : (G.1 mi)[i]? = some en) (hok : xa_ok G S mi i en pl = true) (ho : xa_one1 X en i ls st h = some (.inl (i1, ls1, st1, h1))) (hm : h1.length ≤ h'.length ∧ xa_sl h1 ≤ xa_sl h') (kk : xa_WW G mi b0 ca v3 D cI cQ p l e R s m args below meth c Q h' i1 ls1 st1 h1) : xa_WW G mi b0 ca v3 D cI cQ p l e R s m args below meth c Q h' i ls st h := by
  obtain ⟨pb, ins, ln, x⟩ := en
  dsimp only at hins
  subst hins
  intro pc H locs cells slots lr hat hL hR hS hc hs
  obtain ⟨hx, hb, hml, hown, hts, hF, h3, hb0, hnm, hfr, hlo⟩ := C
  simp only [xa_ok, Bool.and_eq_true] at hok
  obtain ⟨k1, k2, k3, k4⟩ := hok
  have hpc : pb = pc := xa_at_of hf hat
  subst hpc
  have hdg := xa_dec_of k1
  have hln : ln = 1 := by simpa [xa_lenOK, xa_len] using k2
  subst hln
  have hnx : xa_at G mi (i + 1) (pb + 1) = true := by simpa [xa_through] using k3
  dsimp only [xa_one1] at ho
  dsimp only at hdg
  cases ho
  refine lv_lconst hx hb hdg ?_ (kk _ H locs cells slots lr hnx hL hR hS hc hs)
  match n with
  | 0 => rfl
  | 1 => rfl
theorem xa_s_ldc (C : xa_Cx G S mi X b0 ca v3 D cI cQ p R s m args meth c) {en : xa_E} {i i1 : Nat} {ls ls1 st st1 : List xa_V} {h h1 : xa_H} {pl : List Nat} {k : Nat} (hins : en.2.1 = .ldc k) (hf : (G.1 mi)[i]? = some en) (hok : xa_ok G S mi i en pl = true) (ho : xa_one1 X en i ls st h = some (.inl (i1, ls1, st1, h1))) (hm : h1.length ≤ h'.length ∧ xa_sl h1 ≤ xa_sl h') (kk : xa_WW G mi b0 ca v3 D cI cQ p l e R s m args below meth c Q h' i1 ls1 st1 h1) : xa_WW G mi b0 ca v3 D cI cQ p l e R s m args below meth c Q h' i ls st h := by
  obtain ⟨pb, ins, ln, x⟩ := en
  dsimp only at hins
  subst hins
  intro pc H locs cells slots lr hat hL hR hS hc hs
  obtain ⟨hx, hb, hml, hown, hts, hF, h3, hb0, hnm, hfr, hlo⟩ := C
  simp only [xa_ok, Bool.and_eq_true] at hok
  obtain ⟨k1, k2, k3, k4⟩ := hok
  have hpc : pb = pc := xa_at_of hf hat
  subst hpc
  have hdg := xa_dec_of k1
  have hln : ln = 2 := by simpa [xa_lenOK, xa_len] using k2
  subst hln
  have hnx : xa_at G mi (i + 1) (pb + 2) = true := by simpa [xa_through] using k3
  dsimp only [xa_one1] at ho
  dsimp only at hdg
  unfold xa_ldc at ho
  split at ho
  · next z =>
    cases ho
    match pl, k4 with
    | [q], k4 => exact lv_ldc hx hb hown (hts _ (xa_in_tb (by simpa [xa_extra] using k4))) hdg (kk _ H locs cells slots lr hnx hL hR hS hc hs)
  · next z =>
    cases ho
    match pl, k4 with
    | [q], k4 =>
      simp only [xa_extra] at k4
      split at k4
      · next r hr =>
        obtain ⟨g1, g2, g3⟩ := of_decide_eq_true k4
        have hZ := hF.2.2.2.1 r (List.mem_of_getElem? hr)
        rw [g1, g2] at hZ
        have hr20 : 20 ≤ r.2.2.2 := by
          have : ∀ r ∈ xa_sr, 20 ≤ r.2.2.2 := by decide
          exact this r (List.mem_of_getElem? hr)
        have e3 : xa_cv b0 ca v3 (xC z.toNat) = .ref (ca r.2.2.2) := by
          show (if z.toNat = 0 then Value.null else if z.toNat = 3 then v3 else .ref (ca z.toNat)) = _
          rw [← g3]
          rw [if_neg (by omega), if_neg (by omega)]
          rfl
        have e4 := kk _ H locs cells slots lr hnx hL hR hS hc hs
        rw [List.map_cons, e3] at e4
        exact va_ldcS hx hb hown hZ hdg e4
      · cases k4
  · cases ho
theorem xa_s_ldc_w (C : xa_Cx G S mi X b0 ca v3 D cI cQ p R s m args meth c) {en : xa_E} {i i1 : Nat} {ls ls1 st st1 : List xa_V} {h h1 : xa_H} {pl : List Nat} {k : Nat} (hins : en.2.1 = .ldc_w k) (hf : (G.1 mi)[i]? = some en) (hok : xa_ok G S mi i en pl = true) (ho : xa_one1 X en i ls st h = some (.inl (i1, ls1, st1, h1))) (hm : h1.length ≤ h'.length ∧ xa_sl h1 ≤ xa_sl h') (kk : xa_WW G mi b0 ca v3 D cI cQ p l e R s m args below meth c Q h' i1 ls1 st1 h1) : xa_WW G mi b0 ca v3 D cI cQ p l e R s m args below meth c Q h' i ls st h := by
  obtain ⟨pb, ins, ln, x⟩ := en
  dsimp only at hins
  subst hins
  intro pc H locs cells slots lr hat hL hR hS hc hs
  obtain ⟨hx, hb, hml, hown, hts, hF, h3, hb0, hnm, hfr, hlo⟩ := C
  simp only [xa_ok, Bool.and_eq_true] at hok
  obtain ⟨k1, k2, k3, k4⟩ := hok
  have hpc : pb = pc := xa_at_of hf hat
  subst hpc
  have hdg := xa_dec_of k1
  have hln : ln = 3 := by simpa [xa_lenOK, xa_len] using k2
  subst hln
  have hnx : xa_at G mi (i + 1) (pb + 3) = true := by simpa [xa_through] using k3
  dsimp only [xa_one1] at ho
  dsimp only at hdg
  unfold xa_ldc at ho
  split at ho
  · next z =>
    cases ho
    match pl, k4 with
    | [q], k4 => exact lv_ldcw hx hb hown (hts _ (xa_in_tb (by simpa [xa_extra] using k4))) hdg (kk _ H locs cells slots lr hnx hL hR hS hc hs)
  · next z =>
    cases ho
    simp [xa_extra] at k4
  · cases ho
theorem xa_s_ldc2_w (C : xa_Cx G S mi X b0 ca v3 D cI cQ p R s m args meth c) {en : xa_E} {i i1 : Nat} {ls ls1 st st1 : List xa_V} {h h1 : xa_H} {pl : List Nat} {k : Nat} (hins : en.2.1 = .ldc2_w k) (hf : (G.1 mi)[i]? = some en) (hok : xa_ok G S mi i en pl = true) (ho : xa_one1 X en i ls st h = some (.inl (i1, ls1, st1, h1))) (hm : h1.length ≤ h'.length ∧ xa_sl h1 ≤ xa_sl h') (kk : xa_WW G mi b0 ca v3 D cI cQ p l e R s m args below meth c Q h' i1 ls1 st1 h1) : xa_WW G mi b0 ca v3 D cI cQ p l e R s m args below meth c Q h' i ls st h := by
  obtain ⟨pb, ins, ln, x⟩ := en
  dsimp only at hins
  subst hins
  intro pc H locs cells slots lr hat hL hR hS hc hs
  obtain ⟨hx, hb, hml, hown, hts, hF, h3, hb0, hnm, hfr, hlo⟩ := C
  simp only [xa_ok, Bool.and_eq_true] at hok
  obtain ⟨k1, k2, k3, k4⟩ := hok
  have hpc : pb = pc := xa_at_of hf hat
  subst hpc
  have hdg := xa_dec_of k1
  have hln : ln = 3 := by simpa [xa_lenOK, xa_len] using k2
  subst hln
  have hnx : xa_at G mi (i + 1) (pb + 3) = true := by simpa [xa_through] using k3
  dsimp only [xa_one1] at ho
  dsimp only at hdg
  split at ho
  · next z =>
    cases ho
    match pl, k4 with
    | [q], k4 => exact lv_ldc2 hx hb hown (hts _ (xa_in_tb (by simpa [xa_extra] using k4))) hdg (kk _ H locs cells slots lr hnx hL hR hS hc hs)
  · cases ho
theorem xa_s_iadd (C : xa_Cx G S mi X b0 ca v3 D cI cQ p R s m args meth c) {en : xa_E} {i i1 : Nat} {ls ls1 st st1 : List xa_V} {h h1 : xa_H} {pl : List Nat}  (hins : en.2.1 = .iadd) (hf : (G.1 mi)[i]? = some en) (hok : xa_ok G S mi i en pl = true) (ho : xa_one1 X en i ls st h = some (.inl (i1, ls1, st1, h1))) (hm : h1.length ≤ h'.length ∧ xa_sl h1 ≤ xa_sl h') (kk : xa_WW G mi b0 ca v3 D cI cQ p l e R s m args below meth c Q h' i1 ls1 st1 h1) : xa_WW G mi b0 ca v3 D cI cQ p l e R s m args below meth c Q h' i ls st h := by
  obtain ⟨pb, ins, ln, x⟩ := en
  dsimp only at hins
  subst hins
  intro pc H locs cells slots lr hat hL hR hS hc hs
  obtain ⟨hx, hb, hml, hown, hts, hF, h3, hb0, hnm, hfr, hlo⟩ := C
  simp only [xa_ok, Bool.and_eq_true] at hok
  obtain ⟨k1, k2, k3, k4⟩ := hok
  have hpc : pb = pc := xa_at_of hf hat
  subst hpc
  have hdg := xa_dec_of k1
  have hln : ln = 1 := by simpa [xa_lenOK, xa_len] using k2
  subst hln
  have hnx : xa_at G mi (i + 1) (pb + 1) = true := by simpa [xa_through] using k3
  dsimp only [xa_one1] at ho
  dsimp only at hdg
  unfold xa_two at ho
  split at ho
  · next b a st0 =>
    cases ho
    have e4 := kk _ H locs cells slots lr hnx hL hR hS hc hs
    refine lv_iadd hx hb hdg ?_
    rw [xa_add]
    exact e4
  · cases ho
theorem xa_s_isub (C : xa_Cx G S mi X b0 ca v3 D cI cQ p R s m args meth c) {en : xa_E} {i i1 : Nat} {ls ls1 st st1 : List xa_V} {h h1 : xa_H} {pl : List Nat}  (hins : en.2.1 = .isub) (hf : (G.1 mi)[i]? = some en) (hok : xa_ok G S mi i en pl = true) (ho : xa_one1 X en i ls st h = some (.inl (i1, ls1, st1, h1))) (hm : h1.length ≤ h'.length ∧ xa_sl h1 ≤ xa_sl h') (kk : xa_WW G mi b0 ca v3 D cI cQ p l e R s m args below meth c Q h' i1 ls1 st1 h1) : xa_WW G mi b0 ca v3 D cI cQ p l e R s m args below meth c Q h' i ls st h := by
  obtain ⟨pb, ins, ln, x⟩ := en
  dsimp only at hins
  subst hins
  intro pc H locs cells slots lr hat hL hR hS hc hs
  obtain ⟨hx, hb, hml, hown, hts, hF, h3, hb0, hnm, hfr, hlo⟩ := C
  simp only [xa_ok, Bool.and_eq_true] at hok
  obtain ⟨k1, k2, k3, k4⟩ := hok
  have hpc : pb = pc := xa_at_of hf hat
  subst hpc
  have hdg := xa_dec_of k1
  have hln : ln = 1 := by simpa [xa_lenOK, xa_len] using k2
  subst hln
  have hnx : xa_at G mi (i + 1) (pb + 1) = true := by simpa [xa_through] using k3
  dsimp only [xa_one1] at ho
  dsimp only at hdg
  unfold xa_two at ho
  split at ho
  · next b a st0 =>
    cases ho
    have e4 := kk _ H locs cells slots lr hnx hL hR hS hc hs
    refine lv_isub hx hb hdg ?_
    rw [xa_sub]
    exact e4
  · cases ho
theorem xa_s_imul (C : xa_Cx G S mi X b0 ca v3 D cI cQ p R s m args meth c) {en : xa_E} {i i1 : Nat} {ls ls1 st st1 : List xa_V} {h h1 : xa_H} {pl : List Nat}  (hins : en.2.1 = .imul) (hf : (G.1 mi)[i]? = some en) (hok : xa_ok G S mi i en pl = true) (ho : xa_one1 X en i ls st h = some (.inl (i1, ls1, st1, h1))) (hm : h1.length ≤ h'.length ∧ xa_sl h1 ≤ xa_sl h') (kk : xa_WW G mi b0 ca v3 D cI cQ p l e R s m args below meth c Q h' i1 ls1 st1 h1) : xa_WW G mi b0 ca v3 D cI cQ p l e R s m args below meth c Q h' i ls st h := by
  obtain ⟨pb, ins, ln, x⟩ := en
  dsimp only at hins
  subst hins
  intro pc H locs cells slots lr hat hL hR hS hc hs
  obtain ⟨hx, hb, hml, hown, hts, hF, h3, hb0, hnm, hfr, hlo⟩ := C
  simp only [xa_ok, Bool.and_eq_true] at hok
  obtain ⟨k1, k2, k3, k4⟩ := hok
  have hpc : pb = pc := xa_at_of hf hat
  subst hpc
  have hdg := xa_dec_of k1
  have hln : ln = 1 := by simpa [xa_lenOK, xa_len] using k2
  subst hln
  have hnx : xa_at G mi (i + 1) (pb + 1) = true := by simpa [xa_through] using k3
  dsimp only [xa_one1] at ho
  dsimp only at hdg
  unfold xa_two at ho
  split at ho
  · next b a st0 =>
    cases ho
    have e4 := kk _ H locs cells slots lr hnx hL hR hS hc hs
    refine lv_imul hx hb hdg ?_
    rw [xa_mul]
    exact e4
  · cases ho
theorem xa_s_iand (C : xa_Cx G S mi X b0 ca v3 D cI cQ p R s m args meth c) {en : xa_E} {i i1 : Nat} {ls ls1 st st1 : List xa_V} {h h1 : xa_H} {pl : List Nat}  (hins : en.2.1 = .iand) (hf : (G.1 mi)[i]? = some en) (hok : xa_ok G S mi i en pl = true) (ho : xa_one1 X en i ls st h = some (.inl (i1, ls1, st1, h1))) (hm : h1.length ≤ h'.length ∧ xa_sl h1 ≤ xa_sl h') (kk : xa_WW G mi b0 ca v3 D cI cQ p l e R s m args below meth c Q h' i1 ls1 st1 h1) : xa_WW G mi b0 ca v3 D cI cQ p l e R s m args below meth c Q h' i ls st h := by
  obtain ⟨pb, ins, ln, x⟩ := en
  dsimp only at hins
  subst hins
  intro pc H locs cells slots lr hat hL hR hS hc hs
  obtain ⟨hx, hb, hml, hown, hts, hF, h3, hb0, hnm, hfr, hlo⟩ := C
  simp only [xa_ok, Bool.and_eq_true] at hok
  obtain ⟨k1, k2, k3, k4⟩ := hok
  have hpc : pb = pc := xa_at_of hf hat
  subst hpc
  have hdg := xa_dec_of k1
  have hln : ln = 1 := by simpa [xa_lenOK, xa_len] using k2
  subst hln
  have hnx : xa_at G mi (i + 1) (pb + 1) = true := by simpa [xa_through] using k3
  dsimp only [xa_one1] at ho
  dsimp only at hdg
  unfold xa_two at ho
  split at ho
  · next b a st0 =>
    cases ho
    have e4 := kk _ H locs cells slots lr hnx hL hR hS hc hs
    refine lv_iand hx hb hdg ?_
    rw [List.map_cons, show xa_cv b0 ca v3 (xI (xa_and a b)) = .int (Int32.ofInt (xa_and a b)) from rfl, show Int32.ofInt (xa_and a b) = _ from xa_asI _] at e4
    exact e4
  · cases ho
theorem xa_s_ior (C : xa_Cx G S mi X b0 ca v3 D cI cQ p R s m args meth c) {en : xa_E} {i i1 : Nat} {ls ls1 st st1 : List xa_V} {h h1 : xa_H} {pl : List Nat}  (hins : en.2.1 = .ior) (hf : (G.1 mi)[i]? = some en) (hok : xa_ok G S mi i en pl = true) (ho : xa_one1 X en i ls st h = some (.inl (i1, ls1, st1, h1))) (hm : h1.length ≤ h'.length ∧ xa_sl h1 ≤ xa_sl h') (kk : xa_WW G mi b0 ca v3 D cI cQ p l e R s m args below meth c Q h' i1 ls1 st1 h1) : xa_WW G mi b0 ca v3 D cI cQ p l e R s m args below meth c Q h' i ls st h := by
  obtain ⟨pb, ins, ln, x⟩ := en
  dsimp only at hins
  subst hins
  intro pc H locs cells slots lr hat hL hR hS hc hs
  obtain ⟨hx, hb, hml, hown, hts, hF, h3, hb0, hnm, hfr, hlo⟩ := C
  simp only [xa_ok, Bool.and_eq_true] at hok
  obtain ⟨k1, k2, k3, k4⟩ := hok
  have hpc : pb = pc := xa_at_of hf hat
  subst hpc
  have hdg := xa_dec_of k1
  have hln : ln = 1 := by simpa [xa_lenOK, xa_len] using k2
  subst hln
  have hnx : xa_at G mi (i + 1) (pb + 1) = true := by simpa [xa_through] using k3
  dsimp only [xa_one1] at ho
  dsimp only at hdg
  unfold xa_two at ho
  split at ho
  · next b a st0 =>
    cases ho
    have e4 := kk _ H locs cells slots lr hnx hL hR hS hc hs
    refine lv_ior hx hb hdg ?_
    rw [List.map_cons, show xa_cv b0 ca v3 (xI (xa_or a b)) = .int (Int32.ofInt (xa_or a b)) from rfl, show Int32.ofInt (xa_or a b) = _ from xa_asI _] at e4
    exact e4
  · cases ho
theorem xa_s_ixor (C : xa_Cx G S mi X b0 ca v3 D cI cQ p R s m args meth c) {en : xa_E} {i i1 : Nat} {ls ls1 st st1 : List xa_V} {h h1 : xa_H} {pl : List Nat}  (hins : en.2.1 = .ixor) (hf : (G.1 mi)[i]? = some en) (hok : xa_ok G S mi i en pl = true) (ho : xa_one1 X en i ls st h = some (.inl (i1, ls1, st1, h1))) (hm : h1.length ≤ h'.length ∧ xa_sl h1 ≤ xa_sl h') (kk : xa_WW G mi b0 ca v3 D cI cQ p l e R s m args below meth c Q h' i1 ls1 st1 h1) : xa_WW G mi b0 ca v3 D cI cQ p l e R s m args below meth c Q h' i ls st h := by
  obtain ⟨pb, ins, ln, x⟩ := en
  dsimp only at hins
  subst hins
  intro pc H locs cells slots lr hat hL hR hS hc hs
  obtain ⟨hx, hb, hml, hown, hts, hF, h3, hb0, hnm, hfr, hlo⟩ := C
  simp only [xa_ok, Bool.and_eq_true] at hok
  obtain ⟨k1, k2, k3, k4⟩ := hok
  have hpc : pb = pc := xa_at_of hf hat
  subst hpc
  have hdg := xa_dec_of k1
  have hln : ln = 1 := by simpa [xa_lenOK, xa_len] using k2
  subst hln
  have hnx : xa_at G mi (i + 1) (pb + 1) = true := by simpa [xa_through] using k3
  dsimp only [xa_one1] at ho
  dsimp only at hdg
  unfold xa_two at ho
  split at ho
  · next b a st0 =>
    cases ho
    have e4 := kk _ H locs cells slots lr hnx hL hR hS hc hs
    refine lv_ixor hx hb hdg ?_
    rw [List.map_cons, show xa_cv b0 ca v3 (xI (xa_xor a b)) = .int (Int32.ofInt (xa_xor a b)) from rfl, show Int32.ofInt (xa_xor a b) = _ from xa_asI _] at e4
    exact e4
  · cases ho
theorem xa_s_ishl (C : xa_Cx G S mi X b0 ca v3 D cI cQ p R s m args meth c) {en : xa_E} {i i1 : Nat} {ls ls1 st st1 : List xa_V} {h h1 : xa_H} {pl : List Nat}  (hins : en.2.1 = .ishl) (hf : (G.1 mi)[i]? = some en) (hok : xa_ok G S mi i en pl = true) (ho : xa_one1 X en i ls st h = some (.inl (i1, ls1, st1, h1))) (hm : h1.length ≤ h'.length ∧ xa_sl h1 ≤ xa_sl h') (kk : xa_WW G mi b0 ca v3 D cI cQ p l e R s m args below meth c Q h' i1 ls1 st1 h1) : xa_WW G mi b0 ca v3 D cI cQ p l e R s m args below meth c Q h' i ls st h := by
  obtain ⟨pb, ins, ln, x⟩ := en
  dsimp only at hins
  subst hins
  intro pc H locs cells slots lr hat hL hR hS hc hs
  obtain ⟨hx, hb, hml, hown, hts, hF, h3, hb0, hnm, hfr, hlo⟩ := C
  simp only [xa_ok, Bool.and_eq_true] at hok
  obtain ⟨k1, k2, k3, k4⟩ := hok
  have hpc : pb = pc := xa_at_of hf hat
  subst hpc
  have hdg := xa_dec_of k1
  have hln : ln = 1 := by simpa [xa_lenOK, xa_len] using k2
  subst hln
  have hnx : xa_at G mi (i + 1) (pb + 1) = true := by simpa [xa_through] using k3
  dsimp only [xa_one1] at ho
  dsimp only at hdg
  unfold xa_two at ho
  split at ho
  · next b a st0 =>
    cases ho
    have e4 := kk _ H locs cells slots lr hnx hL hR hS hc hs
    refine lv_ishl hx hb hdg ?_
    rw [List.map_cons, show xa_cv b0 ca v3 (xI (xa_shl a b)) = .int (Int32.ofInt (xa_shl a b)) from rfl, show Int32.ofInt (xa_shl a b) = _ from xa_asI _] at e4
    exact e4
  · cases ho
theorem xa_s_ishr (C : xa_Cx G S mi X b0 ca v3 D cI cQ p R s m args meth c) {en : xa_E} {i i1 : Nat} {ls ls1 st st1 : List xa_V} {h h1 : xa_H} {pl : List Nat}  (hins : en.2.1 = .ishr) (hf : (G.1 mi)[i]? = some en) (hok : xa_ok G S mi i en pl = true) (ho : xa_one1 X en i ls st h = some (.inl (i1, ls1, st1, h1))) (hm : h1.length ≤ h'.length ∧ xa_sl h1 ≤ xa_sl h') (kk : xa_WW G mi b0 ca v3 D cI cQ p l e R s m args below meth c Q h' i1 ls1 st1 h1) : xa_WW G mi b0 ca v3 D cI cQ p l e R s m args below meth c Q h' i ls st h := by
  obtain ⟨pb, ins, ln, x⟩ := en
  dsimp only at hins
  subst hins
  intro pc H locs cells slots lr hat hL hR hS hc hs
  obtain ⟨hx, hb, hml, hown, hts, hF, h3, hb0, hnm, hfr, hlo⟩ := C
  simp only [xa_ok, Bool.and_eq_true] at hok
  obtain ⟨k1, k2, k3, k4⟩ := hok
  have hpc : pb = pc := xa_at_of hf hat
  subst hpc
  have hdg := xa_dec_of k1
  have hln : ln = 1 := by simpa [xa_lenOK, xa_len] using k2
  subst hln
  have hnx : xa_at G mi (i + 1) (pb + 1) = true := by simpa [xa_through] using k3
  dsimp only [xa_one1] at ho
  dsimp only at hdg
  unfold xa_two at ho
  split at ho
  · next b a st0 =>
    cases ho
    have e4 := kk _ H locs cells slots lr hnx hL hR hS hc hs
    refine lv_ishr hx hb hdg ?_
    rw [List.map_cons, show xa_cv b0 ca v3 (xI (xa_shr a b)) = .int (Int32.ofInt (xa_shr a b)) from rfl, show Int32.ofInt (xa_shr a b) = _ from xa_asI _] at e4
    exact e4
  · cases ho
theorem xa_s_iushr (C : xa_Cx G S mi X b0 ca v3 D cI cQ p R s m args meth c) {en : xa_E} {i i1 : Nat} {ls ls1 st st1 : List xa_V} {h h1 : xa_H} {pl : List Nat}  (hins : en.2.1 = .iushr) (hf : (G.1 mi)[i]? = some en) (hok : xa_ok G S mi i en pl = true) (ho : xa_one1 X en i ls st h = some (.inl (i1, ls1, st1, h1))) (hm : h1.length ≤ h'.length ∧ xa_sl h1 ≤ xa_sl h') (kk : xa_WW G mi b0 ca v3 D cI cQ p l e R s m args below meth c Q h' i1 ls1 st1 h1) : xa_WW G mi b0 ca v3 D cI cQ p l e R s m args below meth c Q h' i ls st h := by
  obtain ⟨pb, ins, ln, x⟩ := en
  dsimp only at hins
  subst hins
  intro pc H locs cells slots lr hat hL hR hS hc hs
  obtain ⟨hx, hb, hml, hown, hts, hF, h3, hb0, hnm, hfr, hlo⟩ := C
  simp only [xa_ok, Bool.and_eq_true] at hok
  obtain ⟨k1, k2, k3, k4⟩ := hok
  have hpc : pb = pc := xa_at_of hf hat
  subst hpc
  have hdg := xa_dec_of k1
  have hln : ln = 1 := by simpa [xa_lenOK, xa_len] using k2
  subst hln
  have hnx : xa_at G mi (i + 1) (pb + 1) = true := by simpa [xa_through] using k3
  dsimp only [xa_one1] at ho
  dsimp only at hdg
  unfold xa_two at ho
  split at ho
  · next b a st0 =>
    cases ho
    have e4 := kk _ H locs cells slots lr hnx hL hR hS hc hs
    refine lv_iushr hx hb hdg rfl ?_
    rw [List.map_cons, show xa_cv b0 ca v3 (xI (xa_ushr a b)) = .int (Int32.ofInt (xa_ushr a b)) from rfl, show Int32.ofInt (xa_ushr a b) = _ from xa_asI _] at e4
    exact e4
  · cases ho
theorem xa_s_ladd (C : xa_Cx G S mi X b0 ca v3 D cI cQ p R s m args meth c) {en : xa_E} {i i1 : Nat} {ls ls1 st st1 : List xa_V} {h h1 : xa_H} {pl : List Nat}  (hins : en.2.1 = .ladd) (hf : (G.1 mi)[i]? = some en) (hok : xa_ok G S mi i en pl = true) (ho : xa_one1 X en i ls st h = some (.inl (i1, ls1, st1, h1))) (hm : h1.length ≤ h'.length ∧ xa_sl h1 ≤ xa_sl h') (kk : xa_WW G mi b0 ca v3 D cI cQ p l e R s m args below meth c Q h' i1 ls1 st1 h1) : xa_WW G mi b0 ca v3 D cI cQ p l e R s m args below meth c Q h' i ls st h := by
  obtain ⟨pb, ins, ln, x⟩ := en
  dsimp only at hins
  subst hins
  intro pc H locs cells slots lr hat hL hR hS hc hs
  obtain ⟨hx, hb, hml, hown, hts, hF, h3, hb0, hnm, hfr, hlo⟩ := C
  simp only [xa_ok, Bool.and_eq_true] at hok
  obtain ⟨k1, k2, k3, k4⟩ := hok
  have hpc : pb = pc := xa_at_of hf hat
  subst hpc
  have hdg := xa_dec_of k1
  have hln : ln = 1 := by simpa [xa_lenOK, xa_len] using k2
  subst hln
  have hnx : xa_at G mi (i + 1) (pb + 1) = true := by simpa [xa_through] using k3
  dsimp only [xa_one1] at ho
  dsimp only at hdg
  unfold xa_two64 at ho
  split at ho
  · next b a st0 =>
    cases ho
    have e4 := kk _ H locs cells slots lr hnx hL hR hS hc hs
    refine lv_ladd hx hb hdg ?_
    rw [xa_addL]
    exact e4
  · cases ho
theorem xa_s_lmul (C : xa_Cx G S mi X b0 ca v3 D cI cQ p R s m args meth c) {en : xa_E} {i i1 : Nat} {ls ls1 st st1 : List xa_V} {h h1 : xa_H} {pl : List Nat}  (hins : en.2.1 = .lmul) (hf : (G.1 mi)[i]? = some en) (hok : xa_ok G S mi i en pl = true) (ho : xa_one1 X en i ls st h = some (.inl (i1, ls1, st1, h1))) (hm : h1.length ≤ h'.length ∧ xa_sl h1 ≤ xa_sl h') (kk : xa_WW G mi b0 ca v3 D cI cQ p l e R s m args below meth c Q h' i1 ls1 st1 h1) : xa_WW G mi b0 ca v3 D cI cQ p l e R s m args below meth c Q h' i ls st h := by
  obtain ⟨pb, ins, ln, x⟩ := en
  dsimp only at hins
  subst hins
  intro pc H locs cells slots lr hat hL hR hS hc hs
  obtain ⟨hx, hb, hml, hown, hts, hF, h3, hb0, hnm, hfr, hlo⟩ := C
  simp only [xa_ok, Bool.and_eq_true] at hok
  obtain ⟨k1, k2, k3, k4⟩ := hok
  have hpc : pb = pc := xa_at_of hf hat
  subst hpc
  have hdg := xa_dec_of k1
  have hln : ln = 1 := by simpa [xa_lenOK, xa_len] using k2
  subst hln
  have hnx : xa_at G mi (i + 1) (pb + 1) = true := by simpa [xa_through] using k3
  dsimp only [xa_one1] at ho
  dsimp only at hdg
  unfold xa_two64 at ho
  split at ho
  · next b a st0 =>
    cases ho
    have e4 := kk _ H locs cells slots lr hnx hL hR hS hc hs
    refine lv_lmul hx hb hdg ?_
    rw [xa_mulL]
    exact e4
  · cases ho
theorem xa_s_idiv (C : xa_Cx G S mi X b0 ca v3 D cI cQ p R s m args meth c) {en : xa_E} {i i1 : Nat} {ls ls1 st st1 : List xa_V} {h h1 : xa_H} {pl : List Nat}  (hins : en.2.1 = .idiv) (hf : (G.1 mi)[i]? = some en) (hok : xa_ok G S mi i en pl = true) (ho : xa_one1 X en i ls st h = some (.inl (i1, ls1, st1, h1))) (hm : h1.length ≤ h'.length ∧ xa_sl h1 ≤ xa_sl h') (kk : xa_WW G mi b0 ca v3 D cI cQ p l e R s m args below meth c Q h' i1 ls1 st1 h1) : xa_WW G mi b0 ca v3 D cI cQ p l e R s m args below meth c Q h' i ls st h := by
  obtain ⟨pb, ins, ln, x⟩ := en
  dsimp only at hins
  subst hins
  intro pc H locs cells slots lr hat hL hR hS hc hs
  obtain ⟨hx, hb, hml, hown, hts, hF, h3, hb0, hnm, hfr, hlo⟩ := C
  simp only [xa_ok, Bool.and_eq_true] at hok
  obtain ⟨k1, k2, k3, k4⟩ := hok
  have hpc : pb = pc := xa_at_of hf hat
  subst hpc
  have hdg := xa_dec_of k1
  have hln : ln = 1 := by simpa [xa_lenOK, xa_len] using k2
  subst hln
  have hnx : xa_at G mi (i + 1) (pb + 1) = true := by simpa [xa_through] using k3
  dsimp only [xa_one1] at ho
  dsimp only at hdg
  unfold xa_div at ho
  split at ho
  · next b a st0 =>
    split at ho
    · next hq =>
      cases ho
      obtain ⟨ha, hb2, hne⟩ := hq
      have e4 := kk _ H locs cells slots lr hnx hL hR hS hc hs
      refine lv_idiv hx hb hdg (fun q => hne ((xa_ieq hb2 xa_r0).mp q)) ?_
      rw [xa_idiv ha hb2]
      exact e4
    · cases ho
  · cases ho
theorem xa_s_irem (C : xa_Cx G S mi X b0 ca v3 D cI cQ p R s m args meth c) {en : xa_E} {i i1 : Nat} {ls ls1 st st1 : List xa_V} {h h1 : xa_H} {pl : List Nat}  (hins : en.2.1 = .irem) (hf : (G.1 mi)[i]? = some en) (hok : xa_ok G S mi i en pl = true) (ho : xa_one1 X en i ls st h = some (.inl (i1, ls1, st1, h1))) (hm : h1.length ≤ h'.length ∧ xa_sl h1 ≤ xa_sl h') (kk : xa_WW G mi b0 ca v3 D cI cQ p l e R s m args below meth c Q h' i1 ls1 st1 h1) : xa_WW G mi b0 ca v3 D cI cQ p l e R s m args below meth c Q h' i ls st h := by
  obtain ⟨pb, ins, ln, x⟩ := en
  dsimp only at hins
  subst hins
  intro pc H locs cells slots lr hat hL hR hS hc hs
  obtain ⟨hx, hb, hml, hown, hts, hF, h3, hb0, hnm, hfr, hlo⟩ := C
  simp only [xa_ok, Bool.and_eq_true] at hok
  obtain ⟨k1, k2, k3, k4⟩ := hok
  have hpc : pb = pc := xa_at_of hf hat
  subst hpc
  have hdg := xa_dec_of k1
  have hln : ln = 1 := by simpa [xa_lenOK, xa_len] using k2
  subst hln
  have hnx : xa_at G mi (i + 1) (pb + 1) = true := by simpa [xa_through] using k3
  dsimp only [xa_one1] at ho
  dsimp only at hdg
  unfold xa_div at ho
  split at ho
  · next b a st0 =>
    split at ho
    · next hq =>
      cases ho
      obtain ⟨ha, hb2, hne⟩ := hq
      have e4 := kk _ H locs cells slots lr hnx hL hR hS hc hs
      refine lv_irem hx hb hdg (fun q => hne ((xa_ieq hb2 xa_r0).mp q)) ?_
      rw [xa_irem ha hb2]
      exact e4
    · cases ho
  · cases ho
theorem xa_s_i2b (C : xa_Cx G S mi X b0 ca v3 D cI cQ p R s m args meth c) {en : xa_E} {i i1 : Nat} {ls ls1 st st1 : List xa_V} {h h1 : xa_H} {pl : List Nat}  (hins : en.2.1 = .i2b) (hf : (G.1 mi)[i]? = some en) (hok : xa_ok G S mi i en pl = true) (ho : xa_one1 X en i ls st h = some (.inl (i1, ls1, st1, h1))) (hm : h1.length ≤ h'.length ∧ xa_sl h1 ≤ xa_sl h') (kk : xa_WW G mi b0 ca v3 D cI cQ p l e R s m args below meth c Q h' i1 ls1 st1 h1) : xa_WW G mi b0 ca v3 D cI cQ p l e R s m args below meth c Q h' i ls st h := by
  obtain ⟨pb, ins, ln, x⟩ := en
  dsimp only at hins
  subst hins
  intro pc H locs cells slots lr hat hL hR hS hc hs
  obtain ⟨hx, hb, hml, hown, hts, hF, h3, hb0, hnm, hfr, hlo⟩ := C
  simp only [xa_ok, Bool.and_eq_true] at hok
  obtain ⟨k1, k2, k3, k4⟩ := hok
  have hpc : pb = pc := xa_at_of hf hat
  subst hpc
  have hdg := xa_dec_of k1
  have hln : ln = 1 := by simpa [xa_lenOK, xa_len] using k2
  subst hln
  have hnx : xa_at G mi (i + 1) (pb + 1) = true := by simpa [xa_through] using k3
  dsimp only [xa_one1] at ho
  dsimp only at hdg
  unfold xa_one at ho
  split at ho
  · next a st0 =>
    cases ho
    have e4 := kk _ H locs cells slots lr hnx hL hR hS hc hs
    rw [List.map_cons, show xa_cv b0 ca v3 (xI (xa_i2b a)) = .int (Int32.ofInt (xa_i2b a)) from rfl, show Int32.ofInt (xa_i2b a) = _ from xa_asI _] at e4
    exact lv_i2b hx hb hdg rfl e4
  · cases ho
theorem xa_s_i2s (C : xa_Cx G S mi X b0 ca v3 D cI cQ p R s m args meth c) {en : xa_E} {i i1 : Nat} {ls ls1 st st1 : List xa_V} {h h1 : xa_H} {pl : List Nat}  (hins : en.2.1 = .i2s) (hf : (G.1 mi)[i]? = some en) (hok : xa_ok G S mi i en pl = true) (ho : xa_one1 X en i ls st h = some (.inl (i1, ls1, st1, h1))) (hm : h1.length ≤ h'.length ∧ xa_sl h1 ≤ xa_sl h') (kk : xa_WW G mi b0 ca v3 D cI cQ p l e R s m args below meth c Q h' i1 ls1 st1 h1) : xa_WW G mi b0 ca v3 D cI cQ p l e R s m args below meth c Q h' i ls st h := by
  obtain ⟨pb, ins, ln, x⟩ := en
  dsimp only at hins
  subst hins
  intro pc H locs cells slots lr hat hL hR hS hc hs
  obtain ⟨hx, hb, hml, hown, hts, hF, h3, hb0, hnm, hfr, hlo⟩ := C
  simp only [xa_ok, Bool.and_eq_true] at hok
  obtain ⟨k1, k2, k3, k4⟩ := hok
  have hpc : pb = pc := xa_at_of hf hat
  subst hpc
  have hdg := xa_dec_of k1
  have hln : ln = 1 := by simpa [xa_lenOK, xa_len] using k2
  subst hln
  have hnx : xa_at G mi (i + 1) (pb + 1) = true := by simpa [xa_through] using k3
  dsimp only [xa_one1] at ho
  dsimp only at hdg
  unfold xa_one at ho
  split at ho
  · next a st0 =>
    cases ho
    have e4 := kk _ H locs cells slots lr hnx hL hR hS hc hs
    rw [List.map_cons, show xa_cv b0 ca v3 (xI (xa_i2s a)) = .int (Int32.ofInt (xa_i2s a)) from rfl, show Int32.ofInt (xa_i2s a) = _ from xa_asI _] at e4
    exact lv_i2s hx hb hdg rfl e4
  · cases ho
theorem xa_s_i2c (C : xa_Cx G S mi X b0 ca v3 D cI cQ p R s m args meth c) {en : xa_E} {i i1 : Nat} {ls ls1 st st1 : List xa_V} {h h1 : xa_H} {pl : List Nat}  (hins : en.2.1 = .i2c) (hf : (G.1 mi)[i]? = some en) (hok : xa_ok G S mi i en pl = true) (ho : xa_one1 X en i ls st h = some (.inl (i1, ls1, st1, h1))) (hm : h1.length ≤ h'.length ∧ xa_sl h1 ≤ xa_sl h') (kk : xa_WW G mi b0 ca v3 D cI cQ p l e R s m args below meth c Q h' i1 ls1 st1 h1) : xa_WW G mi b0 ca v3 D cI cQ p l e R s m args below meth c Q h' i ls st h := by
  obtain ⟨pb, ins, ln, x⟩ := en
  dsimp only at hins
  subst hins
  intro pc H locs cells slots lr hat hL hR hS hc hs
  obtain ⟨hx, hb, hml, hown, hts, hF, h3, hb0, hnm, hfr, hlo⟩ := C
  simp only [xa_ok, Bool.and_eq_true] at hok
  obtain ⟨k1, k2, k3, k4⟩ := hok
  have hpc : pb = pc := xa_at_of hf hat
  subst hpc
  have hdg := xa_dec_of k1
  have hln : ln = 1 := by simpa [xa_lenOK, xa_len] using k2
  subst hln
  have hnx : xa_at G mi (i + 1) (pb + 1) = true := by simpa [xa_through] using k3
  dsimp only [xa_one1] at ho
  dsimp only at hdg
  split at ho
  · next a st0 =>
    split at ho
    · next hq =>
      cases ho
      have e4 := kk _ H locs cells slots lr hnx hL hR hS hc hs
      refine lv_i2c hx hb hdg ?_ e4
      obtain ⟨n, rfl⟩ := Int.eq_ofNat_of_zero_le hq.1
      have hn : n < 65536 := by omega
      have e5 : Int32.ofInt (n : Int) = nI n := rfl
      rw [e5, pk_char, pk_tn (by omega), Nat.mod_eq_of_lt hn]
    · cases ho
  · cases ho
theorem xa_s_i2l (C : xa_Cx G S mi X b0 ca v3 D cI cQ p R s m args meth c) {en : xa_E} {i i1 : Nat} {ls ls1 st st1 : List xa_V} {h h1 : xa_H} {pl : List Nat}  (hins : en.2.1 = .i2l) (hf : (G.1 mi)[i]? = some en) (hok : xa_ok G S mi i en pl = true) (ho : xa_one1 X en i ls st h = some (.inl (i1, ls1, st1, h1))) (hm : h1.length ≤ h'.length ∧ xa_sl h1 ≤ xa_sl h') (kk : xa_WW G mi b0 ca v3 D cI cQ p l e R s m args below meth c Q h' i1 ls1 st1 h1) : xa_WW G mi b0 ca v3 D cI cQ p l e R s m args below meth c Q h' i ls st h := by
  obtain ⟨pb, ins, ln, x⟩ := en
  dsimp only at hins
  subst hins
  intro pc H locs cells slots lr hat hL hR hS hc hs
  obtain ⟨hx, hb, hml, hown, hts, hF, h3, hb0, hnm, hfr, hlo⟩ := C
  simp only [xa_ok, Bool.and_eq_true] at hok
  obtain ⟨k1, k2, k3, k4⟩ := hok
  have hpc : pb = pc := xa_at_of hf hat
  subst hpc
  have hdg := xa_dec_of k1
  have hln : ln = 1 := by simpa [xa_lenOK, xa_len] using k2
  subst hln
  have hnx : xa_at G mi (i + 1) (pb + 1) = true := by simpa [xa_through] using k3
  dsimp only [xa_one1] at ho
  dsimp only at hdg
  split at ho
  · next a st0 =>
    split at ho
    · next hq =>
      cases ho
      have e4 := kk _ H locs cells slots lr hnx hL hR hS hc hs
      refine lv_i2l hx hb hdg ?_ e4
      rw [← Int64.toInt_inj, Int32.toInt_toInt64, xa_toI hq, xa_toL ⟨by omega, by omega⟩]
    · cases ho
  · cases ho
theorem xa_s_l2i (C : xa_Cx G S mi X b0 ca v3 D cI cQ p R s m args meth c) {en : xa_E} {i i1 : Nat} {ls ls1 st st1 : List xa_V} {h h1 : xa_H} {pl : List Nat}  (hins : en.2.1 = .l2i) (hf : (G.1 mi)[i]? = some en) (hok : xa_ok G S mi i en pl = true) (ho : xa_one1 X en i ls st h = some (.inl (i1, ls1, st1, h1))) (hm : h1.length ≤ h'.length ∧ xa_sl h1 ≤ xa_sl h') (kk : xa_WW G mi b0 ca v3 D cI cQ p l e R s m args below meth c Q h' i1 ls1 st1 h1) : xa_WW G mi b0 ca v3 D cI cQ p l e R s m args below meth c Q h' i ls st h := by
  obtain ⟨pb, ins, ln, x⟩ := en
  dsimp only at hins
  subst hins
  intro pc H locs cells slots lr hat hL hR hS hc hs
  obtain ⟨hx, hb, hml, hown, hts, hF, h3, hb0, hnm, hfr, hlo⟩ := C
  simp only [xa_ok, Bool.and_eq_true] at hok
  obtain ⟨k1, k2, k3, k4⟩ := hok
  have hpc : pb = pc := xa_at_of hf hat
  subst hpc
  have hdg := xa_dec_of k1
  have hln : ln = 1 := by simpa [xa_lenOK, xa_len] using k2
  subst hln
  have hnx : xa_at G mi (i + 1) (pb + 1) = true := by simpa [xa_through] using k3
  dsimp only [xa_one1] at ho
  dsimp only at hdg
  split at ho
  · next a st0 =>
    cases ho
    have e4 := kk _ H locs cells slots lr hnx hL hR hS hc hs
    refine lv_l2i hx hb hdg ?_ e4
    rw [← Int32.toInt_inj, Int64.toInt_toInt32, Int64.toInt_ofInt, Int32.toInt_ofInt]
    exact Int.bmod_bmod_of_dvd (by decide)
  · cases ho
theorem xa_s_lcmp (C : xa_Cx G S mi X b0 ca v3 D cI cQ p R s m args meth c) {en : xa_E} {i i1 : Nat} {ls ls1 st st1 : List xa_V} {h h1 : xa_H} {pl : List Nat}  (hins : en.2.1 = .lcmp) (hf : (G.1 mi)[i]? = some en) (hok : xa_ok G S mi i en pl = true) (ho : xa_one1 X en i ls st h = some (.inl (i1, ls1, st1, h1))) (hm : h1.length ≤ h'.length ∧ xa_sl h1 ≤ xa_sl h') (kk : xa_WW G mi b0 ca v3 D cI cQ p l e R s m args below meth c Q h' i1 ls1 st1 h1) : xa_WW G mi b0 ca v3 D cI cQ p l e R s m args below meth c Q h' i ls st h := by
  obtain ⟨pb, ins, ln, x⟩ := en
  dsimp only at hins
  subst hins
  intro pc H locs cells slots lr hat hL hR hS hc hs
  obtain ⟨hx, hb, hml, hown, hts, hF, h3, hb0, hnm, hfr, hlo⟩ := C
  simp only [xa_ok, Bool.and_eq_true] at hok
  obtain ⟨k1, k2, k3, k4⟩ := hok
  have hpc : pb = pc := xa_at_of hf hat
  subst hpc
  have hdg := xa_dec_of k1
  have hln : ln = 1 := by simpa [xa_lenOK, xa_len] using k2
  subst hln
  have hnx : xa_at G mi (i + 1) (pb + 1) = true := by simpa [xa_through] using k3
  dsimp only [xa_one1] at ho
  dsimp only at hdg
  unfold xa_lcmp at ho
  split at ho
  · next b a st0 =>
    split at ho
    · next hq =>
      cases ho
      obtain ⟨ha, hb2⟩ := hq
      have e4 := kk _ H locs cells slots lr hnx hL hR hS hc hs
      refine W.lcmp hx hb hdg ?_
      have e5 : lg_cmp (Int64.ofInt a) (Int64.ofInt b) = Int32.ofInt (if a < b then -1 else if a = b then 0 else 1) := by
        unfold lg_cmp
        by_cases q1 : a < b
        · rw [if_pos q1, if_neg (fun z => by have := (xa_llt hb2 ha).mp z; omega), if_neg (fun z => by have := (xa_leq ha hb2).mp z; omega)]
          rfl
        · by_cases q2 : a = b
          · rw [if_neg q1, if_pos q2, if_neg (fun z => by have := (xa_llt hb2 ha).mp z; omega), if_pos ((xa_leq ha hb2).mpr q2)]
            rfl
          · rw [if_neg q1, if_neg q2, if_pos ((xa_llt hb2 ha).mpr (by omega))]
            rfl
      rw [e5]
      exact e4
    · cases ho
  · cases ho
theorem xa_s_iinc (C : xa_Cx G S mi X b0 ca v3 D cI cQ p R s m args meth c) {en : xa_E} {i i1 : Nat} {ls ls1 st st1 : List xa_V} {h h1 : xa_H} {pl : List Nat} {k : Nat} {n : Int} (hins : en.2.1 = .iinc k n) (hf : (G.1 mi)[i]? = some en) (hok : xa_ok G S mi i en pl = true) (ho : xa_one1 X en i ls st h = some (.inl (i1, ls1, st1, h1))) (hm : h1.length ≤ h'.length ∧ xa_sl h1 ≤ xa_sl h') (kk : xa_WW G mi b0 ca v3 D cI cQ p l e R s m args below meth c Q h' i1 ls1 st1 h1) : xa_WW G mi b0 ca v3 D cI cQ p l e R s m args below meth c Q h' i ls st h := by
  obtain ⟨pb, ins, ln, x⟩ := en
  dsimp only at hins
  subst hins
  intro pc H locs cells slots lr hat hL hR hS hc hs
  obtain ⟨hx, hb, hml, hown, hts, hF, h3, hb0, hnm, hfr, hlo⟩ := C
  simp only [xa_ok, Bool.and_eq_true] at hok
  obtain ⟨k1, k2, k3, k4⟩ := hok
  have hpc : pb = pc := xa_at_of hf hat
  subst hpc
  have hdg := xa_dec_of k1
  have hln : ln = 3 := by simpa [xa_lenOK, xa_len] using k2
  subst hln
  have hnx : xa_at G mi (i + 1) (pb + 3) = true := by simpa [xa_through] using k3
  dsimp only [xa_one1] at ho
  dsimp only at hdg
  split at ho
  · next z e1 =>
    cases ho
    have hk2 := hL.2.2.1
    have hk : k < ls.length := (List.getElem?_eq_some_iff.mp e1).1
    have hp := xa_pairs_in (b0 := b0) (ca := ca) (v3 := v3) e1 (by simp)
    obtain ⟨j, hj⟩ := List.getElem?_of_mem hp
    exact lv_iinc hx hb hdg (xa_lr_has hL) (k := j) hj (xa_add z n) (by omega) rfl (fun lr' hl' => kk _ H locs cells slots lr' hnx (xa_lr_set1 (v := xI (z + n)) h3 hk2 (by omega) hl') hR hS hc hs)
  · cases ho
theorem xa_s_dup (C : xa_Cx G S mi X b0 ca v3 D cI cQ p R s m args meth c) {en : xa_E} {i i1 : Nat} {ls ls1 st st1 : List xa_V} {h h1 : xa_H} {pl : List Nat}  (hins : en.2.1 = .dup) (hf : (G.1 mi)[i]? = some en) (hok : xa_ok G S mi i en pl = true) (ho : xa_one1 X en i ls st h = some (.inl (i1, ls1, st1, h1))) (hm : h1.length ≤ h'.length ∧ xa_sl h1 ≤ xa_sl h') (kk : xa_WW G mi b0 ca v3 D cI cQ p l e R s m args below meth c Q h' i1 ls1 st1 h1) : xa_WW G mi b0 ca v3 D cI cQ p l e R s m args below meth c Q h' i ls st h := by
  obtain ⟨pb, ins, ln, x⟩ := en
  dsimp only at hins
  subst hins
  intro pc H locs cells slots lr hat hL hR hS hc hs
  obtain ⟨hx, hb, hml, hown, hts, hF, h3, hb0, hnm, hfr, hlo⟩ := C
  simp only [xa_ok, Bool.and_eq_true] at hok
  obtain ⟨k1, k2, k3, k4⟩ := hok
  have hpc : pb = pc := xa_at_of hf hat
  subst hpc
  have hdg := xa_dec_of k1
  have hln : ln = 1 := by simpa [xa_lenOK, xa_len] using k2
  subst hln
  have hnx : xa_at G mi (i + 1) (pb + 1) = true := by simpa [xa_through] using k3
  dsimp only [xa_one1] at ho
  dsimp only at hdg
  split at ho
  · next v st0 =>
    split at ho
    · next hv =>
      cases ho
      exact lv_dup hx hb hdg (by rw [xa_cv_cat h3]; exact hv) (kk _ H locs cells slots lr hnx hL hR hS hc hs)
    · cases ho
  · cases ho
theorem xa_s_dup2 (C : xa_Cx G S mi X b0 ca v3 D cI cQ p R s m args meth c) {en : xa_E} {i i1 : Nat} {ls ls1 st st1 : List xa_V} {h h1 : xa_H} {pl : List Nat}  (hins : en.2.1 = .dup2) (hf : (G.1 mi)[i]? = some en) (hok : xa_ok G S mi i en pl = true) (ho : xa_one1 X en i ls st h = some (.inl (i1, ls1, st1, h1))) (hm : h1.length ≤ h'.length ∧ xa_sl h1 ≤ xa_sl h') (kk : xa_WW G mi b0 ca v3 D cI cQ p l e R s m args below meth c Q h' i1 ls1 st1 h1) : xa_WW G mi b0 ca v3 D cI cQ p l e R s m args below meth c Q h' i ls st h := by
  obtain ⟨pb, ins, ln, x⟩ := en
  dsimp only at hins
  subst hins
  intro pc H locs cells slots lr hat hL hR hS hc hs
  obtain ⟨hx, hb, hml, hown, hts, hF, h3, hb0, hnm, hfr, hlo⟩ := C
  simp only [xa_ok, Bool.and_eq_true] at hok
  obtain ⟨k1, k2, k3, k4⟩ := hok
  have hpc : pb = pc := xa_at_of hf hat
  subst hpc
  have hdg := xa_dec_of k1
  have hln : ln = 1 := by simpa [xa_lenOK, xa_len] using k2
  subst hln
  have hnx : xa_at G mi (i + 1) (pb + 1) = true := by simpa [xa_through] using k3
  dsimp only [xa_one1] at ho
  dsimp only at hdg
  split at ho
  · next v w st0 =>
    split at ho
    · next hv =>
      cases ho
      exact lv_dup2_11 hx hb hdg (by rw [xa_cv_cat h3]; exact hv.1) (by rw [xa_cv_cat h3]; exact hv.2) (kk _ H locs cells slots lr hnx hL hR hS hc hs)
    · cases ho
  · cases ho
theorem xa_s_pop (C : xa_Cx G S mi X b0 ca v3 D cI cQ p R s m args meth c) {en : xa_E} {i i1 : Nat} {ls ls1 st st1 : List xa_V} {h h1 : xa_H} {pl : List Nat}  (hins : en.2.1 = .pop) (hf : (G.1 mi)[i]? = some en) (hok : xa_ok G S mi i en pl = true) (ho : xa_one1 X en i ls st h = some (.inl (i1, ls1, st1, h1))) (hm : h1.length ≤ h'.length ∧ xa_sl h1 ≤ xa_sl h') (kk : xa_WW G mi b0 ca v3 D cI cQ p l e R s m args below meth c Q h' i1 ls1 st1 h1) : xa_WW G mi b0 ca v3 D cI cQ p l e R s m args below meth c Q h' i ls st h := by
  obtain ⟨pb, ins, ln, x⟩ := en
  dsimp only at hins
  subst hins
  intro pc H locs cells slots lr hat hL hR hS hc hs
  obtain ⟨hx, hb, hml, hown, hts, hF, h3, hb0, hnm, hfr, hlo⟩ := C
  simp only [xa_ok, Bool.and_eq_true] at hok
  obtain ⟨k1, k2, k3, k4⟩ := hok
  have hpc : pb = pc := xa_at_of hf hat
  subst hpc
  have hdg := xa_dec_of k1
  have hln : ln = 1 := by simpa [xa_lenOK, xa_len] using k2
  subst hln
  have hnx : xa_at G mi (i + 1) (pb + 1) = true := by simpa [xa_through] using k3
  dsimp only [xa_one1] at ho
  dsimp only at hdg
  split at ho
  · next v st0 =>
    split at ho
    · next hv =>
      cases ho
      exact lv_pop hx hb hdg (by rw [xa_cv_cat h3]; exact hv) (kk _ H locs cells slots lr hnx hL hR hS hc hs)
    · cases ho
  · cases ho
theorem xa_s_goto (C : xa_Cx G S mi X b0 ca v3 D cI cQ p R s m args meth c) {en : xa_E} {i i1 : Nat} {ls ls1 st st1 : List xa_V} {h h1 : xa_H} {pl : List Nat} {off : Int} (hins : en.2.1 = .goto off) (hf : (G.1 mi)[i]? = some en) (hok : xa_ok G S mi i en pl = true) (ho : xa_one1 X en i ls st h = some (.inl (i1, ls1, st1, h1))) (hm : h1.length ≤ h'.length ∧ xa_sl h1 ≤ xa_sl h') (kk : xa_WW G mi b0 ca v3 D cI cQ p l e R s m args below meth c Q h' i1 ls1 st1 h1) : xa_WW G mi b0 ca v3 D cI cQ p l e R s m args below meth c Q h' i ls st h := by
  obtain ⟨pb, ins, ln, x⟩ := en
  dsimp only at hins
  subst hins
  intro pc H locs cells slots lr hat hL hR hS hc hs
  obtain ⟨hx, hb, hml, hown, hts, hF, h3, hb0, hnm, hfr, hlo⟩ := C
  simp only [xa_ok, Bool.and_eq_true] at hok
  obtain ⟨k1, k2, k3, k4⟩ := hok
  have hpc : pb = pc := xa_at_of hf hat
  subst hpc
  have hdg := xa_dec_of k1
  have hln : ln = 3 := by simpa [xa_lenOK, xa_len] using k2
  subst hln
  dsimp only [xa_one1] at ho
  dsimp only at hdg
  split at ho
  · next t =>
    cases ho
    match pl, k4 with
    | [], k4 =>
      obtain ⟨b, hb1, hb2⟩ := xa_jmp_of (show xa_jmp G mi pb t off = true from by simpa [xa_extra] using k4)
      exact lv_goto hx hb hdg hb1 (kk _ H locs cells slots lr hb2 hL hR hS hc hs)
  · cases ho
theorem xa_s_icmp (C : xa_Cx G S mi X b0 ca v3 D cI cQ p R s m args meth c) {en : xa_E} {i i1 : Nat} {ls ls1 st st1 : List xa_V} {h h1 : xa_H} {pl : List Nat} {cd : Jvm.ClassFile.Cond} {off : Int} (hins : en.2.1 = .if_icmp cd off) (hf : (G.1 mi)[i]? = some en) (hok : xa_ok G S mi i en pl = true) (ho : xa_one1 X en i ls st h = some (.inl (i1, ls1, st1, h1))) (hm : h1.length ≤ h'.length ∧ xa_sl h1 ≤ xa_sl h') (kk : xa_WW G mi b0 ca v3 D cI cQ p l e R s m args below meth c Q h' i1 ls1 st1 h1) : xa_WW G mi b0 ca v3 D cI cQ p l e R s m args below meth c Q h' i ls st h := by
  obtain ⟨pb, ins, ln, x⟩ := en
  dsimp only at hins
  subst hins
  intro pc H locs cells slots lr hat hL hR hS hc hs
  obtain ⟨hx, hb, hml, hown, hts, hF, h3, hb0, hnm, hfr, hlo⟩ := C
  simp only [xa_ok, Bool.and_eq_true] at hok
  obtain ⟨k1, k2, k3, k4⟩ := hok
  have hpc : pb = pc := xa_at_of hf hat
  subst hpc
  have hdg := xa_dec_of k1
  have hln : ln = 3 := by simpa [xa_lenOK, xa_len] using k2
  subst hln
  have hnx : xa_at G mi (i + 1) (pb + 3) = true := by simpa [xa_through] using k3
  dsimp only [xa_one1] at ho
  dsimp only at hdg
  unfold xa_if2 at ho
  split at ho
  · next b a st0 t =>
    rw [xa_cmpw_eq] at ho
    match pl, k4 with
    | [], k4 =>
      obtain ⟨tb, hb1, hbt⟩ := xa_jmp_of (show xa_jmp G mi pb t off = true from by simpa [xa_extra] using k4)
      have key : (xa_cmp cd (xa_w a) (xa_w b) = true → W p l e R s m args below meth c H locs cells slots Q (F0 m tb lr (st0.map (xa_cv b0 ca v3)))) ∧ (¬ xa_cmp cd (xa_w a) (xa_w b) = true → W p l e R s m args below meth c H locs cells slots Q (F0 m (pb + 3) lr (st0.map (xa_cv b0 ca v3)))) := by
        refine ⟨fun q => ?_, fun q => ?_⟩
        · rw [if_pos q] at ho
          cases ho
          exact kk _ H locs cells slots lr hbt hL hR hS hc hs
        · rw [if_neg q] at ho
          cases ho
          exact kk _ H locs cells slots lr hnx hL hR hS hc hs
      obtain ⟨kt, kf⟩ := key
      cases cd with
      | eq => exact lv_icmp_eq hx hb hdg hb1 (fun z => kt (decide_eq_true ((xa_weq a b).mp z))) (fun z => kf (fun q => z ((xa_weq a b).mpr (of_decide_eq_true q))))
      | ne => exact lv_icmp_ne hx hb hdg hb1 (fun z => kt (decide_eq_true (fun q => z ((xa_weq a b).mpr q)))) (fun z => kf (fun q => of_decide_eq_true q ((xa_weq a b).mp z)))
      | lt => exact lv_icmp_lt hx hb hdg hb1 (fun z => kt (decide_eq_true ((xa_wlt a b).mp z))) (fun z => kf (fun q => z ((xa_wlt a b).mpr (of_decide_eq_true q))))
      | ge => exact lv_icmp_ge hx hb hdg hb1 (fun z => kt (decide_eq_true ((xa_wle b a).mp z))) (fun z => kf (fun q => z ((xa_wle b a).mpr (of_decide_eq_true q))))
      | gt => exact lv_icmp_gt hx hb hdg hb1 (fun z => kt (decide_eq_true ((xa_wlt b a).mp z))) (fun z => kf (fun q => z ((xa_wlt b a).mpr (of_decide_eq_true q))))
      | le => exact lv_icmp_le hx hb hdg hb1 (fun z => kt (decide_eq_true ((xa_wle a b).mp z))) (fun z => kf (fun q => z ((xa_wle a b).mpr (of_decide_eq_true q))))
  · cases ho
theorem xa_s_ifc (C : xa_Cx G S mi X b0 ca v3 D cI cQ p R s m args meth c) {en : xa_E} {i i1 : Nat} {ls ls1 st st1 : List xa_V} {h h1 : xa_H} {pl : List Nat} {cd : Jvm.ClassFile.Cond} {off : Int} (hins : en.2.1 = .ifCond cd off) (hf : (G.1 mi)[i]? = some en) (hok : xa_ok G S mi i en pl = true) (ho : xa_one1 X en i ls st h = some (.inl (i1, ls1, st1, h1))) (hm : h1.length ≤ h'.length ∧ xa_sl h1 ≤ xa_sl h') (kk : xa_WW G mi b0 ca v3 D cI cQ p l e R s m args below meth c Q h' i1 ls1 st1 h1) : xa_WW G mi b0 ca v3 D cI cQ p l e R s m args below meth c Q h' i ls st h := by
  obtain ⟨pb, ins, ln, x⟩ := en
  dsimp only at hins
  subst hins
  intro pc H locs cells slots lr hat hL hR hS hc hs
  obtain ⟨hx, hb, hml, hown, hts, hF, h3, hb0, hnm, hfr, hlo⟩ := C
  simp only [xa_ok, Bool.and_eq_true] at hok
  obtain ⟨k1, k2, k3, k4⟩ := hok
  have hpc : pb = pc := xa_at_of hf hat
  subst hpc
  have hdg := xa_dec_of k1
  have hln : ln = 3 := by simpa [xa_lenOK, xa_len] using k2
  subst hln
  have hnx : xa_at G mi (i + 1) (pb + 3) = true := by simpa [xa_through] using k3
  dsimp only [xa_one1] at ho
  dsimp only at hdg
  unfold xa_if1 at ho
  split at ho
  · next a st0 t =>
    rw [xa_cmpw_eq] at ho
    match pl, k4 with
    | [], k4 =>
      obtain ⟨tb, hb1, hbt⟩ := xa_jmp_of (show xa_jmp G mi pb t off = true from by simpa [xa_extra] using k4)
      have key : (xa_cmp cd (xa_w a) (xa_w 0) = true → W p l e R s m args below meth c H locs cells slots Q (F0 m tb lr (st0.map (xa_cv b0 ca v3)))) ∧ (¬ xa_cmp cd (xa_w a) (xa_w 0) = true → W p l e R s m args below meth c H locs cells slots Q (F0 m (pb + 3) lr (st0.map (xa_cv b0 ca v3)))) := by
        refine ⟨fun q => ?_, fun q => ?_⟩
        · rw [if_pos q] at ho
          cases ho
          exact kk _ H locs cells slots lr hbt hL hR hS hc hs
        · rw [if_neg q] at ho
          cases ho
          exact kk _ H locs cells slots lr hnx hL hR hS hc hs
      obtain ⟨kt, kf⟩ := key
      cases cd with
      | eq => exact lv_if_eq hx hb hdg hb1 (fun z => kt (decide_eq_true ((xa_weq a 0).mp z))) (fun z => kf (fun q => z ((xa_weq a 0).mpr (of_decide_eq_true q))))
      | ne => exact lv_if_ne hx hb hdg hb1 (fun z => kt (decide_eq_true (fun q => z ((xa_weq a 0).mpr q)))) (fun z => kf (fun q => of_decide_eq_true q ((xa_weq a 0).mp z)))
      | lt => exact lv_if_lt hx hb hdg hb1 (fun z => kt (decide_eq_true ((xa_wlt a 0).mp z))) (fun z => kf (fun q => z ((xa_wlt a 0).mpr (of_decide_eq_true q))))
      | ge => exact lv_if_ge hx hb hdg hb1 (fun z => kt (decide_eq_true ((xa_wle 0 a).mp z))) (fun z => kf (fun q => z ((xa_wle 0 a).mpr (of_decide_eq_true q))))
      | gt => exact lv_if_gt hx hb hdg hb1 (fun z => kt (decide_eq_true ((xa_wlt 0 a).mp z))) (fun z => kf (fun q => z ((xa_wlt 0 a).mpr (of_decide_eq_true q))))
      | le => exact lv_if_le hx hb hdg hb1 (fun z => kt (decide_eq_true ((xa_wle a 0).mp z))) (fun z => kf (fun q => z ((xa_wle a 0).mpr (of_decide_eq_true q))))
  · cases ho
theorem xa_s_tsw (C : xa_Cx G S mi X b0 ca v3 D cI cQ p R s m args meth c) {en : xa_E} {i i1 : Nat} {ls ls1 st st1 : List xa_V} {h h1 : xa_H} {pl : List Nat} {d lo hi : Int} {offs : Array Int} (hins : en.2.1 = .tableswitch d lo hi offs) (hf : (G.1 mi)[i]? = some en) (hok : xa_ok G S mi i en pl = true) (ho : xa_one1 X en i ls st h = some (.inl (i1, ls1, st1, h1))) (hm : h1.length ≤ h'.length ∧ xa_sl h1 ≤ xa_sl h') (kk : xa_WW G mi b0 ca v3 D cI cQ p l e R s m args below meth c Q h' i1 ls1 st1 h1) : xa_WW G mi b0 ca v3 D cI cQ p l e R s m args below meth c Q h' i ls st h := by
  obtain ⟨pb, ins, ln, x⟩ := en
  dsimp only at hins
  subst hins
  intro pc H locs cells slots lr hat hL hR hS hc hs
  obtain ⟨hx, hb, hml, hown, hts, hF, h3, hb0, hnm, hfr, hlo⟩ := C
  simp only [xa_ok, Bool.and_eq_true] at hok
  obtain ⟨k1, k2, k3, k4⟩ := hok
  have hpc : pb = pc := xa_at_of hf hat
  subst hpc
  have hdg := xa_dec_of k1
  dsimp only [xa_one1] at ho
  dsimp only at hdg
  unfold xa_sw at ho
  split at ho
  · next dt ts z st0 =>
    split at ho
    · next hz =>
      match pl, k4 with
      | [], k4 =>
        simp only [xa_extra, Bool.and_eq_true] at k4
        obtain ⟨k5, k6⟩ := k4
        split at ho
        · next hq =>
          cases ho
          obtain ⟨b, hb1, hb2⟩ := xa_jmp_of k5
          exact lv_tableOut hx hb hdg (by rw [xa_toI hz]; exact hq) hb1 (kk _ H locs cells slots lr hb2 hL hR hS hc hs)
        · next hq =>
          split at ho
          · next t ht =>
            cases ho
            have hlt := (List.getElem?_eq_some_iff.mp ht).1
            have k7 := List.all_eq_true.mp k6 _ (List.mem_range.mpr hlt)
            rw [ht] at k7
            split at k7
            · next o1 o ho1 ho2 =>
              cases ho1
              obtain ⟨b, hb1, hb2⟩ := xa_jmp_of k7
              exact lv_tableIn hx hb hdg (by rw [xa_toI hz]; omega) (by rw [xa_toI hz]; omega) (by rw [xa_toI hz]; exact ho2) hb1 (kk _ H locs cells slots lr hb2 hL hR hS hc hs)
            · cases k7
          · cases ho
    · cases ho
  · cases ho
end XS
end
section
/-! ONE INSTRUCTION, of those that touch cells -/
theorem xa_cv_C {b0 : Nat} {ca : Nat → Nat} {v3 : Value} {c : Nat} (h0 : c ≠ 0) (h3 : c ≠ 3) : xa_cv b0 ca v3 (xC c) = .ref (ca c) := by
  show (if c = 0 then Value.null else if c = 3 then v3 else .ref (ca c)) = _
  rw [if_neg h0, if_neg h3]
theorem xa_ca_ne {X : List Int} {c : Nat} {xs : List Int} (e : xa_ca X c = some xs) : c ≠ 0 ∧ c ≠ 3 := by
  refine ⟨fun q => ?_, fun q => ?_⟩ <;> (subst q; simp [xa_ca] at e)
theorem xa_cb_ne {c : Nat} {xs : List Int} (e : xa_cb c = some xs) : c ≠ 0 ∧ c ≠ 3 := by
  unfold xa_cb at e
  split at e
  · simp at e
  · omega
theorem xa_cpy_len {xs ys : List xa_V} {s d n : Nat} (h1 : s + n ≤ xs.length) (h2 : d + n ≤ ys.length) : (xa_cpy xs ys s d n).length = ys.length := by
  unfold xa_cpy
  simp only [List.length_append, List.length_take, List.length_drop]
  omega
theorem xa_cpy_get {xs ys : List xa_V} {s d n : Nat} (h1 : s + n ≤ xs.length) (h2 : d + n ≤ ys.length) (j : Nat) : (xa_cpy xs ys s d n)[j]? = if d ≤ j ∧ j < d + n then xs[s + (j - d)]? else ys[j]? := by
  unfold xa_cpy
  by_cases q1 : j < d
  · rw [if_neg (by omega), List.getElem?_append_left (by simp only [List.length_take]; omega), List.getElem?_take, if_pos q1]
  · rw [List.getElem?_append_right (by simp only [List.length_take]; omega)]
    have e1 : (ys.take d).length = d := by simp only [List.length_take]; omega
    rw [e1]
    by_cases q2 : j < d + n
    · rw [if_pos (by omega), List.getElem?_append_left (by simp only [List.length_take, List.length_drop]; omega), List.getElem?_take, if_pos (by omega), List.getElem?_drop]
    · have e2 : ((xs.drop s).take n).length = n := by simp only [List.length_take, List.length_drop]; omega
      rw [if_neg (by omega), List.getElem?_append_right (by omega), e2, List.getElem?_drop]
      congr 1
      omega
section XS
variable {p : Program} {l : Launch} {e : Env} {R : Jvm.Room} {s : State} {m : MethodId} {args : Array Value} {below : List Frame} {meth : Method} {c : Code} {Q : State → Prop}
variable {G : xa_G} {S : xa_M} {mi : Nat} {X : List Int} {b0 : Nat} {ca : Nat → Nat} {v3 : Value} {D : va_G} {cI : ClassId} {cQ : Nat → ClassId} {h' : xa_H}
/-- a field is written: the heap stays as long as it was -/
theorem xa_put {H H0 : Heap} {locs : List Loc} {cells slots : Nat} {cc : ByteArray} {pc : Nat} {ls : Array Slot} {rest : List Value} {cl : List vw_C} {A : Nat → Prop} {a : Nat} {tys : List (ClassId × FieldType)} {ws : va_W} (hexec : p.tables.exec = Jvm.exec) (hb : c.code = cc) {own C : String} {T : u_T} {N ci index : Nat} {Ts : List Jvm.Cond} (hts : ∀ w ∈ Ts, w.before args s = true) (hin : ∀ w ∈ u_ws C T N, w ∈ Ts) (ty0 : Nat → FieldType) (hty : ∀ k, k < N → parseFieldDescriptor (T k).2.2.1 = some (ty0 k)) (hnm : ∀ a, a < N → ∀ b, b < N → a ≠ b → (T a).2.1 ≠ (T b).2.1) (hown : s.vm.findClass own = some m.cls) (hK : va_K D cl tys s) (hP : va_P D cl ws H) (hD : va_D A ws) (hS0 : va_S A H0 H locs) (q0 : Nat) {fs : List Value} (he : ws[q0]? = some (a, .inr (ci, fs))) (hc : cl[ci]? = some (C, T, N)) (k : Nat) (hk : k < N) (hdc : (T k).1 = C) (hlink : (Cond.fieldLink own index C (T k).2.1 (T k).2.2.1).before args s = true) (hfin : (T k).2.2.2 = false ∨ ((T k).2.2.2 = true ∧ meth.name = "<init>" ∧ C = own)) {ty : FieldType} {v : Value} (hd : parseFieldDescriptor (T k).2.2.1 = some ty) (hn : narrow ty v = v) (hfit : fits ty v = true) (hl : k < fs.length)
    (hdg : decode cc pc = .ok (.putfield index, 3)) (kk : ∀ (H1 : Heap) (locs1 : List Loc), H1.size = H.size → va_P D cl (ws.set q0 (a, .inr (ci, fs.set k v))) H1 → va_S A H0 H1 locs1 → W p l e R s m args below meth c H1 locs1 cells slots Q (F0 m (pc + 3) ls rest)) : W p l e R s m args below meth c H locs cells slots Q (F0 m pc ls (v :: .ref a :: rest)) := by
  have hap := va_apart (own := own) hts hin ty0 hty hnm hK hc
  obtain ⟨r, h1, cell, q1, q2, q3, q4⟩ := hP q0 _ he
  have hr : r = (C, T, N) := Option.some.inj (h1.symm.trans hc)
  subst hr
  obtain ⟨hS, hfc, kC, hkC, hkind⟩ := hK.1 ci _ hc
  obtain ⟨cf, kf, fi, f, hi, hsl⟩ := hS k hk
  have hi2 : s.fieldFound? C (T k).2.1 (T k).2.2.1 = some (cf, kf, fi, f) := by rw [← hi]; show _ = s.fieldFound? (T k).1 _ _; rw [hdc]
  have hlay := hts _ (hin _ (u_in_lay hk))
  unfold u_lay at hlay
  have hst := (u_facts hfc hkC (u_lays hts hin hk) hi).1
  have fin : ∀ H' : Heap, H'[a]? = some (cell.setSlot (D.2 ci k) v) → H'.size = H.size → (∀ q, q ≠ a → H'[q]? = H[q]?) → W p l e R s m args below meth c H' (locs ++ [⟨a, D.2 ci k⟩]) cells slots Q (F0 m (pc + 3) ls rest) := fun H' e1 e2 e3 =>
    kk H' _ e2 (hP.set hD he ⟨_, hc, t_OB.to (V := updV (vp_V fs) k v) ⟨_, e1, q2, q3, t_set q4 hap hk v⟩ (fun j _ => vp_updV_set hl v j)⟩ e3) (hS0.put e2 e3 (hD.2 q0 _ he))
  rcases hfin with hfin | ⟨hfin, hin2, hdecl⟩
  · rw [if_neg (by rw [hfin]; decide)] at hlay
    have h6 := u_store hfc hkC hkind hlay hi hd hn hfit
    refine W.putK hexec hb (f := f) ⟨hown, hlink, ⟨_, _, _, hi2⟩, hst⟩ (by rw [q2]; exact h6) q1 q3 (by rw [hsl]; exact k2_hasslot (q4 k hk)) rfl rfl hdg fun H' e1 e2 e3 => ?_
    rw [hsl] at e1 ⊢
    exact fin H' e1 e2 e3
  · rw [if_pos hfin] at hlay
    have hcf : m.cls = cf := by
      obtain ⟨_, _, c', _, _, _, -, -, hf', -, -, -, hown2, -⟩ := Cond.laysFinal_spec hlay
      have e1 : c' = cf := by have := hi.symm.trans hf'; simp at this; exact this.1.symm
      rw [hdc, hdecl] at hown2
      rw [← e1]; exact Option.some.inj (hown.symm.trans hown2)
    have h6 := u_fits hfc hkC hkind (Or.inr hlay) hi hd hn hfit
    refine W.putFinK hexec hb hown hlink hi2 hst hcf hin2 (by rw [q2]; exact h6) q1 q3 (by rw [hsl]; exact k2_hasslot (q4 k hk)) rfl rfl hdg fun H' e1 e2 e3 => ?_
    rw [hsl] at e1 ⊢
    exact fin H' e1 e2 e3
theorem xa_s_getfield (C : xa_Cx G S mi X b0 ca v3 D cI cQ p R s m args meth c) (hCl : xa_ClOK) {en : xa_E} {i i1 : Nat} {ls ls1 st st1 : List xa_V} {h h1 : xa_H} {pl : List Nat} {idx : Nat} (hins : en.2.1 = .getfield idx) (hf : (G.1 mi)[i]? = some en) (hok : xa_ok G S mi i en pl = true) (ho : xa_one1 X en i ls st h = some (.inl (i1, ls1, st1, h1))) (hm : h1.length ≤ h'.length ∧ xa_sl h1 ≤ xa_sl h') (kk : xa_WW G mi b0 ca v3 D cI cQ p l e R s m args below meth c Q h' i1 ls1 st1 h1) : xa_WW G mi b0 ca v3 D cI cQ p l e R s m args below meth c Q h' i ls st h := by
  obtain ⟨pb, ins, ln, x⟩ := en
  dsimp only at hins
  subst hins
  intro pc H locs cells slots lr hat hL hR hS hc hs
  obtain ⟨hx, hb, hml, hown, hts, hF, h3, hb0, hnm, hfr, hlo⟩ := C
  simp only [xa_ok, Bool.and_eq_true] at hok
  obtain ⟨k1, k2, k3, k4⟩ := hok
  have hpc : pb = pc := xa_at_of hf hat
  subst hpc
  have hdg := xa_dec_of k1
  have hln : ln = 3 := by simpa [xa_lenOK, xa_len] using k2
  subst hln
  have hnx : xa_at G mi (i + 1) (pb + 3) = true := by simpa [xa_through] using k3
  dsimp only [xa_one1] at ho
  dsimp only at hdg
  unfold xa_getf at ho
  split at ho
  · next ci k a st0 =>
    split at ho
    · next c2 fs e1 =>
      split at ho
      · next hc2 =>
        split at ho
        · next v hv =>
          cases ho
          match pl, k4 with
          | [q], k4 =>
            simp only [xa_extra] at k4
            split at k4
            · next r hr =>
              simp only [Bool.and_eq_true, decide_eq_true_eq] at k4
              obtain ⟨g1, g2, g3⟩ := k4
              obtain ⟨n1, n2, n3, ty, n4, n5⟩ := hCl _ _ hr
              obtain ⟨C, T, N⟩ := r
              dsimp only at g1 g2 g3 n1
              subst hc2
              refine va_get (ref := C) (T := T) hx hb hts n1 hown hF.1 hR.2 a (xa_W_get e1) hr k.toNat g1 (hts _ (xa_in_tb g3)) (fun x hx => by rw [g2] at hx; exact hx) (v := xa_cv b0 ca v3 v) ?_ hdg (kk _ H locs cells slots lr hnx hL hR hS hc hs)
              rw [List.getElem?_map, hv]
              rfl
            · cases k4
        · cases ho
      · cases ho
    · cases ho
  · next f c2 st0 =>
    split at ho
    · next hc2 =>
      match pl, k4 with
      | [q], k4 =>
        simp only [xa_extra, Bool.or_eq_true, Bool.and_eq_true, decide_eq_true_eq] at k4
        have hO := hF.2.2.2.2.2.2.2 c2 hc2.1 hc2.2
        have e3 : xa_cv b0 ca v3 (xC c2) = .ref (ca c2) := xa_cv_C (by omega) (by omega)
        rcases k4 with ⟨f0, g⟩ | ⟨f1, g⟩
        · rw [if_pos f0] at ho
          cases ho
          rw [List.map_cons, e3]
          exact vk_getf hx hb hO.2.1 hS hown (hts _ (xa_in_tb g)) (fun x hx => hx) hdg (kk _ H locs cells slots lr hnx hL hR hS hc hs)
        · rw [if_neg (by omega), if_pos f1] at ho
          cases ho
          have e4 := kk _ H locs cells slots lr hnx hL hR hS hc hs
          rw [List.map_cons, xa_cv_C (by omega) (by omega)] at e4
          rw [List.map_cons, e3]
          exact vk_getf hx hb hO.2.2 hS hown (hts _ (xa_in_tb g)) (fun x hx => hx) hdg e4
    · cases ho
  · cases ho
theorem xa_s_putfield (C : xa_Cx G S mi X b0 ca v3 D cI cQ p R s m args meth c) (hCl : xa_ClOK) {en : xa_E} {i i1 : Nat} {ls ls1 st st1 : List xa_V} {h h1 : xa_H} {pl : List Nat} {idx : Nat} (hins : en.2.1 = .putfield idx) (hf : (G.1 mi)[i]? = some en) (hok : xa_ok G S mi i en pl = true) (ho : xa_one1 X en i ls st h = some (.inl (i1, ls1, st1, h1))) (hm : h1.length ≤ h'.length ∧ xa_sl h1 ≤ xa_sl h') (kk : xa_WW G mi b0 ca v3 D cI cQ p l e R s m args below meth c Q h' i1 ls1 st1 h1) : xa_WW G mi b0 ca v3 D cI cQ p l e R s m args below meth c Q h' i ls st h := by
  obtain ⟨pb, ins, ln, x⟩ := en
  dsimp only at hins
  subst hins
  intro pc H locs cells slots lr hat hL hR hS hc hs
  obtain ⟨hx, hb, hml, hown, hts, hF, h3, hb0, hnm, hfr, hlo⟩ := C
  simp only [xa_ok, Bool.and_eq_true] at hok
  obtain ⟨k1, k2, k3, k4⟩ := hok
  have hpc : pb = pc := xa_at_of hf hat
  subst hpc
  have hdg := xa_dec_of k1
  have hln : ln = 3 := by simpa [xa_lenOK, xa_len] using k2
  subst hln
  have hnx : xa_at G mi (i + 1) (pb + 3) = true := by simpa [xa_through] using k3
  dsimp only [xa_one1] at ho
  dsimp only at hdg
  unfold xa_putf at ho
  split at ho
  · next k0 ci k t v a st0 =>
    split at ho
    · next c2 fs e1 =>
      split at ho
      · next hq =>
        cases ho
        obtain ⟨hc2, hkl, hft⟩ := hq
        match pl, k4 with
        | [q], k4 =>
          simp only [xa_extra] at k4
          split at k4
          · next r hr =>
            simp only [Bool.and_eq_true, Bool.or_eq_true, Bool.not_eq_true', decide_eq_true_eq] at k4
            obtain ⟨g1, g2, g3, g4, g5⟩ := k4
            obtain ⟨n1, n2, n3, ty, n4, n5⟩ := hCl _ _ hr
            obtain ⟨C, T, N⟩ := r
            dsimp only at g1 g2 g3 g4 g5 n1 n2 n4
            subst hc2
            have key : narrow (ty k.toNat) (xa_cv b0 ca v3 v) = xa_cv b0 ca v3 v ∧ fits (ty k.toNat) (xa_cv b0 ca v3 v) = true := by
              have hp := n4 k.toNat g1
              rcases g5 with ⟨t0, gd⟩ | ⟨t1, gd⟩ | ⟨t2, gd⟩
              · rw [gd] at hp
                have : ty k.toNat = .int := (Option.some.inj ((show parseFieldDescriptor "I" = some .int by decide +kernel).symm.trans hp)).symm
                rw [this]
                subst t0
                match v, hft with
                | .inl z, _ => exact ⟨rfl, rfl⟩
              · rw [gd] at hp
                have : ty k.toNat = .boolean := (Option.some.inj ((show parseFieldDescriptor "Z" = some .boolean by decide +kernel).symm.trans hp)).symm
                rw [this]
                subst t1
                match v, hft with
                | .inl z, hft =>
                  have hz : z = 0 ∨ z = 1 := by simpa [xa_fit] using hft
                  rcases hz with rfl | rfl
                  · exact ⟨rfl, rfl⟩
                  · exact ⟨rfl, rfl⟩
              · subst t2
                match v, hft with
                | .inl z, hft => simp [xa_fit] at hft
                | .inr (.inr (.inl y)), _ =>
                  unfold xa_refD at gd
                  rw [hp] at gd
                  cases hty : ty k.toNat <;> rw [hty] at gd <;> first | exact ⟨rfl, rfl⟩ | simp at gd
            refine xa_put hx hb hts n1 ty n4 n2 hown hF.1 hR.2 xa_W_D hS a (xa_W_get e1) hr k.toNat g1 g2 (hts _ (xa_in_tb g3)) ?_ (n4 _ g1) key.1 key.2 (by rw [List.length_map]; exact hkl) hdg (fun H1 locs1 z1 P1 S1 => ?_)
            · rcases g4 with ⟨-, g⟩ | ⟨-, g, g', g''⟩
              · exact Or.inl g
              · exact Or.inr ⟨g, hnm.trans g', g''⟩
            · refine kk _ H1 locs1 cells slots lr hnx hL (xa_Rel_set hR ?_ z1) S1 (by rw [List.length_set]; exact hc) (by rw [xa_sl_set e1 (by simp)]; exact hs)
              rw [show xa_ce b0 ca v3 cI cQ (0, ci.toNat, fs.set k.toNat v) = .inr (ci.toNat, (fs.map (xa_cv b0 ca v3)).set k.toNat (xa_cv b0 ca v3 v)) by rw [← List.map_set]; rfl]
              exact P1
          · cases k4
      · cases ho
    · cases ho
  · cases ho
theorem xa_s_getstatic (C : xa_Cx G S mi X b0 ca v3 D cI cQ p R s m args meth c) {en : xa_E} {i i1 : Nat} {ls ls1 st st1 : List xa_V} {h h1 : xa_H} {pl : List Nat} {idx : Nat} (hins : en.2.1 = .getstatic idx) (hf : (G.1 mi)[i]? = some en) (hok : xa_ok G S mi i en pl = true) (ho : xa_one1 X en i ls st h = some (.inl (i1, ls1, st1, h1))) (hm : h1.length ≤ h'.length ∧ xa_sl h1 ≤ xa_sl h') (kk : xa_WW G mi b0 ca v3 D cI cQ p l e R s m args below meth c Q h' i1 ls1 st1 h1) : xa_WW G mi b0 ca v3 D cI cQ p l e R s m args below meth c Q h' i ls st h := by
  obtain ⟨pb, ins, ln, x⟩ := en
  dsimp only at hins
  subst hins
  intro pc H locs cells slots lr hat hL hR hS hc hs
  obtain ⟨hx, hb, hml, hown, hts, hF, h3, hb0, hnm, hfr, hlo⟩ := C
  simp only [xa_ok, Bool.and_eq_true] at hok
  obtain ⟨k1, k2, k3, k4⟩ := hok
  have hpc : pb = pc := xa_at_of hf hat
  subst hpc
  have hdg := xa_dec_of k1
  have hln : ln = 3 := by simpa [xa_lenOK, xa_len] using k2
  subst hln
  have hnx : xa_at G mi (i + 1) (pb + 3) = true := by simpa [xa_through] using k3
  dsimp only [xa_one1] at ho
  dsimp only at hdg
  have key : ∀ (q : String × (String × (String × xa_V))), q ∈ xa_st → x = xa_stx q.2.2.2 → (W p l e R s m args below meth c H locs cells slots Q (F0 m (pb + 3) lr (xa_cv b0 ca v3 q.2.2.2 :: st.map (xa_cv b0 ca v3)))) := by
    intro q hq hxq
    have hcase : ∀ q ∈ xa_st, (∃ z, q.2.2.2 = xI z) ∨ ∃ c, q.2.2.2 = xC c := by
      intro q hq
      simp only [xa_st, List.mem_cons, List.not_mem_nil, or_false] at hq
      rcases hq with rfl | rfl | rfl | rfl | rfl | rfl <;> first | exact Or.inl ⟨_, rfl⟩ | exact Or.inr ⟨_, rfl⟩
    rcases hcase q hq with ⟨z, hz⟩ | ⟨z, hz⟩
    · rw [hz] at hxq ⊢
      rw [show x = [1, z] from hxq] at ho
      cases ho
      exact kk _ H locs cells slots lr hnx hL hR hS hc hs
    · rw [hz] at hxq ⊢
      rw [show x = [0, (z : Int)] from hxq] at ho
      cases ho
      exact kk _ H locs cells slots lr hnx hL hR hS hc hs
  match pl, k4 with
  | [q, j], k4 =>
    simp only [xa_extra] at k4
    split at k4
    · next r hr =>
      simp only [Bool.and_eq_true, decide_eq_true_eq] at k4
      have hm := List.mem_of_getElem? hr
      exact va_gets hx hb (hF.2.2.2.2.1 r hm) hS hown (hts _ (xa_in_tb k4.2)) (fun x hx => hx) hdg (key r hm k4.1)
    · cases k4
  | [q, j, _], k4 =>
    simp only [xa_extra] at k4
    split at k4
    · next r hr =>
      simp only [Bool.and_eq_true, decide_eq_true_eq] at k4
      have hm := List.mem_of_getElem? hr
      exact va_getsN hx hb (hF.2.2.2.2.1 r hm) hS hown (va_Nw.use rfl (hF.2.1 _ (xa_in_nw k4.2))) (fun x hx => hx) hdg (key r hm k4.1)
    · cases k4
theorem xa_s_iaload (C : xa_Cx G S mi X b0 ca v3 D cI cQ p R s m args meth c) {en : xa_E} {i i1 : Nat} {ls ls1 st st1 : List xa_V} {h h1 : xa_H} {pl : List Nat}  (hins : en.2.1 = .iaload) (hf : (G.1 mi)[i]? = some en) (hok : xa_ok G S mi i en pl = true) (ho : xa_one1 X en i ls st h = some (.inl (i1, ls1, st1, h1))) (hm : h1.length ≤ h'.length ∧ xa_sl h1 ≤ xa_sl h') (kk : xa_WW G mi b0 ca v3 D cI cQ p l e R s m args below meth c Q h' i1 ls1 st1 h1) : xa_WW G mi b0 ca v3 D cI cQ p l e R s m args below meth c Q h' i ls st h := by
  obtain ⟨pb, ins, ln, x⟩ := en
  dsimp only at hins
  subst hins
  intro pc H locs cells slots lr hat hL hR hS hc hs
  obtain ⟨hx, hb, hml, hown, hts, hF, h3, hb0, hnm, hfr, hlo⟩ := C
  simp only [xa_ok, Bool.and_eq_true] at hok
  obtain ⟨k1, k2, k3, k4⟩ := hok
  have hpc : pb = pc := xa_at_of hf hat
  subst hpc
  have hdg := xa_dec_of k1
  have hln : ln = 1 := by simpa [xa_lenOK, xa_len] using k2
  subst hln
  have hnx : xa_at G mi (i + 1) (pb + 1) = true := by simpa [xa_through] using k3
  dsimp only [xa_one1] at ho
  dsimp only at hdg
  unfold xa_iald at ho
  split at ho
  · next j a st0 =>
    split at ho
    · next c2 xs e1 =>
      split at ho
      · next hq =>
        split at ho
        · next z hz =>
          cases ho
          obtain ⟨q1, q2, q3⟩ := hq
          have e4 := kk _ H locs cells slots lr hnx hL hR hS hc hs
          refine va_iald hx hb hF.1 hR.2 a 0 (xa_W_get e1) rfl (xa_vin q1 q2 q3) hdg ?_
          rw [xa_nat q1 q3, List.getD_eq_getElem?_getD, hz]
          exact e4
        · cases ho
      · cases ho
    · cases ho
  · next j c2 st0 =>
    split at ho
    · next xs e1 =>
      split at ho
      · next hq =>
        split at ho
        · next z hz =>
          cases ho
          obtain ⟨q1, q2, q3⟩ := hq
          have e4 := kk _ H locs cells slots lr hnx hL hR hS hc hs
          rw [List.map_cons, List.map_cons, xa_cv_C (xa_ca_ne e1).1 (xa_ca_ne e1).2]
          refine va_ti hx hb (hF.2.2.2.2.2.1 c2 xs e1) hS (xa_vin q1 q2 q3) (v := .int (Int32.ofInt z)) ?_ hdg e4
          rw [xa_nat q1 q3, List.getD_eq_getElem?_getD, hz]
          rfl
        · cases ho
      · cases ho
    · cases ho
  · cases ho
theorem xa_s_baload (C : xa_Cx G S mi X b0 ca v3 D cI cQ p R s m args meth c) {en : xa_E} {i i1 : Nat} {ls ls1 st st1 : List xa_V} {h h1 : xa_H} {pl : List Nat}  (hins : en.2.1 = .baload) (hf : (G.1 mi)[i]? = some en) (hok : xa_ok G S mi i en pl = true) (ho : xa_one1 X en i ls st h = some (.inl (i1, ls1, st1, h1))) (hm : h1.length ≤ h'.length ∧ xa_sl h1 ≤ xa_sl h') (kk : xa_WW G mi b0 ca v3 D cI cQ p l e R s m args below meth c Q h' i1 ls1 st1 h1) : xa_WW G mi b0 ca v3 D cI cQ p l e R s m args below meth c Q h' i ls st h := by
  obtain ⟨pb, ins, ln, x⟩ := en
  dsimp only at hins
  subst hins
  intro pc H locs cells slots lr hat hL hR hS hc hs
  obtain ⟨hx, hb, hml, hown, hts, hF, h3, hb0, hnm, hfr, hlo⟩ := C
  simp only [xa_ok, Bool.and_eq_true] at hok
  obtain ⟨k1, k2, k3, k4⟩ := hok
  have hpc : pb = pc := xa_at_of hf hat
  subst hpc
  have hdg := xa_dec_of k1
  have hln : ln = 1 := by simpa [xa_lenOK, xa_len] using k2
  subst hln
  have hnx : xa_at G mi (i + 1) (pb + 1) = true := by simpa [xa_through] using k3
  dsimp only [xa_one1] at ho
  dsimp only at hdg
  unfold xa_bald at ho
  split at ho
  · next j c2 st0 =>
    split at ho
    · next xs e1 =>
      split at ho
      · next hq =>
        split at ho
        · next z hz =>
          cases ho
          obtain ⟨q1, q2, q3⟩ := hq
          have e4 := kk _ H locs cells slots lr hnx hL hR hS hc hs
          rw [List.map_cons, List.map_cons, xa_cv_C (xa_cb_ne e1).1 (xa_cb_ne e1).2]
          refine va_tb hx hb (hF.2.2.2.2.2.2.1 c2 xs e1) hS (xa_vin q1 q2 q3) (v := .int (Int32.ofInt z)) ?_ hdg e4
          rw [xa_nat q1 q3, List.getD_eq_getElem?_getD, hz]
          rfl
        · cases ho
      · cases ho
    · cases ho
  · cases ho
theorem xa_s_iastore (C : xa_Cx G S mi X b0 ca v3 D cI cQ p R s m args meth c) {en : xa_E} {i i1 : Nat} {ls ls1 st st1 : List xa_V} {h h1 : xa_H} {pl : List Nat}  (hins : en.2.1 = .iastore) (hf : (G.1 mi)[i]? = some en) (hok : xa_ok G S mi i en pl = true) (ho : xa_one1 X en i ls st h = some (.inl (i1, ls1, st1, h1))) (hm : h1.length ≤ h'.length ∧ xa_sl h1 ≤ xa_sl h') (kk : xa_WW G mi b0 ca v3 D cI cQ p l e R s m args below meth c Q h' i1 ls1 st1 h1) : xa_WW G mi b0 ca v3 D cI cQ p l e R s m args below meth c Q h' i ls st h := by
  obtain ⟨pb, ins, ln, x⟩ := en
  dsimp only at hins
  subst hins
  intro pc H locs cells slots lr hat hL hR hS hc hs
  obtain ⟨hx, hb, hml, hown, hts, hF, h3, hb0, hnm, hfr, hlo⟩ := C
  simp only [xa_ok, Bool.and_eq_true] at hok
  obtain ⟨k1, k2, k3, k4⟩ := hok
  have hpc : pb = pc := xa_at_of hf hat
  subst hpc
  have hdg := xa_dec_of k1
  have hln : ln = 1 := by simpa [xa_lenOK, xa_len] using k2
  subst hln
  have hnx : xa_at G mi (i + 1) (pb + 1) = true := by simpa [xa_through] using k3
  dsimp only [xa_one1] at ho
  dsimp only at hdg
  unfold xa_iast at ho
  split at ho
  · next z j a st0 =>
    split at ho
    · next c2 xs e1 =>
      split at ho
      · next hq =>
        cases ho
        obtain ⟨q1, q2, q3⟩ := hq
        have hA := hR.2 a _ (xa_W_get e1)
        have hin := xa_vin q1 q2 q3
        refine W.iast hx hb hA ((hF.1.2 0 _ rfl).1 xs.length (fun k => .int (xa_iv (xs.getD k (xC 0))))) (fun q => by cases q) (by show ¬ (_ ∨ (arrV _ _ _).slots.size ≤ _); rw [arrV_size]; exact hin) rfl rfl hdg fun H1 e5 z1 oq => ?_
        have e6 : xa_ce b0 ca v3 cI cQ (1, c2, xs.set j.toNat (xI z)) = .inl (cI, xs.length, .inl (upd (fun k => xa_iv (xs.getD k (xC 0))) j.toNat (Int32.ofInt z))) := by
          show (Sum.inl (cI, (xs.set j.toNat (xI z)).length, Sum.inl (fun k => xa_iv ((xs.set j.toNat (xI z)).getD k (xC 0)))) : va_E) = _
          rw [List.length_set]
          congr 4
          funext k
          unfold upd
          by_cases hk : k = j.toNat
          · subst hk
            rw [if_pos rfl, List.getD_eq_getElem?_getD, List.getElem?_set_self (by omega)]
            rfl
          · rw [if_neg hk, List.getD_eq_getElem?_getD, List.getElem?_set_ne (by omega)]
            show _ = _
            dsimp only
            rw [List.getD_eq_getElem?_getD]
        refine kk _ H1 _ cells slots lr hnx hL (xa_Rel_set hR ?_ z1) (hS.put z1 oq (Nat.le_add_right b0 a)) (by rw [List.length_set]; exact hc) (by rw [xa_sl_set e1 (by simp)]; exact hs)
        rw [e6]
        refine hR.2.set xa_W_D (xa_W_get e1) ?_ oq
        show H1[b0 + a]? = some (vp_cell _ _)
        rw [e5, xa_nat q1 q3]
        show some ((arrV cI xs.length (fun k => .int (xa_iv (xs.getD k (xC 0))))).setSlot j.toNat (.int (Int32.ofInt z))) = some (arrV cI xs.length (fun k => .int (upd (fun k => xa_iv (xs.getD k (xC 0))) j.toNat (Int32.ofInt z) k)))
        rw [arrV_store]
        congr 2
        funext k
        unfold updV upd
        by_cases hk : k = j.toNat
        · rw [if_pos hk, if_pos hk]
        · rw [if_neg hk, if_neg hk]
      · cases ho
    · cases ho
  · cases ho
theorem xa_s_aaload (C : xa_Cx G S mi X b0 ca v3 D cI cQ p R s m args meth c) {en : xa_E} {i i1 : Nat} {ls ls1 st st1 : List xa_V} {h h1 : xa_H} {pl : List Nat}  (hins : en.2.1 = .aaload) (hf : (G.1 mi)[i]? = some en) (hok : xa_ok G S mi i en pl = true) (ho : xa_one1 X en i ls st h = some (.inl (i1, ls1, st1, h1))) (hm : h1.length ≤ h'.length ∧ xa_sl h1 ≤ xa_sl h') (kk : xa_WW G mi b0 ca v3 D cI cQ p l e R s m args below meth c Q h' i1 ls1 st1 h1) : xa_WW G mi b0 ca v3 D cI cQ p l e R s m args below meth c Q h' i ls st h := by
  obtain ⟨pb, ins, ln, x⟩ := en
  dsimp only at hins
  subst hins
  intro pc H locs cells slots lr hat hL hR hS hc hs
  obtain ⟨hx, hb, hml, hown, hts, hF, h3, hb0, hnm, hfr, hlo⟩ := C
  simp only [xa_ok, Bool.and_eq_true] at hok
  obtain ⟨k1, k2, k3, k4⟩ := hok
  have hpc : pb = pc := xa_at_of hf hat
  subst hpc
  have hdg := xa_dec_of k1
  have hln : ln = 1 := by simpa [xa_lenOK, xa_len] using k2
  subst hln
  have hnx : xa_at G mi (i + 1) (pb + 1) = true := by simpa [xa_through] using k3
  dsimp only [xa_one1] at ho
  dsimp only at hdg
  unfold xa_aald at ho
  split at ho
  · next j a st0 =>
    split at ho
    · next c2 xs e1 =>
      split at ho
      · next hq =>
        split at ho
        · next b hz =>
          cases ho
          obtain ⟨q0, q1, q2, q3⟩ := hq
          have e4 := kk _ H locs cells slots lr hnx hL hR hS hc hs
          have e5 : va_rf ((fun k => xa_ri b0 (xs.getD k (xC 0))) (Int32.ofInt j).toNatClampNeg) = .ref (b0 + b) := by
            dsimp only
            rw [xa_nat q1 q3, List.getD_eq_getElem?_getD, hz]
            rfl
          rcases q0 with rfl | rfl | rfl
          · refine va_aldq hx hb hF.1 hR.2 a 1 (xa_W_get e1) rfl (xa_vin q1 q2 q3) hdg ?_
            rw [e5]
            exact e4
          · refine va_aldq hx hb hF.1 hR.2 a 2 (xa_W_get e1) rfl (xa_vin q1 q2 q3) hdg ?_
            rw [e5]
            exact e4
          · refine va_aldq hx hb hF.1 hR.2 a 3 (xa_W_get e1) rfl (xa_vin q1 q2 q3) hdg ?_
            rw [e5]
            exact e4
        · cases ho
      · cases ho
    · cases ho
  · cases ho
theorem xa_s_aastore (C : xa_Cx G S mi X b0 ca v3 D cI cQ p R s m args meth c) {en : xa_E} {i i1 : Nat} {ls ls1 st st1 : List xa_V} {h h1 : xa_H} {pl : List Nat}  (hins : en.2.1 = .aastore) (hf : (G.1 mi)[i]? = some en) (hok : xa_ok G S mi i en pl = true) (ho : xa_one1 X en i ls st h = some (.inl (i1, ls1, st1, h1))) (hm : h1.length ≤ h'.length ∧ xa_sl h1 ≤ xa_sl h') (kk : xa_WW G mi b0 ca v3 D cI cQ p l e R s m args below meth c Q h' i1 ls1 st1 h1) : xa_WW G mi b0 ca v3 D cI cQ p l e R s m args below meth c Q h' i ls st h := by
  obtain ⟨pb, ins, ln, x⟩ := en
  dsimp only at hins
  subst hins
  intro pc H locs cells slots lr hat hL hR hS hc hs
  obtain ⟨hx, hb, hml, hown, hts, hF, h3, hb0, hnm, hfr, hlo⟩ := C
  simp only [xa_ok, Bool.and_eq_true] at hok
  obtain ⟨k1, k2, k3, k4⟩ := hok
  have hpc : pb = pc := xa_at_of hf hat
  subst hpc
  have hdg := xa_dec_of k1
  have hln : ln = 1 := by simpa [xa_lenOK, xa_len] using k2
  subst hln
  have hnx : xa_at G mi (i + 1) (pb + 1) = true := by simpa [xa_through] using k3
  dsimp only [xa_one1] at ho
  dsimp only at hdg
  unfold xa_aast at ho
  split at ho
  · next b j a st0 =>
    split at ho
    · next c2 xs c3 fs e1 e2 =>
      split at ho
      · next hq =>
        cases ho
        obtain ⟨q00, q0, qab, q1, q2, q3⟩ := hq
        subst q00
        have hA := hR.2 a _ (xa_W_get e1)
        obtain ⟨r', hr', cellV, g1, g2, g3, -⟩ := hR.2 b _ (xa_W_get e2)
        have hin := xa_vin q1 q2 q3
        have hK2 : ∃ C T N, xb_cl[c3]? = some (C, T, N) ∧ va_RA s (cQ c3) (.object C) := by
          rcases q0 with rfl | rfl | rfl
          · exact ⟨_, _, _, rfl, (hF.1.2 1 _ rfl).2⟩
          · exact ⟨_, _, _, rfl, (hF.1.2 2 _ rfl).2⟩
          · exact ⟨_, _, _, rfl, (hF.1.2 3 _ rfl).2⟩
        obtain ⟨C, T, N, hcl, kA, comp, k5, k6, k7, -⟩ := hK2
        have hcls := (hF.1.1 c3 _ hcl).2
        have hcomp : comp = D.1 c3 := Option.some.inj (k7.symm.trans hcls.1)
        subst hcomp
        obtain ⟨kC, hkC, -⟩ := hcls.2
        refine W.aast hx hb hA (fun q h => by cases h) (fun h => by cases h) k5 k6 rfl hkC ⟨fun q => hin (Or.inl q), by show _ < (arrV _ _ _).slots.size; rw [arrV_size]; exact Nat.not_le.mp fun q => hin (Or.inr q)⟩ g1 (fun q h => by rw [g3] at h; cases h) (by rw [g2]; exact hkC) (by rw [g2]; exact va_assign hcls) rfl rfl hdg fun H1 e5 z1 oq => ?_
        have e6 : xa_ce b0 ca v3 cI cQ (2, c3, xs.set j.toNat (xR b)) = .inl (cQ c3, xs.length, .inr (.inr (.inr (.inr (va_up (fun k => xa_ri b0 (xs.getD k (xC 0))) j.toNat (some (b0 + b))))))) := by
          show (Sum.inl (cQ c3, (xs.set j.toNat (xR b)).length, Sum.inr (Sum.inr (Sum.inr (Sum.inr (fun k => xa_ri b0 ((xs.set j.toNat (xR b)).getD k (xC 0))))))) : va_E) = _
          rw [List.length_set]
          congr 7
          funext k
          unfold va_up
          by_cases hk : k = j.toNat
          · subst hk
            rw [if_pos rfl, List.getD_eq_getElem?_getD, List.getElem?_set_self (by omega)]
            rfl
          · rw [if_neg hk, List.getD_eq_getElem?_getD, List.getElem?_set_ne (by omega)]
            show _ = _
            dsimp only
            rw [List.getD_eq_getElem?_getD]
        refine kk _ H1 _ cells slots lr hnx hL (xa_Rel_set hR ?_ z1) (hS.put z1 oq (Nat.le_add_right b0 a)) (by rw [List.length_set]; exact hc) (by rw [xa_sl_set e1 (by simp)]; exact hs)
        rw [e6]
        refine hR.2.set xa_W_D (xa_W_get e1) ?_ oq
        show H1[b0 + a]? = some (vp_cell _ _)
        rw [e5, xa_nat q1 q3]
        show some ((arrV (cQ c3) xs.length (fun k => va_rf (xa_ri b0 (xs.getD k (xC 0))))).setSlot j.toNat (.ref (b0 + b))) = some (arrV (cQ c3) xs.length (fun k => va_rf (va_up (fun k => xa_ri b0 (xs.getD k (xC 0))) j.toNat (some (b0 + b)) k)))
        rw [arrV_store]
        congr 2
        funext k
        unfold updV va_up
        by_cases hk : k = j.toNat
        · rw [if_pos hk, if_pos hk]
          rfl
        · rw [if_neg hk, if_neg hk]
      · cases ho
    · cases ho
  · cases ho
theorem xa_s_arraylength (C : xa_Cx G S mi X b0 ca v3 D cI cQ p R s m args meth c) {en : xa_E} {i i1 : Nat} {ls ls1 st st1 : List xa_V} {h h1 : xa_H} {pl : List Nat}  (hins : en.2.1 = .arraylength) (hf : (G.1 mi)[i]? = some en) (hok : xa_ok G S mi i en pl = true) (ho : xa_one1 X en i ls st h = some (.inl (i1, ls1, st1, h1))) (hm : h1.length ≤ h'.length ∧ xa_sl h1 ≤ xa_sl h') (kk : xa_WW G mi b0 ca v3 D cI cQ p l e R s m args below meth c Q h' i1 ls1 st1 h1) : xa_WW G mi b0 ca v3 D cI cQ p l e R s m args below meth c Q h' i ls st h := by
  obtain ⟨pb, ins, ln, x⟩ := en
  dsimp only at hins
  subst hins
  intro pc H locs cells slots lr hat hL hR hS hc hs
  obtain ⟨hx, hb, hml, hown, hts, hF, h3, hb0, hnm, hfr, hlo⟩ := C
  simp only [xa_ok, Bool.and_eq_true] at hok
  obtain ⟨k1, k2, k3, k4⟩ := hok
  have hpc : pb = pc := xa_at_of hf hat
  subst hpc
  have hdg := xa_dec_of k1
  have hln : ln = 1 := by simpa [xa_lenOK, xa_len] using k2
  subst hln
  have hnx : xa_at G mi (i + 1) (pb + 1) = true := by simpa [xa_through] using k3
  dsimp only [xa_one1] at ho
  dsimp only at hdg
  unfold xa_alen at ho
  split at ho
  · next a st0 =>
    split at ho
    · next c2 xs e1 =>
      split at ho
      · next hq =>
        cases ho
        have e4 := kk _ H locs cells slots lr hnx hL hR hS hc hs
        exact va_alen hx hb hF.1 hR.2 a 0 (xa_W_get e1) rfl rfl hdg e4
      · cases ho
    · cases ho
  · next c2 st0 =>
    split at ho
    · next xs e1 =>
      cases ho
      have e4 := kk _ H locs cells slots lr hnx hL hR hS hc hs
      rw [List.map_cons, xa_cv_C (xa_ca_ne e1).1 (xa_ca_ne e1).2]
      exact va_tlen hx hb (hF.2.2.2.2.2.1 c2 xs e1) hS rfl hdg e4
    · split at ho
      · next xs e1 =>
        cases ho
        have e4 := kk _ H locs cells slots lr hnx hL hR hS hc hs
        rw [List.map_cons, xa_cv_C (xa_cb_ne e1).1 (xa_cb_ne e1).2]
        exact va_tlen hx hb (hF.2.2.2.2.2.2.1 c2 xs e1) hS rfl hdg e4
      · cases ho
  · cases ho
theorem xa_s_new (C : xa_Cx G S mi X b0 ca v3 D cI cQ p R s m args meth c) (hCl : xa_ClOK) {en : xa_E} {i i1 : Nat} {ls ls1 st st1 : List xa_V} {h h1 : xa_H} {pl : List Nat} {idx : Nat} (hins : en.2.1 = .new idx) (hf : (G.1 mi)[i]? = some en) (hok : xa_ok G S mi i en pl = true) (ho : xa_one1 X en i ls st h = some (.inl (i1, ls1, st1, h1))) (hm : h1.length ≤ h'.length ∧ xa_sl h1 ≤ xa_sl h') (kk : xa_WW G mi b0 ca v3 D cI cQ p l e R s m args below meth c Q h' i1 ls1 st1 h1) : xa_WW G mi b0 ca v3 D cI cQ p l e R s m args below meth c Q h' i ls st h := by
  obtain ⟨pb, ins, ln, x⟩ := en
  dsimp only at hins
  subst hins
  intro pc H locs cells slots lr hat hL hR hS hc hs
  obtain ⟨hx, hb, hml, hown, hts, hF, h3, hb0, hnm, hfr, hlo⟩ := C
  simp only [xa_ok, Bool.and_eq_true] at hok
  obtain ⟨k1, k2, k3, k4⟩ := hok
  have hpc : pb = pc := xa_at_of hf hat
  subst hpc
  have hdg := xa_dec_of k1
  have hln : ln = 3 := by simpa [xa_lenOK, xa_len] using k2
  subst hln
  have hnx : xa_at G mi (i + 1) (pb + 3) = true := by simpa [xa_through] using k3
  dsimp only [xa_one1] at ho
  dsimp only at hdg
  unfold xa_new at ho
  split at ho
  · next ci =>
    cases ho
    rw [List.length_append, List.length_singleton] at hm
    have hsl : xa_sl (h ++ [(0, ci.toNat, xa_nf ci.toNat)]) = xa_sl h + (xa_nf ci.toNat).length := by simp [xa_sl]
    rw [hsl] at hm
    match pl, k4 with
    | [q1, q2, q3], k4 =>
      simp only [xa_extra] at k4
      split at k4
      · next r hr =>
        simp only [Bool.and_eq_true] at k4
        obtain ⟨g1, g2, g3⟩ := k4
        obtain ⟨n1, n2, n3, ty, n4, n5⟩ := hCl _ _ hr
        obtain ⟨C, T, N⟩ := r
        dsimp only at g1 g2 g3 n1 n3 n4 n5
        have hKn := hF.1.1 _ _ hr
        refine W.newcK hx hb hown (hts _ (xa_in_tb g1)) (hts _ (xa_in_tb g2)) (hts _ (xa_in_tb g3)) rfl hdg (by omega) (by omega) hKn.2.1 hR.1 fun H1 kC hkC e1 z1 o1 => ?_
        have hk : ∀ (k : Nat) (x : Nat × va_E), (xa_W b0 ca v3 cI cQ h)[k]? = some x → H1[x.1]? = H[x.1]? := fun k x hx => o1 x.1 (by rw [← hR.1]; exact (hR.2 k x hx).lt)
        refine kk _ H1 locs (cells + 1) (slots + N) lr hnx hL ⟨by rw [z1, List.length_append, List.length_singleton]; omega, ?_⟩ ⟨Nat.le_trans hS.1 (by have := hR.1; omega), fun x h1 h2 => (o1 x (by have := hS.1; have := hR.1; omega)).trans (hS.2.1 x h1 h2), hS.2.2⟩ (by rw [List.length_append, List.length_singleton]; omega) (by rw [hsl, n3]; omega)
        rw [xa_W_push]
        refine (hR.2.kept hk).app (fun k x hx => ?_)
        have hz : k < 1 := (List.getElem?_eq_some_iff.mp hx).1
        rw [show k = 0 by omega] at hx
        cases hx
        exact ⟨_, hr, (u_born ty hts n1 hKn hkC e1 n4).to (n5 b0 ca v3)⟩
      · cases k4
  · cases ho
theorem xa_s_newarray (C : xa_Cx G S mi X b0 ca v3 D cI cQ p R s m args meth c) {en : xa_E} {i i1 : Nat} {ls ls1 st st1 : List xa_V} {h h1 : xa_H} {pl : List Nat} {aty : Jvm.ClassFile.ArrayType} (hins : en.2.1 = .newarray aty) (hf : (G.1 mi)[i]? = some en) (hok : xa_ok G S mi i en pl = true) (ho : xa_one1 X en i ls st h = some (.inl (i1, ls1, st1, h1))) (hm : h1.length ≤ h'.length ∧ xa_sl h1 ≤ xa_sl h') (kk : xa_WW G mi b0 ca v3 D cI cQ p l e R s m args below meth c Q h' i1 ls1 st1 h1) : xa_WW G mi b0 ca v3 D cI cQ p l e R s m args below meth c Q h' i ls st h := by
  obtain ⟨pb, ins, ln, x⟩ := en
  dsimp only at hins
  subst hins
  intro pc H locs cells slots lr hat hL hR hS hc hs
  obtain ⟨hx, hb, hml, hown, hts, hF, h3, hb0, hnm, hfr, hlo⟩ := C
  simp only [xa_ok, Bool.and_eq_true] at hok
  obtain ⟨k1, k2, k3, k4⟩ := hok
  have hpc : pb = pc := xa_at_of hf hat
  subst hpc
  have hdg := xa_dec_of k1
  have hln : ln = 2 := by simpa [xa_lenOK, xa_len] using k2
  subst hln
  have hnx : xa_at G mi (i + 1) (pb + 2) = true := by simpa [xa_through] using k3
  dsimp only [xa_one1] at ho
  dsimp only at hdg
  unfold xa_newi at ho
  split at ho
  · next n st0 =>
    split at ho
    · next hq =>
      cases ho
      rw [List.length_append, List.length_singleton] at hm
      have hsl : xa_sl (h ++ [(1, 0, List.replicate n.toNat (xI 0))]) = xa_sl h + n.toNat := by simp [xa_sl]
      rw [hsl] at hm
      match pl, k4 with
      | [q1], k4 =>
        simp only [xa_extra, Bool.and_eq_true, decide_eq_true_eq] at k4
        obtain ⟨g1, g2⟩ := k4
        subst g1
        refine va_newaK hx hb (hts _ (xa_in_tb g2)) rfl hdg rfl (fun q => by have := (xa_ilt (b := 0) ⟨by omega, by omega⟩ xa_r0).mp q; omega) (xa_nat hq.1 (by omega)) (by show n.toNat * 4 ≤ 536870912; omega) (by omega) (by omega) hR.1 fun H1 cA e1 z1 o1 hAr hNm => ?_
        have hcA : cA = cI := Option.some.inj (hNm.symm.trans (hF.1.2 0 _ rfl).2)
        subst hcA
        have hk : ∀ (k : Nat) (x : Nat × va_E), (xa_W b0 ca v3 cA cQ h)[k]? = some x → H1[x.1]? = H[x.1]? := fun k x hx => o1 x.1 (by rw [← hR.1]; exact (hR.2 k x hx).lt)
        refine kk _ H1 locs (cells + 1) (slots + n.toNat) lr hnx hL ⟨by rw [z1, List.length_append, List.length_singleton]; omega, ?_⟩ ⟨Nat.le_trans hS.1 (by have := hR.1; omega), fun x h1 h2 => (o1 x (by have := hS.1; have := hR.1; omega)).trans (hS.2.1 x h1 h2), hS.2.2⟩ (by rw [List.length_append, List.length_singleton]; omega) (by rw [hsl]; omega)
        rw [xa_W_push]
        refine (hR.2.kept hk).app (fun k x hx => ?_)
        have hz : k < 1 := (List.getElem?_eq_some_iff.mp hx).1
        rw [show k = 0 by omega] at hx
        cases hx
        show H1[b0 + h.length]? = some (vp_cell _ _)
        rw [e1, vp_cell_i]
        congr 2
        · simp
        · funext j
          show Value.int 0 = _
          rw [List.getD_eq_getElem?_getD, List.getElem?_replicate]
          split <;> rfl
    · cases ho
  · cases ho
theorem xa_s_anewarray (C : xa_Cx G S mi X b0 ca v3 D cI cQ p R s m args meth c) {en : xa_E} {i i1 : Nat} {ls ls1 st st1 : List xa_V} {h h1 : xa_H} {pl : List Nat} {idx : Nat} (hins : en.2.1 = .anewarray idx) (hf : (G.1 mi)[i]? = some en) (hok : xa_ok G S mi i en pl = true) (ho : xa_one1 X en i ls st h = some (.inl (i1, ls1, st1, h1))) (hm : h1.length ≤ h'.length ∧ xa_sl h1 ≤ xa_sl h') (kk : xa_WW G mi b0 ca v3 D cI cQ p l e R s m args below meth c Q h' i1 ls1 st1 h1) : xa_WW G mi b0 ca v3 D cI cQ p l e R s m args below meth c Q h' i ls st h := by
  obtain ⟨pb, ins, ln, x⟩ := en
  dsimp only at hins
  subst hins
  intro pc H locs cells slots lr hat hL hR hS hc hs
  obtain ⟨hx, hb, hml, hown, hts, hF, h3, hb0, hnm, hfr, hlo⟩ := C
  simp only [xa_ok, Bool.and_eq_true] at hok
  obtain ⟨k1, k2, k3, k4⟩ := hok
  have hpc : pb = pc := xa_at_of hf hat
  subst hpc
  have hdg := xa_dec_of k1
  have hln : ln = 3 := by simpa [xa_lenOK, xa_len] using k2
  subst hln
  have hnx : xa_at G mi (i + 1) (pb + 3) = true := by simpa [xa_through] using k3
  dsimp only [xa_one1] at ho
  dsimp only at hdg
  unfold xa_newq at ho
  split at ho
  · next ci n st0 =>
    split at ho
    · next hq =>
      cases ho
      rw [List.length_append, List.length_singleton] at hm
      have hsl : xa_sl (h ++ [(2, ci.toNat, List.replicate n.toNat (xC 0))]) = xa_sl h + n.toNat := by simp [xa_sl]
      rw [hsl] at hm
      match pl, k4 with
      | [q1], k4 =>
        simp only [xa_extra] at k4
        split at k4
        · next r hr =>
          simp only [Bool.and_eq_true, decide_eq_true_eq] at k4
          obtain ⟨g0, g1, g2⟩ := k4
          obtain ⟨C, T, N⟩ := r
          dsimp only at g1 g2
          have hK2 : va_RA s (cQ ci.toNat) (.object C) := by
            rcases g0 with rfl | rfl | rfl
            · cases hr; exact (hF.1.2 1 _ rfl).2
            · cases hr; exact (hF.1.2 2 _ rfl).2
            · cases hr; exact (hF.1.2 3 _ rfl).2
          have hnn : (Int32.ofInt n).toNatClampNeg = n.toNat := xa_nat hq.1 (by omega)
          refine W.anew hx hb hown (hts _ (xa_in_tb g2)) (va_AO.use (hF.2.2.1 _ g1)) rfl hdg rfl (fun q => by have := (xa_ilt (b := 0) ⟨by omega, by omega⟩ xa_r0).mp q; omega) (by rw [hnn]; omega) (by omega) (by rw [hnn]; omega) fun cA kA comp f1 f2 f3 f4 => ?_
          rw [hnn, hR.1]
          obtain ⟨kA2, comp2, j1, j2, j3, j4⟩ := hK2
          have hcA : cA = cQ ci.toNat := Option.some.inj (f1.symm.trans j4)
          subst hcA
          generalize hH1 : H.push ({ cls := cQ ci.toNat, slots := Array.replicate n.toNat .null, vm := .none } : Cell) = H1
          have z1 : H1.size = H.size + 1 := by rw [← hH1, Array.size_push]
          have e1 : H1[b0 + h.length]? = some (arrV (cQ ci.toNat) n.toNat (fun _ => .null)) := by rw [← hH1, ← hR.1, Array.getElem?_push_size, ← arrV_new]
          have o1 : ∀ q : Nat, q < H.size → H1[q]? = H[q]? := fun q hq => by rw [← hH1, Array.getElem?_push, if_neg (Nat.ne_of_lt hq)]
          have hk : ∀ (k : Nat) (x : Nat × va_E), (xa_W b0 ca v3 cI cQ h)[k]? = some x → H1[x.1]? = H[x.1]? := fun k x hx => o1 x.1 (hR.2 k x hx).lt
          refine kk _ H1 locs (cells + 1) (slots + n.toNat) lr hnx hL ⟨by rw [z1, List.length_append, List.length_singleton, hR.1]; omega, ?_⟩ ⟨Nat.le_trans hS.1 (by omega), fun x h1 h2 => (o1 x (by have := hS.1; omega)).trans (hS.2.1 x h1 h2), hS.2.2⟩ (by rw [List.length_append, List.length_singleton]; omega) (by rw [hsl]; omega)
          rw [xa_W_push]
          refine (hR.2.kept hk).app (fun k x hx => ?_)
          have hz : k < 1 := (List.getElem?_eq_some_iff.mp hx).1
          rw [show k = 0 by omega] at hx
          cases hx
          show H1[b0 + h.length]? = some (vp_cell _ _)
          rw [e1, vp_cell_q]
          congr 2
          · simp
          · funext j
            rw [List.getD_eq_getElem?_getD, List.getElem?_replicate]
            split <;> rfl
        · cases k4
    · cases ho
  · cases ho
end XS
end
section
/-! CALLS OF THE JDK'S OWN; what a heap keeps -/
def xa_Gr (h h1 : xa_H) : Prop := h.length ≤ h1.length ∧ xa_sl h ≤ xa_sl h1
theorem xa_Gr_rf {h : xa_H} : xa_Gr h h := ⟨Nat.le_refl _, Nat.le_refl _⟩
theorem xa_Gr_set {h : xa_H} {k : Nat} {a b : xa_K} (e : h[k]? = some a) (hl : b.2.2.length = a.2.2.length) : xa_Gr h (h.set k b) := ⟨by rw [List.length_set]; exact Nat.le_refl _, by rw [xa_sl_set e hl]; exact Nat.le_refl _⟩
theorem xa_Gr_push {h : xa_H} {b : xa_K} : xa_Gr h (h ++ [b]) := ⟨by rw [List.length_append]; omega, by unfold xa_sl; rw [List.map_append, List.sum_append]; omega⟩
section XG
variable {i i1 : Nat} {ls ls1 st st1 : List xa_V} {h h1 : xa_H} {x : List Int} {X : List Int} {k : Nat} {cd : Jvm.ClassFile.Cond} {f : Int → Int → Int} {g : Int → Int} {lo hi : Int}
theorem xa_gr_aload (ho : xa_aload i ls st h k = some (.inl (i1, ls1, st1, h1))) : xa_Gr h h1 := by
  unfold xa_aload at ho
  repeat' split at ho
  all_goals first | (cases ho; exact xa_Gr_rf) | cases ho
theorem xa_gr_iload (ho : xa_iload i ls st h k = some (.inl (i1, ls1, st1, h1))) : xa_Gr h h1 := by
  unfold xa_iload at ho
  repeat' split at ho
  all_goals first | (cases ho; exact xa_Gr_rf) | cases ho
theorem xa_gr_lload (ho : xa_lload i ls st h k = some (.inl (i1, ls1, st1, h1))) : xa_Gr h h1 := by
  unfold xa_lload at ho
  repeat' split at ho
  all_goals first | (cases ho; exact xa_Gr_rf) | cases ho
theorem xa_gr_astore (ho : xa_astore i ls st h k = some (.inl (i1, ls1, st1, h1))) : xa_Gr h h1 := by
  unfold xa_astore at ho
  repeat' split at ho
  all_goals first | (cases ho; exact xa_Gr_rf) | cases ho
theorem xa_gr_istore (ho : xa_istore i ls st h k = some (.inl (i1, ls1, st1, h1))) : xa_Gr h h1 := by
  unfold xa_istore at ho
  repeat' split at ho
  all_goals first | (cases ho; exact xa_Gr_rf) | cases ho
theorem xa_gr_lstore (ho : xa_lstore i ls st h k = some (.inl (i1, ls1, st1, h1))) : xa_Gr h h1 := by
  unfold xa_lstore at ho
  repeat' split at ho
  all_goals first | (cases ho; exact xa_Gr_rf) | cases ho
theorem xa_gr_two (ho : xa_two f i ls st h = some (.inl (i1, ls1, st1, h1))) : xa_Gr h h1 := by
  unfold xa_two at ho
  repeat' split at ho
  all_goals first | (cases ho; exact xa_Gr_rf) | cases ho
theorem xa_gr_div (ho : xa_div f i ls st h = some (.inl (i1, ls1, st1, h1))) : xa_Gr h h1 := by
  unfold xa_div at ho
  repeat' split at ho
  all_goals first | (cases ho; exact xa_Gr_rf) | cases ho
theorem xa_gr_two64 (ho : xa_two64 f i ls st h = some (.inl (i1, ls1, st1, h1))) : xa_Gr h h1 := by
  unfold xa_two64 at ho
  repeat' split at ho
  all_goals first | (cases ho; exact xa_Gr_rf) | cases ho
theorem xa_gr_one (ho : xa_one g i ls st h = some (.inl (i1, ls1, st1, h1))) : xa_Gr h h1 := by
  unfold xa_one at ho
  repeat' split at ho
  all_goals first | (cases ho; exact xa_Gr_rf) | cases ho
theorem xa_gr_if2 (ho : xa_if2 cd x i ls st h = some (.inl (i1, ls1, st1, h1))) : xa_Gr h h1 := by
  unfold xa_if2 at ho
  repeat' split at ho
  all_goals first | (cases ho; exact xa_Gr_rf) | cases ho
theorem xa_gr_if1 (ho : xa_if1 cd x i ls st h = some (.inl (i1, ls1, st1, h1))) : xa_Gr h h1 := by
  unfold xa_if1 at ho
  repeat' split at ho
  all_goals first | (cases ho; exact xa_Gr_rf) | cases ho
theorem xa_gr_getf (ho : xa_getf x i ls st h = some (.inl (i1, ls1, st1, h1))) : xa_Gr h h1 := by
  unfold xa_getf at ho
  repeat' split at ho
  all_goals first | (cases ho; exact xa_Gr_rf) | cases ho
theorem xa_gr_gets (ho : xa_gets x i ls st h = some (.inl (i1, ls1, st1, h1))) : xa_Gr h h1 := by
  unfold xa_gets at ho
  repeat' split at ho
  all_goals first | (cases ho; exact xa_Gr_rf) | cases ho
theorem xa_gr_iald (ho : xa_iald X i ls st h = some (.inl (i1, ls1, st1, h1))) : xa_Gr h h1 := by
  unfold xa_iald at ho
  repeat' split at ho
  all_goals first | (cases ho; exact xa_Gr_rf) | cases ho
theorem xa_gr_bald (ho : xa_bald i ls st h = some (.inl (i1, ls1, st1, h1))) : xa_Gr h h1 := by
  unfold xa_bald at ho
  repeat' split at ho
  all_goals first | (cases ho; exact xa_Gr_rf) | cases ho
theorem xa_gr_aald (ho : xa_aald i ls st h = some (.inl (i1, ls1, st1, h1))) : xa_Gr h h1 := by
  unfold xa_aald at ho
  repeat' split at ho
  all_goals first | (cases ho; exact xa_Gr_rf) | cases ho
theorem xa_gr_alen (ho : xa_alen X i ls st h = some (.inl (i1, ls1, st1, h1))) : xa_Gr h h1 := by
  unfold xa_alen at ho
  repeat' split at ho
  all_goals first | (cases ho; exact xa_Gr_rf) | cases ho
theorem xa_gr_ldc (ho : xa_ldc x i ls st h = some (.inl (i1, ls1, st1, h1))) : xa_Gr h h1 := by
  unfold xa_ldc at ho
  repeat' split at ho
  all_goals first | (cases ho; exact xa_Gr_rf) | cases ho
theorem xa_gr_sw (ho : xa_sw lo hi x ls st h = some (.inl (i1, ls1, st1, h1))) : xa_Gr h h1 := by
  unfold xa_sw at ho
  repeat' split at ho
  all_goals first | (cases ho; exact xa_Gr_rf) | cases ho
theorem xa_gr_lcmp (ho : xa_lcmp i ls st h = some (.inl (i1, ls1, st1, h1))) : xa_Gr h h1 := by
  unfold xa_lcmp at ho
  repeat' split at ho
  all_goals first | (cases ho; exact xa_Gr_rf) | cases ho
theorem xa_gr_putf (ho : xa_putf x i ls st h = some (.inl (i1, ls1, st1, h1))) : xa_Gr h h1 := by
  unfold xa_putf at ho
  repeat' split at ho
  all_goals first | (cases ho; exact xa_Gr_set (by assumption) (by simp)) | cases ho
theorem xa_gr_iast (ho : xa_iast i ls st h = some (.inl (i1, ls1, st1, h1))) : xa_Gr h h1 := by
  unfold xa_iast at ho
  repeat' split at ho
  all_goals first | (cases ho; exact xa_Gr_set (by assumption) (by simp)) | cases ho
theorem xa_gr_aast (ho : xa_aast i ls st h = some (.inl (i1, ls1, st1, h1))) : xa_Gr h h1 := by
  unfold xa_aast at ho
  repeat' split at ho
  all_goals first | (cases ho; exact xa_Gr_set (by assumption) (by simp)) | cases ho
theorem xa_gr_new (ho : xa_new xa_nf x i ls st h = some (.inl (i1, ls1, st1, h1))) : xa_Gr h h1 := by
  unfold xa_new at ho
  repeat' split at ho
  all_goals first | (cases ho; exact xa_Gr_push) | cases ho
theorem xa_gr_newi (ho : xa_newi i ls st h = some (.inl (i1, ls1, st1, h1))) : xa_Gr h h1 := by
  unfold xa_newi at ho
  repeat' split at ho
  all_goals first | (cases ho; exact xa_Gr_push) | cases ho
theorem xa_gr_newq (ho : xa_newq x i ls st h = some (.inl (i1, ls1, st1, h1))) : xa_Gr h h1 := by
  unfold xa_newq at ho
  repeat' split at ho
  all_goals first | (cases ho; exact xa_Gr_push) | cases ho
theorem xa_gr_inv (ho : xa_inv x i ls st h = some (.inl (i1, ls1, st1, h1))) : xa_Gr h h1 := by
  unfold xa_inv at ho
  repeat' split at ho
  all_goals first | (cases ho; exact xa_Gr_rf) | (cases ho; next hq => exact xa_Gr_set (by assumption) (by exact xa_cpy_len (by omega) (by omega))) | cases ho
theorem xa_gr_one1 {en : xa_E} (ho : xa_one1 X en i ls st h = some (.inl (i1, ls1, st1, h1))) : xa_Gr h h1 := by
  unfold xa_one1 at ho
  split at ho
  all_goals first | exact xa_gr_aload ho | exact xa_gr_iload ho | exact xa_gr_lload ho | exact xa_gr_astore ho | exact xa_gr_istore ho | exact xa_gr_lstore ho | exact xa_gr_two ho | exact xa_gr_div ho | exact xa_gr_two64 ho | exact xa_gr_one ho | exact xa_gr_if2 ho | exact xa_gr_if1 ho | exact xa_gr_getf ho | exact xa_gr_putf ho | exact xa_gr_gets ho | exact xa_gr_iald ho | exact xa_gr_bald ho | exact xa_gr_aald ho | exact xa_gr_alen ho | exact xa_gr_ldc ho | exact xa_gr_sw ho | exact xa_gr_lcmp ho | exact xa_gr_iast ho | exact xa_gr_aast ho | exact xa_gr_new ho | exact xa_gr_newi ho | exact xa_gr_newq ho | exact xa_gr_inv ho | skip
  all_goals (repeat' split at ho)
  all_goals first | (cases ho; exact xa_Gr_rf) | cases ho
end XG
theorem xa_ex_grow (G : xa_G) (X : List Int) : ∀ (n mi i : Nat) (ls st : List xa_V) (h : xa_H) (rv : Option xa_V) (h' : xa_H), xa_ex G X n mi i ls st h = some (rv, h') → xa_Gr h h'
  | 0, mi, i, ls, st, h, rv, h', e => by simp [xa_ex] at e
  | n + 1, mi, i, ls, st, h, rv, h', e => by
    rw [xa_ex] at e
    cases hf : (G.1 mi)[i]? with
    | none => rw [hf] at e; simp at e
    | some en =>
      rw [hf] at e
      simp only at e
      cases ho : xa_one1 X en i ls st h with
      | none => rw [ho] at e; simp at e
      | some o =>
        rw [ho] at e
        match o, e, ho with
        | .inl (i', ls', st', h1), e, ho =>
          have h1 := xa_gr_one1 ho
          have h2 := xa_ex_grow G X n _ _ _ _ _ _ _ e
          exact ⟨Nat.le_trans h1.1 h2.1, Nat.le_trans h1.2 h2.2⟩
        | .inr (.inl r'), e, ho =>
          have e2 : r' = (rv, h') := Option.some.inj e
          subst e2
          unfold xa_one1 at ho
          split at ho
          all_goals try (unfold xa_aload at ho)
          all_goals try (unfold xa_iload at ho)
          all_goals try (unfold xa_lload at ho)
          all_goals try (unfold xa_astore at ho)
          all_goals try (unfold xa_istore at ho)
          all_goals try (unfold xa_lstore at ho)
          all_goals try (unfold xa_two at ho)
          all_goals try (unfold xa_div at ho)
          all_goals try (unfold xa_two64 at ho)
          all_goals try (unfold xa_one at ho)
          all_goals try (unfold xa_if2 at ho)
          all_goals try (unfold xa_if1 at ho)
          all_goals try (unfold xa_getf at ho)
          all_goals try (unfold xa_putf at ho)
          all_goals try (unfold xa_gets at ho)
          all_goals try (unfold xa_iald at ho)
          all_goals try (unfold xa_bald at ho)
          all_goals try (unfold xa_aald at ho)
          all_goals try (unfold xa_iast at ho)
          all_goals try (unfold xa_aast at ho)
          all_goals try (unfold xa_alen at ho)
          all_goals try (unfold xa_new at ho)
          all_goals try (unfold xa_newi at ho)
          all_goals try (unfold xa_newq at ho)
          all_goals try (unfold xa_ldc at ho)
          all_goals try (unfold xa_sw at ho)
          all_goals try (unfold xa_lcmp at ho)
          all_goals try (unfold xa_inv at ho)
          all_goals (repeat' split at ho)
          all_goals first | (cases ho; exact xa_Gr_rf) | cases ho
        | .inr (.inr (y, args, i', ls', rest)), e, ho =>
          simp only at e
          split at e
          · split at e
            · simp at e
            · next rv1 h1 hc =>
              split at e
              · have h1 := xa_ex_grow G X n _ _ _ _ _ _ _ hc
                have h2 := xa_ex_grow G X n _ _ _ _ _ _ _ e
                exact ⟨Nat.le_trans h1.1 h2.1, Nat.le_trans h1.2 h2.2⟩
              · simp at e
          · simp at e
section XS
variable {p : Program} {l : Launch} {e : Env} {R : Jvm.Room} {s : State} {m : MethodId} {args : Array Value} {below : List Frame} {meth : Method} {c : Code} {Q : State → Prop}
variable {G : xa_G} {S : xa_M} {mi : Nat} {X : List Int} {b0 : Nat} {ca : Nat → Nat} {v3 : Value} {D : va_G} {cI : ClassId} {cQ : Nat → ClassId} {h' : xa_H}
/-- arraycopy of ints: the heap stays as long as it was -/
theorem xa_acopy {H : Heap} {locs : List Loc} {cells slots : Nat} {cc : ByteArray} {pc : Nat} {ls : Array Slot} {rest : List Value} {tys : List (ClassId × FieldType)} {ws : va_W} {H0 : Heap} {A : Nat → Prop} {a : Nat} {cl : List vw_C} (hexec : p.tables.exec = Jvm.exec) (hb : c.code = cc) (hml : c.maxLocals = ls.size) {own : String} {index : Nat} (hown : s.vm.findClass own = some m.cls) (hlink : (Cond.methodLink own index arraycopyName).before args s = true) (hnat : (Cond.native arraycopyName).before args s = true) (hstat : (Cond.static arraycopyName).before args s = true) (hini : (Cond.initialized "java/lang/System").before args s = true)
    (hK : va_K D cl tys s) (hP : va_P D cl ws H) (hD : va_D A ws) (hS : va_S A H0 H locs) (q0 q1 t0 : Nat) {a0 : Nat} {c0 : ClassId} {n0 n1 : Nat} {f g : Nat → Int32} (ha0 : ws[q0]? = some (a0, .inl (c0, n0, .inl f))) (ha1 : ws[q1]? = some (a, .inl (c0, n1, .inl g))) (ht0 : tys[t0]? = some (c0, .int))
    {sp dp n : Int32} (h1 : ¬ sp < 0) (h2 : ¬ dp < 0) (h3 : ¬ n < 0) (h4 : sp.toNatClampNeg + n.toNatClampNeg ≤ n0) (h5 : dp.toNatClampNeg + n.toNatClampNeg ≤ n1)
    (hframes : 1 ≤ R.frames) (hlocals : (rest.map fun v => v.category).sum + (nativeFrameWords "java/lang/System" "arraycopy" 5 + 11) ≤ R.locals) (hdg : decode cc pc = .ok (.invokestatic index, 3))
    (kk : ∀ (H1 : Heap) (locs1 : List Loc), H1.size = H.size → va_P D cl (ws.set q1 (a, .inl (c0, n1, .inl (va_cpy f g sp.toNatClampNeg dp.toNatClampNeg n.toNatClampNeg)))) H1 → va_S A H0 H1 locs1 → W p l e R s m args below meth c H1 locs1 cells slots Q (F0 m (pc + 3) ls rest)) : W p l e R s m args below meth c H locs cells slots Q (F0 m pc ls (.int n :: .int dp :: .ref a :: .int sp :: .ref a0 :: rest)) := by
  have nn : ∀ z : Int32, ¬ z < 0 → z.toInt = (z.toNatClampNeg : Int) := by
    intro z hz
    have hz0 : (0 : Int) ≤ z.toInt := by
      have := Int32.not_lt.mp hz
      simpa using Int32.le_iff_toInt_le.mp this
    show z.toInt = ((z.toInt.toNat : Nat) : Int)
    omega
  intro T hT X'
  have hc0 : H[a0]? = some (vp_cell c0 (n0, .inl f)) := hP q0 _ ha0
  have hc1 : H[a]? = some (vp_cell c0 (n1, .inl g)) := hP q1 _ ha1
  obtain ⟨-, k0, hk0, cm0, hkk0⟩ := (hK.2 t0 _ ht0).1 n0 (fun j => .int (f j))
  obtain ⟨-, k1, hk1, cm1, hkk1⟩ := (hK.2 t0 _ ht0).1 n1 (fun j => .int (g j))
  obtain ⟨vm', X2, step⟩ := X'.arraycopy hexec hown hlink hnat hstat hini (src := a0) (dst := a) (cs := vp_cell c0 (n0, .inl f)) (cd := vp_cell c0 (n1, .inl g)) (srcPos := sp) (destPos := dp) (n := n) (by rw [hT]; exact hc0) (by rw [hT]; exact hc1)
    (fun _ h => by cases h) (fun _ h => by cases h) (fun h => by cases h) (fun h => by cases h) hk0 hk1 hkk0 hkk1 (by simp [refKind]) h1 h2 h3
    (by rw [nn sp h1, nn n h3]; show ¬ _ > ((arrV c0 n0 (fun j => .int (f j))).slots.size : Int); rw [arrV_size]; omega)
    (by rw [nn dp h2, nn n h3]; show ¬ _ > ((arrV c0 n1 (fun j => .int (g j))).slots.size : Int); rw [arrV_size]; omega)
    (fun vm₁ _ i hi => by
      have e1 : (vp_cell c0 (n0, .inl f)).slots.getD (sp.toNatClampNeg + i) .null = .int (f (sp.toNatClampNeg + i)) := by
        show (arrV c0 n0 (fun j => .int (f j))).slots.getD _ _ = _
        rw [Array.getD_eq_getD_getElem?, arrV_read _ _ (by omega)]
        rfl
      refine ⟨?_, ?_⟩
      · rw [e1]
        rfl
      · rw [e1]
        exact trivial)
    (g := F0 m pc ls (.int n :: .int dp :: .ref a :: .int sp :: .ref a0 :: rest)) rfl (by rw [hml]) (rest := rest) rfl (by rw [hb]; exact hdg) hframes (by show 2 * 0 + _ + _ ≤ _; omega)
  have e1 : copied (vp_cell c0 (n0, .inl f)) (vp_cell c0 (n1, .inl g)) sp dp n = vp_cell c0 (n1, .inl (va_cpy f g sp.toNatClampNeg dp.toNatClampNeg n.toNatClampNeg)) := va_copied (fun z => .int z) c0 c0 f g h4
  rw [e1] at X2 step
  have hl : a < H.size := (Array.getElem?_eq_some_iff.mp hc1).1
  have hheap : ((T.setVm vm').setCell a (vp_cell c0 (n1, .inl (va_cpy f g sp.toNatClampNeg dp.toNatClampNeg n.toNatClampNeg)))).heap = H.setIfInBounds a (vp_cell c0 (n1, .inl (va_cpy f g sp.toNatClampNeg dp.toNatClampNeg n.toNatClampNeg))) := by rw [← hT]; rfl
  have oq : ∀ q : Nat, q ≠ a → (H.setIfInBounds a (vp_cell c0 (n1, .inl (va_cpy f g sp.toNatClampNeg dp.toNatClampNeg n.toNatClampNeg))))[q]? = H[q]? := fun q hq => by simp [Array.getElem?_setIfInBounds, Ne.symm hq]
  obtain ⟨t, a1, b1⟩ := kk _ _ (by simp) (hP.set hD ha1 (show (H.setIfInBounds a _)[a]? = some _ by simp [Array.getElem?_setIfInBounds, hl]) oq) ⟨by simp; exact hS.1, fun q g1 g2 => by
      rw [oq q (fun e => g2 (by rw [e]; exact hD.2 q1 _ ha1))]
      exact hS.2.1 q g1 g2, fun q hq => by
      rcases List.mem_append.mp hq with h | h
      · exact hS.2.2 q h
      · obtain ⟨z, -, hz⟩ := List.mem_map.mp h
        rw [← hz]
        exact hD.2 q1 _ ha1⟩ _ hheap X2
  exact ⟨t, step t a1, b1⟩
theorem xa_s_invspecial (C : xa_Cx G S mi X b0 ca v3 D cI cQ p R s m args meth c) {en : xa_E} {i i1 : Nat} {ls ls1 st st1 : List xa_V} {h h1 : xa_H} {pl : List Nat} {idx : Nat} (hins : en.2.1 = .invokespecial idx) (hf : (G.1 mi)[i]? = some en) (hok : xa_ok G S mi i en pl = true) (ho : xa_one1 X en i ls st h = some (.inl (i1, ls1, st1, h1))) (hm : h1.length ≤ h'.length ∧ xa_sl h1 ≤ xa_sl h') (kk : xa_WW G mi b0 ca v3 D cI cQ p l e R s m args below meth c Q h' i1 ls1 st1 h1) : xa_WW G mi b0 ca v3 D cI cQ p l e R s m args below meth c Q h' i ls st h := by
  obtain ⟨pb, ins, ln, x⟩ := en
  dsimp only at hins
  subst hins
  intro pc H locs cells slots lr hat hL hR hS hc hs
  obtain ⟨hx, hb, hml, hown, hts, hF, h3, hb0, hnm, hfr, hlo⟩ := C
  simp only [xa_ok, Bool.and_eq_true] at hok
  obtain ⟨k1, k2, k3, k4⟩ := hok
  have hpc : pb = pc := xa_at_of hf hat
  subst hpc
  have hdg := xa_dec_of k1
  have hln : ln = 3 := by simpa [xa_lenOK, xa_len] using k2
  subst hln
  have hnx : xa_at G mi (i + 1) (pb + 3) = true := by simpa [xa_through] using k3
  dsimp only [xa_one1] at ho
  dsimp only at hdg
  unfold xa_inv at ho
  split at ho
  · split at ho
    · next a rest =>
      split at ho
      · next hq =>
        cases ho
        match pl, k4 with
        | [q1, q2, q3], k4 =>
          simp only [xa_extra, Bool.and_eq_true, decide_eq_true_eq] at k4
          obtain ⟨g1, g2, g3, g4, g5⟩ := k4
          have hcat := xa_cv_cats (b0 := b0) (ca := ca) h3 st1
          refine W.objInit hx hb hown (hts _ (xa_in_tb g1)) (hts _ (xa_in_tb g2)) (hts _ (xa_in_tb g3)) rfl (by rw [hml]; exact hL.1) rfl hdg (by omega) ?_ (kk _ H locs cells slots lr hnx hL hR hS hc hs)
          rw [hcat]
          show 2 * 0 + _ + 12 ≤ _
          omega
      · cases ho
    · cases ho
  · simp [xa_extra] at k4
  · simp [xa_extra] at k4
  · simp [xa_extra] at k4
  · split at ho <;> cases ho
  · split at ho <;> cases ho
  · repeat' split at ho
    all_goals cases ho
  · cases ho
theorem xa_s_invstatic (C : xa_Cx G S mi X b0 ca v3 D cI cQ p R s m args meth c) {en : xa_E} {i i1 : Nat} {ls ls1 st st1 : List xa_V} {h h1 : xa_H} {pl : List Nat} {idx : Nat} (hins : en.2.1 = .invokestatic idx) (hf : (G.1 mi)[i]? = some en) (hok : xa_ok G S mi i en pl = true) (ho : xa_one1 X en i ls st h = some (.inl (i1, ls1, st1, h1))) (hm : h1.length ≤ h'.length ∧ xa_sl h1 ≤ xa_sl h') (kk : xa_WW G mi b0 ca v3 D cI cQ p l e R s m args below meth c Q h' i1 ls1 st1 h1) : xa_WW G mi b0 ca v3 D cI cQ p l e R s m args below meth c Q h' i ls st h := by
  obtain ⟨pb, ins, ln, x⟩ := en
  dsimp only at hins
  subst hins
  intro pc H locs cells slots lr hat hL hR hS hc hs
  obtain ⟨hx, hb, hml, hown, hts, hF, h3, hb0, hnm, hfr, hlo⟩ := C
  simp only [xa_ok, Bool.and_eq_true] at hok
  obtain ⟨k1, k2, k3, k4⟩ := hok
  have hpc : pb = pc := xa_at_of hf hat
  subst hpc
  have hdg := xa_dec_of k1
  have hln : ln = 3 := by simpa [xa_lenOK, xa_len] using k2
  subst hln
  have hnx : xa_at G mi (i + 1) (pb + 3) = true := by simpa [xa_through] using k3
  dsimp only [xa_one1] at ho
  dsimp only at hdg
  unfold xa_inv at ho
  split at ho
  · simp [xa_extra] at k4
  · split at ho
    · next b a rest =>
      split at ho
      · next hq =>
        cases ho
        obtain ⟨ra, rb, hq⟩ := hq
        match pl, k4 with
        | [q1, q2, q3, q4], k4 =>
          simp only [xa_extra, Bool.and_eq_true, decide_eq_true_eq] at k4
          obtain ⟨g1, g2, g3, g4, g5, g6⟩ := k4
          have hcat := xa_cv_cats (b0 := b0) (ca := ca) h3 rest
          have e4 := kk _ H locs cells slots lr hnx hL hR hS hc hs
          refine va_mmax hx hb (by rw [hml]; exact hL.1.symm) hown (hts _ (xa_in_tb g1)) (hts _ (xa_in_tb g2)) (hts _ (xa_in_tb g3)) (hts _ (xa_in_tb g4)) (by omega) (by rw [hcat]; omega) (by omega) (by omega) hdg ?_
          have e5 : (if Int32.ofInt a < Int32.ofInt b then Int32.ofInt b else Int32.ofInt a) = Int32.ofInt (if a < b then b else a) := by
            by_cases q : a < b
            · rw [if_pos q, if_pos ((xa_ilt ra rb).mpr q)]
            · rw [if_neg q, if_neg (fun z => q ((xa_ilt ra rb).mp z))]
          rw [e5]
          exact e4
      · cases ho
    · cases ho
  · split at ho
    · next b a rest =>
      split at ho
      · next hq =>
        cases ho
        obtain ⟨ra, rb, hq⟩ := hq
        match pl, k4 with
        | [q1, q2, q3, q4], k4 =>
          simp only [xa_extra, Bool.and_eq_true, decide_eq_true_eq] at k4
          obtain ⟨g1, g2, g3, g4, g5, g6⟩ := k4
          have hcat := xa_cv_cats (b0 := b0) (ca := ca) h3 rest
          have e4 := kk _ H locs cells slots lr hnx hL hR hS hc hs
          refine va_mmin hx hb (by rw [hml]; exact hL.1.symm) hown (hts _ (xa_in_tb g1)) (hts _ (xa_in_tb g2)) (hts _ (xa_in_tb g3)) (hts _ (xa_in_tb g4)) (by omega) (by rw [hcat]; omega) (by omega) (by omega) hdg ?_
          have e5 : (if Int32.ofInt b < Int32.ofInt a then Int32.ofInt b else Int32.ofInt a) = Int32.ofInt (if b < a then b else a) := by
            by_cases q : b < a
            · rw [if_pos q, if_pos ((xa_ilt rb ra).mpr q)]
            · rw [if_neg q, if_neg (fun z => q ((xa_ilt rb ra).mp z))]
          rw [e5]
          exact e4
      · cases ho
    · cases ho
  · split at ho
    · next n d b s2 a rest =>
      split at ho
      · next c1 xs c2 ys e1 e2 =>
        split at ho
        · next hq =>
          cases ho
          obtain ⟨z1, z2, z3, z4, z5, z6, z7, hq⟩ := hq
          match pl, k4 with
          | [q1, q2, q3, q4], k4 =>
            simp only [xa_extra, Bool.and_eq_true, decide_eq_true_eq] at k4
            obtain ⟨g1, g2, g3, g4, g5, g6⟩ := k4
            have hcat := xa_cv_cats (b0 := b0) (ca := ca) h3 st1
            have ng : ∀ z : Int, 0 ≤ z → z < 2147483648 → ¬ Int32.ofInt z < 0 := fun z q1 q2 q => by have := (xa_ilt (b := 0) ⟨by omega, q2⟩ xa_r0).mp q; omega
            have n1 := xa_nat (j := n) z1 (by omega)
            have n2 := xa_nat (j := d) z2 (by omega)
            have n3 := xa_nat (j := s2) z3 (by omega)
            refine xa_acopy hx hb (by rw [hml]; exact hL.1.symm) hown (hts _ (xa_in_tb g1)) (hts _ (xa_in_tb g2)) (hts _ (xa_in_tb g3)) (hts _ (xa_in_tb g4)) hF.1 hR.2 xa_W_D hS a b 0 (xa_W_get e1) (xa_W_get e2) rfl (ng _ z3 (by omega)) (ng _ z2 (by omega)) (ng _ z1 (by omega)) (by rw [n1, n3]; omega) (by rw [n1, n2]; omega) (by omega) (by rw [hcat]; omega) hdg fun H1 locs1 y1 P1 S1 => ?_
            refine kk _ H1 locs1 cells slots lr hnx hL (xa_Rel_set hR ?_ y1) S1 (by rw [List.length_set]; exact hc) (by rw [xa_sl_set e2 (xa_cpy_len (by omega) (by omega))]; exact hs)
            have e6 : xa_ce b0 ca v3 cI cQ (1, c2, xa_cpy xs ys s2.toNat d.toNat n.toNat) = .inl (cI, ys.length, .inl (va_cpy (fun j => xa_iv (xs.getD j (xC 0))) (fun j => xa_iv (ys.getD j (xC 0))) s2.toNat d.toNat n.toNat)) := by
              show (Sum.inl (cI, (xa_cpy xs ys s2.toNat d.toNat n.toNat).length, Sum.inl (fun k => xa_iv ((xa_cpy xs ys s2.toNat d.toNat n.toNat).getD k (xC 0)))) : va_E) = _
              rw [xa_cpy_len (by omega) (by omega)]
              congr 4
              funext k
              unfold va_cpy
              rw [List.getD_eq_getElem?_getD, xa_cpy_get (by omega) (by omega)]
              by_cases hk : d.toNat ≤ k ∧ k < d.toNat + n.toNat
              · rw [if_pos hk, if_pos hk]
                rfl
              · rw [if_neg hk, if_neg hk]
                rfl
            rw [e6]
            rw [n1, n2, n3] at P1
            exact P1
        · cases ho
      · cases ho
    · cases ho
  · split at ho <;> cases ho
  · split at ho <;> cases ho
  · repeat' split at ho
    all_goals cases ho
  · cases ho
theorem xa_s_invvirtual (C : xa_Cx G S mi X b0 ca v3 D cI cQ p R s m args meth c) {en : xa_E} {i i1 : Nat} {ls ls1 st st1 : List xa_V} {h h1 : xa_H} {pl : List Nat} {idx : Nat} (hins : en.2.1 = .invokevirtual idx) (hf : (G.1 mi)[i]? = some en) (hok : xa_ok G S mi i en pl = true) (ho : xa_one1 X en i ls st h = some (.inl (i1, ls1, st1, h1))) (hm : h1.length ≤ h'.length ∧ xa_sl h1 ≤ xa_sl h') (kk : xa_WW G mi b0 ca v3 D cI cQ p l e R s m args below meth c Q h' i1 ls1 st1 h1) : xa_WW G mi b0 ca v3 D cI cQ p l e R s m args below meth c Q h' i ls st h := by
  obtain ⟨pb, ins, ln, x⟩ := en
  dsimp only at hins
  subst hins
  intro pc H locs cells slots lr hat hL hR hS hc hs
  obtain ⟨hx, hb, hml, hown, hts, hF, h3, hb0, hnm, hfr, hlo⟩ := C
  simp only [xa_ok, Bool.and_eq_true] at hok
  obtain ⟨k1, k2, k3, k4⟩ := hok
  have hpc : pb = pc := xa_at_of hf hat
  subst hpc
  have hdg := xa_dec_of k1
  have hln : ln = 3 := by simpa [xa_lenOK, xa_len] using k2
  subst hln
  have hnx : xa_at G mi (i + 1) (pb + 3) = true := by simpa [xa_through] using k3
  dsimp only [xa_one1] at ho
  dsimp only at hdg
  unfold xa_inv at ho
  split at ho
  · simp [xa_extra] at k4
  · simp [xa_extra] at k4
  · simp [xa_extra] at k4
  · simp [xa_extra] at k4
  · split at ho <;> cases ho
  · split at ho <;> cases ho
  · repeat' split at ho
    all_goals cases ho
  · cases ho
end XS
end
section
/-! A METHOD, WITH ITS CALLS: what the small machine comes to, the real one comes to -/
def xa_Pre (b0 : Nat) (ca : Nat → Nat) (v3 : Value) (X : List Int) (D : va_G) (cI : ClassId) (cQ : Nat → ClassId) (h : xa_H) (av : List xa_V) : Array Value → State → Prop :=
  va_Pc (av.map (xa_cv b0 ca v3)) (fun U => xa_Rel b0 ca v3 cI cQ D xb_cl h U.heap ∧ xa_F b0 ca v3 X D cI cQ U U.heap)
def xa_Post (b0 : Nat) (ca : Nat → Nat) (v3 : Value) (D : va_G) (cI : ClassId) (cQ : Nat → ClassId) (h1 : xa_H) (rv : Option xa_V) : Array Value → State → Outcome → State → Prop := fun _ st o t =>
  o = .returned (rv.map (xa_cv b0 ca v3)) ∧ xa_Rel b0 ca v3 cI cQ D xb_cl h1 t.heap ∧ va_F (fun a : Nat => b0 ≤ a) st t
theorem xa_good {ws : List Jvm.Cond} (h : ∀ w ∈ ws, w ∈ xa_tb) : GoodIn xa_tb ws := fun w hw => ⟨h w hw, good_of_word (List.mem_filter.mp (h w hw)).2⟩
theorem xa_Pre_blind {b0 : Nat} {ca : Nat → Nat} {v3 : Value} {X : List Int} {D : va_G} {cI : ClassId} {cQ : Nat → ClassId} {h : xa_H} {av : List xa_V} : FrameBlind (xa_Pre b0 ca v3 X D cI cQ h av) := fun a U g mk hp => ⟨hp.1, hp.2.1, xa_F_same (s := U) (U := U.calling g mk a) (H := U.heap) rfl hp.2.2⟩
section XC
variable {p : Program} {l : Launch} {e : Env} {R : Jvm.Room} {s : State} {m : MethodId} {args : Array Value} {below : List Frame} {meth : Method} {c : Code} {Q : State → Prop}
variable {G : xa_G} {S : xa_M} {mi : Nat} {X : List Int} {b0 : Nat} {ca : Nat → Nat} {v3 : Value} {D : va_G} {cI : ClassId} {cQ : Nat → ClassId} {h' : xa_H}
/-- behind a call -/
theorem xa_go {H : Heap} {locs : List Loc} {cells slots mc ms pc : Nat} {lr : Array Slot} {st0 rest : List Value} {a : Array Value} {h1 : xa_H} {rv : Option xa_V} (hr : va_Run p l e R s m args below meth c H locs cells slots mc ms (F0 m pc lr st0) rest (xa_Post b0 ca v3 D cI cQ h1 rv a) (fun q : Nat => b0 ≤ q)) (hS : va_S (fun a : Nat => b0 ≤ a) s.heap H locs)
    (kk : ∀ (H1 : Heap) (locs1 : List Loc), xa_Rel b0 ca v3 cI cQ D xb_cl h1 H1 → va_S (fun a : Nat => b0 ≤ a) s.heap H1 locs1 → W p l e R s m args below meth c H1 locs1 (cells + mc) (slots + ms) Q (F0 m (pc + 3) lr ((rv.map (xa_cv b0 ca v3)).toList ++ rest))) : W p l e R s m args below meth c H locs cells slots Q (F0 m pc lr st0) := by
  intro T hT X'
  obtain ⟨v, st₀, t, T', L, h0, X2, hL, e1, e2, ⟨hv, hR1, hz, hk⟩, st⟩ := hr T hT X'
  cases hv
  rw [h0] at hz hk
  obtain ⟨t2, a1, b1⟩ := kk T'.heap (locs ++ L) (by rw [e1]; exact hR1) ⟨Nat.le_trans hS.1 (by rw [e1]; exact hz), fun q g1 g2 => by rw [e1, hk q (Nat.lt_of_lt_of_le g1 hS.1) g2]; exact hS.2.1 q g1 g2, fun q hq => by
      rcases List.mem_append.mp hq with h | h
      · exact hS.2.2 q h
      · exact hL q h⟩ T' rfl X2
  exact ⟨t2, st t2 a1, b1⟩
/-- what a method's own code gives, as its callers need it -/
def xa_Mt (G : xa_G) (S : xa_M) (X : List Int) (l : Launch) (b0 : Nat) (ca : Nat → Nat) (v3 : Value) (D : va_G) (cI : ClassId) (cQ : Nat → ClassId) (n y : Nat) : Prop :=
  ∀ (av : List xa_V) (h : xa_H) (rv : Option xa_V) (h1 : xa_H), xa_ex G X n y 0 (xa_loc (G.2 y).1 av) [] h = some (rv, h1) → (xa_args av).length ≤ (G.2 y).1 → h1.length = h.length + (G.2 y).2.1 → xa_sl h1 = xa_sl h + (G.2 y).2.2 →
    Met l (S y).2.1 (xa_ws G S y) (xa_rm G S y) (xa_Pre b0 ca v3 X D cI cQ h av) (xa_Post b0 ca v3 D cI cQ h1 rv) (G.2 y).2.1 (G.2 y).2.2 (fun q : Nat => b0 ≤ q)
/-- the state at a callee's start -/
theorem xa_hp {H : Heap} {locs : List Loc} {h : xa_H} {av : List xa_V} {As : List Value} (hA : As = av.map (xa_cv b0 ca v3)) (hF : xa_F b0 ca v3 X D cI cQ s s.heap) (hR : xa_Rel b0 ca v3 cI cQ D xb_cl h H) (hS : va_S (fun a : Nat => b0 ≤ a) s.heap H locs) (U : State) (hU : U.heap = H) (hW : s.WarmedH U.vm) : xa_Pre b0 ca v3 X D cI cQ h av As.toArray U := by
  refine ⟨by rw [hA], by rw [hU]; exact hR, ?_⟩
  rw [hU]
  exact xa_F_warm hW hS.2.1 hF
/-- a call, whatever its kind -/
theorem xa_s_call (C : xa_Cx G S mi X b0 ca v3 D cI cQ p R s m args meth c) {en : xa_E} {i i1 y n : Nat} {ls ls1 st rest : List xa_V} {h h1 : xa_H} {pl : List Nat} {av : List xa_V} {rv : Option xa_V} (hf : (G.1 mi)[i]? = some en) (hok : xa_ok G S mi i en pl = true) (ho : xa_one1 X en i ls st h = some (.inr (.inr (y, av, i1, ls1, rest)))) (hM : xa_Mt G S X l b0 ca v3 D cI cQ n y)
    (hargs : (xa_args av).length ≤ (G.2 y).1) (hex : xa_ex G X n y 0 (xa_loc (G.2 y).1 av) [] h = some (rv, h1)) (hz1 : h1.length = h.length + (G.2 y).2.1) (hz2 : xa_sl h1 = xa_sl h + (G.2 y).2.2) (hm : h1.length ≤ h'.length ∧ xa_sl h1 ≤ xa_sl h')
    (kk : xa_WW G mi b0 ca v3 D cI cQ p l e R s m args below meth c Q h' i1 ls1 (rv.toList ++ rest) h1) : xa_WW G mi b0 ca v3 D cI cQ p l e R s m args below meth c Q h' i ls st h := by
  obtain ⟨pb, ins, ln, x⟩ := en
  intro pc H locs cells slots lr hat hL hR hS hc hs
  obtain ⟨hx, hb, hml, hown, hts, hF, h3, hb0, hnm, hfr, hlo⟩ := C
  simp only [xa_ok, Bool.and_eq_true] at hok
  obtain ⟨k1, k2, k3, k4⟩ := hok
  have hpc : pb = pc := xa_at_of hf hat
  subst hpc
  have hdg := xa_dec_of k1
  dsimp only at hdg
  have hMet := hM av h rv h1 hex hargs hz1 hz2
  have hfit : cells + (G.2 y).2.1 ≤ R.cells ∧ slots + (G.2 y).2.2 ≤ R.slots := by omega
  have hsize : (F0 m pb lr (st.map (xa_cv b0 ca v3))).locals.size = (G.2 mi).1 := hL.1
  have hwsin : ∀ {q t : Nat} {k : Nat}, xa_callOK G S mi y k q t = true → (∀ w ∈ xa_ws G S y, w ∈ xa_tb) ∧ Jvm.Cond.initialized (S y).2.1.cls ∈ xa_tb ∧ ((S y).2.1.cls ≠ "java/lang/invoke/MethodHandle" ∧ (S y).2.1.cls ≠ "java/lang/invoke/VarHandle") ∧ (parseMethodDescriptor (S y).2.1.desc).map (fun d => d.parameters.length) = some k ∧ (xa_rm G S y).frames + 1 ≤ R.frames ∧ 8 + ((G.2 y).1 + 11) + (xa_rm G S y).locals ≤ R.locals := by
    intro q t k hk
    simp only [xa_callOK, Bool.and_eq_true, decide_eq_true_eq] at hk
    obtain ⟨g1, g2, g3, g4, g5, g6⟩ := hk
    refine ⟨fun w hw => ?_, xa_in_tb g1, g3, g4, Nat.le_trans g5 hfr, Nat.le_trans g6 hlo⟩
    rcases List.mem_cons.mp hw with rfl | hw
    · exact xa_in_tb g2
    · exact hw
  have CF : CallFix p m c (S mi).2.2.1 (G.2 mi).1 s args xa_tb (S mi).1 := ⟨hx, hb, hml, hown, hts⟩
  have hmon : ∀ {L : List Value}, (L.map fun v => v.category).sum ≤ 8 → 2 * (F0 m pb lr (st.map (xa_cv b0 ca v3))).monitorRoom + (L.map fun v => v.category).sum ≤ 8 := fun h => lv_room h
  -- what every kind comes to
  have fin : ∀ {a : Array Value} {rest' : List Value}, rest' = rest.map (xa_cv b0 ca v3) → ls1 = ls → xa_at G mi i1 (pb + 3) = true → va_Run p l e R s m args below meth c H locs cells slots (G.2 y).2.1 (G.2 y).2.2 (F0 m pb lr (st.map (xa_cv b0 ca v3))) rest' (xa_Post b0 ca v3 D cI cQ h1 rv a) (fun q : Nat => b0 ≤ q) → W p l e R s m args below meth c H locs cells slots Q (F0 m pb lr (st.map (xa_cv b0 ca v3))) := by
    intro a rest' hr' hls hnx hr
    subst hr'
    subst hls
    refine xa_go hr hS fun H1 locs1 hR1 hS1 => ?_
    have := kk _ H1 locs1 (cells + (G.2 y).2.1) (slots + (G.2 y).2.2) lr hnx hL hR1 hS1 (by omega) (by omega)
    rw [List.map_append] at this
    rw [show (rv.map (xa_cv b0 ca v3)).toList = rv.toList.map (xa_cv b0 ca v3) by cases rv <;> rfl]
    exact this
  have hin : ∀ (idx : Nat), ins = .invokestatic idx ∨ ins = .invokevirtual idx ∨ ins = .invokespecial idx → ln = 3 ∧ xa_at G mi (i + 1) (pb + 3) = true := by
    intro idx hi
    rcases hi with rfl | rfl | rfl
    all_goals
      have hln : ln = 3 := by simpa [xa_lenOK, xa_len] using k2
      subst hln
      exact ⟨rfl, by simpa [xa_through] using k3⟩
  have hinv : xa_inv x i ls st h = some (.inr (.inr (y, av, i1, ls1, rest))) ∧ ∃ idx, ins = .invokestatic idx ∨ ins = .invokevirtual idx ∨ ins = .invokespecial idx := by
    unfold xa_one1 at ho
    split at ho
    all_goals first
      | (next hi => exact ⟨ho, _, Or.inl hi⟩)
      | (next hi => exact ⟨ho, _, Or.inr (Or.inl hi)⟩)
      | (next hi => exact ⟨ho, _, Or.inr (Or.inr hi)⟩)
      | skip
    all_goals exfalso
    all_goals try (unfold xa_aload at ho)
    all_goals try (unfold xa_iload at ho)
    all_goals try (unfold xa_lload at ho)
    all_goals try (unfold xa_astore at ho)
    all_goals try (unfold xa_istore at ho)
    all_goals try (unfold xa_lstore at ho)
    all_goals try (unfold xa_two at ho)
    all_goals try (unfold xa_div at ho)
    all_goals try (unfold xa_two64 at ho)
    all_goals try (unfold xa_one at ho)
    all_goals try (unfold xa_if2 at ho)
    all_goals try (unfold xa_if1 at ho)
    all_goals try (unfold xa_getf at ho)
    all_goals try (unfold xa_putf at ho)
    all_goals try (unfold xa_gets at ho)
    all_goals try (unfold xa_iald at ho)
    all_goals try (unfold xa_bald at ho)
    all_goals try (unfold xa_aald at ho)
    all_goals try (unfold xa_iast at ho)
    all_goals try (unfold xa_aast at ho)
    all_goals try (unfold xa_alen at ho)
    all_goals try (unfold xa_new at ho)
    all_goals try (unfold xa_newi at ho)
    all_goals try (unfold xa_newq at ho)
    all_goals try (unfold xa_ldc at ho)
    all_goals try (unfold xa_sw at ho)
    all_goals try (unfold xa_lcmp at ho)
    all_goals (repeat' split at ho)
    all_goals cases ho
  clear ho
  obtain ⟨ho, idx, hidx⟩ := hinv
  obtain ⟨hln, hnx⟩ := hin idx hidx
  subst hln
  clear k1 k2 k3
  have hst : ∀ (k : Nat), st.map (xa_cv b0 ca v3) = (((st.take k).reverse).map (xa_cv b0 ca v3)).reverse ++ (st.drop k).map (xa_cv b0 ca v3) := by
    intro k
    rw [List.map_reverse, List.reverse_reverse, ← List.map_append, List.take_append_drop]
  have hlen : ∀ (k : Nat), k ≤ st.length → (((st.take k).reverse).map (xa_cv b0 ca v3)).length = k := by
    intro k hk
    rw [List.length_map, List.length_reverse, List.length_take]
    omega
  unfold xa_inv at ho
  split at ho
  · repeat' split at ho
    all_goals cases ho
  · repeat' split at ho
    all_goals cases ho
  · repeat' split at ho
    all_goals cases ho
  · repeat' split at ho
    all_goals cases ho
  · -- static
    next y0 n0 =>
    split at ho
    · next hq =>
      cases ho
      rcases hidx with rfl | rfl | rfl
      · match pl, k4 with
        | [q1, q2, q3, q4], k4 =>
          simp only [xa_extra, Bool.and_eq_true] at k4
          obtain ⟨g1, g2, g3⟩ := k4
          obtain ⟨w1, w2, w3, w4, w5⟩ := hwsin g3
          refine fin rfl rfl hnx (va_runS CF hMet (va_cwS n0.toNat hts (xa_good ?_) rfl rfl rfl ⟨w3.1, w3.2, w4⟩ w5) ⟨xa_Pre_blind, xa_hp rfl hF hR hS⟩ rfl (hlen _ hq.1) hsize (hst _) (hmon (by rw [xa_cv_cats h3]; exact hq.2)) hdg hfit)
          intro w hw
          unfold va_wsS at hw
          rcases List.mem_append.mp hw with hw | hw
          · simp only [List.mem_cons, List.not_mem_nil, or_false] at hw
            rcases hw with rfl | rfl | rfl
            · exact xa_in_tb g1
            · exact xa_in_tb g2
            · exact w2
          · exact w1 w hw
      · simp [xa_extra] at k4
      · simp [xa_extra] at k4
    · cases ho
  · -- static, of a nest mate
    next y0 n0 =>
    split at ho
    · next hq =>
      cases ho
      rcases hidx with rfl | rfl | rfl
      · match pl, k4 with
        | [q1, q2, q3, q4], k4 =>
          simp only [xa_extra, Bool.and_eq_true] at k4
          obtain ⟨g1, g2, g3⟩ := k4
          obtain ⟨w1, w2, w3, w4, w5⟩ := hwsin g3
          exact fin rfl rfl hnx (va_runSN CF hMet ⟨va_cnB n0.toNat hts (xa_good w1) rfl rfl rfl (hF.2.1 _ (xa_in_nw g1)) (hts _ w2) ⟨w3.1, w3.2, w4⟩ w5, hts _ (xa_in_tb g2), trivial⟩ ⟨xa_Pre_blind, xa_hp rfl hF hR hS⟩ rfl (hlen _ hq.1) hsize (hst _) (hmon (by rw [xa_cv_cats h3]; exact hq.2)) hdg hfit)
      · simp [xa_extra] at k4
      · simp [xa_extra] at k4
    · cases ho
  · -- of an object
    next k0 y0 n0 ci =>
    split at ho
    · next a rest0 hd0 =>
      split at ho
      · next c2 fs e1 =>
        split at ho
        · next hq =>
          cases ho
          obtain ⟨hk0, hci, hn, hcat⟩ := hq
          have hst2 : st.map (xa_cv b0 ca v3) = (((st.take n0.toNat).reverse).map (xa_cv b0 ca v3)).reverse ++ .ref (b0 + a) :: rest.map (xa_cv b0 ca v3) := by
            rw [hst n0.toNat, hd0]
            rfl
          rcases hidx with rfl | rfl | rfl
          · simp [xa_extra] at k4
          · -- virtual
            have hk1 : k0 = 1 := by
              rcases hk0 with rfl | rfl | rfl | rfl
              · rfl
              · simp [xa_extra] at k4
              · simp [xa_extra] at k4
              · simp [xa_extra] at k4
            subst hk1
            match pl, k4 with
            | [q1, q2, q3, q4, q5], k4 =>
              simp only [xa_extra] at k4
              split at k4
              · next r hr =>
                simp only [Bool.and_eq_true, decide_eq_true_eq] at k4
                obtain ⟨g0, g1, g2, g3, g4⟩ := k4
                obtain ⟨w1, w2, w3, w4, w5⟩ := hwsin g4
                obtain ⟨C, T, N⟩ := r
                dsimp only at g0 g3
                refine fin rfl rfl hnx (va_runV CF hMet (cwV n0.toNat hts (C := C) (xa_good ?_) rfl rfl rfl ⟨g0, w3.1, w3.2, w4⟩ w5) ⟨xa_Pre_blind, va_recv hF.1 hR.2 hr (by rw [← hci]; exact xa_W_get e1), fun U hU hW => xa_hp (av := xR a :: (st.take n0.toNat).reverse) rfl hF hR hS U hU hW⟩ rfl (hlen _ hn) hsize hst2 (hmon (by rw [xa_cv_cats h3]; exact hcat)) hdg hfit)
                intro w hw
                unfold wsV at hw
                rcases List.mem_append.mp hw with hw | hw
                · simp only [List.mem_cons, List.not_mem_nil, or_false] at hw
                  rcases hw with rfl | rfl | rfl | rfl
                  · exact xa_in_tb g1
                  · exact xa_in_tb g2
                  · exact xa_in_tb g3
                  · rw [← g0]; exact w2
                · exact w1 w hw
              · cases k4
          · -- constructors
            have hk1 : k0 = 2 ∨ k0 = 5 := by
              rcases hk0 with rfl | rfl | rfl | rfl
              · simp [xa_extra] at k4
              · exact Or.inl rfl
              · simp [xa_extra] at k4
              · exact Or.inr rfl
            rcases hk1 with rfl | rfl
            · match pl, k4 with
              | [q1, q2, q3, q4], k4 =>
                simp only [xa_extra, Bool.and_eq_true, decide_eq_true_eq] at k4
                obtain ⟨g0, g1, g2, g3⟩ := k4
                obtain ⟨w1, w2, w3, w4, w5⟩ := hwsin g3
                exact fin rfl rfl hnx (va_runI CF hMet (cwI n0.toNat hts (xa_good w1) (by unfold xa_ws xa_code; rw [g0.2]) rfl rfl (hts _ w2) (hts _ (xa_in_tb g1)) (hts _ (xa_in_tb g2)) g0.1 ⟨w3.1, w3.2, w4⟩ w5) ⟨xa_Pre_blind, fun U hU hW => xa_hp (av := xR a :: (st.take n0.toNat).reverse) rfl hF hR hS U hU hW⟩ rfl (hlen _ hn) hsize hst2 (hmon (by rw [xa_cv_cats h3]; exact hcat)) hdg hfit)
            · match pl, k4 with
              | [q1, q2, q3, q4], k4 =>
                simp only [xa_extra, Bool.and_eq_true, decide_eq_true_eq] at k4
                obtain ⟨g0, g1, g2, g3⟩ := k4
                obtain ⟨w1, w2, w3, w4, w5⟩ := hwsin g3
                exact fin rfl rfl hnx (va_runIN CF hMet ⟨va_cnB n0.toNat hts (xa_good w1) (by unfold xa_ws xa_code; rw [g0.2]) rfl rfl (hF.2.1 _ (xa_in_nw g1)) (hts _ w2) ⟨w3.1, w3.2, w4⟩ w5, g0.1, hts _ (xa_in_tb g2)⟩ ⟨xa_Pre_blind, fun U hU hW => xa_hp (av := xR a :: (st.take n0.toNat).reverse) rfl hF hR hS U hU hW⟩ rfl (hlen _ hn) hsize hst2 (hmon (by rw [xa_cv_cats h3]; exact hcat)) hdg hfit)
        · cases ho
      · cases ho
    · next c2 rest0 hd0 =>
      split at ho
      · next hq =>
        cases ho
        obtain ⟨hk0, hc20, hc33, hn, hcat⟩ := hq
        subst hk0
        have hst2 : st.map (xa_cv b0 ca v3) = (((st.take n0.toNat).reverse).map (xa_cv b0 ca v3)).reverse ++ .ref (ca c2) :: rest.map (xa_cv b0 ca v3) := by
          rw [hst n0.toNat, hd0, List.map_cons, show xa_cv b0 ca v3 (.inr (.inr (.inr c2))) = .ref (ca c2) from xa_cv_C (by omega) (by omega)]
        rcases hidx with rfl | rfl | rfl
        · simp [xa_extra] at k4
        · match pl, k4 with
          | [q1, q2, q3, q4, q5], k4 =>
            simp only [xa_extra, Bool.and_eq_true, decide_eq_true_eq] at k4
            obtain ⟨g0, g1, g2, g3, g4⟩ := k4
            obtain ⟨w1, w2, w3, w4, w5⟩ := hwsin g4
            have hO := (hF.2.2.2.2.2.2.2 c2 hc20 hc33).1.kept hS.2.1
            obtain ⟨cell, o1, o2, o3, -⟩ := hO
            refine fin rfl rfl hnx (va_runV CF hMet (cwV n0.toNat hts (C := "java/lang/String") (xa_good ?_) rfl rfl rfl ⟨g0, w3.1, w3.2, w4⟩ w5) ⟨xa_Pre_blind, ⟨cell, o1, o2, o3⟩, fun U hU hW => xa_hp (av := xC c2 :: (st.take n0.toNat).reverse) (by rw [List.map_cons, xa_cv_C (by omega) (by omega)]) hF hR hS U hU hW⟩ rfl (hlen _ hn) hsize hst2 (hmon (by rw [xa_cv_cats h3]; exact hcat)) hdg hfit)
            intro w hw
            unfold wsV at hw
            rcases List.mem_append.mp hw with hw | hw
            · simp only [List.mem_cons, List.not_mem_nil, or_false] at hw
              rcases hw with rfl | rfl | rfl | rfl
              · exact xa_in_tb g1
              · exact xa_in_tb g2
              · exact xa_in_tb g3
              · rw [← g0]; exact w2
            · exact w1 w hw
        · simp [xa_extra] at k4
      · cases ho
    · cases ho
  · cases ho
end XC
section XD
variable {p : Program} {l : Launch} {e : Env} {R : Jvm.Room} {s : State} {m : MethodId} {args : Array Value} {below : List Frame} {meth : Method} {c : Code} {Q : State → Prop}
variable {G : xa_G} {S : xa_M} {mi : Nat} {X : List Int} {b0 : Nat} {ca : Nat → Nat} {v3 : Value} {D : va_G} {cI : ClassId} {cQ : Nat → ClassId} {h' : xa_H}
/-- one step that goes on in the method -/
theorem xa_s_next (C : xa_Cx G S mi X b0 ca v3 D cI cQ p R s m args meth c) (hCl : xa_ClOK) {en : xa_E} {i i1 : Nat} {ls ls1 st st1 : List xa_V} {h h1 : xa_H} {pl : List Nat} (hf : (G.1 mi)[i]? = some en) (hok : xa_ok G S mi i en pl = true) (ho : xa_one1 X en i ls st h = some (.inl (i1, ls1, st1, h1))) (hm : h1.length ≤ h'.length ∧ xa_sl h1 ≤ xa_sl h') (kk : xa_WW G mi b0 ca v3 D cI cQ p l e R s m args below meth c Q h' i1 ls1 st1 h1) : xa_WW G mi b0 ca v3 D cI cQ p l e R s m args below meth c Q h' i ls st h := by
  have ho' := ho
  unfold xa_one1 at ho'
  split at ho'
  · next hi => exact xa_s_aload C hi hf hok ho hm kk
  · next hi => exact xa_s_aload_n C hi hf hok ho hm kk
  · next hi => exact xa_s_iload C hi hf hok ho hm kk
  · next hi => exact xa_s_iload_n C hi hf hok ho hm kk
  · next hi => exact xa_s_lload C hi hf hok ho hm kk
  · next hi => exact xa_s_lload_n C hi hf hok ho hm kk
  · next hi => exact xa_s_astore C hi hf hok ho hm kk
  · next hi => exact xa_s_astore_n C hi hf hok ho hm kk
  · next hi => exact xa_s_istore C hi hf hok ho hm kk
  · next hi => exact xa_s_istore_n C hi hf hok ho hm kk
  · next hi => exact xa_s_lstore C hi hf hok ho hm kk
  · next hi => exact xa_s_lstore_n C hi hf hok ho hm kk
  · next hi => exact xa_s_iconst C hi hf hok ho hm kk
  · next hi => exact xa_s_bipush C hi hf hok ho hm kk
  · next hi => exact xa_s_sipush C hi hf hok ho hm kk
  · next hi => exact xa_s_lconst C hi hf hok ho hm kk
  · next hi => exact xa_s_ldc C hi hf hok ho hm kk
  · next hi => exact xa_s_ldc_w C hi hf hok ho hm kk
  · next hi => exact xa_s_ldc2_w C hi hf hok ho hm kk
  · next hi => exact xa_s_iadd C hi hf hok ho hm kk
  · next hi => exact xa_s_isub C hi hf hok ho hm kk
  · next hi => exact xa_s_imul C hi hf hok ho hm kk
  · next hi => exact xa_s_iand C hi hf hok ho hm kk
  · next hi => exact xa_s_ior C hi hf hok ho hm kk
  · next hi => exact xa_s_ixor C hi hf hok ho hm kk
  · next hi => exact xa_s_ishl C hi hf hok ho hm kk
  · next hi => exact xa_s_ishr C hi hf hok ho hm kk
  · next hi => exact xa_s_iushr C hi hf hok ho hm kk
  · next hi => exact xa_s_idiv C hi hf hok ho hm kk
  · next hi => exact xa_s_irem C hi hf hok ho hm kk
  · next hi => exact xa_s_ladd C hi hf hok ho hm kk
  · next hi => exact xa_s_lmul C hi hf hok ho hm kk
  · next hi => exact xa_s_i2b C hi hf hok ho hm kk
  · next hi => exact xa_s_i2s C hi hf hok ho hm kk
  · next hi => exact xa_s_i2c C hi hf hok ho hm kk
  · next hi => exact xa_s_i2l C hi hf hok ho hm kk
  · next hi => exact xa_s_l2i C hi hf hok ho hm kk
  · next hi => exact xa_s_lcmp C hi hf hok ho hm kk
  · next hi => exact xa_s_iinc C hi hf hok ho hm kk
  · next hi => exact xa_s_dup C hi hf hok ho hm kk
  · next hi => exact xa_s_dup2 C hi hf hok ho hm kk
  · next hi => exact xa_s_pop C hi hf hok ho hm kk
  · next hi => exact xa_s_goto C hi hf hok ho hm kk
  · next hi => exact xa_s_icmp C hi hf hok ho hm kk
  · next hi => exact xa_s_ifc C hi hf hok ho hm kk
  · next hi => exact xa_s_tsw C hi hf hok ho hm kk
  · next hi => exact xa_s_getfield C hCl hi hf hok ho hm kk
  · next hi => exact xa_s_putfield C hCl hi hf hok ho hm kk
  · next hi => exact xa_s_getstatic C hi hf hok ho hm kk
  · next hi => exact xa_s_iaload C hi hf hok ho hm kk
  · next hi => exact xa_s_baload C hi hf hok ho hm kk
  · next hi => exact xa_s_iastore C hi hf hok ho hm kk
  · next hi => exact xa_s_aaload C hi hf hok ho hm kk
  · next hi => exact xa_s_aastore C hi hf hok ho hm kk
  · next hi => exact xa_s_arraylength C hi hf hok ho hm kk
  · next hi => exact xa_s_new C hCl hi hf hok ho hm kk
  · next hi => exact xa_s_newarray C hi hf hok ho hm kk
  · next hi => exact xa_s_anewarray C hi hf hok ho hm kk
  · next hi => exact xa_s_invstatic C hi hf hok ho hm kk
  · next hi => exact xa_s_invvirtual C hi hf hok ho hm kk
  · next hi => exact xa_s_invspecial C hi hf hok ho hm kk
  · repeat' split at ho'
    all_goals cases ho'
  · repeat' split at ho'
    all_goals cases ho'
  · repeat' split at ho'
    all_goals cases ho'
  · repeat' split at ho'
    all_goals cases ho'
  · cases ho'
/-- the four ends: what stands before them, and what the method's answer is -/
def xa_End (ret : Option FieldType) (ins : Jvm.ClassFile.Instr) (st : List xa_V) (rv : Option xa_V) : Prop :=
  (ins = .return_ ∧ st = [] ∧ rv = none ∧ ret = none) ∨ (∃ (z : Int) (ty : FieldType), ins = .ireturn ∧ st = [xI z] ∧ rv = some (xI z) ∧ ret = some ty ∧ narrow ty (.int (Int32.ofInt z)) = .int (Int32.ofInt z)) ∨
  (∃ z : Int, ins = .lreturn ∧ st = [xL z] ∧ rv = some (xL z) ∧ ret = some .long) ∨ (∃ (a : Nat) (C : String), ins = .areturn ∧ st = [xR a] ∧ rv = some (xR a) ∧ ret = some (.object C))
/-- what is owed where the method ends -/
def xa_RT (S : xa_M) (mi : Nat) (b0 : Nat) (ca : Nat → Nat) (v3 : Value) (D : va_G) (cI : ClassId) (cQ : Nat → ClassId) (p : Program) (l : Launch) (e : Env) (R : Jvm.Room) (s : State) (m : MethodId) (args : Array Value) (below : List Frame) (meth : Method) (c : Code) (Q : State → Prop) (h' : xa_H) (rv : Option xa_V) : Prop :=
  ∀ (pc : Nat) (H : Heap) (locs : List Loc) (cells slots : Nat) (lr : Array Slot) (ins : Jvm.ClassFile.Instr) (st : List xa_V), decode (S mi).2.2.1 pc = .ok (ins, 1) → xa_End (S mi).2.2.2.1 ins st rv → xa_Rel b0 ca v3 cI cQ D xb_cl h' H → va_S (fun a : Nat => b0 ≤ a) s.heap H locs → cells ≤ R.cells → slots ≤ R.slots →
    W p l e R s m args below meth c H locs cells slots Q (F0 m pc lr (st.map (xa_cv b0 ca v3)))
theorem xa_s_end (hCl : xa_ClOK) {en : xa_E} {i : Nat} {ls st : List xa_V} {h h1 : xa_H} {pl : List Nat} {rv : Option xa_V} (hok : xa_ok G S mi i en pl = true) (ho : xa_one1 X en i ls st h = some (.inr (.inl (rv, h1)))) : h1 = h ∧ decode (S mi).2.2.1 en.1 = .ok (en.2.1, 1) ∧ xa_End (S mi).2.2.2.1 en.2.1 st rv := by
  obtain ⟨pb, ins, ln, x⟩ := en
  simp only [xa_ok, Bool.and_eq_true] at hok
  obtain ⟨k1, k2, -, k4⟩ := hok
  have hdg := xa_dec_of k1
  dsimp only at hdg ⊢
  have key : (ins = .return_ ∨ ins = .ireturn ∨ ins = .lreturn ∨ ins = .areturn) ∧ h1 = h ∧ xa_End (S mi).2.2.2.1 ins st rv := by
    unfold xa_one1 at ho
    split at ho
    all_goals try (exfalso; unfold xa_aload at ho; (repeat' split at ho) <;> cases ho; done)
    all_goals try (exfalso; unfold xa_iload at ho; (repeat' split at ho) <;> cases ho; done)
    all_goals try (exfalso; unfold xa_lload at ho; (repeat' split at ho) <;> cases ho; done)
    all_goals try (exfalso; unfold xa_astore at ho; (repeat' split at ho) <;> cases ho; done)
    all_goals try (exfalso; unfold xa_istore at ho; (repeat' split at ho) <;> cases ho; done)
    all_goals try (exfalso; unfold xa_lstore at ho; (repeat' split at ho) <;> cases ho; done)
    all_goals try (exfalso; unfold xa_two at ho; (repeat' split at ho) <;> cases ho; done)
    all_goals try (exfalso; unfold xa_div at ho; (repeat' split at ho) <;> cases ho; done)
    all_goals try (exfalso; unfold xa_two64 at ho; (repeat' split at ho) <;> cases ho; done)
    all_goals try (exfalso; unfold xa_one at ho; (repeat' split at ho) <;> cases ho; done)
    all_goals try (exfalso; unfold xa_if2 at ho; (repeat' split at ho) <;> cases ho; done)
    all_goals try (exfalso; unfold xa_if1 at ho; (repeat' split at ho) <;> cases ho; done)
    all_goals try (exfalso; unfold xa_getf at ho; (repeat' split at ho) <;> cases ho; done)
    all_goals try (exfalso; unfold xa_putf at ho; (repeat' split at ho) <;> cases ho; done)
    all_goals try (exfalso; unfold xa_gets at ho; (repeat' split at ho) <;> cases ho; done)
    all_goals try (exfalso; unfold xa_iald at ho; (repeat' split at ho) <;> cases ho; done)
    all_goals try (exfalso; unfold xa_bald at ho; (repeat' split at ho) <;> cases ho; done)
    all_goals try (exfalso; unfold xa_aald at ho; (repeat' split at ho) <;> cases ho; done)
    all_goals try (exfalso; unfold xa_iast at ho; (repeat' split at ho) <;> cases ho; done)
    all_goals try (exfalso; unfold xa_aast at ho; (repeat' split at ho) <;> cases ho; done)
    all_goals try (exfalso; unfold xa_alen at ho; (repeat' split at ho) <;> cases ho; done)
    all_goals try (exfalso; unfold xa_new at ho; (repeat' split at ho) <;> cases ho; done)
    all_goals try (exfalso; unfold xa_newi at ho; (repeat' split at ho) <;> cases ho; done)
    all_goals try (exfalso; unfold xa_newq at ho; (repeat' split at ho) <;> cases ho; done)
    all_goals try (exfalso; unfold xa_ldc at ho; (repeat' split at ho) <;> cases ho; done)
    all_goals try (exfalso; unfold xa_sw at ho; (repeat' split at ho) <;> cases ho; done)
    all_goals try (exfalso; unfold xa_lcmp at ho; (repeat' split at ho) <;> cases ho; done)
    all_goals try (exfalso; unfold xa_inv at ho; (repeat' split at ho) <;> cases ho; done)
    all_goals try (exfalso; (repeat' split at ho) <;> cases ho; done)
    · next hi =>
      dsimp only at hi
      subst hi
      split at ho
      · cases ho
        match x, pl, k4 with
        | [], [], k4 => exact ⟨Or.inl rfl, rfl, Or.inl ⟨rfl, rfl, rfl, by simpa [xa_extra] using k4⟩⟩
      · cases ho
    · next hi =>
      dsimp only at hi
      subst hi
      split at ho
      · next z t hxx =>
        split at ho
        · next hft =>
          cases ho
          dsimp only at hxx
          subst hxx
          match pl, k4 with
          | [], k4 =>
            simp only [xa_extra, Bool.or_eq_true, Bool.and_eq_true, decide_eq_true_eq] at k4
            refine ⟨Or.inr (Or.inl rfl), rfl, Or.inr (Or.inl ?_)⟩
            rcases k4 with ⟨rfl, g⟩ | ⟨rfl, g⟩ | ⟨rfl, g⟩ | ⟨rfl, g⟩
            · exact ⟨z, .int, rfl, rfl, rfl, g, rfl⟩
            · have hz : z = 0 ∨ z = 1 := by simpa [xa_fit] using hft
              rcases hz with rfl | rfl
              · exact ⟨0, .boolean, rfl, rfl, rfl, g, rfl⟩
              · exact ⟨1, .boolean, rfl, rfl, rfl, g, rfl⟩
            · have hz : -128 ≤ z ∧ z ≤ 127 := by simpa [xa_fit] using hft
              refine ⟨z, .byte, rfl, rfl, rfl, g, ?_⟩
              show Value.int (Int32.ofInt z).toInt8.toInt32 = _
              congr 1
              rw [← Int32.toInt_inj, Int8.toInt_toInt32, Int32.toInt_toInt8, xa_toI ⟨by omega, by omega⟩]
              show z.bmod 256 = z
              rw [Int.bmod_def]
              split <;> omega
            · have hz : 0 ≤ z ∧ z ≤ 65535 := by simpa [xa_fit] using hft
              refine ⟨z, .char, rfl, rfl, rfl, g, ?_⟩
              obtain ⟨n, rfl⟩ := Int.eq_ofNat_of_zero_le hz.1
              exact (pk_charN (q := n) (by omega)).1
        · cases ho
      · cases ho
    · next hi =>
      dsimp only at hi
      subst hi
      split at ho
      · next z =>
        cases ho
        match x, pl, k4 with
        | [], [], k4 => exact ⟨Or.inr (Or.inr (Or.inl rfl)), rfl, Or.inr (Or.inr (Or.inl ⟨z, rfl, rfl, rfl, by simpa [xa_extra] using k4⟩))⟩
      · cases ho
    · next hi =>
      dsimp only at hi
      subst hi
      split at ho
      · next z =>
        cases ho
        match x, pl, k4 with
        | [], [], k4 =>
          simp only [xa_extra] at k4
          split at k4
          · next C hC => exact ⟨Or.inr (Or.inr (Or.inr rfl)), rfl, Or.inr (Or.inr (Or.inr ⟨z, C, rfl, rfl, rfl, hC⟩))⟩
          · cases k4
      · cases ho
  refine ⟨key.2.1, ?_, key.2.2⟩
  have hln : ln = 1 := by
    rcases key.1 with rfl | rfl | rfl | rfl <;> simpa [xa_lenOK, xa_len] using k2
  rw [← hln]
  exact hdg
/-- a method's run, from any place -/
theorem xa_sim (C : xa_Cx G S mi X b0 ca v3 D cI cQ p R s m args meth c) (hCl : xa_ClOK) (hall : xa_allOK G S mi) {rv : Option xa_V} (hRT : xa_RT S mi b0 ca v3 D cI cQ p l e R s m args below meth c Q h' rv) : ∀ n, (∀ k, k < n → ∀ y, xa_Mt G S X l b0 ca v3 D cI cQ k y) → ∀ (i : Nat) (ls st : List xa_V) (h : xa_H), xa_ex G X n mi i ls st h = some (rv, h') → xa_WW G mi b0 ca v3 D cI cQ p l e R s m args below meth c Q h' i ls st h
  | 0, IH, i, ls, st, h, ex => by simp [xa_ex] at ex
  | n + 1, IH, i, ls, st, h, ex => by
    have grow := xa_ex_grow G X _ _ _ _ _ _ _ _ ex
    rw [xa_ex] at ex
    cases hf : (G.1 mi)[i]? with
    | none => rw [hf] at ex; simp at ex
    | some en =>
      rw [hf] at ex
      simp only at ex
      obtain ⟨pl, hok⟩ := hall i en hf
      cases ho : xa_one1 X en i ls st h with
      | none => rw [ho] at ex; simp at ex
      | some o =>
        rw [ho] at ex
        match o, ex, ho with
        | .inl (i', ls', st', h1), ex, ho =>
          have g2 := xa_ex_grow G X _ _ _ _ _ _ _ _ ex
          exact xa_s_next C hCl hf hok ho g2 (xa_sim C hCl hall hRT n (fun k hk => IH k (Nat.lt_succ_of_lt hk)) _ _ _ _ ex)
        | .inr (.inl r'), ex, ho =>
          have e2 : r' = (rv, h') := Option.some.inj ex
          subst e2
          obtain ⟨e3, e4, e5⟩ := xa_s_end hCl hok ho
          subst e3
          intro pc H locs cells slots lr hat hL hR hS hc hs
          have hpc := xa_at_of hf hat
          rw [hpc] at e4
          exact hRT pc H locs cells slots lr _ st e4 e5 hR hS (by omega) (by omega)
        | .inr (.inr (y, av, i', ls', rest)), ex, ho =>
          simp only at ex
          split at ex
          · next hargs =>
            split at ex
            · simp at ex
            · next rv1 h1 hc =>
              split at ex
              · next hz =>
                have g2 := xa_ex_grow G X _ _ _ _ _ _ _ _ ex
                exact xa_s_call C hf hok ho (IH n (Nat.lt_succ_self n) y) hargs hc hz.1 hz.2 g2 (xa_sim C hCl hall hRT n (fun k hk => IH k (Nat.lt_succ_of_lt hk)) _ _ _ _ ex)
              · simp at ex
          · simp at ex
end XD
end
section
/-! THE METHODS: their instructions, by their places, and what the numbers mean (laid by a program out of the decode rows and the tables' words) -/
def xt_0 : List xa_E := [(0, .aload_n 0, 1, []), (1, .invokespecial 3, 3, [6]), (4, .aload_n 0, 1, []), (5, .bipush 12, 2, []), (7, .newarray .int, 2, []), (9, .putfield 9, 3, [1, 0, 0, 2]), (12, .aload_n 0, 1, []), (13, .bipush 24, 2, []), (15, .newarray .int, 2, []), (17, .putfield 15, 3, [1, 0, 1, 2]), (20, .aload_n 0, 1, []), (21, .bipush 24, 2, []), (23, .newarray .int, 2, []), (25, .putfield 18, 3, [1, 0, 2, 2]), (28, .aload_n 0, 1, []), (29, .bipush 24, 2, []), (31, .newarray .int, 2, []), (33, .putfield 21, 3, [1, 0, 3, 2]), (36, .aload_n 0, 1, []), (37, .iconst 0, 1, []), (38, .putfield 24, 3, [0, 0, 4, 0]), (41, .return_, 1, [])]
def xt_1 : List xa_E := [(0, .aload_n 1, 1, []), (1, .iload_n 3, 1, []), (2, .invokevirtual 28, 3, [1, 10, 1, 1]), (5, .istore 5, 2, []), (7, .aload_n 1, 1, []), (8, .iload 5, 2, []), (10, .invokevirtual 34, 3, [1, 11, 1, 1]), (13, .istore 6, 2, []), (15, .aload_n 0, 1, []), (16, .aload_n 1, 1, []), (17, .iload 5, 2, []), (19, .iload_n 2, 1, []), (20, .iload_n 3, 1, []), (21, .iload 4, 2, []), (23, .invokevirtual 37, 3, [1, 2, 5, 0]), (26, .aload_n 0, 1, []), (27, .aload_n 1, 1, []), (28, .iload 5, 2, []), (30, .invokevirtual 41, 3, [1, 4, 2, 0]), (33, .istore 7, 2, []), (35, .iconst (-1), 1, []), (36, .istore 8, 2, []), (38, .bipush 13, 2, []), (40, .istore 9, 2, []), (42, .iconst 0, 1, []), (43, .istore 10, 2, []), (45, .iload 10, 2, []), (47, .iload 7, 2, []), (49, .if_icmp .gt 52, 3, [52]), (52, .iload 10, 2, []), (54, .iload 7, 2, []), (56, .iconst (-1), 1, []), (57, .ixor, 1, []), (58, .iand, 1, []), (59, .ifCond .ne 36, 3, [50]), (62, .iload 10, 2, []), (64, .invokestatic 45, 3, [0, 211, 1]), (67, .iload 9, 2, []), (69, .if_icmp .ge 26, 3, [50]), (72, .aload_n 0, 1, []), (73, .aload_n 1, 1, []), (74, .iload 10, 2, []), (76, .iload 6, 2, []), (78, .invokevirtual 50, 3, [1, 6, 3, 0]), (81, .ifCond .eq 14, 3, [50]), (84, .iload 10, 2, []), (86, .istore 8, 2, []), (88, .iload 10, 2, []), (90, .invokestatic 45, 3, [0, 211, 1]), (93, .istore 9, 2, []), (95, .iinc 10 1, 3, []), (98, .goto (-53), 3, [26]), (101, .iload 8, 2, []), (103, .ireturn, 1, [0])]
def xt_2 : List xa_E := [(0, .aload_n 0, 1, []), (1, .iconst 0, 1, []), (2, .putfield 24, 3, [0, 0, 4, 0]), (5, .iconst 0, 1, []), (6, .istore 6, 2, []), (8, .iload 6, 2, []), (10, .aload_n 1, 1, []), (11, .getfield 54, 3, [0, 1, 0]), (14, .getfield 58, 3, [0, 2, 4]), (17, .if_icmp .ge 60, 3, [41]), (20, .iload_n 2, 1, []), (21, .iload 6, 2, []), (23, .ishr, 1, []), (24, .iconst 1, 1, []), (25, .iand, 1, []), (26, .ifCond .eq 45, 3, [39]), (29, .aload_n 0, 1, []), (30, .getfield 9, 3, [0, 0, 0]), (33, .iload 6, 2, []), (35, .aload_n 1, 1, []), (36, .iload 6, 2, []), (38, .iload_n 3, 1, []), (39, .iload 4, 2, []), (41, .invokevirtual 61, 3, [1, 9, 3, 1]), (44, .iastore, 1, []), (45, .aload_n 0, 1, []), (46, .aload_n 1, 1, []), (47, .getfield 65, 3, [0, 1, 2]), (50, .iload 6, 2, []), (52, .iaload, 1, []), (53, .iload 5, 2, []), (55, .invokevirtual 68, 3, [1, 3, 2, 0]), (58, .aload_n 0, 1, []), (59, .aload_n 0, 1, []), (60, .getfield 9, 3, [0, 0, 0]), (63, .iload 6, 2, []), (65, .iaload, 1, []), (66, .iload 5, 2, []), (68, .invokevirtual 68, 3, [1, 3, 2, 0]), (71, .iinc 6 1, 3, []), (74, .goto (-66), 3, [5]), (77, .return_, 1, [])]
def xt_3 : List xa_E := [(0, .iload_n 1, 1, []), (1, .iload_n 2, 1, []), (2, .if_icmp .gt 50, 3, [28]), (5, .aload_n 0, 1, []), (6, .getfield 24, 3, [0, 0, 4]), (9, .aload_n 0, 1, []), (10, .getfield 15, 3, [0, 0, 1]), (13, .arraylength, 1, []), (14, .if_icmp .ge 38, 3, [28]), (17, .aload_n 0, 1, []), (18, .getfield 15, 3, [0, 0, 1]), (21, .aload_n 0, 1, []), (22, .getfield 24, 3, [0, 0, 4]), (25, .iload_n 1, 1, []), (26, .invokestatic 72, 3, [3, 114, 3]), (29, .ifCond .ne 23, 3, [28]), (32, .aload_n 0, 1, []), (33, .getfield 15, 3, [0, 0, 1]), (36, .aload_n 0, 1, []), (37, .getfield 24, 3, [0, 0, 4]), (40, .iload_n 1, 1, []), (41, .iastore, 1, []), (42, .aload_n 0, 1, []), (43, .dup, 1, []), (44, .getfield 24, 3, [0, 0, 4]), (47, .iconst 1, 1, []), (48, .iadd, 1, []), (49, .putfield 24, 3, [0, 0, 4, 0]), (52, .return_, 1, [])]
def xt_4 : List xa_E := [(0, .iconst 0, 1, []), (1, .istore_n 3, 1, []), (2, .iconst 0, 1, []), (3, .istore 4, 2, []), (5, .iload 4, 2, []), (7, .aload_n 0, 1, []), (8, .getfield 24, 3, [0, 0, 4]), (11, .if_icmp .ge 87, 3, [54]), (14, .aload_n 0, 1, []), (15, .getfield 18, 3, [0, 0, 2]), (18, .iload 4, 2, []), (20, .aload_n 0, 1, []), (21, .getfield 15, 3, [0, 0, 1]), (24, .iload 4, 2, []), (26, .iaload, 1, []), (27, .aload_n 1, 1, []), (28, .getfield 65, 3, [0, 1, 2]), (31, .aload_n 1, 1, []), (32, .getfield 54, 3, [0, 1, 0]), (35, .getfield 58, 3, [0, 2, 4]), (38, .invokestatic 76, 3, [0, 5, 3]), (41, .iload_n 2, 1, []), (42, .iand, 1, []), (43, .iastore, 1, []), (44, .aload_n 0, 1, []), (45, .getfield 21, 3, [0, 0, 3]), (48, .iload 4, 2, []), (50, .aload_n 0, 1, []), (51, .getfield 15, 3, [0, 0, 1]), (54, .iload 4, 2, []), (56, .iaload, 1, []), (57, .aload_n 0, 1, []), (58, .getfield 9, 3, [0, 0, 0]), (61, .aload_n 1, 1, []), (62, .getfield 54, 3, [0, 1, 0]), (65, .getfield 58, 3, [0, 2, 4]), (68, .invokestatic 76, 3, [0, 5, 3]), (71, .iload_n 2, 1, []), (72, .iand, 1, []), (73, .iastore, 1, []), (74, .iload_n 3, 1, []), (75, .aload_n 0, 1, []), (76, .getfield 18, 3, [0, 0, 2]), (79, .iload 4, 2, []), (81, .iaload, 1, []), (82, .aload_n 0, 1, []), (83, .getfield 21, 3, [0, 0, 3]), (86, .iload 4, 2, []), (88, .iaload, 1, []), (89, .ixor, 1, []), (90, .ior, 1, []), (91, .istore_n 3, 1, []), (92, .iinc 4 1, 3, []), (95, .goto (-90), 3, [4]), (98, .iload_n 3, 1, []), (99, .ireturn, 1, [0])]
def xt_5 : List xa_E := [(0, .iconst 0, 1, []), (1, .istore_n 3, 1, []), (2, .iconst 0, 1, []), (3, .istore 4, 2, []), (5, .iload 4, 2, []), (7, .iload_n 2, 1, []), (8, .if_icmp .ge 24, 3, [20]), (11, .iload_n 0, 1, []), (12, .aload_n 1, 1, []), (13, .iload 4, 2, []), (15, .iaload, 1, []), (16, .if_icmp .ge 10, 3, [18]), (19, .iload_n 3, 1, []), (20, .iconst 1, 1, []), (21, .iload 4, 2, []), (23, .ishl, 1, []), (24, .ior, 1, []), (25, .istore_n 3, 1, []), (26, .iinc 4 1, 3, []), (29, .goto (-24), 3, [4]), (32, .iload_n 3, 1, []), (33, .ireturn, 1, [0])]
def xt_6 : List xa_E := [(0, .iconst 0, 1, []), (1, .istore 4, 2, []), (3, .iload 4, 2, []), (5, .aload_n 0, 1, []), (6, .getfield 24, 3, [0, 0, 4]), (9, .if_icmp .ge 44, 3, [31]), (12, .aload_n 0, 1, []), (13, .getfield 18, 3, [0, 0, 2]), (16, .iload 4, 2, []), (18, .iaload, 1, []), (19, .iload_n 2, 1, []), (20, .iconst (-1), 1, []), (21, .ixor, 1, []), (22, .iand, 1, []), (23, .aload_n 0, 1, []), (24, .getfield 21, 3, [0, 0, 3]), (27, .iload 4, 2, []), (29, .iaload, 1, []), (30, .iload_n 2, 1, []), (31, .iand, 1, []), (32, .ior, 1, []), (33, .istore 5, 2, []), (35, .aload_n 1, 1, []), (36, .iload 5, 2, []), (38, .invokevirtual 34, 3, [1, 11, 1, 1]), (41, .iload_n 3, 1, []), (42, .if_icmp .eq 5, 3, [29]), (45, .iconst 0, 1, []), (46, .ireturn, 1, [1]), (47, .iinc 4 1, 3, []), (50, .goto (-47), 3, [2]), (53, .iconst 1, 1, []), (54, .ireturn, 1, [1])]
def xt_7 : List xa_E := [(0, .aload_n 0, 1, []), (1, .invokespecial 3, 3, [6]), (4, .aload_n 0, 1, []), (5, .bipush 12, 2, []), (7, .newarray .int, 2, []), (9, .putfield 9, 3, [1, 1, 2, 2]), (12, .aload_n 0, 1, []), (13, .new 15, 3, [3]), (16, .dup, 1, []), (17, .invokespecial 17, 3, [5, 26, 0, 3]), (20, .putfield 18, 3, [1, 1, 3, 2]), (23, .aload_n 0, 1, []), (24, .aload_n 1, 1, []), (25, .putfield 22, 3, [1, 1, 0, 2]), (28, .aload_n 0, 1, []), (29, .aload_n 2, 1, []), (30, .putfield 26, 3, [1, 1, 1, 2]), (33, .return_, 1, [])]
def xt_8 : List xa_E := [(0, .iconst 0, 1, []), (1, .istore_n 1, 1, []), (2, .iload_n 1, 1, []), (3, .aload_n 0, 1, []), (4, .getfield 22, 3, [0, 1, 0]), (7, .getfield 29, 3, [0, 2, 4]), (10, .if_icmp .ge 43, 3, [29]), (13, .aload_n 0, 1, []), (14, .getfield 9, 3, [0, 1, 2]), (17, .iload_n 1, 1, []), (18, .aload_n 0, 1, []), (19, .iload_n 1, 1, []), (20, .aload_n 0, 1, []), (21, .getfield 26, 3, [0, 1, 1]), (24, .aload_n 0, 1, []), (25, .getfield 22, 3, [0, 1, 0]), (28, .getfield 35, 3, [0, 2, 2]), (31, .iload_n 1, 1, []), (32, .iaload, 1, []), (33, .iaload, 1, []), (34, .aload_n 0, 1, []), (35, .getfield 22, 3, [0, 1, 0]), (38, .getfield 38, 3, [0, 2, 3]), (41, .iload_n 1, 1, []), (42, .iaload, 1, []), (43, .invokevirtual 41, 3, [1, 9, 3, 1]), (46, .iastore, 1, []), (47, .iinc 1 1, 3, []), (50, .goto (-48), 3, [2]), (53, .return_, 1, [])]
def xt_9 : List xa_E := [(0, .aload_n 0, 1, []), (1, .getfield 22, 3, [0, 1, 0]), (4, .getfield 45, 3, [0, 2, 5]), (7, .iload_n 3, 1, []), (8, .invokestatic 49, 3, [3, 123, 2]), (11, .aload_n 0, 1, []), (12, .getfield 22, 3, [0, 1, 0]), (15, .getfield 53, 3, [0, 2, 0]), (18, .iload_n 1, 1, []), (19, .iaload, 1, []), (20, .iload_n 2, 1, []), (21, .invokestatic 56, 3, [3, 122, 2]), (24, .iadd, 1, []), (25, .istore 4, 2, []), (27, .aload_n 0, 1, []), (28, .getfield 22, 3, [0, 1, 0]), (31, .getfield 45, 3, [0, 2, 5]), (34, .iload 4, 2, []), (36, .invokestatic 60, 3, [3, 124, 2]), (39, .ireturn, 1, [0])]
def xt_10 : List xa_E := [(0, .iconst 0, 1, []), (1, .istore_n 2, 1, []), (2, .iconst 0, 1, []), (3, .istore_n 3, 1, []), (4, .iload_n 3, 1, []), (5, .aload_n 0, 1, []), (6, .getfield 22, 3, [0, 1, 0]), (9, .getfield 29, 3, [0, 2, 4]), (12, .if_icmp .ge 38, 3, [30]), (15, .aload_n 0, 1, []), (16, .getfield 22, 3, [0, 1, 0]), (19, .getfield 38, 3, [0, 2, 3]), (22, .iload_n 3, 1, []), (23, .iaload, 1, []), (24, .iload_n 1, 1, []), (25, .if_icmp .gt 19, 3, [28]), (28, .iload_n 1, 1, []), (29, .aload_n 0, 1, []), (30, .getfield 9, 3, [0, 1, 2]), (33, .iload_n 3, 1, []), (34, .iaload, 1, []), (35, .if_icmp .ge 9, 3, [28]), (38, .iload_n 2, 1, []), (39, .iconst 1, 1, []), (40, .iload_n 3, 1, []), (41, .ishl, 1, []), (42, .ior, 1, []), (43, .istore_n 2, 1, []), (44, .iinc 3 1, 3, []), (47, .goto (-43), 3, [4]), (50, .iload_n 2, 1, []), (51, .ireturn, 1, [0])]
def xt_11 : List xa_E := [(0, .aload_n 0, 1, []), (1, .getfield 18, 3, [0, 1, 3]), (4, .invokevirtual 63, 3, [1, 27, 0, 3]), (7, .iconst 0, 1, []), (8, .istore_n 2, 1, []), (9, .iload_n 2, 1, []), (10, .aload_n 0, 1, []), (11, .getfield 22, 3, [0, 1, 0]), (14, .getfield 29, 3, [0, 2, 4]), (17, .if_icmp .ge 42, 3, [31]), (20, .iload_n 1, 1, []), (21, .iload_n 2, 1, []), (22, .ishr, 1, []), (23, .iconst 1, 1, []), (24, .iand, 1, []), (25, .ifCond .eq 28, 3, [29]), (28, .aload_n 0, 1, []), (29, .getfield 18, 3, [0, 1, 3]), (32, .aload_n 0, 1, []), (33, .getfield 22, 3, [0, 1, 0]), (36, .getfield 53, 3, [0, 2, 0]), (39, .iload_n 2, 1, []), (40, .iaload, 1, []), (41, .aload_n 0, 1, []), (42, .getfield 22, 3, [0, 1, 0]), (45, .getfield 66, 3, [0, 2, 1]), (48, .iload_n 2, 1, []), (49, .iaload, 1, []), (50, .invokevirtual 69, 3, [1, 28, 2, 3]), (53, .iinc 2 1, 3, []), (56, .goto (-47), 3, [5]), (59, .aload_n 0, 1, []), (60, .getfield 18, 3, [0, 1, 3]), (63, .invokevirtual 73, 3, [1, 29, 0, 3]), (66, .ireturn, 1, [0])]
def xt_12 : List xa_E := [(0, .aload_n 0, 1, []), (1, .getfield 18, 3, [0, 1, 3]), (4, .invokevirtual 63, 3, [1, 27, 0, 3]), (7, .iconst 0, 1, []), (8, .istore 4, 2, []), (10, .iload 4, 2, []), (12, .aload_n 0, 1, []), (13, .getfield 22, 3, [0, 1, 0]), (16, .getfield 29, 3, [0, 2, 4]), (19, .if_icmp .gt 80, 3, [48]), (22, .iload 4, 2, []), (24, .iload_n 2, 1, []), (25, .if_icmp .ne 20, 3, [22]), (28, .aload_n 0, 1, []), (29, .getfield 18, 3, [0, 1, 3]), (32, .getstatic 77, 3, [0, 6]), (35, .iload_n 3, 1, []), (36, .iaload, 1, []), (37, .getstatic 80, 3, [0, 7]), (40, .iload_n 3, 1, []), (41, .iaload, 1, []), (42, .invokevirtual 69, 3, [1, 28, 2, 3]), (45, .iload 4, 2, []), (47, .aload_n 0, 1, []), (48, .getfield 22, 3, [0, 1, 0]), (51, .getfield 29, 3, [0, 2, 4]), (54, .if_icmp .ge 39, 3, [46]), (57, .iload_n 1, 1, []), (58, .iload 4, 2, []), (60, .ishr, 1, []), (61, .iconst 1, 1, []), (62, .iand, 1, []), (63, .ifCond .eq 30, 3, [46]), (66, .aload_n 0, 1, []), (67, .getfield 18, 3, [0, 1, 3]), (70, .aload_n 0, 1, []), (71, .getfield 22, 3, [0, 1, 0]), (74, .getfield 53, 3, [0, 2, 0]), (77, .iload 4, 2, []), (79, .iaload, 1, []), (80, .aload_n 0, 1, []), (81, .getfield 22, 3, [0, 1, 0]), (84, .getfield 66, 3, [0, 2, 1]), (87, .iload 4, 2, []), (89, .iaload, 1, []), (90, .invokevirtual 69, 3, [1, 28, 2, 3]), (93, .iinc 4 1, 3, []), (96, .goto (-86), 3, [5]), (99, .aload_n 0, 1, []), (100, .getfield 18, 3, [0, 1, 3]), (103, .invokevirtual 73, 3, [1, 29, 0, 3]), (106, .ireturn, 1, [0])]
def xt_13 : List xa_E := [(0, .aload_n 0, 1, []), (1, .aload_n 0, 1, []), (2, .iload_n 1, 1, []), (3, .invokevirtual 83, 3, [1, 10, 1, 1]), (6, .invokevirtual 87, 3, [1, 11, 1, 1]), (9, .ireturn, 1, [0])]
def xt_14 : List xa_E := [(0, .sipush 10000, 3, []), (3, .istore_n 2, 1, []), (4, .iconst 0, 1, []), (5, .istore_n 3, 1, []), (6, .iload_n 3, 1, []), (7, .aload_n 0, 1, []), (8, .getfield 22, 3, [0, 1, 0]), (11, .getfield 29, 3, [0, 2, 4]), (14, .if_icmp .ge 57, 3, [39]), (17, .aload_n 0, 1, []), (18, .getfield 22, 3, [0, 1, 0]), (21, .getfield 38, 3, [0, 2, 3]), (24, .iload_n 3, 1, []), (25, .iaload, 1, []), (26, .iload_n 1, 1, []), (27, .if_icmp .le 17, 3, [24]), (30, .iload_n 2, 1, []), (31, .aload_n 0, 1, []), (32, .getfield 22, 3, [0, 1, 0]), (35, .getfield 38, 3, [0, 2, 3]), (38, .iload_n 3, 1, []), (39, .iaload, 1, []), (40, .invokestatic 90, 3, [8]), (43, .istore_n 2, 1, []), (44, .aload_n 0, 1, []), (45, .getfield 9, 3, [0, 1, 2]), (48, .iload_n 3, 1, []), (49, .iaload, 1, []), (50, .iload_n 1, 1, []), (51, .if_icmp .le 14, 3, [37]), (54, .iload_n 2, 1, []), (55, .aload_n 0, 1, []), (56, .getfield 9, 3, [0, 1, 2]), (59, .iload_n 3, 1, []), (60, .iaload, 1, []), (61, .invokestatic 90, 3, [8]), (64, .istore_n 2, 1, []), (65, .iinc 3 1, 3, []), (68, .goto (-62), 3, [4]), (71, .iload_n 2, 1, []), (72, .ireturn, 1, [0])]
def xt_15 : List xa_E := [(0, .aload_n 0, 1, []), (1, .iload_n 1, 1, []), (2, .invokevirtual 95, 3, [1, 13, 1, 1]), (5, .istore_n 3, 1, []), (6, .aload_n 0, 1, []), (7, .iload_n 1, 1, []), (8, .invokevirtual 98, 3, [1, 14, 1, 1]), (11, .istore 4, 2, []), (13, .iconst 0, 1, []), (14, .istore 5, 2, []), (16, .iload 5, 2, []), (18, .bipush 24, 2, []), (20, .if_icmp .ge 36, 3, [29]), (23, .iload 4, 2, []), (25, .iload_n 2, 1, []), (26, .if_icmp .gt 30, 3, [29]), (29, .aload_n 0, 1, []), (30, .iload 4, 2, []), (32, .invokevirtual 95, 3, [1, 13, 1, 1]), (35, .iload_n 3, 1, []), (36, .if_icmp .eq 6, 3, [23]), (39, .iload 4, 2, []), (41, .ireturn, 1, [0]), (42, .aload_n 0, 1, []), (43, .iload 4, 2, []), (45, .invokevirtual 98, 3, [1, 14, 1, 1]), (48, .istore 4, 2, []), (50, .iinc 5 1, 3, []), (53, .goto (-37), 3, [10]), (56, .iload_n 2, 1, []), (57, .iconst 1, 1, []), (58, .iadd, 1, []), (59, .ireturn, 1, [0])]
def xt_16 : List xa_E := [(0, .aload_n 0, 1, []), (1, .iload_n 1, 1, []), (2, .iload_n 2, 1, []), (3, .invokevirtual 101, 3, [1, 15, 2, 1]), (6, .iload_n 2, 1, []), (7, .if_icmp .le 7, 3, [8]), (10, .iconst 1, 1, []), (11, .goto 4, 3, [9]), (14, .iconst 0, 1, []), (15, .ireturn, 1, [1])]
def xt_17 : List xa_E := [(0, .iconst 0, 1, []), (1, .istore_n 3, 1, []), (2, .aload_n 0, 1, []), (3, .iconst 0, 1, []), (4, .iload_n 1, 1, []), (5, .iconst 1, 1, []), (6, .isub, 1, []), (7, .invokestatic 104, 3, [7]), (10, .iload_n 2, 1, []), (11, .invokevirtual 101, 3, [1, 15, 2, 1]), (14, .istore 4, 2, []), (16, .iconst 0, 1, []), (17, .istore 5, 2, []), (19, .iload 5, 2, []), (21, .bipush 24, 2, []), (23, .if_icmp .ge 27, 3, [27]), (26, .iload 4, 2, []), (28, .iload_n 2, 1, []), (29, .if_icmp .gt 21, 3, [27]), (32, .iinc 3 1, 3, []), (35, .aload_n 0, 1, []), (36, .iload 4, 2, []), (38, .iload_n 2, 1, []), (39, .invokevirtual 101, 3, [1, 15, 2, 1]), (42, .istore 4, 2, []), (44, .iinc 5 1, 3, []), (47, .goto (-28), 3, [13]), (50, .iload_n 3, 1, []), (51, .ireturn, 1, [0])]
def xt_18 : List xa_E := [(0, .iload_n 2, 1, []), (1, .istore_n 3, 1, []), (2, .iconst 0, 1, []), (3, .istore 4, 2, []), (5, .iload 4, 2, []), (7, .bipush 24, 2, []), (9, .if_icmp .gt 33, 3, [23]), (12, .iload_n 3, 1, []), (13, .sipush 9999, 3, []), (16, .if_icmp .gt 26, 3, [23]), (19, .aload_n 0, 1, []), (20, .iload_n 3, 1, []), (21, .invokevirtual 95, 3, [1, 13, 1, 1]), (24, .iload_n 1, 1, []), (25, .if_icmp .ne 5, 3, [17]), (28, .iload_n 3, 1, []), (29, .ireturn, 1, [0]), (30, .aload_n 0, 1, []), (31, .iload_n 3, 1, []), (32, .invokevirtual 98, 3, [1, 14, 1, 1]), (35, .istore_n 3, 1, []), (36, .iinc 4 1, 3, []), (39, .goto (-34), 3, [4]), (42, .sipush 10000, 3, []), (45, .ireturn, 1, [0])]
def xt_19 : List xa_E := [(0, .iconst 0, 1, []), (1, .istore_n 3, 1, []), (2, .iload_n 2, 1, []), (3, .istore 4, 2, []), (5, .iconst 0, 1, []), (6, .istore 5, 2, []), (8, .iload 5, 2, []), (10, .bipush 24, 2, []), (12, .if_icmp .gt 47, 3, [31]), (15, .iload 4, 2, []), (17, .sipush 9999, 3, []), (20, .if_icmp .gt 39, 3, [31]), (23, .aload_n 0, 1, []), (24, .iload 4, 2, []), (26, .invokevirtual 98, 3, [1, 14, 1, 1]), (29, .istore 6, 2, []), (31, .aload_n 0, 1, []), (32, .iload 4, 2, []), (34, .invokevirtual 95, 3, [1, 13, 1, 1]), (37, .iload_n 1, 1, []), (38, .if_icmp .ne 11, 3, [27]), (41, .iload_n 3, 1, []), (42, .iload 6, 2, []), (44, .iload 4, 2, []), (46, .isub, 1, []), (47, .iadd, 1, []), (48, .istore_n 3, 1, []), (49, .iload 6, 2, []), (51, .istore 4, 2, []), (53, .iinc 5 1, 3, []), (56, .goto (-48), 3, [6]), (59, .iload_n 3, 1, []), (60, .ireturn, 1, [0])]
def xt_20 : List xa_E := [(0, .aload_n 0, 1, []), (1, .iload_n 2, 1, []), (2, .invokevirtual 95, 3, [1, 13, 1, 1]), (5, .istore 4, 2, []), (7, .iconst 1, 1, []), (8, .istore 5, 2, []), (10, .iload 5, 2, []), (12, .sipush 999, 3, []), (15, .if_icmp .gt 91, 3, [52]), (18, .iconst 0, 1, []), (19, .istore 6, 2, []), (21, .iload 6, 2, []), (23, .aload_n 0, 1, []), (24, .getfield 22, 3, [0, 1, 0]), (27, .getfield 29, 3, [0, 2, 4]), (30, .if_icmp .ge 48, 3, [38]), (33, .aload_n 0, 1, []), (34, .getfield 22, 3, [0, 1, 0]), (37, .getfield 35, 3, [0, 2, 2]), (40, .iload 6, 2, []), (42, .iaload, 1, []), (43, .iload_n 1, 1, []), (44, .if_icmp .ne 28, 3, [36]), (47, .aload_n 0, 1, []), (48, .getfield 9, 3, [0, 1, 2]), (51, .iload 6, 2, []), (53, .aload_n 0, 1, []), (54, .iload 6, 2, []), (56, .iload 5, 2, []), (58, .aload_n 0, 1, []), (59, .getfield 22, 3, [0, 1, 0]), (62, .getfield 38, 3, [0, 2, 3]), (65, .iload 6, 2, []), (67, .iaload, 1, []), (68, .invokevirtual 41, 3, [1, 9, 3, 1]), (71, .iastore, 1, []), (72, .iinc 6 1, 3, []), (75, .goto (-54), 3, [11]), (78, .aload_n 0, 1, []), (79, .iload_n 2, 1, []), (80, .invokevirtual 95, 3, [1, 13, 1, 1]), (83, .iload 4, 2, []), (85, .if_icmp .ne 15, 3, [50]), (88, .aload_n 0, 1, []), (89, .iload_n 2, 1, []), (90, .iload_n 3, 1, []), (91, .invokevirtual 107, 3, [1, 16, 2, 1]), (94, .ifCond .eq 6, 3, [50]), (97, .iload 5, 2, []), (99, .ireturn, 1, [0]), (100, .iinc 5 1, 3, []), (103, .goto (-93), 3, [6]), (106, .iconst (-1), 1, []), (107, .ireturn, 1, [0])]
def xt_21 : List xa_E := [(0, .aload_n 0, 1, []), (1, .invokespecial 3, 3, [6]), (4, .aload_n 0, 1, []), (5, .bipush 12, 2, []), (7, .newarray .int, 2, []), (9, .putfield 9, 3, [1, 2, 0, 2]), (12, .aload_n 0, 1, []), (13, .bipush 12, 2, []), (15, .newarray .int, 2, []), (17, .putfield 15, 3, [1, 2, 1, 2]), (20, .aload_n 0, 1, []), (21, .bipush 12, 2, []), (23, .newarray .int, 2, []), (25, .putfield 18, 3, [1, 2, 2, 2]), (28, .aload_n 0, 1, []), (29, .bipush 12, 2, []), (31, .newarray .int, 2, []), (33, .putfield 21, 3, [1, 2, 3, 2]), (36, .aload_n 0, 1, []), (37, .iconst 0, 1, []), (38, .putfield 24, 3, [0, 2, 4, 0]), (41, .aload_n 0, 1, []), (42, .iconst 0, 1, []), (43, .putfield 28, 3, [0, 2, 5, 1]), (46, .return_, 1, [])]
def xt_22 : List xa_E := [(0, .aload_n 0, 1, []), (1, .getfield 24, 3, [0, 2, 4]), (4, .bipush 12, 2, []), (6, .if_icmp .lt 7, 3, [6]), (9, .iconst 1, 1, []), (10, .goto 4, 3, [7]), (13, .iconst 0, 1, []), (14, .ireturn, 1, [1])]
def xt_23 : List xa_E := [(0, .aload_n 0, 1, []), (1, .invokevirtual 32, 3, [1, 22, 0, 2]), (4, .ifCond .eq 4, 3, [4]), (7, .return_, 1, []), (8, .aload_n 0, 1, []), (9, .getfield 9, 3, [0, 2, 0]), (12, .aload_n 0, 1, []), (13, .getfield 24, 3, [0, 2, 4]), (16, .iload_n 1, 1, []), (17, .iastore, 1, []), (18, .aload_n 0, 1, []), (19, .getfield 15, 3, [0, 2, 1]), (22, .aload_n 0, 1, []), (23, .getfield 24, 3, [0, 2, 4]), (26, .iload_n 2, 1, []), (27, .iastore, 1, []), (28, .aload_n 0, 1, []), (29, .getfield 18, 3, [0, 2, 2]), (32, .aload_n 0, 1, []), (33, .getfield 24, 3, [0, 2, 4]), (36, .iload_n 3, 1, []), (37, .iastore, 1, []), (38, .aload_n 0, 1, []), (39, .getfield 21, 3, [0, 2, 3]), (42, .aload_n 0, 1, []), (43, .getfield 24, 3, [0, 2, 4]), (46, .iload 4, 2, []), (48, .iastore, 1, []), (49, .aload_n 0, 1, []), (50, .dup, 1, []), (51, .getfield 24, 3, [0, 2, 4]), (54, .iconst 1, 1, []), (55, .iadd, 1, []), (56, .putfield 24, 3, [0, 2, 4, 0]), (59, .return_, 1, [])]
def xt_24 : List xa_E := [(0, .iload_n 1, 1, []), (1, .istore_n 2, 1, []), (2, .iload_n 2, 1, []), (3, .aload_n 0, 1, []), (4, .getfield 24, 3, [0, 2, 4]), (7, .iconst 1, 1, []), (8, .isub, 1, []), (9, .if_icmp .ge 65, 3, [50]), (12, .aload_n 0, 1, []), (13, .getfield 9, 3, [0, 2, 0]), (16, .iload_n 2, 1, []), (17, .aload_n 0, 1, []), (18, .getfield 9, 3, [0, 2, 0]), (21, .iload_n 2, 1, []), (22, .iconst 1, 1, []), (23, .iadd, 1, []), (24, .iaload, 1, []), (25, .iastore, 1, []), (26, .aload_n 0, 1, []), (27, .getfield 15, 3, [0, 2, 1]), (30, .iload_n 2, 1, []), (31, .aload_n 0, 1, []), (32, .getfield 15, 3, [0, 2, 1]), (35, .iload_n 2, 1, []), (36, .iconst 1, 1, []), (37, .iadd, 1, []), (38, .iaload, 1, []), (39, .iastore, 1, []), (40, .aload_n 0, 1, []), (41, .getfield 18, 3, [0, 2, 2]), (44, .iload_n 2, 1, []), (45, .aload_n 0, 1, []), (46, .getfield 18, 3, [0, 2, 2]), (49, .iload_n 2, 1, []), (50, .iconst 1, 1, []), (51, .iadd, 1, []), (52, .iaload, 1, []), (53, .iastore, 1, []), (54, .aload_n 0, 1, []), (55, .getfield 21, 3, [0, 2, 3]), (58, .iload_n 2, 1, []), (59, .aload_n 0, 1, []), (60, .getfield 21, 3, [0, 2, 3]), (63, .iload_n 2, 1, []), (64, .iconst 1, 1, []), (65, .iadd, 1, []), (66, .iaload, 1, []), (67, .iastore, 1, []), (68, .iinc 2 1, 3, []), (71, .goto (-69), 3, [2]), (74, .aload_n 0, 1, []), (75, .dup, 1, []), (76, .getfield 24, 3, [0, 2, 4]), (79, .iconst 1, 1, []), (80, .isub, 1, []), (81, .putfield 24, 3, [0, 2, 4, 0]), (84, .return_, 1, [])]
def xt_25 : List xa_E := [(0, .iconst 0, 1, []), (1, .istore_n 2, 1, []), (2, .iload_n 2, 1, []), (3, .aload_n 1, 1, []), (4, .getfield 24, 3, [0, 2, 4]), (7, .if_icmp .ge 57, 3, [40]), (10, .aload_n 0, 1, []), (11, .getfield 9, 3, [0, 2, 0]), (14, .iload_n 2, 1, []), (15, .aload_n 1, 1, []), (16, .getfield 9, 3, [0, 2, 0]), (19, .iload_n 2, 1, []), (20, .iaload, 1, []), (21, .iastore, 1, []), (22, .aload_n 0, 1, []), (23, .getfield 15, 3, [0, 2, 1]), (26, .iload_n 2, 1, []), (27, .aload_n 1, 1, []), (28, .getfield 15, 3, [0, 2, 1]), (31, .iload_n 2, 1, []), (32, .iaload, 1, []), (33, .iastore, 1, []), (34, .aload_n 0, 1, []), (35, .getfield 18, 3, [0, 2, 2]), (38, .iload_n 2, 1, []), (39, .aload_n 1, 1, []), (40, .getfield 18, 3, [0, 2, 2]), (43, .iload_n 2, 1, []), (44, .iaload, 1, []), (45, .iastore, 1, []), (46, .aload_n 0, 1, []), (47, .getfield 21, 3, [0, 2, 3]), (50, .iload_n 2, 1, []), (51, .aload_n 1, 1, []), (52, .getfield 21, 3, [0, 2, 3]), (55, .iload_n 2, 1, []), (56, .iaload, 1, []), (57, .iastore, 1, []), (58, .iinc 2 1, 3, []), (61, .goto (-59), 3, [2]), (64, .aload_n 0, 1, []), (65, .aload_n 1, 1, []), (66, .getfield 24, 3, [0, 2, 4]), (69, .putfield 24, 3, [0, 2, 4, 0]), (72, .aload_n 0, 1, []), (73, .aload_n 1, 1, []), (74, .getfield 28, 3, [0, 2, 5]), (77, .putfield 28, 3, [0, 2, 5, 1]), (80, .return_, 1, [])]
def xt_26 : List xa_E := [(0, .aload_n 0, 1, []), (1, .invokespecial 3, 3, [6]), (4, .return_, 1, [])]
def xt_27 : List xa_E := [(0, .aload_n 0, 1, []), (1, .iconst 0, 1, []), (2, .putfield 9, 3, [0, 3, 0, 0]), (5, .aload_n 0, 1, []), (6, .ldc 15, 2, [0, 65535]), (8, .putfield 16, 3, [0, 3, 1, 0]), (11, .aload_n 0, 1, []), (12, .iconst 0, 1, []), (13, .putfield 19, 3, [0, 3, 2, 1]), (16, .aload_n 0, 1, []), (17, .iconst 1, 1, []), (18, .putfield 23, 3, [0, 3, 3, 1]), (21, .aload_n 0, 1, []), (22, .iconst 0, 1, []), (23, .putfield 26, 3, [0, 3, 4, 1]), (26, .return_, 1, [])]
def xt_28 : List xa_E := [(0, .iload_n 1, 1, []), (1, .ifCond .ne 4, 3, [3]), (4, .return_, 1, []), (5, .iload_n 1, 1, []), (6, .iconst 3, 1, []), (7, .if_icmp .eq 8, 3, [9]), (10, .iload_n 1, 1, []), (11, .iconst 5, 1, []), (12, .if_icmp .ne 7, 3, [11]), (15, .iconst 1, 1, []), (16, .goto 4, 3, [12]), (19, .iconst 0, 1, []), (20, .istore_n 3, 1, []), (21, .iload_n 3, 1, []), (22, .aload_n 0, 1, []), (23, .getfield 23, 3, [0, 3, 3]), (26, .if_icmp .ne 11, 3, [21]), (29, .aload_n 0, 1, []), (30, .iconst 1, 1, []), (31, .putfield 26, 3, [0, 3, 4, 1]), (34, .goto 106, 3, [75]), (37, .iload_n 1, 1, []), (38, .iconst 2, 1, []), (39, .if_icmp .ne 22, 3, [33]), (42, .aload_n 0, 1, []), (43, .aload_n 0, 1, []), (44, .getfield 19, 3, [0, 3, 2]), (47, .ifCond .ne 7, 3, [30]), (50, .iconst 1, 1, []), (51, .goto 4, 3, [31]), (54, .iconst 0, 1, []), (55, .putfield 19, 3, [0, 3, 2, 1]), (58, .goto 82, 3, [75]), (61, .iload_n 3, 1, []), (62, .ifCond .eq 35, 3, [52]), (65, .iload_n 1, 1, []), (66, .iconst 5, 1, []), (67, .if_icmp .ne 22, 3, [48]), (70, .aload_n 0, 1, []), (71, .dup, 1, []), (72, .getfield 9, 3, [0, 3, 0]), (75, .aload_n 0, 1, []), (76, .getfield 16, 3, [0, 3, 1]), (79, .ior, 1, []), (80, .putfield 9, 3, [0, 3, 0, 0]), (83, .aload_n 0, 1, []), (84, .ldc 15, 2, [0, 65535]), (86, .putfield 16, 3, [0, 3, 1, 0]), (89, .aload_n 0, 1, []), (90, .iconst 1, 1, []), (91, .putfield 23, 3, [0, 3, 3, 1]), (94, .goto 46, 3, [75]), (97, .getstatic 29, 3, [0, 5]), (100, .iload_n 2, 1, []), (101, .iaload, 1, []), (102, .istore 4, 2, []), (104, .aload_n 0, 1, []), (105, .dup, 1, []), (106, .getfield 16, 3, [0, 3, 1]), (109, .aload_n 0, 1, []), (110, .getfield 19, 3, [0, 3, 2]), (113, .ifCond .eq 11, 3, [66]), (116, .ldc 15, 2, [0, 65535]), (118, .iload 4, 2, []), (120, .ixor, 1, []), (121, .goto 5, 3, [67]), (124, .iload 4, 2, []), (126, .iand, 1, []), (127, .putfield 16, 3, [0, 3, 1, 0]), (130, .aload_n 0, 1, []), (131, .iconst 0, 1, []), (132, .putfield 19, 3, [0, 3, 2, 1]), (135, .aload_n 0, 1, []), (136, .iconst 0, 1, []), (137, .putfield 23, 3, [0, 3, 3, 1]), (140, .return_, 1, [])]
def xt_29 : List xa_E := [(0, .aload_n 0, 1, []), (1, .getfield 26, 3, [0, 3, 4]), (4, .ifCond .ne 10, 3, [6]), (7, .aload_n 0, 1, []), (8, .getfield 23, 3, [0, 3, 3]), (11, .ifCond .eq 7, 3, [8]), (14, .iconst (-1), 1, []), (15, .goto 12, 3, [13]), (18, .aload_n 0, 1, []), (19, .getfield 9, 3, [0, 3, 0]), (22, .aload_n 0, 1, []), (23, .getfield 16, 3, [0, 3, 1]), (26, .ior, 1, []), (27, .ireturn, 1, [0])]
def xt_30 : List xa_E := [(0, .aload_n 0, 1, []), (1, .invokespecial 3, 3, [6]), (4, .aload_n 0, 1, []), (5, .bipush 40, 2, []), (7, .newarray .int, 2, []), (9, .putfield 9, 3, [1, 4, 0, 2]), (12, .aload_n 0, 1, []), (13, .iconst 0, 1, []), (14, .putfield 15, 3, [0, 4, 1, 0]), (17, .aload_n 0, 1, []), (18, .iconst 0, 1, []), (19, .putfield 19, 3, [0, 4, 2, 0]), (22, .return_, 1, [])]
def xt_31 : List xa_E := [(0, .aload_n 0, 1, []), (1, .getfield 15, 3, [0, 4, 1]), (4, .ifCond .ne 7, 3, [5]), (7, .iconst 1, 1, []), (8, .goto 4, 3, [6]), (11, .iconst 0, 1, []), (12, .ireturn, 1, [1])]
def xt_32 : List xa_E := [(0, .aload_n 0, 1, []), (1, .iload_n 1, 1, []), (2, .putfield 15, 3, [0, 4, 1, 0]), (5, .aload_n 0, 1, []), (6, .iload_n 1, 1, []), (7, .ifCond .ne 7, 3, [8]), (10, .iconst 0, 1, []), (11, .goto 4, 3, [9]), (14, .iload_n 2, 1, []), (15, .putfield 19, 3, [0, 4, 2, 0]), (18, .iconst 0, 1, []), (19, .istore_n 3, 1, []), (20, .iload_n 3, 1, []), (21, .aload_n 0, 1, []), (22, .getfield 19, 3, [0, 4, 2]), (25, .if_icmp .ge 16, 3, [23]), (28, .aload_n 0, 1, []), (29, .getfield 9, 3, [0, 4, 0]), (32, .iload_n 3, 1, []), (33, .iconst 0, 1, []), (34, .iastore, 1, []), (35, .iinc 3 1, 3, []), (38, .goto (-18), 3, [12]), (41, .return_, 1, [])]
def xt_33 : List xa_E := [(0, .aload_n 0, 1, []), (1, .getfield 15, 3, [0, 4, 1]), (4, .bipush 8, 2, []), (6, .if_icmp .ne 14, 3, [11]), (9, .aload_n 0, 1, []), (10, .getfield 9, 3, [0, 4, 0]), (13, .iload_n 1, 1, []), (14, .iload_n 2, 1, []), (15, .i2b, 1, []), (16, .iastore, 1, []), (17, .goto 24, 3, [23]), (20, .aload_n 0, 1, []), (21, .getfield 9, 3, [0, 4, 0]), (24, .iload_n 1, 1, []), (25, .aload_n 0, 1, []), (26, .getfield 15, 3, [0, 4, 1]), (29, .bipush 16, 2, []), (31, .if_icmp .ne 8, 3, [21]), (34, .iload_n 2, 1, []), (35, .i2s, 1, []), (36, .goto 4, 3, [22]), (39, .iload_n 2, 1, []), (40, .iastore, 1, []), (41, .return_, 1, [])]
def xt_34 : List xa_E := [(0, .iload_n 1, 1, []), (1, .ifCond .lt 29, 3, [16]), (4, .iload_n 2, 1, []), (5, .ifCond .lt 25, 3, [16]), (8, .iload_n 2, 1, []), (9, .aload_n 0, 1, []), (10, .getfield 19, 3, [0, 4, 2]), (13, .if_icmp .gt 17, 3, [16]), (16, .iload_n 1, 1, []), (17, .aload_n 0, 1, []), (18, .getfield 19, 3, [0, 4, 2]), (21, .iload_n 2, 1, []), (22, .isub, 1, []), (23, .if_icmp .gt 7, 3, [16]), (26, .iconst 1, 1, []), (27, .goto 4, 3, [17]), (30, .iconst 0, 1, []), (31, .ireturn, 1, [1])]
def xt_35 : List xa_E := [(0, .aload_n 0, 1, []), (1, .invokespecial 3, 3, [6]), (4, .aload_n 0, 1, []), (5, .bipush 120, 2, []), (7, .newarray .int, 2, []), (9, .putfield 9, 3, [1, 5, 0, 2]), (12, .aload_n 0, 1, []), (13, .iconst 0, 1, []), (14, .putfield 15, 3, [0, 5, 1, 0]), (17, .aload_n 0, 1, []), (18, .iconst 0, 1, []), (19, .putfield 19, 3, [0, 5, 2, 0]), (22, .aload_n 0, 1, []), (23, .iconst 0, 1, []), (24, .putfield 22, 3, [0, 5, 3, 0]), (27, .aload_n 0, 1, []), (28, .iconst 0, 1, []), (29, .putfield 25, 3, [0, 5, 4, 0]), (32, .aload_n 0, 1, []), (33, .iconst 0, 1, []), (34, .putfield 28, 3, [0, 5, 5, 0]), (37, .return_, 1, [])]
def xt_36 : List xa_E := [(0, .aload_n 0, 1, []), (1, .getfield 19, 3, [0, 5, 2]), (4, .bipush 120, 2, []), (6, .if_icmp .ge 23, 3, [16]), (9, .aload_n 0, 1, []), (10, .getfield 9, 3, [0, 5, 0]), (13, .aload_n 0, 1, []), (14, .getfield 19, 3, [0, 5, 2]), (17, .iload_n 1, 1, []), (18, .iastore, 1, []), (19, .aload_n 0, 1, []), (20, .dup, 1, []), (21, .getfield 19, 3, [0, 5, 2]), (24, .iconst 1, 1, []), (25, .iadd, 1, []), (26, .putfield 19, 3, [0, 5, 2, 0]), (29, .return_, 1, [])]
def xt_37 : List xa_E := [(0, .aload_n 0, 1, []), (1, .iconst 0, 1, []), (2, .putfield 15, 3, [0, 5, 1, 0]), (5, .aload_n 0, 1, []), (6, .invokevirtual 31, 3, [1, 38, 0, 5]), (9, .return_, 1, [])]
def xt_38 : List xa_E := [(0, .aload_n 0, 1, []), (1, .aload_n 0, 1, []), (2, .getfield 15, 3, [0, 5, 1]), (5, .putfield 22, 3, [0, 5, 3, 0]), (8, .aload_n 0, 1, []), (9, .getfield 22, 3, [0, 5, 3]), (12, .aload_n 0, 1, []), (13, .getfield 19, 3, [0, 5, 2]), (16, .if_icmp .ge 30, 3, [23]), (19, .aload_n 0, 1, []), (20, .getfield 9, 3, [0, 5, 0]), (23, .aload_n 0, 1, []), (24, .getfield 22, 3, [0, 5, 3]), (27, .iaload, 1, []), (28, .bipush 32, 2, []), (30, .if_icmp .ne 16, 3, [23]), (33, .aload_n 0, 1, []), (34, .dup, 1, []), (35, .getfield 22, 3, [0, 5, 3]), (38, .iconst 1, 1, []), (39, .iadd, 1, []), (40, .putfield 22, 3, [0, 5, 3, 0]), (43, .goto (-35), 3, [4]), (46, .aload_n 0, 1, []), (47, .aload_n 0, 1, []), (48, .getfield 22, 3, [0, 5, 3]), (51, .putfield 15, 3, [0, 5, 1, 0]), (54, .aload_n 0, 1, []), (55, .iconst 0, 1, []), (56, .putfield 28, 3, [0, 5, 5, 0]), (59, .aload_n 0, 1, []), (60, .getfield 15, 3, [0, 5, 1]), (63, .aload_n 0, 1, []), (64, .getfield 19, 3, [0, 5, 2]), (67, .if_icmp .ge 31, 3, [49]), (70, .aload_n 0, 1, []), (71, .getfield 9, 3, [0, 5, 0]), (74, .aload_n 0, 1, []), (75, .getfield 15, 3, [0, 5, 1]), (78, .iaload, 1, []), (79, .invokestatic 34, 3, [0, 39, 1]), (82, .ifCond .eq 16, 3, [49]), (85, .aload_n 0, 1, []), (86, .dup, 1, []), (87, .getfield 15, 3, [0, 5, 1]), (90, .iconst 1, 1, []), (91, .iadd, 1, []), (92, .putfield 15, 3, [0, 5, 1, 0]), (95, .goto (-36), 3, [30]), (98, .aload_n 0, 1, []), (99, .getfield 15, 3, [0, 5, 1]), (102, .aload_n 0, 1, []), (103, .getfield 22, 3, [0, 5, 3]), (106, .if_icmp .le 9, 3, [58]), (109, .aload_n 0, 1, []), (110, .iconst 1, 1, []), (111, .putfield 25, 3, [0, 5, 4, 0]), (114, .return_, 1, []), (115, .aload_n 0, 1, []), (116, .getfield 15, 3, [0, 5, 1]), (119, .aload_n 0, 1, []), (120, .getfield 19, 3, [0, 5, 2]), (123, .if_icmp .ge 65, 3, [95]), (126, .aload_n 0, 1, []), (127, .getfield 9, 3, [0, 5, 0]), (130, .aload_n 0, 1, []), (131, .getfield 15, 3, [0, 5, 1]), (134, .iaload, 1, []), (135, .invokestatic 38, 3, [0, 40, 1]), (138, .ifCond .eq 50, 3, [95]), (141, .aload_n 0, 1, []), (142, .getfield 28, 3, [0, 5, 5]), (145, .sipush 9999, 3, []), (148, .if_icmp .gt 27, 3, [88]), (151, .aload_n 0, 1, []), (152, .bipush 10, 2, []), (154, .aload_n 0, 1, []), (155, .getfield 28, 3, [0, 5, 5]), (158, .imul, 1, []), (159, .aload_n 0, 1, []), (160, .getfield 9, 3, [0, 5, 0]), (163, .aload_n 0, 1, []), (164, .getfield 15, 3, [0, 5, 1]), (167, .iaload, 1, []), (168, .iadd, 1, []), (169, .bipush 48, 2, []), (171, .isub, 1, []), (172, .putfield 28, 3, [0, 5, 5, 0]), (175, .aload_n 0, 1, []), (176, .dup, 1, []), (177, .getfield 15, 3, [0, 5, 1]), (180, .iconst 1, 1, []), (181, .iadd, 1, []), (182, .putfield 15, 3, [0, 5, 1, 0]), (185, .goto (-70), 3, [58]), (188, .aload_n 0, 1, []), (189, .getfield 15, 3, [0, 5, 1]), (192, .aload_n 0, 1, []), (193, .getfield 22, 3, [0, 5, 3]), (196, .if_icmp .le 11, 3, [104]), (199, .aload_n 0, 1, []), (200, .iconst 2, 1, []), (201, .putfield 25, 3, [0, 5, 4, 0]), (204, .goto 55, 3, [131]), (207, .aload_n 0, 1, []), (208, .getfield 22, 3, [0, 5, 3]), (211, .aload_n 0, 1, []), (212, .getfield 19, 3, [0, 5, 2]), (215, .if_icmp .lt 11, 3, [113]), (218, .aload_n 0, 1, []), (219, .iconst 0, 1, []), (220, .putfield 25, 3, [0, 5, 4, 0]), (223, .goto 36, 3, [131]), (226, .aload_n 0, 1, []), (227, .aload_n 0, 1, []), (228, .getfield 9, 3, [0, 5, 0]), (231, .aload_n 0, 1, []), (232, .getfield 22, 3, [0, 5, 3]), (235, .iaload, 1, []), (236, .bipush 59, 2, []), (238, .if_icmp .ne 7, 3, [123]), (241, .iconst 3, 1, []), (242, .goto 4, 3, [124]), (245, .iconst 4, 1, []), (246, .putfield 25, 3, [0, 5, 4, 0]), (249, .aload_n 0, 1, []), (250, .aload_n 0, 1, []), (251, .getfield 22, 3, [0, 5, 3]), (254, .iconst 1, 1, []), (255, .iadd, 1, []), (256, .putfield 15, 3, [0, 5, 1, 0]), (259, .return_, 1, [])]
def xt_39 : List xa_E := [(0, .iload_n 0, 1, []), (1, .bipush 97, 2, []), (3, .if_icmp .lt 13, 3, [8]), (6, .iload_n 0, 1, []), (7, .bipush 122, 2, []), (9, .if_icmp .gt 7, 3, [8]), (12, .iconst 1, 1, []), (13, .goto 4, 3, [9]), (16, .iconst 0, 1, []), (17, .ireturn, 1, [1])]
def xt_40 : List xa_E := [(0, .iload_n 0, 1, []), (1, .bipush 48, 2, []), (3, .if_icmp .lt 13, 3, [8]), (6, .iload_n 0, 1, []), (7, .bipush 57, 2, []), (9, .if_icmp .gt 7, 3, [8]), (12, .iconst 1, 1, []), (13, .goto 4, 3, [9]), (16, .iconst 0, 1, []), (17, .ireturn, 1, [1])]
def xt_41 : List xa_E := [(0, .aload_n 0, 1, []), (1, .getfield 25, 3, [0, 5, 4]), (4, .iconst 1, 1, []), (5, .if_icmp .ne 19, 3, [12]), (8, .aload_n 0, 1, []), (9, .getfield 15, 3, [0, 5, 1]), (12, .aload_n 0, 1, []), (13, .getfield 22, 3, [0, 5, 3]), (16, .isub, 1, []), (17, .aload_n 1, 1, []), (18, .invokevirtual 41, 3, [10, 212, 0, 0]), (21, .if_icmp .eq 5, 3, [14]), (24, .iconst 0, 1, []), (25, .ireturn, 1, [1]), (26, .iconst 0, 1, []), (27, .istore_n 2, 1, []), (28, .iload_n 2, 1, []), (29, .aload_n 1, 1, []), (30, .invokevirtual 41, 3, [10, 212, 0, 0]), (33, .if_icmp .ge 30, 3, [35]), (36, .aload_n 0, 1, []), (37, .getfield 9, 3, [0, 5, 0]), (40, .aload_n 0, 1, []), (41, .getfield 22, 3, [0, 5, 3]), (44, .iload_n 2, 1, []), (45, .iadd, 1, []), (46, .iaload, 1, []), (47, .aload_n 1, 1, []), (48, .iload_n 2, 1, []), (49, .invokevirtual 47, 3, [10, 213, 1, 0]), (52, .if_icmp .eq 5, 3, [33]), (55, .iconst 0, 1, []), (56, .ireturn, 1, [1]), (57, .iinc 2 1, 3, []), (60, .goto (-32), 3, [16]), (63, .iconst 1, 1, []), (64, .ireturn, 1, [1])]
def xt_42 : List xa_E := [(0, .aload_n 0, 1, []), (1, .getfield 25, 3, [0, 5, 4]), (4, .iconst 1, 1, []), (5, .if_icmp .ne 30, 3, [18]), (8, .aload_n 0, 1, []), (9, .getfield 15, 3, [0, 5, 1]), (12, .aload_n 0, 1, []), (13, .getfield 22, 3, [0, 5, 3]), (16, .isub, 1, []), (17, .iconst 1, 1, []), (18, .if_icmp .ne 17, 3, [18]), (21, .aload_n 0, 1, []), (22, .getfield 9, 3, [0, 5, 0]), (25, .aload_n 0, 1, []), (26, .getfield 22, 3, [0, 5, 3]), (29, .iaload, 1, []), (30, .bipush 100, 2, []), (32, .if_icmp .le 5, 3, [20]), (35, .iconst (-1), 1, []), (36, .ireturn, 1, [0]), (37, .aload_n 0, 1, []), (38, .getfield 9, 3, [0, 5, 0]), (41, .aload_n 0, 1, []), (42, .getfield 22, 3, [0, 5, 3]), (45, .iaload, 1, []), (46, .bipush 97, 2, []), (48, .isub, 1, []), (49, .ireturn, 1, [0])]
def xt_43 : List xa_E := [(0, .aload_n 0, 1, []), (1, .invokespecial 3, 3, [6]), (4, .aload_n 0, 1, []), (5, .iconst 0, 1, []), (6, .putfield 9, 3, [0, 6, 2, 0]), (9, .aload_n 0, 1, []), (10, .aload_n 1, 1, []), (11, .putfield 15, 3, [1, 6, 0, 2]), (14, .aload_n 0, 1, []), (15, .aload_n 2, 1, []), (16, .putfield 19, 3, [1, 6, 1, 2]), (19, .return_, 1, [])]
def xt_44 : List xa_E := [(0, .aload_n 0, 1, []), (1, .getfield 15, 3, [0, 6, 0]), (4, .invokevirtual 23, 3, [1, 37, 0, 5]), (7, .iconst 1, 1, []), (8, .istore_n 1, 1, []), (9, .iload_n 1, 1, []), (10, .bipush 120, 2, []), (12, .if_icmp .gt 49, 3, [28]), (15, .aload_n 0, 1, []), (16, .invokevirtual 28, 3, [1, 45, 0, 6]), (19, .ifCond .eq 42, 3, [28]), (22, .aload_n 0, 1, []), (23, .getfield 15, 3, [0, 6, 0]), (26, .getfield 32, 3, [0, 5, 4]), (29, .ifCond .ne 5, 3, [17]), (32, .iload_n 1, 1, []), (33, .ireturn, 1, [0]), (34, .aload_n 0, 1, []), (35, .getfield 15, 3, [0, 6, 0]), (38, .getfield 32, 3, [0, 5, 4]), (41, .iconst 3, 1, []), (42, .if_icmp .eq 6, 3, [23]), (45, .goto 16, 3, [28]), (48, .aload_n 0, 1, []), (49, .getfield 15, 3, [0, 6, 0]), (52, .invokevirtual 35, 3, [1, 38, 0, 5]), (55, .iinc 1 1, 3, []), (58, .goto (-49), 3, [5]), (61, .iconst (-1), 1, []), (62, .aload_n 0, 1, []), (63, .getfield 15, 3, [0, 6, 0]), (66, .getfield 38, 3, [0, 5, 3]), (69, .isub, 1, []), (70, .ireturn, 1, [0])]
def xt_45 : List xa_E := [(0, .aload_n 0, 1, []), (1, .ldc 41, 2, [1, 20]), (3, .invokevirtual 43, 3, [1, 51, 1, 6]), (6, .ifCond .eq 8, 3, [7]), (9, .aload_n 0, 1, []), (10, .invokevirtual 47, 3, [1, 46, 0, 6]), (13, .ireturn, 1, [1]), (14, .aload_n 0, 1, []), (15, .ldc 50, 2, [1, 21]), (17, .invokevirtual 43, 3, [1, 51, 1, 6]), (20, .ifCond .eq 8, 3, [14]), (23, .aload_n 0, 1, []), (24, .invokevirtual 52, 3, [1, 47, 0, 6]), (27, .ireturn, 1, [1]), (28, .aload_n 0, 1, []), (29, .ldc 55, 2, [1, 22]), (31, .invokevirtual 43, 3, [1, 51, 1, 6]), (34, .ifCond .eq 14, 3, [23]), (37, .aload_n 0, 1, []), (38, .invokevirtual 57, 3, [1, 48, 0, 6]), (41, .ifCond .eq 7, 3, [23]), (44, .iconst 1, 1, []), (45, .goto 4, 3, [24]), (48, .iconst 0, 1, []), (49, .ireturn, 1, [1])]
def xt_46 : List xa_E := [(0, .aload_n 0, 1, []), (1, .iconst 0, 1, []), (2, .bipush 7, 2, []), (4, .invokevirtual 60, 3, [1, 52, 2, 6]), (7, .ifCond .ne 5, 3, [7]), (10, .iconst 0, 1, []), (11, .ireturn, 1, [1]), (12, .aload_n 0, 1, []), (13, .getfield 9, 3, [0, 6, 2]), (16, .istore_n 1, 1, []), (17, .aload_n 0, 1, []), (18, .ldc 64, 2, [1, 23]), (20, .invokevirtual 43, 3, [1, 51, 1, 6]), (23, .ifCond .eq 14, 3, [19]), (26, .aload_n 0, 1, []), (27, .iconst 1, 1, []), (28, .sipush 999, 3, []), (31, .invokevirtual 60, 3, [1, 52, 2, 6]), (34, .ifCond .ne 5, 3, [21]), (37, .iconst 0, 1, []), (38, .ireturn, 1, [1]), (39, .aload_n 0, 1, []), (40, .getfield 19, 3, [0, 6, 1]), (43, .getfield 66, 3, [0, 7, 0]), (46, .iload_n 1, 1, []), (47, .aload_n 0, 1, []), (48, .getfield 9, 3, [0, 6, 2]), (51, .iastore, 1, []), (52, .aload_n 0, 1, []), (53, .ldc 71, 2, [1, 24]), (55, .invokevirtual 43, 3, [1, 51, 1, 6]), (58, .ifCond .ne 5, 3, [34]), (61, .iconst 1, 1, []), (62, .ireturn, 1, [1]), (63, .aload_n 0, 1, []), (64, .iconst 0, 1, []), (65, .bipush 99, 2, []), (67, .invokevirtual 60, 3, [1, 52, 2, 6]), (70, .ifCond .ne 5, 3, [41]), (73, .iconst 0, 1, []), (74, .ireturn, 1, [1]), (75, .aload_n 0, 1, []), (76, .getfield 19, 3, [0, 6, 1]), (79, .getfield 73, 3, [0, 7, 1]), (82, .iload_n 1, 1, []), (83, .aload_n 0, 1, []), (84, .getfield 9, 3, [0, 6, 2]), (87, .iastore, 1, []), (88, .iconst 1, 1, []), (89, .ireturn, 1, [1])]
def xt_47 : List xa_E := [(0, .aload_n 0, 1, []), (1, .iconst 0, 1, []), (2, .iconst 3, 1, []), (3, .invokevirtual 60, 3, [1, 52, 2, 6]), (6, .ifCond .ne 5, 3, [7]), (9, .iconst 0, 1, []), (10, .ireturn, 1, [1]), (11, .aload_n 0, 1, []), (12, .getfield 19, 3, [0, 6, 1]), (15, .getfield 76, 3, [0, 7, 2]), (18, .aload_n 0, 1, []), (19, .getfield 9, 3, [0, 6, 2]), (22, .aaload, 1, []), (23, .astore_n 1, 1, []), (24, .aload_n 0, 1, []), (25, .ldc 80, 2, [1, 25]), (27, .invokevirtual 43, 3, [1, 51, 1, 6]), (30, .ifCond .eq 10, 3, [23]), (33, .aload_n 1, 1, []), (34, .iconst 1, 1, []), (35, .putfield 82, 3, [0, 2, 5, 1]), (38, .iconst 1, 1, []), (39, .ireturn, 1, [1]), (40, .aload_n 0, 1, []), (41, .ldc 88, 2, [1, 26]), (43, .invokevirtual 43, 3, [1, 51, 1, 6]), (46, .ifCond .eq 10, 3, [32]), (49, .aload_n 1, 1, []), (50, .iconst 0, 1, []), (51, .putfield 82, 3, [0, 2, 5, 1]), (54, .iconst 1, 1, []), (55, .ireturn, 1, [1]), (56, .iconst 0, 1, []), (57, .ireturn, 1, [1])]
def xt_48 : List xa_E := [(0, .aload_n 0, 1, []), (1, .iconst 0, 1, []), (2, .iconst 3, 1, []), (3, .invokevirtual 60, 3, [1, 52, 2, 6]), (6, .ifCond .ne 5, 3, [7]), (9, .iconst 0, 1, []), (10, .ireturn, 1, [1]), (11, .aload_n 0, 1, []), (12, .getfield 19, 3, [0, 6, 1]), (15, .getfield 76, 3, [0, 7, 2]), (18, .aload_n 0, 1, []), (19, .getfield 9, 3, [0, 6, 2]), (22, .aaload, 1, []), (23, .astore_n 1, 1, []), (24, .iconst 0, 1, []), (25, .istore_n 2, 1, []), (26, .aload_n 0, 1, []), (27, .ldc 41, 2, [1, 20]), (29, .invokevirtual 43, 3, [1, 51, 1, 6]), (32, .ifCond .eq 20, 3, [30]), (35, .aload_n 0, 1, []), (36, .iconst 0, 1, []), (37, .bipush 7, 2, []), (39, .invokevirtual 60, 3, [1, 52, 2, 6]), (42, .ifCond .ne 5, 3, [27]), (45, .iconst 0, 1, []), (46, .ireturn, 1, [1]), (47, .aload_n 0, 1, []), (48, .getfield 9, 3, [0, 6, 2]), (51, .istore_n 2, 1, []), (52, .iconst 0, 1, []), (53, .istore_n 3, 1, []), (54, .aload_n 0, 1, []), (55, .invokevirtual 90, 3, [1, 49, 0, 6]), (58, .istore 4, 2, []), (60, .iload 4, 2, []), (62, .ifCond .lt 41, 3, [56]), (65, .iload_n 3, 1, []), (66, .bipush 120, 2, []), (68, .if_icmp .ge 35, 3, [56]), (71, .aload_n 1, 1, []), (72, .invokevirtual 94, 3, [1, 22, 0, 2]), (75, .ifCond .ne 14, 3, [49]), (78, .aload_n 0, 1, []), (79, .aload_n 1, 1, []), (80, .iload 4, 2, []), (82, .iload_n 2, 1, []), (83, .invokevirtual 97, 3, [1, 50, 3, 6]), (86, .ifCond .ne 5, 3, [51]), (89, .iconst 0, 1, []), (90, .ireturn, 1, [1]), (91, .iinc 3 1, 3, []), (94, .aload_n 0, 1, []), (95, .invokevirtual 90, 3, [1, 49, 0, 6]), (98, .istore 4, 2, []), (100, .goto (-40), 3, [35]), (103, .iload_n 3, 1, []), (104, .ifCond .le 7, 3, [60]), (107, .iconst 1, 1, []), (108, .goto 4, 3, [61]), (111, .iconst 0, 1, []), (112, .ireturn, 1, [1])]
def xt_49 : List xa_E := [(0, .aload_n 0, 1, []), (1, .getfield 15, 3, [0, 6, 0]), (4, .invokevirtual 101, 3, [1, 42, 0, 5]), (7, .ifCond .lt 5, 3, [6]), (10, .iconst 1, 1, []), (11, .ireturn, 1, [0]), (12, .aload_n 0, 1, []), (13, .getfield 15, 3, [0, 6, 0]), (16, .ldc 104, 2, [1, 27]), (18, .invokevirtual 106, 3, [1, 41, 1, 5]), (21, .ifCond .eq 5, 3, [13]), (24, .iconst 2, 1, []), (25, .ireturn, 1, [0]), (26, .aload_n 0, 1, []), (27, .getfield 15, 3, [0, 6, 0]), (30, .ldc 109, 2, [1, 28]), (32, .invokevirtual 106, 3, [1, 41, 1, 5]), (35, .ifCond .eq 5, 3, [20]), (38, .iconst 3, 1, []), (39, .ireturn, 1, [0]), (40, .aload_n 0, 1, []), (41, .getfield 15, 3, [0, 6, 0]), (44, .ldc 111, 2, [1, 29]), (46, .invokevirtual 106, 3, [1, 41, 1, 5]), (49, .ifCond .eq 5, 3, [27]), (52, .iconst 5, 1, []), (53, .ireturn, 1, [0]), (54, .aload_n 0, 1, []), (55, .getfield 15, 3, [0, 6, 0]), (58, .ldc 113, 2, [1, 30]), (60, .invokevirtual 106, 3, [1, 41, 1, 5]), (63, .ifCond .eq 5, 3, [34]), (66, .iconst 4, 1, []), (67, .ireturn, 1, [0]), (68, .aload_n 0, 1, []), (69, .getfield 15, 3, [0, 6, 0]), (72, .ldc 115, 2, [1, 31]), (74, .invokevirtual 106, 3, [1, 41, 1, 5]), (77, .ifCond .eq 6, 3, [41]), (80, .bipush 6, 2, []), (82, .ireturn, 1, [0]), (83, .aload_n 0, 1, []), (84, .getfield 15, 3, [0, 6, 0]), (87, .ldc 117, 2, [1, 32]), (89, .invokevirtual 106, 3, [1, 41, 1, 5]), (92, .ifCond .eq 7, 3, [48]), (95, .iconst 0, 1, []), (96, .goto 4, 3, [49]), (99, .iconst (-1), 1, []), (100, .ireturn, 1, [0])]
def xt_50 : List xa_E := [(0, .iload_n 2, 1, []), (1, .iconst 4, 1, []), (2, .if_icmp .eq 9, 3, [6]), (5, .iload_n 2, 1, []), (6, .bipush 6, 2, []), (8, .if_icmp .ne 10, 3, [9]), (11, .aload_n 0, 1, []), (12, .getfield 15, 3, [0, 6, 0]), (15, .invokevirtual 35, 3, [1, 38, 0, 5]), (18, .iconst 0, 1, []), (19, .istore 4, 2, []), (21, .iload_n 2, 1, []), (22, .iconst 1, 1, []), (23, .invokestatic 119, 3, [3, 113, 2]), (26, .ifCond .eq 19, 3, [23]), (29, .aload_n 0, 1, []), (30, .getfield 15, 3, [0, 6, 0]), (33, .invokevirtual 101, 3, [1, 42, 0, 5]), (36, .istore 4, 2, []), (38, .iload 4, 2, []), (40, .ifCond .ge 5, 3, [23]), (43, .iconst 0, 1, []), (44, .ireturn, 1, [1]), (45, .aload_n 1, 1, []), (46, .iload_n 2, 1, []), (47, .iload 4, 2, []), (49, .iload_n 3, 1, []), (50, .aload_n 0, 1, []), (51, .getfield 19, 3, [0, 6, 1]), (54, .getfield 122, 3, [0, 7, 5]), (57, .invokevirtual 125, 3, [1, 23, 4, 2]), (60, .aload_n 0, 1, []), (61, .getfield 15, 3, [0, 6, 0]), (64, .invokevirtual 35, 3, [1, 38, 0, 5]), (67, .iconst 1, 1, []), (68, .ireturn, 1, [1])]
def xt_51 : List xa_E := [(0, .aload_n 0, 1, []), (1, .getfield 15, 3, [0, 6, 0]), (4, .aload_n 1, 1, []), (5, .invokevirtual 106, 3, [1, 41, 1, 5]), (8, .istore_n 2, 1, []), (9, .iload_n 2, 1, []), (10, .ifCond .eq 10, 3, [10]), (13, .aload_n 0, 1, []), (14, .getfield 15, 3, [0, 6, 0]), (17, .invokevirtual 35, 3, [1, 38, 0, 5]), (20, .iload_n 2, 1, []), (21, .ireturn, 1, [1])]
def xt_52 : List xa_E := [(0, .aload_n 0, 1, []), (1, .getfield 15, 3, [0, 6, 0]), (4, .getfield 32, 3, [0, 5, 4]), (7, .iconst 2, 1, []), (8, .if_icmp .ne 22, 3, [14]), (11, .aload_n 0, 1, []), (12, .getfield 15, 3, [0, 6, 0]), (15, .getfield 129, 3, [0, 5, 5]), (18, .iload_n 1, 1, []), (19, .iload_n 2, 1, []), (20, .invokestatic 130, 3, [3, 103, 3]), (23, .ifCond .eq 7, 3, [14]), (26, .iconst 1, 1, []), (27, .goto 4, 3, [15]), (30, .iconst 0, 1, []), (31, .istore_n 3, 1, []), (32, .iload_n 3, 1, []), (33, .ifCond .eq 21, 3, [26]), (36, .aload_n 0, 1, []), (37, .aload_n 0, 1, []), (38, .getfield 15, 3, [0, 6, 0]), (41, .getfield 129, 3, [0, 5, 5]), (44, .putfield 9, 3, [0, 6, 2, 0]), (47, .aload_n 0, 1, []), (48, .getfield 15, 3, [0, 6, 0]), (51, .invokevirtual 35, 3, [1, 38, 0, 5]), (54, .iload_n 3, 1, []), (55, .ireturn, 1, [1])]
def xt_53 : List xa_E := [(0, .aload_n 0, 1, []), (1, .invokespecial 3, 3, [6]), (4, .aload_n 0, 1, []), (5, .bipush 8, 2, []), (7, .newarray .int, 2, []), (9, .putfield 9, 3, [1, 7, 0, 2]), (12, .aload_n 0, 1, []), (13, .bipush 8, 2, []), (15, .newarray .int, 2, []), (17, .putfield 15, 3, [1, 7, 1, 2]), (20, .aload_n 0, 1, []), (21, .iconst 4, 1, []), (22, .anewarray 18, 3, [2]), (25, .putfield 20, 3, [1, 7, 2, 2]), (28, .aload_n 0, 1, []), (29, .bipush 10, 2, []), (31, .newarray .int, 2, []), (33, .putfield 24, 3, [1, 7, 3, 2]), (36, .aload_n 0, 1, []), (37, .bipush 10, 2, []), (39, .newarray .int, 2, []), (41, .putfield 27, 3, [1, 7, 4, 2]), (44, .aload_n 0, 1, []), (45, .iconst 0, 1, []), (46, .putfield 30, 3, [0, 7, 5, 0]), (49, .aload_n 0, 1, []), (50, .iconst 1, 1, []), (51, .putfield 34, 3, [0, 7, 6, 0]), (54, .iconst 0, 1, []), (55, .istore_n 1, 1, []), (56, .iload_n 1, 1, []), (57, .bipush 8, 2, []), (59, .if_icmp .ge 24, 3, [45]), (62, .aload_n 0, 1, []), (63, .getfield 9, 3, [0, 7, 0]), (66, .iload_n 1, 1, []), (67, .bipush 24, 2, []), (69, .iastore, 1, []), (70, .aload_n 0, 1, []), (71, .getfield 15, 3, [0, 7, 1]), (74, .iload_n 1, 1, []), (75, .iconst 1, 1, []), (76, .iastore, 1, []), (77, .iinc 1 1, 3, []), (80, .goto (-24), 3, [30]), (83, .iconst 0, 1, []), (84, .istore_n 1, 1, []), (85, .iload_n 1, 1, []), (86, .iconst 4, 1, []), (87, .if_icmp .ge 22, 3, [59]), (90, .aload_n 0, 1, []), (91, .getfield 20, 3, [0, 7, 2]), (94, .iload_n 1, 1, []), (95, .new 18, 3, [2]), (98, .dup, 1, []), (99, .invokespecial 37, 3, [5, 21, 0, 2]), (102, .aastore, 1, []), (103, .iinc 1 1, 3, []), (106, .goto (-21), 3, [47]), (109, .iconst 0, 1, []), (110, .istore_n 1, 1, []), (111, .iload_n 1, 1, []), (112, .bipush 10, 2, []), (114, .if_icmp .ge 16, 3, [71]), (117, .aload_n 0, 1, []), (118, .getfield 27, 3, [0, 7, 4]), (121, .iload_n 1, 1, []), (122, .iconst (-1), 1, []), (123, .iastore, 1, []), (124, .iinc 1 1, 3, []), (127, .goto (-16), 3, [61]), (130, .return_, 1, [])]
def xt_54 : List xa_E := [(0, .aload_n 1, 1, []), (1, .getfield 9, 3, [0, 7, 0]), (4, .iconst 0, 1, []), (5, .aload_n 0, 1, []), (6, .getfield 9, 3, [0, 7, 0]), (9, .iconst 0, 1, []), (10, .bipush 8, 2, []), (12, .invokestatic 38, 3, [9]), (15, .aload_n 1, 1, []), (16, .getfield 15, 3, [0, 7, 1]), (19, .iconst 0, 1, []), (20, .aload_n 0, 1, []), (21, .getfield 15, 3, [0, 7, 1]), (24, .iconst 0, 1, []), (25, .bipush 8, 2, []), (27, .invokestatic 38, 3, [9]), (30, .aload_n 1, 1, []), (31, .getfield 24, 3, [0, 7, 3]), (34, .iconst 0, 1, []), (35, .aload_n 0, 1, []), (36, .getfield 24, 3, [0, 7, 3]), (39, .iconst 0, 1, []), (40, .bipush 10, 2, []), (42, .invokestatic 38, 3, [9]), (45, .aload_n 1, 1, []), (46, .getfield 27, 3, [0, 7, 4]), (49, .iconst 0, 1, []), (50, .aload_n 0, 1, []), (51, .getfield 27, 3, [0, 7, 4]), (54, .iconst 0, 1, []), (55, .bipush 10, 2, []), (57, .invokestatic 38, 3, [9]), (60, .iconst 0, 1, []), (61, .istore_n 2, 1, []), (62, .iload_n 2, 1, []), (63, .iconst 4, 1, []), (64, .if_icmp .ge 24, 3, [48]), (67, .aload_n 0, 1, []), (68, .getfield 20, 3, [0, 7, 2]), (71, .iload_n 2, 1, []), (72, .aaload, 1, []), (73, .aload_n 1, 1, []), (74, .getfield 20, 3, [0, 7, 2]), (77, .iload_n 2, 1, []), (78, .aaload, 1, []), (79, .invokevirtual 44, 3, [1, 25, 1, 2]), (82, .iinc 2 1, 3, []), (85, .goto (-23), 3, [34]), (88, .aload_n 0, 1, []), (89, .aload_n 1, 1, []), (90, .getfield 30, 3, [0, 7, 5]), (93, .putfield 30, 3, [0, 7, 5, 0]), (96, .aload_n 0, 1, []), (97, .aload_n 1, 1, []), (98, .getfield 34, 3, [0, 7, 6]), (101, .putfield 34, 3, [0, 7, 6, 0]), (104, .return_, 1, [])]
def xt_55 : List xa_E := [(0, .iconst 0, 1, []), (1, .istore_n 3, 1, []), (2, .iload_n 3, 1, []), (3, .bipush 10, 2, []), (5, .if_icmp .ge 69, 3, [45]), (8, .aload_n 0, 1, []), (9, .getfield 24, 3, [0, 7, 3]), (12, .iload_n 3, 1, []), (13, .iaload, 1, []), (14, .iload_n 1, 1, []), (15, .if_icmp .ne 23, 3, [23]), (18, .aload_n 0, 1, []), (19, .getfield 27, 3, [0, 7, 4]), (22, .iload_n 3, 1, []), (23, .iaload, 1, []), (24, .iload_n 2, 1, []), (25, .if_icmp .ne 13, 3, [23]), (28, .aload_n 0, 1, []), (29, .getfield 27, 3, [0, 7, 4]), (32, .iload_n 3, 1, []), (33, .iconst (-1), 1, []), (34, .iastore, 1, []), (35, .goto 33, 3, [43]), (38, .aload_n 0, 1, []), (39, .getfield 24, 3, [0, 7, 3]), (42, .iload_n 3, 1, []), (43, .iaload, 1, []), (44, .iload_n 1, 1, []), (45, .if_icmp .ne 23, 3, [43]), (48, .aload_n 0, 1, []), (49, .getfield 27, 3, [0, 7, 4]), (52, .iload_n 3, 1, []), (53, .iaload, 1, []), (54, .iload_n 2, 1, []), (55, .if_icmp .le 13, 3, [43]), (58, .aload_n 0, 1, []), (59, .getfield 27, 3, [0, 7, 4]), (62, .iload_n 3, 1, []), (63, .dup2, 1, []), (64, .iaload, 1, []), (65, .iconst 1, 1, []), (66, .isub, 1, []), (67, .iastore, 1, []), (68, .iinc 3 1, 3, []), (71, .goto (-69), 3, [2]), (74, .return_, 1, [])]
def xt_56 : List xa_E := [(0, .iconst 0, 1, []), (1, .istore_n 1, 1, []), (2, .iconst 0, 1, []), (3, .istore_n 2, 1, []), (4, .iload_n 2, 1, []), (5, .bipush 10, 2, []), (7, .if_icmp .ge 21, 3, [15]), (10, .aload_n 0, 1, []), (11, .getfield 27, 3, [0, 7, 4]), (14, .iload_n 2, 1, []), (15, .iaload, 1, []), (16, .ifCond .lt 6, 3, [13]), (19, .iinc 1 1, 3, []), (22, .iinc 2 1, 3, []), (25, .goto (-21), 3, [4]), (28, .iload_n 1, 1, []), (29, .ireturn, 1, [0])]
def xt_57 : List xa_E := [(0, .aload_n 0, 1, []), (1, .aload_n 0, 1, []), (2, .getfield 34, 3, [0, 7, 6]), (5, .ldc 48, 2, [0, 1103515245]), (7, .imul, 1, []), (8, .sipush 12345, 3, []), (11, .iadd, 1, []), (12, .putfield 34, 3, [0, 7, 6, 0]), (15, .aload_n 0, 1, []), (16, .getfield 34, 3, [0, 7, 6]), (19, .bipush 8, 2, []), (21, .iushr, 1, []), (22, .ireturn, 1, [0])]
def xt_58 : List xa_E := [(0, .aload_n 0, 1, []), (1, .invokespecial 3, 3, [6]), (4, .aload_n 0, 1, []), (5, .new 9, 3, [7]), (8, .dup, 1, []), (9, .invokespecial 11, 3, [2, 53, 0, 7]), (12, .putfield 12, 3, [1, 8, 0, 2]), (15, .aload_n 0, 1, []), (16, .new 9, 3, [7]), (19, .dup, 1, []), (20, .invokespecial 11, 3, [2, 53, 0, 7]), (23, .putfield 16, 3, [1, 8, 1, 2]), (26, .aload_n 0, 1, []), (27, .new 9, 3, [7]), (30, .dup, 1, []), (31, .invokespecial 11, 3, [2, 53, 0, 7]), (34, .putfield 19, 3, [1, 8, 2, 2]), (37, .aload_n 0, 1, []), (38, .iconst 4, 1, []), (39, .anewarray 22, 3, [1]), (42, .putfield 24, 3, [1, 8, 3, 2]), (45, .aload_n 0, 1, []), (46, .new 28, 3, [5]), (49, .dup, 1, []), (50, .invokespecial 30, 3, [5, 35, 0, 5]), (53, .putfield 31, 3, [1, 8, 4, 2]), (56, .aload_n 0, 1, []), (57, .new 35, 3, [6]), (60, .dup, 1, []), (61, .aload_n 0, 1, []), (62, .getfield 31, 3, [0, 8, 4]), (65, .aload_n 0, 1, []), (66, .getfield 12, 3, [0, 8, 0]), (69, .invokespecial 37, 3, [2, 43, 2, 6]), (72, .putfield 40, 3, [1, 8, 5, 2]), (75, .aload_n 0, 1, []), (76, .iconst 4, 1, []), (77, .anewarray 44, 3, [4]), (80, .putfield 46, 3, [1, 8, 6, 2]), (83, .aload_n 0, 1, []), (84, .bipush 7, 2, []), (86, .newarray .int, 2, []), (88, .putfield 50, 3, [1, 8, 7, 2]), (91, .aload_n 0, 1, []), (92, .bipush 91, 2, []), (94, .newarray .int, 2, []), (96, .putfield 54, 3, [1, 8, 8, 2]), (99, .aload_n 0, 1, []), (100, .new 57, 3, [0]), (103, .dup, 1, []), (104, .invokespecial 59, 3, [5, 0, 0, 0]), (107, .putfield 60, 3, [1, 8, 9, 2]), (110, .aload_n 0, 1, []), (111, .iconst 0, 1, []), (112, .putfield 64, 3, [0, 8, 10, 1]), (115, .iconst 0, 1, []), (116, .istore_n 1, 1, []), (117, .iload_n 1, 1, []), (118, .iconst 4, 1, []), (119, .if_icmp .ge 38, 3, [77]), (122, .aload_n 0, 1, []), (123, .getfield 24, 3, [0, 8, 3]), (126, .iload_n 1, 1, []), (127, .new 22, 3, [1]), (130, .dup, 1, []), (131, .aload_n 0, 1, []), (132, .getfield 12, 3, [0, 8, 0]), (135, .getfield 68, 3, [0, 7, 2]), (138, .iload_n 1, 1, []), (139, .aaload, 1, []), (140, .aload_n 0, 1, []), (141, .getfield 12, 3, [0, 8, 0]), (144, .getfield 72, 3, [0, 7, 0]), (147, .invokespecial 75, 3, [2, 7, 2, 1]), (150, .aastore, 1, []), (151, .iinc 1 1, 3, []), (154, .goto (-37), 3, [57]), (157, .iconst 0, 1, []), (158, .istore_n 1, 1, []), (159, .iload_n 1, 1, []), (160, .iconst 4, 1, []), (161, .if_icmp .ge 22, 3, [91]), (164, .aload_n 0, 1, []), (165, .getfield 46, 3, [0, 8, 6]), (168, .iload_n 1, 1, []), (169, .new 44, 3, [4]), (172, .dup, 1, []), (173, .invokespecial 78, 3, [5, 30, 0, 4]), (176, .aastore, 1, []), (177, .iinc 1 1, 3, []), (180, .goto (-21), 3, [79]), (183, .return_, 1, [])]
def xt_59 : List xa_E := [(0, .iload_n 1, 1, []), (1, .iconst 1, 1, []), (2, .sipush 1000, 3, []), (5, .invokestatic 79, 3, [0, 103, 3]), (8, .ifCond .ne 9, 3, [9]), (11, .aload_n 0, 1, []), (12, .iconst 0, 1, []), (13, .invokevirtual 83, 3, [1, 102, 1, 8]), (16, .ireturn, 1, [0]), (17, .aload_n 0, 1, []), (18, .getfield 12, 3, [0, 8, 0]), (21, .getfield 87, 3, [0, 7, 5]), (24, .iload_n 1, 1, []), (25, .iadd, 1, []), (26, .sipush 9999, 3, []), (29, .if_icmp .le 9, 3, [20]), (32, .aload_n 0, 1, []), (33, .iconst 4, 1, []), (34, .invokevirtual 83, 3, [1, 102, 1, 8]), (37, .ireturn, 1, [0]), (38, .aload_n 0, 1, []), (39, .getfield 12, 3, [0, 8, 0]), (42, .dup, 1, []), (43, .getfield 87, 3, [0, 7, 5]), (46, .iload_n 1, 1, []), (47, .iadd, 1, []), (48, .putfield 87, 3, [0, 7, 5, 0]), (51, .aload_n 0, 1, []), (52, .getfield 12, 3, [0, 8, 0]), (55, .getfield 87, 3, [0, 7, 5]), (58, .ireturn, 1, [0])]
def xt_60 : List xa_E := [(0, .iload_n 1, 1, []), (1, .invokestatic 91, 3, [0, 105, 1]), (4, .ifCond .ne 9, 3, [7]), (7, .aload_n 0, 1, []), (8, .iconst 0, 1, []), (9, .invokevirtual 83, 3, [1, 102, 1, 8]), (12, .ireturn, 1, [0]), (13, .iload_n 2, 1, []), (14, .ifCond .ne 27, 3, [21]), (17, .iload_n 3, 1, []), (18, .iconst 1, 1, []), (19, .sipush 999, 3, []), (22, .invokestatic 79, 3, [0, 103, 3]), (25, .ifCond .eq 16, 3, [21]), (28, .aload_n 0, 1, []), (29, .getfield 12, 3, [0, 8, 0]), (32, .getfield 72, 3, [0, 7, 0]), (35, .iload_n 1, 1, []), (36, .iload_n 3, 1, []), (37, .invokestatic 95, 3, [0, 115, 3]), (40, .ireturn, 1, [0]), (41, .iload_n 2, 1, []), (42, .iconst 1, 1, []), (43, .if_icmp .ne 26, 3, [36]), (46, .iload_n 3, 1, []), (47, .iconst 0, 1, []), (48, .bipush 99, 2, []), (50, .invokestatic 79, 3, [0, 103, 3]), (53, .ifCond .eq 16, 3, [36]), (56, .aload_n 0, 1, []), (57, .getfield 12, 3, [0, 8, 0]), (60, .getfield 99, 3, [0, 7, 1]), (63, .iload_n 1, 1, []), (64, .iload_n 3, 1, []), (65, .invokestatic 95, 3, [0, 115, 3]), (68, .ireturn, 1, [0]), (69, .aload_n 0, 1, []), (70, .iconst 0, 1, []), (71, .invokevirtual 83, 3, [1, 102, 1, 8]), (74, .ireturn, 1, [0])]
def xt_61 : List xa_E := [(0, .iload_n 1, 1, []), (1, .invokestatic 102, 3, [0, 106, 1]), (4, .ifCond .ne 9, 3, [7]), (7, .aload_n 0, 1, []), (8, .iconst 0, 1, []), (9, .invokevirtual 83, 3, [1, 102, 1, 8]), (12, .ireturn, 1, [0]), (13, .aload_n 0, 1, []), (14, .getfield 12, 3, [0, 8, 0]), (17, .getfield 68, 3, [0, 7, 2]), (20, .iload_n 1, 1, []), (21, .aaload, 1, []), (22, .getfield 105, 3, [0, 2, 5]), (25, .istore_n 3, 1, []), (26, .aload_n 0, 1, []), (27, .getfield 12, 3, [0, 8, 0]), (30, .getfield 68, 3, [0, 7, 2]), (33, .iload_n 1, 1, []), (34, .aaload, 1, []), (35, .iload_n 2, 1, []), (36, .putfield 105, 3, [0, 2, 5, 1]), (39, .iload_n 3, 1, []), (40, .ifCond .eq 7, 3, [25]), (43, .iconst 1, 1, []), (44, .goto 4, 3, [26]), (47, .iconst 0, 1, []), (48, .ireturn, 1, [0])]
def xt_62 : List xa_E := [(0, .iload_n 1, 1, []), (1, .invokestatic 102, 3, [0, 106, 1]), (4, .ifCond .eq 25, 3, [12]), (7, .iload_n 2, 1, []), (8, .invokestatic 110, 3, [0, 107, 1]), (11, .ifCond .eq 18, 3, [12]), (14, .iload_n 3, 1, []), (15, .invokestatic 113, 3, [0, 108, 1]), (18, .ifCond .eq 11, 3, [12]), (21, .iload 4, 2, []), (23, .invokestatic 91, 3, [0, 105, 1]), (26, .ifCond .ne 9, 3, [16]), (29, .aload_n 0, 1, []), (30, .iconst 0, 1, []), (31, .invokevirtual 83, 3, [1, 102, 1, 8]), (34, .ireturn, 1, [0]), (35, .aload_n 0, 1, []), (36, .getfield 12, 3, [0, 8, 0]), (39, .getfield 68, 3, [0, 7, 2]), (42, .iload_n 1, 1, []), (43, .aaload, 1, []), (44, .astore 5, 2, []), (46, .aload 5, 2, []), (48, .invokevirtual 116, 3, [1, 22, 0, 2]), (51, .ifCond .eq 9, 3, [29]), (54, .aload_n 0, 1, []), (55, .iconst 1, 1, []), (56, .invokevirtual 83, 3, [1, 102, 1, 8]), (59, .ireturn, 1, [0]), (60, .aload 5, 2, []), (62, .iload_n 2, 1, []), (63, .iload_n 3, 1, []), (64, .iload 4, 2, []), (66, .aload_n 0, 1, []), (67, .getfield 12, 3, [0, 8, 0]), (70, .getfield 87, 3, [0, 7, 5]), (73, .invokevirtual 120, 3, [1, 23, 4, 2]), (76, .aload 5, 2, []), (78, .getfield 124, 3, [0, 2, 4]), (81, .iconst 1, 1, []), (82, .isub, 1, []), (83, .ireturn, 1, [0])]
def xt_63 : List xa_E := [(0, .aload_n 0, 1, []), (1, .iload_n 1, 1, []), (2, .iload_n 2, 1, []), (3, .invokevirtual 127, 3, [1, 111, 2, 8]), (6, .ifCond .ne 9, 3, [9]), (9, .aload_n 0, 1, []), (10, .iconst 0, 1, []), (11, .invokevirtual 83, 3, [1, 102, 1, 8]), (14, .ireturn, 1, [0]), (15, .aload_n 0, 1, []), (16, .getfield 12, 3, [0, 8, 0]), (19, .getfield 68, 3, [0, 7, 2]), (22, .iload_n 1, 1, []), (23, .aaload, 1, []), (24, .astore 4, 2, []), (26, .iload_n 3, 1, []), (27, .tableswitch 91 0 4 #[33, 41, 49, 57, 65], 33, [51, 17, 22, 27, 32, 37]), (60, .aload 4, 2, []), (62, .getfield 131, 3, [0, 2, 0]), (65, .iload_n 2, 1, []), (66, .iaload, 1, []), (67, .ireturn, 1, [0]), (68, .aload 4, 2, []), (70, .getfield 134, 3, [0, 2, 1]), (73, .iload_n 2, 1, []), (74, .iaload, 1, []), (75, .ireturn, 1, [0]), (76, .aload 4, 2, []), (78, .getfield 137, 3, [0, 2, 2]), (81, .iload_n 2, 1, []), (82, .iaload, 1, []), (83, .ireturn, 1, [0]), (84, .aload 4, 2, []), (86, .getfield 140, 3, [0, 2, 3]), (89, .iload_n 2, 1, []), (90, .iaload, 1, []), (91, .ireturn, 1, [0]), (92, .aload 4, 2, []), (94, .getfield 131, 3, [0, 2, 0]), (97, .iload_n 2, 1, []), (98, .iaload, 1, []), (99, .aload_n 0, 1, []), (100, .getfield 12, 3, [0, 8, 0]), (103, .getfield 72, 3, [0, 7, 0]), (106, .aload 4, 2, []), (108, .getfield 137, 3, [0, 2, 2]), (111, .iload_n 2, 1, []), (112, .iaload, 1, []), (113, .iaload, 1, []), (114, .invokestatic 143, 3, [0, 122, 2]), (117, .ireturn, 1, [0]), (118, .aload_n 0, 1, []), (119, .iconst 0, 1, []), (120, .invokevirtual 83, 3, [1, 102, 1, 8]), (123, .ireturn, 1, [0])]
def xt_64 : List xa_E := [(0, .aload_n 0, 1, []), (1, .iload_n 1, 1, []), (2, .iload_n 2, 1, []), (3, .invokevirtual 127, 3, [1, 111, 2, 8]), (6, .ifCond .eq 10, 3, [8]), (9, .iload_n 3, 1, []), (10, .invokestatic 110, 3, [0, 107, 1]), (13, .ifCond .ne 9, 3, [12]), (16, .aload_n 0, 1, []), (17, .iconst 0, 1, []), (18, .invokevirtual 83, 3, [1, 102, 1, 8]), (21, .ireturn, 1, [0]), (22, .aload_n 0, 1, []), (23, .getfield 12, 3, [0, 8, 0]), (26, .getfield 68, 3, [0, 7, 2]), (29, .iload_n 1, 1, []), (30, .aaload, 1, []), (31, .getfield 131, 3, [0, 2, 0]), (34, .iload_n 2, 1, []), (35, .iload_n 3, 1, []), (36, .invokestatic 95, 3, [0, 115, 3]), (39, .ireturn, 1, [0])]
def xt_65 : List xa_E := [(0, .aload_n 0, 1, []), (1, .iload_n 1, 1, []), (2, .iload_n 2, 1, []), (3, .invokevirtual 127, 3, [1, 111, 2, 8]), (6, .ifCond .ne 9, 3, [9]), (9, .aload_n 0, 1, []), (10, .iconst 0, 1, []), (11, .invokevirtual 83, 3, [1, 102, 1, 8]), (14, .ireturn, 1, [0]), (15, .aload_n 0, 1, []), (16, .getfield 12, 3, [0, 8, 0]), (19, .getfield 68, 3, [0, 7, 2]), (22, .iload_n 1, 1, []), (23, .aaload, 1, []), (24, .iload_n 2, 1, []), (25, .invokevirtual 147, 3, [1, 24, 1, 2]), (28, .aload_n 0, 1, []), (29, .getfield 12, 3, [0, 8, 0]), (32, .iload_n 1, 1, []), (33, .iload_n 2, 1, []), (34, .invokevirtual 151, 3, [1, 55, 2, 7]), (37, .aload_n 0, 1, []), (38, .getfield 12, 3, [0, 8, 0]), (41, .getfield 68, 3, [0, 7, 2]), (44, .iload_n 1, 1, []), (45, .aaload, 1, []), (46, .getfield 124, 3, [0, 2, 4]), (49, .ireturn, 1, [0])]
def xt_66 : List xa_E := [(0, .aload_n 0, 1, []), (1, .iload_n 1, 1, []), (2, .iload_n 2, 1, []), (3, .invokevirtual 127, 3, [1, 111, 2, 8]), (6, .ifCond .eq 10, 3, [8]), (9, .iload_n 3, 1, []), (10, .invokestatic 91, 3, [0, 105, 1]), (13, .ifCond .ne 9, 3, [12]), (16, .aload_n 0, 1, []), (17, .iconst 0, 1, []), (18, .invokevirtual 83, 3, [1, 102, 1, 8]), (21, .ireturn, 1, [0]), (22, .aload_n 0, 1, []), (23, .getfield 12, 3, [0, 8, 0]), (26, .getfield 68, 3, [0, 7, 2]), (29, .iload_n 1, 1, []), (30, .aaload, 1, []), (31, .getfield 140, 3, [0, 2, 3]), (34, .iload_n 2, 1, []), (35, .aload_n 0, 1, []), (36, .getfield 12, 3, [0, 8, 0]), (39, .getfield 87, 3, [0, 7, 5]), (42, .iastore, 1, []), (43, .aload_n 0, 1, []), (44, .getfield 12, 3, [0, 8, 0]), (47, .getfield 68, 3, [0, 7, 2]), (50, .iload_n 1, 1, []), (51, .aaload, 1, []), (52, .getfield 137, 3, [0, 2, 2]), (55, .iload_n 2, 1, []), (56, .iload_n 3, 1, []), (57, .invokestatic 95, 3, [0, 115, 3]), (60, .ireturn, 1, [0])]
def xt_67 : List xa_E := [(0, .iload_n 1, 1, []), (1, .invokestatic 102, 3, [0, 106, 1]), (4, .ifCond .eq 10, 3, [6]), (7, .iload_n 2, 1, []), (8, .invokestatic 155, 3, [0, 104, 1]), (11, .ifCond .ne 9, 3, [10]), (14, .aload_n 0, 1, []), (15, .iconst 0, 1, []), (16, .invokevirtual 83, 3, [1, 102, 1, 8]), (19, .ireturn, 1, [0]), (20, .aload_n 0, 1, []), (21, .iload_n 1, 1, []), (22, .invokevirtual 158, 3, [1, 116, 1, 8]), (25, .iload_n 2, 1, []), (26, .invokevirtual 162, 3, [1, 10, 1, 1]), (29, .ireturn, 1, [0])]
def xt_68 : List xa_E := [(0, .aload_n 0, 1, []), (1, .iload_n 1, 1, []), (2, .iload_n 2, 1, []), (3, .invokevirtual 127, 3, [1, 111, 2, 8]), (6, .ifCond .eq 10, 3, [8]), (9, .iload_n 3, 1, []), (10, .invokestatic 155, 3, [0, 104, 1]), (13, .ifCond .ne 9, 3, [12]), (16, .aload_n 0, 1, []), (17, .iconst 0, 1, []), (18, .invokevirtual 83, 3, [1, 102, 1, 8]), (21, .ireturn, 1, [0]), (22, .aload_n 0, 1, []), (23, .getfield 12, 3, [0, 8, 0]), (26, .getfield 68, 3, [0, 7, 2]), (29, .iload_n 1, 1, []), (30, .aaload, 1, []), (31, .astore 4, 2, []), (33, .iload_n 3, 1, []), (34, .aload 4, 2, []), (36, .getfield 140, 3, [0, 2, 3]), (39, .iload_n 2, 1, []), (40, .iaload, 1, []), (41, .if_icmp .ge 9, 3, [28]), (44, .aload_n 0, 1, []), (45, .iconst 4, 1, []), (46, .invokevirtual 83, 3, [1, 102, 1, 8]), (49, .ireturn, 1, [0]), (50, .aload 4, 2, []), (52, .getfield 105, 3, [0, 2, 5]), (55, .iload_n 3, 1, []), (56, .invokestatic 165, 3, [0, 123, 2]), (59, .aload 4, 2, []), (61, .getfield 105, 3, [0, 2, 5]), (64, .aload 4, 2, []), (66, .getfield 140, 3, [0, 2, 3]), (69, .iload_n 2, 1, []), (70, .iaload, 1, []), (71, .invokestatic 165, 3, [0, 123, 2]), (74, .isub, 1, []), (75, .ireturn, 1, [0])]
def xt_69 : List xa_E := [(0, .aload_n 0, 1, []), (1, .iload_n 1, 1, []), (2, .iload_n 2, 1, []), (3, .invokevirtual 127, 3, [1, 111, 2, 8]), (6, .ifCond .ne 9, 3, [9]), (9, .aload_n 0, 1, []), (10, .iconst 0, 1, []), (11, .invokevirtual 83, 3, [1, 102, 1, 8]), (14, .ireturn, 1, [0]), (15, .aload_n 0, 1, []), (16, .iload_n 1, 1, []), (17, .invokevirtual 158, 3, [1, 116, 1, 8]), (20, .getfield 169, 3, [0, 1, 2]), (23, .iload_n 2, 1, []), (24, .iaload, 1, []), (25, .istore_n 3, 1, []), (26, .iload_n 3, 1, []), (27, .sipush 9999, 3, []), (30, .if_icmp .le 11, 3, [23]), (33, .aload_n 0, 1, []), (34, .iconst 3, 1, []), (35, .invokevirtual 83, 3, [1, 102, 1, 8]), (38, .goto 4, 3, [24]), (41, .iload_n 3, 1, []), (42, .ireturn, 1, [0])]
def xt_70 : List xa_E := [(0, .iload_n 1, 1, []), (1, .invokestatic 102, 3, [0, 106, 1]), (4, .ifCond .eq 10, 3, [6]), (7, .iload_n 2, 1, []), (8, .invokestatic 155, 3, [0, 104, 1]), (11, .ifCond .ne 9, 3, [10]), (14, .aload_n 0, 1, []), (15, .iconst 0, 1, []), (16, .invokevirtual 83, 3, [1, 102, 1, 8]), (19, .ireturn, 1, [0]), (20, .aload_n 0, 1, []), (21, .iload_n 1, 1, []), (22, .invokevirtual 158, 3, [1, 116, 1, 8]), (25, .iload_n 2, 1, []), (26, .invokevirtual 172, 3, [1, 13, 1, 1]), (29, .ireturn, 1, [0])]
def xt_71 : List xa_E := [(0, .iload_n 1, 1, []), (1, .invokestatic 102, 3, [0, 106, 1]), (4, .ifCond .eq 20, 3, [11]), (7, .iload_n 2, 1, []), (8, .invokestatic 155, 3, [0, 104, 1]), (11, .ifCond .eq 13, 3, [11]), (14, .iload_n 3, 1, []), (15, .iconst 0, 1, []), (16, .bipush 15, 2, []), (18, .invokestatic 79, 3, [0, 103, 3]), (21, .ifCond .ne 9, 3, [15]), (24, .aload_n 0, 1, []), (25, .iconst 0, 1, []), (26, .invokevirtual 83, 3, [1, 102, 1, 8]), (29, .ireturn, 1, [0]), (30, .aload_n 0, 1, []), (31, .iload_n 1, 1, []), (32, .invokevirtual 158, 3, [1, 116, 1, 8]), (35, .iload_n 2, 1, []), (36, .invokevirtual 172, 3, [1, 13, 1, 1]), (39, .istore 4, 2, []), (41, .iload 4, 2, []), (43, .iconst (-1), 1, []), (44, .if_icmp .ne 11, 3, [28]), (47, .aload_n 0, 1, []), (48, .iconst 3, 1, []), (49, .invokevirtual 83, 3, [1, 102, 1, 8]), (52, .goto 9, 3, [33]), (55, .iload 4, 2, []), (57, .iload_n 3, 1, []), (58, .ishr, 1, []), (59, .iconst 1, 1, []), (60, .iand, 1, []), (61, .ireturn, 1, [0])]
def xt_72 : List xa_E := [(0, .iload_n 1, 1, []), (1, .invokestatic 102, 3, [0, 106, 1]), (4, .ifCond .ne 9, 3, [7]), (7, .aload_n 0, 1, []), (8, .iconst 0, 1, []), (9, .invokevirtual 83, 3, [1, 102, 1, 8]), (12, .ireturn, 1, [0]), (13, .aload_n 0, 1, []), (14, .iload_n 1, 1, []), (15, .invokevirtual 158, 3, [1, 116, 1, 8]), (18, .aload_n 0, 1, []), (19, .getfield 12, 3, [0, 8, 0]), (22, .getfield 87, 3, [0, 7, 5]), (25, .sipush 9999, 3, []), (28, .invokevirtual 175, 3, [1, 15, 2, 1]), (31, .istore_n 2, 1, []), (32, .iload_n 2, 1, []), (33, .sipush 9999, 3, []), (36, .if_icmp .le 11, 3, [23]), (39, .aload_n 0, 1, []), (40, .iconst 3, 1, []), (41, .invokevirtual 83, 3, [1, 102, 1, 8]), (44, .goto 4, 3, [24]), (47, .iload_n 2, 1, []), (48, .ireturn, 1, [0])]
def xt_73 : List xa_E := [(0, .iload_n 1, 1, []), (1, .invokestatic 102, 3, [0, 106, 1]), (4, .ifCond .eq 22, 3, [12]), (7, .iload_n 2, 1, []), (8, .invokestatic 155, 3, [0, 104, 1]), (11, .ifCond .eq 15, 3, [12]), (14, .iload_n 3, 1, []), (15, .invokestatic 155, 3, [0, 104, 1]), (18, .ifCond .eq 8, 3, [12]), (21, .iload_n 3, 1, []), (22, .iload_n 2, 1, []), (23, .if_icmp .gt 9, 3, [16]), (26, .aload_n 0, 1, []), (27, .iconst 0, 1, []), (28, .invokevirtual 83, 3, [1, 102, 1, 8]), (31, .ireturn, 1, [0]), (32, .aload_n 0, 1, []), (33, .iload_n 1, 1, []), (34, .invokevirtual 158, 3, [1, 116, 1, 8]), (37, .iload_n 2, 1, []), (38, .iload_n 3, 1, []), (39, .invokevirtual 178, 3, [1, 17, 2, 1]), (42, .ireturn, 1, [0])]
def xt_74 : List xa_E := [(0, .iload_n 1, 1, []), (1, .invokestatic 102, 3, [0, 106, 1]), (4, .ifCond .eq 13, 3, [8]), (7, .iload_n 2, 1, []), (8, .iconst (-1), 1, []), (9, .ldc 181, 2, [0, 65535]), (11, .invokestatic 79, 3, [0, 103, 3]), (14, .ifCond .ne 9, 3, [12]), (17, .aload_n 0, 1, []), (18, .iconst 0, 1, []), (19, .invokevirtual 83, 3, [1, 102, 1, 8]), (22, .ireturn, 1, [0]), (23, .aload_n 0, 1, []), (24, .iload_n 1, 1, []), (25, .invokevirtual 158, 3, [1, 116, 1, 8]), (28, .iload_n 2, 1, []), (29, .aload_n 0, 1, []), (30, .getfield 12, 3, [0, 8, 0]), (33, .getfield 87, 3, [0, 7, 5]), (36, .invokevirtual 182, 3, [1, 18, 2, 1]), (39, .istore_n 3, 1, []), (40, .iload_n 3, 1, []), (41, .sipush 9999, 3, []), (44, .if_icmp .le 11, 3, [28]), (47, .aload_n 0, 1, []), (48, .iconst 3, 1, []), (49, .invokevirtual 83, 3, [1, 102, 1, 8]), (52, .goto 4, 3, [29]), (55, .iload_n 3, 1, []), (56, .ireturn, 1, [0])]
def xt_75 : List xa_E := [(0, .iload_n 1, 1, []), (1, .invokestatic 102, 3, [0, 106, 1]), (4, .ifCond .eq 13, 3, [8]), (7, .iload_n 2, 1, []), (8, .iconst (-1), 1, []), (9, .ldc 181, 2, [0, 65535]), (11, .invokestatic 79, 3, [0, 103, 3]), (14, .ifCond .ne 9, 3, [12]), (17, .aload_n 0, 1, []), (18, .iconst 0, 1, []), (19, .invokevirtual 83, 3, [1, 102, 1, 8]), (22, .ireturn, 1, [0]), (23, .aload_n 0, 1, []), (24, .iload_n 1, 1, []), (25, .invokevirtual 158, 3, [1, 116, 1, 8]), (28, .iload_n 2, 1, []), (29, .aload_n 0, 1, []), (30, .getfield 12, 3, [0, 8, 0]), (33, .getfield 87, 3, [0, 7, 5]), (36, .invokevirtual 185, 3, [1, 19, 2, 1]), (39, .ireturn, 1, [0])]
def xt_76 : List xa_E := [(0, .iload_n 1, 1, []), (1, .invokestatic 102, 3, [0, 106, 1]), (4, .ifCond .eq 17, 3, [9]), (7, .iload_n 2, 1, []), (8, .invokestatic 102, 3, [0, 106, 1]), (11, .ifCond .eq 10, 3, [9]), (14, .iload_n 3, 1, []), (15, .invokestatic 155, 3, [0, 104, 1]), (18, .ifCond .ne 9, 3, [13]), (21, .aload_n 0, 1, []), (22, .iconst 0, 1, []), (23, .invokevirtual 83, 3, [1, 102, 1, 8]), (26, .ireturn, 1, [0]), (27, .aload_n 0, 1, []), (28, .iload_n 1, 1, []), (29, .invokevirtual 158, 3, [1, 116, 1, 8]), (32, .iload_n 3, 1, []), (33, .invokevirtual 172, 3, [1, 13, 1, 1]), (36, .aload_n 0, 1, []), (37, .iload_n 2, 1, []), (38, .invokevirtual 158, 3, [1, 116, 1, 8]), (41, .iload_n 3, 1, []), (42, .invokevirtual 172, 3, [1, 13, 1, 1]), (45, .if_icmp .ne 7, 3, [26]), (48, .iconst 1, 1, []), (49, .goto 4, 3, [27]), (52, .iconst 0, 1, []), (53, .ireturn, 1, [0])]
def xt_77 : List xa_E := [(0, .iload_n 1, 1, []), (1, .invokestatic 102, 3, [0, 106, 1]), (4, .ifCond .eq 10, 3, [6]), (7, .iload_n 2, 1, []), (8, .invokestatic 155, 3, [0, 104, 1]), (11, .ifCond .ne 9, 3, [10]), (14, .aload_n 0, 1, []), (15, .iconst 0, 1, []), (16, .invokevirtual 83, 3, [1, 102, 1, 8]), (19, .ireturn, 1, [0]), (20, .iload_n 2, 1, []), (21, .aload_n 0, 1, []), (22, .getfield 12, 3, [0, 8, 0]), (25, .getfield 87, 3, [0, 7, 5]), (28, .if_icmp .ge 9, 3, [19]), (31, .aload_n 0, 1, []), (32, .iconst 4, 1, []), (33, .invokevirtual 83, 3, [1, 102, 1, 8]), (36, .ireturn, 1, [0]), (37, .aload_n 0, 1, []), (38, .iload_n 1, 1, []), (39, .invokevirtual 158, 3, [1, 116, 1, 8]), (42, .aload_n 0, 1, []), (43, .getfield 12, 3, [0, 8, 0]), (46, .getfield 87, 3, [0, 7, 5]), (49, .iload_n 2, 1, []), (50, .invokevirtual 188, 3, [1, 16, 2, 1]), (53, .ifCond .eq 7, 3, [30]), (56, .iconst 1, 1, []), (57, .goto 4, 3, [31]), (60, .iconst 0, 1, []), (61, .ireturn, 1, [0])]
def xt_78 : List xa_E := [(0, .aload_n 0, 1, []), (1, .iload_n 1, 1, []), (2, .iload_n 2, 1, []), (3, .invokevirtual 127, 3, [1, 111, 2, 8]), (6, .ifCond .eq 29, 3, [18]), (9, .aload_n 0, 1, []), (10, .iload_n 1, 1, []), (11, .iload_n 3, 1, []), (12, .invokevirtual 127, 3, [1, 111, 2, 8]), (15, .ifCond .eq 20, 3, [18]), (18, .iload_n 2, 1, []), (19, .iload_n 3, 1, []), (20, .if_icmp .eq 15, 3, [18]), (23, .iload 4, 2, []), (25, .iconst 0, 1, []), (26, .sipush 200, 3, []), (29, .invokestatic 79, 3, [0, 103, 3]), (32, .ifCond .ne 9, 3, [22]), (35, .aload_n 0, 1, []), (36, .iconst 0, 1, []), (37, .invokevirtual 83, 3, [1, 102, 1, 8]), (40, .ireturn, 1, [0]), (41, .aload_n 0, 1, []), (42, .iload_n 1, 1, []), (43, .invokevirtual 158, 3, [1, 116, 1, 8]), (46, .astore 5, 2, []), (48, .iconst 1, 1, []), (49, .iload_n 2, 1, []), (50, .ishl, 1, []), (51, .iconst 1, 1, []), (52, .iload_n 3, 1, []), (53, .ishl, 1, []), (54, .ior, 1, []), (55, .istore 6, 2, []), (57, .aload 5, 2, []), (59, .aload_n 0, 1, []), (60, .getfield 12, 3, [0, 8, 0]), (63, .getfield 87, 3, [0, 7, 5]), (66, .invokevirtual 162, 3, [1, 10, 1, 1]), (69, .iload 6, 2, []), (71, .iand, 1, []), (72, .iload 6, 2, []), (74, .if_icmp .ne 19, 3, [50]), (77, .aload_n 0, 1, []), (78, .getfield 12, 3, [0, 8, 0]), (81, .getfield 87, 3, [0, 7, 5]), (84, .iload 4, 2, []), (86, .iadd, 1, []), (87, .sipush 9999, 3, []), (90, .if_icmp .le 9, 3, [54]), (93, .aload_n 0, 1, []), (94, .iconst 4, 1, []), (95, .invokevirtual 83, 3, [1, 102, 1, 8]), (98, .ireturn, 1, [0]), (99, .aload_n 0, 1, []), (100, .aload 5, 2, []), (102, .iload_n 2, 1, []), (103, .iload_n 3, 1, []), (104, .aload_n 0, 1, []), (105, .getfield 12, 3, [0, 8, 0]), (108, .getfield 87, 3, [0, 7, 5]), (111, .iload 4, 2, []), (113, .iadd, 1, []), (114, .invokevirtual 191, 3, [1, 117, 4, 8]), (117, .istore 7, 2, []), (119, .iload 7, 2, []), (121, .ifCond .ge 11, 3, [71]), (124, .aload_n 0, 1, []), (125, .iconst 3, 1, []), (126, .invokevirtual 83, 3, [1, 102, 1, 8]), (129, .goto 5, 3, [72]), (132, .iload 7, 2, []), (134, .ireturn, 1, [0])]
def xt_79 : List xa_E := [(0, .iload_n 1, 1, []), (1, .invokestatic 102, 3, [0, 106, 1]), (4, .ifCond .eq 20, 3, [11]), (7, .iload_n 2, 1, []), (8, .invokestatic 91, 3, [0, 105, 1]), (11, .ifCond .eq 13, 3, [11]), (14, .iload_n 3, 1, []), (15, .iconst 0, 1, []), (16, .bipush 100, 2, []), (18, .invokestatic 79, 3, [0, 103, 3]), (21, .ifCond .ne 9, 3, [15]), (24, .aload_n 0, 1, []), (25, .iconst 0, 1, []), (26, .invokevirtual 83, 3, [1, 102, 1, 8]), (29, .ireturn, 1, [0]), (30, .aload_n 0, 1, []), (31, .getfield 12, 3, [0, 8, 0]), (34, .getfield 87, 3, [0, 7, 5]), (37, .iload_n 3, 1, []), (38, .iadd, 1, []), (39, .sipush 9999, 3, []), (42, .if_icmp .le 9, 3, [26]), (45, .aload_n 0, 1, []), (46, .iconst 4, 1, []), (47, .invokevirtual 83, 3, [1, 102, 1, 8]), (50, .ireturn, 1, [0]), (51, .aload_n 0, 1, []), (52, .getfield 60, 3, [0, 8, 9]), (55, .aload_n 0, 1, []), (56, .iload_n 1, 1, []), (57, .invokevirtual 158, 3, [1, 116, 1, 8]), (60, .aload_n 0, 1, []), (61, .getfield 12, 3, [0, 8, 0]), (64, .getfield 72, 3, [0, 7, 0]), (67, .iload_n 2, 1, []), (68, .iaload, 1, []), (69, .aload_n 0, 1, []), (70, .getfield 12, 3, [0, 8, 0]), (73, .getfield 87, 3, [0, 7, 5]), (76, .aload_n 0, 1, []), (77, .getfield 12, 3, [0, 8, 0]), (80, .getfield 87, 3, [0, 7, 5]), (83, .iload_n 3, 1, []), (84, .iadd, 1, []), (85, .invokevirtual 195, 3, [1, 1, 4, 0]), (88, .istore 4, 2, []), (90, .iload 4, 2, []), (92, .ifCond .ge 11, 3, [52]), (95, .aload_n 0, 1, []), (96, .iconst 3, 1, []), (97, .invokevirtual 83, 3, [1, 102, 1, 8]), (100, .goto 5, 3, [53]), (103, .iload 4, 2, []), (105, .ireturn, 1, [0])]
def xt_80 : List xa_E := [(0, .iload_n 1, 1, []), (1, .invokestatic 102, 3, [0, 106, 1]), (4, .ifCond .eq 20, 3, [11]), (7, .iload_n 2, 1, []), (8, .invokestatic 91, 3, [0, 105, 1]), (11, .ifCond .eq 13, 3, [11]), (14, .iload_n 3, 1, []), (15, .iconst 0, 1, []), (16, .bipush 100, 2, []), (18, .invokestatic 79, 3, [0, 103, 3]), (21, .ifCond .ne 9, 3, [15]), (24, .aload_n 0, 1, []), (25, .iconst 0, 1, []), (26, .invokevirtual 83, 3, [1, 102, 1, 8]), (29, .ireturn, 1, [0]), (30, .aload_n 0, 1, []), (31, .getfield 12, 3, [0, 8, 0]), (34, .getfield 87, 3, [0, 7, 5]), (37, .iload_n 3, 1, []), (38, .iadd, 1, []), (39, .sipush 9999, 3, []), (42, .if_icmp .le 9, 3, [26]), (45, .aload_n 0, 1, []), (46, .iconst 4, 1, []), (47, .invokevirtual 83, 3, [1, 102, 1, 8]), (50, .ireturn, 1, [0]), (51, .aload_n 0, 1, []), (52, .iload_n 1, 1, []), (53, .invokevirtual 158, 3, [1, 116, 1, 8]), (56, .iload_n 2, 1, []), (57, .aload_n 0, 1, []), (58, .getfield 12, 3, [0, 8, 0]), (61, .getfield 87, 3, [0, 7, 5]), (64, .aload_n 0, 1, []), (65, .getfield 12, 3, [0, 8, 0]), (68, .getfield 87, 3, [0, 7, 5]), (71, .iload_n 3, 1, []), (72, .iadd, 1, []), (73, .invokevirtual 198, 3, [1, 20, 3, 1]), (76, .istore 4, 2, []), (78, .iload 4, 2, []), (80, .ifCond .ge 11, 3, [46]), (83, .aload_n 0, 1, []), (84, .iconst 3, 1, []), (85, .invokevirtual 83, 3, [1, 102, 1, 8]), (88, .goto 5, 3, [47]), (91, .iload 4, 2, []), (93, .ireturn, 1, [0])]
def xt_81 : List xa_E := [(0, .iload_n 1, 1, []), (1, .invokestatic 102, 3, [0, 106, 1]), (4, .ifCond .ne 9, 3, [7]), (7, .aload_n 0, 1, []), (8, .iconst 0, 1, []), (9, .invokevirtual 83, 3, [1, 102, 1, 8]), (12, .ireturn, 1, [0]), (13, .aload_n 0, 1, []), (14, .iload_n 1, 1, []), (15, .invokevirtual 158, 3, [1, 116, 1, 8]), (18, .astore_n 2, 1, []), (19, .aload_n 2, 1, []), (20, .aload_n 0, 1, []), (21, .getfield 12, 3, [0, 8, 0]), (24, .getfield 87, 3, [0, 7, 5]), (27, .invokevirtual 162, 3, [1, 10, 1, 1]), (30, .istore_n 3, 1, []), (31, .iconst 0, 1, []), (32, .istore 4, 2, []), (34, .iconst 0, 1, []), (35, .istore 5, 2, []), (37, .iload 5, 2, []), (39, .aload_n 0, 1, []), (40, .getfield 12, 3, [0, 8, 0]), (43, .getfield 68, 3, [0, 7, 2]), (46, .iload_n 1, 1, []), (47, .aaload, 1, []), (48, .getfield 124, 3, [0, 2, 4]), (51, .if_icmp .gt 68, 3, [59]), (54, .iconst 0, 1, []), (55, .istore 6, 2, []), (57, .iload 6, 2, []), (59, .bipush 7, 2, []), (61, .if_icmp .ge 52, 3, [57]), (64, .aload_n 2, 1, []), (65, .iload_n 3, 1, []), (66, .iload 5, 2, []), (68, .iload 6, 2, []), (70, .invokevirtual 202, 3, [1, 12, 3, 1]), (73, .istore 7, 2, []), (75, .iload 7, 2, []), (77, .iconst (-1), 1, []), (78, .if_icmp .eq 29, 3, [55]), (81, .aload_n 0, 1, []), (82, .getfield 54, 3, [0, 8, 8]), (85, .iload 4, 2, []), (87, .iload 7, 2, []), (89, .invokestatic 205, 3, [0, 114, 3]), (92, .ifCond .ne 15, 3, [55]), (95, .aload_n 0, 1, []), (96, .getfield 54, 3, [0, 8, 8]), (99, .iload 4, 2, []), (101, .iload 7, 2, []), (103, .iastore, 1, []), (104, .iinc 4 1, 3, []), (107, .iinc 6 1, 3, []), (110, .goto (-53), 3, [31]), (113, .iinc 5 1, 3, []), (116, .goto (-79), 3, [21]), (119, .iload 4, 2, []), (121, .ireturn, 1, [0])]
def xt_82 : List xa_E := [(0, .iload_n 1, 1, []), (1, .invokestatic 102, 3, [0, 106, 1]), (4, .ifCond .eq 13, 3, [8]), (7, .iload_n 2, 1, []), (8, .iconst 0, 1, []), (9, .ldc 181, 2, [0, 65535]), (11, .invokestatic 79, 3, [0, 103, 3]), (14, .ifCond .ne 9, 3, [12]), (17, .aload_n 0, 1, []), (18, .iconst 0, 1, []), (19, .invokevirtual 83, 3, [1, 102, 1, 8]), (22, .ireturn, 1, [0]), (23, .aload_n 0, 1, []), (24, .iload_n 1, 1, []), (25, .invokevirtual 158, 3, [1, 116, 1, 8]), (28, .astore_n 3, 1, []), (29, .aload_n 3, 1, []), (30, .aload_n 0, 1, []), (31, .getfield 12, 3, [0, 8, 0]), (34, .getfield 87, 3, [0, 7, 5]), (37, .invokevirtual 162, 3, [1, 10, 1, 1]), (40, .istore 4, 2, []), (42, .iconst 0, 1, []), (43, .istore 5, 2, []), (45, .iload 5, 2, []), (47, .aload_n 0, 1, []), (48, .getfield 12, 3, [0, 8, 0]), (51, .getfield 68, 3, [0, 7, 2]), (54, .iload_n 1, 1, []), (55, .aaload, 1, []), (56, .getfield 124, 3, [0, 2, 4]), (59, .if_icmp .gt 62, 3, [62]), (62, .iconst 0, 1, []), (63, .istore 6, 2, []), (65, .iload 6, 2, []), (67, .bipush 7, 2, []), (69, .if_icmp .ge 46, 3, [60]), (72, .aload_n 3, 1, []), (73, .iload 4, 2, []), (75, .iload 5, 2, []), (77, .iload 6, 2, []), (79, .invokevirtual 202, 3, [1, 12, 3, 1]), (82, .iload_n 2, 1, []), (83, .if_icmp .ne 26, 3, [58]), (86, .bipush 100, 2, []), (88, .iload 5, 2, []), (90, .imul, 1, []), (91, .bipush 10, 2, []), (93, .getstatic 209, 3, [0, 6]), (96, .iload 6, 2, []), (98, .iaload, 1, []), (99, .imul, 1, []), (100, .iadd, 1, []), (101, .getstatic 212, 3, [0, 7]), (104, .iload 6, 2, []), (106, .iaload, 1, []), (107, .iadd, 1, []), (108, .ireturn, 1, [0]), (109, .iinc 6 1, 3, []), (112, .goto (-47), 3, [34]), (115, .iinc 5 1, 3, []), (118, .goto (-73), 3, [24]), (121, .aload_n 0, 1, []), (122, .iconst 3, 1, []), (123, .invokevirtual 83, 3, [1, 102, 1, 8]), (126, .ireturn, 1, [0])]
def xt_83 : List xa_E := [(0, .iload_n 1, 1, []), (1, .invokestatic 102, 3, [0, 106, 1]), (4, .ifCond .eq 17, 3, [9]), (7, .iload_n 2, 1, []), (8, .invokestatic 91, 3, [0, 105, 1]), (11, .ifCond .eq 10, 3, [9]), (14, .iload_n 3, 1, []), (15, .invokestatic 155, 3, [0, 104, 1]), (18, .ifCond .ne 9, 3, [13]), (21, .aload_n 0, 1, []), (22, .iconst 0, 1, []), (23, .invokevirtual 83, 3, [1, 102, 1, 8]), (26, .ireturn, 1, [0]), (27, .aload_n 0, 1, []), (28, .iload_n 1, 1, []), (29, .iload_n 2, 1, []), (30, .iload_n 3, 1, []), (31, .invokevirtual 215, 3, [1, 118, 3, 8]), (34, .ireturn, 1, [0])]
def xt_84 : List xa_E := [(0, .iload_n 1, 1, []), (1, .invokestatic 102, 3, [0, 106, 1]), (4, .ifCond .eq 17, 3, [9]), (7, .iload_n 2, 1, []), (8, .invokestatic 91, 3, [0, 105, 1]), (11, .ifCond .eq 10, 3, [9]), (14, .iload_n 3, 1, []), (15, .invokestatic 155, 3, [0, 104, 1]), (18, .ifCond .ne 9, 3, [13]), (21, .aload_n 0, 1, []), (22, .iconst 0, 1, []), (23, .invokevirtual 83, 3, [1, 102, 1, 8]), (26, .ireturn, 1, [0]), (27, .aload_n 0, 1, []), (28, .iload_n 1, 1, []), (29, .iload_n 2, 1, []), (30, .iload_n 3, 1, []), (31, .invokevirtual 215, 3, [1, 118, 3, 8]), (34, .istore 4, 2, []), (36, .iload 4, 2, []), (38, .ifCond .ne 11, 3, [25]), (41, .aload_n 0, 1, []), (42, .iconst 3, 1, []), (43, .invokevirtual 83, 3, [1, 102, 1, 8]), (46, .goto 7, 3, [28]), (49, .iload 4, 2, []), (51, .iconst 1, 1, []), (52, .isub, 1, []), (53, .ireturn, 1, [0])]
def xt_85 : List xa_E := [(0, .iload_n 1, 1, []), (1, .invokestatic 102, 3, [0, 106, 1]), (4, .ifCond .eq 20, 3, [11]), (7, .iload_n 2, 1, []), (8, .iconst 1, 1, []), (9, .bipush 12, 2, []), (11, .invokestatic 79, 3, [0, 103, 3]), (14, .ifCond .eq 10, 3, [11]), (17, .iload_n 3, 1, []), (18, .invokestatic 91, 3, [0, 105, 1]), (21, .ifCond .ne 9, 3, [15]), (24, .aload_n 0, 1, []), (25, .iconst 0, 1, []), (26, .invokevirtual 83, 3, [1, 102, 1, 8]), (29, .ireturn, 1, [0]), (30, .aload_n 0, 1, []), (31, .getfield 12, 3, [0, 8, 0]), (34, .getfield 68, 3, [0, 7, 2]), (37, .iload_n 1, 1, []), (38, .aaload, 1, []), (39, .astore 4, 2, []), (41, .aload 4, 2, []), (43, .getfield 124, 3, [0, 2, 4]), (46, .ifCond .ne 9, 3, [28]), (49, .aload_n 0, 1, []), (50, .iconst 4, 1, []), (51, .invokevirtual 83, 3, [1, 102, 1, 8]), (54, .ireturn, 1, [0]), (55, .iconst 0, 1, []), (56, .istore 5, 2, []), (58, .iconst 0, 1, []), (59, .istore 6, 2, []), (61, .iload 6, 2, []), (63, .iload_n 2, 1, []), (64, .if_icmp .ge 57, 3, [62]), (67, .aload_n 0, 1, []), (68, .getfield 12, 3, [0, 8, 0]), (71, .invokevirtual 218, 3, [1, 57, 0, 7]), (74, .aload 4, 2, []), (76, .getfield 124, 3, [0, 2, 4]), (79, .irem, 1, []), (80, .istore 7, 2, []), (82, .aload 4, 2, []), (84, .getfield 140, 3, [0, 2, 3]), (87, .iload 7, 2, []), (89, .aload_n 0, 1, []), (90, .getfield 12, 3, [0, 8, 0]), (93, .getfield 87, 3, [0, 7, 5]), (96, .iastore, 1, []), (97, .aload 4, 2, []), (99, .getfield 137, 3, [0, 2, 2]), (102, .iload 7, 2, []), (104, .iload_n 3, 1, []), (105, .iastore, 1, []), (106, .iload 5, 2, []), (108, .iconst 1, 1, []), (109, .iload 7, 2, []), (111, .ishl, 1, []), (112, .ior, 1, []), (113, .istore 5, 2, []), (115, .iinc 6 1, 3, []), (118, .goto (-57), 3, [32]), (121, .iload 5, 2, []), (123, .invokestatic 222, 3, [0, 211, 1]), (126, .ireturn, 1, [0])]
def xt_86 : List xa_E := [(0, .aload_n 0, 1, []), (1, .getfield 12, 3, [0, 8, 0]), (4, .getfield 227, 3, [0, 7, 6]), (7, .istore_n 2, 1, []), (8, .aload_n 0, 1, []), (9, .getfield 12, 3, [0, 8, 0]), (12, .iload_n 1, 1, []), (13, .putfield 227, 3, [0, 7, 6, 0]), (16, .iload_n 2, 1, []), (17, .ireturn, 1, [0])]
def xt_87 : List xa_E := [(0, .iload_n 2, 1, []), (1, .iconst 1, 1, []), (2, .iconst 4, 1, []), (3, .invokestatic 79, 3, [0, 103, 3]), (6, .ifCond .ne 9, 3, [9]), (9, .aload_n 0, 1, []), (10, .iconst 0, 1, []), (11, .invokevirtual 83, 3, [1, 102, 1, 8]), (14, .ireturn, 1, [0]), (15, .aload_n 0, 1, []), (16, .getfield 31, 3, [0, 8, 4]), (19, .getfield 230, 3, [0, 5, 2]), (22, .iload_n 2, 1, []), (23, .iadd, 1, []), (24, .bipush 120, 2, []), (26, .if_icmp .le 9, 3, [20]), (29, .aload_n 0, 1, []), (30, .iconst 1, 1, []), (31, .invokevirtual 83, 3, [1, 102, 1, 8]), (34, .ireturn, 1, [0]), (35, .iload_n 2, 1, []), (36, .iconst 1, 1, []), (37, .isub, 1, []), (38, .istore_n 3, 1, []), (39, .iload_n 3, 1, []), (40, .ifCond .lt 26, 3, [38]), (43, .aload_n 0, 1, []), (44, .getfield 31, 3, [0, 8, 4]), (47, .iload_n 1, 1, []), (48, .bipush 8, 2, []), (50, .iload_n 3, 1, []), (51, .imul, 1, []), (52, .iushr, 1, []), (53, .sipush 255, 3, []), (56, .iand, 1, []), (57, .invokevirtual 231, 3, [1, 36, 1, 5]), (60, .iinc 3 (-1), 3, []), (63, .goto (-24), 3, [24]), (66, .aload_n 0, 1, []), (67, .getfield 31, 3, [0, 8, 4]), (70, .getfield 230, 3, [0, 5, 2]), (73, .ireturn, 1, [0])]
def xt_88 : List xa_E := [(0, .aload_n 0, 1, []), (1, .getfield 31, 3, [0, 8, 4]), (4, .getfield 230, 3, [0, 5, 2]), (7, .istore_n 1, 1, []), (8, .aload_n 0, 1, []), (9, .getfield 31, 3, [0, 8, 4]), (12, .iconst 0, 1, []), (13, .putfield 230, 3, [0, 5, 2, 0]), (16, .iload_n 1, 1, []), (17, .ireturn, 1, [0])]
def xt_89 : List xa_E := [(0, .aload_n 0, 1, []), (1, .getfield 19, 3, [0, 8, 2]), (4, .aload_n 0, 1, []), (5, .getfield 12, 3, [0, 8, 0]), (8, .invokevirtual 233, 3, [1, 54, 1, 7]), (11, .aload_n 0, 1, []), (12, .getfield 40, 3, [0, 8, 5]), (15, .invokevirtual 237, 3, [1, 44, 0, 6]), (18, .istore_n 1, 1, []), (19, .aload_n 0, 1, []), (20, .getfield 31, 3, [0, 8, 4]), (23, .iconst 0, 1, []), (24, .putfield 230, 3, [0, 5, 2, 0]), (27, .iload_n 1, 1, []), (28, .ifCond .ge 14, 3, [20]), (31, .aload_n 0, 1, []), (32, .getfield 12, 3, [0, 8, 0]), (35, .aload_n 0, 1, []), (36, .getfield 19, 3, [0, 8, 2]), (39, .invokevirtual 233, 3, [1, 54, 1, 7]), (42, .iload_n 1, 1, []), (43, .ireturn, 1, [0])]
def xt_90 : List xa_E := [(0, .iload_n 1, 1, []), (1, .invokestatic 240, 3, [0, 109, 1]), (4, .ifCond .eq 24, 3, [14]), (7, .iload_n 2, 1, []), (8, .invokestatic 102, 3, [0, 106, 1]), (11, .ifCond .eq 17, 3, [14]), (14, .iload_n 3, 1, []), (15, .iconst (-1), 1, []), (16, .if_icmp .eq 18, 3, [18]), (19, .aload_n 0, 1, []), (20, .iload_n 2, 1, []), (21, .iload_n 3, 1, []), (22, .invokevirtual 127, 3, [1, 111, 2, 8]), (25, .ifCond .ne 9, 3, [18]), (28, .aload_n 0, 1, []), (29, .iconst 0, 1, []), (30, .invokevirtual 83, 3, [1, 102, 1, 8]), (33, .ireturn, 1, [0]), (34, .aload_n 0, 1, []), (35, .getfield 12, 3, [0, 8, 0]), (38, .getfield 243, 3, [0, 7, 3]), (41, .iload_n 1, 1, []), (42, .iload_n 2, 1, []), (43, .iastore, 1, []), (44, .aload_n 0, 1, []), (45, .getfield 12, 3, [0, 8, 0]), (48, .getfield 246, 3, [0, 7, 4]), (51, .iload_n 1, 1, []), (52, .iload_n 3, 1, []), (53, .iastore, 1, []), (54, .iconst 1, 1, []), (55, .ireturn, 1, [0])]
def xt_91 : List xa_E := [(0, .iload_n 1, 1, []), (1, .invokestatic 240, 3, [0, 109, 1]), (4, .ifCond .eq 10, 3, [6]), (7, .iload_n 2, 1, []), (8, .invokestatic 110, 3, [0, 107, 1]), (11, .ifCond .ne 9, 3, [10]), (14, .aload_n 0, 1, []), (15, .iconst 0, 1, []), (16, .invokevirtual 83, 3, [1, 102, 1, 8]), (19, .ireturn, 1, [0]), (20, .aload_n 0, 1, []), (21, .getfield 12, 3, [0, 8, 0]), (24, .getfield 243, 3, [0, 7, 3]), (27, .iload_n 1, 1, []), (28, .iaload, 1, []), (29, .istore_n 3, 1, []), (30, .aload_n 0, 1, []), (31, .getfield 12, 3, [0, 8, 0]), (34, .getfield 246, 3, [0, 7, 4]), (37, .iload_n 1, 1, []), (38, .iaload, 1, []), (39, .istore 4, 2, []), (41, .aload_n 0, 1, []), (42, .iload_n 3, 1, []), (43, .iload 4, 2, []), (45, .invokevirtual 127, 3, [1, 111, 2, 8]), (48, .ifCond .ne 9, 3, [31]), (51, .aload_n 0, 1, []), (52, .iconst 5, 1, []), (53, .invokevirtual 83, 3, [1, 102, 1, 8]), (56, .ireturn, 1, [0]), (57, .aload_n 0, 1, []), (58, .getfield 12, 3, [0, 8, 0]), (61, .getfield 68, 3, [0, 7, 2]), (64, .iload_n 3, 1, []), (65, .aaload, 1, []), (66, .getfield 131, 3, [0, 2, 0]), (69, .iload 4, 2, []), (71, .iaload, 1, []), (72, .iload_n 2, 1, []), (73, .invokestatic 249, 3, [0, 113, 2]), (76, .ifCond .ne 9, 3, [46]), (79, .aload_n 0, 1, []), (80, .iconst 2, 1, []), (81, .invokevirtual 83, 3, [1, 102, 1, 8]), (84, .ireturn, 1, [0]), (85, .bipush 100, 2, []), (87, .iload_n 3, 1, []), (88, .imul, 1, []), (89, .iload 4, 2, []), (91, .iadd, 1, []), (92, .ireturn, 1, [0])]
def xt_92 : List xa_E := [(0, .iload_n 1, 1, []), (1, .invokestatic 252, 3, [0, 110, 1]), (4, .ifCond .eq 25, 3, [14]), (7, .iload_n 2, 1, []), (8, .ifCond .eq 27, 3, [18]), (11, .iload_n 2, 1, []), (12, .bipush 8, 2, []), (14, .if_icmp .eq 21, 3, [18]), (17, .iload_n 2, 1, []), (18, .bipush 16, 2, []), (20, .if_icmp .eq 15, 3, [18]), (23, .iload_n 2, 1, []), (24, .bipush 32, 2, []), (26, .if_icmp .eq 9, 3, [18]), (29, .aload_n 0, 1, []), (30, .iconst 0, 1, []), (31, .invokevirtual 83, 3, [1, 102, 1, 8]), (34, .ireturn, 1, [0]), (35, .iload_n 3, 1, []), (36, .ifCond .ge 10, 3, [24]), (39, .aload_n 0, 1, []), (40, .bipush 6, 2, []), (42, .invokevirtual 83, 3, [1, 102, 1, 8]), (45, .ireturn, 1, [0]), (46, .iload_n 3, 1, []), (47, .bipush 40, 2, []), (49, .if_icmp .le 9, 3, [31]), (52, .aload_n 0, 1, []), (53, .iconst 0, 1, []), (54, .invokevirtual 83, 3, [1, 102, 1, 8]), (57, .ireturn, 1, [0]), (58, .aload_n 0, 1, []), (59, .getfield 46, 3, [0, 8, 6]), (62, .iload_n 1, 1, []), (63, .aaload, 1, []), (64, .iload_n 2, 1, []), (65, .iload_n 3, 1, []), (66, .invokevirtual 255, 3, [1, 32, 2, 4]), (69, .aload_n 0, 1, []), (70, .getfield 46, 3, [0, 8, 6]), (73, .iload_n 1, 1, []), (74, .aaload, 1, []), (75, .getfield 258, 3, [0, 4, 2]), (78, .ireturn, 1, [0])]
def xt_93 : List xa_E := [(0, .iload_n 1, 1, []), (1, .invokestatic 252, 3, [0, 110, 1]), (4, .ifCond .ne 9, 3, [7]), (7, .aload_n 0, 1, []), (8, .iconst 0, 1, []), (9, .invokevirtual 83, 3, [1, 102, 1, 8]), (12, .ireturn, 1, [0]), (13, .aload_n 0, 1, []), (14, .getfield 46, 3, [0, 8, 6]), (17, .iload_n 1, 1, []), (18, .aaload, 1, []), (19, .invokevirtual 259, 3, [1, 31, 0, 4]), (22, .ifCond .eq 9, 3, [17]), (25, .aload_n 0, 1, []), (26, .iconst 5, 1, []), (27, .invokevirtual 83, 3, [1, 102, 1, 8]), (30, .ireturn, 1, [0]), (31, .iload_n 2, 1, []), (32, .iconst 0, 1, []), (33, .aload_n 0, 1, []), (34, .getfield 46, 3, [0, 8, 6]), (37, .iload_n 1, 1, []), (38, .aaload, 1, []), (39, .getfield 258, 3, [0, 4, 2]), (42, .iconst 1, 1, []), (43, .isub, 1, []), (44, .invokestatic 79, 3, [0, 103, 3]), (47, .ifCond .ne 9, 3, [32]), (50, .aload_n 0, 1, []), (51, .iconst 0, 1, []), (52, .invokevirtual 83, 3, [1, 102, 1, 8]), (55, .ireturn, 1, [0]), (56, .aload_n 0, 1, []), (57, .getfield 46, 3, [0, 8, 6]), (60, .iload_n 1, 1, []), (61, .aaload, 1, []), (62, .iload_n 2, 1, []), (63, .iload_n 3, 1, []), (64, .invokevirtual 262, 3, [1, 33, 2, 4]), (67, .iconst 1, 1, []), (68, .ireturn, 1, [0])]
def xt_94 : List xa_E := [(0, .iload_n 1, 1, []), (1, .invokestatic 252, 3, [0, 110, 1]), (4, .ifCond .eq 10, 3, [6]), (7, .iload_n 3, 1, []), (8, .invokestatic 252, 3, [0, 110, 1]), (11, .ifCond .ne 9, 3, [10]), (14, .aload_n 0, 1, []), (15, .iconst 0, 1, []), (16, .invokevirtual 83, 3, [1, 102, 1, 8]), (19, .ireturn, 1, [0]), (20, .aload_n 0, 1, []), (21, .getfield 46, 3, [0, 8, 6]), (24, .iload_n 1, 1, []), (25, .aaload, 1, []), (26, .invokevirtual 259, 3, [1, 31, 0, 4]), (29, .ifCond .ne 15, 3, [22]), (32, .aload_n 0, 1, []), (33, .getfield 46, 3, [0, 8, 6]), (36, .iload_n 3, 1, []), (37, .aaload, 1, []), (38, .invokevirtual 259, 3, [1, 31, 0, 4]), (41, .ifCond .eq 9, 3, [26]), (44, .aload_n 0, 1, []), (45, .iconst 5, 1, []), (46, .invokevirtual 83, 3, [1, 102, 1, 8]), (49, .ireturn, 1, [0]), (50, .aload_n 0, 1, []), (51, .getfield 46, 3, [0, 8, 6]), (54, .iload_n 1, 1, []), (55, .aaload, 1, []), (56, .getfield 265, 3, [0, 4, 1]), (59, .aload_n 0, 1, []), (60, .getfield 46, 3, [0, 8, 6]), (63, .iload_n 3, 1, []), (64, .aaload, 1, []), (65, .getfield 265, 3, [0, 4, 1]), (68, .if_icmp .eq 9, 3, [41]), (71, .aload_n 0, 1, []), (72, .iconst 2, 1, []), (73, .invokevirtual 83, 3, [1, 102, 1, 8]), (76, .ireturn, 1, [0]), (77, .aload_n 0, 1, []), (78, .getfield 46, 3, [0, 8, 6]), (81, .iload_n 1, 1, []), (82, .aaload, 1, []), (83, .iload_n 2, 1, []), (84, .iload 5, 2, []), (86, .invokevirtual 268, 3, [1, 34, 2, 4]), (89, .ifCond .eq 19, 3, [57]), (92, .aload_n 0, 1, []), (93, .getfield 46, 3, [0, 8, 6]), (96, .iload_n 3, 1, []), (97, .aaload, 1, []), (98, .iload 4, 2, []), (100, .iload 5, 2, []), (102, .invokevirtual 268, 3, [1, 34, 2, 4]), (105, .ifCond .ne 9, 3, [61]), (108, .aload_n 0, 1, []), (109, .iconst 0, 1, []), (110, .invokevirtual 83, 3, [1, 102, 1, 8]), (113, .ireturn, 1, [0]), (114, .aload_n 0, 1, []), (115, .getfield 46, 3, [0, 8, 6]), (118, .iload_n 1, 1, []), (119, .aaload, 1, []), (120, .getfield 271, 3, [0, 4, 0]), (123, .iload_n 2, 1, []), (124, .aload_n 0, 1, []), (125, .getfield 46, 3, [0, 8, 6]), (128, .iload_n 3, 1, []), (129, .aaload, 1, []), (130, .getfield 271, 3, [0, 4, 0]), (133, .iload 4, 2, []), (135, .iload 5, 2, []), (137, .invokestatic 274, 3, [9]), (140, .iload 5, 2, []), (142, .ireturn, 1, [0])]
def xt_95 : List xa_E := [(0, .iload_n 1, 1, []), (1, .invokestatic 252, 3, [0, 110, 1]), (4, .ifCond .ne 9, 3, [7]), (7, .aload_n 0, 1, []), (8, .iconst 0, 1, []), (9, .invokevirtual 83, 3, [1, 102, 1, 8]), (12, .ireturn, 1, [0]), (13, .aload_n 0, 1, []), (14, .getfield 46, 3, [0, 8, 6]), (17, .iload_n 1, 1, []), (18, .aaload, 1, []), (19, .astore 4, 2, []), (21, .aload 4, 2, []), (23, .invokevirtual 259, 3, [1, 31, 0, 4]), (26, .ifCond .eq 9, 3, [19]), (29, .aload_n 0, 1, []), (30, .iconst 5, 1, []), (31, .invokevirtual 83, 3, [1, 102, 1, 8]), (34, .ireturn, 1, [0]), (35, .iload_n 2, 1, []), (36, .invokestatic 102, 3, [0, 106, 1]), (39, .ifCond .eq 10, 3, [25]), (42, .iload_n 3, 1, []), (43, .invokestatic 91, 3, [0, 105, 1]), (46, .ifCond .ne 9, 3, [29]), (49, .aload_n 0, 1, []), (50, .iconst 0, 1, []), (51, .invokevirtual 83, 3, [1, 102, 1, 8]), (54, .ireturn, 1, [0]), (55, .aload_n 0, 1, []), (56, .getfield 12, 3, [0, 8, 0]), (59, .getfield 68, 3, [0, 7, 2]), (62, .iload_n 2, 1, []), (63, .aaload, 1, []), (64, .astore 5, 2, []), (66, .iconst 0, 1, []), (67, .istore 6, 2, []), (69, .iload 6, 2, []), (71, .aload 4, 2, []), (73, .getfield 258, 3, [0, 4, 2]), (76, .if_icmp .ge 64, 3, [69]), (79, .aload 5, 2, []), (81, .invokevirtual 116, 3, [1, 22, 0, 2]), (84, .ifCond .ne 56, 3, [69]), (87, .aload 4, 2, []), (89, .getfield 271, 3, [0, 4, 0]), (92, .iload 6, 2, []), (94, .iaload, 1, []), (95, .invokestatic 280, 3, [0, 112, 1]), (98, .ifCond .eq 42, 3, [69]), (101, .aload 4, 2, []), (103, .getfield 271, 3, [0, 4, 0]), (106, .iload 6, 2, []), (108, .iaload, 1, []), (109, .istore 7, 2, []), (111, .aload 5, 2, []), (113, .iload 7, 2, []), (115, .bipush 10, 2, []), (117, .idiv, 1, []), (118, .iload 7, 2, []), (120, .bipush 10, 2, []), (122, .irem, 1, []), (123, .iload_n 3, 1, []), (124, .aload_n 0, 1, []), (125, .getfield 12, 3, [0, 8, 0]), (128, .getfield 87, 3, [0, 7, 5]), (131, .invokevirtual 120, 3, [1, 23, 4, 2]), (134, .iinc 6 1, 3, []), (137, .goto (-68), 3, [37]), (140, .iload 6, 2, []), (142, .ireturn, 1, [0])]
def xt_96 : List xa_E := [(0, .iload_n 1, 1, []), (1, .invokestatic 252, 3, [0, 110, 1]), (4, .ifCond .ne 9, 3, [7]), (7, .aload_n 0, 1, []), (8, .iconst 0, 1, []), (9, .invokevirtual 83, 3, [1, 102, 1, 8]), (12, .ireturn, 1, [0]), (13, .aload_n 0, 1, []), (14, .getfield 46, 3, [0, 8, 6]), (17, .iload_n 1, 1, []), (18, .aaload, 1, []), (19, .astore 4, 2, []), (21, .aload 4, 2, []), (23, .invokevirtual 259, 3, [1, 31, 0, 4]), (26, .ifCond .eq 9, 3, [19]), (29, .aload_n 0, 1, []), (30, .iconst 5, 1, []), (31, .invokevirtual 83, 3, [1, 102, 1, 8]), (34, .ireturn, 1, [0]), (35, .iload_n 2, 1, []), (36, .invokestatic 102, 3, [0, 106, 1]), (39, .ifCond .eq 10, 3, [25]), (42, .iload_n 3, 1, []), (43, .invokestatic 155, 3, [0, 104, 1]), (46, .ifCond .ne 9, 3, [29]), (49, .aload_n 0, 1, []), (50, .iconst 0, 1, []), (51, .invokevirtual 83, 3, [1, 102, 1, 8]), (54, .ireturn, 1, [0]), (55, .aload_n 0, 1, []), (56, .iload_n 2, 1, []), (57, .invokevirtual 158, 3, [1, 116, 1, 8]), (60, .astore 5, 2, []), (62, .iconst 0, 1, []), (63, .istore 6, 2, []), (65, .iload 6, 2, []), (67, .aload 4, 2, []), (69, .getfield 258, 3, [0, 4, 2]), (72, .if_icmp .ge 44, 3, [60]), (75, .iload_n 3, 1, []), (76, .iload 6, 2, []), (78, .iadd, 1, []), (79, .sipush 9999, 3, []), (82, .if_icmp .gt 23, 3, [54]), (85, .aload 5, 2, []), (87, .iload_n 3, 1, []), (88, .iload 6, 2, []), (90, .iadd, 1, []), (91, .invokevirtual 172, 3, [1, 13, 1, 1]), (94, .aload 4, 2, []), (96, .getfield 271, 3, [0, 4, 0]), (99, .iload 6, 2, []), (101, .iaload, 1, []), (102, .if_icmp .eq 8, 3, [58]), (105, .iconst 1, 1, []), (106, .iload 6, 2, []), (108, .iadd, 1, []), (109, .ireturn, 1, [0]), (110, .iinc 6 1, 3, []), (113, .goto (-48), 3, [35]), (116, .iconst 0, 1, []), (117, .ireturn, 1, [0])]
def xt_97 : List xa_E := [(0, .aload_n 0, 1, []), (1, .getfield 16, 3, [0, 8, 1]), (4, .aload_n 0, 1, []), (5, .getfield 12, 3, [0, 8, 0]), (8, .invokevirtual 233, 3, [1, 54, 1, 7]), (11, .aload_n 0, 1, []), (12, .iconst 1, 1, []), (13, .putfield 64, 3, [0, 8, 10, 1]), (16, .iconst 1, 1, []), (17, .ireturn, 1, [0])]
def xt_98 : List xa_E := [(0, .aload_n 0, 1, []), (1, .getfield 64, 3, [0, 8, 10]), (4, .ifCond .ne 9, 3, [7]), (7, .aload_n 0, 1, []), (8, .iconst 3, 1, []), (9, .invokevirtual 83, 3, [1, 102, 1, 8]), (12, .ireturn, 1, [0]), (13, .aload_n 0, 1, []), (14, .getfield 12, 3, [0, 8, 0]), (17, .aload_n 0, 1, []), (18, .getfield 16, 3, [0, 8, 1]), (21, .invokevirtual 233, 3, [1, 54, 1, 7]), (24, .aload_n 0, 1, []), (25, .getfield 12, 3, [0, 8, 0]), (28, .getfield 87, 3, [0, 7, 5]), (31, .ireturn, 1, [0])]
def xt_99 : List xa_E := [(0, .aload_n 0, 1, []), (1, .getfield 64, 3, [0, 8, 10]), (4, .istore_n 1, 1, []), (5, .aload_n 0, 1, []), (6, .iconst 0, 1, []), (7, .putfield 64, 3, [0, 8, 10, 1]), (10, .iload_n 1, 1, []), (11, .ifCond .eq 7, 3, [10]), (14, .iconst 1, 1, []), (15, .goto 4, 3, [11]), (18, .iconst 0, 1, []), (19, .ireturn, 1, [0])]
def xt_100 : List xa_E := [(0, .iload_n 1, 1, []), (1, .tableswitch 90 0 6 #[43, 51, 56, 61, 66, 74, 82], 43, [27, 2, 6, 9, 12, 15, 19, 23]), (44, .aload_n 0, 1, []), (45, .getfield 12, 3, [0, 8, 0]), (48, .getfield 87, 3, [0, 7, 5]), (51, .ireturn, 1, [0]), (52, .aload_n 0, 1, []), (53, .invokevirtual 283, 3, [1, 119, 0, 8]), (56, .ireturn, 1, [0]), (57, .aload_n 0, 1, []), (58, .invokevirtual 286, 3, [1, 120, 0, 8]), (61, .ireturn, 1, [0]), (62, .aload_n 0, 1, []), (63, .invokevirtual 289, 3, [1, 121, 0, 8]), (66, .ireturn, 1, [0]), (67, .aload_n 0, 1, []), (68, .getfield 31, 3, [0, 8, 4]), (71, .getfield 230, 3, [0, 5, 2]), (74, .ireturn, 1, [0]), (75, .aload_n 0, 1, []), (76, .getfield 12, 3, [0, 8, 0]), (79, .getfield 227, 3, [0, 7, 6]), (82, .ireturn, 1, [0]), (83, .aload_n 0, 1, []), (84, .getfield 12, 3, [0, 8, 0]), (87, .invokevirtual 292, 3, [1, 56, 0, 7]), (90, .ireturn, 1, [0]), (91, .aload_n 0, 1, []), (92, .iconst 0, 1, []), (93, .invokevirtual 83, 3, [1, 102, 1, 8]), (96, .ireturn, 1, [0])]
def xt_101 : List xa_E := [(0, .iload_n 1, 1, []), (1, .iconst (-1), 1, []), (2, .bipush 6, 2, []), (4, .invokestatic 79, 3, [0, 103, 3]), (7, .ifCond .ne 9, 3, [9]), (10, .aload_n 0, 1, []), (11, .iconst 0, 1, []), (12, .invokevirtual 83, 3, [1, 102, 1, 8]), (15, .ireturn, 1, [0]), (16, .iload_n 1, 1, []), (17, .ifCond .lt 10, 3, [16]), (20, .aload_n 0, 1, []), (21, .getfield 50, 3, [0, 8, 7]), (24, .iload_n 1, 1, []), (25, .iaload, 1, []), (26, .ireturn, 1, [0]), (27, .iconst 0, 1, []), (28, .istore_n 2, 1, []), (29, .iconst 0, 1, []), (30, .istore_n 3, 1, []), (31, .iload_n 3, 1, []), (32, .bipush 7, 2, []), (34, .if_icmp .ge 18, 3, [32]), (37, .iload_n 2, 1, []), (38, .aload_n 0, 1, []), (39, .getfield 50, 3, [0, 8, 7]), (42, .iload_n 3, 1, []), (43, .iaload, 1, []), (44, .iadd, 1, []), (45, .istore_n 2, 1, []), (46, .iinc 3 1, 3, []), (49, .goto (-18), 3, [20]), (52, .iload_n 2, 1, []), (53, .ireturn, 1, [0])]
def xt_102 : List xa_E := [(0, .aload_n 0, 1, []), (1, .getfield 50, 3, [0, 8, 7]), (4, .iload_n 1, 1, []), (5, .dup2, 1, []), (6, .iaload, 1, []), (7, .iconst 1, 1, []), (8, .iadd, 1, []), (9, .iastore, 1, []), (10, .ldc_w 295, 3, [0, -1000001]), (13, .iload_n 1, 1, []), (14, .isub, 1, []), (15, .ireturn, 1, [0])]
def xt_103 : List xa_E := [(0, .iload_n 0, 1, []), (1, .iload_n 1, 1, []), (2, .if_icmp .lt 12, 3, [8]), (5, .iload_n 0, 1, []), (6, .iload_n 2, 1, []), (7, .if_icmp .gt 7, 3, [8]), (10, .iconst 1, 1, []), (11, .goto 4, 3, [9]), (14, .iconst 0, 1, []), (15, .ireturn, 1, [1])]
def xt_104 : List xa_E := [(0, .iload_n 0, 1, []), (1, .iconst 0, 1, []), (2, .sipush 9999, 3, []), (5, .invokestatic 79, 3, [0, 103, 3]), (8, .ireturn, 1, [1])]
def xt_105 : List xa_E := [(0, .iload_n 0, 1, []), (1, .iconst 0, 1, []), (2, .bipush 7, 2, []), (4, .invokestatic 79, 3, [0, 103, 3]), (7, .ireturn, 1, [1])]
def xt_106 : List xa_E := [(0, .iload_n 0, 1, []), (1, .iconst 0, 1, []), (2, .iconst 3, 1, []), (3, .invokestatic 79, 3, [0, 103, 3]), (6, .ireturn, 1, [1])]
def xt_107 : List xa_E := [(0, .iload_n 0, 1, []), (1, .iconst 0, 1, []), (2, .bipush 6, 2, []), (4, .invokestatic 79, 3, [0, 103, 3]), (7, .ireturn, 1, [1])]
def xt_108 : List xa_E := [(0, .iload_n 0, 1, []), (1, .iconst 0, 1, []), (2, .iconst 3, 1, []), (3, .invokestatic 79, 3, [0, 103, 3]), (6, .ireturn, 1, [1])]
def xt_109 : List xa_E := [(0, .iload_n 0, 1, []), (1, .iconst 0, 1, []), (2, .bipush 9, 2, []), (4, .invokestatic 79, 3, [0, 103, 3]), (7, .ireturn, 1, [1])]
def xt_110 : List xa_E := [(0, .iload_n 0, 1, []), (1, .iconst 0, 1, []), (2, .iconst 3, 1, []), (3, .invokestatic 79, 3, [0, 103, 3]), (6, .ireturn, 1, [1])]
def xt_111 : List xa_E := [(0, .iload_n 1, 1, []), (1, .invokestatic 102, 3, [0, 106, 1]), (4, .ifCond .eq 29, 3, [17]), (7, .iload_n 2, 1, []), (8, .iconst 0, 1, []), (9, .aload_n 0, 1, []), (10, .getfield 12, 3, [0, 8, 0]), (13, .getfield 68, 3, [0, 7, 2]), (16, .iload_n 1, 1, []), (17, .aaload, 1, []), (18, .getfield 124, 3, [0, 2, 4]), (21, .iconst 1, 1, []), (22, .isub, 1, []), (23, .invokestatic 79, 3, [0, 103, 3]), (26, .ifCond .eq 7, 3, [17]), (29, .iconst 1, 1, []), (30, .goto 4, 3, [18]), (33, .iconst 0, 1, []), (34, .ireturn, 1, [1])]
def xt_112 : List xa_E := [(0, .iload_n 0, 1, []), (1, .ifCond .lt 27, 3, [14]), (4, .iload_n 0, 1, []), (5, .bipush 10, 2, []), (7, .idiv, 1, []), (8, .invokestatic 110, 3, [0, 107, 1]), (11, .ifCond .eq 17, 3, [14]), (14, .iload_n 0, 1, []), (15, .bipush 10, 2, []), (17, .irem, 1, []), (18, .invokestatic 113, 3, [0, 108, 1]), (21, .ifCond .eq 7, 3, [14]), (24, .iconst 1, 1, []), (25, .goto 4, 3, [15]), (28, .iconst 0, 1, []), (29, .ireturn, 1, [1])]
def xt_113 : List xa_E := [(0, .iload_n 0, 1, []), (1, .istore_n 2, 1, []), (2, .iconst 0, 1, []), (3, .istore_n 3, 1, []), (4, .iload_n 3, 1, []), (5, .bipush 7, 2, []), (7, .if_icmp .ge 26, 3, [20]), (10, .iload_n 2, 1, []), (11, .ifCond .lt 22, 3, [20]), (14, .iload_n 2, 1, []), (15, .iload_n 1, 1, []), (16, .if_icmp .ne 5, 3, [14]), (19, .iconst 1, 1, []), (20, .ireturn, 1, [1]), (21, .getstatic 296, 3, [0, 4]), (24, .iload_n 2, 1, []), (25, .iaload, 1, []), (26, .istore_n 2, 1, []), (27, .iinc 3 1, 3, []), (30, .goto (-26), 3, [4]), (33, .iconst 0, 1, []), (34, .ireturn, 1, [1])]
def xt_114 : List xa_E := [(0, .iconst 0, 1, []), (1, .istore_n 3, 1, []), (2, .iload_n 3, 1, []), (3, .iload_n 1, 1, []), (4, .if_icmp .ge 18, 3, [14]), (7, .aload_n 0, 1, []), (8, .iload_n 3, 1, []), (9, .iaload, 1, []), (10, .iload_n 2, 1, []), (11, .if_icmp .ne 5, 3, [12]), (14, .iconst 1, 1, []), (15, .ireturn, 1, [1]), (16, .iinc 3 1, 3, []), (19, .goto (-17), 3, [2]), (22, .iconst 0, 1, []), (23, .ireturn, 1, [1])]
def xt_115 : List xa_E := [(0, .aload_n 0, 1, []), (1, .iload_n 1, 1, []), (2, .iaload, 1, []), (3, .istore_n 3, 1, []), (4, .aload_n 0, 1, []), (5, .iload_n 1, 1, []), (6, .iload_n 2, 1, []), (7, .iastore, 1, []), (8, .iload_n 3, 1, []), (9, .ireturn, 1, [0])]
def xt_116 : List xa_E := [(0, .aload_n 0, 1, []), (1, .getfield 24, 3, [0, 8, 3]), (4, .iload_n 1, 1, []), (5, .aaload, 1, []), (6, .invokevirtual 299, 3, [1, 8, 0, 1]), (9, .aload_n 0, 1, []), (10, .getfield 24, 3, [0, 8, 3]), (13, .iload_n 1, 1, []), (14, .aaload, 1, []), (15, .areturn, 1, [])]
def xt_117 : List xa_E := [(0, .iconst (-1), 1, []), (1, .istore 5, 2, []), (3, .sipush 199, 3, []), (6, .istore 6, 2, []), (8, .iconst 0, 1, []), (9, .istore 7, 2, []), (11, .iload 7, 2, []), (13, .bipush 8, 2, []), (15, .if_icmp .ge 141, 3, [78]), (18, .iconst 0, 1, []), (19, .istore 8, 2, []), (21, .iload 8, 2, []), (23, .bipush 8, 2, []), (25, .if_icmp .ge 125, 3, [76]), (28, .aload_n 0, 1, []), (29, .getfield 12, 3, [0, 8, 0]), (32, .getfield 99, 3, [0, 7, 1]), (35, .iload 7, 2, []), (37, .iaload, 1, []), (38, .aload_n 0, 1, []), (39, .getfield 12, 3, [0, 8, 0]), (42, .getfield 99, 3, [0, 7, 1]), (45, .iload 8, 2, []), (47, .iaload, 1, []), (48, .iadd, 1, []), (49, .istore 9, 2, []), (51, .iload 9, 2, []), (53, .iload 6, 2, []), (55, .if_icmp .ge 89, 3, [74]), (58, .aload_n 1, 1, []), (59, .getfield 169, 3, [0, 1, 2]), (62, .iload_n 2, 1, []), (63, .aload_n 1, 1, []), (64, .iload_n 2, 1, []), (65, .aload_n 0, 1, []), (66, .getfield 12, 3, [0, 8, 0]), (69, .getfield 72, 3, [0, 7, 0]), (72, .iload 7, 2, []), (74, .iaload, 1, []), (75, .aload_n 0, 1, []), (76, .getfield 12, 3, [0, 8, 0]), (79, .getfield 87, 3, [0, 7, 5]), (82, .invokevirtual 302, 3, [1, 9, 3, 1]), (85, .iastore, 1, []), (86, .aload_n 1, 1, []), (87, .getfield 169, 3, [0, 1, 2]), (90, .iload_n 3, 1, []), (91, .aload_n 1, 1, []), (92, .iload_n 3, 1, []), (93, .aload_n 0, 1, []), (94, .getfield 12, 3, [0, 8, 0]), (97, .getfield 72, 3, [0, 7, 0]), (100, .iload 8, 2, []), (102, .iaload, 1, []), (103, .aload_n 0, 1, []), (104, .getfield 12, 3, [0, 8, 0]), (107, .getfield 87, 3, [0, 7, 5]), (110, .invokevirtual 302, 3, [1, 9, 3, 1]), (113, .iastore, 1, []), (114, .aload_n 1, 1, []), (115, .aload_n 0, 1, []), (116, .getfield 12, 3, [0, 8, 0]), (119, .getfield 87, 3, [0, 7, 5]), (122, .iload 4, 2, []), (124, .invokevirtual 188, 3, [1, 16, 2, 1]), (127, .ifCond .eq 17, 3, [74]), (130, .bipush 10, 2, []), (132, .iload 7, 2, []), (134, .imul, 1, []), (135, .iload 8, 2, []), (137, .iadd, 1, []), (138, .istore 5, 2, []), (140, .iload 9, 2, []), (142, .istore 6, 2, []), (144, .iinc 8 1, 3, []), (147, .goto (-126), 3, [11]), (150, .iinc 7 1, 3, []), (153, .goto (-142), 3, [6]), (156, .iload 5, 2, []), (158, .ireturn, 1, [0])]
def xt_118 : List xa_E := [(0, .aload_n 0, 1, []), (1, .getfield 12, 3, [0, 8, 0]), (4, .getfield 68, 3, [0, 7, 2]), (7, .iload_n 1, 1, []), (8, .aaload, 1, []), (9, .getfield 105, 3, [0, 2, 5]), (12, .istore 4, 2, []), (14, .iload 4, 2, []), (16, .iload_n 3, 1, []), (17, .invokestatic 165, 3, [0, 123, 2]), (20, .aload_n 0, 1, []), (21, .getfield 12, 3, [0, 8, 0]), (24, .getfield 72, 3, [0, 7, 0]), (27, .iload_n 2, 1, []), (28, .iaload, 1, []), (29, .isub, 1, []), (30, .iconst 1, 1, []), (31, .iadd, 1, []), (32, .istore 5, 2, []), (34, .iload 5, 2, []), (36, .ifCond .gt 7, 3, [23]), (39, .iconst 0, 1, []), (40, .goto 10, 3, [26]), (43, .iload 4, 2, []), (45, .iload 5, 2, []), (47, .invokestatic 305, 3, [0, 124, 2]), (50, .ireturn, 1, [0])]
def xt_119 : List xa_E := [(0, .iconst 0, 1, []), (1, .istore_n 1, 1, []), (2, .iconst 0, 1, []), (3, .istore_n 2, 1, []), (4, .iload_n 2, 1, []), (5, .iconst 4, 1, []), (6, .if_icmp .ge 24, 3, [18]), (9, .iload_n 1, 1, []), (10, .aload_n 0, 1, []), (11, .getfield 12, 3, [0, 8, 0]), (14, .getfield 68, 3, [0, 7, 2]), (17, .iload_n 2, 1, []), (18, .aaload, 1, []), (19, .getfield 124, 3, [0, 2, 4]), (22, .iadd, 1, []), (23, .istore_n 1, 1, []), (24, .iinc 2 1, 3, []), (27, .goto (-23), 3, [4]), (30, .iload_n 1, 1, []), (31, .ireturn, 1, [0])]
def xt_120 : List xa_E := [(0, .iconst 0, 1, []), (1, .istore_n 1, 1, []), (2, .iconst 0, 1, []), (3, .istore_n 2, 1, []), (4, .iload_n 2, 1, []), (5, .iconst 4, 1, []), (6, .if_icmp .ge 30, 3, [20]), (9, .iload_n 1, 1, []), (10, .aload_n 0, 1, []), (11, .iload_n 2, 1, []), (12, .invokevirtual 158, 3, [1, 116, 1, 8]), (15, .aload_n 0, 1, []), (16, .getfield 12, 3, [0, 8, 0]), (19, .getfield 87, 3, [0, 7, 5]), (22, .invokevirtual 162, 3, [1, 10, 1, 1]), (25, .invokestatic 222, 3, [0, 211, 1]), (28, .iadd, 1, []), (29, .istore_n 1, 1, []), (30, .iinc 2 1, 3, []), (33, .goto (-29), 3, [4]), (36, .iload_n 1, 1, []), (37, .ireturn, 1, [0])]
def xt_121 : List xa_E := [(0, .iconst 0, 1, []), (1, .istore_n 1, 1, []), (2, .iconst 0, 1, []), (3, .istore_n 2, 1, []), (4, .iload_n 2, 1, []), (5, .iconst 4, 1, []), (6, .if_icmp .ge 31, 3, [19]), (9, .aload_n 0, 1, []), (10, .iload_n 2, 1, []), (11, .invokevirtual 158, 3, [1, 116, 1, 8]), (14, .aload_n 0, 1, []), (15, .getfield 12, 3, [0, 8, 0]), (18, .getfield 87, 3, [0, 7, 5]), (21, .invokevirtual 172, 3, [1, 13, 1, 1]), (24, .iconst (-1), 1, []), (25, .if_icmp .eq 6, 3, [17]), (28, .iinc 1 1, 3, []), (31, .iinc 2 1, 3, []), (34, .goto (-30), 3, [4]), (37, .iload_n 1, 1, []), (38, .ireturn, 1, [0])]
def xt_122 : List xa_E := [(0, .iload_n 0, 1, []), (1, .iconst 4, 1, []), (2, .if_icmp .ne 7, 3, [7]), (5, .iconst 2, 1, []), (6, .iload_n 1, 1, []), (7, .imul, 1, []), (8, .ireturn, 1, [0]), (9, .iload_n 0, 1, []), (10, .bipush 6, 2, []), (12, .if_icmp .ne 13, 3, [16]), (15, .iconst 1, 1, []), (16, .iload_n 1, 1, []), (17, .iconst 2, 1, []), (18, .idiv, 1, []), (19, .invokestatic 308, 3, [7]), (22, .goto 4, 3, [17]), (25, .iload_n 1, 1, []), (26, .ireturn, 1, [0])]
def xt_123 : List xa_E := [(0, .iload_n 0, 1, []), (1, .ifCond .ne 5, 3, [4]), (4, .iload_n 1, 1, []), (5, .ireturn, 1, [0]), (6, .bipush 12, 2, []), (8, .iconst 0, 1, []), (9, .iload_n 1, 1, []), (10, .bipush 24, 2, []), (12, .irem, 1, []), (13, .bipush 6, 2, []), (15, .isub, 1, []), (16, .invokestatic 308, 3, [7]), (19, .invokestatic 313, 3, [8]), (22, .istore_n 2, 1, []), (23, .iload_n 1, 1, []), (24, .bipush 12, 2, []), (26, .iload_n 1, 1, []), (27, .bipush 24, 2, []), (29, .idiv, 1, []), (30, .imul, 1, []), (31, .iadd, 1, []), (32, .iload_n 2, 1, []), (33, .iadd, 1, []), (34, .ireturn, 1, [0])]
def xt_124 : List xa_E := [(0, .iload_n 0, 1, []), (1, .ifCond .ne 5, 3, [4]), (4, .iload_n 1, 1, []), (5, .ireturn, 1, [0]), (6, .bipush 24, 2, []), (8, .iload_n 1, 1, []), (9, .bipush 36, 2, []), (11, .idiv, 1, []), (12, .imul, 1, []), (13, .istore_n 2, 1, []), (14, .iload_n 1, 1, []), (15, .bipush 36, 2, []), (17, .irem, 1, []), (18, .istore_n 3, 1, []), (19, .iload_n 3, 1, []), (20, .bipush 6, 2, []), (22, .if_icmp .gt 7, 3, [21]), (25, .iload_n 2, 1, []), (26, .iload_n 3, 1, []), (27, .iadd, 1, []), (28, .ireturn, 1, [0]), (29, .iload_n 3, 1, []), (30, .bipush 30, 2, []), (32, .if_icmp .gt 16, 3, [34]), (35, .iload_n 2, 1, []), (36, .bipush 6, 2, []), (38, .iadd, 1, []), (39, .iload_n 3, 1, []), (40, .iconst 5, 1, []), (41, .isub, 1, []), (42, .iconst 2, 1, []), (43, .idiv, 1, []), (44, .iadd, 1, []), (45, .goto 9, 3, [39]), (48, .iload_n 2, 1, []), (49, .iload_n 3, 1, []), (50, .iadd, 1, []), (51, .bipush 12, 2, []), (53, .isub, 1, []), (54, .ireturn, 1, [0])]
def xt_125 : List xa_E := [(0, .aload_n 0, 1, []), (1, .invokespecial 1, 3, [6]), (4, .aload_n 0, 1, []), (5, .sipush 228, 3, []), (8, .newarray .int, 2, []), (10, .putfield 7, 3, [1, 9, 0, 2]), (13, .aload_n 0, 1, []), (14, .sipush 228, 3, []), (17, .newarray .int, 2, []), (19, .putfield 13, 3, [1, 9, 1, 2]), (22, .aload_n 0, 1, []), (23, .sipush 228, 3, []), (26, .newarray .int, 2, []), (28, .putfield 16, 3, [1, 9, 2, 2]), (31, .aload_n 0, 1, []), (32, .bipush 7, 2, []), (34, .newarray .int, 2, []), (36, .putfield 19, 3, [1, 9, 3, 2]), (39, .aload_n 0, 1, []), (40, .bipush 100, 2, []), (42, .newarray .int, 2, []), (44, .putfield 22, 3, [1, 9, 10, 2]), (47, .aload_n 0, 1, []), (48, .bipush 120, 2, []), (50, .newarray .int, 2, []), (52, .putfield 25, 3, [1, 9, 11, 2]), (55, .aload_n 0, 1, []), (56, .iconst 4, 1, []), (57, .newarray .int, 2, []), (59, .putfield 28, 3, [1, 9, 17, 2]), (62, .aload_n 0, 1, []), (63, .iconst 4, 1, []), (64, .newarray .int, 2, []), (66, .putfield 31, 3, [1, 9, 18, 2]), (69, .aload_n 0, 1, []), (70, .sipush 160, 3, []), (73, .newarray .int, 2, []), (75, .putfield 34, 3, [1, 9, 19, 2]), (78, .aload_n 0, 1, []), (79, .bipush 40, 2, []), (81, .newarray .int, 2, []), (83, .putfield 37, 3, [1, 9, 20, 2]), (86, .aload_n 0, 1, []), (87, .getfield 7, 3, [0, 9, 0]), (90, .iconst 1, 1, []), (91, .iconst 1, 1, []), (92, .iastore, 1, []), (93, .iconst 0, 1, []), (94, .istore_n 1, 1, []), (95, .iload_n 1, 1, []), (96, .bipush 8, 2, []), (98, .if_icmp .ge 29, 3, [68]), (101, .aload_n 0, 1, []), (102, .getfield 7, 3, [0, 9, 0]), (105, .iconst 2, 1, []), (106, .iload_n 1, 1, []), (107, .iadd, 1, []), (108, .bipush 24, 2, []), (110, .iastore, 1, []), (111, .aload_n 0, 1, []), (112, .getfield 7, 3, [0, 9, 0]), (115, .bipush 10, 2, []), (117, .iload_n 1, 1, []), (118, .iadd, 1, []), (119, .iconst 1, 1, []), (120, .iastore, 1, []), (121, .iinc 1 1, 3, []), (124, .goto (-29), 3, [49]), (127, .iconst 0, 1, []), (128, .istore_n 1, 1, []), (129, .iload_n 1, 1, []), (130, .bipush 10, 2, []), (132, .if_icmp .ge 20, 3, [82]), (135, .aload_n 0, 1, []), (136, .getfield 7, 3, [0, 9, 0]), (139, .sipush 218, 3, []), (142, .iload_n 1, 1, []), (143, .iadd, 1, []), (144, .iconst (-1), 1, []), (145, .iastore, 1, []), (146, .iinc 1 1, 3, []), (149, .goto (-20), 3, [70]), (152, .return_, 1, [])]
def xt_126 : List xa_E := [(0, .lload_n 0, 1, []), (1, .lload_n 2, 1, []), (2, .lcmp, 1, []), (3, .ifCond .lt 14, 3, [10]), (6, .lload_n 0, 1, []), (7, .lload 4, 2, []), (9, .lcmp, 1, []), (10, .ifCond .gt 7, 3, [10]), (13, .iconst 1, 1, []), (14, .goto 4, 3, [11]), (17, .iconst 0, 1, []), (18, .ireturn, 1, [1])]
def xt_127 : List xa_E := [(0, .aload_n 0, 1, []), (1, .getfield 19, 3, [0, 9, 3]), (4, .ldc 40, 2, [0, -1000001]), (6, .iload_n 1, 1, []), (7, .isub, 1, []), (8, .dup2, 1, []), (9, .iaload, 1, []), (10, .iconst 1, 1, []), (11, .iadd, 1, []), (12, .iastore, 1, []), (13, .iload_n 1, 1, []), (14, .ireturn, 1, [0])]
def xt_128 : List xa_E := [(0, .iload_n 0, 1, []), (1, .i2l, 1, []), (2, .lconst 0, 1, []), (3, .ldc2_w 41, 3, [3]), (6, .invokestatic 43, 3, [0, 126, 3]), (9, .ireturn, 1, [1])]
def xt_129 : List xa_E := [(0, .iload_n 0, 1, []), (1, .i2l, 1, []), (2, .lconst 0, 1, []), (3, .ldc2_w 47, 3, [7]), (6, .invokestatic 43, 3, [0, 126, 3]), (9, .ireturn, 1, [1])]
def xt_130 : List xa_E := [(0, .iload_n 0, 1, []), (1, .i2l, 1, []), (2, .lconst 0, 1, []), (3, .ldc2_w 49, 3, [9999]), (6, .invokestatic 43, 3, [0, 126, 3]), (9, .ireturn, 1, [1])]
def xt_131 : List xa_E := [(0, .iload_n 1, 1, []), (1, .invokestatic 51, 3, [0, 128, 1]), (4, .ifCond .eq 28, 3, [19]), (7, .iload_n 2, 1, []), (8, .i2l, 1, []), (9, .lconst 0, 1, []), (10, .aload_n 0, 1, []), (11, .getfield 7, 3, [0, 9, 0]), (14, .bipush 22, 2, []), (16, .iload_n 1, 1, []), (17, .iadd, 1, []), (18, .iaload, 1, []), (19, .iconst 1, 1, []), (20, .isub, 1, []), (21, .i2l, 1, []), (22, .invokestatic 43, 3, [0, 126, 3]), (25, .ifCond .eq 7, 3, [19]), (28, .iconst 1, 1, []), (29, .goto 4, 3, [20]), (32, .iconst 0, 1, []), (33, .ireturn, 1, [1])]
def xt_132 : List xa_E := [(0, .bipush 26, 2, []), (2, .bipush 48, 2, []), (4, .iload_n 0, 1, []), (5, .imul, 1, []), (6, .iadd, 1, []), (7, .iconst 4, 1, []), (8, .iload_n 1, 1, []), (9, .imul, 1, []), (10, .iadd, 1, []), (11, .ireturn, 1, [0])]
def xt_133 : List xa_E := [(0, .iload_n 0, 1, []), (1, .iload_n 1, 1, []), (2, .ishr, 1, []), (3, .iconst 1, 1, []), (4, .iand, 1, []), (5, .iconst 1, 1, []), (6, .if_icmp .ne 7, 3, [9]), (9, .iconst 1, 1, []), (10, .goto 4, 3, [10]), (13, .iconst 0, 1, []), (14, .ireturn, 1, [1])]
def xt_134 : List xa_E := [(0, .iconst 0, 1, []), (1, .istore_n 1, 1, []), (2, .iload_n 0, 1, []), (3, .istore_n 2, 1, []), (4, .iload_n 2, 1, []), (5, .ifCond .eq 15, 3, [14]), (8, .iinc 1 1, 3, []), (11, .iload_n 2, 1, []), (12, .iload_n 2, 1, []), (13, .iconst 1, 1, []), (14, .isub, 1, []), (15, .iand, 1, []), (16, .istore_n 2, 1, []), (17, .goto (-13), 3, [4]), (20, .iload_n 1, 1, []), (21, .ireturn, 1, [0])]
def xt_135 : List xa_E := [(0, .iload_n 1, 1, []), (1, .i2l, 1, []), (2, .lconst 1, 1, []), (3, .ldc2_w 55, 3, [1000]), (6, .invokestatic 43, 3, [0, 126, 3]), (9, .ifCond .ne 10, 3, [10]), (12, .aload_n 0, 1, []), (13, .ldc 40, 2, [0, -1000001]), (15, .invokevirtual 57, 3, [1, 127, 1, 9]), (18, .ireturn, 1, [0]), (19, .aload_n 0, 1, []), (20, .getfield 7, 3, [0, 9, 0]), (23, .iconst 0, 1, []), (24, .iaload, 1, []), (25, .iload_n 1, 1, []), (26, .iadd, 1, []), (27, .sipush 9999, 3, []), (30, .if_icmp .le 10, 3, [22]), (33, .aload_n 0, 1, []), (34, .ldc 61, 2, [0, -1000005]), (36, .invokevirtual 57, 3, [1, 127, 1, 9]), (39, .ireturn, 1, [0]), (40, .aload_n 0, 1, []), (41, .getfield 7, 3, [0, 9, 0]), (44, .iconst 0, 1, []), (45, .dup2, 1, []), (46, .iaload, 1, []), (47, .iload_n 1, 1, []), (48, .iadd, 1, []), (49, .iastore, 1, []), (50, .aload_n 0, 1, []), (51, .getfield 7, 3, [0, 9, 0]), (54, .iconst 0, 1, []), (55, .iaload, 1, []), (56, .ireturn, 1, [0])]
def xt_136 : List xa_E := [(0, .iload_n 1, 1, []), (1, .invokestatic 62, 3, [0, 129, 1]), (4, .ifCond .eq 38, 3, [22]), (7, .iload_n 2, 1, []), (8, .i2l, 1, []), (9, .lconst 0, 1, []), (10, .lconst 1, 1, []), (11, .invokestatic 43, 3, [0, 126, 3]), (14, .ifCond .eq 28, 3, [22]), (17, .iload_n 3, 1, []), (18, .i2l, 1, []), (19, .iconst 1, 1, []), (20, .iload_n 2, 1, []), (21, .isub, 1, []), (22, .i2l, 1, []), (23, .iload_n 2, 1, []), (24, .ifCond .ne 9, 3, [19]), (27, .ldc2_w 65, 3, [999]), (30, .goto 6, 3, [20]), (33, .ldc2_w 67, 3, [99]), (36, .invokestatic 43, 3, [0, 126, 3]), (39, .ifCond .ne 10, 3, [26]), (42, .aload_n 0, 1, []), (43, .ldc 40, 2, [0, -1000001]), (45, .invokevirtual 57, 3, [1, 127, 1, 9]), (48, .ireturn, 1, [0]), (49, .iload_n 2, 1, []), (50, .ifCond .ne 9, 3, [32]), (53, .iconst 2, 1, []), (54, .iload_n 1, 1, []), (55, .iadd, 1, []), (56, .goto 7, 3, [35]), (59, .bipush 10, 2, []), (61, .iload_n 1, 1, []), (62, .iadd, 1, []), (63, .istore 4, 2, []), (65, .aload_n 0, 1, []), (66, .getfield 7, 3, [0, 9, 0]), (69, .iload 4, 2, []), (71, .iaload, 1, []), (72, .istore 5, 2, []), (74, .aload_n 0, 1, []), (75, .getfield 7, 3, [0, 9, 0]), (78, .iload 4, 2, []), (80, .iload_n 3, 1, []), (81, .iastore, 1, []), (82, .iload 5, 2, []), (84, .ireturn, 1, [0])]
def xt_137 : List xa_E := [(0, .iload_n 1, 1, []), (1, .invokestatic 51, 3, [0, 128, 1]), (4, .ifCond .ne 10, 3, [7]), (7, .aload_n 0, 1, []), (8, .ldc 40, 2, [0, -1000001]), (10, .invokevirtual 57, 3, [1, 127, 1, 9]), (13, .ireturn, 1, [0]), (14, .aload_n 0, 1, []), (15, .getfield 7, 3, [0, 9, 0]), (18, .bipush 18, 2, []), (20, .iload_n 1, 1, []), (21, .iadd, 1, []), (22, .iaload, 1, []), (23, .istore_n 3, 1, []), (24, .aload_n 0, 1, []), (25, .getfield 7, 3, [0, 9, 0]), (28, .bipush 18, 2, []), (30, .iload_n 1, 1, []), (31, .iadd, 1, []), (32, .iload_n 2, 1, []), (33, .ifCond .eq 7, 3, [23]), (36, .iconst 1, 1, []), (37, .goto 4, 3, [24]), (40, .iconst 0, 1, []), (41, .iastore, 1, []), (42, .iload_n 3, 1, []), (43, .ireturn, 1, [0])]
def xt_138 : List xa_E := [(0, .iload_n 1, 1, []), (1, .aload_n 0, 1, []), (2, .getfield 7, 3, [0, 9, 0]), (5, .bipush 22, 2, []), (7, .iload_n 1, 1, []), (8, .iadd, 1, []), (9, .iaload, 1, []), (10, .invokestatic 69, 3, [0, 132, 2]), (13, .istore 5, 2, []), (15, .aload_n 0, 1, []), (16, .getfield 7, 3, [0, 9, 0]), (19, .iload 5, 2, []), (21, .iload_n 2, 1, []), (22, .iastore, 1, []), (23, .aload_n 0, 1, []), (24, .getfield 7, 3, [0, 9, 0]), (27, .iload 5, 2, []), (29, .iconst 1, 1, []), (30, .iadd, 1, []), (31, .iload_n 3, 1, []), (32, .iastore, 1, []), (33, .aload_n 0, 1, []), (34, .getfield 7, 3, [0, 9, 0]), (37, .iload 5, 2, []), (39, .iconst 2, 1, []), (40, .iadd, 1, []), (41, .iload 4, 2, []), (43, .iastore, 1, []), (44, .aload_n 0, 1, []), (45, .getfield 7, 3, [0, 9, 0]), (48, .iload 5, 2, []), (50, .iconst 3, 1, []), (51, .iadd, 1, []), (52, .aload_n 0, 1, []), (53, .getfield 7, 3, [0, 9, 0]), (56, .iconst 0, 1, []), (57, .iaload, 1, []), (58, .iastore, 1, []), (59, .aload_n 0, 1, []), (60, .getfield 7, 3, [0, 9, 0]), (63, .bipush 22, 2, []), (65, .iload_n 1, 1, []), (66, .iadd, 1, []), (67, .dup2, 1, []), (68, .iaload, 1, []), (69, .iconst 1, 1, []), (70, .iadd, 1, []), (71, .iastore, 1, []), (72, .aload_n 0, 1, []), (73, .getfield 7, 3, [0, 9, 0]), (76, .bipush 22, 2, []), (78, .iload_n 1, 1, []), (79, .iadd, 1, []), (80, .iaload, 1, []), (81, .iconst 1, 1, []), (82, .isub, 1, []), (83, .ireturn, 1, [0])]
def xt_139 : List xa_E := [(0, .iload_n 1, 1, []), (1, .invokestatic 51, 3, [0, 128, 1]), (4, .ifCond .eq 35, 3, [18]), (7, .iload_n 2, 1, []), (8, .i2l, 1, []), (9, .lconst 0, 1, []), (10, .ldc2_w 73, 3, [6]), (13, .invokestatic 43, 3, [0, 126, 3]), (16, .ifCond .eq 23, 3, [18]), (19, .iload_n 3, 1, []), (20, .i2l, 1, []), (21, .lconst 0, 1, []), (22, .ldc2_w 41, 3, [3]), (25, .invokestatic 43, 3, [0, 126, 3]), (28, .ifCond .eq 11, 3, [18]), (31, .iload 4, 2, []), (33, .invokestatic 62, 3, [0, 129, 1]), (36, .ifCond .ne 10, 3, [22]), (39, .aload_n 0, 1, []), (40, .ldc 40, 2, [0, -1000001]), (42, .invokevirtual 57, 3, [1, 127, 1, 9]), (45, .ireturn, 1, [0]), (46, .aload_n 0, 1, []), (47, .getfield 7, 3, [0, 9, 0]), (50, .bipush 22, 2, []), (52, .iload_n 1, 1, []), (53, .iadd, 1, []), (54, .iaload, 1, []), (55, .bipush 12, 2, []), (57, .if_icmp .ne 12, 3, [34]), (60, .aload_n 0, 1, []), (61, .ldc 75, 2, [0, -1000002]), (63, .invokevirtual 57, 3, [1, 127, 1, 9]), (66, .goto 12, 3, [40]), (69, .aload_n 0, 1, []), (70, .iload_n 1, 1, []), (71, .iload_n 2, 1, []), (72, .iload_n 3, 1, []), (73, .iload 4, 2, []), (75, .invokevirtual 76, 3, [1, 138, 4, 9]), (78, .ireturn, 1, [0])]
def xt_140 : List xa_E := [(0, .aload_n 0, 1, []), (1, .getfield 7, 3, [0, 9, 0]), (4, .iconst 2, 1, []), (5, .aload_n 0, 1, []), (6, .getfield 7, 3, [0, 9, 0]), (9, .iload_n 1, 1, []), (10, .iload_n 2, 1, []), (11, .invokestatic 69, 3, [0, 132, 2]), (14, .iconst 2, 1, []), (15, .iadd, 1, []), (16, .iaload, 1, []), (17, .iadd, 1, []), (18, .iaload, 1, []), (19, .istore_n 3, 1, []), (20, .aload_n 0, 1, []), (21, .getfield 7, 3, [0, 9, 0]), (24, .iload_n 1, 1, []), (25, .iload_n 2, 1, []), (26, .invokestatic 69, 3, [0, 132, 2]), (29, .iaload, 1, []), (30, .istore 4, 2, []), (32, .iload 4, 2, []), (34, .iconst 4, 1, []), (35, .if_icmp .ne 9, 3, [28]), (38, .iconst 2, 1, []), (39, .iload_n 3, 1, []), (40, .imul, 1, []), (41, .goto 26, 3, [41]), (44, .iload 4, 2, []), (46, .bipush 6, 2, []), (48, .if_icmp .eq 7, 3, [33]), (51, .iload_n 3, 1, []), (52, .goto 15, 3, [41]), (55, .iload_n 3, 1, []), (56, .iconst 2, 1, []), (57, .if_icmp .ge 7, 3, [38]), (60, .iconst 1, 1, []), (61, .goto 6, 3, [41]), (64, .iload_n 3, 1, []), (65, .iconst 2, 1, []), (66, .idiv, 1, []), (67, .ireturn, 1, [0])]
def xt_141 : List xa_E := [(0, .aload_n 0, 1, []), (1, .iload_n 1, 1, []), (2, .iload_n 2, 1, []), (3, .invokevirtual 80, 3, [1, 131, 2, 9]), (6, .ifCond .eq 15, 3, [11]), (9, .iload_n 3, 1, []), (10, .i2l, 1, []), (11, .lconst 0, 1, []), (12, .ldc2_w 84, 3, [4]), (15, .invokestatic 43, 3, [0, 126, 3]), (18, .ifCond .ne 10, 3, [15]), (21, .aload_n 0, 1, []), (22, .ldc 40, 2, [0, -1000001]), (24, .invokevirtual 57, 3, [1, 127, 1, 9]), (27, .ireturn, 1, [0]), (28, .iload_n 3, 1, []), (29, .iconst 4, 1, []), (30, .if_icmp .ge 18, 3, [27]), (33, .aload_n 0, 1, []), (34, .getfield 7, 3, [0, 9, 0]), (37, .iload_n 1, 1, []), (38, .iload_n 2, 1, []), (39, .invokestatic 69, 3, [0, 132, 2]), (42, .iload_n 3, 1, []), (43, .iadd, 1, []), (44, .iaload, 1, []), (45, .goto 9, 3, [31]), (48, .aload_n 0, 1, []), (49, .iload_n 1, 1, []), (50, .iload_n 2, 1, []), (51, .invokevirtual 86, 3, [1, 140, 2, 9]), (54, .ireturn, 1, [0])]
def xt_142 : List xa_E := [(0, .aload_n 0, 1, []), (1, .iload_n 1, 1, []), (2, .iload_n 2, 1, []), (3, .invokevirtual 80, 3, [1, 131, 2, 9]), (6, .ifCond .eq 15, 3, [11]), (9, .iload_n 3, 1, []), (10, .i2l, 1, []), (11, .lconst 0, 1, []), (12, .ldc2_w 73, 3, [6]), (15, .invokestatic 43, 3, [0, 126, 3]), (18, .ifCond .ne 10, 3, [15]), (21, .aload_n 0, 1, []), (22, .ldc 40, 2, [0, -1000001]), (24, .invokevirtual 57, 3, [1, 127, 1, 9]), (27, .ireturn, 1, [0]), (28, .aload_n 0, 1, []), (29, .getfield 7, 3, [0, 9, 0]), (32, .iload_n 1, 1, []), (33, .iload_n 2, 1, []), (34, .invokestatic 69, 3, [0, 132, 2]), (37, .iaload, 1, []), (38, .istore 4, 2, []), (40, .aload_n 0, 1, []), (41, .getfield 7, 3, [0, 9, 0]), (44, .iload_n 1, 1, []), (45, .iload_n 2, 1, []), (46, .invokestatic 69, 3, [0, 132, 2]), (49, .iload_n 3, 1, []), (50, .iastore, 1, []), (51, .iload 4, 2, []), (53, .ireturn, 1, [0])]
def xt_143 : List xa_E := [(0, .aload_n 0, 1, []), (1, .iload_n 1, 1, []), (2, .iload_n 2, 1, []), (3, .invokevirtual 80, 3, [1, 131, 2, 9]), (6, .ifCond .ne 10, 3, [9]), (9, .aload_n 0, 1, []), (10, .ldc 40, 2, [0, -1000001]), (12, .invokevirtual 57, 3, [1, 127, 1, 9]), (15, .ireturn, 1, [0]), (16, .aload_n 0, 1, []), (17, .getfield 7, 3, [0, 9, 0]), (20, .bipush 22, 2, []), (22, .iload_n 1, 1, []), (23, .iadd, 1, []), (24, .dup2, 1, []), (25, .iaload, 1, []), (26, .iconst 1, 1, []), (27, .isub, 1, []), (28, .iastore, 1, []), (29, .iload_n 1, 1, []), (30, .iload_n 2, 1, []), (31, .invokestatic 69, 3, [0, 132, 2]), (34, .istore_n 3, 1, []), (35, .iload_n 3, 1, []), (36, .iload_n 1, 1, []), (37, .aload_n 0, 1, []), (38, .getfield 7, 3, [0, 9, 0]), (41, .bipush 22, 2, []), (43, .iload_n 1, 1, []), (44, .iadd, 1, []), (45, .iaload, 1, []), (46, .invokestatic 69, 3, [0, 132, 2]), (49, .if_icmp .ge 23, 3, [45]), (52, .aload_n 0, 1, []), (53, .getfield 7, 3, [0, 9, 0]), (56, .iload_n 3, 1, []), (57, .aload_n 0, 1, []), (58, .getfield 7, 3, [0, 9, 0]), (61, .iload_n 3, 1, []), (62, .iconst 4, 1, []), (63, .iadd, 1, []), (64, .iaload, 1, []), (65, .iastore, 1, []), (66, .iinc 3 1, 3, []), (69, .goto (-34), 3, [23]), (72, .iconst 0, 1, []), (73, .istore_n 3, 1, []), (74, .iload_n 3, 1, []), (75, .bipush 10, 2, []), (77, .if_icmp .ge 76, 3, [89]), (80, .aload_n 0, 1, []), (81, .getfield 7, 3, [0, 9, 0]), (84, .sipush 218, 3, []), (87, .iload_n 3, 1, []), (88, .iadd, 1, []), (89, .iaload, 1, []), (90, .istore 4, 2, []), (92, .iload 4, 2, []), (94, .ifCond .lt 53, 3, [87]), (97, .iload 4, 2, []), (99, .bipush 100, 2, []), (101, .idiv, 1, []), (102, .iload_n 1, 1, []), (103, .if_icmp .ne 44, 3, [87]), (106, .aload_n 0, 1, []), (107, .getfield 7, 3, [0, 9, 0]), (110, .sipush 218, 3, []), (113, .iload_n 3, 1, []), (114, .iadd, 1, []), (115, .iload 4, 2, []), (117, .bipush 100, 2, []), (119, .irem, 1, []), (120, .iload_n 2, 1, []), (121, .if_icmp .ne 7, 3, [76]), (124, .iconst (-1), 1, []), (125, .goto 21, 3, [86]), (128, .iload 4, 2, []), (130, .bipush 100, 2, []), (132, .irem, 1, []), (133, .iload_n 2, 1, []), (134, .if_icmp .le 10, 3, [85]), (137, .iload 4, 2, []), (139, .iconst 1, 1, []), (140, .isub, 1, []), (141, .goto 5, 3, [86]), (144, .iload 4, 2, []), (146, .iastore, 1, []), (147, .iinc 3 1, 3, []), (150, .goto (-76), 3, [47]), (153, .aload_n 0, 1, []), (154, .getfield 7, 3, [0, 9, 0]), (157, .bipush 22, 2, []), (159, .iload_n 1, 1, []), (160, .iadd, 1, []), (161, .iaload, 1, []), (162, .ireturn, 1, [0])]
def xt_144 : List xa_E := [(0, .aload_n 0, 1, []), (1, .getfield 7, 3, [0, 9, 0]), (4, .iload_n 1, 1, []), (5, .iload_n 2, 1, []), (6, .invokestatic 69, 3, [0, 132, 2]), (9, .iconst 2, 1, []), (10, .iadd, 1, []), (11, .iload_n 3, 1, []), (12, .iastore, 1, []), (13, .aload_n 0, 1, []), (14, .getfield 7, 3, [0, 9, 0]), (17, .iload_n 1, 1, []), (18, .iload_n 2, 1, []), (19, .invokestatic 69, 3, [0, 132, 2]), (22, .iconst 3, 1, []), (23, .iadd, 1, []), (24, .aload_n 0, 1, []), (25, .getfield 7, 3, [0, 9, 0]), (28, .iconst 0, 1, []), (29, .iaload, 1, []), (30, .iastore, 1, []), (31, .return_, 1, [])]
def xt_145 : List xa_E := [(0, .aload_n 0, 1, []), (1, .iload_n 1, 1, []), (2, .iload_n 2, 1, []), (3, .invokevirtual 80, 3, [1, 131, 2, 9]), (6, .ifCond .eq 10, 3, [8]), (9, .iload_n 3, 1, []), (10, .invokestatic 62, 3, [0, 129, 1]), (13, .ifCond .ne 10, 3, [12]), (16, .aload_n 0, 1, []), (17, .ldc 40, 2, [0, -1000001]), (19, .invokevirtual 57, 3, [1, 127, 1, 9]), (22, .ireturn, 1, [0]), (23, .aload_n 0, 1, []), (24, .getfield 7, 3, [0, 9, 0]), (27, .iload_n 1, 1, []), (28, .iload_n 2, 1, []), (29, .invokestatic 69, 3, [0, 132, 2]), (32, .iconst 2, 1, []), (33, .iadd, 1, []), (34, .iaload, 1, []), (35, .istore 4, 2, []), (37, .aload_n 0, 1, []), (38, .iload_n 1, 1, []), (39, .iload_n 2, 1, []), (40, .iload_n 3, 1, []), (41, .invokevirtual 89, 3, [1, 144, 3, 9]), (44, .iload 4, 2, []), (46, .ireturn, 1, [0])]
def xt_146 : List xa_E := [(0, .iload_n 0, 1, []), (1, .bipush 24, 2, []), (3, .irem, 1, []), (4, .bipush 6, 2, []), (6, .isub, 1, []), (7, .istore_n 1, 1, []), (8, .iload_n 0, 1, []), (9, .bipush 24, 2, []), (11, .idiv, 1, []), (12, .bipush 12, 2, []), (14, .imul, 1, []), (15, .iload_n 1, 1, []), (16, .ifCond .ge 7, 3, [15]), (19, .iconst 0, 1, []), (20, .goto 15, 3, [21]), (23, .iload_n 1, 1, []), (24, .bipush 12, 2, []), (26, .if_icmp .le 8, 3, [20]), (29, .bipush 12, 2, []), (31, .goto 4, 3, [21]), (34, .iload_n 1, 1, []), (35, .iadd, 1, []), (36, .ireturn, 1, [0])]
def xt_147 : List xa_E := [(0, .iload_n 3, 1, []), (1, .iload_n 2, 1, []), (2, .isub, 1, []), (3, .aload_n 0, 1, []), (4, .getfield 7, 3, [0, 9, 0]), (7, .bipush 18, 2, []), (9, .iload_n 1, 1, []), (10, .iadd, 1, []), (11, .iaload, 1, []), (12, .iconst 1, 1, []), (13, .if_icmp .ne 15, 3, [17]), (16, .iload_n 3, 1, []), (17, .invokestatic 93, 3, [0, 146, 1]), (20, .iload_n 2, 1, []), (21, .invokestatic 93, 3, [0, 146, 1]), (24, .isub, 1, []), (25, .goto 4, 3, [18]), (28, .iconst 0, 1, []), (29, .iadd, 1, []), (30, .ireturn, 1, [0])]
def xt_148 : List xa_E := [(0, .aload_n 0, 1, []), (1, .getfield 7, 3, [0, 9, 0]), (4, .iload_n 1, 1, []), (5, .iload_n 2, 1, []), (6, .invokestatic 69, 3, [0, 132, 2]), (9, .iconst 3, 1, []), (10, .iadd, 1, []), (11, .iaload, 1, []), (12, .istore 4, 2, []), (14, .iload_n 3, 1, []), (15, .iload 4, 2, []), (17, .if_icmp .lt 24, 3, [24]), (20, .aload_n 0, 1, []), (21, .iload_n 1, 1, []), (22, .iload 4, 2, []), (24, .iload_n 3, 1, []), (25, .invokevirtual 96, 3, [1, 147, 3, 9]), (28, .aload_n 0, 1, []), (29, .iload_n 1, 1, []), (30, .iload_n 2, 1, []), (31, .invokevirtual 86, 3, [1, 140, 2, 9]), (34, .if_icmp .ge 7, 3, [24]), (37, .iconst 1, 1, []), (38, .goto 4, 3, [25]), (41, .iconst 0, 1, []), (42, .ireturn, 1, [1])]
def xt_149 : List xa_E := [(0, .iconst 0, 1, []), (1, .istore_n 3, 1, []), (2, .iconst 0, 1, []), (3, .istore 4, 2, []), (5, .iload 4, 2, []), (7, .aload_n 0, 1, []), (8, .getfield 7, 3, [0, 9, 0]), (11, .bipush 22, 2, []), (13, .iload_n 1, 1, []), (14, .iadd, 1, []), (15, .iaload, 1, []), (16, .if_icmp .ge 31, 3, [28]), (19, .iload_n 3, 1, []), (20, .aload_n 0, 1, []), (21, .iload_n 1, 1, []), (22, .iload 4, 2, []), (24, .iload_n 2, 1, []), (25, .invokevirtual 100, 3, [1, 148, 3, 9]), (28, .ifCond .eq 10, 3, [23]), (31, .iconst 1, 1, []), (32, .iload 4, 2, []), (34, .ishl, 1, []), (35, .goto 4, 3, [24]), (38, .iconst 0, 1, []), (39, .ior, 1, []), (40, .istore_n 3, 1, []), (41, .iinc 4 1, 3, []), (44, .goto (-39), 3, [4]), (47, .iload_n 3, 1, []), (48, .ireturn, 1, [0])]
def xt_150 : List xa_E := [(0, .iload_n 1, 1, []), (1, .invokestatic 51, 3, [0, 128, 1]), (4, .ifCond .eq 19, 3, [11]), (7, .iload_n 2, 1, []), (8, .invokestatic 104, 3, [0, 130, 1]), (11, .ifCond .eq 12, 3, [11]), (14, .aload_n 0, 1, []), (15, .iload_n 1, 1, []), (16, .iload_n 2, 1, []), (17, .invokevirtual 107, 3, [1, 149, 2, 9]), (20, .goto 9, 3, [14]), (23, .aload_n 0, 1, []), (24, .ldc 40, 2, [0, -1000001]), (26, .invokevirtual 57, 3, [1, 127, 1, 9]), (29, .ireturn, 1, [0])]
def xt_151 : List xa_E := [(0, .aload_n 0, 1, []), (1, .iload_n 1, 1, []), (2, .iload_n 2, 1, []), (3, .invokevirtual 80, 3, [1, 131, 2, 9]), (6, .ifCond .eq 10, 3, [8]), (9, .iload_n 3, 1, []), (10, .invokestatic 104, 3, [0, 130, 1]), (13, .ifCond .ne 10, 3, [12]), (16, .aload_n 0, 1, []), (17, .ldc 40, 2, [0, -1000001]), (19, .invokevirtual 57, 3, [1, 127, 1, 9]), (22, .ireturn, 1, [0]), (23, .aload_n 0, 1, []), (24, .getfield 7, 3, [0, 9, 0]), (27, .iload_n 1, 1, []), (28, .iload_n 2, 1, []), (29, .invokestatic 69, 3, [0, 132, 2]), (32, .iconst 3, 1, []), (33, .iadd, 1, []), (34, .iaload, 1, []), (35, .istore 4, 2, []), (37, .iload_n 3, 1, []), (38, .iload 4, 2, []), (40, .if_icmp .ge 12, 3, [28]), (43, .aload_n 0, 1, []), (44, .ldc 61, 2, [0, -1000005]), (46, .invokevirtual 57, 3, [1, 127, 1, 9]), (49, .goto 11, 3, [33]), (52, .aload_n 0, 1, []), (53, .iload_n 1, 1, []), (54, .iload 4, 2, []), (56, .iload_n 3, 1, []), (57, .invokevirtual 96, 3, [1, 147, 3, 9]), (60, .ireturn, 1, [0])]
def xt_152 : List xa_E := [(0, .aload_n 0, 1, []), (1, .iload_n 1, 1, []), (2, .iload_n 2, 1, []), (3, .invokevirtual 80, 3, [1, 131, 2, 9]), (6, .ifCond .ne 10, 3, [9]), (9, .aload_n 0, 1, []), (10, .ldc 40, 2, [0, -1000001]), (12, .invokevirtual 57, 3, [1, 127, 1, 9]), (15, .ireturn, 1, [0]), (16, .aload_n 0, 1, []), (17, .getfield 7, 3, [0, 9, 0]), (20, .iload_n 1, 1, []), (21, .iload_n 2, 1, []), (22, .invokestatic 69, 3, [0, 132, 2]), (25, .iconst 3, 1, []), (26, .iadd, 1, []), (27, .iaload, 1, []), (28, .istore_n 3, 1, []), (29, .iload_n 3, 1, []), (30, .sipush 9999, 3, []), (33, .if_icmp .gt 21, 3, [31]), (36, .aload_n 0, 1, []), (37, .iload_n 1, 1, []), (38, .iload_n 2, 1, []), (39, .iload_n 3, 1, []), (40, .invokevirtual 100, 3, [1, 148, 3, 9]), (43, .ifCond .ne 5, 3, [29]), (46, .iload_n 3, 1, []), (47, .ireturn, 1, [0]), (48, .iinc 3 1, 3, []), (51, .goto (-22), 3, [18]), (54, .aload_n 0, 1, []), (55, .ldc 110, 2, [0, -1000004]), (57, .invokevirtual 57, 3, [1, 127, 1, 9]), (60, .ireturn, 1, [0])]
def xt_153 : List xa_E := [(0, .iload_n 0, 1, []), (1, .ifCond .ne 8, 3, [4]), (4, .ldc 111, 2, [0, 43690]), (6, .goto 25, 3, [15]), (9, .iload_n 0, 1, []), (10, .iconst 1, 1, []), (11, .if_icmp .ne 8, 3, [9]), (14, .ldc 112, 2, [0, 52428]), (16, .goto 15, 3, [15]), (19, .iload_n 0, 1, []), (20, .iconst 2, 1, []), (21, .if_icmp .ne 8, 3, [14]), (24, .ldc 113, 2, [0, 61680]), (26, .goto 5, 3, [15]), (29, .ldc 114, 2, [0, 65280]), (31, .ireturn, 1, [0])]
def xt_154 : List xa_E := [(0, .aload_n 0, 1, []), (1, .iconst 1, 1, []), (2, .putfield 115, 3, [0, 9, 5, 1]), (5, .aload_n 0, 1, []), (6, .iconst 0, 1, []), (7, .putfield 119, 3, [0, 9, 6, 1]), (10, .aload_n 0, 1, []), (11, .iconst 1, 1, []), (12, .putfield 122, 3, [0, 9, 7, 1]), (15, .aload_n 0, 1, []), (16, .ldc 125, 2, [0, 65535]), (18, .putfield 126, 3, [0, 9, 8, 0]), (21, .aload_n 0, 1, []), (22, .iconst 0, 1, []), (23, .putfield 130, 3, [0, 9, 9, 0]), (26, .return_, 1, [])]
def xt_155 : List xa_E := [(0, .iload_n 1, 1, []), (1, .iconst 1, 1, []), (2, .if_icmp .eq 14, 3, [9]), (5, .iload_n 1, 1, []), (6, .iconst 4, 1, []), (7, .if_icmp .eq 9, 3, [9]), (10, .iload_n 1, 1, []), (11, .bipush 6, 2, []), (13, .if_icmp .ne 7, 3, [11]), (16, .iconst 1, 1, []), (17, .goto 4, 3, [12]), (20, .iconst 0, 1, []), (21, .istore_n 3, 1, []), (22, .iload_n 1, 1, []), (23, .ifCond .ne 4, 3, [16]), (26, .return_, 1, []), (27, .aload_n 0, 1, []), (28, .getfield 115, 3, [0, 9, 5]), (31, .iload_n 3, 1, []), (32, .ifCond .ne 8, 3, [23]), (35, .iload_n 1, 1, []), (36, .iconst 2, 1, []), (37, .if_icmp .ne 7, 3, [25]), (40, .iconst 1, 1, []), (41, .goto 4, 3, [26]), (44, .iconst 0, 1, []), (45, .if_icmp .eq 8, 3, [30]), (48, .aload_n 0, 1, []), (49, .iconst 0, 1, []), (50, .putfield 122, 3, [0, 9, 7, 1]), (53, .iload_n 1, 1, []), (54, .iconst 2, 1, []), (55, .if_icmp .ne 22, 3, [42]), (58, .aload_n 0, 1, []), (59, .aload_n 0, 1, []), (60, .getfield 119, 3, [0, 9, 6]), (63, .ifCond .ne 7, 3, [39]), (66, .iconst 1, 1, []), (67, .goto 4, 3, [40]), (70, .iconst 0, 1, []), (71, .putfield 119, 3, [0, 9, 6, 1]), (74, .goto 81, 3, [84]), (77, .iload_n 3, 1, []), (78, .ifCond .eq 48, 3, [68]), (81, .aload_n 0, 1, []), (82, .dup, 1, []), (83, .getfield 126, 3, [0, 9, 8]), (86, .aload_n 0, 1, []), (87, .getfield 119, 3, [0, 9, 6]), (90, .ifCond .eq 15, 3, [57]), (93, .ldc 125, 2, [0, 65535]), (95, .iload_n 2, 1, []), (96, .invokestatic 133, 3, [0, 153, 1]), (99, .iconst (-1), 1, []), (100, .ixor, 1, []), (101, .iand, 1, []), (102, .goto 7, 3, [59]), (105, .iload_n 2, 1, []), (106, .invokestatic 133, 3, [0, 153, 1]), (109, .iand, 1, []), (110, .putfield 126, 3, [0, 9, 8, 0]), (113, .aload_n 0, 1, []), (114, .iconst 0, 1, []), (115, .putfield 119, 3, [0, 9, 6, 1]), (118, .aload_n 0, 1, []), (119, .iconst 0, 1, []), (120, .putfield 115, 3, [0, 9, 5, 1]), (123, .goto 32, 3, [84]), (126, .iload_n 1, 1, []), (127, .iconst 5, 1, []), (128, .if_icmp .ne 22, 3, [81]), (131, .aload_n 0, 1, []), (132, .dup, 1, []), (133, .getfield 130, 3, [0, 9, 9]), (136, .aload_n 0, 1, []), (137, .getfield 126, 3, [0, 9, 8]), (140, .ior, 1, []), (141, .putfield 130, 3, [0, 9, 9, 0]), (144, .aload_n 0, 1, []), (145, .ldc 125, 2, [0, 65535]), (147, .putfield 126, 3, [0, 9, 8, 0]), (150, .aload_n 0, 1, []), (151, .iconst 1, 1, []), (152, .putfield 115, 3, [0, 9, 5, 1]), (155, .return_, 1, [])]
def xt_156 : List xa_E := [(0, .aload_n 0, 1, []), (1, .getfield 122, 3, [0, 9, 7]), (4, .ifCond .eq 22, 3, [12]), (7, .aload_n 0, 1, []), (8, .getfield 115, 3, [0, 9, 5]), (11, .ifCond .ne 15, 3, [12]), (14, .aload_n 0, 1, []), (15, .getfield 130, 3, [0, 9, 9]), (18, .aload_n 0, 1, []), (19, .getfield 126, 3, [0, 9, 8]), (22, .ior, 1, []), (23, .goto 4, 3, [13]), (26, .iconst (-1), 1, []), (27, .ireturn, 1, [0])]
def xt_157 : List xa_E := [(0, .aload_n 0, 1, []), (1, .invokevirtual 136, 3, [1, 154, 0, 9]), (4, .iconst 0, 1, []), (5, .istore_n 3, 1, []), (6, .iload_n 3, 1, []), (7, .aload_n 0, 1, []), (8, .getfield 7, 3, [0, 9, 0]), (11, .bipush 22, 2, []), (13, .iload_n 1, 1, []), (14, .iadd, 1, []), (15, .iaload, 1, []), (16, .if_icmp .ge 45, 3, [36]), (19, .aload_n 0, 1, []), (20, .iload_n 1, 1, []), (21, .iload_n 3, 1, []), (22, .iload_n 2, 1, []), (23, .invokevirtual 100, 3, [1, 148, 3, 9]), (26, .ifCond .eq 29, 3, [34]), (29, .aload_n 0, 1, []), (30, .aload_n 0, 1, []), (31, .getfield 7, 3, [0, 9, 0]), (34, .iload_n 1, 1, []), (35, .iload_n 3, 1, []), (36, .invokestatic 69, 3, [0, 132, 2]), (39, .iaload, 1, []), (40, .aload_n 0, 1, []), (41, .getfield 7, 3, [0, 9, 0]), (44, .iload_n 1, 1, []), (45, .iload_n 3, 1, []), (46, .invokestatic 69, 3, [0, 132, 2]), (49, .iconst 1, 1, []), (50, .iadd, 1, []), (51, .iaload, 1, []), (52, .invokevirtual 139, 3, [1, 155, 2, 9]), (55, .iinc 3 1, 3, []), (58, .goto (-52), 3, [4]), (61, .aload_n 0, 1, []), (62, .invokevirtual 143, 3, [1, 156, 0, 9]), (65, .ireturn, 1, [0])]
def xt_158 : List xa_E := [(0, .iload_n 1, 1, []), (1, .invokestatic 51, 3, [0, 128, 1]), (4, .ifCond .eq 19, 3, [11]), (7, .iload_n 2, 1, []), (8, .invokestatic 104, 3, [0, 130, 1]), (11, .ifCond .eq 12, 3, [11]), (14, .aload_n 0, 1, []), (15, .iload_n 1, 1, []), (16, .iload_n 2, 1, []), (17, .invokevirtual 147, 3, [1, 157, 2, 9]), (20, .goto 9, 3, [14]), (23, .aload_n 0, 1, []), (24, .ldc 40, 2, [0, -1000001]), (26, .invokevirtual 57, 3, [1, 127, 1, 9]), (29, .ireturn, 1, [0])]
def xt_159 : List xa_E := [(0, .iload_n 1, 1, []), (1, .invokestatic 51, 3, [0, 128, 1]), (4, .ifCond .eq 22, 3, [12]), (7, .iload_n 2, 1, []), (8, .invokestatic 104, 3, [0, 130, 1]), (11, .ifCond .eq 15, 3, [12]), (14, .iload_n 3, 1, []), (15, .i2l, 1, []), (16, .lconst 0, 1, []), (17, .ldc2_w 150, 3, [15]), (20, .invokestatic 43, 3, [0, 126, 3]), (23, .ifCond .ne 10, 3, [16]), (26, .aload_n 0, 1, []), (27, .ldc 40, 2, [0, -1000001]), (29, .invokevirtual 57, 3, [1, 127, 1, 9]), (32, .ireturn, 1, [0]), (33, .aload_n 0, 1, []), (34, .iload_n 1, 1, []), (35, .iload_n 2, 1, []), (36, .invokevirtual 147, 3, [1, 157, 2, 9]), (39, .istore 4, 2, []), (41, .iload 4, 2, []), (43, .ifCond .ge 12, 3, [27]), (46, .aload_n 0, 1, []), (47, .ldc 110, 2, [0, -1000004]), (49, .invokevirtual 57, 3, [1, 127, 1, 9]), (52, .goto 9, 3, [32]), (55, .iload 4, 2, []), (57, .iload_n 3, 1, []), (58, .ishr, 1, []), (59, .iconst 1, 1, []), (60, .iand, 1, []), (61, .ireturn, 1, [0])]
def xt_160 : List xa_E := [(0, .iload_n 1, 1, []), (1, .invokestatic 51, 3, [0, 128, 1]), (4, .ifCond .ne 10, 3, [7]), (7, .aload_n 0, 1, []), (8, .ldc 40, 2, [0, -1000001]), (10, .invokevirtual 57, 3, [1, 127, 1, 9]), (13, .ireturn, 1, [0]), (14, .aload_n 0, 1, []), (15, .iload_n 1, 1, []), (16, .aload_n 0, 1, []), (17, .getfield 7, 3, [0, 9, 0]), (20, .iconst 0, 1, []), (21, .iaload, 1, []), (22, .invokevirtual 147, 3, [1, 157, 2, 9]), (25, .istore_n 2, 1, []), (26, .aload_n 0, 1, []), (27, .getfield 7, 3, [0, 9, 0]), (30, .iconst 0, 1, []), (31, .iaload, 1, []), (32, .iconst 1, 1, []), (33, .iadd, 1, []), (34, .istore_n 3, 1, []), (35, .iload_n 3, 1, []), (36, .sipush 9999, 3, []), (39, .if_icmp .gt 21, 3, [35]), (42, .aload_n 0, 1, []), (43, .iload_n 1, 1, []), (44, .iload_n 3, 1, []), (45, .invokevirtual 147, 3, [1, 157, 2, 9]), (48, .iload_n 2, 1, []), (49, .if_icmp .eq 5, 3, [33]), (52, .iload_n 3, 1, []), (53, .ireturn, 1, [0]), (54, .iinc 3 1, 3, []), (57, .goto (-22), 3, [22]), (60, .aload_n 0, 1, []), (61, .ldc 110, 2, [0, -1000004]), (63, .invokevirtual 57, 3, [1, 127, 1, 9]), (66, .ireturn, 1, [0])]
def xt_161 : List xa_E := [(0, .iload_n 1, 1, []), (1, .invokestatic 51, 3, [0, 128, 1]), (4, .ifCond .eq 22, 3, [12]), (7, .iload_n 2, 1, []), (8, .invokestatic 104, 3, [0, 130, 1]), (11, .ifCond .eq 15, 3, [12]), (14, .iload_n 3, 1, []), (15, .invokestatic 104, 3, [0, 130, 1]), (18, .ifCond .eq 8, 3, [12]), (21, .iload_n 3, 1, []), (22, .iload_n 2, 1, []), (23, .if_icmp .gt 10, 3, [16]), (26, .aload_n 0, 1, []), (27, .ldc 40, 2, [0, -1000001]), (29, .invokevirtual 57, 3, [1, 127, 1, 9]), (32, .ireturn, 1, [0]), (33, .iconst 0, 1, []), (34, .istore 4, 2, []), (36, .aload_n 0, 1, []), (37, .iload_n 1, 1, []), (38, .iload_n 2, 1, []), (39, .ifCond .ne 7, 3, [24]), (42, .iconst 0, 1, []), (43, .goto 6, 3, [27]), (46, .iload_n 2, 1, []), (47, .iconst 1, 1, []), (48, .isub, 1, []), (49, .invokevirtual 147, 3, [1, 157, 2, 9]), (52, .istore 5, 2, []), (54, .iload_n 2, 1, []), (55, .istore 6, 2, []), (57, .iload 6, 2, []), (59, .iload_n 3, 1, []), (60, .if_icmp .gt 39, 3, [52]), (63, .aload_n 0, 1, []), (64, .iload_n 1, 1, []), (65, .iload 6, 2, []), (67, .invokevirtual 147, 3, [1, 157, 2, 9]), (70, .istore 7, 2, []), (72, .iload 4, 2, []), (74, .iload 7, 2, []), (76, .iload 5, 2, []), (78, .if_icmp .ne 7, 3, [45]), (81, .iconst 0, 1, []), (82, .goto 4, 3, [46]), (85, .iconst 1, 1, []), (86, .iadd, 1, []), (87, .istore 4, 2, []), (89, .iload 7, 2, []), (91, .istore 5, 2, []), (93, .iinc 6 1, 3, []), (96, .goto (-39), 3, [31]), (99, .iload 4, 2, []), (101, .ireturn, 1, [0])]
def xt_162 : List xa_E := [(0, .iload_n 1, 1, []), (1, .invokestatic 51, 3, [0, 128, 1]), (4, .ifCond .eq 17, 3, [9]), (7, .iload_n 2, 1, []), (8, .i2l, 1, []), (9, .ldc2_w 152, 3, [-1]), (12, .ldc2_w 154, 3, [65535]), (15, .invokestatic 43, 3, [0, 126, 3]), (18, .ifCond .ne 10, 3, [13]), (21, .aload_n 0, 1, []), (22, .ldc 40, 2, [0, -1000001]), (24, .invokevirtual 57, 3, [1, 127, 1, 9]), (27, .ireturn, 1, [0]), (28, .aload_n 0, 1, []), (29, .getfield 7, 3, [0, 9, 0]), (32, .iconst 0, 1, []), (33, .iaload, 1, []), (34, .istore_n 3, 1, []), (35, .iload_n 3, 1, []), (36, .sipush 9999, 3, []), (39, .if_icmp .gt 21, 3, [31]), (42, .aload_n 0, 1, []), (43, .iload_n 1, 1, []), (44, .iload_n 3, 1, []), (45, .invokevirtual 147, 3, [1, 157, 2, 9]), (48, .iload_n 2, 1, []), (49, .if_icmp .ne 5, 3, [29]), (52, .iload_n 3, 1, []), (53, .ireturn, 1, [0]), (54, .iinc 3 1, 3, []), (57, .goto (-22), 3, [18]), (60, .aload_n 0, 1, []), (61, .ldc 110, 2, [0, -1000004]), (63, .invokevirtual 57, 3, [1, 127, 1, 9]), (66, .ireturn, 1, [0])]
def xt_163 : List xa_E := [(0, .iload_n 1, 1, []), (1, .invokestatic 51, 3, [0, 128, 1]), (4, .ifCond .eq 17, 3, [9]), (7, .iload_n 2, 1, []), (8, .i2l, 1, []), (9, .ldc2_w 152, 3, [-1]), (12, .ldc2_w 154, 3, [65535]), (15, .invokestatic 43, 3, [0, 126, 3]), (18, .ifCond .ne 10, 3, [13]), (21, .aload_n 0, 1, []), (22, .ldc 40, 2, [0, -1000001]), (24, .invokevirtual 57, 3, [1, 127, 1, 9]), (27, .ireturn, 1, [0]), (28, .iconst 0, 1, []), (29, .istore_n 3, 1, []), (30, .aload_n 0, 1, []), (31, .getfield 7, 3, [0, 9, 0]), (34, .iconst 0, 1, []), (35, .iaload, 1, []), (36, .istore 4, 2, []), (38, .iload 4, 2, []), (40, .sipush 9999, 3, []), (43, .if_icmp .gt 28, 3, [37]), (46, .iload_n 3, 1, []), (47, .aload_n 0, 1, []), (48, .iload_n 1, 1, []), (49, .iload 4, 2, []), (51, .invokevirtual 147, 3, [1, 157, 2, 9]), (54, .iload_n 2, 1, []), (55, .if_icmp .ne 7, 3, [32]), (58, .iconst 1, 1, []), (59, .goto 4, 3, [33]), (62, .iconst 0, 1, []), (63, .iadd, 1, []), (64, .istore_n 3, 1, []), (65, .iinc 4 1, 3, []), (68, .goto (-30), 3, [20]), (71, .iload_n 3, 1, []), (72, .ireturn, 1, [0])]
def xt_164 : List xa_E := [(0, .iload_n 1, 1, []), (1, .invokestatic 51, 3, [0, 128, 1]), (4, .ifCond .eq 17, 3, [9]), (7, .iload_n 2, 1, []), (8, .invokestatic 51, 3, [0, 128, 1]), (11, .ifCond .eq 10, 3, [9]), (14, .iload_n 3, 1, []), (15, .invokestatic 104, 3, [0, 130, 1]), (18, .ifCond .ne 10, 3, [13]), (21, .aload_n 0, 1, []), (22, .ldc 40, 2, [0, -1000001]), (24, .invokevirtual 57, 3, [1, 127, 1, 9]), (27, .ireturn, 1, [0]), (28, .aload_n 0, 1, []), (29, .iload_n 1, 1, []), (30, .iload_n 3, 1, []), (31, .invokevirtual 147, 3, [1, 157, 2, 9]), (34, .aload_n 0, 1, []), (35, .iload_n 2, 1, []), (36, .iload_n 3, 1, []), (37, .invokevirtual 147, 3, [1, 157, 2, 9]), (40, .if_icmp .ne 7, 3, [24]), (43, .iconst 1, 1, []), (44, .goto 4, 3, [25]), (47, .iconst 0, 1, []), (48, .ireturn, 1, [0])]
def xt_165 : List xa_E := [(0, .iconst 1, 1, []), (1, .istore 4, 2, []), (3, .aload_n 0, 1, []), (4, .getfield 7, 3, [0, 9, 0]), (7, .iconst 0, 1, []), (8, .iaload, 1, []), (9, .istore 5, 2, []), (11, .iload 5, 2, []), (13, .iload_n 3, 1, []), (14, .if_icmp .gt 32, 3, [24]), (17, .iload 4, 2, []), (19, .ifCond .eq 27, 3, [24]), (22, .aload_n 0, 1, []), (23, .iload_n 1, 1, []), (24, .iload 5, 2, []), (26, .invokevirtual 147, 3, [1, 157, 2, 9]), (29, .iload_n 2, 1, []), (30, .if_icmp .ne 7, 3, [20]), (33, .iconst 1, 1, []), (34, .goto 4, 3, [21]), (37, .iconst 0, 1, []), (38, .istore 4, 2, []), (40, .iinc 5 1, 3, []), (43, .goto (-32), 3, [7]), (46, .iload 4, 2, []), (48, .ireturn, 1, [1])]
def xt_166 : List xa_E := [(0, .iload_n 1, 1, []), (1, .invokestatic 51, 3, [0, 128, 1]), (4, .ifCond .eq 10, 3, [6]), (7, .iload_n 2, 1, []), (8, .invokestatic 104, 3, [0, 130, 1]), (11, .ifCond .ne 10, 3, [10]), (14, .aload_n 0, 1, []), (15, .ldc 40, 2, [0, -1000001]), (17, .invokevirtual 57, 3, [1, 127, 1, 9]), (20, .ireturn, 1, [0]), (21, .iload_n 2, 1, []), (22, .aload_n 0, 1, []), (23, .getfield 7, 3, [0, 9, 0]), (26, .iconst 0, 1, []), (27, .iaload, 1, []), (28, .if_icmp .ge 10, 3, [20]), (31, .aload_n 0, 1, []), (32, .ldc 61, 2, [0, -1000005]), (34, .invokevirtual 57, 3, [1, 127, 1, 9]), (37, .ireturn, 1, [0]), (38, .aload_n 0, 1, []), (39, .iload_n 1, 1, []), (40, .aload_n 0, 1, []), (41, .iload_n 1, 1, []), (42, .aload_n 0, 1, []), (43, .getfield 7, 3, [0, 9, 0]), (46, .iconst 0, 1, []), (47, .iaload, 1, []), (48, .invokevirtual 147, 3, [1, 157, 2, 9]), (51, .iload_n 2, 1, []), (52, .invokevirtual 156, 3, [1, 165, 3, 9]), (55, .ifCond .eq 7, 3, [34]), (58, .iconst 1, 1, []), (59, .goto 4, 3, [35]), (62, .iconst 0, 1, []), (63, .ireturn, 1, [0])]
def xt_167 : List xa_E := [(0, .iconst 0, 1, []), (1, .istore_n 1, 1, []), (2, .iload_n 1, 1, []), (3, .sipush 228, 3, []), (6, .if_icmp .ge 21, 3, [15]), (9, .aload_n 0, 1, []), (10, .getfield 16, 3, [0, 9, 2]), (13, .iload_n 1, 1, []), (14, .aload_n 0, 1, []), (15, .getfield 7, 3, [0, 9, 0]), (18, .iload_n 1, 1, []), (19, .iaload, 1, []), (20, .iastore, 1, []), (21, .iinc 1 1, 3, []), (24, .goto (-22), 3, [2]), (27, .return_, 1, [])]
def xt_168 : List xa_E := [(0, .iconst 0, 1, []), (1, .istore_n 1, 1, []), (2, .iload_n 1, 1, []), (3, .sipush 228, 3, []), (6, .if_icmp .ge 21, 3, [15]), (9, .aload_n 0, 1, []), (10, .getfield 7, 3, [0, 9, 0]), (13, .iload_n 1, 1, []), (14, .aload_n 0, 1, []), (15, .getfield 16, 3, [0, 9, 2]), (18, .iload_n 1, 1, []), (19, .iaload, 1, []), (20, .iastore, 1, []), (21, .iinc 1 1, 3, []), (24, .goto (-22), 3, [2]), (27, .return_, 1, [])]
def xt_169 : List xa_E := [(0, .aload_n 0, 1, []), (1, .iload_n 1, 1, []), (2, .iload_n 2, 1, []), (3, .invokevirtual 80, 3, [1, 131, 2, 9]), (6, .ifCond .eq 30, 3, [19]), (9, .aload_n 0, 1, []), (10, .iload_n 1, 1, []), (11, .iload_n 3, 1, []), (12, .invokevirtual 80, 3, [1, 131, 2, 9]), (15, .ifCond .eq 21, 3, [19]), (18, .iload_n 2, 1, []), (19, .iload_n 3, 1, []), (20, .if_icmp .eq 16, 3, [19]), (23, .iload 4, 2, []), (25, .i2l, 1, []), (26, .lconst 0, 1, []), (27, .ldc2_w 159, 3, [200]), (30, .invokestatic 43, 3, [0, 126, 3]), (33, .ifCond .ne 10, 3, [23]), (36, .aload_n 0, 1, []), (37, .ldc 40, 2, [0, -1000001]), (39, .invokevirtual 57, 3, [1, 127, 1, 9]), (42, .ireturn, 1, [0]), (43, .aload_n 0, 1, []), (44, .getfield 7, 3, [0, 9, 0]), (47, .iconst 0, 1, []), (48, .iaload, 1, []), (49, .istore 5, 2, []), (51, .aload_n 0, 1, []), (52, .iload_n 1, 1, []), (53, .iload_n 2, 1, []), (54, .iload 5, 2, []), (56, .invokevirtual 100, 3, [1, 148, 3, 9]), (59, .ifCond .eq 25, 3, [45]), (62, .aload_n 0, 1, []), (63, .iload_n 1, 1, []), (64, .iload_n 3, 1, []), (65, .iload 5, 2, []), (67, .invokevirtual 100, 3, [1, 148, 3, 9]), (70, .ifCond .eq 14, 3, [45]), (73, .iload 5, 2, []), (75, .iload 4, 2, []), (77, .iadd, 1, []), (78, .sipush 9999, 3, []), (81, .if_icmp .le 10, 3, [49]), (84, .aload_n 0, 1, []), (85, .ldc 61, 2, [0, -1000005]), (87, .invokevirtual 57, 3, [1, 127, 1, 9]), (90, .ireturn, 1, [0]), (91, .aload_n 0, 1, []), (92, .iload_n 1, 1, []), (93, .iload 5, 2, []), (95, .invokevirtual 147, 3, [1, 157, 2, 9]), (98, .istore 6, 2, []), (100, .aload_n 0, 1, []), (101, .invokevirtual 161, 3, [1, 167, 0, 9]), (104, .iconst (-1), 1, []), (105, .istore 7, 2, []), (107, .iconst 0, 1, []), (108, .istore 8, 2, []), (110, .iconst 0, 1, []), (111, .istore 9, 2, []), (113, .iload 9, 2, []), (115, .bipush 8, 2, []), (117, .if_icmp .ge 105, 3, [119]), (120, .iconst 0, 1, []), (121, .istore 10, 2, []), (123, .iload 10, 2, []), (125, .bipush 8, 2, []), (127, .if_icmp .ge 89, 3, [117]), (130, .aload_n 0, 1, []), (131, .getfield 7, 3, [0, 9, 0]), (134, .bipush 10, 2, []), (136, .iload 9, 2, []), (138, .iadd, 1, []), (139, .iaload, 1, []), (140, .aload_n 0, 1, []), (141, .getfield 7, 3, [0, 9, 0]), (144, .bipush 10, 2, []), (146, .iload 10, 2, []), (148, .iadd, 1, []), (149, .iaload, 1, []), (150, .iadd, 1, []), (151, .istore 11, 2, []), (153, .iload 7, 2, []), (155, .ifCond .lt 10, 3, [89]), (158, .iload 11, 2, []), (160, .iload 8, 2, []), (162, .if_icmp .ge 48, 3, [115]), (165, .aload_n 0, 1, []), (166, .iload_n 1, 1, []), (167, .iload_n 2, 1, []), (168, .iload 9, 2, []), (170, .invokevirtual 89, 3, [1, 144, 3, 9]), (173, .aload_n 0, 1, []), (174, .iload_n 1, 1, []), (175, .iload_n 3, 1, []), (176, .iload 10, 2, []), (178, .invokevirtual 89, 3, [1, 144, 3, 9]), (181, .aload_n 0, 1, []), (182, .iload_n 1, 1, []), (183, .iload 6, 2, []), (185, .iload 5, 2, []), (187, .iload 4, 2, []), (189, .iadd, 1, []), (190, .invokevirtual 156, 3, [1, 165, 3, 9]), (193, .ifCond .eq 17, 3, [115]), (196, .bipush 10, 2, []), (198, .iload 9, 2, []), (200, .imul, 1, []), (201, .iload 10, 2, []), (203, .iadd, 1, []), (204, .istore 7, 2, []), (206, .iload 11, 2, []), (208, .istore 8, 2, []), (210, .iinc 10 1, 3, []), (213, .goto (-90), 3, [67]), (216, .iinc 9 1, 3, []), (219, .goto (-106), 3, [62]), (222, .aload_n 0, 1, []), (223, .invokevirtual 164, 3, [1, 168, 0, 9]), (226, .iload 7, 2, []), (228, .ifCond .ge 12, 3, [127]), (231, .aload_n 0, 1, []), (232, .ldc 110, 2, [0, -1000004]), (234, .invokevirtual 57, 3, [1, 127, 1, 9]), (237, .goto 5, 3, [128]), (240, .iload 7, 2, []), (242, .ireturn, 1, [0])]
def xt_170 : List xa_E := [(0, .iload_n 1, 1, []), (1, .invokestatic 51, 3, [0, 128, 1]), (4, .ifCond .eq 22, 3, [12]), (7, .iload_n 2, 1, []), (8, .invokestatic 62, 3, [0, 129, 1]), (11, .ifCond .eq 15, 3, [12]), (14, .iload_n 3, 1, []), (15, .i2l, 1, []), (16, .lconst 0, 1, []), (17, .ldc2_w 167, 3, [100]), (20, .invokestatic 43, 3, [0, 126, 3]), (23, .ifCond .ne 10, 3, [16]), (26, .aload_n 0, 1, []), (27, .ldc 40, 2, [0, -1000001]), (29, .invokevirtual 57, 3, [1, 127, 1, 9]), (32, .ireturn, 1, [0]), (33, .aload_n 0, 1, []), (34, .getfield 7, 3, [0, 9, 0]), (37, .iconst 0, 1, []), (38, .iaload, 1, []), (39, .istore 4, 2, []), (41, .iload 4, 2, []), (43, .iload_n 3, 1, []), (44, .iadd, 1, []), (45, .sipush 9999, 3, []), (48, .if_icmp .le 10, 3, [30]), (51, .aload_n 0, 1, []), (52, .ldc 61, 2, [0, -1000005]), (54, .invokevirtual 57, 3, [1, 127, 1, 9]), (57, .ireturn, 1, [0]), (58, .aload_n 0, 1, []), (59, .iload_n 1, 1, []), (60, .iload 4, 2, []), (62, .invokevirtual 147, 3, [1, 157, 2, 9]), (65, .istore 5, 2, []), (67, .aload_n 0, 1, []), (68, .iload_n 1, 1, []), (69, .iload 4, 2, []), (71, .invokevirtual 107, 3, [1, 149, 2, 9]), (74, .istore 6, 2, []), (76, .aload_n 0, 1, []), (77, .invokevirtual 161, 3, [1, 167, 0, 9]), (80, .iconst (-1), 1, []), (81, .istore 7, 2, []), (83, .iconst 0, 1, []), (84, .istore 8, 2, []), (86, .iload 8, 2, []), (88, .iconst 1, 1, []), (89, .aload_n 0, 1, []), (90, .getfield 7, 3, [0, 9, 0]), (93, .bipush 22, 2, []), (95, .iload_n 1, 1, []), (96, .iadd, 1, []), (97, .iaload, 1, []), (98, .ishl, 1, []), (99, .if_icmp .ge 105, 3, [106]), (102, .iload 8, 2, []), (104, .iload 6, 2, []), (106, .iconst (-1), 1, []), (107, .ixor, 1, []), (108, .iand, 1, []), (109, .ifCond .ne 89, 3, [104]), (112, .iload 7, 2, []), (114, .ifCond .lt 16, 3, [69]), (117, .iload 8, 2, []), (119, .invokestatic 169, 3, [0, 134, 1]), (122, .iload 7, 2, []), (124, .invokestatic 169, 3, [0, 134, 1]), (127, .if_icmp .ge 71, 3, [104]), (130, .iconst 0, 1, []), (131, .istore 9, 2, []), (133, .iload 9, 2, []), (135, .aload_n 0, 1, []), (136, .getfield 7, 3, [0, 9, 0]), (139, .bipush 22, 2, []), (141, .iload_n 1, 1, []), (142, .iadd, 1, []), (143, .iaload, 1, []), (144, .if_icmp .ge 27, 3, [90]), (147, .iload 8, 2, []), (149, .iload 9, 2, []), (151, .invokestatic 172, 3, [0, 133, 2]), (154, .ifCond .eq 11, 3, [88]), (157, .aload_n 0, 1, []), (158, .iload_n 1, 1, []), (159, .iload 9, 2, []), (161, .iload_n 2, 1, []), (162, .invokevirtual 89, 3, [1, 144, 3, 9]), (165, .iinc 9 1, 3, []), (168, .goto (-35), 3, [71]), (171, .aload_n 0, 1, []), (172, .iload_n 1, 1, []), (173, .iload 5, 2, []), (175, .iload 4, 2, []), (177, .iload_n 3, 1, []), (178, .iadd, 1, []), (179, .invokevirtual 156, 3, [1, 165, 3, 9]), (182, .ifCond .eq 8, 3, [100]), (185, .iload 8, 2, []), (187, .goto 5, 3, [101]), (190, .iload 7, 2, []), (192, .istore 7, 2, []), (194, .aload_n 0, 1, []), (195, .invokevirtual 164, 3, [1, 168, 0, 9]), (198, .iinc 8 1, 3, []), (201, .goto (-115), 3, [46]), (204, .iload 7, 2, []), (206, .ifCond .ge 12, 3, [112]), (209, .aload_n 0, 1, []), (210, .ldc 110, 2, [0, -1000004]), (212, .invokevirtual 57, 3, [1, 127, 1, 9]), (215, .goto 5, 3, [113]), (218, .iload 7, 2, []), (220, .ireturn, 1, [0])]
def xt_171 : List xa_E := [(0, .iload_n 1, 1, []), (1, .invokestatic 51, 3, [0, 128, 1]), (4, .ifCond .eq 22, 3, [12]), (7, .iload_n 2, 1, []), (8, .invokestatic 62, 3, [0, 129, 1]), (11, .ifCond .eq 15, 3, [12]), (14, .iload_n 3, 1, []), (15, .i2l, 1, []), (16, .lconst 0, 1, []), (17, .ldc2_w 167, 3, [100]), (20, .invokestatic 43, 3, [0, 126, 3]), (23, .ifCond .ne 10, 3, [16]), (26, .aload_n 0, 1, []), (27, .ldc 40, 2, [0, -1000001]), (29, .invokevirtual 57, 3, [1, 127, 1, 9]), (32, .ireturn, 1, [0]), (33, .aload_n 0, 1, []), (34, .getfield 7, 3, [0, 9, 0]), (37, .iconst 0, 1, []), (38, .iaload, 1, []), (39, .istore 4, 2, []), (41, .iload 4, 2, []), (43, .iload_n 3, 1, []), (44, .iadd, 1, []), (45, .sipush 9999, 3, []), (48, .if_icmp .le 10, 3, [30]), (51, .aload_n 0, 1, []), (52, .ldc 61, 2, [0, -1000005]), (54, .invokevirtual 57, 3, [1, 127, 1, 9]), (57, .ireturn, 1, [0]), (58, .aload_n 0, 1, []), (59, .iload_n 1, 1, []), (60, .iload 4, 2, []), (62, .invokevirtual 147, 3, [1, 157, 2, 9]), (65, .istore 5, 2, []), (67, .aload_n 0, 1, []), (68, .getfield 7, 3, [0, 9, 0]), (71, .iconst 2, 1, []), (72, .iload_n 2, 1, []), (73, .iadd, 1, []), (74, .iaload, 1, []), (75, .istore 6, 2, []), (77, .iconst (-1), 1, []), (78, .istore 7, 2, []), (80, .iconst 1, 1, []), (81, .istore 8, 2, []), (83, .iload 8, 2, []), (85, .sipush 999, 3, []), (88, .if_icmp .gt 46, 3, [72]), (91, .iload 7, 2, []), (93, .ifCond .ge 41, 3, [72]), (96, .aload_n 0, 1, []), (97, .getfield 7, 3, [0, 9, 0]), (100, .iconst 2, 1, []), (101, .iload_n 2, 1, []), (102, .iadd, 1, []), (103, .iload 8, 2, []), (105, .iastore, 1, []), (106, .aload_n 0, 1, []), (107, .iload_n 1, 1, []), (108, .iload 5, 2, []), (110, .iload 4, 2, []), (112, .iload_n 3, 1, []), (113, .iadd, 1, []), (114, .invokevirtual 156, 3, [1, 165, 3, 9]), (117, .ifCond .eq 8, 3, [68]), (120, .iload 8, 2, []), (122, .goto 4, 3, [69]), (125, .iconst (-1), 1, []), (126, .istore 7, 2, []), (128, .iinc 8 1, 3, []), (131, .goto (-48), 3, [46]), (134, .aload_n 0, 1, []), (135, .getfield 7, 3, [0, 9, 0]), (138, .iconst 2, 1, []), (139, .iload_n 2, 1, []), (140, .iadd, 1, []), (141, .iload 6, 2, []), (143, .iastore, 1, []), (144, .iload 7, 2, []), (146, .ifCond .ge 12, 3, [85]), (149, .aload_n 0, 1, []), (150, .ldc 110, 2, [0, -1000004]), (152, .invokevirtual 57, 3, [1, 127, 1, 9]), (155, .goto 5, 3, [86]), (158, .iload 7, 2, []), (160, .ireturn, 1, [0])]
def xt_172 : List xa_E := [(0, .aload_n 0, 1, []), (1, .invokevirtual 136, 3, [1, 154, 0, 9]), (4, .iconst 0, 1, []), (5, .istore 5, 2, []), (7, .iload 5, 2, []), (9, .aload_n 0, 1, []), (10, .getfield 7, 3, [0, 9, 0]), (13, .bipush 22, 2, []), (15, .iload_n 1, 1, []), (16, .iadd, 1, []), (17, .iaload, 1, []), (18, .if_icmp .gt 80, 3, [54]), (21, .iload 5, 2, []), (23, .iload_n 2, 1, []), (24, .if_icmp .ne 10, 3, [19]), (27, .aload_n 0, 1, []), (28, .iload_n 3, 1, []), (29, .iload 4, 2, []), (31, .invokevirtual 139, 3, [1, 155, 2, 9]), (34, .iload 5, 2, []), (36, .aload_n 0, 1, []), (37, .getfield 7, 3, [0, 9, 0]), (40, .bipush 22, 2, []), (42, .iload_n 1, 1, []), (43, .iadd, 1, []), (44, .iaload, 1, []), (45, .if_icmp .ge 47, 3, [52]), (48, .aload_n 0, 1, []), (49, .iload_n 1, 1, []), (50, .iload 5, 2, []), (52, .aload_n 0, 1, []), (53, .getfield 7, 3, [0, 9, 0]), (56, .iconst 0, 1, []), (57, .iaload, 1, []), (58, .invokevirtual 100, 3, [1, 148, 3, 9]), (61, .ifCond .eq 31, 3, [52]), (64, .aload_n 0, 1, []), (65, .aload_n 0, 1, []), (66, .getfield 7, 3, [0, 9, 0]), (69, .iload_n 1, 1, []), (70, .iload 5, 2, []), (72, .invokestatic 69, 3, [0, 132, 2]), (75, .iaload, 1, []), (76, .aload_n 0, 1, []), (77, .getfield 7, 3, [0, 9, 0]), (80, .iload_n 1, 1, []), (81, .iload 5, 2, []), (83, .invokestatic 69, 3, [0, 132, 2]), (86, .iconst 1, 1, []), (87, .iadd, 1, []), (88, .iaload, 1, []), (89, .invokevirtual 139, 3, [1, 155, 2, 9]), (92, .iinc 5 1, 3, []), (95, .goto (-88), 3, [4]), (98, .aload_n 0, 1, []), (99, .invokevirtual 143, 3, [1, 156, 0, 9]), (102, .ireturn, 1, [0])]
def xt_173 : List xa_E := [(0, .iload_n 0, 1, []), (1, .iconst 1, 1, []), (2, .if_icmp .eq 22, 3, [14]), (5, .iload_n 1, 1, []), (6, .ifCond .ne 22, 3, [16]), (9, .iload_n 0, 1, []), (10, .iconst 2, 1, []), (11, .if_icmp .eq 13, 3, [14]), (14, .iload_n 0, 1, []), (15, .iconst 3, 1, []), (16, .if_icmp .eq 8, 3, [14]), (19, .iload_n 0, 1, []), (20, .iconst 5, 1, []), (21, .if_icmp .ne 7, 3, [16]), (24, .iconst 1, 1, []), (25, .goto 4, 3, [17]), (28, .iconst 0, 1, []), (29, .ireturn, 1, [1])]
def xt_174 : List xa_E := [(0, .iload_n 1, 1, []), (1, .invokestatic 51, 3, [0, 128, 1]), (4, .ifCond .ne 10, 3, [7]), (7, .aload_n 0, 1, []), (8, .ldc 40, 2, [0, -1000001]), (10, .invokevirtual 57, 3, [1, 127, 1, 9]), (13, .ireturn, 1, [0]), (14, .iconst 0, 1, []), (15, .istore_n 2, 1, []), (16, .iconst 0, 1, []), (17, .istore_n 3, 1, []), (18, .iload_n 3, 1, []), (19, .aload_n 0, 1, []), (20, .getfield 7, 3, [0, 9, 0]), (23, .bipush 22, 2, []), (25, .iload_n 1, 1, []), (26, .iadd, 1, []), (27, .iaload, 1, []), (28, .if_icmp .gt 133, 3, [81]), (31, .iconst 1, 1, []), (32, .istore 4, 2, []), (34, .iload 4, 2, []), (36, .bipush 6, 2, []), (38, .if_icmp .ge 117, 3, [79]), (41, .iconst 0, 1, []), (42, .istore 5, 2, []), (44, .iload 5, 2, []), (46, .iconst 4, 1, []), (47, .if_icmp .ge 102, 3, [77]), (50, .iload 4, 2, []), (52, .iload 5, 2, []), (54, .invokestatic 175, 3, [0, 173, 2]), (57, .ifCond .eq 16, 3, [40]), (60, .aload_n 0, 1, []), (61, .iload_n 1, 1, []), (62, .iload_n 3, 1, []), (63, .iload 4, 2, []), (65, .iload 5, 2, []), (67, .invokevirtual 178, 3, [1, 172, 4, 9]), (70, .goto 4, 3, [41]), (73, .iconst (-1), 1, []), (74, .istore 6, 2, []), (76, .iload 6, 2, []), (78, .ifCond .lt 7, 3, [46]), (81, .iconst 1, 1, []), (82, .goto 4, 3, [47]), (85, .iconst 0, 1, []), (86, .istore 7, 2, []), (88, .iconst 0, 1, []), (89, .istore 8, 2, []), (91, .iload 8, 2, []), (93, .iload_n 2, 1, []), (94, .if_icmp .ge 33, 3, [67]), (97, .iload 7, 2, []), (99, .ifCond .eq 19, 3, [63]), (102, .aload_n 0, 1, []), (103, .getfield 22, 3, [0, 9, 10]), (106, .iload 8, 2, []), (108, .iaload, 1, []), (109, .iload 6, 2, []), (111, .if_icmp .eq 7, 3, [63]), (114, .iconst 1, 1, []), (115, .goto 4, 3, [64]), (118, .iconst 0, 1, []), (119, .istore 7, 2, []), (121, .iinc 8 1, 3, []), (124, .goto (-33), 3, [50]), (127, .iload 7, 2, []), (129, .ifCond .eq 14, 3, [75]), (132, .aload_n 0, 1, []), (133, .getfield 22, 3, [0, 9, 10]), (136, .iload_n 2, 1, []), (137, .iload 6, 2, []), (139, .iastore, 1, []), (140, .iinc 2 1, 3, []), (143, .iinc 5 1, 3, []), (146, .goto (-102), 3, [26]), (149, .iinc 4 1, 3, []), (152, .goto (-118), 3, [21]), (155, .iinc 3 1, 3, []), (158, .goto (-140), 3, [11]), (161, .iload_n 2, 1, []), (162, .ireturn, 1, [0])]
def xt_175 : List xa_E := [(0, .iload_n 1, 1, []), (1, .invokestatic 51, 3, [0, 128, 1]), (4, .ifCond .eq 15, 3, [9]), (7, .iload_n 2, 1, []), (8, .i2l, 1, []), (9, .lconst 0, 1, []), (10, .ldc2_w 154, 3, [65535]), (13, .invokestatic 43, 3, [0, 126, 3]), (16, .ifCond .ne 10, 3, [13]), (19, .aload_n 0, 1, []), (20, .ldc 40, 2, [0, -1000001]), (22, .invokevirtual 57, 3, [1, 127, 1, 9]), (25, .ireturn, 1, [0]), (26, .iconst 0, 1, []), (27, .istore_n 3, 1, []), (28, .iload_n 3, 1, []), (29, .aload_n 0, 1, []), (30, .getfield 7, 3, [0, 9, 0]), (33, .bipush 22, 2, []), (35, .iload_n 1, 1, []), (36, .iadd, 1, []), (37, .iaload, 1, []), (38, .if_icmp .gt 78, 3, [61]), (41, .iconst 1, 1, []), (42, .istore 4, 2, []), (44, .iload 4, 2, []), (46, .bipush 6, 2, []), (48, .if_icmp .ge 62, 3, [59]), (51, .iconst 0, 1, []), (52, .istore 5, 2, []), (54, .iload 5, 2, []), (56, .iconst 4, 1, []), (57, .if_icmp .ge 47, 3, [57]), (60, .iload 4, 2, []), (62, .iload 5, 2, []), (64, .invokestatic 175, 3, [0, 173, 2]), (67, .ifCond .eq 31, 3, [55]), (70, .aload_n 0, 1, []), (71, .iload_n 1, 1, []), (72, .iload_n 3, 1, []), (73, .iload 4, 2, []), (75, .iload 5, 2, []), (77, .invokevirtual 178, 3, [1, 172, 4, 9]), (80, .iload_n 2, 1, []), (81, .if_icmp .ne 17, 3, [55]), (84, .bipush 100, 2, []), (86, .iload_n 3, 1, []), (87, .imul, 1, []), (88, .bipush 10, 2, []), (90, .iload 4, 2, []), (92, .imul, 1, []), (93, .iadd, 1, []), (94, .iload 5, 2, []), (96, .iadd, 1, []), (97, .ireturn, 1, [0]), (98, .iinc 5 1, 3, []), (101, .goto (-47), 3, [30]), (104, .iinc 4 1, 3, []), (107, .goto (-63), 3, [25]), (110, .iinc 3 1, 3, []), (113, .goto (-85), 3, [15]), (116, .aload_n 0, 1, []), (117, .ldc 110, 2, [0, -1000004]), (119, .invokevirtual 57, 3, [1, 127, 1, 9]), (122, .ireturn, 1, [0])]
def xt_176 : List xa_E := [(0, .iload_n 1, 1, []), (1, .invokestatic 51, 3, [0, 128, 1]), (4, .ifCond .eq 17, 3, [9]), (7, .iload_n 2, 1, []), (8, .invokestatic 62, 3, [0, 129, 1]), (11, .ifCond .eq 10, 3, [9]), (14, .iload_n 3, 1, []), (15, .invokestatic 104, 3, [0, 130, 1]), (18, .ifCond .ne 10, 3, [13]), (21, .aload_n 0, 1, []), (22, .ldc 40, 2, [0, -1000001]), (24, .invokevirtual 57, 3, [1, 127, 1, 9]), (27, .ireturn, 1, [0]), (28, .iload_n 3, 1, []), (29, .istore 4, 2, []), (31, .iload 4, 2, []), (33, .ifCond .le 30, 3, [33]), (36, .aload_n 0, 1, []), (37, .iload_n 1, 1, []), (38, .iload 4, 2, []), (40, .iconst 1, 1, []), (41, .isub, 1, []), (42, .iload_n 3, 1, []), (43, .invokevirtual 96, 3, [1, 147, 3, 9]), (46, .aload_n 0, 1, []), (47, .getfield 7, 3, [0, 9, 0]), (50, .iconst 2, 1, []), (51, .iload_n 2, 1, []), (52, .iadd, 1, []), (53, .iaload, 1, []), (54, .if_icmp .ge 9, 3, [33]), (57, .iinc 4 (-1), 3, []), (60, .goto (-29), 3, [15]), (63, .iload 4, 2, []), (65, .ireturn, 1, [0])]
def xt_177 : List xa_E := [(0, .iload_n 1, 1, []), (1, .invokestatic 51, 3, [0, 128, 1]), (4, .ifCond .eq 17, 3, [9]), (7, .iload_n 2, 1, []), (8, .invokestatic 62, 3, [0, 129, 1]), (11, .ifCond .eq 10, 3, [9]), (14, .iload_n 3, 1, []), (15, .invokestatic 104, 3, [0, 130, 1]), (18, .ifCond .ne 10, 3, [13]), (21, .aload_n 0, 1, []), (22, .ldc 40, 2, [0, -1000001]), (24, .invokevirtual 57, 3, [1, 127, 1, 9]), (27, .ireturn, 1, [0]), (28, .iload_n 3, 1, []), (29, .istore 4, 2, []), (31, .iload 4, 2, []), (33, .ifCond .lt 28, 3, [31]), (36, .aload_n 0, 1, []), (37, .iload_n 1, 1, []), (38, .iload 4, 2, []), (40, .iload_n 3, 1, []), (41, .invokevirtual 96, 3, [1, 147, 3, 9]), (44, .aload_n 0, 1, []), (45, .getfield 7, 3, [0, 9, 0]), (48, .iconst 2, 1, []), (49, .iload_n 2, 1, []), (50, .iadd, 1, []), (51, .iaload, 1, []), (52, .if_icmp .ge 9, 3, [31]), (55, .iinc 4 (-1), 3, []), (58, .goto (-27), 3, [15]), (61, .iload 4, 2, []), (63, .ifCond .ge 12, 3, [37]), (66, .aload_n 0, 1, []), (67, .ldc 110, 2, [0, -1000004]), (69, .invokevirtual 57, 3, [1, 127, 1, 9]), (72, .goto 5, 3, [38]), (75, .iload 4, 2, []), (77, .ireturn, 1, [0])]
def xt_178 : List xa_E := [(0, .iload_n 1, 1, []), (1, .invokestatic 51, 3, [0, 128, 1]), (4, .ifCond .eq 22, 3, [12]), (7, .iload_n 2, 1, []), (8, .i2l, 1, []), (9, .lconst 1, 1, []), (10, .ldc2_w 181, 3, [12]), (13, .invokestatic 43, 3, [0, 126, 3]), (16, .ifCond .eq 10, 3, [12]), (19, .iload_n 3, 1, []), (20, .invokestatic 62, 3, [0, 129, 1]), (23, .ifCond .ne 10, 3, [16]), (26, .aload_n 0, 1, []), (27, .ldc 40, 2, [0, -1000001]), (29, .invokevirtual 57, 3, [1, 127, 1, 9]), (32, .ireturn, 1, [0]), (33, .aload_n 0, 1, []), (34, .getfield 7, 3, [0, 9, 0]), (37, .bipush 22, 2, []), (39, .iload_n 1, 1, []), (40, .iadd, 1, []), (41, .iaload, 1, []), (42, .ifCond .ne 10, 3, [27]), (45, .aload_n 0, 1, []), (46, .ldc 61, 2, [0, -1000005]), (48, .invokevirtual 57, 3, [1, 127, 1, 9]), (51, .ireturn, 1, [0]), (52, .iconst 0, 1, []), (53, .istore 4, 2, []), (55, .iconst 0, 1, []), (56, .istore 5, 2, []), (58, .iload 5, 2, []), (60, .iload_n 2, 1, []), (61, .if_icmp .ge 66, 3, [73]), (64, .aload_n 0, 1, []), (65, .getfield 7, 3, [0, 9, 0]), (68, .iconst 1, 1, []), (69, .aload_n 0, 1, []), (70, .getfield 7, 3, [0, 9, 0]), (73, .iconst 1, 1, []), (74, .iaload, 1, []), (75, .ldc 183, 2, [0, 1103515245]), (77, .imul, 1, []), (78, .sipush 12345, 3, []), (81, .iadd, 1, []), (82, .iastore, 1, []), (83, .aload_n 0, 1, []), (84, .getfield 7, 3, [0, 9, 0]), (87, .iconst 1, 1, []), (88, .iaload, 1, []), (89, .bipush 8, 2, []), (91, .iushr, 1, []), (92, .aload_n 0, 1, []), (93, .getfield 7, 3, [0, 9, 0]), (96, .bipush 22, 2, []), (98, .iload_n 1, 1, []), (99, .iadd, 1, []), (100, .iaload, 1, []), (101, .irem, 1, []), (102, .istore 6, 2, []), (104, .aload_n 0, 1, []), (105, .iload_n 1, 1, []), (106, .iload 6, 2, []), (108, .iload_n 3, 1, []), (109, .invokevirtual 89, 3, [1, 144, 3, 9]), (112, .iload 4, 2, []), (114, .iconst 1, 1, []), (115, .iload 6, 2, []), (117, .ishl, 1, []), (118, .ior, 1, []), (119, .istore 4, 2, []), (121, .iinc 5 1, 3, []), (124, .goto (-66), 3, [31]), (127, .iload 4, 2, []), (129, .invokestatic 169, 3, [0, 134, 1]), (132, .ireturn, 1, [0])]
def xt_179 : List xa_E := [(0, .aload_n 0, 1, []), (1, .getfield 7, 3, [0, 9, 0]), (4, .iconst 1, 1, []), (5, .iaload, 1, []), (6, .istore_n 2, 1, []), (7, .aload_n 0, 1, []), (8, .getfield 7, 3, [0, 9, 0]), (11, .iconst 1, 1, []), (12, .iload_n 1, 1, []), (13, .iastore, 1, []), (14, .iload_n 2, 1, []), (15, .ireturn, 1, [0])]
def xt_180 : List xa_E := [(0, .iload_n 2, 1, []), (1, .i2l, 1, []), (2, .lconst 1, 1, []), (3, .ldc2_w 84, 3, [4]), (6, .invokestatic 43, 3, [0, 126, 3]), (9, .ifCond .ne 10, 3, [10]), (12, .aload_n 0, 1, []), (13, .ldc 40, 2, [0, -1000001]), (15, .invokevirtual 57, 3, [1, 127, 1, 9]), (18, .ireturn, 1, [0]), (19, .aload_n 0, 1, []), (20, .getfield 184, 3, [0, 9, 12]), (23, .iload_n 2, 1, []), (24, .iadd, 1, []), (25, .bipush 120, 2, []), (27, .if_icmp .le 10, 3, [20]), (30, .aload_n 0, 1, []), (31, .ldc 75, 2, [0, -1000002]), (33, .invokevirtual 57, 3, [1, 127, 1, 9]), (36, .ireturn, 1, [0]), (37, .iload_n 2, 1, []), (38, .iconst 1, 1, []), (39, .isub, 1, []), (40, .istore_n 3, 1, []), (41, .iload_n 3, 1, []), (42, .ifCond .lt 38, 3, [46]), (45, .aload_n 0, 1, []), (46, .getfield 25, 3, [0, 9, 11]), (49, .aload_n 0, 1, []), (50, .getfield 184, 3, [0, 9, 12]), (53, .iload_n 1, 1, []), (54, .bipush 8, 2, []), (56, .iload_n 3, 1, []), (57, .imul, 1, []), (58, .ishr, 1, []), (59, .sipush 255, 3, []), (62, .iand, 1, []), (63, .iastore, 1, []), (64, .aload_n 0, 1, []), (65, .dup, 1, []), (66, .getfield 184, 3, [0, 9, 12]), (69, .iconst 1, 1, []), (70, .iadd, 1, []), (71, .putfield 184, 3, [0, 9, 12, 0]), (74, .iinc 3 (-1), 3, []), (77, .goto (-36), 3, [24]), (80, .aload_n 0, 1, []), (81, .getfield 184, 3, [0, 9, 12]), (84, .ireturn, 1, [0])]
def xt_181 : List xa_E := [(0, .aload_n 0, 1, []), (1, .getfield 184, 3, [0, 9, 12]), (4, .istore_n 1, 1, []), (5, .aload_n 0, 1, []), (6, .iconst 0, 1, []), (7, .putfield 184, 3, [0, 9, 12, 0]), (10, .iload_n 1, 1, []), (11, .ireturn, 1, [0])]
def xt_182 : List xa_E := [(0, .iload_n 1, 1, []), (1, .aload_n 0, 1, []), (2, .getfield 184, 3, [0, 9, 12]), (5, .if_icmp .ge 12, 3, [9]), (8, .aload_n 0, 1, []), (9, .getfield 25, 3, [0, 9, 11]), (12, .iload_n 1, 1, []), (13, .iaload, 1, []), (14, .goto 4, 3, [10]), (17, .iconst (-1), 1, []), (18, .ireturn, 1, [0])]
def xt_183 : List xa_E := [(0, .iload_n 0, 1, []), (1, .i2l, 1, []), (2, .ldc2_w 187, 3, [97]), (5, .ldc2_w 189, 3, [122]), (8, .invokestatic 43, 3, [0, 126, 3]), (11, .ireturn, 1, [1])]
def xt_184 : List xa_E := [(0, .iload_n 0, 1, []), (1, .i2l, 1, []), (2, .ldc2_w 191, 3, [48]), (5, .ldc2_w 193, 3, [57]), (8, .invokestatic 43, 3, [0, 126, 3]), (11, .ireturn, 1, [1])]
def xt_185 : List xa_E := [(0, .aload_n 0, 1, []), (1, .aload_n 0, 1, []), (2, .getfield 195, 3, [0, 9, 14]), (5, .putfield 198, 3, [0, 9, 13, 0]), (8, .aload_n 0, 1, []), (9, .aload_n 0, 1, []), (10, .getfield 198, 3, [0, 9, 13]), (13, .invokevirtual 201, 3, [1, 182, 1, 9]), (16, .bipush 32, 2, []), (18, .if_icmp .ne 16, 3, [17]), (21, .aload_n 0, 1, []), (22, .dup, 1, []), (23, .getfield 198, 3, [0, 9, 13]), (26, .iconst 1, 1, []), (27, .iadd, 1, []), (28, .putfield 198, 3, [0, 9, 13, 0]), (31, .goto (-23), 3, [4]), (34, .aload_n 0, 1, []), (35, .aload_n 0, 1, []), (36, .getfield 198, 3, [0, 9, 13]), (39, .invokevirtual 201, 3, [1, 182, 1, 9]), (42, .invokestatic 204, 3, [0, 183, 1]), (45, .istore_n 1, 1, []), (46, .aload_n 0, 1, []), (47, .aload_n 0, 1, []), (48, .getfield 198, 3, [0, 9, 13]), (51, .invokevirtual 201, 3, [1, 182, 1, 9]), (54, .invokestatic 207, 3, [0, 184, 1]), (57, .istore_n 2, 1, []), (58, .aload_n 0, 1, []), (59, .aload_n 0, 1, []), (60, .getfield 198, 3, [0, 9, 13]), (63, .aload_n 0, 1, []), (64, .getfield 184, 3, [0, 9, 12]), (67, .if_icmp .ge 12, 3, [40]), (70, .aload_n 0, 1, []), (71, .getfield 198, 3, [0, 9, 13]), (74, .iconst 1, 1, []), (75, .iadd, 1, []), (76, .goto 7, 3, [42]), (79, .aload_n 0, 1, []), (80, .getfield 198, 3, [0, 9, 13]), (83, .putfield 195, 3, [0, 9, 14, 0]), (86, .iload_n 1, 1, []), (87, .ifCond .eq 17, 3, [51]), (90, .aload_n 0, 1, []), (91, .aload_n 0, 1, []), (92, .getfield 195, 3, [0, 9, 14]), (95, .invokevirtual 201, 3, [1, 182, 1, 9]), (98, .invokestatic 204, 3, [0, 183, 1]), (101, .ifCond .ne 21, 3, [59]), (104, .iload_n 2, 1, []), (105, .ifCond .eq 30, 3, [66]), (108, .aload_n 0, 1, []), (109, .aload_n 0, 1, []), (110, .getfield 195, 3, [0, 9, 14]), (113, .invokevirtual 201, 3, [1, 182, 1, 9]), (116, .invokestatic 207, 3, [0, 184, 1]), (119, .ifCond .eq 16, 3, [66]), (122, .aload_n 0, 1, []), (123, .dup, 1, []), (124, .getfield 195, 3, [0, 9, 14]), (127, .iconst 1, 1, []), (128, .iadd, 1, []), (129, .putfield 195, 3, [0, 9, 14, 0]), (132, .goto (-46), 3, [43]), (135, .return_, 1, [])]
def xt_186 : List xa_E := [(0, .aload_n 0, 1, []), (1, .aload_n 0, 1, []), (2, .getfield 210, 3, [0, 9, 16]), (5, .ifCond .ne 7, 3, [6]), (8, .iload_n 1, 1, []), (9, .ifCond .ne 7, 3, [8]), (12, .iconst 1, 1, []), (13, .goto 4, 3, [9]), (16, .iconst 0, 1, []), (17, .putfield 210, 3, [0, 9, 16, 1]), (20, .aload_n 0, 1, []), (21, .getfield 210, 3, [0, 9, 16]), (24, .ifCond .ne 7, 3, [15]), (27, .aload_n 0, 1, []), (28, .invokevirtual 213, 3, [1, 185, 0, 9]), (31, .return_, 1, [])]
def xt_187 : List xa_E := [(0, .lconst 0, 1, []), (1, .lstore_n 1, 1, []), (2, .aload_n 0, 1, []), (3, .getfield 198, 3, [0, 9, 13]), (6, .istore_n 3, 1, []), (7, .iload_n 3, 1, []), (8, .aload_n 0, 1, []), (9, .getfield 195, 3, [0, 9, 14]), (12, .if_icmp .ge 38, 3, [29]), (15, .lload_n 1, 1, []), (16, .ldc2_w 216, 3, [36028797018963967]), (19, .lcmp, 1, []), (20, .ifCond .le 7, 3, [15]), (23, .lload_n 1, 1, []), (24, .goto 19, 3, [26]), (27, .ldc2_w 218, 3, [32]), (30, .lload_n 1, 1, []), (31, .lmul, 1, []), (32, .aload_n 0, 1, []), (33, .getfield 25, 3, [0, 9, 11]), (36, .iload_n 3, 1, []), (37, .iaload, 1, []), (38, .bipush 96, 2, []), (40, .isub, 1, []), (41, .i2l, 1, []), (42, .ladd, 1, []), (43, .lstore_n 1, 1, []), (44, .iinc 3 1, 3, []), (47, .goto (-40), 3, [5]), (50, .aload_n 0, 1, []), (51, .getfield 210, 3, [0, 9, 16]), (54, .ifCond .ne 17, 3, [38]), (57, .aload_n 0, 1, []), (58, .aload_n 0, 1, []), (59, .getfield 198, 3, [0, 9, 13]), (62, .invokevirtual 201, 3, [1, 182, 1, 9]), (65, .invokestatic 204, 3, [0, 183, 1]), (68, .ifCond .ne 7, 3, [40]), (71, .lconst 0, 1, []), (72, .goto 4, 3, [41]), (75, .lload_n 1, 1, []), (76, .lreturn, 1, [])]
def xt_188 : List xa_E := [(0, .aload_n 0, 1, []), (1, .getfield 210, 3, [0, 9, 16]), (4, .ifCond .eq 4, 3, [4]), (7, .return_, 1, []), (8, .aload_n 0, 1, []), (9, .aload_n 0, 1, []), (10, .getfield 198, 3, [0, 9, 13]), (13, .invokevirtual 201, 3, [1, 182, 1, 9]), (16, .invokestatic 207, 3, [0, 184, 1]), (19, .istore_n 3, 1, []), (20, .iconst 0, 1, []), (21, .istore 4, 2, []), (23, .aload_n 0, 1, []), (24, .getfield 198, 3, [0, 9, 13]), (27, .istore 5, 2, []), (29, .iload 5, 2, []), (31, .aload_n 0, 1, []), (32, .getfield 195, 3, [0, 9, 14]), (35, .if_icmp .ge 44, 3, [39]), (38, .iload_n 3, 1, []), (39, .ifCond .eq 40, 3, [39]), (42, .iload 4, 2, []), (44, .sipush 9999, 3, []), (47, .if_icmp .le 8, 3, [26]), (50, .iload 4, 2, []), (52, .goto 19, 3, [36]), (55, .bipush 10, 2, []), (57, .iload 4, 2, []), (59, .imul, 1, []), (60, .aload_n 0, 1, []), (61, .getfield 25, 3, [0, 9, 11]), (64, .iload 5, 2, []), (66, .iaload, 1, []), (67, .iadd, 1, []), (68, .bipush 48, 2, []), (70, .isub, 1, []), (71, .istore 4, 2, []), (73, .iinc 5 1, 3, []), (76, .goto (-47), 3, [15]), (79, .aload_n 0, 1, []), (80, .iload 4, 2, []), (82, .putfield 220, 3, [0, 9, 15, 0]), (85, .aload_n 0, 1, []), (86, .iload_n 3, 1, []), (87, .ifCond .eq 20, 3, [55]), (90, .iload 4, 2, []), (92, .i2l, 1, []), (93, .iload_n 1, 1, []), (94, .i2l, 1, []), (95, .iload_n 2, 1, []), (96, .i2l, 1, []), (97, .invokestatic 43, 3, [0, 126, 3]), (100, .ifCond .eq 7, 3, [55]), (103, .iconst 1, 1, []), (104, .goto 4, 3, [56]), (107, .iconst 0, 1, []), (108, .invokevirtual 223, 3, [1, 186, 1, 9]), (111, .return_, 1, [])]
def xt_189 : List xa_E := [(0, .aload_n 0, 1, []), (1, .iconst 1, 1, []), (2, .invokevirtual 223, 3, [1, 186, 1, 9]), (5, .aload_n 0, 1, []), (6, .iconst 0, 1, []), (7, .bipush 7, 2, []), (9, .invokevirtual 227, 3, [1, 188, 2, 9]), (12, .aload_n 0, 1, []), (13, .getfield 220, 3, [0, 9, 15]), (16, .istore_n 1, 1, []), (17, .aload_n 0, 1, []), (18, .aload_n 0, 1, []), (19, .invokevirtual 229, 3, [1, 187, 0, 9]), (22, .ldc2_w 233, 3, [12635795]), (25, .lcmp, 1, []), (26, .ifCond .ne 7, 3, [18]), (29, .iconst 1, 1, []), (30, .goto 4, 3, [19]), (33, .iconst 0, 1, []), (34, .invokevirtual 223, 3, [1, 186, 1, 9]), (37, .aload_n 0, 1, []), (38, .iconst 1, 1, []), (39, .sipush 999, 3, []), (42, .invokevirtual 227, 3, [1, 188, 2, 9]), (45, .aload_n 0, 1, []), (46, .getfield 220, 3, [0, 9, 15]), (49, .istore_n 2, 1, []), (50, .iconst (-1), 1, []), (51, .istore_n 3, 1, []), (52, .aload_n 0, 1, []), (53, .invokevirtual 229, 3, [1, 187, 0, 9]), (56, .ldc2_w 235, 3, [17376357]), (59, .lcmp, 1, []), (60, .ifCond .ne 20, 3, [44]), (63, .aload_n 0, 1, []), (64, .iconst 1, 1, []), (65, .invokevirtual 223, 3, [1, 186, 1, 9]), (68, .aload_n 0, 1, []), (69, .iconst 0, 1, []), (70, .bipush 99, 2, []), (72, .invokevirtual 227, 3, [1, 188, 2, 9]), (75, .aload_n 0, 1, []), (76, .getfield 220, 3, [0, 9, 15]), (79, .istore_n 3, 1, []), (80, .aload_n 0, 1, []), (81, .getfield 210, 3, [0, 9, 16]), (84, .ifCond .ne 38, 3, [70]), (87, .aload_n 0, 1, []), (88, .getfield 7, 3, [0, 9, 0]), (91, .iconst 2, 1, []), (92, .iload_n 1, 1, []), (93, .iadd, 1, []), (94, .iload_n 2, 1, []), (95, .iastore, 1, []), (96, .aload_n 0, 1, []), (97, .getfield 7, 3, [0, 9, 0]), (100, .bipush 10, 2, []), (102, .iload_n 1, 1, []), (103, .iadd, 1, []), (104, .iload_n 3, 1, []), (105, .ifCond .ge 15, 3, [68]), (108, .aload_n 0, 1, []), (109, .getfield 7, 3, [0, 9, 0]), (112, .bipush 10, 2, []), (114, .iload_n 1, 1, []), (115, .iadd, 1, []), (116, .iaload, 1, []), (117, .goto 4, 3, [69]), (120, .iload_n 3, 1, []), (121, .iastore, 1, []), (122, .return_, 1, [])]
def xt_190 : List xa_E := [(0, .aload_n 0, 1, []), (1, .iconst 1, 1, []), (2, .invokevirtual 223, 3, [1, 186, 1, 9]), (5, .aload_n 0, 1, []), (6, .iconst 0, 1, []), (7, .iconst 3, 1, []), (8, .invokevirtual 227, 3, [1, 188, 2, 9]), (11, .aload_n 0, 1, []), (12, .getfield 220, 3, [0, 9, 15]), (15, .istore_n 1, 1, []), (16, .aload_n 0, 1, []), (17, .invokevirtual 229, 3, [1, 187, 0, 9]), (20, .ldc2_w 237, 3, [12885268]), (23, .lcmp, 1, []), (24, .ifCond .ne 7, 3, [17]), (27, .iconst 1, 1, []), (28, .goto 4, 3, [18]), (31, .iconst 0, 1, []), (32, .istore_n 2, 1, []), (33, .aload_n 0, 1, []), (34, .iload_n 2, 1, []), (35, .ifCond .ne 14, 3, [27]), (38, .aload_n 0, 1, []), (39, .invokevirtual 229, 3, [1, 187, 0, 9]), (42, .ldc2_w 239, 3, [132683]), (45, .lcmp, 1, []), (46, .ifCond .ne 7, 3, [29]), (49, .iconst 1, 1, []), (50, .goto 4, 3, [30]), (53, .iconst 0, 1, []), (54, .invokevirtual 223, 3, [1, 186, 1, 9]), (57, .aload_n 0, 1, []), (58, .getfield 210, 3, [0, 9, 16]), (61, .ifCond .ne 21, 3, [45]), (64, .aload_n 0, 1, []), (65, .getfield 7, 3, [0, 9, 0]), (68, .bipush 18, 2, []), (70, .iload_n 1, 1, []), (71, .iadd, 1, []), (72, .iload_n 2, 1, []), (73, .ifCond .eq 7, 3, [43]), (76, .iconst 1, 1, []), (77, .goto 4, 3, [44]), (80, .iconst 0, 1, []), (81, .iastore, 1, []), (82, .return_, 1, [])]
def xt_191 : List xa_E := [(0, .aload_n 0, 1, []), (1, .invokevirtual 229, 3, [1, 187, 0, 9]), (4, .lstore_n 1, 1, []), (5, .lload_n 1, 1, []), (6, .lconst 0, 1, []), (7, .lcmp, 1, []), (8, .ifCond .le 13, 3, [13]), (11, .lload_n 1, 1, []), (12, .ldc2_w 241, 3, [5]), (15, .lcmp, 1, []), (16, .ifCond .ge 5, 3, [13]), (19, .iconst 1, 1, []), (20, .ireturn, 1, [0]), (21, .lload_n 1, 1, []), (22, .ldc2_w 243, 3, [14836]), (25, .lcmp, 1, []), (26, .ifCond .ne 7, 3, [19]), (29, .iconst 2, 1, []), (30, .goto 65, 3, [50]), (33, .lload_n 1, 1, []), (34, .ldc2_w 245, 3, [1476]), (37, .lcmp, 1, []), (38, .ifCond .ne 7, 3, [25]), (41, .iconst 3, 1, []), (42, .goto 53, 3, [50]), (45, .lload_n 1, 1, []), (46, .ldc2_w 247, 3, [498]), (49, .lcmp, 1, []), (50, .ifCond .ne 7, 3, [31]), (53, .iconst 5, 1, []), (54, .goto 41, 3, [50]), (57, .lload_n 1, 1, []), (58, .ldc2_w 249, 3, [81284]), (61, .lcmp, 1, []), (62, .ifCond .ne 7, 3, [37]), (65, .iconst 4, 1, []), (66, .goto 29, 3, [50]), (69, .lload_n 1, 1, []), (70, .ldc2_w 251, 3, [6333908]), (73, .lcmp, 1, []), (74, .ifCond .ne 8, 3, [43]), (77, .bipush 6, 2, []), (79, .goto 16, 3, [50]), (82, .lload_n 1, 1, []), (83, .ldc2_w 253, 3, [78324]), (86, .lcmp, 1, []), (87, .ifCond .ne 7, 3, [49]), (90, .iconst 0, 1, []), (91, .goto 4, 3, [50]), (94, .iconst (-1), 1, []), (95, .ireturn, 1, [0])]
def xt_192 : List xa_E := [(0, .aload_n 0, 1, []), (1, .invokevirtual 255, 3, [1, 191, 0, 9]), (4, .istore_n 3, 1, []), (5, .aload_n 0, 1, []), (6, .invokevirtual 229, 3, [1, 187, 0, 9]), (9, .lstore 4, 2, []), (11, .aload_n 0, 1, []), (12, .iload_n 3, 1, []), (13, .ifCond .lt 21, 3, [19]), (16, .aload_n 0, 1, []), (17, .getfield 7, 3, [0, 9, 0]), (20, .bipush 22, 2, []), (22, .iload_n 1, 1, []), (23, .iadd, 1, []), (24, .iaload, 1, []), (25, .bipush 12, 2, []), (27, .if_icmp .ge 7, 3, [19]), (30, .iconst 1, 1, []), (31, .goto 4, 3, [20]), (34, .iconst 0, 1, []), (35, .invokevirtual 223, 3, [1, 186, 1, 9]), (38, .iload_n 3, 1, []), (39, .iconst 4, 1, []), (40, .if_icmp .eq 9, 3, [27]), (43, .iload_n 3, 1, []), (44, .bipush 6, 2, []), (46, .if_icmp .ne 34, 3, [43]), (49, .aload_n 0, 1, []), (50, .invokevirtual 229, 3, [1, 187, 0, 9]), (53, .lstore 4, 2, []), (55, .aload_n 0, 1, []), (56, .lload 4, 2, []), (58, .lconst 0, 1, []), (59, .lcmp, 1, []), (60, .ifCond .le 16, 3, [41]), (63, .lload 4, 2, []), (65, .ldc2_w 241, 3, [5]), (68, .lcmp, 1, []), (69, .ifCond .ge 7, 3, [41]), (72, .iconst 1, 1, []), (73, .goto 4, 3, [42]), (76, .iconst 0, 1, []), (77, .invokevirtual 223, 3, [1, 186, 1, 9]), (80, .aload_n 0, 1, []), (81, .getfield 210, 3, [0, 9, 16]), (84, .ifCond .ne 37, 3, [66]), (87, .aload_n 0, 1, []), (88, .iload_n 1, 1, []), (89, .iload_n 3, 1, []), (90, .lload 4, 2, []), (92, .lconst 0, 1, []), (93, .lcmp, 1, []), (94, .ifCond .le 20, 3, [62]), (97, .lload 4, 2, []), (99, .ldc2_w 241, 3, [5]), (102, .lcmp, 1, []), (103, .ifCond .ge 11, 3, [62]), (106, .lload 4, 2, []), (108, .l2i, 1, []), (109, .iconst 1, 1, []), (110, .isub, 1, []), (111, .goto 4, 3, [63]), (114, .iconst 0, 1, []), (115, .iload_n 2, 1, []), (116, .invokevirtual 76, 3, [1, 138, 4, 9]), (119, .istore 6, 2, []), (121, .return_, 1, [])]
def xt_193 : List xa_E := [(0, .aload_n 0, 1, []), (1, .aload_n 0, 1, []), (2, .invokevirtual 229, 3, [1, 187, 0, 9]), (5, .ldc2_w 258, 3, [494]), (8, .lcmp, 1, []), (9, .ifCond .ne 7, 3, [8]), (12, .iconst 1, 1, []), (13, .goto 4, 3, [9]), (16, .iconst 0, 1, []), (17, .invokevirtual 223, 3, [1, 186, 1, 9]), (20, .aload_n 0, 1, []), (21, .iconst 0, 1, []), (22, .iconst 3, 1, []), (23, .invokevirtual 227, 3, [1, 188, 2, 9]), (26, .aload_n 0, 1, []), (27, .getfield 220, 3, [0, 9, 15]), (30, .istore_n 1, 1, []), (31, .iconst 0, 1, []), (32, .istore_n 2, 1, []), (33, .aload_n 0, 1, []), (34, .invokevirtual 229, 3, [1, 187, 0, 9]), (37, .ldc2_w 260, 3, [9675]), (40, .lcmp, 1, []), (41, .ifCond .ne 20, 3, [34]), (44, .aload_n 0, 1, []), (45, .iconst 1, 1, []), (46, .invokevirtual 223, 3, [1, 186, 1, 9]), (49, .aload_n 0, 1, []), (50, .iconst 0, 1, []), (51, .bipush 7, 2, []), (53, .invokevirtual 227, 3, [1, 188, 2, 9]), (56, .aload_n 0, 1, []), (57, .getfield 220, 3, [0, 9, 15]), (60, .istore_n 2, 1, []), (61, .iconst 1, 1, []), (62, .istore_n 3, 1, []), (63, .iload_n 3, 1, []), (64, .ifCond .eq 32, 3, [53]), (67, .aload_n 0, 1, []), (68, .getfield 210, 3, [0, 9, 16]), (71, .ifCond .ne 25, 3, [53]), (74, .aload_n 0, 1, []), (75, .iload_n 1, 1, []), (76, .iload_n 2, 1, []), (77, .invokevirtual 262, 3, [1, 192, 2, 9]), (80, .aload_n 0, 1, []), (81, .invokevirtual 255, 3, [1, 191, 0, 9]), (84, .ifCond .lt 7, 3, [50]), (87, .iconst 1, 1, []), (88, .goto 4, 3, [51]), (91, .iconst 0, 1, []), (92, .istore_n 3, 1, []), (93, .goto (-30), 3, [36]), (96, .return_, 1, [])]
def xt_194 : List xa_E := [(0, .aload_n 0, 1, []), (1, .invokevirtual 161, 3, [1, 167, 0, 9]), (4, .aload_n 0, 1, []), (5, .iconst 0, 1, []), (6, .putfield 195, 3, [0, 9, 14, 0]), (9, .aload_n 0, 1, []), (10, .iconst 0, 1, []), (11, .putfield 210, 3, [0, 9, 16, 1]), (14, .aload_n 0, 1, []), (15, .invokevirtual 213, 3, [1, 185, 0, 9]), (18, .iconst 1, 1, []), (19, .istore_n 1, 1, []), (20, .aload_n 0, 1, []), (21, .invokevirtual 265, 3, [1, 195, 0, 9]), (24, .aload_n 0, 1, []), (25, .getfield 210, 3, [0, 9, 16]), (28, .ifCond .ne 46, 3, [37]), (31, .aload_n 0, 1, []), (32, .getfield 198, 3, [0, 9, 13]), (35, .aload_n 0, 1, []), (36, .getfield 184, 3, [0, 9, 12]), (39, .if_icmp .ge 35, 3, [37]), (42, .aload_n 0, 1, []), (43, .aload_n 0, 1, []), (44, .aload_n 0, 1, []), (45, .getfield 198, 3, [0, 9, 13]), (48, .invokevirtual 201, 3, [1, 182, 1, 9]), (51, .bipush 59, 2, []), (53, .if_icmp .ne 7, 3, [31]), (56, .iconst 1, 1, []), (57, .goto 4, 3, [32]), (60, .iconst 0, 1, []), (61, .invokevirtual 223, 3, [1, 186, 1, 9]), (64, .aload_n 0, 1, []), (65, .invokevirtual 265, 3, [1, 195, 0, 9]), (68, .iinc 1 1, 3, []), (71, .goto (-47), 3, [14]), (74, .aload_n 0, 1, []), (75, .iconst 0, 1, []), (76, .putfield 184, 3, [0, 9, 12, 0]), (79, .aload_n 0, 1, []), (80, .getfield 210, 3, [0, 9, 16]), (83, .ifCond .eq 14, 3, [50]), (86, .aload_n 0, 1, []), (87, .invokevirtual 164, 3, [1, 168, 0, 9]), (90, .iconst (-1), 1, []), (91, .aload_n 0, 1, []), (92, .getfield 198, 3, [0, 9, 13]), (95, .isub, 1, []), (96, .ireturn, 1, [0]), (97, .iload_n 1, 1, []), (98, .ireturn, 1, [0])]
def xt_195 : List xa_E := [(0, .aload_n 0, 1, []), (1, .invokevirtual 229, 3, [1, 187, 0, 9]), (4, .ldc2_w 260, 3, [9675]), (7, .lcmp, 1, []), (8, .ifCond .ne 10, 3, [8]), (11, .aload_n 0, 1, []), (12, .invokevirtual 268, 3, [1, 189, 0, 9]), (15, .goto 25, 3, [18]), (18, .aload_n 0, 1, []), (19, .invokevirtual 229, 3, [1, 187, 0, 9]), (22, .ldc2_w 271, 3, [16826546]), (25, .lcmp, 1, []), (26, .ifCond .ne 10, 3, [16]), (29, .aload_n 0, 1, []), (30, .invokevirtual 273, 3, [1, 190, 0, 9]), (33, .goto 7, 3, [18]), (36, .aload_n 0, 1, []), (37, .invokevirtual 276, 3, [1, 193, 0, 9]), (40, .return_, 1, [])]
def xt_196 : List xa_E := [(0, .iload_n 1, 1, []), (1, .i2l, 1, []), (2, .lconst 0, 1, []), (3, .ldc2_w 279, 3, [9]), (6, .invokestatic 43, 3, [0, 126, 3]), (9, .ifCond .eq 24, 3, [17]), (12, .iload_n 2, 1, []), (13, .invokestatic 51, 3, [0, 128, 1]), (16, .ifCond .eq 17, 3, [17]), (19, .iload_n 3, 1, []), (20, .iconst (-1), 1, []), (21, .if_icmp .eq 19, 3, [21]), (24, .aload_n 0, 1, []), (25, .iload_n 2, 1, []), (26, .iload_n 3, 1, []), (27, .invokevirtual 80, 3, [1, 131, 2, 9]), (30, .ifCond .ne 10, 3, [21]), (33, .aload_n 0, 1, []), (34, .ldc 40, 2, [0, -1000001]), (36, .invokevirtual 57, 3, [1, 127, 1, 9]), (39, .ireturn, 1, [0]), (40, .aload_n 0, 1, []), (41, .getfield 7, 3, [0, 9, 0]), (44, .sipush 218, 3, []), (47, .iload_n 1, 1, []), (48, .iadd, 1, []), (49, .iload_n 3, 1, []), (50, .ifCond .ge 7, 3, [30]), (53, .iconst (-1), 1, []), (54, .goto 9, 3, [35]), (57, .bipush 100, 2, []), (59, .iload_n 2, 1, []), (60, .imul, 1, []), (61, .iload_n 3, 1, []), (62, .iadd, 1, []), (63, .iastore, 1, []), (64, .iconst 1, 1, []), (65, .ireturn, 1, [0])]
def xt_197 : List xa_E := [(0, .iload_n 1, 1, []), (1, .i2l, 1, []), (2, .lconst 0, 1, []), (3, .ldc2_w 279, 3, [9]), (6, .invokestatic 43, 3, [0, 126, 3]), (9, .ifCond .eq 15, 3, [12]), (12, .iload_n 2, 1, []), (13, .i2l, 1, []), (14, .lconst 0, 1, []), (15, .ldc2_w 73, 3, [6]), (18, .invokestatic 43, 3, [0, 126, 3]), (21, .ifCond .ne 10, 3, [16]), (24, .aload_n 0, 1, []), (25, .ldc 40, 2, [0, -1000001]), (27, .invokevirtual 57, 3, [1, 127, 1, 9]), (30, .ireturn, 1, [0]), (31, .aload_n 0, 1, []), (32, .getfield 7, 3, [0, 9, 0]), (35, .sipush 218, 3, []), (38, .iload_n 1, 1, []), (39, .iadd, 1, []), (40, .iaload, 1, []), (41, .istore_n 3, 1, []), (42, .iload_n 3, 1, []), (43, .ifCond .ge 11, 3, [29]), (46, .aload_n 0, 1, []), (47, .ldc_w 281, 3, [0, -1000006]), (50, .invokevirtual 57, 3, [1, 127, 1, 9]), (53, .ireturn, 1, [0]), (54, .aload_n 0, 1, []), (55, .getfield 7, 3, [0, 9, 0]), (58, .iload_n 3, 1, []), (59, .bipush 100, 2, []), (61, .idiv, 1, []), (62, .iload_n 3, 1, []), (63, .bipush 100, 2, []), (65, .irem, 1, []), (66, .invokestatic 69, 3, [0, 132, 2]), (69, .iaload, 1, []), (70, .istore 4, 2, []), (72, .iload_n 2, 1, []), (73, .ifCond .eq 38, 3, [60]), (76, .iload 4, 2, []), (78, .iload_n 2, 1, []), (79, .if_icmp .eq 32, 3, [60]), (82, .iload_n 2, 1, []), (83, .iconst 1, 1, []), (84, .if_icmp .ne 16, 3, [54]), (87, .iload 4, 2, []), (89, .iconst 4, 1, []), (90, .if_icmp .eq 21, 3, [60]), (93, .iload 4, 2, []), (95, .bipush 6, 2, []), (97, .if_icmp .eq 14, 3, [60]), (100, .iload_n 2, 1, []), (101, .iconst 3, 1, []), (102, .if_icmp .ne 13, 3, [62]), (105, .iload 4, 2, []), (107, .iconst 5, 1, []), (108, .if_icmp .ne 7, 3, [62]), (111, .iconst 1, 1, []), (112, .goto 4, 3, [63]), (115, .iconst 0, 1, []), (116, .istore 5, 2, []), (118, .iload 5, 2, []), (120, .ifCond .eq 7, 3, [68]), (123, .iload_n 3, 1, []), (124, .goto 10, 3, [71]), (127, .aload_n 0, 1, []), (128, .ldc_w 282, 3, [0, -1000003]), (131, .invokevirtual 57, 3, [1, 127, 1, 9]), (134, .ireturn, 1, [0])]
def xt_198 : List xa_E := [(0, .iload_n 0, 1, []), (1, .i2l, 1, []), (2, .lconst 0, 1, []), (3, .ldc2_w 41, 3, [3]), (6, .invokestatic 43, 3, [0, 126, 3]), (9, .ireturn, 1, [1])]
def xt_199 : List xa_E := [(0, .iload_n 1, 1, []), (1, .invokestatic 283, 3, [0, 198, 1]), (4, .ifCond .eq 25, 3, [14]), (7, .iload_n 2, 1, []), (8, .ifCond .eq 28, 3, [18]), (11, .iload_n 2, 1, []), (12, .bipush 8, 2, []), (14, .if_icmp .eq 22, 3, [18]), (17, .iload_n 2, 1, []), (18, .bipush 16, 2, []), (20, .if_icmp .eq 16, 3, [18]), (23, .iload_n 2, 1, []), (24, .bipush 32, 2, []), (26, .if_icmp .eq 10, 3, [18]), (29, .aload_n 0, 1, []), (30, .ldc 40, 2, [0, -1000001]), (32, .invokevirtual 57, 3, [1, 127, 1, 9]), (35, .ireturn, 1, [0]), (36, .iload_n 3, 1, []), (37, .ifCond .ge 11, 3, [24]), (40, .aload_n 0, 1, []), (41, .ldc_w 286, 3, [0, -1000007]), (44, .invokevirtual 57, 3, [1, 127, 1, 9]), (47, .ireturn, 1, [0]), (48, .iload_n 3, 1, []), (49, .bipush 40, 2, []), (51, .if_icmp .le 10, 3, [31]), (54, .aload_n 0, 1, []), (55, .ldc 40, 2, [0, -1000001]), (57, .invokevirtual 57, 3, [1, 127, 1, 9]), (60, .ireturn, 1, [0]), (61, .aload_n 0, 1, []), (62, .getfield 28, 3, [0, 9, 17]), (65, .iload_n 1, 1, []), (66, .iload_n 2, 1, []), (67, .iastore, 1, []), (68, .aload_n 0, 1, []), (69, .getfield 31, 3, [0, 9, 18]), (72, .iload_n 1, 1, []), (73, .iload_n 2, 1, []), (74, .ifCond .ne 7, 3, [43]), (77, .iconst 0, 1, []), (78, .goto 4, 3, [44]), (81, .iload_n 3, 1, []), (82, .iastore, 1, []), (83, .iconst 0, 1, []), (84, .istore 4, 2, []), (86, .iload 4, 2, []), (88, .bipush 40, 2, []), (90, .if_icmp .ge 22, 3, [61]), (93, .aload_n 0, 1, []), (94, .getfield 34, 3, [0, 9, 19]), (97, .bipush 40, 2, []), (99, .iload_n 1, 1, []), (100, .imul, 1, []), (101, .iload 4, 2, []), (103, .iadd, 1, []), (104, .iconst 0, 1, []), (105, .iastore, 1, []), (106, .iinc 4 1, 3, []), (109, .goto (-23), 3, [47]), (112, .aload_n 0, 1, []), (113, .getfield 31, 3, [0, 9, 18]), (116, .iload_n 1, 1, []), (117, .iaload, 1, []), (118, .ireturn, 1, [0])]
def xt_200 : List xa_E := [(0, .iload_n 0, 1, []), (1, .bipush 8, 2, []), (3, .if_icmp .ne 8, 3, [6]), (6, .iload_n 1, 1, []), (7, .i2b, 1, []), (8, .goto 15, 3, [13]), (11, .iload_n 0, 1, []), (12, .bipush 16, 2, []), (14, .if_icmp .ne 8, 3, [12]), (17, .iload_n 1, 1, []), (18, .i2s, 1, []), (19, .goto 4, 3, [13]), (22, .iload_n 1, 1, []), (23, .ireturn, 1, [0])]
def xt_201 : List xa_E := [(0, .iload_n 1, 1, []), (1, .invokestatic 283, 3, [0, 198, 1]), (4, .ifCond .ne 8, 3, [5]), (7, .ldc 40, 2, [0, -1000001]), (9, .goto 19, 3, [13]), (12, .aload_n 0, 1, []), (13, .getfield 28, 3, [0, 9, 17]), (16, .iload_n 1, 1, []), (17, .iaload, 1, []), (18, .ifCond .ne 9, 3, [12]), (21, .ldc_w 281, 3, [0, -1000006]), (24, .goto 4, 3, [13]), (27, .iconst 0, 1, []), (28, .ireturn, 1, [0])]
def xt_202 : List xa_E := [(0, .aload_n 0, 1, []), (1, .iload_n 1, 1, []), (2, .invokevirtual 287, 3, [1, 201, 1, 9]), (5, .istore 4, 2, []), (7, .iload 4, 2, []), (9, .ifCond .eq 10, 3, [10]), (12, .aload_n 0, 1, []), (13, .iload 4, 2, []), (15, .invokevirtual 57, 3, [1, 127, 1, 9]), (18, .ireturn, 1, [0]), (19, .iload_n 2, 1, []), (20, .i2l, 1, []), (21, .lconst 0, 1, []), (22, .aload_n 0, 1, []), (23, .getfield 31, 3, [0, 9, 18]), (26, .iload_n 1, 1, []), (27, .iaload, 1, []), (28, .iconst 1, 1, []), (29, .isub, 1, []), (30, .i2l, 1, []), (31, .invokestatic 43, 3, [0, 126, 3]), (34, .ifCond .ne 10, 3, [26]), (37, .aload_n 0, 1, []), (38, .ldc 40, 2, [0, -1000001]), (40, .invokevirtual 57, 3, [1, 127, 1, 9]), (43, .ireturn, 1, [0]), (44, .aload_n 0, 1, []), (45, .getfield 34, 3, [0, 9, 19]), (48, .bipush 40, 2, []), (50, .iload_n 1, 1, []), (51, .imul, 1, []), (52, .iload_n 2, 1, []), (53, .iadd, 1, []), (54, .aload_n 0, 1, []), (55, .getfield 28, 3, [0, 9, 17]), (58, .iload_n 1, 1, []), (59, .iaload, 1, []), (60, .iload_n 3, 1, []), (61, .invokestatic 290, 3, [0, 200, 2]), (64, .iastore, 1, []), (65, .iconst 1, 1, []), (66, .ireturn, 1, [0])]
def xt_203 : List xa_E := [(0, .iload_n 1, 1, []), (1, .invokestatic 283, 3, [0, 198, 1]), (4, .ifCond .eq 10, 3, [6]), (7, .iload_n 3, 1, []), (8, .invokestatic 283, 3, [0, 198, 1]), (11, .ifCond .ne 10, 3, [10]), (14, .aload_n 0, 1, []), (15, .ldc 40, 2, [0, -1000001]), (17, .invokevirtual 57, 3, [1, 127, 1, 9]), (20, .ireturn, 1, [0]), (21, .aload_n 0, 1, []), (22, .getfield 28, 3, [0, 9, 17]), (25, .iload_n 1, 1, []), (26, .iaload, 1, []), (27, .ifCond .eq 12, 3, [20]), (30, .aload_n 0, 1, []), (31, .getfield 28, 3, [0, 9, 17]), (34, .iload_n 3, 1, []), (35, .iaload, 1, []), (36, .ifCond .ne 11, 3, [24]), (39, .aload_n 0, 1, []), (40, .ldc_w 281, 3, [0, -1000006]), (43, .invokevirtual 57, 3, [1, 127, 1, 9]), (46, .ireturn, 1, [0]), (47, .aload_n 0, 1, []), (48, .getfield 28, 3, [0, 9, 17]), (51, .iload_n 1, 1, []), (52, .iaload, 1, []), (53, .aload_n 0, 1, []), (54, .getfield 28, 3, [0, 9, 17]), (57, .iload_n 3, 1, []), (58, .iaload, 1, []), (59, .if_icmp .eq 11, 3, [37]), (62, .aload_n 0, 1, []), (63, .ldc_w 282, 3, [0, -1000003]), (66, .invokevirtual 57, 3, [1, 127, 1, 9]), (69, .ireturn, 1, [0]), (70, .iload_n 2, 1, []), (71, .ifCond .lt 40, 3, [59]), (74, .iload 4, 2, []), (76, .ifCond .lt 35, 3, [59]), (79, .iload 5, 2, []), (81, .ifCond .lt 30, 3, [59]), (84, .iload 5, 2, []), (86, .aload_n 0, 1, []), (87, .getfield 31, 3, [0, 9, 18]), (90, .iload_n 1, 1, []), (91, .iaload, 1, []), (92, .iload_n 2, 1, []), (93, .isub, 1, []), (94, .if_icmp .gt 17, 3, [59]), (97, .iload 5, 2, []), (99, .aload_n 0, 1, []), (100, .getfield 31, 3, [0, 9, 18]), (103, .iload_n 3, 1, []), (104, .iaload, 1, []), (105, .iload 4, 2, []), (107, .isub, 1, []), (108, .if_icmp .le 10, 3, [63]), (111, .aload_n 0, 1, []), (112, .ldc 40, 2, [0, -1000001]), (114, .invokevirtual 57, 3, [1, 127, 1, 9]), (117, .ireturn, 1, [0]), (118, .iconst 0, 1, []), (119, .istore 6, 2, []), (121, .iload 6, 2, []), (123, .iload 5, 2, []), (125, .if_icmp .ge 30, 3, [84]), (128, .aload_n 0, 1, []), (129, .getfield 37, 3, [0, 9, 20]), (132, .iload 6, 2, []), (134, .aload_n 0, 1, []), (135, .getfield 34, 3, [0, 9, 19]), (138, .bipush 40, 2, []), (140, .iload_n 1, 1, []), (141, .imul, 1, []), (142, .iload_n 2, 1, []), (143, .iadd, 1, []), (144, .iload 6, 2, []), (146, .iadd, 1, []), (147, .iaload, 1, []), (148, .iastore, 1, []), (149, .iinc 6 1, 3, []), (152, .goto (-31), 3, [65]), (155, .iconst 0, 1, []), (156, .istore 6, 2, []), (158, .iload 6, 2, []), (160, .iload 5, 2, []), (162, .if_icmp .ge 31, 3, [105]), (165, .aload_n 0, 1, []), (166, .getfield 34, 3, [0, 9, 19]), (169, .bipush 40, 2, []), (171, .iload_n 3, 1, []), (172, .imul, 1, []), (173, .iload 4, 2, []), (175, .iadd, 1, []), (176, .iload 6, 2, []), (178, .iadd, 1, []), (179, .aload_n 0, 1, []), (180, .getfield 37, 3, [0, 9, 20]), (183, .iload 6, 2, []), (185, .iaload, 1, []), (186, .iastore, 1, []), (187, .iinc 6 1, 3, []), (190, .goto (-32), 3, [86]), (193, .iload 5, 2, []), (195, .ireturn, 1, [0])]
def xt_204 : List xa_E := [(0, .aload_n 0, 1, []), (1, .iload_n 1, 1, []), (2, .invokevirtual 287, 3, [1, 201, 1, 9]), (5, .istore 4, 2, []), (7, .iload 4, 2, []), (9, .ifCond .eq 10, 3, [10]), (12, .aload_n 0, 1, []), (13, .iload 4, 2, []), (15, .invokevirtual 57, 3, [1, 127, 1, 9]), (18, .ireturn, 1, [0]), (19, .iload_n 2, 1, []), (20, .invokestatic 51, 3, [0, 128, 1]), (23, .ifCond .eq 10, 3, [16]), (26, .iload_n 3, 1, []), (27, .invokestatic 62, 3, [0, 129, 1]), (30, .ifCond .ne 10, 3, [20]), (33, .aload_n 0, 1, []), (34, .ldc 40, 2, [0, -1000001]), (36, .invokevirtual 57, 3, [1, 127, 1, 9]), (39, .ireturn, 1, [0]), (40, .iconst 0, 1, []), (41, .istore 5, 2, []), (43, .iconst 0, 1, []), (44, .istore 6, 2, []), (46, .iload 6, 2, []), (48, .aload_n 0, 1, []), (49, .getfield 31, 3, [0, 9, 18]), (52, .iload_n 1, 1, []), (53, .iaload, 1, []), (54, .if_icmp .ge 83, 3, [74]), (57, .aload_n 0, 1, []), (58, .getfield 34, 3, [0, 9, 19]), (61, .bipush 40, 2, []), (63, .iload_n 1, 1, []), (64, .imul, 1, []), (65, .iload 6, 2, []), (67, .iadd, 1, []), (68, .iaload, 1, []), (69, .istore 7, 2, []), (71, .iload 7, 2, []), (73, .i2l, 1, []), (74, .lconst 0, 1, []), (75, .ldc2_w 293, 3, [63]), (78, .invokestatic 43, 3, [0, 126, 3]), (81, .ifCond .eq 26, 3, [58]), (84, .iload 7, 2, []), (86, .bipush 10, 2, []), (88, .irem, 1, []), (89, .iconst 3, 1, []), (90, .if_icmp .gt 17, 3, [58]), (93, .aload_n 0, 1, []), (94, .getfield 7, 3, [0, 9, 0]), (97, .bipush 22, 2, []), (99, .iload_n 2, 1, []), (100, .iadd, 1, []), (101, .iaload, 1, []), (102, .bipush 12, 2, []), (104, .if_icmp .ne 6, 3, [60]), (107, .iload 5, 2, []), (109, .ireturn, 1, [0]), (110, .aload_n 0, 1, []), (111, .iload_n 2, 1, []), (112, .iload 7, 2, []), (114, .bipush 10, 2, []), (116, .idiv, 1, []), (117, .iload 7, 2, []), (119, .bipush 10, 2, []), (121, .irem, 1, []), (122, .iload_n 3, 1, []), (123, .invokevirtual 76, 3, [1, 138, 4, 9]), (126, .istore 8, 2, []), (128, .iinc 5 1, 3, []), (131, .iinc 6 1, 3, []), (134, .goto (-88), 3, [24]), (137, .iload 5, 2, []), (139, .ireturn, 1, [0])]
def xt_205 : List xa_E := [(0, .aload_n 0, 1, []), (1, .iload_n 1, 1, []), (2, .invokevirtual 287, 3, [1, 201, 1, 9]), (5, .istore 4, 2, []), (7, .iload 4, 2, []), (9, .ifCond .eq 10, 3, [10]), (12, .aload_n 0, 1, []), (13, .iload 4, 2, []), (15, .invokevirtual 57, 3, [1, 127, 1, 9]), (18, .ireturn, 1, [0]), (19, .iload_n 2, 1, []), (20, .invokestatic 51, 3, [0, 128, 1]), (23, .ifCond .eq 10, 3, [16]), (26, .iload_n 3, 1, []), (27, .invokestatic 104, 3, [0, 130, 1]), (30, .ifCond .ne 10, 3, [20]), (33, .aload_n 0, 1, []), (34, .ldc 40, 2, [0, -1000001]), (36, .invokevirtual 57, 3, [1, 127, 1, 9]), (39, .ireturn, 1, [0]), (40, .iconst 0, 1, []), (41, .istore 5, 2, []), (43, .iload 5, 2, []), (45, .aload_n 0, 1, []), (46, .getfield 31, 3, [0, 9, 18]), (49, .iload_n 1, 1, []), (50, .iaload, 1, []), (51, .if_icmp .ge 48, 3, [54]), (54, .iload_n 3, 1, []), (55, .iload 5, 2, []), (57, .iadd, 1, []), (58, .sipush 9999, 3, []), (61, .if_icmp .gt 27, 3, [48]), (64, .aload_n 0, 1, []), (65, .getfield 34, 3, [0, 9, 19]), (68, .bipush 40, 2, []), (70, .iload_n 1, 1, []), (71, .imul, 1, []), (72, .iload 5, 2, []), (74, .iadd, 1, []), (75, .iaload, 1, []), (76, .aload_n 0, 1, []), (77, .iload_n 2, 1, []), (78, .iload_n 3, 1, []), (79, .iload 5, 2, []), (81, .iadd, 1, []), (82, .invokevirtual 147, 3, [1, 157, 2, 9]), (85, .if_icmp .eq 8, 3, [52]), (88, .iconst 1, 1, []), (89, .iload 5, 2, []), (91, .iadd, 1, []), (92, .ireturn, 1, [0]), (93, .iinc 5 1, 3, []), (96, .goto (-53), 3, [22]), (99, .iconst 0, 1, []), (100, .ireturn, 1, [0])]
def xt_206 : List xa_E := [(0, .iconst 0, 1, []), (1, .istore_n 1, 1, []), (2, .iload_n 1, 1, []), (3, .sipush 228, 3, []), (6, .if_icmp .ge 21, 3, [15]), (9, .aload_n 0, 1, []), (10, .getfield 13, 3, [0, 9, 1]), (13, .iload_n 1, 1, []), (14, .aload_n 0, 1, []), (15, .getfield 7, 3, [0, 9, 0]), (18, .iload_n 1, 1, []), (19, .iaload, 1, []), (20, .iastore, 1, []), (21, .iinc 1 1, 3, []), (24, .goto (-22), 3, [2]), (27, .aload_n 0, 1, []), (28, .iconst 1, 1, []), (29, .putfield 295, 3, [0, 9, 4, 1]), (32, .iconst 1, 1, []), (33, .ireturn, 1, [0])]
def xt_207 : List xa_E := [(0, .aload_n 0, 1, []), (1, .getfield 295, 3, [0, 9, 4]), (4, .ifCond .ne 10, 3, [7]), (7, .aload_n 0, 1, []), (8, .ldc 110, 2, [0, -1000004]), (10, .invokevirtual 57, 3, [1, 127, 1, 9]), (13, .ireturn, 1, [0]), (14, .iconst 0, 1, []), (15, .istore_n 1, 1, []), (16, .iload_n 1, 1, []), (17, .sipush 228, 3, []), (20, .if_icmp .ge 21, 3, [22]), (23, .aload_n 0, 1, []), (24, .getfield 7, 3, [0, 9, 0]), (27, .iload_n 1, 1, []), (28, .aload_n 0, 1, []), (29, .getfield 13, 3, [0, 9, 1]), (32, .iload_n 1, 1, []), (33, .iaload, 1, []), (34, .iastore, 1, []), (35, .iinc 1 1, 3, []), (38, .goto (-22), 3, [9]), (41, .aload_n 0, 1, []), (42, .getfield 7, 3, [0, 9, 0]), (45, .iconst 0, 1, []), (46, .iaload, 1, []), (47, .ireturn, 1, [0])]
def xt_208 : List xa_E := [(0, .aload_n 0, 1, []), (1, .getfield 295, 3, [0, 9, 4]), (4, .ifCond .eq 7, 3, [5]), (7, .iconst 1, 1, []), (8, .goto 4, 3, [6]), (11, .iconst 0, 1, []), (12, .istore_n 1, 1, []), (13, .aload_n 0, 1, []), (14, .iconst 0, 1, []), (15, .putfield 295, 3, [0, 9, 4, 1]), (18, .iload_n 1, 1, []), (19, .ireturn, 1, [0])]
def xt_209 : List xa_E := [(0, .iconst 0, 1, []), (1, .istore_n 2, 1, []), (2, .iload_n 1, 1, []), (3, .tableswitch 193 0 6 #[41, 48, 75, 107, 144, 149, 156], 41, [100, 4, 9, 27, 47, 70, 73, 78]), (44, .aload_n 0, 1, []), (45, .getfield 7, 3, [0, 9, 0]), (48, .iconst 0, 1, []), (49, .iaload, 1, []), (50, .ireturn, 1, [0]), (51, .iconst 0, 1, []), (52, .istore_n 3, 1, []), (53, .iload_n 3, 1, []), (54, .iconst 4, 1, []), (55, .if_icmp .ge 21, 3, [25]), (58, .iload_n 2, 1, []), (59, .aload_n 0, 1, []), (60, .getfield 7, 3, [0, 9, 0]), (63, .bipush 22, 2, []), (65, .iload_n 3, 1, []), (66, .iadd, 1, []), (67, .iaload, 1, []), (68, .iadd, 1, []), (69, .istore_n 2, 1, []), (70, .iinc 3 1, 3, []), (73, .goto (-20), 3, [11]), (76, .iload_n 2, 1, []), (77, .ireturn, 1, [0]), (78, .iconst 0, 1, []), (79, .istore_n 3, 1, []), (80, .iload_n 3, 1, []), (81, .iconst 4, 1, []), (82, .if_icmp .ge 26, 3, [45]), (85, .iload_n 2, 1, []), (86, .aload_n 0, 1, []), (87, .iload_n 3, 1, []), (88, .aload_n 0, 1, []), (89, .getfield 7, 3, [0, 9, 0]), (92, .iconst 0, 1, []), (93, .iaload, 1, []), (94, .invokevirtual 107, 3, [1, 149, 2, 9]), (97, .invokestatic 169, 3, [0, 134, 1]), (100, .iadd, 1, []), (101, .istore_n 2, 1, []), (102, .iinc 3 1, 3, []), (105, .goto (-25), 3, [29]), (108, .iload_n 2, 1, []), (109, .ireturn, 1, [0]), (110, .iconst 0, 1, []), (111, .istore_n 3, 1, []), (112, .iload_n 3, 1, []), (113, .iconst 4, 1, []), (114, .if_icmp .ge 31, 3, [68]), (117, .iload_n 2, 1, []), (118, .aload_n 0, 1, []), (119, .iload_n 3, 1, []), (120, .aload_n 0, 1, []), (121, .getfield 7, 3, [0, 9, 0]), (124, .iconst 0, 1, []), (125, .iaload, 1, []), (126, .invokevirtual 147, 3, [1, 157, 2, 9]), (129, .ifCond .ge 7, 3, [63]), (132, .iconst 0, 1, []), (133, .goto 4, 3, [64]), (136, .iconst 1, 1, []), (137, .iadd, 1, []), (138, .istore_n 2, 1, []), (139, .iinc 3 1, 3, []), (142, .goto (-30), 3, [49]), (145, .iload_n 2, 1, []), (146, .ireturn, 1, [0]), (147, .aload_n 0, 1, []), (148, .getfield 184, 3, [0, 9, 12]), (151, .ireturn, 1, [0]), (152, .aload_n 0, 1, []), (153, .getfield 7, 3, [0, 9, 0]), (156, .iconst 1, 1, []), (157, .iaload, 1, []), (158, .ireturn, 1, [0]), (159, .iconst 0, 1, []), (160, .istore_n 3, 1, []), (161, .iload_n 3, 1, []), (162, .bipush 10, 2, []), (164, .if_icmp .ge 30, 3, [98]), (167, .iload_n 2, 1, []), (168, .aload_n 0, 1, []), (169, .getfield 7, 3, [0, 9, 0]), (172, .sipush 218, 3, []), (175, .iload_n 3, 1, []), (176, .iadd, 1, []), (177, .iaload, 1, []), (178, .ifCond .ge 7, 3, [93]), (181, .iconst 0, 1, []), (182, .goto 4, 3, [94]), (185, .iconst 1, 1, []), (186, .iadd, 1, []), (187, .istore_n 2, 1, []), (188, .iinc 3 1, 3, []), (191, .goto (-30), 3, [80]), (194, .iload_n 2, 1, []), (195, .ireturn, 1, [0]), (196, .aload_n 0, 1, []), (197, .ldc 40, 2, [0, -1000001]), (199, .invokevirtual 57, 3, [1, 127, 1, 9]), (202, .ireturn, 1, [0])]
def xt_210 : List xa_E := [(0, .iload_n 1, 1, []), (1, .i2l, 1, []), (2, .ldc2_w 152, 3, [-1]), (5, .ldc2_w 73, 3, [6]), (8, .invokestatic 43, 3, [0, 126, 3]), (11, .ifCond .ne 10, 3, [10]), (14, .aload_n 0, 1, []), (15, .ldc 40, 2, [0, -1000001]), (17, .invokevirtual 57, 3, [1, 127, 1, 9]), (20, .ireturn, 1, [0]), (21, .iconst 0, 1, []), (22, .istore_n 2, 1, []), (23, .iconst 0, 1, []), (24, .istore_n 3, 1, []), (25, .iload_n 3, 1, []), (26, .bipush 7, 2, []), (28, .if_icmp .ge 31, 3, [33]), (31, .iload_n 2, 1, []), (32, .iload_n 1, 1, []), (33, .ifCond .lt 8, 3, [23]), (36, .iload_n 3, 1, []), (37, .iload_n 1, 1, []), (38, .if_icmp .ne 12, 3, [28]), (41, .aload_n 0, 1, []), (42, .getfield 19, 3, [0, 9, 3]), (45, .iload_n 3, 1, []), (46, .iaload, 1, []), (47, .goto 4, 3, [29]), (50, .iconst 0, 1, []), (51, .iadd, 1, []), (52, .istore_n 2, 1, []), (53, .iinc 3 1, 3, []), (56, .goto (-31), 3, [14]), (59, .iload_n 2, 1, []), (60, .ireturn, 1, [0])]
def xt_211 : List xa_E := [(0, .iload_n 0, 1, []), (1, .iload_n 0, 1, []), (2, .iconst 1, 1, []), (3, .iushr, 1, []), (4, .ldc_w 265, 3, [0, 1431655765]), (7, .iand, 1, []), (8, .isub, 1, []), (9, .istore_n 0, 1, []), (10, .iload_n 0, 1, []), (11, .ldc_w 266, 3, [0, 858993459]), (14, .iand, 1, []), (15, .iload_n 0, 1, []), (16, .iconst 2, 1, []), (17, .iushr, 1, []), (18, .ldc_w 266, 3, [0, 858993459]), (21, .iand, 1, []), (22, .iadd, 1, []), (23, .istore_n 0, 1, []), (24, .iload_n 0, 1, []), (25, .iload_n 0, 1, []), (26, .iconst 4, 1, []), (27, .iushr, 1, []), (28, .iadd, 1, []), (29, .ldc_w 267, 3, [0, 252645135]), (32, .iand, 1, []), (33, .istore_n 0, 1, []), (34, .iload_n 0, 1, []), (35, .iload_n 0, 1, []), (36, .bipush 8, 2, []), (38, .iushr, 1, []), (39, .iadd, 1, []), (40, .istore_n 0, 1, []), (41, .iload_n 0, 1, []), (42, .iload_n 0, 1, []), (43, .bipush 16, 2, []), (45, .iushr, 1, []), (46, .iadd, 1, []), (47, .istore_n 0, 1, []), (48, .iload_n 0, 1, []), (49, .bipush 63, 2, []), (51, .iand, 1, []), (52, .ireturn, 1, [0])]
def xt_212 : List xa_E := [(0, .aload_n 0, 1, []), (1, .getfield 9, 3, [1, 1]), (4, .arraylength, 1, []), (5, .aload_n 0, 1, []), (6, .invokevirtual 335, 3, [10, 214, 0, 0]), (9, .ishr, 1, []), (10, .ireturn, 1, [0])]
def xt_213 : List xa_E := [(0, .aload_n 0, 1, []), (1, .invokevirtual 492, 3, [10, 215, 0, 0]), (4, .ifCond .eq 12, 3, [8]), (7, .aload_n 0, 1, []), (8, .getfield 9, 3, [1, 1]), (11, .iload_n 1, 1, []), (12, .invokestatic 495, 3, [0, 217, 2]), (15, .ireturn, 1, [4]), (16, .aload_n 0, 1, []), (17, .getfield 9, 3, [1, 1]), (20, .iload_n 1, 1, []), (21, .invokestatic 498, 3, []), (24, .ireturn, 1, [4])]
def xt_214 : List xa_E := [(0, .getstatic 38, 3, [1, 1]), (3, .ifCond .eq 10, 3, [5]), (6, .aload_n 0, 1, []), (7, .getfield 15, 3, [1, 0]), (10, .goto 4, 3, [6]), (13, .iconst 1, 1, []), (14, .ireturn, 1, [3])]
def xt_215 : List xa_E := [(0, .getstatic 38, 3, [1, 1]), (3, .ifCond .eq 14, 3, [7]), (6, .aload_n 0, 1, []), (7, .getfield 15, 3, [1, 0]), (10, .ifCond .ne 7, 3, [7]), (13, .iconst 1, 1, []), (14, .goto 4, 3, [8]), (17, .iconst 0, 1, []), (18, .ireturn, 1, [1])]
def xt_216 : List xa_E := [(0, .iload_n 0, 1, []), (1, .iload_n 1, 1, []), (2, .getstatic 1053, 3, [0, 3]), (5, .invokestatic 1059, 3, [0, 218, 3]), (8, .pop, 1, []), (9, .return_, 1, [])]
def xt_217 : List xa_E := [(0, .iload_n 1, 1, []), (1, .aload_n 0, 1, []), (2, .arraylength, 1, []), (3, .invokestatic 9, 3, [0, 216, 2]), (6, .aload_n 0, 1, []), (7, .iload_n 1, 1, []), (8, .baload, 1, []), (9, .sipush 255, 3, []), (12, .iand, 1, []), (13, .i2c, 1, []), (14, .ireturn, 1, [4])]
def xt_218 : List xa_E := [(0, .iload_n 0, 1, []), (1, .ifCond .lt 8, 3, [5]), (4, .iload_n 0, 1, []), (5, .iload_n 1, 1, []), (6, .if_icmp .lt 10, 3, [10]), (9, .aload_n 2, 1, []), (10, .iload_n 0, 1, []), (11, .iload_n 1, 1, []), (12, .invokestatic 95, 3, []), (15, .athrow, 1, []), (16, .iload_n 0, 1, []), (17, .ireturn, 1, [0])]
def xt_219_0 : List xa_E := [(0, .new 7, 3, [8]), (3, .dup, 1, []), (4, .invokespecial 9, 3, [2, 58, 0, 8]), (7, .astore_n 1, 1, []), (8, .new 10, 3, [9]), (11, .dup, 1, []), (12, .invokespecial 12, 3, [2, 125, 0, 9]), (15, .astore_n 2, 1, []), (16, .iconst 0, 1, []), (17, .istore_n 3, 1, []), (18, .iload_n 3, 1, []), (19, .aload_n 0, 1, []), (20, .arraylength, 1, []), (21, .bipush 6, 2, []), (23, .isub, 1, []), (24, .if_icmp .gt 1727, 3, [1283]), (27, .aload_n 0, 1, []), (28, .iload_n 3, 1, []), (29, .iaload, 1, []), (30, .bipush 63, 2, []), (32, .iand, 1, []), (33, .tableswitch 1712 0 42 #[187, 210, 253, 302, 355, 398, 441, 474, 517, 550, 593, 626, 659, 702, 725, 768, 801, 834, 877, 910, 963, 1006, 1049, 1072, 1105, 1148, 1191, 1234, 1257, 1290, 1303, 1316, 1359, 1392, 1435, 1478, 1541, 1584, 1627, 1640, 1653, 1666, 1689], 187, [1281, 22, 39, 76, 111, 158, 195, 232, 259, 296, 323, 360, 387, 414, 451, 468, 505, 532, 559, 596, 623, 670, 707, 744, 761, 788, 825, 862, 899, 916, 943, 950, 957, 994, 1021, 1058, 1095, 1152, 1189, 1226, 1233, 1240, 1247, 1264]), (220, .aload_n 1, 1, []), (221, .aload_n 0, 1, []), (222, .iload_n 3, 1, []), (223, .iconst 1, 1, []), (224, .iadd, 1, []), (225, .iaload, 1, []), (226, .invokevirtual 13, 3, [1, 59, 1, 8]), (229, .aload_n 2, 1, []), (230, .aload_n 0, 1, []), (231, .iload_n 3, 1, []), (232, .iconst 1, 1, []), (233, .iadd, 1, []), (234, .iaload, 1, []), (235, .invokevirtual 17, 3, [1, 135, 1, 9]), (238, .if_icmp .eq 1507, 3, [1281]), (241, .iconst 0, 1, []), (242, .ireturn, 1, [1]), (243, .aload_n 1, 1, []), (244, .aload_n 0, 1, []), (245, .iload_n 3, 1, []), (246, .iconst 1, 1, []), (247, .iadd, 1, []), (248, .iaload, 1, []), (249, .aload_n 0, 1, []), (250, .iload_n 3, 1, []), (251, .iconst 2, 1, []), (252, .iadd, 1, []), (253, .iaload, 1, []), (254, .aload_n 0, 1, []), (255, .iload_n 3, 1, []), (256, .iconst 3, 1, []), (257, .iadd, 1, []), (258, .iaload, 1, []), (259, .invokevirtual 18, 3, [1, 60, 3, 8]), (262, .aload_n 2, 1, []), (263, .aload_n 0, 1, []), (264, .iload_n 3, 1, []), (265, .iconst 1, 1, []), (266, .iadd, 1, []), (267, .iaload, 1, []), (268, .aload_n 0, 1, []), (269, .iload_n 3, 1, []), (270, .iconst 2, 1, []), (271, .iadd, 1, []), (272, .iaload, 1, []), (273, .aload_n 0, 1, []), (274, .iload_n 3, 1, []), (275, .iconst 3, 1, []), (276, .iadd, 1, []), (277, .iaload, 1, []), (278, .invokevirtual 22, 3, [1, 136, 3, 9]), (281, .if_icmp .eq 1464, 3, [1281]), (284, .iconst 0, 1, []), (285, .ireturn, 1, [1]), (286, .aload_n 1, 1, []), (287, .aload_n 0, 1, []), (288, .iload_n 3, 1, []), (289, .iconst 1, 1, []), (290, .iadd, 1, []), (291, .iaload, 1, []), (292, .aload_n 0, 1, []), (293, .iload_n 3, 1, []), (294, .iconst 2, 1, []), (295, .iadd, 1, []), (296, .iaload, 1, []), (297, .ifCond .eq 7, 3, [90]), (300, .iconst 1, 1, []), (301, .goto 4, 3, [91]), (304, .iconst 0, 1, []), (305, .invokevirtual 23, 3, [1, 61, 2, 8]), (308, .aload_n 2, 1, []), (309, .aload_n 0, 1, []), (310, .iload_n 3, 1, []), (311, .iconst 1, 1, []), (312, .iadd, 1, []), (313, .iaload, 1, []), (314, .aload_n 0, 1, []), (315, .iload_n 3, 1, []), (316, .iconst 2, 1, []), (317, .iadd, 1, []), (318, .iaload, 1, []), (319, .ifCond .eq 7, 3, [106]), (322, .iconst 1, 1, []), (323, .goto 4, 3, [107]), (326, .iconst 0, 1, []), (327, .invokevirtual 27, 3, [1, 137, 2, 9]), (330, .if_icmp .eq 1415, 3, [1281]), (333, .iconst 0, 1, []), (334, .ireturn, 1, [1]), (335, .aload_n 1, 1, []), (336, .aload_n 0, 1, []), (337, .iload_n 3, 1, []), (338, .iconst 1, 1, []), (339, .iadd, 1, []), (340, .iaload, 1, []), (341, .aload_n 0, 1, []), (342, .iload_n 3, 1, []), (343, .iconst 2, 1, []), (344, .iadd, 1, []), (345, .iaload, 1, []), (346, .aload_n 0, 1, []), (347, .iload_n 3, 1, []), (348, .iconst 3, 1, []), (349, .iadd, 1, []), (350, .iaload, 1, []), (351, .aload_n 0, 1, []), (352, .iload_n 3, 1, []), (353, .iconst 4, 1, [])]
def xt_219_1 : List xa_E := [(354, .iadd, 1, []), (355, .iaload, 1, []), (356, .invokevirtual 28, 3, [1, 62, 4, 8]), (359, .aload_n 2, 1, []), (360, .aload_n 0, 1, []), (361, .iload_n 3, 1, []), (362, .iconst 1, 1, []), (363, .iadd, 1, []), (364, .iaload, 1, []), (365, .aload_n 0, 1, []), (366, .iload_n 3, 1, []), (367, .iconst 2, 1, []), (368, .iadd, 1, []), (369, .iaload, 1, []), (370, .aload_n 0, 1, []), (371, .iload_n 3, 1, []), (372, .iconst 3, 1, []), (373, .iadd, 1, []), (374, .iaload, 1, []), (375, .aload_n 0, 1, []), (376, .iload_n 3, 1, []), (377, .iconst 4, 1, []), (378, .iadd, 1, []), (379, .iaload, 1, []), (380, .invokevirtual 32, 3, [1, 139, 4, 9]), (383, .if_icmp .eq 1362, 3, [1281]), (386, .iconst 0, 1, []), (387, .ireturn, 1, [1]), (388, .aload_n 1, 1, []), (389, .aload_n 0, 1, []), (390, .iload_n 3, 1, []), (391, .iconst 1, 1, []), (392, .iadd, 1, []), (393, .iaload, 1, []), (394, .aload_n 0, 1, []), (395, .iload_n 3, 1, []), (396, .iconst 2, 1, []), (397, .iadd, 1, []), (398, .iaload, 1, []), (399, .aload_n 0, 1, []), (400, .iload_n 3, 1, []), (401, .iconst 3, 1, []), (402, .iadd, 1, []), (403, .iaload, 1, []), (404, .invokevirtual 33, 3, [1, 63, 3, 8]), (407, .aload_n 2, 1, []), (408, .aload_n 0, 1, []), (409, .iload_n 3, 1, []), (410, .iconst 1, 1, []), (411, .iadd, 1, []), (412, .iaload, 1, []), (413, .aload_n 0, 1, []), (414, .iload_n 3, 1, []), (415, .iconst 2, 1, []), (416, .iadd, 1, []), (417, .iaload, 1, []), (418, .aload_n 0, 1, []), (419, .iload_n 3, 1, []), (420, .iconst 3, 1, []), (421, .iadd, 1, []), (422, .iaload, 1, []), (423, .invokevirtual 36, 3, [1, 141, 3, 9]), (426, .if_icmp .eq 1319, 3, [1281]), (429, .iconst 0, 1, []), (430, .ireturn, 1, [1]), (431, .aload_n 1, 1, []), (432, .aload_n 0, 1, []), (433, .iload_n 3, 1, []), (434, .iconst 1, 1, []), (435, .iadd, 1, []), (436, .iaload, 1, []), (437, .aload_n 0, 1, []), (438, .iload_n 3, 1, []), (439, .iconst 2, 1, []), (440, .iadd, 1, []), (441, .iaload, 1, []), (442, .aload_n 0, 1, []), (443, .iload_n 3, 1, []), (444, .iconst 3, 1, []), (445, .iadd, 1, []), (446, .iaload, 1, []), (447, .invokevirtual 37, 3, [1, 64, 3, 8]), (450, .aload_n 2, 1, []), (451, .aload_n 0, 1, []), (452, .iload_n 3, 1, []), (453, .iconst 1, 1, []), (454, .iadd, 1, []), (455, .iaload, 1, []), (456, .aload_n 0, 1, []), (457, .iload_n 3, 1, []), (458, .iconst 2, 1, []), (459, .iadd, 1, []), (460, .iaload, 1, []), (461, .aload_n 0, 1, []), (462, .iload_n 3, 1, []), (463, .iconst 3, 1, []), (464, .iadd, 1, []), (465, .iaload, 1, []), (466, .invokevirtual 40, 3, [1, 142, 3, 9]), (469, .if_icmp .eq 1276, 3, [1281]), (472, .iconst 0, 1, []), (473, .ireturn, 1, [1]), (474, .aload_n 1, 1, []), (475, .aload_n 0, 1, []), (476, .iload_n 3, 1, []), (477, .iconst 1, 1, []), (478, .iadd, 1, []), (479, .iaload, 1, []), (480, .aload_n 0, 1, []), (481, .iload_n 3, 1, []), (482, .iconst 2, 1, []), (483, .iadd, 1, []), (484, .iaload, 1, []), (485, .invokevirtual 41, 3, [1, 65, 2, 8]), (488, .aload_n 2, 1, []), (489, .aload_n 0, 1, []), (490, .iload_n 3, 1, []), (491, .iconst 1, 1, []), (492, .iadd, 1, []), (493, .iaload, 1, []), (494, .aload_n 0, 1, []), (495, .iload_n 3, 1, []), (496, .iconst 2, 1, []), (497, .iadd, 1, []), (498, .iaload, 1, []), (499, .invokevirtual 45, 3, [1, 143, 2, 9]), (502, .if_icmp .eq 1243, 3, [1281]), (505, .iconst 0, 1, []), (506, .ireturn, 1, [1]), (507, .aload_n 1, 1, [])]
def xt_219_2 : List xa_E := [(508, .aload_n 0, 1, []), (509, .iload_n 3, 1, []), (510, .iconst 1, 1, []), (511, .iadd, 1, []), (512, .iaload, 1, []), (513, .aload_n 0, 1, []), (514, .iload_n 3, 1, []), (515, .iconst 2, 1, []), (516, .iadd, 1, []), (517, .iaload, 1, []), (518, .aload_n 0, 1, []), (519, .iload_n 3, 1, []), (520, .iconst 3, 1, []), (521, .iadd, 1, []), (522, .iaload, 1, []), (523, .invokevirtual 46, 3, [1, 66, 3, 8]), (526, .aload_n 2, 1, []), (527, .aload_n 0, 1, []), (528, .iload_n 3, 1, []), (529, .iconst 1, 1, []), (530, .iadd, 1, []), (531, .iaload, 1, []), (532, .aload_n 0, 1, []), (533, .iload_n 3, 1, []), (534, .iconst 2, 1, []), (535, .iadd, 1, []), (536, .iaload, 1, []), (537, .aload_n 0, 1, []), (538, .iload_n 3, 1, []), (539, .iconst 3, 1, []), (540, .iadd, 1, []), (541, .iaload, 1, []), (542, .invokevirtual 49, 3, [1, 145, 3, 9]), (545, .if_icmp .eq 1200, 3, [1281]), (548, .iconst 0, 1, []), (549, .ireturn, 1, [1]), (550, .aload_n 1, 1, []), (551, .aload_n 0, 1, []), (552, .iload_n 3, 1, []), (553, .iconst 1, 1, []), (554, .iadd, 1, []), (555, .iaload, 1, []), (556, .aload_n 0, 1, []), (557, .iload_n 3, 1, []), (558, .iconst 2, 1, []), (559, .iadd, 1, []), (560, .iaload, 1, []), (561, .invokevirtual 50, 3, [1, 67, 2, 8]), (564, .aload_n 2, 1, []), (565, .aload_n 0, 1, []), (566, .iload_n 3, 1, []), (567, .iconst 1, 1, []), (568, .iadd, 1, []), (569, .iaload, 1, []), (570, .aload_n 0, 1, []), (571, .iload_n 3, 1, []), (572, .iconst 2, 1, []), (573, .iadd, 1, []), (574, .iaload, 1, []), (575, .invokevirtual 53, 3, [1, 150, 2, 9]), (578, .if_icmp .eq 1167, 3, [1281]), (581, .iconst 0, 1, []), (582, .ireturn, 1, [1]), (583, .aload_n 1, 1, []), (584, .aload_n 0, 1, []), (585, .iload_n 3, 1, []), (586, .iconst 1, 1, []), (587, .iadd, 1, []), (588, .iaload, 1, []), (589, .aload_n 0, 1, []), (590, .iload_n 3, 1, []), (591, .iconst 2, 1, []), (592, .iadd, 1, []), (593, .iaload, 1, []), (594, .aload_n 0, 1, []), (595, .iload_n 3, 1, []), (596, .iconst 3, 1, []), (597, .iadd, 1, []), (598, .iaload, 1, []), (599, .invokevirtual 54, 3, [1, 68, 3, 8]), (602, .aload_n 2, 1, []), (603, .aload_n 0, 1, []), (604, .iload_n 3, 1, []), (605, .iconst 1, 1, []), (606, .iadd, 1, []), (607, .iaload, 1, []), (608, .aload_n 0, 1, []), (609, .iload_n 3, 1, []), (610, .iconst 2, 1, []), (611, .iadd, 1, []), (612, .iaload, 1, []), (613, .aload_n 0, 1, []), (614, .iload_n 3, 1, []), (615, .iconst 3, 1, []), (616, .iadd, 1, []), (617, .iaload, 1, []), (618, .invokevirtual 57, 3, [1, 151, 3, 9]), (621, .if_icmp .eq 1124, 3, [1281]), (624, .iconst 0, 1, []), (625, .ireturn, 1, [1]), (626, .aload_n 1, 1, []), (627, .aload_n 0, 1, []), (628, .iload_n 3, 1, []), (629, .iconst 1, 1, []), (630, .iadd, 1, []), (631, .iaload, 1, []), (632, .aload_n 0, 1, []), (633, .iload_n 3, 1, []), (634, .iconst 2, 1, []), (635, .iadd, 1, []), (636, .iaload, 1, []), (637, .invokevirtual 58, 3, [1, 69, 2, 8]), (640, .aload_n 2, 1, []), (641, .aload_n 0, 1, []), (642, .iload_n 3, 1, []), (643, .iconst 1, 1, []), (644, .iadd, 1, []), (645, .iaload, 1, []), (646, .aload_n 0, 1, []), (647, .iload_n 3, 1, []), (648, .iconst 2, 1, []), (649, .iadd, 1, []), (650, .iaload, 1, []), (651, .invokevirtual 61, 3, [1, 152, 2, 9]), (654, .if_icmp .eq 1091, 3, [1281]), (657, .iconst 0, 1, []), (658, .ireturn, 1, [1]), (659, .aload_n 1, 1, []), (660, .aload_n 0, 1, []), (661, .iload_n 3, 1, [])]
def xt_219_3 : List xa_E := [(662, .iconst 1, 1, []), (663, .iadd, 1, []), (664, .iaload, 1, []), (665, .aload_n 0, 1, []), (666, .iload_n 3, 1, []), (667, .iconst 2, 1, []), (668, .iadd, 1, []), (669, .iaload, 1, []), (670, .invokevirtual 62, 3, [1, 70, 2, 8]), (673, .aload_n 2, 1, []), (674, .aload_n 0, 1, []), (675, .iload_n 3, 1, []), (676, .iconst 1, 1, []), (677, .iadd, 1, []), (678, .iaload, 1, []), (679, .aload_n 0, 1, []), (680, .iload_n 3, 1, []), (681, .iconst 2, 1, []), (682, .iadd, 1, []), (683, .iaload, 1, []), (684, .invokevirtual 65, 3, [1, 158, 2, 9]), (687, .if_icmp .eq 1058, 3, [1281]), (690, .iconst 0, 1, []), (691, .ireturn, 1, [1]), (692, .aload_n 1, 1, []), (693, .aload_n 0, 1, []), (694, .iload_n 3, 1, []), (695, .iconst 1, 1, []), (696, .iadd, 1, []), (697, .iaload, 1, []), (698, .aload_n 0, 1, []), (699, .iload_n 3, 1, []), (700, .iconst 2, 1, []), (701, .iadd, 1, []), (702, .iaload, 1, []), (703, .aload_n 0, 1, []), (704, .iload_n 3, 1, []), (705, .iconst 3, 1, []), (706, .iadd, 1, []), (707, .iaload, 1, []), (708, .invokevirtual 66, 3, [1, 71, 3, 8]), (711, .aload_n 2, 1, []), (712, .aload_n 0, 1, []), (713, .iload_n 3, 1, []), (714, .iconst 1, 1, []), (715, .iadd, 1, []), (716, .iaload, 1, []), (717, .aload_n 0, 1, []), (718, .iload_n 3, 1, []), (719, .iconst 2, 1, []), (720, .iadd, 1, []), (721, .iaload, 1, []), (722, .aload_n 0, 1, []), (723, .iload_n 3, 1, []), (724, .iconst 3, 1, []), (725, .iadd, 1, []), (726, .iaload, 1, []), (727, .invokevirtual 69, 3, [1, 159, 3, 9]), (730, .if_icmp .eq 1015, 3, [1281]), (733, .iconst 0, 1, []), (734, .ireturn, 1, [1]), (735, .aload_n 1, 1, []), (736, .aload_n 0, 1, []), (737, .iload_n 3, 1, []), (738, .iconst 1, 1, []), (739, .iadd, 1, []), (740, .iaload, 1, []), (741, .invokevirtual 70, 3, [1, 72, 1, 8]), (744, .aload_n 2, 1, []), (745, .aload_n 0, 1, []), (746, .iload_n 3, 1, []), (747, .iconst 1, 1, []), (748, .iadd, 1, []), (749, .iaload, 1, []), (750, .invokevirtual 73, 3, [1, 160, 1, 9]), (753, .if_icmp .eq 992, 3, [1281]), (756, .iconst 0, 1, []), (757, .ireturn, 1, [1]), (758, .aload_n 1, 1, []), (759, .aload_n 0, 1, []), (760, .iload_n 3, 1, []), (761, .iconst 1, 1, []), (762, .iadd, 1, []), (763, .iaload, 1, []), (764, .aload_n 0, 1, []), (765, .iload_n 3, 1, []), (766, .iconst 2, 1, []), (767, .iadd, 1, []), (768, .iaload, 1, []), (769, .aload_n 0, 1, []), (770, .iload_n 3, 1, []), (771, .iconst 3, 1, []), (772, .iadd, 1, []), (773, .iaload, 1, []), (774, .invokevirtual 74, 3, [1, 73, 3, 8]), (777, .aload_n 2, 1, []), (778, .aload_n 0, 1, []), (779, .iload_n 3, 1, []), (780, .iconst 1, 1, []), (781, .iadd, 1, []), (782, .iaload, 1, []), (783, .aload_n 0, 1, []), (784, .iload_n 3, 1, []), (785, .iconst 2, 1, []), (786, .iadd, 1, []), (787, .iaload, 1, []), (788, .aload_n 0, 1, []), (789, .iload_n 3, 1, []), (790, .iconst 3, 1, []), (791, .iadd, 1, []), (792, .iaload, 1, []), (793, .invokevirtual 77, 3, [1, 161, 3, 9]), (796, .if_icmp .eq 949, 3, [1281]), (799, .iconst 0, 1, []), (800, .ireturn, 1, [1]), (801, .aload_n 1, 1, []), (802, .aload_n 0, 1, []), (803, .iload_n 3, 1, []), (804, .iconst 1, 1, []), (805, .iadd, 1, []), (806, .iaload, 1, []), (807, .aload_n 0, 1, []), (808, .iload_n 3, 1, []), (809, .iconst 2, 1, []), (810, .iadd, 1, []), (811, .iaload, 1, []), (812, .invokevirtual 78, 3, [1, 74, 2, 8]), (815, .aload_n 2, 1, []), (816, .aload_n 0, 1, []), (817, .iload_n 3, 1, [])]
def xt_219_4 : List xa_E := [(818, .iconst 1, 1, []), (819, .iadd, 1, []), (820, .iaload, 1, []), (821, .aload_n 0, 1, []), (822, .iload_n 3, 1, []), (823, .iconst 2, 1, []), (824, .iadd, 1, []), (825, .iaload, 1, []), (826, .invokevirtual 81, 3, [1, 162, 2, 9]), (829, .if_icmp .eq 916, 3, [1281]), (832, .iconst 0, 1, []), (833, .ireturn, 1, [1]), (834, .aload_n 1, 1, []), (835, .aload_n 0, 1, []), (836, .iload_n 3, 1, []), (837, .iconst 1, 1, []), (838, .iadd, 1, []), (839, .iaload, 1, []), (840, .aload_n 0, 1, []), (841, .iload_n 3, 1, []), (842, .iconst 2, 1, []), (843, .iadd, 1, []), (844, .iaload, 1, []), (845, .invokevirtual 82, 3, [1, 75, 2, 8]), (848, .aload_n 2, 1, []), (849, .aload_n 0, 1, []), (850, .iload_n 3, 1, []), (851, .iconst 1, 1, []), (852, .iadd, 1, []), (853, .iaload, 1, []), (854, .aload_n 0, 1, []), (855, .iload_n 3, 1, []), (856, .iconst 2, 1, []), (857, .iadd, 1, []), (858, .iaload, 1, []), (859, .invokevirtual 85, 3, [1, 163, 2, 9]), (862, .if_icmp .eq 883, 3, [1281]), (865, .iconst 0, 1, []), (866, .ireturn, 1, [1]), (867, .aload_n 1, 1, []), (868, .aload_n 0, 1, []), (869, .iload_n 3, 1, []), (870, .iconst 1, 1, []), (871, .iadd, 1, []), (872, .iaload, 1, []), (873, .aload_n 0, 1, []), (874, .iload_n 3, 1, []), (875, .iconst 2, 1, []), (876, .iadd, 1, []), (877, .iaload, 1, []), (878, .aload_n 0, 1, []), (879, .iload_n 3, 1, []), (880, .iconst 3, 1, []), (881, .iadd, 1, []), (882, .iaload, 1, []), (883, .invokevirtual 86, 3, [1, 76, 3, 8]), (886, .aload_n 2, 1, []), (887, .aload_n 0, 1, []), (888, .iload_n 3, 1, []), (889, .iconst 1, 1, []), (890, .iadd, 1, []), (891, .iaload, 1, []), (892, .aload_n 0, 1, []), (893, .iload_n 3, 1, []), (894, .iconst 2, 1, []), (895, .iadd, 1, []), (896, .iaload, 1, []), (897, .aload_n 0, 1, []), (898, .iload_n 3, 1, []), (899, .iconst 3, 1, []), (900, .iadd, 1, []), (901, .iaload, 1, []), (902, .invokevirtual 89, 3, [1, 164, 3, 9]), (905, .if_icmp .eq 840, 3, [1281]), (908, .iconst 0, 1, []), (909, .ireturn, 1, [1]), (910, .aload_n 1, 1, []), (911, .aload_n 0, 1, []), (912, .iload_n 3, 1, []), (913, .iconst 1, 1, []), (914, .iadd, 1, []), (915, .iaload, 1, []), (916, .aload_n 0, 1, []), (917, .iload_n 3, 1, []), (918, .iconst 2, 1, []), (919, .iadd, 1, []), (920, .iaload, 1, []), (921, .invokevirtual 90, 3, [1, 77, 2, 8]), (924, .aload_n 2, 1, []), (925, .aload_n 0, 1, []), (926, .iload_n 3, 1, []), (927, .iconst 1, 1, []), (928, .iadd, 1, []), (929, .iaload, 1, []), (930, .aload_n 0, 1, []), (931, .iload_n 3, 1, []), (932, .iconst 2, 1, []), (933, .iadd, 1, []), (934, .iaload, 1, []), (935, .invokevirtual 93, 3, [1, 166, 2, 9]), (938, .if_icmp .eq 807, 3, [1281]), (941, .iconst 0, 1, []), (942, .ireturn, 1, [1]), (943, .aload_n 1, 1, []), (944, .aload_n 0, 1, []), (945, .iload_n 3, 1, []), (946, .iconst 1, 1, []), (947, .iadd, 1, []), (948, .iaload, 1, []), (949, .aload_n 0, 1, []), (950, .iload_n 3, 1, []), (951, .iconst 2, 1, []), (952, .iadd, 1, []), (953, .iaload, 1, []), (954, .aload_n 0, 1, []), (955, .iload_n 3, 1, []), (956, .iconst 3, 1, []), (957, .iadd, 1, []), (958, .iaload, 1, []), (959, .aload_n 0, 1, []), (960, .iload_n 3, 1, []), (961, .iconst 4, 1, []), (962, .iadd, 1, []), (963, .iaload, 1, []), (964, .invokevirtual 94, 3, [1, 78, 4, 8]), (967, .aload_n 2, 1, []), (968, .aload_n 0, 1, []), (969, .iload_n 3, 1, []), (970, .iconst 1, 1, []), (971, .iadd, 1, [])]
def xt_219_5 : List xa_E := [(972, .iaload, 1, []), (973, .aload_n 0, 1, []), (974, .iload_n 3, 1, []), (975, .iconst 2, 1, []), (976, .iadd, 1, []), (977, .iaload, 1, []), (978, .aload_n 0, 1, []), (979, .iload_n 3, 1, []), (980, .iconst 3, 1, []), (981, .iadd, 1, []), (982, .iaload, 1, []), (983, .aload_n 0, 1, []), (984, .iload_n 3, 1, []), (985, .iconst 4, 1, []), (986, .iadd, 1, []), (987, .iaload, 1, []), (988, .invokevirtual 97, 3, [1, 169, 4, 9]), (991, .if_icmp .eq 754, 3, [1281]), (994, .iconst 0, 1, []), (995, .ireturn, 1, [1]), (996, .aload_n 1, 1, []), (997, .aload_n 0, 1, []), (998, .iload_n 3, 1, []), (999, .iconst 1, 1, []), (1000, .iadd, 1, []), (1001, .iaload, 1, []), (1002, .aload_n 0, 1, []), (1003, .iload_n 3, 1, []), (1004, .iconst 2, 1, []), (1005, .iadd, 1, []), (1006, .iaload, 1, []), (1007, .aload_n 0, 1, []), (1008, .iload_n 3, 1, []), (1009, .iconst 3, 1, []), (1010, .iadd, 1, []), (1011, .iaload, 1, []), (1012, .invokevirtual 98, 3, [1, 79, 3, 8]), (1015, .aload_n 2, 1, []), (1016, .aload_n 0, 1, []), (1017, .iload_n 3, 1, []), (1018, .iconst 1, 1, []), (1019, .iadd, 1, []), (1020, .iaload, 1, []), (1021, .aload_n 0, 1, []), (1022, .iload_n 3, 1, []), (1023, .iconst 2, 1, []), (1024, .iadd, 1, []), (1025, .iaload, 1, []), (1026, .aload_n 0, 1, []), (1027, .iload_n 3, 1, []), (1028, .iconst 3, 1, []), (1029, .iadd, 1, []), (1030, .iaload, 1, []), (1031, .invokevirtual 101, 3, [1, 170, 3, 9]), (1034, .if_icmp .eq 711, 3, [1281]), (1037, .iconst 0, 1, []), (1038, .ireturn, 1, [1]), (1039, .aload_n 1, 1, []), (1040, .aload_n 0, 1, []), (1041, .iload_n 3, 1, []), (1042, .iconst 1, 1, []), (1043, .iadd, 1, []), (1044, .iaload, 1, []), (1045, .aload_n 0, 1, []), (1046, .iload_n 3, 1, []), (1047, .iconst 2, 1, []), (1048, .iadd, 1, []), (1049, .iaload, 1, []), (1050, .aload_n 0, 1, []), (1051, .iload_n 3, 1, []), (1052, .iconst 3, 1, []), (1053, .iadd, 1, []), (1054, .iaload, 1, []), (1055, .invokevirtual 102, 3, [1, 80, 3, 8]), (1058, .aload_n 2, 1, []), (1059, .aload_n 0, 1, []), (1060, .iload_n 3, 1, []), (1061, .iconst 1, 1, []), (1062, .iadd, 1, []), (1063, .iaload, 1, []), (1064, .aload_n 0, 1, []), (1065, .iload_n 3, 1, []), (1066, .iconst 2, 1, []), (1067, .iadd, 1, []), (1068, .iaload, 1, []), (1069, .aload_n 0, 1, []), (1070, .iload_n 3, 1, []), (1071, .iconst 3, 1, []), (1072, .iadd, 1, []), (1073, .iaload, 1, []), (1074, .invokevirtual 105, 3, [1, 171, 3, 9]), (1077, .if_icmp .eq 668, 3, [1281]), (1080, .iconst 0, 1, []), (1081, .ireturn, 1, [1]), (1082, .aload_n 1, 1, []), (1083, .aload_n 0, 1, []), (1084, .iload_n 3, 1, []), (1085, .iconst 1, 1, []), (1086, .iadd, 1, []), (1087, .iaload, 1, []), (1088, .invokevirtual 106, 3, [1, 81, 1, 8]), (1091, .aload_n 2, 1, []), (1092, .aload_n 0, 1, []), (1093, .iload_n 3, 1, []), (1094, .iconst 1, 1, []), (1095, .iadd, 1, []), (1096, .iaload, 1, []), (1097, .invokevirtual 109, 3, [1, 174, 1, 9]), (1100, .if_icmp .eq 645, 3, [1281]), (1103, .iconst 0, 1, []), (1104, .ireturn, 1, [1]), (1105, .aload_n 1, 1, []), (1106, .aload_n 0, 1, []), (1107, .iload_n 3, 1, []), (1108, .iconst 1, 1, []), (1109, .iadd, 1, []), (1110, .iaload, 1, []), (1111, .aload_n 0, 1, []), (1112, .iload_n 3, 1, []), (1113, .iconst 2, 1, []), (1114, .iadd, 1, []), (1115, .iaload, 1, []), (1116, .invokevirtual 110, 3, [1, 82, 2, 8]), (1119, .aload_n 2, 1, []), (1120, .aload_n 0, 1, []), (1121, .iload_n 3, 1, []), (1122, .iconst 1, 1, []), (1123, .iadd, 1, []), (1124, .iaload, 1, []), (1125, .aload_n 0, 1, [])]
def xt_219_6 : List xa_E := [(1126, .iload_n 3, 1, []), (1127, .iconst 2, 1, []), (1128, .iadd, 1, []), (1129, .iaload, 1, []), (1130, .invokevirtual 113, 3, [1, 175, 2, 9]), (1133, .if_icmp .eq 612, 3, [1281]), (1136, .iconst 0, 1, []), (1137, .ireturn, 1, [1]), (1138, .aload_n 1, 1, []), (1139, .aload_n 0, 1, []), (1140, .iload_n 3, 1, []), (1141, .iconst 1, 1, []), (1142, .iadd, 1, []), (1143, .iaload, 1, []), (1144, .aload_n 0, 1, []), (1145, .iload_n 3, 1, []), (1146, .iconst 2, 1, []), (1147, .iadd, 1, []), (1148, .iaload, 1, []), (1149, .aload_n 0, 1, []), (1150, .iload_n 3, 1, []), (1151, .iconst 3, 1, []), (1152, .iadd, 1, []), (1153, .iaload, 1, []), (1154, .invokevirtual 114, 3, [1, 83, 3, 8]), (1157, .aload_n 2, 1, []), (1158, .aload_n 0, 1, []), (1159, .iload_n 3, 1, []), (1160, .iconst 1, 1, []), (1161, .iadd, 1, []), (1162, .iaload, 1, []), (1163, .aload_n 0, 1, []), (1164, .iload_n 3, 1, []), (1165, .iconst 2, 1, []), (1166, .iadd, 1, []), (1167, .iaload, 1, []), (1168, .aload_n 0, 1, []), (1169, .iload_n 3, 1, []), (1170, .iconst 3, 1, []), (1171, .iadd, 1, []), (1172, .iaload, 1, []), (1173, .invokevirtual 117, 3, [1, 176, 3, 9]), (1176, .if_icmp .eq 569, 3, [1281]), (1179, .iconst 0, 1, []), (1180, .ireturn, 1, [1]), (1181, .aload_n 1, 1, []), (1182, .aload_n 0, 1, []), (1183, .iload_n 3, 1, []), (1184, .iconst 1, 1, []), (1185, .iadd, 1, []), (1186, .iaload, 1, []), (1187, .aload_n 0, 1, []), (1188, .iload_n 3, 1, []), (1189, .iconst 2, 1, []), (1190, .iadd, 1, []), (1191, .iaload, 1, []), (1192, .aload_n 0, 1, []), (1193, .iload_n 3, 1, []), (1194, .iconst 3, 1, []), (1195, .iadd, 1, []), (1196, .iaload, 1, []), (1197, .invokevirtual 118, 3, [1, 84, 3, 8]), (1200, .aload_n 2, 1, []), (1201, .aload_n 0, 1, []), (1202, .iload_n 3, 1, []), (1203, .iconst 1, 1, []), (1204, .iadd, 1, []), (1205, .iaload, 1, []), (1206, .aload_n 0, 1, []), (1207, .iload_n 3, 1, []), (1208, .iconst 2, 1, []), (1209, .iadd, 1, []), (1210, .iaload, 1, []), (1211, .aload_n 0, 1, []), (1212, .iload_n 3, 1, []), (1213, .iconst 3, 1, []), (1214, .iadd, 1, []), (1215, .iaload, 1, []), (1216, .invokevirtual 121, 3, [1, 177, 3, 9]), (1219, .if_icmp .eq 526, 3, [1281]), (1222, .iconst 0, 1, []), (1223, .ireturn, 1, [1]), (1224, .aload_n 1, 1, []), (1225, .aload_n 0, 1, []), (1226, .iload_n 3, 1, []), (1227, .iconst 1, 1, []), (1228, .iadd, 1, []), (1229, .iaload, 1, []), (1230, .aload_n 0, 1, []), (1231, .iload_n 3, 1, []), (1232, .iconst 2, 1, []), (1233, .iadd, 1, []), (1234, .iaload, 1, []), (1235, .aload_n 0, 1, []), (1236, .iload_n 3, 1, []), (1237, .iconst 3, 1, []), (1238, .iadd, 1, []), (1239, .iaload, 1, []), (1240, .invokevirtual 122, 3, [1, 85, 3, 8]), (1243, .aload_n 2, 1, []), (1244, .aload_n 0, 1, []), (1245, .iload_n 3, 1, []), (1246, .iconst 1, 1, []), (1247, .iadd, 1, []), (1248, .iaload, 1, []), (1249, .aload_n 0, 1, []), (1250, .iload_n 3, 1, []), (1251, .iconst 2, 1, []), (1252, .iadd, 1, []), (1253, .iaload, 1, []), (1254, .aload_n 0, 1, []), (1255, .iload_n 3, 1, []), (1256, .iconst 3, 1, []), (1257, .iadd, 1, []), (1258, .iaload, 1, []), (1259, .invokevirtual 125, 3, [1, 178, 3, 9]), (1262, .if_icmp .eq 483, 3, [1281]), (1265, .iconst 0, 1, []), (1266, .ireturn, 1, [1]), (1267, .aload_n 1, 1, []), (1268, .aload_n 0, 1, []), (1269, .iload_n 3, 1, []), (1270, .iconst 1, 1, []), (1271, .iadd, 1, []), (1272, .iaload, 1, []), (1273, .invokevirtual 126, 3, [1, 86, 1, 8]), (1276, .aload_n 2, 1, []), (1277, .aload_n 0, 1, []), (1278, .iload_n 3, 1, []), (1279, .iconst 1, 1, [])]
def xt_219_7 : List xa_E := [(1280, .iadd, 1, []), (1281, .iaload, 1, []), (1282, .invokevirtual 129, 3, [1, 179, 1, 9]), (1285, .if_icmp .eq 460, 3, [1281]), (1288, .iconst 0, 1, []), (1289, .ireturn, 1, [1]), (1290, .aload_n 1, 1, []), (1291, .aload_n 0, 1, []), (1292, .iload_n 3, 1, []), (1293, .iconst 1, 1, []), (1294, .iadd, 1, []), (1295, .iaload, 1, []), (1296, .aload_n 0, 1, []), (1297, .iload_n 3, 1, []), (1298, .iconst 2, 1, []), (1299, .iadd, 1, []), (1300, .iaload, 1, []), (1301, .invokevirtual 130, 3, [1, 87, 2, 8]), (1304, .aload_n 2, 1, []), (1305, .aload_n 0, 1, []), (1306, .iload_n 3, 1, []), (1307, .iconst 1, 1, []), (1308, .iadd, 1, []), (1309, .iaload, 1, []), (1310, .aload_n 0, 1, []), (1311, .iload_n 3, 1, []), (1312, .iconst 2, 1, []), (1313, .iadd, 1, []), (1314, .iaload, 1, []), (1315, .invokevirtual 133, 3, [1, 180, 2, 9]), (1318, .if_icmp .eq 427, 3, [1281]), (1321, .iconst 0, 1, []), (1322, .ireturn, 1, [1]), (1323, .aload_n 1, 1, []), (1324, .invokevirtual 134, 3, [1, 88, 0, 8]), (1327, .aload_n 2, 1, []), (1328, .invokevirtual 138, 3, [1, 181, 0, 9]), (1331, .if_icmp .eq 414, 3, [1281]), (1334, .iconst 0, 1, []), (1335, .ireturn, 1, [1]), (1336, .aload_n 1, 1, []), (1337, .invokevirtual 139, 3, [1, 89, 0, 8]), (1340, .aload_n 2, 1, []), (1341, .invokevirtual 142, 3, [1, 194, 0, 9]), (1344, .if_icmp .eq 401, 3, [1281]), (1347, .iconst 0, 1, []), (1348, .ireturn, 1, [1]), (1349, .aload_n 1, 1, []), (1350, .aload_n 0, 1, []), (1351, .iload_n 3, 1, []), (1352, .iconst 1, 1, []), (1353, .iadd, 1, []), (1354, .iaload, 1, []), (1355, .aload_n 0, 1, []), (1356, .iload_n 3, 1, []), (1357, .iconst 2, 1, []), (1358, .iadd, 1, []), (1359, .iaload, 1, []), (1360, .aload_n 0, 1, []), (1361, .iload_n 3, 1, []), (1362, .iconst 3, 1, []), (1363, .iadd, 1, []), (1364, .iaload, 1, []), (1365, .invokevirtual 143, 3, [1, 90, 3, 8]), (1368, .aload_n 2, 1, []), (1369, .aload_n 0, 1, []), (1370, .iload_n 3, 1, []), (1371, .iconst 1, 1, []), (1372, .iadd, 1, []), (1373, .iaload, 1, []), (1374, .aload_n 0, 1, []), (1375, .iload_n 3, 1, []), (1376, .iconst 2, 1, []), (1377, .iadd, 1, []), (1378, .iaload, 1, []), (1379, .aload_n 0, 1, []), (1380, .iload_n 3, 1, []), (1381, .iconst 3, 1, []), (1382, .iadd, 1, []), (1383, .iaload, 1, []), (1384, .invokevirtual 146, 3, [1, 196, 3, 9]), (1387, .if_icmp .eq 358, 3, [1281]), (1390, .iconst 0, 1, []), (1391, .ireturn, 1, [1]), (1392, .aload_n 1, 1, []), (1393, .aload_n 0, 1, []), (1394, .iload_n 3, 1, []), (1395, .iconst 1, 1, []), (1396, .iadd, 1, []), (1397, .iaload, 1, []), (1398, .aload_n 0, 1, []), (1399, .iload_n 3, 1, []), (1400, .iconst 2, 1, []), (1401, .iadd, 1, []), (1402, .iaload, 1, []), (1403, .invokevirtual 147, 3, [1, 91, 2, 8]), (1406, .aload_n 2, 1, []), (1407, .aload_n 0, 1, []), (1408, .iload_n 3, 1, []), (1409, .iconst 1, 1, []), (1410, .iadd, 1, []), (1411, .iaload, 1, []), (1412, .aload_n 0, 1, []), (1413, .iload_n 3, 1, []), (1414, .iconst 2, 1, []), (1415, .iadd, 1, []), (1416, .iaload, 1, []), (1417, .invokevirtual 150, 3, [1, 197, 2, 9]), (1420, .if_icmp .eq 325, 3, [1281]), (1423, .iconst 0, 1, []), (1424, .ireturn, 1, [1]), (1425, .aload_n 1, 1, []), (1426, .aload_n 0, 1, []), (1427, .iload_n 3, 1, []), (1428, .iconst 1, 1, []), (1429, .iadd, 1, []), (1430, .iaload, 1, []), (1431, .aload_n 0, 1, []), (1432, .iload_n 3, 1, []), (1433, .iconst 2, 1, []), (1434, .iadd, 1, []), (1435, .iaload, 1, []), (1436, .aload_n 0, 1, []), (1437, .iload_n 3, 1, []), (1438, .iconst 3, 1, []), (1439, .iadd, 1, []), (1440, .iaload, 1, []), (1441, .invokevirtual 151, 3, [1, 92, 3, 8]), (1444, .aload_n 2, 1, []), (1445, .aload_n 0, 1, [])]
def xt_219_8 : List xa_E := [(1446, .iload_n 3, 1, []), (1447, .iconst 1, 1, []), (1448, .iadd, 1, []), (1449, .iaload, 1, []), (1450, .aload_n 0, 1, []), (1451, .iload_n 3, 1, []), (1452, .iconst 2, 1, []), (1453, .iadd, 1, []), (1454, .iaload, 1, []), (1455, .aload_n 0, 1, []), (1456, .iload_n 3, 1, []), (1457, .iconst 3, 1, []), (1458, .iadd, 1, []), (1459, .iaload, 1, []), (1460, .invokevirtual 154, 3, [1, 199, 3, 9]), (1463, .if_icmp .eq 282, 3, [1281]), (1466, .iconst 0, 1, []), (1467, .ireturn, 1, [1]), (1468, .aload_n 1, 1, []), (1469, .aload_n 0, 1, []), (1470, .iload_n 3, 1, []), (1471, .iconst 1, 1, []), (1472, .iadd, 1, []), (1473, .iaload, 1, []), (1474, .aload_n 0, 1, []), (1475, .iload_n 3, 1, []), (1476, .iconst 2, 1, []), (1477, .iadd, 1, []), (1478, .iaload, 1, []), (1479, .aload_n 0, 1, []), (1480, .iload_n 3, 1, []), (1481, .iconst 3, 1, []), (1482, .iadd, 1, []), (1483, .iaload, 1, []), (1484, .invokevirtual 155, 3, [1, 93, 3, 8]), (1487, .aload_n 2, 1, []), (1488, .aload_n 0, 1, []), (1489, .iload_n 3, 1, []), (1490, .iconst 1, 1, []), (1491, .iadd, 1, []), (1492, .iaload, 1, []), (1493, .aload_n 0, 1, []), (1494, .iload_n 3, 1, []), (1495, .iconst 2, 1, []), (1496, .iadd, 1, []), (1497, .iaload, 1, []), (1498, .aload_n 0, 1, []), (1499, .iload_n 3, 1, []), (1500, .iconst 3, 1, []), (1501, .iadd, 1, []), (1502, .iaload, 1, []), (1503, .invokevirtual 158, 3, [1, 202, 3, 9]), (1506, .if_icmp .eq 239, 3, [1281]), (1509, .iconst 0, 1, []), (1510, .ireturn, 1, [1]), (1511, .aload_n 1, 1, []), (1512, .aload_n 0, 1, []), (1513, .iload_n 3, 1, []), (1514, .iconst 1, 1, []), (1515, .iadd, 1, []), (1516, .iaload, 1, []), (1517, .aload_n 0, 1, []), (1518, .iload_n 3, 1, []), (1519, .iconst 2, 1, []), (1520, .iadd, 1, []), (1521, .iaload, 1, []), (1522, .aload_n 0, 1, []), (1523, .iload_n 3, 1, []), (1524, .iconst 3, 1, []), (1525, .iadd, 1, []), (1526, .iaload, 1, []), (1527, .aload_n 0, 1, []), (1528, .iload_n 3, 1, []), (1529, .iconst 4, 1, []), (1530, .iadd, 1, []), (1531, .iaload, 1, []), (1532, .aload_n 0, 1, []), (1533, .iload_n 3, 1, []), (1534, .iconst 5, 1, []), (1535, .iadd, 1, []), (1536, .iaload, 1, []), (1537, .invokevirtual 159, 3, [1, 94, 5, 8]), (1540, .aload_n 2, 1, []), (1541, .aload_n 0, 1, []), (1542, .iload_n 3, 1, []), (1543, .iconst 1, 1, []), (1544, .iadd, 1, []), (1545, .iaload, 1, []), (1546, .aload_n 0, 1, []), (1547, .iload_n 3, 1, []), (1548, .iconst 2, 1, []), (1549, .iadd, 1, []), (1550, .iaload, 1, []), (1551, .aload_n 0, 1, []), (1552, .iload_n 3, 1, []), (1553, .iconst 3, 1, []), (1554, .iadd, 1, []), (1555, .iaload, 1, []), (1556, .aload_n 0, 1, []), (1557, .iload_n 3, 1, []), (1558, .iconst 4, 1, []), (1559, .iadd, 1, []), (1560, .iaload, 1, []), (1561, .aload_n 0, 1, []), (1562, .iload_n 3, 1, []), (1563, .iconst 5, 1, []), (1564, .iadd, 1, []), (1565, .iaload, 1, []), (1566, .invokevirtual 163, 3, [1, 203, 5, 9]), (1569, .if_icmp .eq 176, 3, [1281]), (1572, .iconst 0, 1, []), (1573, .ireturn, 1, [1]), (1574, .aload_n 1, 1, []), (1575, .aload_n 0, 1, []), (1576, .iload_n 3, 1, []), (1577, .iconst 1, 1, []), (1578, .iadd, 1, []), (1579, .iaload, 1, []), (1580, .aload_n 0, 1, []), (1581, .iload_n 3, 1, []), (1582, .iconst 2, 1, []), (1583, .iadd, 1, []), (1584, .iaload, 1, []), (1585, .aload_n 0, 1, []), (1586, .iload_n 3, 1, []), (1587, .iconst 3, 1, []), (1588, .iadd, 1, []), (1589, .iaload, 1, []), (1590, .invokevirtual 164, 3, [1, 95, 3, 8]), (1593, .aload_n 2, 1, [])]
def xt_219_9 : List xa_E := [(1594, .aload_n 0, 1, []), (1595, .iload_n 3, 1, []), (1596, .iconst 1, 1, []), (1597, .iadd, 1, []), (1598, .iaload, 1, []), (1599, .aload_n 0, 1, []), (1600, .iload_n 3, 1, []), (1601, .iconst 2, 1, []), (1602, .iadd, 1, []), (1603, .iaload, 1, []), (1604, .aload_n 0, 1, []), (1605, .iload_n 3, 1, []), (1606, .iconst 3, 1, []), (1607, .iadd, 1, []), (1608, .iaload, 1, []), (1609, .invokevirtual 167, 3, [1, 204, 3, 9]), (1612, .if_icmp .eq 133, 3, [1281]), (1615, .iconst 0, 1, []), (1616, .ireturn, 1, [1]), (1617, .aload_n 1, 1, []), (1618, .aload_n 0, 1, []), (1619, .iload_n 3, 1, []), (1620, .iconst 1, 1, []), (1621, .iadd, 1, []), (1622, .iaload, 1, []), (1623, .aload_n 0, 1, []), (1624, .iload_n 3, 1, []), (1625, .iconst 2, 1, []), (1626, .iadd, 1, []), (1627, .iaload, 1, []), (1628, .aload_n 0, 1, []), (1629, .iload_n 3, 1, []), (1630, .iconst 3, 1, []), (1631, .iadd, 1, []), (1632, .iaload, 1, []), (1633, .invokevirtual 168, 3, [1, 96, 3, 8]), (1636, .aload_n 2, 1, []), (1637, .aload_n 0, 1, []), (1638, .iload_n 3, 1, []), (1639, .iconst 1, 1, []), (1640, .iadd, 1, []), (1641, .iaload, 1, []), (1642, .aload_n 0, 1, []), (1643, .iload_n 3, 1, []), (1644, .iconst 2, 1, []), (1645, .iadd, 1, []), (1646, .iaload, 1, []), (1647, .aload_n 0, 1, []), (1648, .iload_n 3, 1, []), (1649, .iconst 3, 1, []), (1650, .iadd, 1, []), (1651, .iaload, 1, []), (1652, .invokevirtual 171, 3, [1, 205, 3, 9]), (1655, .if_icmp .eq 90, 3, [1281]), (1658, .iconst 0, 1, []), (1659, .ireturn, 1, [1]), (1660, .aload_n 1, 1, []), (1661, .invokevirtual 172, 3, [1, 97, 0, 8]), (1664, .aload_n 2, 1, []), (1665, .invokevirtual 175, 3, [1, 206, 0, 9]), (1668, .if_icmp .eq 77, 3, [1281]), (1671, .iconst 0, 1, []), (1672, .ireturn, 1, [1]), (1673, .aload_n 1, 1, []), (1674, .invokevirtual 176, 3, [1, 98, 0, 8]), (1677, .aload_n 2, 1, []), (1678, .invokevirtual 179, 3, [1, 207, 0, 9]), (1681, .if_icmp .eq 64, 3, [1281]), (1684, .iconst 0, 1, []), (1685, .ireturn, 1, [1]), (1686, .aload_n 1, 1, []), (1687, .invokevirtual 180, 3, [1, 99, 0, 8]), (1690, .aload_n 2, 1, []), (1691, .invokevirtual 183, 3, [1, 208, 0, 9]), (1694, .if_icmp .eq 51, 3, [1281]), (1697, .iconst 0, 1, []), (1698, .ireturn, 1, [1]), (1699, .aload_n 1, 1, []), (1700, .aload_n 0, 1, []), (1701, .iload_n 3, 1, []), (1702, .iconst 1, 1, []), (1703, .iadd, 1, []), (1704, .iaload, 1, []), (1705, .invokevirtual 184, 3, [1, 100, 1, 8]), (1708, .aload_n 2, 1, []), (1709, .aload_n 0, 1, []), (1710, .iload_n 3, 1, []), (1711, .iconst 1, 1, []), (1712, .iadd, 1, []), (1713, .iaload, 1, []), (1714, .invokevirtual 187, 3, [1, 209, 1, 9]), (1717, .if_icmp .eq 28, 3, [1281]), (1720, .iconst 0, 1, []), (1721, .ireturn, 1, [1]), (1722, .aload_n 1, 1, []), (1723, .aload_n 0, 1, []), (1724, .iload_n 3, 1, []), (1725, .iconst 1, 1, []), (1726, .iadd, 1, []), (1727, .iaload, 1, []), (1728, .invokevirtual 188, 3, [1, 101, 1, 8]), (1731, .aload_n 2, 1, []), (1732, .aload_n 0, 1, []), (1733, .iload_n 3, 1, []), (1734, .iconst 1, 1, []), (1735, .iadd, 1, []), (1736, .iaload, 1, []), (1737, .invokevirtual 191, 3, [1, 210, 1, 9]), (1740, .if_icmp .eq 5, 3, [1281]), (1743, .iconst 0, 1, []), (1744, .ireturn, 1, [1]), (1745, .iinc 3 6, 3, []), (1748, .goto (-1730), 3, [10]), (1751, .iconst 1, 1, []), (1752, .ireturn, 1, [1])]
def xt_219 : List xa_E := xt_219_0 ++ (xt_219_1 ++ (xt_219_2 ++ (xt_219_3 ++ (xt_219_4 ++ (xt_219_5 ++ (xt_219_6 ++ (xt_219_7 ++ (xt_219_8 ++ (xt_219_9)))))))))
def xb_tabs : List (List xa_E) := [xt_0, xt_1, xt_2, xt_3, xt_4, xt_5, xt_6, xt_7, xt_8, xt_9, xt_10, xt_11, xt_12, xt_13, xt_14, xt_15, xt_16, xt_17, xt_18, xt_19, xt_20, xt_21, xt_22, xt_23, xt_24, xt_25, xt_26, xt_27, xt_28, xt_29, xt_30, xt_31, xt_32, xt_33, xt_34, xt_35, xt_36, xt_37, xt_38, xt_39, xt_40, xt_41, xt_42, xt_43, xt_44, xt_45, xt_46, xt_47, xt_48, xt_49, xt_50, xt_51, xt_52, xt_53, xt_54, xt_55, xt_56, xt_57, xt_58, xt_59, xt_60, xt_61, xt_62, xt_63, xt_64, xt_65, xt_66, xt_67, xt_68, xt_69, xt_70, xt_71, xt_72, xt_73, xt_74, xt_75, xt_76, xt_77, xt_78, xt_79, xt_80, xt_81, xt_82, xt_83, xt_84, xt_85, xt_86, xt_87, xt_88, xt_89, xt_90, xt_91, xt_92, xt_93, xt_94, xt_95, xt_96, xt_97, xt_98, xt_99, xt_100, xt_101, xt_102, xt_103, xt_104, xt_105, xt_106, xt_107, xt_108, xt_109, xt_110, xt_111, xt_112, xt_113, xt_114, xt_115, xt_116, xt_117, xt_118, xt_119, xt_120, xt_121, xt_122, xt_123, xt_124, xt_125, xt_126, xt_127, xt_128, xt_129, xt_130, xt_131, xt_132, xt_133, xt_134, xt_135, xt_136, xt_137, xt_138, xt_139, xt_140, xt_141, xt_142, xt_143, xt_144, xt_145, xt_146, xt_147, xt_148, xt_149, xt_150, xt_151, xt_152, xt_153, xt_154, xt_155, xt_156, xt_157, xt_158, xt_159, xt_160, xt_161, xt_162, xt_163, xt_164, xt_165, xt_166, xt_167, xt_168, xt_169, xt_170, xt_171, xt_172, xt_173, xt_174, xt_175, xt_176, xt_177, xt_178, xt_179, xt_180, xt_181, xt_182, xt_183, xt_184, xt_185, xt_186, xt_187, xt_188, xt_189, xt_190, xt_191, xt_192, xt_193, xt_194, xt_195, xt_196, xt_197, xt_198, xt_199, xt_200, xt_201, xt_202, xt_203, xt_204, xt_205, xt_206, xt_207, xt_208, xt_209, xt_210, xt_211, xt_212, xt_213, xt_214, xt_215, xt_216, xt_217, xt_218, xt_219]
def xb_pm : List (Nat × (Nat × Nat)) := [(1, 4, 84), (11, 0, 0), (7, 0, 0), (3, 0, 0), (5, 0, 0), (5, 0, 0), (6, 0, 0), (3, 2, 17), (2, 0, 0), (5, 0, 0), (4, 0, 0), (3, 0, 0), (5, 0, 0), (2, 0, 0), (4, 0, 0), (6, 0, 0), (3, 0, 0), (6, 0, 0), (5, 0, 0), (7, 0, 0), (7, 0, 0), (1, 4, 48), (1, 0, 0), (5, 0, 0), (3, 0, 0), (3, 0, 0), (1, 0, 0), (1, 0, 0), (5, 0, 0), (1, 0, 0), (1, 1, 40), (1, 0, 0), (4, 0, 0), (3, 0, 0), (3, 0, 0), (1, 1, 120), (2, 0, 0), (1, 0, 0), (1, 0, 0), (1, 0, 0), (1, 0, 0), (3, 0, 0), (1, 0, 0), (3, 0, 0), (2, 0, 0), (1, 0, 0), (2, 0, 0), (2, 0, 0), (5, 0, 0), (1, 0, 0), (5, 0, 0), (3, 0, 0), (4, 0, 0), (2, 25, 256), (3, 0, 0), (4, 0, 0), (3, 0, 0), (1, 0, 0), (2, 110, 1369), (2, 0, 0), (4, 0, 0), (4, 0, 0), (6, 0, 0), (5, 0, 0), (4, 0, 0), (3, 0, 0), (4, 0, 0), (3, 0, 0), (5, 0, 0), (4, 0, 0), (3, 0, 0), (5, 0, 0), (3, 0, 0), (4, 0, 0), (4, 0, 0), (3, 0, 0), (4, 0, 0), (3, 0, 0), (8, 0, 0), (5, 0, 0), (5, 0, 0), (8, 0, 0), (7, 0, 0), (4, 0, 0), (5, 0, 0), (8, 0, 0), (3, 0, 0), (4, 0, 0), (2, 0, 0), (2, 0, 0), (4, 0, 0), (5, 0, 0), (4, 0, 0), (4, 0, 0), (6, 0, 0), (8, 0, 0), (7, 0, 0), (1, 0, 0), (1, 0, 0), (2, 0, 0), (2, 0, 0), (4, 0, 0), (2, 0, 0), (3, 0, 0), (1, 0, 0), (1, 0, 0), (1, 0, 0), (1, 0, 0), (1, 0, 0), (1, 0, 0), (1, 0, 0), (3, 0, 0), (1, 0, 0), (4, 0, 0), (4, 0, 0), (4, 0, 0), (2, 0, 0), (10, 0, 0), (6, 0, 0), (3, 0, 0), (3, 0, 0), (3, 0, 0), (2, 0, 0), (3, 0, 0), (4, 0, 0), (2, 10, 1119), (6, 0, 0), (2, 0, 0), (1, 0, 0), (1, 0, 0), (1, 0, 0), (3, 0, 0), (2, 0, 0), (2, 0, 0), (3, 0, 0), (2, 0, 0), (6, 0, 0), (4, 0, 0), (6, 0, 0), (5, 0, 0), (5, 0, 0), (4, 0, 0), (5, 0, 0), (5, 0, 0), (4, 0, 0), (5, 0, 0), (2, 0, 0), (4, 0, 0), (5, 0, 0), (5, 0, 0), (3, 0, 0), (5, 0, 0), (4, 0, 0), (1, 0, 0), (1, 0, 0), (4, 0, 0), (1, 0, 0), (4, 0, 0), (3, 0, 0), (5, 0, 0), (4, 0, 0), (8, 0, 0), (4, 0, 0), (5, 0, 0), (4, 0, 0), (6, 0, 0), (3, 0, 0), (2, 0, 0), (2, 0, 0), (12, 0, 0), (10, 0, 0), (9, 0, 0), (6, 0, 0), (2, 0, 0), (9, 0, 0), (6, 0, 0), (5, 0, 0), (5, 0, 0), (7, 0, 0), (3, 0, 0), (4, 0, 0), (2, 0, 0), (2, 0, 0), (1, 0, 0), (1, 0, 0), (3, 0, 0), (2, 0, 0), (4, 0, 0), (6, 0, 0), (4, 0, 0), (3, 0, 0), (3, 0, 0), (7, 0, 0), (4, 0, 0), (2, 0, 0), (1, 0, 0), (4, 0, 0), (6, 0, 0), (1, 0, 0), (5, 0, 0), (2, 0, 0), (2, 0, 0), (5, 0, 0), (7, 0, 0), (9, 0, 0), (6, 0, 0), (2, 0, 0), (2, 0, 0), (2, 0, 0), (4, 0, 0), (4, 0, 0), (1, 0, 0), (1, 0, 0), (2, 0, 0), (1, 0, 0), (1, 0, 0), (2, 0, 0), (2, 0, 0), (3, 0, 0), (4, 122, 2520)]
def xb_G : xa_G := (fun mi => xb_tabs.getD mi [], fun mi => xb_pm.getD mi (0, 0, 0))
def xb_s0 : List (String × (MethodName × (ByteArray × (Option FieldType × (Nat × Nat))))) := [("InkHours$Copies", ⟨"InkHours$Copies", "<init>", "()V"⟩, prog_2_method_1_code, none, 1, 20), ("InkHours$Copies", ⟨"InkHours$Copies", "smallestSet", "(LInkHours$Course;III)I"⟩, prog_2_method_2_code, some .int, 4, 93), ("InkHours$Copies", ⟨"InkHours$Copies", "laySteps", "(LInkHours$Course;IIII)V"⟩, prog_2_method_3_code, none, 3, 67), ("InkHours$Copies", ⟨"InkHours$Copies", "addStep", "(II)V"⟩, prog_2_method_4_code, none, 1, 23), ("InkHours$Copies", ⟨"InkHours$Copies", "laySets", "(LInkHours$Course;I)I"⟩, prog_2_method_5_code, some .int, 1, 24), ("InkHours$Copies", ⟨"InkHours$Copies", "leftAt", "(I[II)I"⟩, prog_2_method_6_code, some .int, 0, 0), ("InkHours$Copies", ⟨"InkHours$Copies", "keepsWith", "(LInkHours$Course;II)Z"⟩, prog_2_method_7_code, some .boolean, 2, 46), ("InkHours$Course", ⟨"InkHours$Course", "<init>", "(LInkHours$Paper;[I)V"⟩, prog_3_method_1_code, none, 2, 40), ("InkHours$Course", ⟨"InkHours$Course", "reckon", "()V"⟩, prog_3_method_2_code, none, 3, 67), ("InkHours$Course", ⟨"InkHours$Course", "endOf", "(III)I"⟩, prog_3_method_3_code, some .int, 2, 43), ("InkHours$Course", ⟨"InkHours$Course", "seenAt", "(I)I"⟩, prog_3_method_4_code, some .int, 0, 0), ("InkHours$Course", ⟨"InkHours$Course", "meaningOf", "(I)I"⟩, prog_3_method_5_code, some .int, 1, 24), ("InkHours$Course", ⟨"InkHours$Course", "meaningWith", "(III)I"⟩, prog_3_method_6_code, some .int, 1, 24), ("InkHours$Course", ⟨"InkHours$Course", "meaningAt", "(I)I"⟩, prog_3_method_7_code, some .int, 2, 46), ("InkHours$Course", ⟨"InkHours$Course", "stepBehind", "(I)I"⟩, prog_3_method_8_code, some .int, 1, 21), ("InkHours$Course", ⟨"InkHours$Course", "changeBehind", "(II)I"⟩, prog_3_method_9_code, some .int, 3, 67), ("InkHours$Course", ⟨"InkHours$Course", "keeps", "(II)Z"⟩, prog_3_method_10_code, some .boolean, 4, 92), ("InkHours$Course", ⟨"InkHours$Course", "changesWithin", "(II)I"⟩, prog_3_method_11_code, some .int, 4, 92), ("InkHours$Course", ⟨"InkHours$Course", "firstWith", "(II)I"⟩, prog_3_method_12_code, some .int, 3, 67), ("InkHours$Course", ⟨"InkHours$Course", "hoursWith", "(II)I"⟩, prog_3_method_13_code, some .int, 3, 67), ("InkHours$Course", ⟨"InkHours$Course", "leastLasts", "(III)I"⟩, prog_3_method_14_code, some .int, 5, 114), ("InkHours$Paper", ⟨"InkHours$Paper", "<init>", "()V"⟩, prog_4_method_1_code, none, 1, 20), ("InkHours$Paper", ⟨"InkHours$Paper", "isFull", "()Z"⟩, prog_4_method_2_code, some .boolean, 0, 0), ("InkHours$Paper", ⟨"InkHours$Paper", "add", "(IIII)V"⟩, prog_4_method_3_code, none, 1, 20), ("InkHours$Paper", ⟨"InkHours$Paper", "drop", "(I)V"⟩, prog_4_method_4_code, none, 0, 0), ("InkHours$Paper", ⟨"InkHours$Paper", "become", "(LInkHours$Paper;)V"⟩, prog_4_method_5_code, none, 0, 0), ("InkHours$Sentence", ⟨"InkHours$Sentence", "<init>", "()V"⟩, prog_5_method_1_code, none, 1, 20), ("InkHours$Sentence", ⟨"InkHours$Sentence", "begin", "()V"⟩, prog_5_method_2_code, none, 0, 0), ("InkHours$Sentence", ⟨"InkHours$Sentence", "take", "(II)V"⟩, prog_5_method_3_code, none, 0, 0), ("InkHours$Sentence", ⟨"InkHours$Sentence", "meaning", "()I"⟩, prog_5_method_4_code, some .int, 0, 0), ("InkHours$Sheet", ⟨"InkHours$Sheet", "<init>", "()V"⟩, prog_6_method_1_code, none, 1, 20), ("InkHours$Sheet", ⟨"InkHours$Sheet", "isMissing", "()Z"⟩, prog_6_method_2_code, some .boolean, 0, 0), ("InkHours$Sheet", ⟨"InkHours$Sheet", "begin", "(II)V"⟩, prog_6_method_3_code, none, 0, 0), ("InkHours$Sheet", ⟨"InkHours$Sheet", "set", "(II)V"⟩, prog_6_method_4_code, none, 0, 0), ("InkHours$Sheet", ⟨"InkHours$Sheet", "hasRange", "(II)Z"⟩, prog_6_method_5_code, some .boolean, 0, 0), ("InkHours$Tape", ⟨"InkHours$Tape", "<init>", "()V"⟩, prog_7_method_1_code, none, 1, 20), ("InkHours$Tape", ⟨"InkHours$Tape", "add", "(I)V"⟩, prog_7_method_2_code, none, 0, 0), ("InkHours$Tape", ⟨"InkHours$Tape", "toFirst", "()V"⟩, prog_7_method_3_code, none, 2, 40), ("InkHours$Tape", ⟨"InkHours$Tape", "toNext", "()V"⟩, prog_7_method_4_code, none, 1, 20), ("InkHours$Tape", ⟨"InkHours$Tape", "isSmallLetter", "(I)Z"⟩, prog_7_method_5_code, some .boolean, 0, 0), ("InkHours$Tape", ⟨"InkHours$Tape", "isDigit", "(I)Z"⟩, prog_7_method_6_code, some .boolean, 0, 0), ("InkHours$Tape", ⟨"InkHours$Tape", "isName", "(Ljava/lang/String;)Z"⟩, prog_7_method_7_code, some .boolean, 4, 85), ("InkHours$Tape", ⟨"InkHours$Tape", "letter", "()I"⟩, prog_7_method_8_code, some .int, 0, 0), ("InkHours$Text", ⟨"InkHours$Text", "<init>", "(LInkHours$Tape;LInkHours$World;)V"⟩, prog_8_method_1_code, none, 1, 20), ("InkHours$Text", ⟨"InkHours$Text", "readItems", "()I"⟩, prog_8_method_2_code, some .int, 8, 173), ("InkHours$Text", ⟨"InkHours$Text", "readItem", "()Z"⟩, prog_8_method_3_code, some .boolean, 7, 153), ("InkHours$Text", ⟨"InkHours$Text", "readInk", "()Z"⟩, prog_8_method_4_code, some .boolean, 6, 129), ("InkHours$Text", ⟨"InkHours$Text", "readPaper", "()Z"⟩, prog_8_method_5_code, some .boolean, 6, 129), ("InkHours$Text", ⟨"InkHours$Text", "readOn", "()Z"⟩, prog_8_method_6_code, some .boolean, 6, 129), ("InkHours$Text", ⟨"InkHours$Text", "kindOfName", "()I"⟩, prog_8_method_7_code, some .int, 5, 107), ("InkHours$Text", ⟨"InkHours$Text", "readMark", "(LInkHours$Paper;II)Z"⟩, prog_8_method_8_code, some .boolean, 2, 44), ("InkHours$Text", ⟨"InkHours$Text", "passName", "(Ljava/lang/String;)Z"⟩, prog_8_method_9_code, some .boolean, 5, 107), ("InkHours$Text", ⟨"InkHours$Text", "passNumber", "(II)Z"⟩, prog_8_method_10_code, some .boolean, 2, 40), ("InkHours$World", ⟨"InkHours$World", "<init>", "()V"⟩, prog_9_method_1_code, none, 2, 40), ("InkHours$World", ⟨"InkHours$World", "become", "(LInkHours$World;)V"⟩, prog_9_method_2_code, none, 1, 26)]
def xb_s1 : List (String × (MethodName × (ByteArray × (Option FieldType × (Nat × Nat))))) := [("InkHours$World", ⟨"InkHours$World", "freeSpots", "(II)V"⟩, prog_9_method_3_code, none, 0, 0), ("InkHours$World", ⟨"InkHours$World", "fullSpots", "()I"⟩, prog_9_method_4_code, some .int, 0, 0), ("InkHours$World", ⟨"InkHours$World", "draw", "()I"⟩, prog_9_method_5_code, some .int, 0, 0), ("InkHours", ⟨"InkHours", "<init>", "()V"⟩, prog_1_method_1_code, none, 3, 62), ("InkHours", ⟨"InkHours", "hours", "(I)I"⟩, prog_1_method_2_code, some .int, 1, 22), ("InkHours", ⟨"InkHours", "ink", "(III)I"⟩, prog_1_method_3_code, some .int, 2, 42), ("InkHours", ⟨"InkHours", "light", "(IZ)I"⟩, prog_1_method_4_code, some .int, 2, 42), ("InkHours", ⟨"InkHours", "write", "(IIII)I"⟩, prog_1_method_5_code, some .int, 2, 44), ("InkHours", ⟨"InkHours", "markOf", "(III)I"⟩, prog_1_method_6_code, some .int, 3, 64), ("InkHours", ⟨"InkHours", "turn", "(III)I"⟩, prog_1_method_7_code, some .int, 3, 64), ("InkHours", ⟨"InkHours", "scratch", "(II)I"⟩, prog_1_method_8_code, some .int, 3, 64), ("InkHours", ⟨"InkHours", "copied", "(III)I"⟩, prog_1_method_9_code, some .int, 3, 64), ("InkHours", ⟨"InkHours", "seen", "(II)I"⟩, prog_1_method_10_code, some .int, 5, 109), ("InkHours", ⟨"InkHours", "age", "(III)I"⟩, prog_1_method_11_code, some .int, 3, 64), ("InkHours", ⟨"InkHours", "gone", "(II)I"⟩, prog_1_method_12_code, some .int, 5, 109), ("InkHours", ⟨"InkHours", "means", "(II)I"⟩, prog_1_method_13_code, some .int, 5, 109), ("InkHours", ⟨"InkHours", "says", "(III)I"⟩, prog_1_method_14_code, some .int, 5, 109), ("InkHours", ⟨"InkHours", "until", "(I)I"⟩, prog_1_method_15_code, some .int, 5, 109), ("InkHours", ⟨"InkHours", "changes", "(III)I"⟩, prog_1_method_16_code, some .int, 5, 117), ("InkHours", ⟨"InkHours", "shows", "(II)I"⟩, prog_1_method_17_code, some .int, 5, 109), ("InkHours", ⟨"InkHours", "often", "(II)I"⟩, prog_1_method_18_code, some .int, 5, 109), ("InkHours", ⟨"InkHours", "same", "(III)I"⟩, prog_1_method_19_code, some .int, 5, 109), ("InkHours", ⟨"InkHours", "stays", "(II)I"⟩, prog_1_method_20_code, some .int, 5, 114), ("InkHours", ⟨"InkHours", "cheapest", "(IIII)I"⟩, prog_1_method_21_code, some .int, 6, 143), ("InkHours", ⟨"InkHours", "fewest", "(III)I"⟩, prog_1_method_22_code, some .int, 5, 123), ("InkHours", ⟨"InkHours", "lasting", "(III)I"⟩, prog_1_method_23_code, some .int, 6, 140), ("InkHours", ⟨"InkHours", "forged", "(I)I"⟩, prog_1_method_24_code, some .int, 5, 109), ("InkHours", ⟨"InkHours", "forge", "(II)I"⟩, prog_1_method_25_code, some .int, 5, 109), ("InkHours", ⟨"InkHours", "earliest", "(III)I"⟩, prog_1_method_26_code, some .int, 3, 68), ("InkHours", ⟨"InkHours", "latest", "(III)I"⟩, prog_1_method_27_code, some .int, 3, 68), ("InkHours", ⟨"InkHours", "clerk", "(III)I"⟩, prog_1_method_28_code, some .int, 2, 42), ("InkHours", ⟨"InkHours", "seed", "(I)I"⟩, prog_1_method_29_code, some .int, 0, 0), ("InkHours", ⟨"InkHours", "feed", "(II)I"⟩, prog_1_method_30_code, some .int, 1, 22), ("InkHours", ⟨"InkHours", "wipe", "()I"⟩, prog_1_method_31_code, some .int, 0, 0), ("InkHours", ⟨"InkHours", "text", "()I"⟩, prog_1_method_32_code, some .int, 9, 194), ("InkHours", ⟨"InkHours", "hold", "(III)I"⟩, prog_1_method_33_code, some .int, 3, 64), ("InkHours", ⟨"InkHours", "as", "(II)I"⟩, prog_1_method_34_code, some .int, 3, 64), ("InkHours", ⟨"InkHours", "sheet", "(III)I"⟩, prog_1_method_35_code, some .int, 2, 42), ("InkHours", ⟨"InkHours", "put", "(III)I"⟩, prog_1_method_36_code, some .int, 2, 42), ("InkHours", ⟨"InkHours", "copy", "(IIIII)I"⟩, prog_1_method_37_code, some .int, 2, 42), ("InkHours", ⟨"InkHours", "load", "(III)I"⟩, prog_1_method_38_code, some .int, 3, 62), ("InkHours", ⟨"InkHours", "judge", "(III)I"⟩, prog_1_method_39_code, some .int, 5, 109), ("InkHours", ⟨"InkHours", "image", "()I"⟩, prog_1_method_40_code, some .int, 2, 48), ("InkHours", ⟨"InkHours", "undo", "()I"⟩, prog_1_method_41_code, some .int, 2, 48), ("InkHours", ⟨"InkHours", "tear", "()I"⟩, prog_1_method_42_code, some .int, 0, 0), ("InkHours", ⟨"InkHours", "count", "(I)I"⟩, prog_1_method_43_code, some .int, 6, 131), ("InkHours", ⟨"InkHours", "status", "(I)I"⟩, prog_1_method_44_code, some .int, 1, 22), ("InkHours", ⟨"InkHours", "finding", "(I)I"⟩, prog_1_method_45_code, some .int, 0, 0), ("InkHours", ⟨"InkHours", "within", "(III)Z"⟩, prog_1_method_46_code, some .boolean, 0, 0), ("InkHours", ⟨"InkHours", "isHour", "(I)Z"⟩, prog_1_method_47_code, some .boolean, 1, 22), ("InkHours", ⟨"InkHours", "isInk", "(I)Z"⟩, prog_1_method_48_code, some .boolean, 1, 22), ("InkHours", ⟨"InkHours", "isPaper", "(I)Z"⟩, prog_1_method_49_code, some .boolean, 1, 22), ("InkHours", ⟨"InkHours", "isKind", "(I)Z"⟩, prog_1_method_50_code, some .boolean, 1, 22), ("InkHours", ⟨"InkHours", "isLetter", "(I)Z"⟩, prog_1_method_51_code, some .boolean, 1, 22), ("InkHours", ⟨"InkHours", "isSpot", "(I)Z"⟩, prog_1_method_52_code, some .boolean, 1, 22)]
def xb_s2 : List (String × (MethodName × (ByteArray × (Option FieldType × (Nat × Nat))))) := [("InkHours", ⟨"InkHours", "isSheet", "(I)Z"⟩, prog_1_method_53_code, some .boolean, 1, 22), ("InkHours", ⟨"InkHours", "isMark", "(II)Z"⟩, prog_1_method_54_code, some .boolean, 2, 42), ("InkHours", ⟨"InkHours", "isMarkNumber", "(I)Z"⟩, prog_1_method_55_code, some .boolean, 2, 42), ("InkHours", ⟨"InkHours", "isOfKind", "(II)Z"⟩, prog_1_method_56_code, some .boolean, 0, 0), ("InkHours", ⟨"InkHours", "isAmong", "([III)Z"⟩, prog_1_method_57_code, some .boolean, 0, 0), ("InkHours", ⟨"InkHours", "exchange", "([III)I"⟩, prog_1_method_58_code, some .int, 0, 0), ("InkHours", ⟨"InkHours", "reckoned", "(I)LInkHours$Course;"⟩, prog_1_method_59_code, some ((.object "InkHours$Course")), 4, 88), ("InkHours", ⟨"InkHours", "cheapestPair", "(LInkHours$Course;III)I"⟩, prog_1_method_60_code, some .int, 5, 114), ("InkHours", ⟨"InkHours", "firstUnfaded", "(III)I"⟩, prog_1_method_61_code, some .int, 2, 43), ("InkHours", ⟨"InkHours", "marksInAll", "()I"⟩, prog_1_method_62_code, some .int, 0, 0), ("InkHours", ⟨"InkHours", "marksSeenNow", "()I"⟩, prog_1_method_63_code, some .int, 5, 109), ("InkHours", ⟨"InkHours", "papersWithMeaning", "()I"⟩, prog_1_method_64_code, some .int, 5, 109), ("InkHours", ⟨"InkHours", "span", "(II)I"⟩, prog_1_method_65_code, some .int, 1, 21), ("InkHours", ⟨"InkHours", "wearBefore", "(ZI)I"⟩, prog_1_method_66_code, some .int, 1, 21), ("InkHours", ⟨"InkHours", "hourOfWear", "(ZI)I"⟩, prog_1_method_67_code, some .int, 0, 0), ("InkHoursModel", ⟨"InkHoursModel", "<init>", "()V"⟩, prog_11_method_1_code, none, 1, 20), ("InkHoursModel", ⟨"InkHoursModel", "in", "(JJJ)Z"⟩, prog_11_method_2_code, some .boolean, 0, 0), ("InkHoursModel", ⟨"InkHoursModel", "finds", "(I)I"⟩, prog_11_method_3_code, some .int, 0, 0), ("InkHoursModel", ⟨"InkHoursModel", "isPaper", "(I)Z"⟩, prog_11_method_4_code, some .boolean, 1, 25), ("InkHoursModel", ⟨"InkHoursModel", "isInk", "(I)Z"⟩, prog_11_method_5_code, some .boolean, 1, 25), ("InkHoursModel", ⟨"InkHoursModel", "isHour", "(I)Z"⟩, prog_11_method_6_code, some .boolean, 1, 25), ("InkHoursModel", ⟨"InkHoursModel", "isMark", "(II)Z"⟩, prog_11_method_7_code, some .boolean, 2, 45), ("InkHoursModel", ⟨"InkHoursModel", "at", "(II)I"⟩, prog_11_method_8_code, some .int, 0, 0), ("InkHoursModel", ⟨"InkHoursModel", "has", "(II)Z"⟩, prog_11_method_9_code, some .boolean, 0, 0), ("InkHoursModel", ⟨"InkHoursModel", "ones", "(I)I"⟩, prog_11_method_10_code, some .int, 0, 0), ("InkHoursModel", ⟨"InkHoursModel", "hours", "(I)I"⟩, prog_11_method_11_code, some .int, 1, 25), ("InkHoursModel", ⟨"InkHoursModel", "ink", "(III)I"⟩, prog_11_method_12_code, some .int, 2, 45), ("InkHoursModel", ⟨"InkHoursModel", "light", "(IZ)I"⟩, prog_11_method_13_code, some .int, 2, 45), ("InkHoursModel", ⟨"InkHoursModel", "newMark", "(IIII)I"⟩, prog_11_method_14_code, some .int, 1, 21), ("InkHoursModel", ⟨"InkHoursModel", "write", "(IIII)I"⟩, prog_11_method_15_code, some .int, 2, 46), ("InkHoursModel", ⟨"InkHoursModel", "staysOf", "(II)I"⟩, prog_11_method_16_code, some .int, 1, 21), ("InkHoursModel", ⟨"InkHoursModel", "markOf", "(III)I"⟩, prog_11_method_17_code, some .int, 3, 67), ("InkHoursModel", ⟨"InkHoursModel", "turn", "(III)I"⟩, prog_11_method_18_code, some .int, 3, 67), ("InkHoursModel", ⟨"InkHoursModel", "scratch", "(II)I"⟩, prog_11_method_19_code, some .int, 3, 67), ("InkHoursModel", ⟨"InkHoursModel", "copies", "(III)V"⟩, prog_11_method_20_code, none, 1, 21), ("InkHoursModel", ⟨"InkHoursModel", "copied", "(III)I"⟩, prog_11_method_21_code, some .int, 3, 67), ("InkHoursModel", ⟨"InkHoursModel", "lights", "(I)I"⟩, prog_11_method_22_code, some .int, 0, 0), ("InkHoursModel", ⟨"InkHoursModel", "ageOf", "(III)I"⟩, prog_11_method_23_code, some .int, 1, 21), ("InkHoursModel", ⟨"InkHoursModel", "isSeen", "(III)Z"⟩, prog_11_method_24_code, some .boolean, 2, 45), ("InkHoursModel", ⟨"InkHoursModel", "seenOf", "(II)I"⟩, prog_11_method_25_code, some .int, 3, 69), ("InkHoursModel", ⟨"InkHoursModel", "seen", "(II)I"⟩, prog_11_method_26_code, some .int, 4, 93), ("InkHoursModel", ⟨"InkHoursModel", "age", "(III)I"⟩, prog_11_method_27_code, some .int, 3, 67), ("InkHoursModel", ⟨"InkHoursModel", "gone", "(II)I"⟩, prog_11_method_28_code, some .int, 3, 69), ("InkHoursModel", ⟨"InkHoursModel", "truths", "(I)I"⟩, prog_11_method_29_code, some .int, 0, 0), ("InkHoursModel", ⟨"InkHoursModel", "begins", "()V"⟩, prog_11_method_30_code, none, 0, 0), ("InkHoursModel", ⟨"InkHoursModel", "reads", "(II)V"⟩, prog_11_method_31_code, none, 1, 20), ("InkHoursModel", ⟨"InkHoursModel", "meaning", "()I"⟩, prog_11_method_32_code, some .int, 0, 0), ("InkHoursModel", ⟨"InkHoursModel", "meansAt", "(II)I"⟩, prog_11_method_33_code, some .int, 3, 69), ("InkHoursModel", ⟨"InkHoursModel", "means", "(II)I"⟩, prog_11_method_34_code, some .int, 4, 92), ("InkHoursModel", ⟨"InkHoursModel", "says", "(III)I"⟩, prog_11_method_35_code, some .int, 4, 92), ("InkHoursModel", ⟨"InkHoursModel", "until", "(I)I"⟩, prog_11_method_36_code, some .int, 4, 92), ("InkHoursModel", ⟨"InkHoursModel", "changes", "(III)I"⟩, prog_11_method_37_code, some .int, 4, 92), ("InkHoursModel", ⟨"InkHoursModel", "shows", "(II)I"⟩, prog_11_method_38_code, some .int, 4, 92), ("InkHoursModel", ⟨"InkHoursModel", "often", "(II)I"⟩, prog_11_method_39_code, some .int, 4, 92), ("InkHoursModel", ⟨"InkHoursModel", "same", "(III)I"⟩, prog_11_method_40_code, some .int, 4, 92)]
def xb_s3 : List (String × (MethodName × (ByteArray × (Option FieldType × (Nat × Nat))))) := [("InkHoursModel", ⟨"InkHoursModel", "isStaying", "(III)Z"⟩, prog_11_method_41_code, some .boolean, 4, 92), ("InkHoursModel", ⟨"InkHoursModel", "stays", "(II)I"⟩, prog_11_method_42_code, some .int, 5, 117), ("InkHoursModel", ⟨"InkHoursModel", "puts", "()V"⟩, prog_11_method_43_code, none, 0, 0), ("InkHoursModel", ⟨"InkHoursModel", "putsBack", "()V"⟩, prog_11_method_44_code, none, 0, 0), ("InkHoursModel", ⟨"InkHoursModel", "cheapest", "(IIII)I"⟩, prog_11_method_45_code, some .int, 5, 117), ("InkHoursModel", ⟨"InkHoursModel", "fewest", "(III)I"⟩, prog_11_method_46_code, some .int, 5, 117), ("InkHoursModel", ⟨"InkHoursModel", "lasting", "(III)I"⟩, prog_11_method_47_code, some .int, 5, 117), ("InkHoursModel", ⟨"InkHoursModel", "forgedBy", "(IIII)I"⟩, prog_11_method_48_code, some .int, 3, 69), ("InkHoursModel", ⟨"InkHoursModel", "isForging", "(II)Z"⟩, prog_11_method_49_code, some .boolean, 0, 0), ("InkHoursModel", ⟨"InkHoursModel", "forged", "(I)I"⟩, prog_11_method_50_code, some .int, 4, 94), ("InkHoursModel", ⟨"InkHoursModel", "forge", "(II)I"⟩, prog_11_method_51_code, some .int, 4, 94), ("InkHoursModel", ⟨"InkHoursModel", "earliest", "(III)I"⟩, prog_11_method_52_code, some .int, 2, 45), ("InkHoursModel", ⟨"InkHoursModel", "latest", "(III)I"⟩, prog_11_method_53_code, some .int, 2, 45), ("InkHoursModel", ⟨"InkHoursModel", "clerk", "(III)I"⟩, prog_11_method_54_code, some .int, 2, 45), ("InkHoursModel", ⟨"InkHoursModel", "seed", "(I)I"⟩, prog_11_method_55_code, some .int, 0, 0), ("InkHoursModel", ⟨"InkHoursModel", "feed", "(II)I"⟩, prog_11_method_56_code, some .int, 1, 25), ("InkHoursModel", ⟨"InkHoursModel", "wipe", "()I"⟩, prog_11_method_57_code, some .int, 0, 0), ("InkHoursModel", ⟨"InkHoursModel", "byteAt", "(I)I"⟩, prog_11_method_58_code, some .int, 0, 0), ("InkHoursModel", ⟨"InkHoursModel", "isLetter", "(I)Z"⟩, prog_11_method_59_code, some .boolean, 1, 25), ("InkHoursModel", ⟨"InkHoursModel", "isDigit", "(I)Z"⟩, prog_11_method_60_code, some .boolean, 1, 25), ("InkHoursModel", ⟨"InkHoursModel", "token", "()V"⟩, prog_11_method_61_code, none, 2, 45), ("InkHoursModel", ⟨"InkHoursModel", "needs", "(Z)V"⟩, prog_11_method_62_code, none, 3, 67), ("InkHoursModel", ⟨"InkHoursModel", "word", "()J"⟩, prog_11_method_63_code, some .long, 2, 45), ("InkHoursModel", ⟨"InkHoursModel", "number", "(II)V"⟩, prog_11_method_64_code, none, 4, 88), ("InkHoursModel", ⟨"InkHoursModel", "inkItem", "()V"⟩, prog_11_method_65_code, none, 5, 113), ("InkHoursModel", ⟨"InkHoursModel", "paperItem", "()V"⟩, prog_11_method_66_code, none, 5, 113), ("InkHoursModel", ⟨"InkHoursModel", "kindHere", "()I"⟩, prog_11_method_67_code, some .int, 3, 68), ("InkHoursModel", ⟨"InkHoursModel", "markItem", "(II)V"⟩, prog_11_method_68_code, none, 4, 90), ("InkHoursModel", ⟨"InkHoursModel", "onItem", "()V"⟩, prog_11_method_69_code, none, 5, 116), ("InkHoursModel", ⟨"InkHoursModel", "text", "()I"⟩, prog_11_method_70_code, some .int, 7, 159), ("InkHoursModel", ⟨"InkHoursModel", "item", "()V"⟩, prog_11_method_71_code, none, 6, 139), ("InkHoursModel", ⟨"InkHoursModel", "hold", "(III)I"⟩, prog_11_method_72_code, some .int, 3, 67), ("InkHoursModel", ⟨"InkHoursModel", "as", "(II)I"⟩, prog_11_method_73_code, some .int, 1, 25), ("InkHoursModel", ⟨"InkHoursModel", "isOne", "(I)Z"⟩, prog_11_method_74_code, some .boolean, 1, 25), ("InkHoursModel", ⟨"InkHoursModel", "sheet", "(III)I"⟩, prog_11_method_75_code, some .int, 2, 45), ("InkHoursModel", ⟨"InkHoursModel", "narrowed", "(II)I"⟩, prog_11_method_76_code, some .int, 0, 0), ("InkHoursModel", ⟨"InkHoursModel", "wrong", "(I)I"⟩, prog_11_method_77_code, some .int, 2, 45), ("InkHoursModel", ⟨"InkHoursModel", "put", "(III)I"⟩, prog_11_method_78_code, some .int, 3, 66), ("InkHoursModel", ⟨"InkHoursModel", "copy", "(IIIII)I"⟩, prog_11_method_79_code, some .int, 2, 45), ("InkHoursModel", ⟨"InkHoursModel", "load", "(III)I"⟩, prog_11_method_80_code, some .int, 3, 66), ("InkHoursModel", ⟨"InkHoursModel", "judge", "(III)I"⟩, prog_11_method_81_code, some .int, 4, 92), ("InkHoursModel", ⟨"InkHoursModel", "image", "()I"⟩, prog_11_method_82_code, some .int, 0, 0), ("InkHoursModel", ⟨"InkHoursModel", "undo", "()I"⟩, prog_11_method_83_code, some .int, 1, 21), ("InkHoursModel", ⟨"InkHoursModel", "tear", "()I"⟩, prog_11_method_84_code, some .int, 0, 0), ("InkHoursModel", ⟨"InkHoursModel", "count", "(I)I"⟩, prog_11_method_85_code, some .int, 4, 93), ("InkHoursModel", ⟨"InkHoursModel", "status", "(I)I"⟩, prog_11_method_86_code, some .int, 1, 25), ("java/lang/Integer", ⟨"java/lang/Integer", "bitCount", "(I)I"⟩, prog_12_method_49_code, some .int, 0, 0), ("java/lang/String", ⟨"java/lang/String", "length", "()I"⟩, prog_14_method_54_code, some .int, 1, 20), ("java/lang/String", ⟨"java/lang/String", "charAt", "(I)C"⟩, prog_14_method_56_code, some .char, 3, 64), ("java/lang/String", ⟨"java/lang/String", "coder", "()B"⟩, prog_14_method_152_code, some .byte, 0, 0), ("java/lang/String", ⟨"java/lang/String", "isLatin1", "()Z"⟩, prog_14_method_154_code, some .boolean, 0, 0), ("java/lang/String", ⟨"java/lang/String", "checkIndex", "(II)V"⟩, prog_14_method_155_code, none, 1, 22), ("java/lang/StringLatin1", ⟨"java/lang/StringLatin1", "charAt", "([BI)C"⟩, prog_15_method_2_code, some .char, 2, 43), ("jdk/internal/util/Preconditions", ⟨"jdk/internal/util/Preconditions", "checkIndex", "(IILjava/util/function/BiFunction;)I"⟩, prog_18_method_11_code, some .int, 0, 0), ("InkHoursLaw", ⟨"InkHoursLaw", "law", "([I)Z"⟩, code, some .boolean, 10, 215)]
def xb_S : xa_M := fun mi => (xb_s0 ++ (xb_s1 ++ (xb_s2 ++ (xb_s3)))).getD mi ("InkHoursLaw", ⟨"InkHoursLaw", "law", "([I)Z"⟩, code, some .boolean, 10, 215)
end
section
/-! EVERY INSTRUCTION IS WHAT ITS TABLE SAYS -/
def xa_all (G : xa_G) (S : xa_M) (mi : Nat) : Nat → List xa_E → List (List Nat) → Bool
  | _, [], _ => true
  | i, en :: es, pls => xa_ok G S mi i en (pls.headD []) && xa_all G S mi (i + 1) es pls.tail
theorem xa_all_of (G : xa_G) (S : xa_M) (mi : Nat) : ∀ (es : List xa_E) (k : Nat) (pls : List (List Nat)), xa_all G S mi k es pls = true → ∀ (i : Nat) (en : xa_E), es[i]? = some en → ∃ pl, xa_ok G S mi (k + i) en pl = true
  | [], k, pls, h, i, en, e => by simp at e
  | a :: es, k, pls, h, i, en, e => by
    rw [xa_all, Bool.and_eq_true] at h
    match i, e with
    | 0, e =>
      simp at e
      subst e
      exact ⟨_, h.1⟩
    | i + 1, e =>
      have := xa_all_of G S mi es (k + 1) pls.tail h.2 i en (by simpa using e)
      rw [show k + (i + 1) = k + 1 + i by omega]
      exact this
theorem xa_all_ok {G : xa_G} {S : xa_M} {mi : Nat} {es : List xa_E} {pls : List (List Nat)} (he : G.1 mi = es) (h : xa_all G S mi 0 es pls = true) : xa_allOK G S mi := by
  intro i en e
  rw [he] at e
  have := xa_all_of G S mi es 0 pls h i en e
  rwa [Nat.zero_add] at this
def xp_0 : List (List Nat) := [[], [209, 73, 74], [], [], [121], [210], [], [], [121], [211], [], [], [121], [212], [], [], [121], [213], [], [], [214], []]
set_option maxRecDepth 100000 in
theorem xo_0 : xa_allOK xb_G xb_S 0 := xa_all_ok (es := xt_0) (pls := xp_0) rfl (by decide +kernel)
def xp_1 : List (List Nat) := [[], [], [547, 433, 434, 56, 435], [], [], [], [548, 455, 456, 56, 457], [], [], [], [], [], [], [], [549, 551, 5, 55, 552], [], [], [], [561, 563, 7, 55, 564], [], [], [], [], [], [], [], [], [], [], [], [], [], [], [], [], [], [568, 569, 61, 570], [], [], [], [], [], [], [574, 576, 8, 55, 577], [], [], [], [], [568, 569, 61, 570], [], [], [], [], []]
set_option maxRecDepth 100000 in
theorem xo_1 : xa_allOK xb_G xb_S 1 := xa_all_ok (es := xt_1) (pls := xp_1) rfl (by decide +kernel)
def xp_2 : List (List Nat) := [[], [], [214], [], [], [], [], [254], [102], [], [], [], [], [], [], [], [], [210], [], [], [], [], [], [553, 419, 420, 56, 421], [], [], [], [257], [], [], [], [554, 556, 6, 55, 557], [], [], [210], [], [], [], [554, 556, 6, 55, 557], [], [], []]
set_option maxRecDepth 100000 in
theorem xo_2 : xa_allOK xb_G xb_S 2 := xa_all_ok (es := xt_2) (pls := xp_2) rfl (by decide +kernel)
def xp_3 : List (List Nat) := [[], [], [], [], [214], [], [211], [], [], [], [211], [], [214], [], [558, 559, 50, 560], [], [], [211], [], [214], [], [], [], [], [214], [], [], [214], []]
set_option maxRecDepth 100000 in
theorem xo_3 : xa_allOK xb_G xb_S 3 := xa_all_ok (es := xt_3) (pls := xp_3) rfl (by decide +kernel)
def xp_4 : List (List Nat) := [[], [], [], [], [], [], [214], [], [], [212], [], [], [211], [], [], [], [257], [], [254], [102], [565, 566, 55, 567], [], [], [], [], [213], [], [], [211], [], [], [], [210], [], [254], [102], [565, 566, 55, 567], [], [], [], [], [], [212], [], [], [], [213], [], [], [], [], [], [], [], [], []]
set_option maxRecDepth 100000 in
theorem xo_4 : xa_allOK xb_G xb_S 4 := xa_all_ok (es := xt_4) (pls := xp_4) rfl (by decide +kernel)
def xp_5 : List (List Nat) := [[], [], [], [], [], [], [], [], [], [], [], [], [], [], [], [], [], [], [], [], [], []]
set_option maxRecDepth 100000 in
theorem xo_5 : xa_allOK xb_G xb_S 5 := xa_all_ok (es := xt_5) (pls := xp_5) rfl (by decide +kernel)
def xp_6 : List (List Nat) := [[], [], [], [], [214], [], [], [212], [], [], [], [], [], [], [], [213], [], [], [], [], [], [], [], [], [548, 455, 456, 56, 457], [], [], [], [], [], [], [], []]
set_option maxRecDepth 100000 in
theorem xo_6 : xa_allOK xb_G xb_S 6 := xa_all_ok (es := xt_6) (pls := xp_6) rfl (by decide +kernel)
def xp_7 : List (List Nat) := [[], [230, 73, 74], [], [], [121], [256], [], [231, 232, 57], [], [233, 234, 57, 235], [259], [], [], [253], [], [], [255], []]
set_option maxRecDepth 100000 in
theorem xo_7 : xa_allOK xb_G xb_S 7 := xa_all_ok (es := xt_7) (pls := xp_7) rfl (by decide +kernel)
def xp_8 : List (List Nat) := [[], [], [], [], [253], [101], [], [], [256], [], [], [], [], [255], [], [253], [95], [], [], [], [], [253], [98], [], [], [418, 419, 420, 56, 421], [], [], [], []]
set_option maxRecDepth 100000 in
theorem xo_8 : xa_allOK xb_G xb_S 8 := xa_all_ok (es := xt_8) (pls := xp_8) rfl (by decide +kernel)
def xp_9 : List (List Nat) := [[], [253], [105], [], [422, 423, 50, 424], [], [253], [89], [], [], [], [428, 378, 50, 379], [], [], [], [253], [105], [], [429, 430, 50, 431], []]
set_option maxRecDepth 100000 in
theorem xo_9 : xa_allOK xb_G xb_S 9 := xa_all_ok (es := xt_9) (pls := xp_9) rfl (by decide +kernel)
def xp_10 : List (List Nat) := [[], [], [], [], [], [], [253], [101], [], [], [253], [98], [], [], [], [], [], [], [256], [], [], [], [], [], [], [], [], [], [], [], [], []]
set_option maxRecDepth 100000 in
theorem xo_10 : xa_allOK xb_G xb_S 10 := xa_all_ok (es := xt_10) (pls := xp_10) rfl (by decide +kernel)
def xp_11 : List (List Nat) := [[], [259], [458, 459, 460, 57, 461], [], [], [], [], [253], [101], [], [], [], [], [], [], [], [], [259], [], [253], [89], [], [], [], [253], [92], [], [], [463, 464, 465, 57, 466], [], [], [], [259], [469, 470, 471, 57, 472], []]
set_option maxRecDepth 100000 in
theorem xo_11 : xa_allOK xb_G xb_S 11 := xa_all_ok (es := xt_11) (pls := xp_11) rfl (by decide +kernel)
def xp_12 : List (List Nat) := [[], [259], [458, 459, 460, 57, 461], [], [], [], [], [253], [101], [], [], [], [], [], [259], [595, 2, 0], [], [], [597, 3, 0], [], [], [463, 464, 465, 57, 466], [], [], [253], [101], [], [], [], [], [], [], [], [], [259], [], [253], [89], [], [], [], [253], [92], [], [], [463, 464, 465, 57, 466], [], [], [], [259], [469, 470, 471, 57, 472], []]
set_option maxRecDepth 100000 in
theorem xo_12 : xa_allOK xb_G xb_S 12 := xa_all_ok (es := xt_12) (pls := xp_12) rfl (by decide +kernel)
def xp_13 : List (List Nat) := [[], [], [], [453, 433, 434, 56, 435], [454, 455, 456, 56, 457], []]
set_option maxRecDepth 100000 in
theorem xo_13 : xa_allOK xb_G xb_S 13 := xa_all_ok (es := xt_13) (pls := xp_13) rfl (by decide +kernel)
def xp_14 : List (List Nat) := [[], [], [], [], [], [], [253], [101], [], [], [253], [98], [], [], [], [], [], [], [253], [98], [], [], [490, 426, 60, 427], [], [], [256], [], [], [], [], [], [], [256], [], [], [490, 426, 60, 427], [], [], [], [], []]
set_option maxRecDepth 100000 in
theorem xo_14 : xa_allOK xb_G xb_S 14 := xa_all_ok (es := xt_14) (pls := xp_14) rfl (by decide +kernel)
def xp_15 : List (List Nat) := [[], [], [485, 450, 451, 56, 452], [], [], [], [486, 488, 3, 56, 489], [], [], [], [], [], [], [], [], [], [], [], [485, 450, 451, 56, 452], [], [], [], [], [], [], [486, 488, 3, 56, 489], [], [], [], [], [], [], []]
set_option maxRecDepth 100000 in
theorem xo_15 : xa_allOK xb_G xb_S 15 := xa_all_ok (es := xt_15) (pls := xp_15) rfl (by decide +kernel)
def xp_16 : List (List Nat) := [[], [], [], [500, 482, 483, 56, 484], [], [], [], [], [], []]
set_option maxRecDepth 100000 in
theorem xo_16 : xa_allOK xb_G xb_S 16 := xa_all_ok (es := xt_16) (pls := xp_16) rfl (by decide +kernel)
def xp_17 : List (List Nat) := [[], [], [], [], [], [], [], [499, 381, 60, 382], [], [500, 482, 483, 56, 484], [], [], [], [], [], [], [], [], [], [], [], [], [], [500, 482, 483, 56, 484], [], [], [], [], []]
set_option maxRecDepth 100000 in
theorem xo_17 : xa_allOK xb_G xb_S 17 := xa_all_ok (es := xt_17) (pls := xp_17) rfl (by decide +kernel)
def xp_18 : List (List Nat) := [[], [], [], [], [], [], [], [], [], [], [], [], [485, 450, 451, 56, 452], [], [], [], [], [], [], [486, 488, 3, 56, 489], [], [], [], [], []]
set_option maxRecDepth 100000 in
theorem xo_18 : xa_allOK xb_G xb_S 18 := xa_all_ok (es := xt_18) (pls := xp_18) rfl (by decide +kernel)
def xp_19 : List (List Nat) := [[], [], [], [], [], [], [], [], [], [], [], [], [], [], [486, 488, 3, 56, 489], [], [], [], [485, 450, 451, 56, 452], [], [], [], [], [], [], [], [], [], [], [], [], [], []]
set_option maxRecDepth 100000 in
theorem xo_19 : xa_allOK xb_G xb_S 19 := xa_all_ok (es := xt_19) (pls := xp_19) rfl (by decide +kernel)
def xp_20 : List (List Nat) := [[], [], [485, 450, 451, 56, 452], [], [], [], [], [], [], [], [], [], [], [253], [101], [], [], [253], [95], [], [], [], [], [], [256], [], [], [], [], [], [253], [98], [], [], [418, 419, 420, 56, 421], [], [], [], [], [], [485, 450, 451, 56, 452], [], [], [], [], [], [586, 527, 528, 56, 529], [], [], [], [], [], [], []]
set_option maxRecDepth 100000 in
theorem xo_20 : xa_allOK xb_G xb_S 20 := xa_all_ok (es := xt_20) (pls := xp_20) rfl (by decide +kernel)
def xp_21 : List (List Nat) := [[], [87, 73, 74], [], [], [121], [88], [], [], [121], [91], [], [], [121], [94], [], [], [121], [97], [], [], [100], [], [], [104], []]
set_option maxRecDepth 100000 in
theorem xo_21 : xa_allOK xb_G xb_S 21 := xa_all_ok (es := xt_21) (pls := xp_21) rfl (by decide +kernel)
def xp_22 : List (List Nat) := [[], [100], [], [], [], [], [], []]
set_option maxRecDepth 100000 in
theorem xo_22 : xa_allOK xb_G xb_S 22 := xa_all_ok (es := xt_22) (pls := xp_22) rfl (by decide +kernel)
def xp_23 : List (List Nat) := [[], [368, 361, 362, 52, 363], [], [], [], [88], [], [100], [], [], [], [91], [], [100], [], [], [], [94], [], [100], [], [], [], [97], [], [100], [], [], [], [], [100], [], [], [100], []]
set_option maxRecDepth 100000 in
theorem xo_23 : xa_allOK xb_G xb_S 23 := xa_all_ok (es := xt_23) (pls := xp_23) rfl (by decide +kernel)
def xp_24 : List (List Nat) := [[], [], [], [], [100], [], [], [], [], [88], [], [], [88], [], [], [], [], [], [], [91], [], [], [91], [], [], [], [], [], [], [94], [], [], [94], [], [], [], [], [], [], [97], [], [], [97], [], [], [], [], [], [], [], [], [], [100], [], [], [100], []]
set_option maxRecDepth 100000 in
theorem xo_24 : xa_allOK xb_G xb_S 24 := xa_all_ok (es := xt_24) (pls := xp_24) rfl (by decide +kernel)
def xp_25 : List (List Nat) := [[], [], [], [], [100], [], [], [88], [], [], [88], [], [], [], [], [91], [], [], [91], [], [], [], [], [94], [], [], [94], [], [], [], [], [97], [], [], [97], [], [], [], [], [], [], [], [100], [100], [], [], [104], [104], []]
set_option maxRecDepth 100000 in
theorem xo_25 : xa_allOK xb_G xb_S 25 := xa_all_ok (es := xt_25) (pls := xp_25) rfl (by decide +kernel)
def xp_26 : List (List Nat) := [[], [236, 73, 74], []]
set_option maxRecDepth 100000 in
theorem xo_26 : xa_allOK xb_G xb_S 26 := xa_all_ok (es := xt_26) (pls := xp_26) rfl (by decide +kernel)
def xp_27 : List (List Nat) := [[], [], [237], [], [462], [238], [], [], [239], [], [], [240], [], [], [241], []]
set_option maxRecDepth 100000 in
theorem xo_27 : xa_allOK xb_G xb_S 27 := xa_all_ok (es := xt_27) (pls := xp_27) rfl (by decide +kernel)
def xp_28 : List (List Nat) := [[], [], [], [], [], [], [], [], [], [], [], [], [], [], [], [240], [], [], [], [241], [], [], [], [], [], [], [239], [], [], [], [], [239], [], [], [], [], [], [], [], [], [237], [], [238], [], [237], [], [462], [238], [], [], [240], [], [467, 1, 0], [], [], [], [], [], [238], [], [239], [], [462], [], [], [], [], [], [238], [], [], [239], [], [], [240], []]
set_option maxRecDepth 100000 in
theorem xo_28 : xa_allOK xb_G xb_S 28 := xa_all_ok (es := xt_28) (pls := xp_28) rfl (by decide +kernel)
def xp_29 : List (List Nat) := [[], [241], [], [], [240], [], [], [], [], [237], [], [238], [], []]
set_option maxRecDepth 100000 in
theorem xo_29 : xa_allOK xb_G xb_S 29 := xa_all_ok (es := xt_29) (pls := xp_29) rfl (by decide +kernel)
def xp_30 : List (List Nat) := [[], [273, 73, 74], [], [], [121], [274], [], [], [276], [], [], [278], []]
set_option maxRecDepth 100000 in
theorem xo_30 : xa_allOK xb_G xb_S 30 := xa_all_ok (es := xt_30) (pls := xp_30) rfl (by decide +kernel)
def xp_31 : List (List Nat) := [[], [276], [], [], [], [], []]
set_option maxRecDepth 100000 in
theorem xo_31 : xa_allOK xb_G xb_S 31 := xa_all_ok (es := xt_31) (pls := xp_31) rfl (by decide +kernel)
def xp_32 : List (List Nat) := [[], [], [276], [], [], [], [], [], [], [278], [], [], [], [], [278], [], [], [274], [], [], [], [], [], []]
set_option maxRecDepth 100000 in
theorem xo_32 : xa_allOK xb_G xb_S 32 := xa_all_ok (es := xt_32) (pls := xp_32) rfl (by decide +kernel)
def xp_33 : List (List Nat) := [[], [276], [], [], [], [274], [], [], [], [], [], [], [274], [], [], [276], [], [], [], [], [], [], [], []]
set_option maxRecDepth 100000 in
theorem xo_33 : xa_allOK xb_G xb_S 33 := xa_all_ok (es := xt_33) (pls := xp_33) rfl (by decide +kernel)
def xp_34 : List (List Nat) := [[], [], [], [], [], [], [278], [], [], [], [278], [], [], [], [], [], [], []]
set_option maxRecDepth 100000 in
theorem xo_34 : xa_allOK xb_G xb_S 34 := xa_all_ok (es := xt_34) (pls := xp_34) rfl (by decide +kernel)
def xp_35 : List (List Nat) := [[], [162, 73, 74], [], [], [121], [163], [], [], [164], [], [], [165], [], [], [167], [], [], [169], [], [], [171], []]
set_option maxRecDepth 100000 in
theorem xo_35 : xa_allOK xb_G xb_S 35 := xa_all_ok (es := xt_35) (pls := xp_35) rfl (by decide +kernel)
def xp_36 : List (List Nat) := [[], [165], [], [], [], [163], [], [165], [], [], [], [], [165], [], [], [165], []]
set_option maxRecDepth 100000 in
theorem xo_36 : xa_allOK xb_G xb_S 36 := xa_all_ok (es := xt_36) (pls := xp_36) rfl (by decide +kernel)
def xp_37 : List (List Nat) := [[], [], [164], [], [668, 669, 670, 53, 671], []]
set_option maxRecDepth 100000 in
theorem xo_37 : xa_allOK xb_G xb_S 37 := xa_all_ok (es := xt_37) (pls := xp_37) rfl (by decide +kernel)
def xp_38 : List (List Nat) := [[], [], [164], [167], [], [167], [], [165], [], [], [163], [], [167], [], [], [], [], [], [167], [], [], [167], [], [], [], [167], [164], [], [], [171], [], [164], [], [165], [], [], [163], [], [164], [], [672, 673, 53, 674], [], [], [], [164], [], [], [164], [], [], [164], [], [167], [], [], [], [169], [], [], [164], [], [165], [], [], [163], [], [164], [], [675, 676, 53, 677], [], [], [171], [], [], [], [], [], [171], [], [], [163], [], [164], [], [], [], [], [171], [], [], [164], [], [], [164], [], [], [164], [], [167], [], [], [], [169], [], [], [167], [], [165], [], [], [], [169], [], [], [], [163], [], [167], [], [], [], [], [], [], [169], [], [], [167], [], [], [164], []]
set_option maxRecDepth 100000 in
theorem xo_38 : xa_allOK xb_G xb_S 38 := xa_all_ok (es := xt_38) (pls := xp_38) rfl (by decide +kernel)
def xp_39 : List (List Nat) := [[], [], [], [], [], [], [], [], [], []]
set_option maxRecDepth 100000 in
theorem xo_39 : xa_allOK xb_G xb_S 39 := xa_all_ok (es := xt_39) (pls := xp_39) rfl (by decide +kernel)
def xp_40 : List (List Nat) := [[], [], [], [], [], [], [], [], [], []]
set_option maxRecDepth 100000 in
theorem xo_40 : xa_allOK xb_G xb_S 40 := xa_all_ok (es := xt_40) (pls := xp_40) rfl (by decide +kernel)
def xp_41 : List (List Nat) := [[], [169], [], [], [], [164], [], [167], [], [], [691, 692, 693, 63, 694], [], [], [], [], [], [], [], [691, 692, 693, 63, 694], [], [], [163], [], [167], [], [], [], [], [], [701, 702, 703, 63, 704], [], [], [], [], [], [], []]
set_option maxRecDepth 100000 in
theorem xo_41 : xa_allOK xb_G xb_S 41 := xa_all_ok (es := xt_41) (pls := xp_41) rfl (by decide +kernel)
def xp_42 : List (List Nat) := [[], [169], [], [], [], [164], [], [167], [], [], [], [], [163], [], [167], [], [], [], [], [], [], [163], [], [167], [], [], [], []]
set_option maxRecDepth 100000 in
theorem xo_42 : xa_allOK xb_G xb_S 42 := xa_all_ok (es := xt_42) (pls := xp_42) rfl (by decide +kernel)
def xp_43 : List (List Nat) := [[], [191, 73, 74], [], [], [194], [], [], [192], [], [], [193], []]
set_option maxRecDepth 100000 in
theorem xo_43 : xa_allOK xb_G xb_S 43 := xa_all_ok (es := xt_43) (pls := xp_43) rfl (by decide +kernel)
def xp_44 : List (List Nat) := [[], [192], [664, 665, 666, 53, 667], [], [], [], [], [], [], [678, 680, 10, 54, 681], [], [], [192], [170], [], [], [], [], [192], [170], [], [], [], [], [192], [739, 669, 670, 53, 671], [], [], [], [], [192], [168], [], []]
set_option maxRecDepth 100000 in
theorem xo_44 : xa_allOK xb_G xb_S 44 := xa_all_ok (es := xt_44) (pls := xp_44) rfl (by decide +kernel)
def xp_45 : List (List Nat) := [[], [0], [683, 685, 11, 54, 686], [], [], [740, 742, 12, 54, 743], [], [], [1], [683, 685, 11, 54, 686], [], [], [752, 754, 14, 54, 755], [], [], [2], [683, 685, 11, 54, 686], [], [], [759, 761, 15, 54, 762], [], [], [], [], []]
set_option maxRecDepth 100000 in
theorem xo_45 : xa_allOK xb_G xb_S 45 := xa_all_ok (es := xt_45) (pls := xp_45) rfl (by decide +kernel)
def xp_46 : List (List Nat) := [[], [], [], [744, 746, 13, 54, 747], [], [], [], [], [194], [], [], [3], [683, 685, 11, 54, 686], [], [], [], [], [744, 746, 13, 54, 747], [], [], [], [], [193], [124], [], [], [194], [], [], [4], [683, 685, 11, 54, 686], [], [], [], [], [], [], [744, 746, 13, 54, 747], [], [], [], [], [193], [127], [], [], [194], [], [], []]
set_option maxRecDepth 100000 in
theorem xo_46 : xa_allOK xb_G xb_S 46 := xa_all_ok (es := xt_46) (pls := xp_46) rfl (by decide +kernel)
def xp_47 : List (List Nat) := [[], [], [], [744, 746, 13, 54, 747], [], [], [], [], [193], [130], [], [194], [], [], [], [5], [683, 685, 11, 54, 686], [], [], [], [107], [], [], [], [6], [683, 685, 11, 54, 686], [], [], [], [107], [], [], [], []]
set_option maxRecDepth 100000 in
theorem xo_47 : xa_allOK xb_G xb_S 47 := xa_all_ok (es := xt_47) (pls := xp_47) rfl (by decide +kernel)
def xp_48 : List (List Nat) := [[], [], [], [744, 746, 13, 54, 747], [], [], [], [], [193], [130], [], [194], [], [], [], [], [], [0], [683, 685, 11, 54, 686], [], [], [], [], [744, 746, 13, 54, 747], [], [], [], [], [194], [], [], [], [], [763, 765, 16, 54, 766], [], [], [], [], [], [], [], [777, 361, 362, 52, 363], [], [], [], [], [], [778, 780, 17, 54, 781], [], [], [], [], [], [763, 765, 16, 54, 766], [], [], [], [], [], [], [], []]
set_option maxRecDepth 100000 in
theorem xo_48 : xa_allOK xb_G xb_S 48 := xa_all_ok (es := xt_48) (pls := xp_48) rfl (by decide +kernel)
def xp_49 : List (List Nat) := [[], [192], [767, 768, 769, 53, 770], [], [], [], [], [192], [7], [687, 688, 689, 53, 690], [], [], [], [], [192], [8], [687, 688, 689, 53, 690], [], [], [], [], [192], [9], [687, 688, 689, 53, 690], [], [], [], [], [192], [10], [687, 688, 689, 53, 690], [], [], [], [], [192], [11], [687, 688, 689, 53, 690], [], [], [], [], [192], [12], [687, 688, 689, 53, 690], [], [], [], [], []]
set_option maxRecDepth 100000 in
theorem xo_49 : xa_allOK xb_G xb_S 49 := xa_all_ok (es := xt_49) (pls := xp_49) rfl (by decide +kernel)
def xp_50 : List (List Nat) := [[], [], [], [], [], [], [], [192], [739, 669, 670, 53, 671], [], [], [], [], [782, 783, 50, 784], [], [], [192], [767, 768, 769, 53, 770], [], [], [], [], [], [], [], [], [], [], [193], [137], [787, 365, 366, 52, 367], [], [192], [739, 669, 670, 53, 671], [], []]
set_option maxRecDepth 100000 in
theorem xo_50 : xa_allOK xb_G xb_S 50 := xa_all_ok (es := xt_50) (pls := xp_50) rfl (by decide +kernel)
def xp_51 : List (List Nat) := [[], [192], [], [687, 688, 689, 53, 690], [], [], [], [], [192], [739, 669, 670, 53, 671], [], []]
set_option maxRecDepth 100000 in
theorem xo_51 : xa_allOK xb_G xb_S 51 := xa_all_ok (es := xt_51) (pls := xp_51) rfl (by decide +kernel)
def xp_52 : List (List Nat) := [[], [192], [170], [], [], [], [192], [172], [], [], [748, 326, 50, 327], [], [], [], [], [], [], [], [], [], [192], [172], [194], [], [192], [739, 669, 670, 53, 671], [], []]
set_option maxRecDepth 100000 in
theorem xo_52 : xa_allOK xb_G xb_S 52 := xa_all_ok (es := xt_52) (pls := xp_52) rfl (by decide +kernel)
def xp_53 : List (List Nat) := [[], [80, 73, 74], [], [], [121], [122], [], [], [121], [125], [], [], [81], [128], [], [], [121], [131], [], [], [121], [133], [], [], [135], [], [], [138], [], [], [], [], [], [], [122], [], [], [], [], [125], [], [], [], [], [], [], [], [], [], [], [], [128], [], [81, 83, 52], [], [84, 85, 52, 86], [], [], [], [], [], [], [], [], [], [133], [], [], [], [], [], []]
set_option maxRecDepth 100000 in
theorem xo_53 : xa_allOK xb_G xb_S 53 := xa_all_ok (es := xt_53) (pls := xp_53) rfl (by decide +kernel)
def xp_54 : List (List Nat) := [[], [122], [], [], [122], [], [], [653, 655, 654, 62], [], [125], [], [], [125], [], [], [653, 655, 654, 62], [], [131], [], [], [131], [], [], [653, 655, 654, 62], [], [133], [], [], [133], [], [], [653, 655, 654, 62], [], [], [], [], [], [], [128], [], [], [], [128], [], [], [656, 657, 658, 52, 659], [], [], [], [], [135], [135], [], [], [138], [138], []]
set_option maxRecDepth 100000 in
theorem xo_54 : xa_allOK xb_G xb_S 54 := xa_all_ok (es := xt_54) (pls := xp_54) rfl (by decide +kernel)
def xp_55 : List (List Nat) := [[], [], [], [], [], [], [131], [], [], [], [], [], [133], [], [], [], [], [], [133], [], [], [], [], [], [131], [], [], [], [], [], [133], [], [], [], [], [], [133], [], [], [], [], [], [], [], [], []]
set_option maxRecDepth 100000 in
theorem xo_55 : xa_allOK xb_G xb_S 55 := xa_all_ok (es := xt_55) (pls := xp_55) rfl (by decide +kernel)
def xp_56 : List (List Nat) := [[], [], [], [], [], [], [], [], [133], [], [], [], [], [], [], [], []]
set_option maxRecDepth 100000 in
theorem xo_56 : xa_allOK xb_G xb_S 56 := xa_all_ok (es := xt_56) (pls := xp_56) rfl (by decide +kernel)
def xp_57 : List (List Nat) := [[], [], [138], [627], [], [], [], [138], [], [138], [], [], []]
set_option maxRecDepth 100000 in
theorem xo_57 : xa_allOK xb_G xb_S 57 := xa_all_ok (es := xt_57) (pls := xp_57) rfl (by decide +kernel)
def xp_58 : List (List Nat) := [[], [72, 73, 74], [], [75, 76, 51], [], [77, 78, 51, 79], [287], [], [75, 76, 51], [], [77, 78, 51, 79], [288], [], [75, 76, 51], [], [77, 78, 51, 79], [289], [], [], [155], [290], [], [157, 158, 53], [], [159, 160, 53, 161], [291], [], [186, 187, 54], [], [], [291], [], [287], [188, 189, 54, 190], [292], [], [], [202], [293], [], [], [121], [294], [], [], [121], [295], [], [204, 205, 55], [], [206, 207, 55, 208], [296], [], [], [297], [], [], [], [], [], [], [290], [], [155, 226, 56], [], [], [287], [129], [], [], [], [287], [123], [227, 228, 56, 229], [], [], [], [], [], [], [], [], [], [293], [], [202, 269, 58], [], [270, 271, 58, 272], [], [], [], []]
set_option maxRecDepth 100000 in
theorem xo_58 : xa_allOK xb_G xb_S 58 := xa_all_ok (es := xt_58) (pls := xp_58) rfl (by decide +kernel)
def xp_59 : List (List Nat) := [[], [], [], [325, 326, 50, 327], [], [], [], [328, 330, 0, 50, 331], [], [], [287], [136], [], [], [], [], [], [], [328, 330, 0, 50, 331], [], [], [287], [], [136], [], [], [136], [], [287], [136], []]
set_option maxRecDepth 100000 in
theorem xo_59 : xa_allOK xb_G xb_S 59 := xa_all_ok (es := xt_59) (pls := xp_59) rfl (by decide +kernel)
def xp_60 : List (List Nat) := [[], [337, 338, 50, 339], [], [], [], [328, 330, 0, 50, 331], [], [], [], [], [], [], [325, 326, 50, 327], [], [], [287], [123], [], [], [340, 341, 50, 342], [], [], [], [], [], [], [], [325, 326, 50, 327], [], [], [287], [126], [], [], [340, 341, 50, 342], [], [], [], [328, 330, 0, 50, 331], []]
set_option maxRecDepth 100000 in
theorem xo_60 : xa_allOK xb_G xb_S 60 := xa_all_ok (es := xt_60) (pls := xp_60) rfl (by decide +kernel)
def xp_61 : List (List Nat) := [[], [347, 348, 50, 349], [], [], [], [328, 330, 0, 50, 331], [], [], [287], [129], [], [], [106], [], [], [287], [129], [], [], [], [106], [], [], [], [], [], []]
set_option maxRecDepth 100000 in
theorem xo_61 : xa_allOK xb_G xb_S 61 := xa_all_ok (es := xt_61) (pls := xp_61) rfl (by decide +kernel)
def xp_62 : List (List Nat) := [[], [347, 348, 50, 349], [], [], [354, 355, 50, 356], [], [], [357, 358, 50, 359], [], [], [337, 338, 50, 339], [], [], [], [328, 330, 0, 50, 331], [], [], [287], [129], [], [], [], [], [360, 361, 362, 52, 363], [], [], [], [328, 330, 0, 50, 331], [], [], [], [], [], [], [287], [136], [364, 365, 366, 52, 367], [], [103], [], [], []]
set_option maxRecDepth 100000 in
theorem xo_62 : xa_allOK xb_G xb_S 62 := xa_all_ok (es := xt_62) (pls := xp_62) rfl (by decide +kernel)
def xp_63 : List (List Nat) := [[], [], [], [373, 375, 1, 50, 376], [], [], [], [328, 330, 0, 50, 331], [], [], [287], [129], [], [], [], [], [], [], [90], [], [], [], [], [93], [], [], [], [], [96], [], [], [], [], [99], [], [], [], [], [90], [], [], [], [287], [123], [], [96], [], [], [], [377, 378, 50, 379], [], [], [], [328, 330, 0, 50, 331], []]
set_option maxRecDepth 100000 in
theorem xo_63 : xa_allOK xb_G xb_S 63 := xa_all_ok (es := xt_63) (pls := xp_63) rfl (by decide +kernel)
def xp_64 : List (List Nat) := [[], [], [], [373, 375, 1, 50, 376], [], [], [354, 355, 50, 356], [], [], [], [328, 330, 0, 50, 331], [], [], [287], [129], [], [], [90], [], [], [340, 341, 50, 342], []]
set_option maxRecDepth 100000 in
theorem xo_64 : xa_allOK xb_G xb_S 64 := xa_all_ok (es := xt_64) (pls := xp_64) rfl (by decide +kernel)
def xp_65 : List (List Nat) := [[], [], [], [373, 375, 1, 50, 376], [], [], [], [328, 330, 0, 50, 331], [], [], [287], [129], [], [], [], [391, 392, 393, 52, 394], [], [287], [], [], [395, 396, 397, 51, 398], [], [287], [129], [], [], [103], []]
set_option maxRecDepth 100000 in
theorem xo_65 : xa_allOK xb_G xb_S 65 := xa_all_ok (es := xt_65) (pls := xp_65) rfl (by decide +kernel)
def xp_66 : List (List Nat) := [[], [], [], [373, 375, 1, 50, 376], [], [], [337, 338, 50, 339], [], [], [], [328, 330, 0, 50, 331], [], [], [287], [129], [], [], [99], [], [], [287], [136], [], [], [287], [129], [], [], [96], [], [], [340, 341, 50, 342], []]
set_option maxRecDepth 100000 in
theorem xo_66 : xa_allOK xb_G xb_S 66 := xa_all_ok (es := xt_66) (pls := xp_66) rfl (by decide +kernel)
def xp_67 : List (List Nat) := [[], [347, 348, 50, 349], [], [], [407, 408, 50, 409], [], [], [], [328, 330, 0, 50, 331], [], [], [], [410, 412, 2, 50, 413], [], [432, 433, 434, 56, 435], []]
set_option maxRecDepth 100000 in
theorem xo_67 : xa_allOK xb_G xb_S 67 := xa_all_ok (es := xt_67) (pls := xp_67) rfl (by decide +kernel)
def xp_68 : List (List Nat) := [[], [], [], [373, 375, 1, 50, 376], [], [], [407, 408, 50, 409], [], [], [], [328, 330, 0, 50, 331], [], [], [287], [129], [], [], [], [], [], [99], [], [], [], [], [], [328, 330, 0, 50, 331], [], [], [106], [], [440, 423, 50, 424], [], [106], [], [99], [], [], [440, 423, 50, 424], [], []]
set_option maxRecDepth 100000 in
theorem xo_68 : xa_allOK xb_G xb_S 68 := xa_all_ok (es := xt_68) (pls := xp_68) rfl (by decide +kernel)
def xp_69 : List (List Nat) := [[], [], [], [373, 375, 1, 50, 376], [], [], [], [328, 330, 0, 50, 331], [], [], [], [410, 412, 2, 50, 413], [258], [], [], [], [], [], [], [], [], [328, 330, 0, 50, 331], [], [], []]
set_option maxRecDepth 100000 in
theorem xo_69 : xa_allOK xb_G xb_S 69 := xa_all_ok (es := xt_69) (pls := xp_69) rfl (by decide +kernel)
def xp_70 : List (List Nat) := [[], [347, 348, 50, 349], [], [], [407, 408, 50, 409], [], [], [], [328, 330, 0, 50, 331], [], [], [], [410, 412, 2, 50, 413], [], [449, 450, 451, 56, 452], []]
set_option maxRecDepth 100000 in
theorem xo_70 : xa_allOK xb_G xb_S 70 := xa_all_ok (es := xt_70) (pls := xp_70) rfl (by decide +kernel)
def xp_71 : List (List Nat) := [[], [347, 348, 50, 349], [], [], [407, 408, 50, 409], [], [], [], [], [325, 326, 50, 327], [], [], [], [328, 330, 0, 50, 331], [], [], [], [410, 412, 2, 50, 413], [], [449, 450, 451, 56, 452], [], [], [], [], [], [], [328, 330, 0, 50, 331], [], [], [], [], [], [], []]
set_option maxRecDepth 100000 in
theorem xo_71 : xa_allOK xb_G xb_S 71 := xa_all_ok (es := xt_71) (pls := xp_71) rfl (by decide +kernel)
def xp_72 : List (List Nat) := [[], [347, 348, 50, 349], [], [], [], [328, 330, 0, 50, 331], [], [], [], [410, 412, 2, 50, 413], [], [287], [136], [], [481, 482, 483, 56, 484], [], [], [], [], [], [], [328, 330, 0, 50, 331], [], [], []]
set_option maxRecDepth 100000 in
theorem xo_72 : xa_allOK xb_G xb_S 72 := xa_all_ok (es := xt_72) (pls := xp_72) rfl (by decide +kernel)
def xp_73 : List (List Nat) := [[], [347, 348, 50, 349], [], [], [407, 408, 50, 409], [], [], [407, 408, 50, 409], [], [], [], [], [], [], [328, 330, 0, 50, 331], [], [], [], [410, 412, 2, 50, 413], [], [], [495, 496, 497, 56, 498], []]
set_option maxRecDepth 100000 in
theorem xo_73 : xa_allOK xb_G xb_S 73 := xa_all_ok (es := xt_73) (pls := xp_73) rfl (by decide +kernel)
def xp_74 : List (List Nat) := [[], [347, 348, 50, 349], [], [], [], [505], [325, 326, 50, 327], [], [], [], [328, 330, 0, 50, 331], [], [], [], [410, 412, 2, 50, 413], [], [], [287], [136], [506, 507, 508, 56, 509], [], [], [], [], [], [], [328, 330, 0, 50, 331], [], [], []]
set_option maxRecDepth 100000 in
theorem xo_74 : xa_allOK xb_G xb_S 74 := xa_all_ok (es := xt_74) (pls := xp_74) rfl (by decide +kernel)
def xp_75 : List (List Nat) := [[], [347, 348, 50, 349], [], [], [], [505], [325, 326, 50, 327], [], [], [], [328, 330, 0, 50, 331], [], [], [], [410, 412, 2, 50, 413], [], [], [287], [136], [514, 515, 516, 56, 517], []]
set_option maxRecDepth 100000 in
theorem xo_75 : xa_allOK xb_G xb_S 75 := xa_all_ok (es := xt_75) (pls := xp_75) rfl (by decide +kernel)
def xp_76 : List (List Nat) := [[], [347, 348, 50, 349], [], [], [347, 348, 50, 349], [], [], [407, 408, 50, 409], [], [], [], [328, 330, 0, 50, 331], [], [], [], [410, 412, 2, 50, 413], [], [449, 450, 451, 56, 452], [], [], [410, 412, 2, 50, 413], [], [449, 450, 451, 56, 452], [], [], [], [], []]
set_option maxRecDepth 100000 in
theorem xo_76 : xa_allOK xb_G xb_S 76 := xa_all_ok (es := xt_76) (pls := xp_76) rfl (by decide +kernel)
def xp_77 : List (List Nat) := [[], [347, 348, 50, 349], [], [], [407, 408, 50, 409], [], [], [], [328, 330, 0, 50, 331], [], [], [], [287], [136], [], [], [], [328, 330, 0, 50, 331], [], [], [], [410, 412, 2, 50, 413], [], [287], [136], [], [526, 527, 528, 56, 529], [], [], [], [], []]
set_option maxRecDepth 100000 in
theorem xo_77 : xa_allOK xb_G xb_S 77 := xa_all_ok (es := xt_77) (pls := xp_77) rfl (by decide +kernel)
def xp_78 : List (List Nat) := [[], [], [], [373, 375, 1, 50, 376], [], [], [], [], [373, 375, 1, 50, 376], [], [], [], [], [], [], [], [325, 326, 50, 327], [], [], [], [328, 330, 0, 50, 331], [], [], [], [410, 412, 2, 50, 413], [], [], [], [], [], [], [], [], [], [], [], [287], [136], [432, 433, 434, 56, 435], [], [], [], [], [], [287], [136], [], [], [], [], [], [], [328, 330, 0, 50, 331], [], [], [], [], [], [], [287], [136], [], [], [534, 536, 4, 50, 537], [], [], [], [], [], [328, 330, 0, 50, 331], [], [], []]
set_option maxRecDepth 100000 in
theorem xo_78 : xa_allOK xb_G xb_S 78 := xa_all_ok (es := xt_78) (pls := xp_78) rfl (by decide +kernel)
def xp_79 : List (List Nat) := [[], [347, 348, 50, 349], [], [], [337, 338, 50, 339], [], [], [], [], [325, 326, 50, 327], [], [], [], [328, 330, 0, 50, 331], [], [], [287], [136], [], [], [], [], [], [], [328, 330, 0, 50, 331], [], [], [296], [], [], [410, 412, 2, 50, 413], [], [287], [123], [], [], [], [287], [136], [], [287], [136], [], [], [543, 544, 545, 55, 546], [], [], [], [], [], [328, 330, 0, 50, 331], [], [], []]
set_option maxRecDepth 100000 in
theorem xo_79 : xa_allOK xb_G xb_S 79 := xa_all_ok (es := xt_79) (pls := xp_79) rfl (by decide +kernel)
def xp_80 : List (List Nat) := [[], [347, 348, 50, 349], [], [], [337, 338, 50, 339], [], [], [], [], [325, 326, 50, 327], [], [], [], [328, 330, 0, 50, 331], [], [], [287], [136], [], [], [], [], [], [], [328, 330, 0, 50, 331], [], [], [], [410, 412, 2, 50, 413], [], [], [287], [136], [], [287], [136], [], [], [582, 583, 584, 56, 585], [], [], [], [], [], [328, 330, 0, 50, 331], [], [], []]
set_option maxRecDepth 100000 in
theorem xo_80 : xa_allOK xb_G xb_S 80 := xa_all_ok (es := xt_80) (pls := xp_80) rfl (by decide +kernel)
def xp_81 : List (List Nat) := [[], [347, 348, 50, 349], [], [], [], [328, 330, 0, 50, 331], [], [], [], [410, 412, 2, 50, 413], [], [], [], [287], [136], [432, 433, 434, 56, 435], [], [], [], [], [], [], [], [287], [129], [], [], [103], [], [], [], [], [], [], [], [], [], [], [591, 592, 593, 56, 594], [], [], [], [], [], [295], [], [], [599, 559, 50, 560], [], [], [295], [], [], [], [], [], [], [], [], [], []]
set_option maxRecDepth 100000 in
theorem xo_81 : xa_allOK xb_G xb_S 81 := xa_all_ok (es := xt_81) (pls := xp_81) rfl (by decide +kernel)
def xp_82 : List (List Nat) := [[], [347, 348, 50, 349], [], [], [], [505], [325, 326, 50, 327], [], [], [], [328, 330, 0, 50, 331], [], [], [], [410, 412, 2, 50, 413], [], [], [], [287], [136], [432, 433, 434, 56, 435], [], [], [], [], [], [287], [129], [], [], [103], [], [], [], [], [], [], [], [], [], [], [591, 592, 593, 56, 594], [], [], [], [], [], [], [604, 2], [], [], [], [], [605, 3], [], [], [], [], [], [], [], [], [], [], [328, 330, 0, 50, 331], []]
set_option maxRecDepth 100000 in
theorem xo_82 : xa_allOK xb_G xb_S 82 := xa_all_ok (es := xt_82) (pls := xp_82) rfl (by decide +kernel)
def xp_83 : List (List Nat) := [[], [347, 348, 50, 349], [], [], [337, 338, 50, 339], [], [], [407, 408, 50, 409], [], [], [], [328, 330, 0, 50, 331], [], [], [], [], [], [610, 612, 9, 50, 613], []]
set_option maxRecDepth 100000 in
theorem xo_83 : xa_allOK xb_G xb_S 83 := xa_all_ok (es := xt_83) (pls := xp_83) rfl (by decide +kernel)
def xp_84 : List (List Nat) := [[], [347, 348, 50, 349], [], [], [337, 338, 50, 339], [], [], [407, 408, 50, 409], [], [], [], [328, 330, 0, 50, 331], [], [], [], [], [], [610, 612, 9, 50, 613], [], [], [], [], [], [328, 330, 0, 50, 331], [], [], [], [], []]
set_option maxRecDepth 100000 in
theorem xo_84 : xa_allOK xb_G xb_S 84 := xa_all_ok (es := xt_84) (pls := xp_84) rfl (by decide +kernel)
def xp_85 : List (List Nat) := [[], [347, 348, 50, 349], [], [], [], [], [325, 326, 50, 327], [], [], [337, 338, 50, 339], [], [], [], [328, 330, 0, 50, 331], [], [], [287], [129], [], [], [], [], [103], [], [], [], [328, 330, 0, 50, 331], [], [], [], [], [], [], [], [], [], [287], [623, 624, 625, 51, 626], [], [103], [], [], [], [99], [], [], [287], [136], [], [], [96], [], [], [], [], [], [], [], [], [], [], [], [], [628, 569, 61, 570], []]
set_option maxRecDepth 100000 in
theorem xo_85 : xa_allOK xb_G xb_S 85 := xa_all_ok (es := xt_85) (pls := xp_85) rfl (by decide +kernel)
def xp_86 : List (List Nat) := [[], [287], [139], [], [], [287], [], [139], [], []]
set_option maxRecDepth 100000 in
theorem xo_86 : xa_allOK xb_G xb_S 86 := xa_all_ok (es := xt_86) (pls := xp_86) rfl (by decide +kernel)
def xp_87 : List (List Nat) := [[], [], [], [325, 326, 50, 327], [], [], [], [328, 330, 0, 50, 331], [], [], [291], [166], [], [], [], [], [], [], [328, 330, 0, 50, 331], [], [], [], [], [], [], [], [], [291], [], [], [], [], [], [], [], [637, 638, 639, 53, 640], [], [], [], [291], [166], []]
set_option maxRecDepth 100000 in
theorem xo_87 : xa_allOK xb_G xb_S 87 := xa_all_ok (es := xt_87) (pls := xp_87) rfl (by decide +kernel)
def xp_88 : List (List Nat) := [[], [291], [166], [], [], [291], [], [166], [], []]
set_option maxRecDepth 100000 in
theorem xo_88 : xa_allOK xb_G xb_S 88 := xa_all_ok (es := xt_88) (pls := xp_88) rfl (by decide +kernel)
def xp_89 : List (List Nat) := [[], [289], [], [287], [649, 650, 651, 51, 652], [], [292], [660, 661, 662, 54, 663], [], [], [291], [], [166], [], [], [], [287], [], [289], [649, 650, 651, 51, 652], [], []]
set_option maxRecDepth 100000 in
theorem xo_89 : xa_allOK xb_G xb_S 89 := xa_all_ok (es := xt_89) (pls := xp_89) rfl (by decide +kernel)
def xp_90 : List (List Nat) := [[], [793, 794, 50, 795], [], [], [347, 348, 50, 349], [], [], [], [], [], [], [], [373, 375, 1, 50, 376], [], [], [], [328, 330, 0, 50, 331], [], [], [287], [132], [], [], [], [], [287], [134], [], [], [], [], []]
set_option maxRecDepth 100000 in
theorem xo_90 : xa_allOK xb_G xb_S 90 := xa_all_ok (es := xt_90) (pls := xp_90) rfl (by decide +kernel)
def xp_91 : List (List Nat) := [[], [793, 794, 50, 795], [], [], [354, 355, 50, 356], [], [], [], [328, 330, 0, 50, 331], [], [], [287], [132], [], [], [], [], [287], [134], [], [], [], [], [], [], [373, 375, 1, 50, 376], [], [], [], [328, 330, 0, 50, 331], [], [], [287], [129], [], [], [90], [], [], [], [800, 783, 50, 784], [], [], [], [328, 330, 0, 50, 331], [], [], [], [], [], [], []]
set_option maxRecDepth 100000 in
theorem xo_91 : xa_allOK xb_G xb_S 91 := xa_all_ok (es := xt_91) (pls := xp_91) rfl (by decide +kernel)
def xp_92 : List (List Nat) := [[], [805, 806, 50, 807], [], [], [], [], [], [], [], [], [], [], [], [], [], [], [328, 330, 0, 50, 331], [], [], [], [], [], [328, 330, 0, 50, 331], [], [], [], [], [], [], [328, 330, 0, 50, 331], [], [], [293], [], [], [], [], [808, 809, 810, 58, 811], [], [293], [], [], [279], []]
set_option maxRecDepth 100000 in
theorem xo_92 : xa_allOK xb_G xb_S 92 := xa_all_ok (es := xt_92) (pls := xp_92) rfl (by decide +kernel)
def xp_93 : List (List Nat) := [[], [805, 806, 50, 807], [], [], [], [328, 330, 0, 50, 331], [], [], [293], [], [], [816, 817, 818, 58, 819], [], [], [], [328, 330, 0, 50, 331], [], [], [], [], [293], [], [], [279], [], [], [325, 326, 50, 327], [], [], [], [328, 330, 0, 50, 331], [], [], [293], [], [], [], [], [820, 821, 822, 58, 823], [], []]
set_option maxRecDepth 100000 in
theorem xo_93 : xa_allOK xb_G xb_S 93 := xa_all_ok (es := xt_93) (pls := xp_93) rfl (by decide +kernel)
def xp_94 : List (List Nat) := [[], [805, 806, 50, 807], [], [], [805, 806, 50, 807], [], [], [], [328, 330, 0, 50, 331], [], [], [293], [], [], [816, 817, 818, 58, 819], [], [], [293], [], [], [816, 817, 818, 58, 819], [], [], [], [328, 330, 0, 50, 331], [], [], [293], [], [], [277], [], [293], [], [], [277], [], [], [], [328, 330, 0, 50, 331], [], [], [293], [], [], [], [], [828, 829, 830, 58, 831], [], [], [293], [], [], [], [], [828, 829, 830, 58, 831], [], [], [], [328, 330, 0, 50, 331], [], [], [293], [], [], [275], [], [], [293], [], [], [275], [], [], [832, 655, 654, 62], [], []]
set_option maxRecDepth 100000 in
theorem xo_94 : xa_allOK xb_G xb_S 94 := xa_all_ok (es := xt_94) (pls := xp_94) rfl (by decide +kernel)
def xp_95 : List (List Nat) := [[], [805, 806, 50, 807], [], [], [], [328, 330, 0, 50, 331], [], [], [293], [], [], [], [], [816, 817, 818, 58, 819], [], [], [], [328, 330, 0, 50, 331], [], [], [347, 348, 50, 349], [], [], [337, 338, 50, 339], [], [], [], [328, 330, 0, 50, 331], [], [], [287], [129], [], [], [], [], [], [], [], [279], [], [], [360, 361, 362, 52, 363], [], [], [275], [], [], [837, 838, 50, 839], [], [], [275], [], [], [], [], [], [], [], [], [], [], [], [], [287], [136], [364, 365, 366, 52, 367], [], [], [], []]
set_option maxRecDepth 100000 in
theorem xo_95 : xa_allOK xb_G xb_S 95 := xa_all_ok (es := xt_95) (pls := xp_95) rfl (by decide +kernel)
def xp_96 : List (List Nat) := [[], [805, 806, 50, 807], [], [], [], [328, 330, 0, 50, 331], [], [], [293], [], [], [], [], [816, 817, 818, 58, 819], [], [], [], [328, 330, 0, 50, 331], [], [], [347, 348, 50, 349], [], [], [407, 408, 50, 409], [], [], [], [328, 330, 0, 50, 331], [], [], [], [410, 412, 2, 50, 413], [], [], [], [], [], [279], [], [], [], [], [], [], [], [], [], [], [449, 450, 451, 56, 452], [], [275], [], [], [], [], [], [], [], [], [], [], []]
set_option maxRecDepth 100000 in
theorem xo_96 : xa_allOK xb_G xb_S 96 := xa_all_ok (es := xt_96) (pls := xp_96) rfl (by decide +kernel)
def xp_97 : List (List Nat) := [[], [288], [], [287], [649, 650, 651, 51, 652], [], [], [297], [], []]
set_option maxRecDepth 100000 in
theorem xo_97 : xa_allOK xb_G xb_S 97 := xa_all_ok (es := xt_97) (pls := xp_97) rfl (by decide +kernel)
def xp_98 : List (List Nat) := [[], [297], [], [], [], [328, 330, 0, 50, 331], [], [], [287], [], [288], [649, 650, 651, 51, 652], [], [287], [136], []]
set_option maxRecDepth 100000 in
theorem xo_98 : xa_allOK xb_G xb_S 98 := xa_all_ok (es := xt_98) (pls := xp_98) rfl (by decide +kernel)
def xp_99 : List (List Nat) := [[], [297], [], [], [], [297], [], [], [], [], [], []]
set_option maxRecDepth 100000 in
theorem xo_99 : xa_allOK xb_G xb_S 99 := xa_all_ok (es := xt_99) (pls := xp_99) rfl (by decide +kernel)
def xp_100 : List (List Nat) := [[], [], [], [287], [136], [], [], [860, 862, 18, 50, 863], [], [], [864, 866, 19, 50, 867], [], [], [868, 870, 20, 50, 871], [], [], [291], [166], [], [], [287], [139], [], [], [287], [872, 873, 874, 51, 875], [], [], [], [328, 330, 0, 50, 331], []]
set_option maxRecDepth 100000 in
theorem xo_100 : xa_allOK xb_G xb_S 100 := xa_all_ok (es := xt_100) (pls := xp_100) rfl (by decide +kernel)
def xp_101 : List (List Nat) := [[], [], [], [325, 326, 50, 327], [], [], [], [328, 330, 0, 50, 331], [], [], [], [], [294], [], [], [], [], [], [], [], [], [], [], [], [], [294], [], [], [], [], [], [], [], []]
set_option maxRecDepth 100000 in
theorem xo_101 : xa_allOK xb_G xb_S 101 := xa_all_ok (es := xt_101) (pls := xp_101) rfl (by decide +kernel)
def xp_102 : List (List Nat) := [[], [294], [], [], [], [], [], [], [332], [], [], []]
set_option maxRecDepth 100000 in
theorem xo_102 : xa_allOK xb_G xb_S 102 := xa_all_ok (es := xt_102) (pls := xp_102) rfl (by decide +kernel)
def xp_103 : List (List Nat) := [[], [], [], [], [], [], [], [], [], []]
set_option maxRecDepth 100000 in
theorem xo_103 : xa_allOK xb_G xb_S 103 := xa_all_ok (es := xt_103) (pls := xp_103) rfl (by decide +kernel)
def xp_104 : List (List Nat) := [[], [], [], [325, 326, 50, 327], []]
set_option maxRecDepth 100000 in
theorem xo_104 : xa_allOK xb_G xb_S 104 := xa_all_ok (es := xt_104) (pls := xp_104) rfl (by decide +kernel)
def xp_105 : List (List Nat) := [[], [], [], [325, 326, 50, 327], []]
set_option maxRecDepth 100000 in
theorem xo_105 : xa_allOK xb_G xb_S 105 := xa_all_ok (es := xt_105) (pls := xp_105) rfl (by decide +kernel)
def xp_106 : List (List Nat) := [[], [], [], [325, 326, 50, 327], []]
set_option maxRecDepth 100000 in
theorem xo_106 : xa_allOK xb_G xb_S 106 := xa_all_ok (es := xt_106) (pls := xp_106) rfl (by decide +kernel)
def xp_107 : List (List Nat) := [[], [], [], [325, 326, 50, 327], []]
set_option maxRecDepth 100000 in
theorem xo_107 : xa_allOK xb_G xb_S 107 := xa_all_ok (es := xt_107) (pls := xp_107) rfl (by decide +kernel)
def xp_108 : List (List Nat) := [[], [], [], [325, 326, 50, 327], []]
set_option maxRecDepth 100000 in
theorem xo_108 : xa_allOK xb_G xb_S 108 := xa_all_ok (es := xt_108) (pls := xp_108) rfl (by decide +kernel)
def xp_109 : List (List Nat) := [[], [], [], [325, 326, 50, 327], []]
set_option maxRecDepth 100000 in
theorem xo_109 : xa_allOK xb_G xb_S 109 := xa_all_ok (es := xt_109) (pls := xp_109) rfl (by decide +kernel)
def xp_110 : List (List Nat) := [[], [], [], [325, 326, 50, 327], []]
set_option maxRecDepth 100000 in
theorem xo_110 : xa_allOK xb_G xb_S 110 := xa_all_ok (es := xt_110) (pls := xp_110) rfl (by decide +kernel)
def xp_111 : List (List Nat) := [[], [347, 348, 50, 349], [], [], [], [], [287], [129], [], [], [103], [], [], [325, 326, 50, 327], [], [], [], [], []]
set_option maxRecDepth 100000 in
theorem xo_111 : xa_allOK xb_G xb_S 111 := xa_all_ok (es := xt_111) (pls := xp_111) rfl (by decide +kernel)
def xp_112 : List (List Nat) := [[], [], [], [], [], [354, 355, 50, 356], [], [], [], [], [357, 358, 50, 359], [], [], [], [], []]
set_option maxRecDepth 100000 in
theorem xo_112 : xa_allOK xb_G xb_S 112 := xa_all_ok (es := xt_112) (pls := xp_112) rfl (by decide +kernel)
def xp_113 : List (List Nat) := [[], [], [], [], [], [], [], [], [], [], [], [], [], [], [785, 0], [], [], [], [], [], [], []]
set_option maxRecDepth 100000 in
theorem xo_113 : xa_allOK xb_G xb_S 113 := xa_all_ok (es := xt_113) (pls := xp_113) rfl (by decide +kernel)
def xp_114 : List (List Nat) := [[], [], [], [], [], [], [], [], [], [], [], [], [], [], [], []]
set_option maxRecDepth 100000 in
theorem xo_114 : xa_allOK xb_G xb_S 114 := xa_all_ok (es := xt_114) (pls := xp_114) rfl (by decide +kernel)
def xp_115 : List (List Nat) := [[], [], [], [], [], [], [], [], [], []]
set_option maxRecDepth 100000 in
theorem xo_115 : xa_allOK xb_G xb_S 115 := xa_all_ok (es := xt_115) (pls := xp_115) rfl (by decide +kernel)
def xp_116 : List (List Nat) := [[], [290], [], [], [414, 415, 416, 56, 417], [], [290], [], [], []]
set_option maxRecDepth 100000 in
theorem xo_116 : xa_allOK xb_G xb_S 116 := xa_all_ok (es := xt_116) (pls := xp_116) rfl (by decide +kernel)
def xp_117 : List (List Nat) := [[], [], [], [], [], [], [], [], [], [], [], [], [], [], [], [287], [126], [], [], [], [287], [126], [], [], [], [], [], [], [], [], [258], [], [], [], [], [287], [123], [], [], [], [287], [136], [538, 419, 420, 56, 421], [], [], [258], [], [], [], [], [287], [123], [], [], [], [287], [136], [538, 419, 420, 56, 421], [], [], [], [287], [136], [], [526, 527, 528, 56, 529], [], [], [], [], [], [], [], [], [], [], [], [], [], [], []]
set_option maxRecDepth 100000 in
theorem xo_117 : xa_allOK xb_G xb_S 117 := xa_all_ok (es := xt_117) (pls := xp_117) rfl (by decide +kernel)
def xp_118 : List (List Nat) := [[], [287], [129], [], [], [106], [], [], [], [440, 423, 50, 424], [], [287], [123], [], [], [], [], [], [], [], [], [], [], [], [], [614, 430, 50, 431], []]
set_option maxRecDepth 100000 in
theorem xo_118 : xa_allOK xb_G xb_S 118 := xa_all_ok (es := xt_118) (pls := xp_118) rfl (by decide +kernel)
def xp_119 : List (List Nat) := [[], [], [], [], [], [], [], [], [], [287], [129], [], [], [103], [], [], [], [], [], []]
set_option maxRecDepth 100000 in
theorem xo_119 : xa_allOK xb_G xb_S 119 := xa_all_ok (es := xt_119) (pls := xp_119) rfl (by decide +kernel)
def xp_120 : List (List Nat) := [[], [], [], [], [], [], [], [], [], [], [410, 412, 2, 50, 413], [], [287], [136], [432, 433, 434, 56, 435], [628, 569, 61, 570], [], [], [], [], [], []]
set_option maxRecDepth 100000 in
theorem xo_120 : xa_allOK xb_G xb_S 120 := xa_all_ok (es := xt_120) (pls := xp_120) rfl (by decide +kernel)
def xp_121 : List (List Nat) := [[], [], [], [], [], [], [], [], [], [410, 412, 2, 50, 413], [], [287], [136], [449, 450, 451, 56, 452], [], [], [], [], [], [], []]
set_option maxRecDepth 100000 in
theorem xo_121 : xa_allOK xb_G xb_S 121 := xa_all_ok (es := xt_121) (pls := xp_121) rfl (by decide +kernel)
def xp_122 : List (List Nat) := [[], [], [], [], [], [], [], [], [], [], [], [], [], [], [380, 381, 60, 382], [], [], []]
set_option maxRecDepth 100000 in
theorem xo_122 : xa_allOK xb_G xb_S 122 := xa_all_ok (es := xt_122) (pls := xp_122) rfl (by decide +kernel)
def xp_123 : List (List Nat) := [[], [], [], [], [], [], [], [], [], [], [], [380, 381, 60, 382], [425, 426, 60, 427], [], [], [], [], [], [], [], [], [], [], []]
set_option maxRecDepth 100000 in
theorem xo_123 : xa_allOK xb_G xb_S 123 := xa_all_ok (es := xt_123) (pls := xp_123) rfl (by decide +kernel)
def xp_124 : List (List Nat) := [[], [], [], [], [], [], [], [], [], [], [], [], [], [], [], [], [], [], [], [], [], [], [], [], [], [], [], [], [], [], [], [], [], [], [], [], [], [], [], []]
set_option maxRecDepth 100000 in
theorem xo_124 : xa_allOK xb_G xb_S 124 := xa_all_ok (es := xt_124) (pls := xp_124) rfl (by decide +kernel)
end
section
def xp_125 : List (List Nat) := [[], [885, 73, 74], [], [], [121], [886], [], [], [121], [887], [], [], [121], [888], [], [], [121], [889], [], [], [121], [896], [], [], [121], [897], [], [], [121], [903], [], [], [121], [904], [], [], [121], [905], [], [], [121], [906], [], [886], [], [], [], [], [], [], [], [], [], [886], [], [], [], [], [], [], [886], [], [], [], [], [], [], [], [], [], [], [], [], [], [886], [], [], [], [], [], [], [], []]
set_option maxRecDepth 100000 in
theorem xo_125 : xa_allOK xb_G xb_S 125 := xa_all_ok (es := xt_125) (pls := xp_125) rfl (by decide +kernel)
def xp_126 : List (List Nat) := [[], [], [], [], [], [], [], [], [], [], [], []]
set_option maxRecDepth 100000 in
theorem xo_126 : xa_allOK xb_G xb_S 126 := xa_all_ok (es := xt_126) (pls := xp_126) rfl (by decide +kernel)
def xp_127 : List (List Nat) := [[], [889], [958], [], [], [], [], [], [], [], [], []]
set_option maxRecDepth 100000 in
theorem xo_127 : xa_allOK xb_G xb_S 127 := xa_all_ok (es := xt_127) (pls := xp_127) rfl (by decide +kernel)
def xp_128 : List (List Nat) := [[], [], [], [981], [955, 956, 59, 957], []]
set_option maxRecDepth 100000 in
theorem xo_128 : xa_allOK xb_G xb_S 128 := xa_all_ok (es := xt_128) (pls := xp_128) rfl (by decide +kernel)
def xp_129 : List (List Nat) := [[], [], [], [971], [955, 956, 59, 957], []]
set_option maxRecDepth 100000 in
theorem xo_129 : xa_allOK xb_G xb_S 129 := xa_all_ok (es := xt_129) (pls := xp_129) rfl (by decide +kernel)
def xp_130 : List (List Nat) := [[], [], [], [1031], [955, 956, 59, 957], []]
set_option maxRecDepth 100000 in
theorem xo_130 : xa_allOK xb_G xb_S 130 := xa_all_ok (es := xt_130) (pls := xp_130) rfl (by decide +kernel)
def xp_131 : List (List Nat) := [[], [978, 979, 59, 980], [], [], [], [], [], [886], [], [], [], [], [], [], [], [955, 956, 59, 957], [], [], [], [], []]
set_option maxRecDepth 100000 in
theorem xo_131 : xa_allOK xb_G xb_S 131 := xa_all_ok (es := xt_131) (pls := xp_131) rfl (by decide +kernel)
def xp_132 : List (List Nat) := [[], [], [], [], [], [], [], [], [], []]
set_option maxRecDepth 100000 in
theorem xo_132 : xa_allOK xb_G xb_S 132 := xa_all_ok (es := xt_132) (pls := xp_132) rfl (by decide +kernel)
def xp_133 : List (List Nat) := [[], [], [], [], [], [], [], [], [], [], []]
set_option maxRecDepth 100000 in
theorem xo_133 : xa_allOK xb_G xb_S 133 := xa_all_ok (es := xt_133) (pls := xp_133) rfl (by decide +kernel)
def xp_134 : List (List Nat) := [[], [], [], [], [], [], [], [], [], [], [], [], [], [], [], []]
set_option maxRecDepth 100000 in
theorem xo_134 : xa_allOK xb_G xb_S 134 := xa_all_ok (es := xt_134) (pls := xp_134) rfl (by decide +kernel)
def xp_135 : List (List Nat) := [[], [], [], [954], [955, 956, 59, 957], [], [], [958], [959, 961, 21, 59, 962], [], [], [886], [], [], [], [], [], [], [], [963], [959, 961, 21, 59, 962], [], [], [886], [], [], [], [], [], [], [], [886], [], [], []]
set_option maxRecDepth 100000 in
theorem xo_135 : xa_allOK xb_G xb_S 135 := xa_all_ok (es := xt_135) (pls := xp_135) rfl (by decide +kernel)
def xp_136 : List (List Nat) := [[], [968, 969, 59, 970], [], [], [], [], [], [955, 956, 59, 957], [], [], [], [], [], [], [], [], [], [972], [], [973], [955, 956, 59, 957], [], [], [958], [959, 961, 21, 59, 962], [], [], [], [], [], [], [], [], [], [], [], [], [886], [], [], [], [], [886], [], [], [], [], []]
set_option maxRecDepth 100000 in
theorem xo_136 : xa_allOK xb_G xb_S 136 := xa_all_ok (es := xt_136) (pls := xp_136) rfl (by decide +kernel)
def xp_137 : List (List Nat) := [[], [978, 979, 59, 980], [], [], [958], [959, 961, 21, 59, 962], [], [], [886], [], [], [], [], [], [], [886], [], [], [], [], [], [], [], [], [], [], []]
set_option maxRecDepth 100000 in
theorem xo_137 : xa_allOK xb_G xb_S 137 := xa_all_ok (es := xt_137) (pls := xp_137) rfl (by decide +kernel)
def xp_138 : List (List Nat) := [[], [], [886], [], [], [], [], [992, 993, 59, 994], [], [], [886], [], [], [], [], [886], [], [], [], [], [], [], [886], [], [], [], [], [], [], [886], [], [], [], [], [886], [], [], [], [], [886], [], [], [], [], [], [], [], [], [], [886], [], [], [], [], [], [], []]
set_option maxRecDepth 100000 in
theorem xo_138 : xa_allOK xb_G xb_S 138 := xa_all_ok (es := xt_138) (pls := xp_138) rfl (by decide +kernel)
def xp_139 : List (List Nat) := [[], [978, 979, 59, 980], [], [], [], [], [986], [955, 956, 59, 957], [], [], [], [], [981], [955, 956, 59, 957], [], [], [968, 969, 59, 970], [], [], [958], [959, 961, 21, 59, 962], [], [], [886], [], [], [], [], [], [], [], [987], [959, 961, 21, 59, 962], [], [], [], [], [], [], [988, 990, 22, 59, 991], []]
set_option maxRecDepth 100000 in
theorem xo_139 : xa_allOK xb_G xb_S 139 := xa_all_ok (es := xt_139) (pls := xp_139) rfl (by decide +kernel)
def xp_140 : List (List Nat) := [[], [886], [], [], [886], [], [], [992, 993, 59, 994], [], [], [], [], [], [], [], [886], [], [], [992, 993, 59, 994], [], [], [], [], [], [], [], [], [], [], [], [], [], [], [], [], [], [], [], [], [], [], []]
set_option maxRecDepth 100000 in
theorem xo_140 : xa_allOK xb_G xb_S 140 := xa_all_ok (es := xt_140) (pls := xp_140) rfl (by decide +kernel)
def xp_141 : List (List Nat) := [[], [], [], [999, 1001, 23, 59, 1002], [], [], [], [], [1003], [955, 956, 59, 957], [], [], [958], [959, 961, 21, 59, 962], [], [], [], [], [], [886], [], [], [992, 993, 59, 994], [], [], [], [], [], [], [], [1004, 1006, 24, 59, 1007], []]
set_option maxRecDepth 100000 in
theorem xo_141 : xa_allOK xb_G xb_S 141 := xa_all_ok (es := xt_141) (pls := xp_141) rfl (by decide +kernel)
def xp_142 : List (List Nat) := [[], [], [], [999, 1001, 23, 59, 1002], [], [], [], [], [986], [955, 956, 59, 957], [], [], [958], [959, 961, 21, 59, 962], [], [], [886], [], [], [992, 993, 59, 994], [], [], [], [886], [], [], [992, 993, 59, 994], [], [], [], []]
set_option maxRecDepth 100000 in
theorem xo_142 : xa_allOK xb_G xb_S 142 := xa_all_ok (es := xt_142) (pls := xp_142) rfl (by decide +kernel)
def xp_143 : List (List Nat) := [[], [], [], [999, 1001, 23, 59, 1002], [], [], [958], [959, 961, 21, 59, 962], [], [], [886], [], [], [], [], [], [], [], [], [], [], [992, 993, 59, 994], [], [], [], [], [886], [], [], [], [], [992, 993, 59, 994], [], [], [886], [], [], [886], [], [], [], [], [], [], [], [], [], [], [], [], [], [886], [], [], [], [], [], [], [], [], [], [], [], [], [], [886], [], [], [], [], [], [], [], [], [], [], [], [], [], [], [], [], [], [], [], [], [], [], [], [], [886], [], [], [], [], []]
set_option maxRecDepth 100000 in
theorem xo_143 : xa_allOK xb_G xb_S 143 := xa_all_ok (es := xt_143) (pls := xp_143) rfl (by decide +kernel)
def xp_144 : List (List Nat) := [[], [886], [], [], [992, 993, 59, 994], [], [], [], [], [], [886], [], [], [992, 993, 59, 994], [], [], [], [886], [], [], [], []]
set_option maxRecDepth 100000 in
theorem xo_144 : xa_allOK xb_G xb_S 144 := xa_all_ok (es := xt_144) (pls := xp_144) rfl (by decide +kernel)
def xp_145 : List (List Nat) := [[], [], [], [999, 1001, 23, 59, 1002], [], [], [968, 969, 59, 970], [], [], [958], [959, 961, 21, 59, 962], [], [], [886], [], [], [992, 993, 59, 994], [], [], [], [], [], [], [], [], [1020, 1022, 25, 59, 1023], [], []]
set_option maxRecDepth 100000 in
theorem xo_145 : xa_allOK xb_G xb_S 145 := xa_all_ok (es := xt_145) (pls := xp_145) rfl (by decide +kernel)
def xp_146 : List (List Nat) := [[], [], [], [], [], [], [], [], [], [], [], [], [], [], [], [], [], [], [], [], [], [], []]
set_option maxRecDepth 100000 in
theorem xo_146 : xa_allOK xb_G xb_S 146 := xa_all_ok (es := xt_146) (pls := xp_146) rfl (by decide +kernel)
def xp_147 : List (List Nat) := [[], [], [], [], [886], [], [], [], [], [], [], [], [1044, 1045, 59, 1046], [], [1044, 1045, 59, 1046], [], [], [], [], []]
set_option maxRecDepth 100000 in
theorem xo_147 : xa_allOK xb_G xb_S 147 := xa_all_ok (es := xt_147) (pls := xp_147) rfl (by decide +kernel)
def xp_148 : List (List Nat) := [[], [886], [], [], [992, 993, 59, 994], [], [], [], [], [], [], [], [], [], [], [], [1040, 1042, 28, 59, 1043], [], [], [], [1004, 1006, 24, 59, 1007], [], [], [], [], []]
set_option maxRecDepth 100000 in
theorem xo_148 : xa_allOK xb_G xb_S 148 := xa_all_ok (es := xt_148) (pls := xp_148) rfl (by decide +kernel)
def xp_149 : List (List Nat) := [[], [], [], [], [], [], [886], [], [], [], [], [], [], [], [], [], [], [1036, 1038, 27, 59, 1039], [], [], [], [], [], [], [], [], [], [], [], []]
set_option maxRecDepth 100000 in
theorem xo_149 : xa_allOK xb_G xb_S 149 := xa_all_ok (es := xt_149) (pls := xp_149) rfl (by decide +kernel)
def xp_150 : List (List Nat) := [[], [978, 979, 59, 980], [], [], [1028, 1029, 59, 1030], [], [], [], [], [1032, 1034, 26, 59, 1035], [], [], [958], [959, 961, 21, 59, 962], []]
set_option maxRecDepth 100000 in
theorem xo_150 : xa_allOK xb_G xb_S 150 := xa_all_ok (es := xt_150) (pls := xp_150) rfl (by decide +kernel)
def xp_151 : List (List Nat) := [[], [], [], [999, 1001, 23, 59, 1002], [], [], [1028, 1029, 59, 1030], [], [], [958], [959, 961, 21, 59, 962], [], [], [886], [], [], [992, 993, 59, 994], [], [], [], [], [], [], [], [], [963], [959, 961, 21, 59, 962], [], [], [], [], [], [1040, 1042, 28, 59, 1043], []]
set_option maxRecDepth 100000 in
theorem xo_151 : xa_allOK xb_G xb_S 151 := xa_all_ok (es := xt_151) (pls := xp_151) rfl (by decide +kernel)
def xp_152 : List (List Nat) := [[], [], [], [999, 1001, 23, 59, 1002], [], [], [958], [959, 961, 21, 59, 962], [], [], [886], [], [], [992, 993, 59, 994], [], [], [], [], [], [], [], [], [], [], [], [1036, 1038, 27, 59, 1039], [], [], [], [], [], [], [1055], [959, 961, 21, 59, 962], []]
set_option maxRecDepth 100000 in
theorem xo_152 : xa_allOK xb_G xb_S 152 := xa_all_ok (es := xt_152) (pls := xp_152) rfl (by decide +kernel)
def xp_153 : List (List Nat) := [[], [], [1076], [], [], [], [], [1077], [], [], [], [], [1078], [], [1079], []]
set_option maxRecDepth 100000 in
theorem xo_153 : xa_allOK xb_G xb_S 153 := xa_all_ok (es := xt_153) (pls := xp_153) rfl (by decide +kernel)
def xp_154 : List (List Nat) := [[], [], [891], [], [], [892], [], [], [893], [], [1068], [894], [], [], [895], []]
set_option maxRecDepth 100000 in
theorem xo_154 : xa_allOK xb_G xb_S 154 := xa_all_ok (es := xt_154) (pls := xp_154) rfl (by decide +kernel)
def xp_155 : List (List Nat) := [[], [], [], [], [], [], [], [], [], [], [], [], [], [], [], [], [], [891], [], [], [], [], [], [], [], [], [], [], [], [893], [], [], [], [], [], [892], [], [], [], [], [892], [], [], [], [], [], [894], [], [892], [], [1068], [], [1073, 1074, 59, 1075], [], [], [], [], [], [1073, 1074, 59, 1075], [], [894], [], [], [892], [], [], [891], [], [], [], [], [], [], [895], [], [894], [], [895], [], [1068], [894], [], [], [891], []]
set_option maxRecDepth 100000 in
theorem xo_155 : xa_allOK xb_G xb_S 155 := xa_all_ok (es := xt_155) (pls := xp_155) rfl (by decide +kernel)
def xp_156 : List (List Nat) := [[], [893], [], [], [891], [], [], [895], [], [894], [], [], [], []]
set_option maxRecDepth 100000 in
theorem xo_156 : xa_allOK xb_G xb_S 156 := xa_all_ok (es := xt_156) (pls := xp_156) rfl (by decide +kernel)
def xp_157 : List (List Nat) := [[], [1064, 1066, 30, 59, 1067], [], [], [], [], [886], [], [], [], [], [], [], [], [], [], [1036, 1038, 27, 59, 1039], [], [], [], [886], [], [], [992, 993, 59, 994], [], [], [886], [], [], [992, 993, 59, 994], [], [], [], [1069, 1071, 31, 59, 1072], [], [], [], [1080, 1082, 32, 59, 1083], []]
set_option maxRecDepth 100000 in
theorem xo_157 : xa_allOK xb_G xb_S 157 := xa_all_ok (es := xt_157) (pls := xp_157) rfl (by decide +kernel)
def xp_158 : List (List Nat) := [[], [978, 979, 59, 980], [], [], [1028, 1029, 59, 1030], [], [], [], [], [1060, 1062, 29, 59, 1063], [], [], [958], [959, 961, 21, 59, 962], []]
set_option maxRecDepth 100000 in
theorem xo_158 : xa_allOK xb_G xb_S 158 := xa_all_ok (es := xt_158) (pls := xp_158) rfl (by decide +kernel)
def xp_159 : List (List Nat) := [[], [978, 979, 59, 980], [], [], [1028, 1029, 59, 1030], [], [], [], [], [1088], [955, 956, 59, 957], [], [], [958], [959, 961, 21, 59, 962], [], [], [], [], [1060, 1062, 29, 59, 1063], [], [], [], [], [1055], [959, 961, 21, 59, 962], [], [], [], [], [], [], []]
set_option maxRecDepth 100000 in
theorem xo_159 : xa_allOK xb_G xb_S 159 := xa_all_ok (es := xt_159) (pls := xp_159) rfl (by decide +kernel)
def xp_160 : List (List Nat) := [[], [978, 979, 59, 980], [], [], [958], [959, 961, 21, 59, 962], [], [], [], [], [886], [], [], [1060, 1062, 29, 59, 1063], [], [], [886], [], [], [], [], [], [], [], [], [], [], [], [1060, 1062, 29, 59, 1063], [], [], [], [], [], [], [], [1055], [959, 961, 21, 59, 962], []]
set_option maxRecDepth 100000 in
theorem xo_160 : xa_allOK xb_G xb_S 160 := xa_all_ok (es := xt_160) (pls := xp_160) rfl (by decide +kernel)
def xp_161 : List (List Nat) := [[], [978, 979, 59, 980], [], [], [1028, 1029, 59, 1030], [], [], [1028, 1029, 59, 1030], [], [], [], [], [], [958], [959, 961, 21, 59, 962], [], [], [], [], [], [], [], [], [], [], [], [], [1060, 1062, 29, 59, 1063], [], [], [], [], [], [], [], [], [], [1060, 1062, 29, 59, 1063], [], [], [], [], [], [], [], [], [], [], [], [], [], [], [], []]
set_option maxRecDepth 100000 in
theorem xo_161 : xa_allOK xb_G xb_S 161 := xa_all_ok (es := xt_161) (pls := xp_161) rfl (by decide +kernel)
def xp_162 : List (List Nat) := [[], [978, 979, 59, 980], [], [], [], [1101], [1102], [955, 956, 59, 957], [], [], [958], [959, 961, 21, 59, 962], [], [], [886], [], [], [], [], [], [], [], [], [], [1060, 1062, 29, 59, 1063], [], [], [], [], [], [], [], [1055], [959, 961, 21, 59, 962], []]
set_option maxRecDepth 100000 in
theorem xo_162 : xa_allOK xb_G xb_S 162 := xa_all_ok (es := xt_162) (pls := xp_162) rfl (by decide +kernel)
def xp_163 : List (List Nat) := [[], [978, 979, 59, 980], [], [], [], [1101], [1102], [955, 956, 59, 957], [], [], [958], [959, 961, 21, 59, 962], [], [], [], [], [886], [], [], [], [], [], [], [], [], [], [], [1060, 1062, 29, 59, 1063], [], [], [], [], [], [], [], [], [], [], []]
set_option maxRecDepth 100000 in
theorem xo_163 : xa_allOK xb_G xb_S 163 := xa_all_ok (es := xt_163) (pls := xp_163) rfl (by decide +kernel)
def xp_164 : List (List Nat) := [[], [978, 979, 59, 980], [], [], [978, 979, 59, 980], [], [], [1028, 1029, 59, 1030], [], [], [958], [959, 961, 21, 59, 962], [], [], [], [], [1060, 1062, 29, 59, 1063], [], [], [], [1060, 1062, 29, 59, 1063], [], [], [], [], []]
set_option maxRecDepth 100000 in
theorem xo_164 : xa_allOK xb_G xb_S 164 := xa_all_ok (es := xt_164) (pls := xp_164) rfl (by decide +kernel)
def xp_165 : List (List Nat) := [[], [], [], [886], [], [], [], [], [], [], [], [], [], [], [], [1060, 1062, 29, 59, 1063], [], [], [], [], [], [], [], [], [], []]
set_option maxRecDepth 100000 in
theorem xo_165 : xa_allOK xb_G xb_S 165 := xa_all_ok (es := xt_165) (pls := xp_165) rfl (by decide +kernel)
def xp_166 : List (List Nat) := [[], [978, 979, 59, 980], [], [], [1028, 1029, 59, 1030], [], [], [958], [959, 961, 21, 59, 962], [], [], [], [886], [], [], [], [], [963], [959, 961, 21, 59, 962], [], [], [], [], [], [], [886], [], [], [1060, 1062, 29, 59, 1063], [], [1115, 1117, 33, 59, 1118], [], [], [], [], []]
set_option maxRecDepth 100000 in
theorem xo_166 : xa_allOK xb_G xb_S 166 := xa_all_ok (es := xt_166) (pls := xp_166) rfl (by decide +kernel)
def xp_167 : List (List Nat) := [[], [], [], [], [], [], [888], [], [], [886], [], [], [], [], [], []]
set_option maxRecDepth 100000 in
theorem xo_167 : xa_allOK xb_G xb_S 167 := xa_all_ok (es := xt_167) (pls := xp_167) rfl (by decide +kernel)
def xp_168 : List (List Nat) := [[], [], [], [], [], [], [886], [], [], [888], [], [], [], [], [], []]
set_option maxRecDepth 100000 in
theorem xo_168 : xa_allOK xb_G xb_S 168 := xa_all_ok (es := xt_168) (pls := xp_168) rfl (by decide +kernel)
def xp_169 : List (List Nat) := [[], [], [], [999, 1001, 23, 59, 1002], [], [], [], [], [999, 1001, 23, 59, 1002], [], [], [], [], [], [], [], [1123], [955, 956, 59, 957], [], [], [958], [959, 961, 21, 59, 962], [], [], [886], [], [], [], [], [], [], [], [1036, 1038, 27, 59, 1039], [], [], [], [], [], [1036, 1038, 27, 59, 1039], [], [], [], [], [], [], [], [963], [959, 961, 21, 59, 962], [], [], [], [], [1060, 1062, 29, 59, 1063], [], [], [1124, 1126, 34, 59, 1127], [], [], [], [], [], [], [], [], [], [], [], [], [], [], [], [886], [], [], [], [], [], [886], [], [], [], [], [], [], [], [], [], [], [], [], [], [], [], [1020, 1022, 25, 59, 1023], [], [], [], [], [1020, 1022, 25, 59, 1023], [], [], [], [], [], [], [1115, 1117, 33, 59, 1118], [], [], [], [], [], [], [], [], [], [], [], [], [], [], [1128, 1130, 35, 59, 1131], [], [], [], [1055], [959, 961, 21, 59, 962], [], [], []]
set_option maxRecDepth 100000 in
theorem xo_169 : xa_allOK xb_G xb_S 169 := xa_all_ok (es := xt_169) (pls := xp_169) rfl (by decide +kernel)
def xp_170 : List (List Nat) := [[], [978, 979, 59, 980], [], [], [968, 969, 59, 970], [], [], [], [], [1136], [955, 956, 59, 957], [], [], [958], [959, 961, 21, 59, 962], [], [], [886], [], [], [], [], [], [], [], [], [], [963], [959, 961, 21, 59, 962], [], [], [], [], [1060, 1062, 29, 59, 1063], [], [], [], [], [1032, 1034, 26, 59, 1035], [], [], [1124, 1126, 34, 59, 1127], [], [], [], [], [], [], [], [886], [], [], [], [], [], [], [], [], [], [], [], [], [], [], [], [1137, 1138, 59, 1139], [], [1137, 1138, 59, 1139], [], [], [], [], [], [886], [], [], [], [], [], [], [], [1140, 1141, 59, 1142], [], [], [], [], [], [1020, 1022, 25, 59, 1023], [], [], [], [], [], [], [], [], [1115, 1117, 33, 59, 1118], [], [], [], [], [], [], [1128, 1130, 35, 59, 1131], [], [], [], [], [], [1055], [959, 961, 21, 59, 962], [], [], []]
set_option maxRecDepth 100000 in
theorem xo_170 : xa_allOK xb_G xb_S 170 := xa_all_ok (es := xt_170) (pls := xp_170) rfl (by decide +kernel)
def xp_171 : List (List Nat) := [[], [978, 979, 59, 980], [], [], [968, 969, 59, 970], [], [], [], [], [1136], [955, 956, 59, 957], [], [], [958], [959, 961, 21, 59, 962], [], [], [886], [], [], [], [], [], [], [], [], [], [963], [959, 961, 21, 59, 962], [], [], [], [], [1060, 1062, 29, 59, 1063], [], [], [886], [], [], [], [], [], [], [], [], [], [], [], [], [], [], [], [886], [], [], [], [], [], [], [], [], [], [], [], [1115, 1117, 33, 59, 1118], [], [], [], [], [], [], [], [], [886], [], [], [], [], [], [], [], [], [1055], [959, 961, 21, 59, 962], [], [], []]
set_option maxRecDepth 100000 in
theorem xo_171 : xa_allOK xb_G xb_S 171 := xa_all_ok (es := xt_171) (pls := xp_171) rfl (by decide +kernel)
def xp_172 : List (List Nat) := [[], [1064, 1066, 30, 59, 1067], [], [], [], [], [886], [], [], [], [], [], [], [], [], [], [], [], [1069, 1071, 31, 59, 1072], [], [], [886], [], [], [], [], [], [], [], [], [], [886], [], [], [1036, 1038, 27, 59, 1039], [], [], [], [886], [], [], [992, 993, 59, 994], [], [], [886], [], [], [992, 993, 59, 994], [], [], [], [1069, 1071, 31, 59, 1072], [], [], [], [1080, 1082, 32, 59, 1083], []]
set_option maxRecDepth 100000 in
theorem xo_172 : xa_allOK xb_G xb_S 172 := xa_all_ok (es := xt_172) (pls := xp_172) rfl (by decide +kernel)
def xp_173 : List (List Nat) := [[], [], [], [], [], [], [], [], [], [], [], [], [], [], [], [], [], []]
set_option maxRecDepth 100000 in
theorem xo_173 : xa_allOK xb_G xb_S 173 := xa_all_ok (es := xt_173) (pls := xp_173) rfl (by decide +kernel)
def xp_174 : List (List Nat) := [[], [978, 979, 59, 980], [], [], [958], [959, 961, 21, 59, 962], [], [], [], [], [], [], [], [886], [], [], [], [], [], [], [], [], [], [], [], [], [], [], [], [], [], [1151, 1152, 59, 1153], [], [], [], [], [], [], [1154, 1156, 36, 59, 1157], [], [], [], [], [], [], [], [], [], [], [], [], [], [], [], [], [], [896], [], [], [], [], [], [], [], [], [], [], [], [], [], [896], [], [], [], [], [], [], [], [], [], [], [], []]
set_option maxRecDepth 100000 in
theorem xo_174 : xa_allOK xb_G xb_S 174 := xa_all_ok (es := xt_174) (pls := xp_174) rfl (by decide +kernel)
def xp_175 : List (List Nat) := [[], [978, 979, 59, 980], [], [], [], [], [1102], [955, 956, 59, 957], [], [], [958], [959, 961, 21, 59, 962], [], [], [], [], [], [886], [], [], [], [], [], [], [], [], [], [], [], [], [], [], [], [], [], [1151, 1152, 59, 1153], [], [], [], [], [], [], [1154, 1156, 36, 59, 1157], [], [], [], [], [], [], [], [], [], [], [], [], [], [], [], [], [], [], [], [1055], [959, 961, 21, 59, 962], []]
set_option maxRecDepth 100000 in
theorem xo_175 : xa_allOK xb_G xb_S 175 := xa_all_ok (es := xt_175) (pls := xp_175) rfl (by decide +kernel)
def xp_176 : List (List Nat) := [[], [978, 979, 59, 980], [], [], [968, 969, 59, 970], [], [], [1028, 1029, 59, 1030], [], [], [958], [959, 961, 21, 59, 962], [], [], [], [], [], [], [], [], [], [], [], [1040, 1042, 28, 59, 1043], [], [886], [], [], [], [], [], [], [], [], []]
set_option maxRecDepth 100000 in
theorem xo_176 : xa_allOK xb_G xb_S 176 := xa_all_ok (es := xt_176) (pls := xp_176) rfl (by decide +kernel)
def xp_177 : List (List Nat) := [[], [978, 979, 59, 980], [], [], [968, 969, 59, 970], [], [], [1028, 1029, 59, 1030], [], [], [958], [959, 961, 21, 59, 962], [], [], [], [], [], [], [], [], [], [1040, 1042, 28, 59, 1043], [], [886], [], [], [], [], [], [], [], [], [], [], [1055], [959, 961, 21, 59, 962], [], [], []]
set_option maxRecDepth 100000 in
theorem xo_177 : xa_allOK xb_G xb_S 177 := xa_all_ok (es := xt_177) (pls := xp_177) rfl (by decide +kernel)
def xp_178 : List (List Nat) := [[], [978, 979, 59, 980], [], [], [], [], [1174], [955, 956, 59, 957], [], [], [968, 969, 59, 970], [], [], [958], [959, 961, 21, 59, 962], [], [], [886], [], [], [], [], [], [], [963], [959, 961, 21, 59, 962], [], [], [], [], [], [], [], [], [], [886], [], [], [886], [], [], [1175], [], [], [], [], [], [886], [], [], [], [], [], [886], [], [], [], [], [], [], [], [], [], [], [1020, 1022, 25, 59, 1023], [], [], [], [], [], [], [], [], [], [1137, 1138, 59, 1139], []]
set_option maxRecDepth 100000 in
theorem xo_178 : xa_allOK xb_G xb_S 178 := xa_all_ok (es := xt_178) (pls := xp_178) rfl (by decide +kernel)
def xp_179 : List (List Nat) := [[], [886], [], [], [], [], [886], [], [], [], [], []]
set_option maxRecDepth 100000 in
theorem xo_179 : xa_allOK xb_G xb_S 179 := xa_all_ok (es := xt_179) (pls := xp_179) rfl (by decide +kernel)
def xp_180 : List (List Nat) := [[], [], [], [1003], [955, 956, 59, 957], [], [], [958], [959, 961, 21, 59, 962], [], [], [898], [], [], [], [], [], [987], [959, 961, 21, 59, 962], [], [], [], [], [], [], [], [], [897], [], [898], [], [], [], [], [], [], [], [], [], [], [898], [], [], [898], [], [], [], [898], []]
set_option maxRecDepth 100000 in
theorem xo_180 : xa_allOK xb_G xb_S 180 := xa_all_ok (es := xt_180) (pls := xp_180) rfl (by decide +kernel)
def xp_181 : List (List Nat) := [[], [898], [], [], [], [898], [], []]
set_option maxRecDepth 100000 in
theorem xo_181 : xa_allOK xb_G xb_S 181 := xa_all_ok (es := xt_181) (pls := xp_181) rfl (by decide +kernel)
def xp_182 : List (List Nat) := [[], [], [898], [], [], [897], [], [], [], [], []]
set_option maxRecDepth 100000 in
theorem xo_182 : xa_allOK xb_G xb_S 182 := xa_all_ok (es := xt_182) (pls := xp_182) rfl (by decide +kernel)
def xp_183 : List (List Nat) := [[], [], [1203], [1204], [955, 956, 59, 957], []]
set_option maxRecDepth 100000 in
theorem xo_183 : xa_allOK xb_G xb_S 183 := xa_all_ok (es := xt_183) (pls := xp_183) rfl (by decide +kernel)
def xp_184 : List (List Nat) := [[], [], [1208], [1209], [955, 956, 59, 957], []]
set_option maxRecDepth 100000 in
theorem xo_184 : xa_allOK xb_G xb_S 184 := xa_all_ok (es := xt_184) (pls := xp_184) rfl (by decide +kernel)
def xp_185 : List (List Nat) := [[], [], [900], [899], [], [], [899], [1196, 1198, 38, 59, 1199], [], [], [], [], [899], [], [], [899], [], [], [], [899], [1196, 1198, 38, 59, 1199], [1200, 1201, 59, 1202], [], [], [], [899], [1196, 1198, 38, 59, 1199], [1205, 1206, 59, 1207], [], [], [], [899], [], [898], [], [], [899], [], [], [], [], [899], [900], [], [], [], [], [900], [1196, 1198, 38, 59, 1199], [1200, 1201, 59, 1202], [], [], [], [], [], [900], [1196, 1198, 38, 59, 1199], [1205, 1206, 59, 1207], [], [], [], [900], [], [], [900], [], []]
set_option maxRecDepth 100000 in
theorem xo_185 : xa_allOK xb_G xb_S 185 := xa_all_ok (es := xt_185) (pls := xp_185) rfl (by decide +kernel)
def xp_186 : List (List Nat) := [[], [], [902], [], [], [], [], [], [], [902], [], [902], [], [], [1192, 1194, 37, 59, 1195], []]
set_option maxRecDepth 100000 in
theorem xo_186 : xa_allOK xb_G xb_S 186 := xa_all_ok (es := xt_186) (pls := xp_186) rfl (by decide +kernel)
def xp_187 : List (List Nat) := [[], [], [], [899], [], [], [], [900], [], [], [1218], [], [], [], [], [1219], [], [], [], [897], [], [], [], [], [], [], [], [], [], [], [902], [], [], [], [899], [1196, 1198, 38, 59, 1199], [1200, 1201, 59, 1202], [], [], [], [], []]
set_option maxRecDepth 100000 in
theorem xo_187 : xa_allOK xb_G xb_S 187 := xa_all_ok (es := xt_187) (pls := xp_187) rfl (by decide +kernel)
def xp_188 : List (List Nat) := [[], [902], [], [], [], [], [899], [1196, 1198, 38, 59, 1199], [1205, 1206, 59, 1207], [], [], [], [], [899], [], [], [], [900], [], [], [], [], [], [], [], [], [], [], [], [], [897], [], [], [], [], [], [], [], [], [], [], [901], [], [], [], [], [], [], [], [], [], [955, 956, 59, 957], [], [], [], [], [1225, 1227, 42, 59, 1228], []]
set_option maxRecDepth 100000 in
theorem xo_188 : xa_allOK xb_G xb_S 188 := xa_all_ok (es := xt_188) (pls := xp_188) rfl (by decide +kernel)
def xp_189 : List (List Nat) := [[], [], [1225, 1227, 42, 59, 1228], [], [], [], [1229, 1231, 43, 59, 1232], [], [901], [], [], [], [1214, 1216, 40, 59, 1217], [1233], [], [], [], [], [], [1225, 1227, 42, 59, 1228], [], [], [], [1229, 1231, 43, 59, 1232], [], [901], [], [], [], [], [1214, 1216, 40, 59, 1217], [1234], [], [], [], [], [1225, 1227, 42, 59, 1228], [], [], [], [1229, 1231, 43, 59, 1232], [], [901], [], [], [902], [], [], [886], [], [], [], [], [], [], [886], [], [], [], [], [], [], [886], [], [], [], [], [], [], [], []]
set_option maxRecDepth 100000 in
theorem xo_189 : xa_allOK xb_G xb_S 189 := xa_all_ok (es := xt_189) (pls := xp_189) rfl (by decide +kernel)
def xp_190 : List (List Nat) := [[], [], [1225, 1227, 42, 59, 1228], [], [], [], [1229, 1231, 43, 59, 1232], [], [901], [], [], [1214, 1216, 40, 59, 1217], [1240], [], [], [], [], [], [], [], [], [], [], [1214, 1216, 40, 59, 1217], [1241], [], [], [], [], [], [1225, 1227, 42, 59, 1228], [], [902], [], [], [886], [], [], [], [], [], [], [], [], [], []]
set_option maxRecDepth 100000 in
theorem xo_190 : xa_allOK xb_G xb_S 190 := xa_all_ok (es := xt_190) (pls := xp_190) rfl (by decide +kernel)
def xp_191 : List (List Nat) := [[], [1214, 1216, 40, 59, 1217], [], [], [], [], [], [], [1255], [], [], [], [], [], [1256], [], [], [], [], [], [1257], [], [], [], [], [], [1258], [], [], [], [], [], [1259], [], [], [], [], [], [1260], [], [], [], [], [], [1261], [], [], [], [], [], []]
set_option maxRecDepth 100000 in
theorem xo_191 : xa_allOK xb_G xb_S 191 := xa_all_ok (es := xt_191) (pls := xp_191) rfl (by decide +kernel)
def xp_192 : List (List Nat) := [[], [1251, 1253, 47, 59, 1254], [], [], [1214, 1216, 40, 59, 1217], [], [], [], [], [], [886], [], [], [], [], [], [], [], [], [], [1225, 1227, 42, 59, 1228], [], [], [], [], [], [], [], [1214, 1216, 40, 59, 1217], [], [], [], [], [], [], [], [1255], [], [], [], [], [], [1225, 1227, 42, 59, 1228], [], [902], [], [], [], [], [], [], [], [], [], [1255], [], [], [], [], [], [], [], [], [], [988, 990, 22, 59, 991], [], []]
set_option maxRecDepth 100000 in
theorem xo_192 : xa_allOK xb_G xb_S 192 := xa_all_ok (es := xt_192) (pls := xp_192) rfl (by decide +kernel)
def xp_193 : List (List Nat) := [[], [], [1214, 1216, 40, 59, 1217], [1246], [], [], [], [], [], [1225, 1227, 42, 59, 1228], [], [], [], [1229, 1231, 43, 59, 1232], [], [901], [], [], [], [], [1214, 1216, 40, 59, 1217], [1220], [], [], [], [], [1225, 1227, 42, 59, 1228], [], [], [], [1229, 1231, 43, 59, 1232], [], [901], [], [], [], [], [], [], [902], [], [], [], [], [1247, 1249, 46, 59, 1250], [], [1251, 1253, 47, 59, 1254], [], [], [], [], [], [], []]
set_option maxRecDepth 100000 in
theorem xo_193 : xa_allOK xb_G xb_S 193 := xa_all_ok (es := xt_193) (pls := xp_193) rfl (by decide +kernel)
def xp_194 : List (List Nat) := [[], [1124, 1126, 34, 59, 1127], [], [], [900], [], [], [902], [], [1192, 1194, 37, 59, 1195], [], [], [], [1210, 1212, 39, 59, 1213], [], [902], [], [], [899], [], [898], [], [], [], [], [899], [1196, 1198, 38, 59, 1199], [], [], [], [], [], [1225, 1227, 42, 59, 1228], [], [1210, 1212, 39, 59, 1213], [], [], [], [], [898], [], [902], [], [], [1128, 1130, 35, 59, 1131], [], [], [899], [], [], [], []]
set_option maxRecDepth 100000 in
theorem xo_194 : xa_allOK xb_G xb_S 194 := xa_all_ok (es := xt_194) (pls := xp_194) rfl (by decide +kernel)
def xp_195 : List (List Nat) := [[], [1214, 1216, 40, 59, 1217], [1220], [], [], [], [1221, 1223, 41, 59, 1224], [], [], [1214, 1216, 40, 59, 1217], [1235], [], [], [], [1236, 1238, 44, 59, 1239], [], [], [1242, 1244, 45, 59, 1245], []]
set_option maxRecDepth 100000 in
theorem xo_195 : xa_allOK xb_G xb_S 195 := xa_all_ok (es := xt_195) (pls := xp_195) rfl (by decide +kernel)
def xp_196 : List (List Nat) := [[], [], [], [1266], [955, 956, 59, 957], [], [], [978, 979, 59, 980], [], [], [], [], [], [], [], [999, 1001, 23, 59, 1002], [], [], [958], [959, 961, 21, 59, 962], [], [], [886], [], [], [], [], [], [], [], [], [], [], [], [], [], [], []]
set_option maxRecDepth 100000 in
theorem xo_196 : xa_allOK xb_G xb_S 196 := xa_all_ok (es := xt_196) (pls := xp_196) rfl (by decide +kernel)
def xp_197 : List (List Nat) := [[], [], [], [1266], [955, 956, 59, 957], [], [], [], [], [986], [955, 956, 59, 957], [], [], [958], [959, 961, 21, 59, 962], [], [], [886], [], [], [], [], [], [], [], [], [1271], [959, 961, 21, 59, 962], [], [], [886], [], [], [], [], [], [], [992, 993, 59, 994], [], [], [], [], [], [], [], [], [], [], [], [], [], [], [], [], [], [], [], [], [], [], [], [], [], [], [], [], [], [], [], [1272], [959, 961, 21, 59, 962], []]
set_option maxRecDepth 100000 in
theorem xo_197 : xa_allOK xb_G xb_S 197 := xa_all_ok (es := xt_197) (pls := xp_197) rfl (by decide +kernel)
def xp_198 : List (List Nat) := [[], [], [], [981], [955, 956, 59, 957], []]
set_option maxRecDepth 100000 in
theorem xo_198 : xa_allOK xb_G xb_S 198 := xa_all_ok (es := xt_198) (pls := xp_198) rfl (by decide +kernel)
def xp_199 : List (List Nat) := [[], [1277, 1278, 59, 1279], [], [], [], [], [], [], [], [], [], [], [], [], [], [958], [959, 961, 21, 59, 962], [], [], [], [], [1280], [959, 961, 21, 59, 962], [], [], [], [], [], [958], [959, 961, 21, 59, 962], [], [], [903], [], [], [], [], [904], [], [], [], [], [], [], [], [], [], [], [], [], [], [905], [], [], [], [], [], [], [], [], [], [], [904], [], [], []]
set_option maxRecDepth 100000 in
theorem xo_199 : xa_allOK xb_G xb_S 199 := xa_all_ok (es := xt_199) (pls := xp_199) rfl (by decide +kernel)
def xp_200 : List (List Nat) := [[], [], [], [], [], [], [], [], [], [], [], [], [], []]
set_option maxRecDepth 100000 in
theorem xo_200 : xa_allOK xb_G xb_S 200 := xa_all_ok (es := xt_200) (pls := xp_200) rfl (by decide +kernel)
def xp_201 : List (List Nat) := [[], [1277, 1278, 59, 1279], [], [958], [], [], [903], [], [], [], [1271], [], [], []]
set_option maxRecDepth 100000 in
theorem xo_201 : xa_allOK xb_G xb_S 201 := xa_all_ok (es := xt_201) (pls := xp_201) rfl (by decide +kernel)
def xp_202 : List (List Nat) := [[], [], [1285, 1287, 48, 59, 1288], [], [], [], [], [], [959, 961, 21, 59, 962], [], [], [], [], [], [904], [], [], [], [], [], [955, 956, 59, 957], [], [], [958], [959, 961, 21, 59, 962], [], [], [905], [], [], [], [], [], [], [903], [], [], [], [1289, 1290, 59, 1291], [], [], []]
set_option maxRecDepth 100000 in
theorem xo_202 : xa_allOK xb_G xb_S 202 := xa_all_ok (es := xt_202) (pls := xp_202) rfl (by decide +kernel)
def xp_203 : List (List Nat) := [[], [1277, 1278, 59, 1279], [], [], [1277, 1278, 59, 1279], [], [], [958], [959, 961, 21, 59, 962], [], [], [903], [], [], [], [], [903], [], [], [], [], [1271], [959, 961, 21, 59, 962], [], [], [903], [], [], [], [903], [], [], [], [], [1272], [959, 961, 21, 59, 962], [], [], [], [], [], [], [], [], [], [904], [], [], [], [], [], [], [], [904], [], [], [], [], [], [], [958], [959, 961, 21, 59, 962], [], [], [], [], [], [], [], [906], [], [], [905], [], [], [], [], [], [], [], [], [], [], [], [], [], [], [], [], [], [905], [], [], [], [], [], [], [], [], [906], [], [], [], [], [], [], []]
set_option maxRecDepth 100000 in
theorem xo_203 : xa_allOK xb_G xb_S 203 := xa_all_ok (es := xt_203) (pls := xp_203) rfl (by decide +kernel)
def xp_204 : List (List Nat) := [[], [], [1285, 1287, 48, 59, 1288], [], [], [], [], [], [959, 961, 21, 59, 962], [], [], [978, 979, 59, 980], [], [], [968, 969, 59, 970], [], [], [958], [959, 961, 21, 59, 962], [], [], [], [], [], [], [], [904], [], [], [], [], [905], [], [], [], [], [], [], [], [], [], [], [1300], [955, 956, 59, 957], [], [], [], [], [], [], [], [886], [], [], [], [], [], [], [], [], [], [], [], [], [], [], [], [], [], [988, 990, 22, 59, 991], [], [], [], [], [], []]
set_option maxRecDepth 100000 in
theorem xo_204 : xa_allOK xb_G xb_S 204 := xa_all_ok (es := xt_204) (pls := xp_204) rfl (by decide +kernel)
def xp_205 : List (List Nat) := [[], [], [1285, 1287, 48, 59, 1288], [], [], [], [], [], [959, 961, 21, 59, 962], [], [], [978, 979, 59, 980], [], [], [1028, 1029, 59, 1030], [], [], [958], [959, 961, 21, 59, 962], [], [], [], [], [], [904], [], [], [], [], [], [], [], [], [], [905], [], [], [], [], [], [], [], [], [], [], [], [1060, 1062, 29, 59, 1063], [], [], [], [], [], [], [], [], []]
set_option maxRecDepth 100000 in
theorem xo_205 : xa_allOK xb_G xb_S 205 := xa_all_ok (es := xt_205) (pls := xp_205) rfl (by decide +kernel)
def xp_206 : List (List Nat) := [[], [], [], [], [], [], [887], [], [], [886], [], [], [], [], [], [], [], [890], [], []]
set_option maxRecDepth 100000 in
theorem xo_206 : xa_allOK xb_G xb_S 206 := xa_all_ok (es := xt_206) (pls := xp_206) rfl (by decide +kernel)
def xp_207 : List (List Nat) := [[], [890], [], [], [1055], [959, 961, 21, 59, 962], [], [], [], [], [], [], [], [886], [], [], [887], [], [], [], [], [], [], [886], [], [], []]
set_option maxRecDepth 100000 in
theorem xo_207 : xa_allOK xb_G xb_S 207 := xa_all_ok (es := xt_207) (pls := xp_207) rfl (by decide +kernel)
def xp_208 : List (List Nat) := [[], [890], [], [], [], [], [], [], [], [890], [], []]
set_option maxRecDepth 100000 in
theorem xo_208 : xa_allOK xb_G xb_S 208 := xa_all_ok (es := xt_208) (pls := xp_208) rfl (by decide +kernel)
def xp_209 : List (List Nat) := [[], [], [], [], [], [886], [], [], [], [], [], [], [], [], [], [], [886], [], [], [], [], [], [], [], [], [], [], [], [], [], [], [], [], [], [], [], [886], [], [], [1032, 1034, 26, 59, 1035], [1137, 1138, 59, 1139], [], [], [], [], [], [], [], [], [], [], [], [], [], [], [], [886], [], [], [1060, 1062, 29, 59, 1063], [], [], [], [], [], [], [], [], [], [], [], [898], [], [], [886], [], [], [], [], [], [], [], [], [], [], [886], [], [], [], [], [], [], [], [], [], [], [], [], [], [], [], [958], [959, 961, 21, 59, 962], []]
set_option maxRecDepth 100000 in
theorem xo_209 : xa_allOK xb_G xb_S 209 := xa_all_ok (es := xt_209) (pls := xp_209) rfl (by decide +kernel)
def xp_210 : List (List Nat) := [[], [], [1101], [986], [955, 956, 59, 957], [], [], [958], [959, 961, 21, 59, 962], [], [], [], [], [], [], [], [], [], [], [], [], [], [], [], [889], [], [], [], [], [], [], [], [], [], []]
set_option maxRecDepth 100000 in
theorem xo_210 : xa_allOK xb_G xb_S 210 := xa_all_ok (es := xt_210) (pls := xp_210) rfl (by decide +kernel)
def xp_211 : List (List Nat) := [[], [], [], [], [571], [], [], [], [], [572], [], [], [], [], [572], [], [], [], [], [], [], [], [], [573], [], [], [], [], [], [], [], [], [], [], [], [], [], [], [], [], [], []]
set_option maxRecDepth 100000 in
theorem xo_211 : xa_allOK xb_G xb_S 211 := xa_all_ok (es := xt_211) (pls := xp_211) rfl (by decide +kernel)
def xp_212 : List (List Nat) := [[], [1325], [], [], [695, 696, 697, 63, 698], [], []]
set_option maxRecDepth 100000 in
theorem xo_212 : xa_allOK xb_G xb_S 212 := xa_all_ok (es := xt_212) (pls := xp_212) rfl (by decide +kernel)
def xp_213 : List (List Nat) := [[], [705, 706, 707, 63, 708], [], [], [1325], [], [709, 710, 64, 711], [], [], [1325], [], [], []]
set_option maxRecDepth 100000 in
theorem xo_213 : xa_allOK xb_G xb_S 213 := xa_all_ok (es := xt_213) (pls := xp_213) rfl (by decide +kernel)
def xp_214 : List (List Nat) := [[699, 4], [], [], [1326], [], [], []]
set_option maxRecDepth 100000 in
theorem xo_214 : xa_allOK xb_G xb_S 214 := xa_all_ok (es := xt_214) (pls := xp_214) rfl (by decide +kernel)
def xp_215 : List (List Nat) := [[699, 4], [], [], [1326], [], [], [], [], []]
set_option maxRecDepth 100000 in
theorem xo_215 : xa_allOK xb_G xb_S 215 := xa_all_ok (es := xt_215) (pls := xp_215) rfl (by decide +kernel)
def xp_216 : List (List Nat) := [[], [], [715, 5], [717, 718, 65, 719], [], []]
set_option maxRecDepth 100000 in
theorem xo_216 : xa_allOK xb_G xb_S 216 := xa_all_ok (es := xt_216) (pls := xp_216) rfl (by decide +kernel)
def xp_217 : List (List Nat) := [[], [], [], [712, 713, 63, 714], [], [], [], [], [], [], []]
set_option maxRecDepth 100000 in
theorem xo_217 : xa_allOK xb_G xb_S 217 := xa_all_ok (es := xt_217) (pls := xp_217) rfl (by decide +kernel)
def xp_218 : List (List Nat) := [[], [], [], [], [], [], [], [], [], [], [], []]
set_option maxRecDepth 100000 in
theorem xo_218 : xa_allOK xb_G xb_S 218 := xa_all_ok (es := xt_218) (pls := xp_218) rfl (by decide +kernel)
end
section
theorem xa_all_app {G : xa_G} {S : xa_M} {mi k : Nat} {a b : List xa_E} (ha : ∀ (i : Nat) (en : xa_E), a[i]? = some en → ∃ pl, xa_ok G S mi (k + i) en pl = true) (hb : ∀ (i : Nat) (en : xa_E), b[i]? = some en → ∃ pl, xa_ok G S mi (k + a.length + i) en pl = true) : ∀ (i : Nat) (en : xa_E), (a ++ b)[i]? = some en → ∃ pl, xa_ok G S mi (k + i) en pl = true := by
  intro i en e
  by_cases h : i < a.length
  · rw [List.getElem?_append_left h] at e
    exact ha i en e
  · rw [List.getElem?_append_right (by omega)] at e
    have := hb _ en e
    rwa [show k + a.length + (i - a.length) = k + i by omega] at this
def xp_219_0_0 : List (List Nat) := [[67, 68, 50], [], [69, 70, 50, 71], [], [880, 881, 59], [], [882, 883, 59, 884], [], [], [], [], [], [], [], [], [], [], [], [], [], [], [], [], [], [], []]
def xt_219_0_0 : List xa_E := [(0, .new 7, 3, [8]), (3, .dup, 1, []), (4, .invokespecial 9, 3, [2, 58, 0, 8]), (7, .astore_n 1, 1, []), (8, .new 10, 3, [9]), (11, .dup, 1, []), (12, .invokespecial 12, 3, [2, 125, 0, 9]), (15, .astore_n 2, 1, []), (16, .iconst 0, 1, []), (17, .istore_n 3, 1, []), (18, .iload_n 3, 1, []), (19, .aload_n 0, 1, []), (20, .arraylength, 1, []), (21, .bipush 6, 2, []), (23, .isub, 1, []), (24, .if_icmp .gt 1727, 3, [1283]), (27, .aload_n 0, 1, []), (28, .iload_n 3, 1, []), (29, .iaload, 1, []), (30, .bipush 63, 2, []), (32, .iand, 1, []), (33, .tableswitch 1712 0 42 #[187, 210, 253, 302, 355, 398, 441, 474, 517, 550, 593, 626, 659, 702, 725, 768, 801, 834, 877, 910, 963, 1006, 1049, 1072, 1105, 1148, 1191, 1234, 1257, 1290, 1303, 1316, 1359, 1392, 1435, 1478, 1541, 1584, 1627, 1640, 1653, 1666, 1689], 187, [1281, 22, 39, 76, 111, 158, 195, 232, 259, 296, 323, 360, 387, 414, 451, 468, 505, 532, 559, 596, 623, 670, 707, 744, 761, 788, 825, 862, 899, 916, 943, 950, 957, 994, 1021, 1058, 1095, 1152, 1189, 1226, 1233, 1240, 1247, 1264]), (220, .aload_n 1, 1, []), (221, .aload_n 0, 1, []), (222, .iload_n 3, 1, []), (223, .iconst 1, 1, [])]
set_option maxRecDepth 100000 in
theorem xo_219_0_0 : ∀ (i : Nat) (en : xa_E), xt_219_0_0[i]? = some en → ∃ pl, xa_ok xb_G xb_S 219 (0 + i) en pl = true := xa_all_of xb_G xb_S 219 xt_219_0_0 0 xp_219_0_0 (by decide +kernel)
def xp_219_0_1 : List (List Nat) := [[], [], [321, 322, 323, 50, 324], [], [], [], [], [], [], [950, 951, 952, 59, 953], [], [], [], [], [], [], [], [], [], [], [], [], [], [], [], []]
def xt_219_0_1 : List xa_E := [(224, .iadd, 1, []), (225, .iaload, 1, []), (226, .invokevirtual 13, 3, [1, 59, 1, 8]), (229, .aload_n 2, 1, []), (230, .aload_n 0, 1, []), (231, .iload_n 3, 1, []), (232, .iconst 1, 1, []), (233, .iadd, 1, []), (234, .iaload, 1, []), (235, .invokevirtual 17, 3, [1, 135, 1, 9]), (238, .if_icmp .eq 1507, 3, [1281]), (241, .iconst 0, 1, []), (242, .ireturn, 1, [1]), (243, .aload_n 1, 1, []), (244, .aload_n 0, 1, []), (245, .iload_n 3, 1, []), (246, .iconst 1, 1, []), (247, .iadd, 1, []), (248, .iaload, 1, []), (249, .aload_n 0, 1, []), (250, .iload_n 3, 1, []), (251, .iconst 2, 1, []), (252, .iadd, 1, []), (253, .iaload, 1, []), (254, .aload_n 0, 1, []), (255, .iload_n 3, 1, [])]
set_option maxRecDepth 100000 in
theorem xo_219_0_1 : ∀ (i : Nat) (en : xa_E), xt_219_0_1[i]? = some en → ∃ pl, xa_ok xb_G xb_S 219 (26 + i) en pl = true := xa_all_of xb_G xb_S 219 xt_219_0_1 26 xp_219_0_1 (by decide +kernel)
def xp_219_0_2 : List (List Nat) := [[], [], [], [333, 334, 335, 50, 336], [], [], [], [], [], [], [], [], [], [], [], [], [], [], [], [], [964, 965, 966, 59, 967], [], [], [], [], []]
def xt_219_0_2 : List xa_E := [(256, .iconst 3, 1, []), (257, .iadd, 1, []), (258, .iaload, 1, []), (259, .invokevirtual 18, 3, [1, 60, 3, 8]), (262, .aload_n 2, 1, []), (263, .aload_n 0, 1, []), (264, .iload_n 3, 1, []), (265, .iconst 1, 1, []), (266, .iadd, 1, []), (267, .iaload, 1, []), (268, .aload_n 0, 1, []), (269, .iload_n 3, 1, []), (270, .iconst 2, 1, []), (271, .iadd, 1, []), (272, .iaload, 1, []), (273, .aload_n 0, 1, []), (274, .iload_n 3, 1, []), (275, .iconst 3, 1, []), (276, .iadd, 1, []), (277, .iaload, 1, []), (278, .invokevirtual 22, 3, [1, 136, 3, 9]), (281, .if_icmp .eq 1464, 3, [1281]), (284, .iconst 0, 1, []), (285, .ireturn, 1, [1]), (286, .aload_n 1, 1, []), (287, .aload_n 0, 1, [])]
set_option maxRecDepth 100000 in
theorem xo_219_0_2 : ∀ (i : Nat) (en : xa_E), xt_219_0_2[i]? = some en → ∃ pl, xa_ok xb_G xb_S 219 (52 + i) en pl = true := xa_all_of xb_G xb_S 219 xt_219_0_2 52 xp_219_0_2 (by decide +kernel)
def xp_219_0_3 : List (List Nat) := [[], [], [], [], [], [], [], [], [], [], [], [], [], [343, 344, 345, 50, 346], [], [], [], [], [], [], [], [], [], [], [], []]
def xt_219_0_3 : List xa_E := [(288, .iload_n 3, 1, []), (289, .iconst 1, 1, []), (290, .iadd, 1, []), (291, .iaload, 1, []), (292, .aload_n 0, 1, []), (293, .iload_n 3, 1, []), (294, .iconst 2, 1, []), (295, .iadd, 1, []), (296, .iaload, 1, []), (297, .ifCond .eq 7, 3, [90]), (300, .iconst 1, 1, []), (301, .goto 4, 3, [91]), (304, .iconst 0, 1, []), (305, .invokevirtual 23, 3, [1, 61, 2, 8]), (308, .aload_n 2, 1, []), (309, .aload_n 0, 1, []), (310, .iload_n 3, 1, []), (311, .iconst 1, 1, []), (312, .iadd, 1, []), (313, .iaload, 1, []), (314, .aload_n 0, 1, []), (315, .iload_n 3, 1, []), (316, .iconst 2, 1, []), (317, .iadd, 1, []), (318, .iaload, 1, []), (319, .ifCond .eq 7, 3, [106])]
set_option maxRecDepth 100000 in
theorem xo_219_0_3 : ∀ (i : Nat) (en : xa_E), xt_219_0_3[i]? = some en → ∃ pl, xa_ok xb_G xb_S 219 (78 + i) en pl = true := xa_all_of xb_G xb_S 219 xt_219_0_3 78 xp_219_0_3 (by decide +kernel)
def xp_219_0_4 : List (List Nat) := [[], [], [], [974, 975, 976, 59, 977], [], [], [], [], [], [], [], [], [], [], [], [], [], [], [], [], [], [], [], [], [], []]
def xt_219_0_4 : List xa_E := [(322, .iconst 1, 1, []), (323, .goto 4, 3, [107]), (326, .iconst 0, 1, []), (327, .invokevirtual 27, 3, [1, 137, 2, 9]), (330, .if_icmp .eq 1415, 3, [1281]), (333, .iconst 0, 1, []), (334, .ireturn, 1, [1]), (335, .aload_n 1, 1, []), (336, .aload_n 0, 1, []), (337, .iload_n 3, 1, []), (338, .iconst 1, 1, []), (339, .iadd, 1, []), (340, .iaload, 1, []), (341, .aload_n 0, 1, []), (342, .iload_n 3, 1, []), (343, .iconst 2, 1, []), (344, .iadd, 1, []), (345, .iaload, 1, []), (346, .aload_n 0, 1, []), (347, .iload_n 3, 1, []), (348, .iconst 3, 1, []), (349, .iadd, 1, []), (350, .iaload, 1, []), (351, .aload_n 0, 1, []), (352, .iload_n 3, 1, []), (353, .iconst 4, 1, [])]
set_option maxRecDepth 100000 in
theorem xo_219_0_4 : ∀ (i : Nat) (en : xa_E), xt_219_0_4[i]? = some en → ∃ pl, xa_ok xb_G xb_S 219 (104 + i) en pl = true := xa_all_of xb_G xb_S 219 xt_219_0_4 104 xp_219_0_4 (by decide +kernel)
set_option maxRecDepth 100000 in
theorem xo_219_0 : ∀ (i : Nat) (en : xa_E), xt_219_0[i]? = some en → ∃ pl, xa_ok xb_G xb_S 219 (0 + i) en pl = true := by
  rw [show xt_219_0 = (xt_219_0_0 ++ (xt_219_0_1 ++ (xt_219_0_2 ++ (xt_219_0_3 ++ xt_219_0_4)))) from rfl]
  exact (xa_all_app (a := xt_219_0_0) xo_219_0_0 (xa_all_app (a := xt_219_0_1) xo_219_0_1 (xa_all_app (a := xt_219_0_2) xo_219_0_2 (xa_all_app (a := xt_219_0_3) xo_219_0_3 xo_219_0_4))))
def xp_219_1_0 : List (List Nat) := [[], [], [350, 351, 352, 50, 353], [], [], [], [], [], [], [], [], [], [], [], [], [], [], [], [], [], [], [], [], [], [982, 983, 984, 59, 985], []]
def xt_219_1_0 : List xa_E := [(354, .iadd, 1, []), (355, .iaload, 1, []), (356, .invokevirtual 28, 3, [1, 62, 4, 8]), (359, .aload_n 2, 1, []), (360, .aload_n 0, 1, []), (361, .iload_n 3, 1, []), (362, .iconst 1, 1, []), (363, .iadd, 1, []), (364, .iaload, 1, []), (365, .aload_n 0, 1, []), (366, .iload_n 3, 1, []), (367, .iconst 2, 1, []), (368, .iadd, 1, []), (369, .iaload, 1, []), (370, .aload_n 0, 1, []), (371, .iload_n 3, 1, []), (372, .iconst 3, 1, []), (373, .iadd, 1, []), (374, .iaload, 1, []), (375, .aload_n 0, 1, []), (376, .iload_n 3, 1, []), (377, .iconst 4, 1, []), (378, .iadd, 1, []), (379, .iaload, 1, []), (380, .invokevirtual 32, 3, [1, 139, 4, 9]), (383, .if_icmp .eq 1362, 3, [1281])]
set_option maxRecDepth 100000 in
theorem xo_219_1_0 : ∀ (i : Nat) (en : xa_E), xt_219_1_0[i]? = some en → ∃ pl, xa_ok xb_G xb_S 219 (130 + i) en pl = true := xa_all_of xb_G xb_S 219 xt_219_1_0 130 xp_219_1_0 (by decide +kernel)
def xp_219_1_1 : List (List Nat) := [[], [], [], [], [], [], [], [], [], [], [], [], [], [], [], [], [], [], [369, 370, 371, 50, 372], [], [], [], [], [], [], []]
def xt_219_1_1 : List xa_E := [(386, .iconst 0, 1, []), (387, .ireturn, 1, [1]), (388, .aload_n 1, 1, []), (389, .aload_n 0, 1, []), (390, .iload_n 3, 1, []), (391, .iconst 1, 1, []), (392, .iadd, 1, []), (393, .iaload, 1, []), (394, .aload_n 0, 1, []), (395, .iload_n 3, 1, []), (396, .iconst 2, 1, []), (397, .iadd, 1, []), (398, .iaload, 1, []), (399, .aload_n 0, 1, []), (400, .iload_n 3, 1, []), (401, .iconst 3, 1, []), (402, .iadd, 1, []), (403, .iaload, 1, []), (404, .invokevirtual 33, 3, [1, 63, 3, 8]), (407, .aload_n 2, 1, []), (408, .aload_n 0, 1, []), (409, .iload_n 3, 1, []), (410, .iconst 1, 1, []), (411, .iadd, 1, []), (412, .iaload, 1, []), (413, .aload_n 0, 1, [])]
set_option maxRecDepth 100000 in
theorem xo_219_1_1 : ∀ (i : Nat) (en : xa_E), xt_219_1_1[i]? = some en → ∃ pl, xa_ok xb_G xb_S 219 (156 + i) en pl = true := xa_all_of xb_G xb_S 219 xt_219_1_1 156 xp_219_1_1 (by decide +kernel)
def xp_219_1_2 : List (List Nat) := [[], [], [], [], [], [], [], [], [], [995, 996, 997, 59, 998], [], [], [], [], [], [], [], [], [], [], [], [], [], [], [], []]
def xt_219_1_2 : List xa_E := [(414, .iload_n 3, 1, []), (415, .iconst 2, 1, []), (416, .iadd, 1, []), (417, .iaload, 1, []), (418, .aload_n 0, 1, []), (419, .iload_n 3, 1, []), (420, .iconst 3, 1, []), (421, .iadd, 1, []), (422, .iaload, 1, []), (423, .invokevirtual 36, 3, [1, 141, 3, 9]), (426, .if_icmp .eq 1319, 3, [1281]), (429, .iconst 0, 1, []), (430, .ireturn, 1, [1]), (431, .aload_n 1, 1, []), (432, .aload_n 0, 1, []), (433, .iload_n 3, 1, []), (434, .iconst 1, 1, []), (435, .iadd, 1, []), (436, .iaload, 1, []), (437, .aload_n 0, 1, []), (438, .iload_n 3, 1, []), (439, .iconst 2, 1, []), (440, .iadd, 1, []), (441, .iaload, 1, []), (442, .aload_n 0, 1, []), (443, .iload_n 3, 1, [])]
set_option maxRecDepth 100000 in
theorem xo_219_1_2 : ∀ (i : Nat) (en : xa_E), xt_219_1_2[i]? = some en → ∃ pl, xa_ok xb_G xb_S 219 (182 + i) en pl = true := xa_all_of xb_G xb_S 219 xt_219_1_2 182 xp_219_1_2 (by decide +kernel)
def xp_219_1_3 : List (List Nat) := [[], [], [], [383, 384, 385, 50, 386], [], [], [], [], [], [], [], [], [], [], [], [], [], [], [], [], [1008, 1009, 1010, 59, 1011], [], [], [], [], []]
def xt_219_1_3 : List xa_E := [(444, .iconst 3, 1, []), (445, .iadd, 1, []), (446, .iaload, 1, []), (447, .invokevirtual 37, 3, [1, 64, 3, 8]), (450, .aload_n 2, 1, []), (451, .aload_n 0, 1, []), (452, .iload_n 3, 1, []), (453, .iconst 1, 1, []), (454, .iadd, 1, []), (455, .iaload, 1, []), (456, .aload_n 0, 1, []), (457, .iload_n 3, 1, []), (458, .iconst 2, 1, []), (459, .iadd, 1, []), (460, .iaload, 1, []), (461, .aload_n 0, 1, []), (462, .iload_n 3, 1, []), (463, .iconst 3, 1, []), (464, .iadd, 1, []), (465, .iaload, 1, []), (466, .invokevirtual 40, 3, [1, 142, 3, 9]), (469, .if_icmp .eq 1276, 3, [1281]), (472, .iconst 0, 1, []), (473, .ireturn, 1, [1]), (474, .aload_n 1, 1, []), (475, .aload_n 0, 1, [])]
set_option maxRecDepth 100000 in
theorem xo_219_1_3 : ∀ (i : Nat) (en : xa_E), xt_219_1_3[i]? = some en → ∃ pl, xa_ok xb_G xb_S 219 (208 + i) en pl = true := xa_all_of xb_G xb_S 219 xt_219_1_3 208 xp_219_1_3 (by decide +kernel)
def xp_219_1_4 : List (List Nat) := [[], [], [], [], [], [], [], [], [], [387, 388, 389, 50, 390], [], [], [], [], [], [], [], [], [], [], [], [1012, 1013, 1014, 59, 1015], [], [], [], []]
def xt_219_1_4 : List xa_E := [(476, .iload_n 3, 1, []), (477, .iconst 1, 1, []), (478, .iadd, 1, []), (479, .iaload, 1, []), (480, .aload_n 0, 1, []), (481, .iload_n 3, 1, []), (482, .iconst 2, 1, []), (483, .iadd, 1, []), (484, .iaload, 1, []), (485, .invokevirtual 41, 3, [1, 65, 2, 8]), (488, .aload_n 2, 1, []), (489, .aload_n 0, 1, []), (490, .iload_n 3, 1, []), (491, .iconst 1, 1, []), (492, .iadd, 1, []), (493, .iaload, 1, []), (494, .aload_n 0, 1, []), (495, .iload_n 3, 1, []), (496, .iconst 2, 1, []), (497, .iadd, 1, []), (498, .iaload, 1, []), (499, .invokevirtual 45, 3, [1, 143, 2, 9]), (502, .if_icmp .eq 1243, 3, [1281]), (505, .iconst 0, 1, []), (506, .ireturn, 1, [1]), (507, .aload_n 1, 1, [])]
set_option maxRecDepth 100000 in
theorem xo_219_1_4 : ∀ (i : Nat) (en : xa_E), xt_219_1_4[i]? = some en → ∃ pl, xa_ok xb_G xb_S 219 (234 + i) en pl = true := xa_all_of xb_G xb_S 219 xt_219_1_4 234 xp_219_1_4 (by decide +kernel)
set_option maxRecDepth 100000 in
theorem xo_219_1 : ∀ (i : Nat) (en : xa_E), xt_219_1[i]? = some en → ∃ pl, xa_ok xb_G xb_S 219 (130 + i) en pl = true := by
  rw [show xt_219_1 = (xt_219_1_0 ++ (xt_219_1_1 ++ (xt_219_1_2 ++ (xt_219_1_3 ++ xt_219_1_4)))) from rfl]
  exact (xa_all_app (a := xt_219_1_0) xo_219_1_0 (xa_all_app (a := xt_219_1_1) xo_219_1_1 (xa_all_app (a := xt_219_1_2) xo_219_1_2 (xa_all_app (a := xt_219_1_3) xo_219_1_3 xo_219_1_4))))
def xp_219_2_0 : List (List Nat) := [[], [], [], [], [], [], [], [], [], [], [], [], [], [], [], [399, 400, 401, 50, 402], [], [], [], [], [], [], [], [], [], []]
def xt_219_2_0 : List xa_E := [(508, .aload_n 0, 1, []), (509, .iload_n 3, 1, []), (510, .iconst 1, 1, []), (511, .iadd, 1, []), (512, .iaload, 1, []), (513, .aload_n 0, 1, []), (514, .iload_n 3, 1, []), (515, .iconst 2, 1, []), (516, .iadd, 1, []), (517, .iaload, 1, []), (518, .aload_n 0, 1, []), (519, .iload_n 3, 1, []), (520, .iconst 3, 1, []), (521, .iadd, 1, []), (522, .iaload, 1, []), (523, .invokevirtual 46, 3, [1, 66, 3, 8]), (526, .aload_n 2, 1, []), (527, .aload_n 0, 1, []), (528, .iload_n 3, 1, []), (529, .iconst 1, 1, []), (530, .iadd, 1, []), (531, .iaload, 1, []), (532, .aload_n 0, 1, []), (533, .iload_n 3, 1, []), (534, .iconst 2, 1, []), (535, .iadd, 1, [])]
set_option maxRecDepth 100000 in
theorem xo_219_2_0 : ∀ (i : Nat) (en : xa_E), xt_219_2_0[i]? = some en → ∃ pl, xa_ok xb_G xb_S 219 (260 + i) en pl = true := xa_all_of xb_G xb_S 219 xt_219_2_0 260 xp_219_2_0 (by decide +kernel)
def xp_219_2_1 : List (List Nat) := [[], [], [], [], [], [], [1016, 1017, 1018, 59, 1019], [], [], [], [], [], [], [], [], [], [], [], [], [], [], [403, 404, 405, 50, 406], [], [], [], []]
def xt_219_2_1 : List xa_E := [(536, .iaload, 1, []), (537, .aload_n 0, 1, []), (538, .iload_n 3, 1, []), (539, .iconst 3, 1, []), (540, .iadd, 1, []), (541, .iaload, 1, []), (542, .invokevirtual 49, 3, [1, 145, 3, 9]), (545, .if_icmp .eq 1200, 3, [1281]), (548, .iconst 0, 1, []), (549, .ireturn, 1, [1]), (550, .aload_n 1, 1, []), (551, .aload_n 0, 1, []), (552, .iload_n 3, 1, []), (553, .iconst 1, 1, []), (554, .iadd, 1, []), (555, .iaload, 1, []), (556, .aload_n 0, 1, []), (557, .iload_n 3, 1, []), (558, .iconst 2, 1, []), (559, .iadd, 1, []), (560, .iaload, 1, []), (561, .invokevirtual 50, 3, [1, 67, 2, 8]), (564, .aload_n 2, 1, []), (565, .aload_n 0, 1, []), (566, .iload_n 3, 1, []), (567, .iconst 1, 1, [])]
set_option maxRecDepth 100000 in
theorem xo_219_2_1 : ∀ (i : Nat) (en : xa_E), xt_219_2_1[i]? = some en → ∃ pl, xa_ok xb_G xb_S 219 (286 + i) en pl = true := xa_all_of xb_G xb_S 219 xt_219_2_1 286 xp_219_2_1 (by decide +kernel)
def xp_219_2_2 : List (List Nat) := [[], [], [], [], [], [], [], [1024, 1025, 1026, 59, 1027], [], [], [], [], [], [], [], [], [], [], [], [], [], [], [], [], [], []]
def xt_219_2_2 : List xa_E := [(568, .iadd, 1, []), (569, .iaload, 1, []), (570, .aload_n 0, 1, []), (571, .iload_n 3, 1, []), (572, .iconst 2, 1, []), (573, .iadd, 1, []), (574, .iaload, 1, []), (575, .invokevirtual 53, 3, [1, 150, 2, 9]), (578, .if_icmp .eq 1167, 3, [1281]), (581, .iconst 0, 1, []), (582, .ireturn, 1, [1]), (583, .aload_n 1, 1, []), (584, .aload_n 0, 1, []), (585, .iload_n 3, 1, []), (586, .iconst 1, 1, []), (587, .iadd, 1, []), (588, .iaload, 1, []), (589, .aload_n 0, 1, []), (590, .iload_n 3, 1, []), (591, .iconst 2, 1, []), (592, .iadd, 1, []), (593, .iaload, 1, []), (594, .aload_n 0, 1, []), (595, .iload_n 3, 1, []), (596, .iconst 3, 1, []), (597, .iadd, 1, [])]
set_option maxRecDepth 100000 in
theorem xo_219_2_2 : ∀ (i : Nat) (en : xa_E), xt_219_2_2[i]? = some en → ∃ pl, xa_ok xb_G xb_S 219 (312 + i) en pl = true := xa_all_of xb_G xb_S 219 xt_219_2_2 312 xp_219_2_2 (by decide +kernel)
def xp_219_2_3 : List (List Nat) := [[], [436, 437, 438, 50, 439], [], [], [], [], [], [], [], [], [], [], [], [], [], [], [], [], [1047, 1048, 1049, 59, 1050], [], [], [], [], [], [], []]
def xt_219_2_3 : List xa_E := [(598, .iaload, 1, []), (599, .invokevirtual 54, 3, [1, 68, 3, 8]), (602, .aload_n 2, 1, []), (603, .aload_n 0, 1, []), (604, .iload_n 3, 1, []), (605, .iconst 1, 1, []), (606, .iadd, 1, []), (607, .iaload, 1, []), (608, .aload_n 0, 1, []), (609, .iload_n 3, 1, []), (610, .iconst 2, 1, []), (611, .iadd, 1, []), (612, .iaload, 1, []), (613, .aload_n 0, 1, []), (614, .iload_n 3, 1, []), (615, .iconst 3, 1, []), (616, .iadd, 1, []), (617, .iaload, 1, []), (618, .invokevirtual 57, 3, [1, 151, 3, 9]), (621, .if_icmp .eq 1124, 3, [1281]), (624, .iconst 0, 1, []), (625, .ireturn, 1, [1]), (626, .aload_n 1, 1, []), (627, .aload_n 0, 1, []), (628, .iload_n 3, 1, []), (629, .iconst 1, 1, [])]
set_option maxRecDepth 100000 in
theorem xo_219_2_3 : ∀ (i : Nat) (en : xa_E), xt_219_2_3[i]? = some en → ∃ pl, xa_ok xb_G xb_S 219 (338 + i) en pl = true := xa_all_of xb_G xb_S 219 xt_219_2_3 338 xp_219_2_3 (by decide +kernel)
def xp_219_2_4 : List (List Nat) := [[], [], [], [], [], [], [], [441, 442, 443, 50, 444], [], [], [], [], [], [], [], [], [], [], [], [1051, 1052, 1053, 59, 1054], [], [], [], [], [], []]
def xt_219_2_4 : List xa_E := [(630, .iadd, 1, []), (631, .iaload, 1, []), (632, .aload_n 0, 1, []), (633, .iload_n 3, 1, []), (634, .iconst 2, 1, []), (635, .iadd, 1, []), (636, .iaload, 1, []), (637, .invokevirtual 58, 3, [1, 69, 2, 8]), (640, .aload_n 2, 1, []), (641, .aload_n 0, 1, []), (642, .iload_n 3, 1, []), (643, .iconst 1, 1, []), (644, .iadd, 1, []), (645, .iaload, 1, []), (646, .aload_n 0, 1, []), (647, .iload_n 3, 1, []), (648, .iconst 2, 1, []), (649, .iadd, 1, []), (650, .iaload, 1, []), (651, .invokevirtual 61, 3, [1, 152, 2, 9]), (654, .if_icmp .eq 1091, 3, [1281]), (657, .iconst 0, 1, []), (658, .ireturn, 1, [1]), (659, .aload_n 1, 1, []), (660, .aload_n 0, 1, []), (661, .iload_n 3, 1, [])]
set_option maxRecDepth 100000 in
theorem xo_219_2_4 : ∀ (i : Nat) (en : xa_E), xt_219_2_4[i]? = some en → ∃ pl, xa_ok xb_G xb_S 219 (364 + i) en pl = true := xa_all_of xb_G xb_S 219 xt_219_2_4 364 xp_219_2_4 (by decide +kernel)
set_option maxRecDepth 100000 in
theorem xo_219_2 : ∀ (i : Nat) (en : xa_E), xt_219_2[i]? = some en → ∃ pl, xa_ok xb_G xb_S 219 (260 + i) en pl = true := by
  rw [show xt_219_2 = (xt_219_2_0 ++ (xt_219_2_1 ++ (xt_219_2_2 ++ (xt_219_2_3 ++ xt_219_2_4)))) from rfl]
  exact (xa_all_app (a := xt_219_2_0) xo_219_2_0 (xa_all_app (a := xt_219_2_1) xo_219_2_1 (xa_all_app (a := xt_219_2_2) xo_219_2_2 (xa_all_app (a := xt_219_2_3) xo_219_2_3 xo_219_2_4))))
def xp_219_3_0 : List (List Nat) := [[], [], [], [], [], [], [], [], [445, 446, 447, 50, 448], [], [], [], [], [], [], [], [], [], [], [], [1056, 1057, 1058, 59, 1059], [], [], [], [], []]
def xt_219_3_0 : List xa_E := [(662, .iconst 1, 1, []), (663, .iadd, 1, []), (664, .iaload, 1, []), (665, .aload_n 0, 1, []), (666, .iload_n 3, 1, []), (667, .iconst 2, 1, []), (668, .iadd, 1, []), (669, .iaload, 1, []), (670, .invokevirtual 62, 3, [1, 70, 2, 8]), (673, .aload_n 2, 1, []), (674, .aload_n 0, 1, []), (675, .iload_n 3, 1, []), (676, .iconst 1, 1, []), (677, .iadd, 1, []), (678, .iaload, 1, []), (679, .aload_n 0, 1, []), (680, .iload_n 3, 1, []), (681, .iconst 2, 1, []), (682, .iadd, 1, []), (683, .iaload, 1, []), (684, .invokevirtual 65, 3, [1, 158, 2, 9]), (687, .if_icmp .eq 1058, 3, [1281]), (690, .iconst 0, 1, []), (691, .ireturn, 1, [1]), (692, .aload_n 1, 1, []), (693, .aload_n 0, 1, [])]
set_option maxRecDepth 100000 in
theorem xo_219_3_0 : ∀ (i : Nat) (en : xa_E), xt_219_3_0[i]? = some en → ∃ pl, xa_ok xb_G xb_S 219 (390 + i) en pl = true := xa_all_of xb_G xb_S 219 xt_219_3_0 390 xp_219_3_0 (by decide +kernel)
def xp_219_3_1 : List (List Nat) := [[], [], [], [], [], [], [], [], [], [], [], [], [], [], [473, 474, 475, 50, 476], [], [], [], [], [], [], [], [], [], [], []]
def xt_219_3_1 : List xa_E := [(694, .iload_n 3, 1, []), (695, .iconst 1, 1, []), (696, .iadd, 1, []), (697, .iaload, 1, []), (698, .aload_n 0, 1, []), (699, .iload_n 3, 1, []), (700, .iconst 2, 1, []), (701, .iadd, 1, []), (702, .iaload, 1, []), (703, .aload_n 0, 1, []), (704, .iload_n 3, 1, []), (705, .iconst 3, 1, []), (706, .iadd, 1, []), (707, .iaload, 1, []), (708, .invokevirtual 66, 3, [1, 71, 3, 8]), (711, .aload_n 2, 1, []), (712, .aload_n 0, 1, []), (713, .iload_n 3, 1, []), (714, .iconst 1, 1, []), (715, .iadd, 1, []), (716, .iaload, 1, []), (717, .aload_n 0, 1, []), (718, .iload_n 3, 1, []), (719, .iconst 2, 1, []), (720, .iadd, 1, []), (721, .iaload, 1, [])]
set_option maxRecDepth 100000 in
theorem xo_219_3_1 : ∀ (i : Nat) (en : xa_E), xt_219_3_1[i]? = some en → ∃ pl, xa_ok xb_G xb_S 219 (416 + i) en pl = true := xa_all_of xb_G xb_S 219 xt_219_3_1 416 xp_219_3_1 (by decide +kernel)
def xp_219_3_2 : List (List Nat) := [[], [], [], [], [], [1084, 1085, 1086, 59, 1087], [], [], [], [], [], [], [], [], [], [477, 478, 479, 50, 480], [], [], [], [], [], [], [1089, 1090, 1091, 59, 1092], [], [], []]
def xt_219_3_2 : List xa_E := [(722, .aload_n 0, 1, []), (723, .iload_n 3, 1, []), (724, .iconst 3, 1, []), (725, .iadd, 1, []), (726, .iaload, 1, []), (727, .invokevirtual 69, 3, [1, 159, 3, 9]), (730, .if_icmp .eq 1015, 3, [1281]), (733, .iconst 0, 1, []), (734, .ireturn, 1, [1]), (735, .aload_n 1, 1, []), (736, .aload_n 0, 1, []), (737, .iload_n 3, 1, []), (738, .iconst 1, 1, []), (739, .iadd, 1, []), (740, .iaload, 1, []), (741, .invokevirtual 70, 3, [1, 72, 1, 8]), (744, .aload_n 2, 1, []), (745, .aload_n 0, 1, []), (746, .iload_n 3, 1, []), (747, .iconst 1, 1, []), (748, .iadd, 1, []), (749, .iaload, 1, []), (750, .invokevirtual 73, 3, [1, 160, 1, 9]), (753, .if_icmp .eq 992, 3, [1281]), (756, .iconst 0, 1, []), (757, .ireturn, 1, [1])]
set_option maxRecDepth 100000 in
theorem xo_219_3_2 : ∀ (i : Nat) (en : xa_E), xt_219_3_2[i]? = some en → ∃ pl, xa_ok xb_G xb_S 219 (442 + i) en pl = true := xa_all_of xb_G xb_S 219 xt_219_3_2 442 xp_219_3_2 (by decide +kernel)
def xp_219_3_3 : List (List Nat) := [[], [], [], [], [], [], [], [], [], [], [], [], [], [], [], [], [491, 492, 493, 50, 494], [], [], [], [], [], [], [], [], []]
def xt_219_3_3 : List xa_E := [(758, .aload_n 1, 1, []), (759, .aload_n 0, 1, []), (760, .iload_n 3, 1, []), (761, .iconst 1, 1, []), (762, .iadd, 1, []), (763, .iaload, 1, []), (764, .aload_n 0, 1, []), (765, .iload_n 3, 1, []), (766, .iconst 2, 1, []), (767, .iadd, 1, []), (768, .iaload, 1, []), (769, .aload_n 0, 1, []), (770, .iload_n 3, 1, []), (771, .iconst 3, 1, []), (772, .iadd, 1, []), (773, .iaload, 1, []), (774, .invokevirtual 74, 3, [1, 73, 3, 8]), (777, .aload_n 2, 1, []), (778, .aload_n 0, 1, []), (779, .iload_n 3, 1, []), (780, .iconst 1, 1, []), (781, .iadd, 1, []), (782, .iaload, 1, []), (783, .aload_n 0, 1, []), (784, .iload_n 3, 1, []), (785, .iconst 2, 1, [])]
set_option maxRecDepth 100000 in
theorem xo_219_3_3 : ∀ (i : Nat) (en : xa_E), xt_219_3_3[i]? = some en → ∃ pl, xa_ok xb_G xb_S 219 (468 + i) en pl = true := xa_all_of xb_G xb_S 219 xt_219_3_3 468 xp_219_3_3 (by decide +kernel)
def xp_219_3_4 : List (List Nat) := [[], [], [], [], [], [], [], [1093, 1094, 1095, 59, 1096], [], [], [], [], [], [], [], [], [], [], [], [], [], [], [501, 502, 503, 50, 504], [], [], []]
def xt_219_3_4 : List xa_E := [(786, .iadd, 1, []), (787, .iaload, 1, []), (788, .aload_n 0, 1, []), (789, .iload_n 3, 1, []), (790, .iconst 3, 1, []), (791, .iadd, 1, []), (792, .iaload, 1, []), (793, .invokevirtual 77, 3, [1, 161, 3, 9]), (796, .if_icmp .eq 949, 3, [1281]), (799, .iconst 0, 1, []), (800, .ireturn, 1, [1]), (801, .aload_n 1, 1, []), (802, .aload_n 0, 1, []), (803, .iload_n 3, 1, []), (804, .iconst 1, 1, []), (805, .iadd, 1, []), (806, .iaload, 1, []), (807, .aload_n 0, 1, []), (808, .iload_n 3, 1, []), (809, .iconst 2, 1, []), (810, .iadd, 1, []), (811, .iaload, 1, []), (812, .invokevirtual 78, 3, [1, 74, 2, 8]), (815, .aload_n 2, 1, []), (816, .aload_n 0, 1, []), (817, .iload_n 3, 1, [])]
set_option maxRecDepth 100000 in
theorem xo_219_3_4 : ∀ (i : Nat) (en : xa_E), xt_219_3_4[i]? = some en → ∃ pl, xa_ok xb_G xb_S 219 (494 + i) en pl = true := xa_all_of xb_G xb_S 219 xt_219_3_4 494 xp_219_3_4 (by decide +kernel)
set_option maxRecDepth 100000 in
theorem xo_219_3 : ∀ (i : Nat) (en : xa_E), xt_219_3[i]? = some en → ∃ pl, xa_ok xb_G xb_S 219 (390 + i) en pl = true := by
  rw [show xt_219_3 = (xt_219_3_0 ++ (xt_219_3_1 ++ (xt_219_3_2 ++ (xt_219_3_3 ++ xt_219_3_4)))) from rfl]
  exact (xa_all_app (a := xt_219_3_0) xo_219_3_0 (xa_all_app (a := xt_219_3_1) xo_219_3_1 (xa_all_app (a := xt_219_3_2) xo_219_3_2 (xa_all_app (a := xt_219_3_3) xo_219_3_3 xo_219_3_4))))
def xp_219_4_0 : List (List Nat) := [[], [], [], [], [], [], [], [], [1097, 1098, 1099, 59, 1100], [], [], [], [], [], [], [], [], [], [], [], [], [], [], [510, 511, 512, 50, 513], [], []]
def xt_219_4_0 : List xa_E := [(818, .iconst 1, 1, []), (819, .iadd, 1, []), (820, .iaload, 1, []), (821, .aload_n 0, 1, []), (822, .iload_n 3, 1, []), (823, .iconst 2, 1, []), (824, .iadd, 1, []), (825, .iaload, 1, []), (826, .invokevirtual 81, 3, [1, 162, 2, 9]), (829, .if_icmp .eq 916, 3, [1281]), (832, .iconst 0, 1, []), (833, .ireturn, 1, [1]), (834, .aload_n 1, 1, []), (835, .aload_n 0, 1, []), (836, .iload_n 3, 1, []), (837, .iconst 1, 1, []), (838, .iadd, 1, []), (839, .iaload, 1, []), (840, .aload_n 0, 1, []), (841, .iload_n 3, 1, []), (842, .iconst 2, 1, []), (843, .iadd, 1, []), (844, .iaload, 1, []), (845, .invokevirtual 82, 3, [1, 75, 2, 8]), (848, .aload_n 2, 1, []), (849, .aload_n 0, 1, [])]
set_option maxRecDepth 100000 in
theorem xo_219_4_0 : ∀ (i : Nat) (en : xa_E), xt_219_4_0[i]? = some en → ∃ pl, xa_ok xb_G xb_S 219 (520 + i) en pl = true := xa_all_of xb_G xb_S 219 xt_219_4_0 520 xp_219_4_0 (by decide +kernel)
def xp_219_4_1 : List (List Nat) := [[], [], [], [], [], [], [], [], [], [1103, 1104, 1105, 59, 1106], [], [], [], [], [], [], [], [], [], [], [], [], [], [], [], []]
def xt_219_4_1 : List xa_E := [(850, .iload_n 3, 1, []), (851, .iconst 1, 1, []), (852, .iadd, 1, []), (853, .iaload, 1, []), (854, .aload_n 0, 1, []), (855, .iload_n 3, 1, []), (856, .iconst 2, 1, []), (857, .iadd, 1, []), (858, .iaload, 1, []), (859, .invokevirtual 85, 3, [1, 163, 2, 9]), (862, .if_icmp .eq 883, 3, [1281]), (865, .iconst 0, 1, []), (866, .ireturn, 1, [1]), (867, .aload_n 1, 1, []), (868, .aload_n 0, 1, []), (869, .iload_n 3, 1, []), (870, .iconst 1, 1, []), (871, .iadd, 1, []), (872, .iaload, 1, []), (873, .aload_n 0, 1, []), (874, .iload_n 3, 1, []), (875, .iconst 2, 1, []), (876, .iadd, 1, []), (877, .iaload, 1, []), (878, .aload_n 0, 1, []), (879, .iload_n 3, 1, [])]
set_option maxRecDepth 100000 in
theorem xo_219_4_1 : ∀ (i : Nat) (en : xa_E), xt_219_4_1[i]? = some en → ∃ pl, xa_ok xb_G xb_S 219 (546 + i) en pl = true := xa_all_of xb_G xb_S 219 xt_219_4_1 546 xp_219_4_1 (by decide +kernel)
def xp_219_4_2 : List (List Nat) := [[], [], [], [518, 519, 520, 50, 521], [], [], [], [], [], [], [], [], [], [], [], [], [], [], [], [], [1107, 1108, 1109, 59, 1110], [], [], [], [], []]
def xt_219_4_2 : List xa_E := [(880, .iconst 3, 1, []), (881, .iadd, 1, []), (882, .iaload, 1, []), (883, .invokevirtual 86, 3, [1, 76, 3, 8]), (886, .aload_n 2, 1, []), (887, .aload_n 0, 1, []), (888, .iload_n 3, 1, []), (889, .iconst 1, 1, []), (890, .iadd, 1, []), (891, .iaload, 1, []), (892, .aload_n 0, 1, []), (893, .iload_n 3, 1, []), (894, .iconst 2, 1, []), (895, .iadd, 1, []), (896, .iaload, 1, []), (897, .aload_n 0, 1, []), (898, .iload_n 3, 1, []), (899, .iconst 3, 1, []), (900, .iadd, 1, []), (901, .iaload, 1, []), (902, .invokevirtual 89, 3, [1, 164, 3, 9]), (905, .if_icmp .eq 840, 3, [1281]), (908, .iconst 0, 1, []), (909, .ireturn, 1, [1]), (910, .aload_n 1, 1, []), (911, .aload_n 0, 1, [])]
set_option maxRecDepth 100000 in
theorem xo_219_4_2 : ∀ (i : Nat) (en : xa_E), xt_219_4_2[i]? = some en → ∃ pl, xa_ok xb_G xb_S 219 (572 + i) en pl = true := xa_all_of xb_G xb_S 219 xt_219_4_2 572 xp_219_4_2 (by decide +kernel)
def xp_219_4_3 : List (List Nat) := [[], [], [], [], [], [], [], [], [], [522, 523, 524, 50, 525], [], [], [], [], [], [], [], [], [], [], [], [1111, 1112, 1113, 59, 1114], [], [], [], []]
def xt_219_4_3 : List xa_E := [(912, .iload_n 3, 1, []), (913, .iconst 1, 1, []), (914, .iadd, 1, []), (915, .iaload, 1, []), (916, .aload_n 0, 1, []), (917, .iload_n 3, 1, []), (918, .iconst 2, 1, []), (919, .iadd, 1, []), (920, .iaload, 1, []), (921, .invokevirtual 90, 3, [1, 77, 2, 8]), (924, .aload_n 2, 1, []), (925, .aload_n 0, 1, []), (926, .iload_n 3, 1, []), (927, .iconst 1, 1, []), (928, .iadd, 1, []), (929, .iaload, 1, []), (930, .aload_n 0, 1, []), (931, .iload_n 3, 1, []), (932, .iconst 2, 1, []), (933, .iadd, 1, []), (934, .iaload, 1, []), (935, .invokevirtual 93, 3, [1, 166, 2, 9]), (938, .if_icmp .eq 807, 3, [1281]), (941, .iconst 0, 1, []), (942, .ireturn, 1, [1]), (943, .aload_n 1, 1, [])]
set_option maxRecDepth 100000 in
theorem xo_219_4_3 : ∀ (i : Nat) (en : xa_E), xt_219_4_3[i]? = some en → ∃ pl, xa_ok xb_G xb_S 219 (598 + i) en pl = true := xa_all_of xb_G xb_S 219 xt_219_4_3 598 xp_219_4_3 (by decide +kernel)
def xp_219_4_4 : List (List Nat) := [[], [], [], [], [], [], [], [], [], [], [], [], [], [], [], [], [], [], [], [], [530, 531, 532, 50, 533], [], [], [], [], []]
def xt_219_4_4 : List xa_E := [(944, .aload_n 0, 1, []), (945, .iload_n 3, 1, []), (946, .iconst 1, 1, []), (947, .iadd, 1, []), (948, .iaload, 1, []), (949, .aload_n 0, 1, []), (950, .iload_n 3, 1, []), (951, .iconst 2, 1, []), (952, .iadd, 1, []), (953, .iaload, 1, []), (954, .aload_n 0, 1, []), (955, .iload_n 3, 1, []), (956, .iconst 3, 1, []), (957, .iadd, 1, []), (958, .iaload, 1, []), (959, .aload_n 0, 1, []), (960, .iload_n 3, 1, []), (961, .iconst 4, 1, []), (962, .iadd, 1, []), (963, .iaload, 1, []), (964, .invokevirtual 94, 3, [1, 78, 4, 8]), (967, .aload_n 2, 1, []), (968, .aload_n 0, 1, []), (969, .iload_n 3, 1, []), (970, .iconst 1, 1, []), (971, .iadd, 1, [])]
set_option maxRecDepth 100000 in
theorem xo_219_4_4 : ∀ (i : Nat) (en : xa_E), xt_219_4_4[i]? = some en → ∃ pl, xa_ok xb_G xb_S 219 (624 + i) en pl = true := xa_all_of xb_G xb_S 219 xt_219_4_4 624 xp_219_4_4 (by decide +kernel)
set_option maxRecDepth 100000 in
theorem xo_219_4 : ∀ (i : Nat) (en : xa_E), xt_219_4[i]? = some en → ∃ pl, xa_ok xb_G xb_S 219 (520 + i) en pl = true := by
  rw [show xt_219_4 = (xt_219_4_0 ++ (xt_219_4_1 ++ (xt_219_4_2 ++ (xt_219_4_3 ++ xt_219_4_4)))) from rfl]
  exact (xa_all_app (a := xt_219_4_0) xo_219_4_0 (xa_all_app (a := xt_219_4_1) xo_219_4_1 (xa_all_app (a := xt_219_4_2) xo_219_4_2 (xa_all_app (a := xt_219_4_3) xo_219_4_3 xo_219_4_4))))
end
section
def xp_219_5_0 : List (List Nat) := [[], [], [], [], [], [], [], [], [], [], [], [], [], [], [], [], [1119, 1120, 1121, 59, 1122], [], [], [], [], [], [], [], [], []]
def xt_219_5_0 : List xa_E := [(972, .iaload, 1, []), (973, .aload_n 0, 1, []), (974, .iload_n 3, 1, []), (975, .iconst 2, 1, []), (976, .iadd, 1, []), (977, .iaload, 1, []), (978, .aload_n 0, 1, []), (979, .iload_n 3, 1, []), (980, .iconst 3, 1, []), (981, .iadd, 1, []), (982, .iaload, 1, []), (983, .aload_n 0, 1, []), (984, .iload_n 3, 1, []), (985, .iconst 4, 1, []), (986, .iadd, 1, []), (987, .iaload, 1, []), (988, .invokevirtual 97, 3, [1, 169, 4, 9]), (991, .if_icmp .eq 754, 3, [1281]), (994, .iconst 0, 1, []), (995, .ireturn, 1, [1]), (996, .aload_n 1, 1, []), (997, .aload_n 0, 1, []), (998, .iload_n 3, 1, []), (999, .iconst 1, 1, []), (1000, .iadd, 1, []), (1001, .iaload, 1, [])]
set_option maxRecDepth 100000 in
theorem xo_219_5_0 : ∀ (i : Nat) (en : xa_E), xt_219_5_0[i]? = some en → ∃ pl, xa_ok xb_G xb_S 219 (650 + i) en pl = true := xa_all_of xb_G xb_S 219 xt_219_5_0 650 xp_219_5_0 (by decide +kernel)
def xp_219_5_1 : List (List Nat) := [[], [], [], [], [], [], [], [], [], [], [539, 540, 541, 50, 542], [], [], [], [], [], [], [], [], [], [], [], [], [], [], []]
def xt_219_5_1 : List xa_E := [(1002, .aload_n 0, 1, []), (1003, .iload_n 3, 1, []), (1004, .iconst 2, 1, []), (1005, .iadd, 1, []), (1006, .iaload, 1, []), (1007, .aload_n 0, 1, []), (1008, .iload_n 3, 1, []), (1009, .iconst 3, 1, []), (1010, .iadd, 1, []), (1011, .iaload, 1, []), (1012, .invokevirtual 98, 3, [1, 79, 3, 8]), (1015, .aload_n 2, 1, []), (1016, .aload_n 0, 1, []), (1017, .iload_n 3, 1, []), (1018, .iconst 1, 1, []), (1019, .iadd, 1, []), (1020, .iaload, 1, []), (1021, .aload_n 0, 1, []), (1022, .iload_n 3, 1, []), (1023, .iconst 2, 1, []), (1024, .iadd, 1, []), (1025, .iaload, 1, []), (1026, .aload_n 0, 1, []), (1027, .iload_n 3, 1, []), (1028, .iconst 3, 1, []), (1029, .iadd, 1, [])]
set_option maxRecDepth 100000 in
theorem xo_219_5_1 : ∀ (i : Nat) (en : xa_E), xt_219_5_1[i]? = some en → ∃ pl, xa_ok xb_G xb_S 219 (676 + i) en pl = true := xa_all_of xb_G xb_S 219 xt_219_5_1 676 xp_219_5_1 (by decide +kernel)
def xp_219_5_2 : List (List Nat) := [[], [1132, 1133, 1134, 59, 1135], [], [], [], [], [], [], [], [], [], [], [], [], [], [], [], [], [], [], [], [578, 579, 580, 50, 581], [], [], [], []]
def xt_219_5_2 : List xa_E := [(1030, .iaload, 1, []), (1031, .invokevirtual 101, 3, [1, 170, 3, 9]), (1034, .if_icmp .eq 711, 3, [1281]), (1037, .iconst 0, 1, []), (1038, .ireturn, 1, [1]), (1039, .aload_n 1, 1, []), (1040, .aload_n 0, 1, []), (1041, .iload_n 3, 1, []), (1042, .iconst 1, 1, []), (1043, .iadd, 1, []), (1044, .iaload, 1, []), (1045, .aload_n 0, 1, []), (1046, .iload_n 3, 1, []), (1047, .iconst 2, 1, []), (1048, .iadd, 1, []), (1049, .iaload, 1, []), (1050, .aload_n 0, 1, []), (1051, .iload_n 3, 1, []), (1052, .iconst 3, 1, []), (1053, .iadd, 1, []), (1054, .iaload, 1, []), (1055, .invokevirtual 102, 3, [1, 80, 3, 8]), (1058, .aload_n 2, 1, []), (1059, .aload_n 0, 1, []), (1060, .iload_n 3, 1, []), (1061, .iconst 1, 1, [])]
set_option maxRecDepth 100000 in
theorem xo_219_5_2 : ∀ (i : Nat) (en : xa_E), xt_219_5_2[i]? = some en → ∃ pl, xa_ok xb_G xb_S 219 (702 + i) en pl = true := xa_all_of xb_G xb_S 219 xt_219_5_2 702 xp_219_5_2 (by decide +kernel)
def xp_219_5_3 : List (List Nat) := [[], [], [], [], [], [], [], [], [], [], [], [], [1143, 1144, 1145, 59, 1146], [], [], [], [], [], [], [], [], [], [587, 588, 589, 50, 590], [], [], []]
def xt_219_5_3 : List xa_E := [(1062, .iadd, 1, []), (1063, .iaload, 1, []), (1064, .aload_n 0, 1, []), (1065, .iload_n 3, 1, []), (1066, .iconst 2, 1, []), (1067, .iadd, 1, []), (1068, .iaload, 1, []), (1069, .aload_n 0, 1, []), (1070, .iload_n 3, 1, []), (1071, .iconst 3, 1, []), (1072, .iadd, 1, []), (1073, .iaload, 1, []), (1074, .invokevirtual 105, 3, [1, 171, 3, 9]), (1077, .if_icmp .eq 668, 3, [1281]), (1080, .iconst 0, 1, []), (1081, .ireturn, 1, [1]), (1082, .aload_n 1, 1, []), (1083, .aload_n 0, 1, []), (1084, .iload_n 3, 1, []), (1085, .iconst 1, 1, []), (1086, .iadd, 1, []), (1087, .iaload, 1, []), (1088, .invokevirtual 106, 3, [1, 81, 1, 8]), (1091, .aload_n 2, 1, []), (1092, .aload_n 0, 1, []), (1093, .iload_n 3, 1, [])]
set_option maxRecDepth 100000 in
theorem xo_219_5_3 : ∀ (i : Nat) (en : xa_E), xt_219_5_3[i]? = some en → ∃ pl, xa_ok xb_G xb_S 219 (728 + i) en pl = true := xa_all_of xb_G xb_S 219 xt_219_5_3 728 xp_219_5_3 (by decide +kernel)
def xp_219_5_4 : List (List Nat) := [[], [], [], [1147, 1148, 1149, 59, 1150], [], [], [], [], [], [], [], [], [], [], [], [], [], [], [600, 601, 602, 50, 603], [], [], [], [], [], [], []]
def xt_219_5_4 : List xa_E := [(1094, .iconst 1, 1, []), (1095, .iadd, 1, []), (1096, .iaload, 1, []), (1097, .invokevirtual 109, 3, [1, 174, 1, 9]), (1100, .if_icmp .eq 645, 3, [1281]), (1103, .iconst 0, 1, []), (1104, .ireturn, 1, [1]), (1105, .aload_n 1, 1, []), (1106, .aload_n 0, 1, []), (1107, .iload_n 3, 1, []), (1108, .iconst 1, 1, []), (1109, .iadd, 1, []), (1110, .iaload, 1, []), (1111, .aload_n 0, 1, []), (1112, .iload_n 3, 1, []), (1113, .iconst 2, 1, []), (1114, .iadd, 1, []), (1115, .iaload, 1, []), (1116, .invokevirtual 110, 3, [1, 82, 2, 8]), (1119, .aload_n 2, 1, []), (1120, .aload_n 0, 1, []), (1121, .iload_n 3, 1, []), (1122, .iconst 1, 1, []), (1123, .iadd, 1, []), (1124, .iaload, 1, []), (1125, .aload_n 0, 1, [])]
set_option maxRecDepth 100000 in
theorem xo_219_5_4 : ∀ (i : Nat) (en : xa_E), xt_219_5_4[i]? = some en → ∃ pl, xa_ok xb_G xb_S 219 (754 + i) en pl = true := xa_all_of xb_G xb_S 219 xt_219_5_4 754 xp_219_5_4 (by decide +kernel)
set_option maxRecDepth 100000 in
theorem xo_219_5 : ∀ (i : Nat) (en : xa_E), xt_219_5[i]? = some en → ∃ pl, xa_ok xb_G xb_S 219 (650 + i) en pl = true := by
  rw [show xt_219_5 = (xt_219_5_0 ++ (xt_219_5_1 ++ (xt_219_5_2 ++ (xt_219_5_3 ++ xt_219_5_4)))) from rfl]
  exact (xa_all_app (a := xt_219_5_0) xo_219_5_0 (xa_all_app (a := xt_219_5_1) xo_219_5_1 (xa_all_app (a := xt_219_5_2) xo_219_5_2 (xa_all_app (a := xt_219_5_3) xo_219_5_3 xo_219_5_4))))
def xp_219_6_0 : List (List Nat) := [[], [], [], [], [1158, 1159, 1160, 59, 1161], [], [], [], [], [], [], [], [], [], [], [], [], [], [], [], [], [], [], [], [606, 607, 608, 50, 609], []]
def xt_219_6_0 : List xa_E := [(1126, .iload_n 3, 1, []), (1127, .iconst 2, 1, []), (1128, .iadd, 1, []), (1129, .iaload, 1, []), (1130, .invokevirtual 113, 3, [1, 175, 2, 9]), (1133, .if_icmp .eq 612, 3, [1281]), (1136, .iconst 0, 1, []), (1137, .ireturn, 1, [1]), (1138, .aload_n 1, 1, []), (1139, .aload_n 0, 1, []), (1140, .iload_n 3, 1, []), (1141, .iconst 1, 1, []), (1142, .iadd, 1, []), (1143, .iaload, 1, []), (1144, .aload_n 0, 1, []), (1145, .iload_n 3, 1, []), (1146, .iconst 2, 1, []), (1147, .iadd, 1, []), (1148, .iaload, 1, []), (1149, .aload_n 0, 1, []), (1150, .iload_n 3, 1, []), (1151, .iconst 3, 1, []), (1152, .iadd, 1, []), (1153, .iaload, 1, []), (1154, .invokevirtual 114, 3, [1, 83, 3, 8]), (1157, .aload_n 2, 1, [])]
set_option maxRecDepth 100000 in
theorem xo_219_6_0 : ∀ (i : Nat) (en : xa_E), xt_219_6_0[i]? = some en → ∃ pl, xa_ok xb_G xb_S 219 (780 + i) en pl = true := xa_all_of xb_G xb_S 219 xt_219_6_0 780 xp_219_6_0 (by decide +kernel)
def xp_219_6_1 : List (List Nat) := [[], [], [], [], [], [], [], [], [], [], [], [], [], [], [], [1162, 1163, 1164, 59, 1165], [], [], [], [], [], [], [], [], [], []]
def xt_219_6_1 : List xa_E := [(1158, .aload_n 0, 1, []), (1159, .iload_n 3, 1, []), (1160, .iconst 1, 1, []), (1161, .iadd, 1, []), (1162, .iaload, 1, []), (1163, .aload_n 0, 1, []), (1164, .iload_n 3, 1, []), (1165, .iconst 2, 1, []), (1166, .iadd, 1, []), (1167, .iaload, 1, []), (1168, .aload_n 0, 1, []), (1169, .iload_n 3, 1, []), (1170, .iconst 3, 1, []), (1171, .iadd, 1, []), (1172, .iaload, 1, []), (1173, .invokevirtual 117, 3, [1, 176, 3, 9]), (1176, .if_icmp .eq 569, 3, [1281]), (1179, .iconst 0, 1, []), (1180, .ireturn, 1, [1]), (1181, .aload_n 1, 1, []), (1182, .aload_n 0, 1, []), (1183, .iload_n 3, 1, []), (1184, .iconst 1, 1, []), (1185, .iadd, 1, []), (1186, .iaload, 1, []), (1187, .aload_n 0, 1, [])]
set_option maxRecDepth 100000 in
theorem xo_219_6_1 : ∀ (i : Nat) (en : xa_E), xt_219_6_1[i]? = some en → ∃ pl, xa_ok xb_G xb_S 219 (806 + i) en pl = true := xa_all_of xb_G xb_S 219 xt_219_6_1 806 xp_219_6_1 (by decide +kernel)
def xp_219_6_2 : List (List Nat) := [[], [], [], [], [], [], [], [], [], [615, 616, 617, 50, 618], [], [], [], [], [], [], [], [], [], [], [], [], [], [], [], []]
def xt_219_6_2 : List xa_E := [(1188, .iload_n 3, 1, []), (1189, .iconst 2, 1, []), (1190, .iadd, 1, []), (1191, .iaload, 1, []), (1192, .aload_n 0, 1, []), (1193, .iload_n 3, 1, []), (1194, .iconst 3, 1, []), (1195, .iadd, 1, []), (1196, .iaload, 1, []), (1197, .invokevirtual 118, 3, [1, 84, 3, 8]), (1200, .aload_n 2, 1, []), (1201, .aload_n 0, 1, []), (1202, .iload_n 3, 1, []), (1203, .iconst 1, 1, []), (1204, .iadd, 1, []), (1205, .iaload, 1, []), (1206, .aload_n 0, 1, []), (1207, .iload_n 3, 1, []), (1208, .iconst 2, 1, []), (1209, .iadd, 1, []), (1210, .iaload, 1, []), (1211, .aload_n 0, 1, []), (1212, .iload_n 3, 1, []), (1213, .iconst 3, 1, []), (1214, .iadd, 1, []), (1215, .iaload, 1, [])]
set_option maxRecDepth 100000 in
theorem xo_219_6_2 : ∀ (i : Nat) (en : xa_E), xt_219_6_2[i]? = some en → ∃ pl, xa_ok xb_G xb_S 219 (832 + i) en pl = true := xa_all_of xb_G xb_S 219 xt_219_6_2 832 xp_219_6_2 (by decide +kernel)
def xp_219_6_3 : List (List Nat) := [[1166, 1167, 1168, 59, 1169], [], [], [], [], [], [], [], [], [], [], [], [], [], [], [], [], [], [], [], [619, 620, 621, 50, 622], [], [], [], [], []]
def xt_219_6_3 : List xa_E := [(1216, .invokevirtual 121, 3, [1, 177, 3, 9]), (1219, .if_icmp .eq 526, 3, [1281]), (1222, .iconst 0, 1, []), (1223, .ireturn, 1, [1]), (1224, .aload_n 1, 1, []), (1225, .aload_n 0, 1, []), (1226, .iload_n 3, 1, []), (1227, .iconst 1, 1, []), (1228, .iadd, 1, []), (1229, .iaload, 1, []), (1230, .aload_n 0, 1, []), (1231, .iload_n 3, 1, []), (1232, .iconst 2, 1, []), (1233, .iadd, 1, []), (1234, .iaload, 1, []), (1235, .aload_n 0, 1, []), (1236, .iload_n 3, 1, []), (1237, .iconst 3, 1, []), (1238, .iadd, 1, []), (1239, .iaload, 1, []), (1240, .invokevirtual 122, 3, [1, 85, 3, 8]), (1243, .aload_n 2, 1, []), (1244, .aload_n 0, 1, []), (1245, .iload_n 3, 1, []), (1246, .iconst 1, 1, []), (1247, .iadd, 1, [])]
set_option maxRecDepth 100000 in
theorem xo_219_6_3 : ∀ (i : Nat) (en : xa_E), xt_219_6_3[i]? = some en → ∃ pl, xa_ok xb_G xb_S 219 (858 + i) en pl = true := xa_all_of xb_G xb_S 219 xt_219_6_3 858 xp_219_6_3 (by decide +kernel)
def xp_219_6_4 : List (List Nat) := [[], [], [], [], [], [], [], [], [], [], [], [1170, 1171, 1172, 59, 1173], [], [], [], [], [], [], [], [], [], [629, 630, 631, 50, 632], [], [], [], []]
def xt_219_6_4 : List xa_E := [(1248, .iaload, 1, []), (1249, .aload_n 0, 1, []), (1250, .iload_n 3, 1, []), (1251, .iconst 2, 1, []), (1252, .iadd, 1, []), (1253, .iaload, 1, []), (1254, .aload_n 0, 1, []), (1255, .iload_n 3, 1, []), (1256, .iconst 3, 1, []), (1257, .iadd, 1, []), (1258, .iaload, 1, []), (1259, .invokevirtual 125, 3, [1, 178, 3, 9]), (1262, .if_icmp .eq 483, 3, [1281]), (1265, .iconst 0, 1, []), (1266, .ireturn, 1, [1]), (1267, .aload_n 1, 1, []), (1268, .aload_n 0, 1, []), (1269, .iload_n 3, 1, []), (1270, .iconst 1, 1, []), (1271, .iadd, 1, []), (1272, .iaload, 1, []), (1273, .invokevirtual 126, 3, [1, 86, 1, 8]), (1276, .aload_n 2, 1, []), (1277, .aload_n 0, 1, []), (1278, .iload_n 3, 1, []), (1279, .iconst 1, 1, [])]
set_option maxRecDepth 100000 in
theorem xo_219_6_4 : ∀ (i : Nat) (en : xa_E), xt_219_6_4[i]? = some en → ∃ pl, xa_ok xb_G xb_S 219 (884 + i) en pl = true := xa_all_of xb_G xb_S 219 xt_219_6_4 884 xp_219_6_4 (by decide +kernel)
set_option maxRecDepth 100000 in
theorem xo_219_6 : ∀ (i : Nat) (en : xa_E), xt_219_6[i]? = some en → ∃ pl, xa_ok xb_G xb_S 219 (780 + i) en pl = true := by
  rw [show xt_219_6 = (xt_219_6_0 ++ (xt_219_6_1 ++ (xt_219_6_2 ++ (xt_219_6_3 ++ xt_219_6_4)))) from rfl]
  exact (xa_all_app (a := xt_219_6_0) xo_219_6_0 (xa_all_app (a := xt_219_6_1) xo_219_6_1 (xa_all_app (a := xt_219_6_2) xo_219_6_2 (xa_all_app (a := xt_219_6_3) xo_219_6_3 xo_219_6_4))))
def xp_219_7_0 : List (List Nat) := [[], [], [1176, 1177, 1178, 59, 1179], [], [], [], [], [], [], [], [], [], [], [], [], [], [], [633, 634, 635, 50, 636], [], [], [], [], [], [], [], []]
def xt_219_7_0 : List xa_E := [(1280, .iadd, 1, []), (1281, .iaload, 1, []), (1282, .invokevirtual 129, 3, [1, 179, 1, 9]), (1285, .if_icmp .eq 460, 3, [1281]), (1288, .iconst 0, 1, []), (1289, .ireturn, 1, [1]), (1290, .aload_n 1, 1, []), (1291, .aload_n 0, 1, []), (1292, .iload_n 3, 1, []), (1293, .iconst 1, 1, []), (1294, .iadd, 1, []), (1295, .iaload, 1, []), (1296, .aload_n 0, 1, []), (1297, .iload_n 3, 1, []), (1298, .iconst 2, 1, []), (1299, .iadd, 1, []), (1300, .iaload, 1, []), (1301, .invokevirtual 130, 3, [1, 87, 2, 8]), (1304, .aload_n 2, 1, []), (1305, .aload_n 0, 1, []), (1306, .iload_n 3, 1, []), (1307, .iconst 1, 1, []), (1308, .iadd, 1, []), (1309, .iaload, 1, []), (1310, .aload_n 0, 1, []), (1311, .iload_n 3, 1, [])]
set_option maxRecDepth 100000 in
theorem xo_219_7_0 : ∀ (i : Nat) (en : xa_E), xt_219_7_0[i]? = some en → ∃ pl, xa_ok xb_G xb_S 219 (910 + i) en pl = true := xa_all_of xb_G xb_S 219 xt_219_7_0 910 xp_219_7_0 (by decide +kernel)
def xp_219_7_1 : List (List Nat) := [[], [], [], [1180, 1181, 1182, 59, 1183], [], [], [], [], [641, 642, 643, 50, 644], [], [1184, 1185, 1186, 59, 1187], [], [], [], [], [645, 646, 647, 50, 648], [], [1188, 1189, 1190, 59, 1191], [], [], [], [], [], [], [], []]
def xt_219_7_1 : List xa_E := [(1312, .iconst 2, 1, []), (1313, .iadd, 1, []), (1314, .iaload, 1, []), (1315, .invokevirtual 133, 3, [1, 180, 2, 9]), (1318, .if_icmp .eq 427, 3, [1281]), (1321, .iconst 0, 1, []), (1322, .ireturn, 1, [1]), (1323, .aload_n 1, 1, []), (1324, .invokevirtual 134, 3, [1, 88, 0, 8]), (1327, .aload_n 2, 1, []), (1328, .invokevirtual 138, 3, [1, 181, 0, 9]), (1331, .if_icmp .eq 414, 3, [1281]), (1334, .iconst 0, 1, []), (1335, .ireturn, 1, [1]), (1336, .aload_n 1, 1, []), (1337, .invokevirtual 139, 3, [1, 89, 0, 8]), (1340, .aload_n 2, 1, []), (1341, .invokevirtual 142, 3, [1, 194, 0, 9]), (1344, .if_icmp .eq 401, 3, [1281]), (1347, .iconst 0, 1, []), (1348, .ireturn, 1, [1]), (1349, .aload_n 1, 1, []), (1350, .aload_n 0, 1, []), (1351, .iload_n 3, 1, []), (1352, .iconst 1, 1, []), (1353, .iadd, 1, [])]
set_option maxRecDepth 100000 in
theorem xo_219_7_1 : ∀ (i : Nat) (en : xa_E), xt_219_7_1[i]? = some en → ∃ pl, xa_ok xb_G xb_S 219 (936 + i) en pl = true := xa_all_of xb_G xb_S 219 xt_219_7_1 936 xp_219_7_1 (by decide +kernel)
def xp_219_7_2 : List (List Nat) := [[], [], [], [], [], [], [], [], [], [], [], [789, 790, 791, 50, 792], [], [], [], [], [], [], [], [], [], [], [], [], [], []]
def xt_219_7_2 : List xa_E := [(1354, .iaload, 1, []), (1355, .aload_n 0, 1, []), (1356, .iload_n 3, 1, []), (1357, .iconst 2, 1, []), (1358, .iadd, 1, []), (1359, .iaload, 1, []), (1360, .aload_n 0, 1, []), (1361, .iload_n 3, 1, []), (1362, .iconst 3, 1, []), (1363, .iadd, 1, []), (1364, .iaload, 1, []), (1365, .invokevirtual 143, 3, [1, 90, 3, 8]), (1368, .aload_n 2, 1, []), (1369, .aload_n 0, 1, []), (1370, .iload_n 3, 1, []), (1371, .iconst 1, 1, []), (1372, .iadd, 1, []), (1373, .iaload, 1, []), (1374, .aload_n 0, 1, []), (1375, .iload_n 3, 1, []), (1376, .iconst 2, 1, []), (1377, .iadd, 1, []), (1378, .iaload, 1, []), (1379, .aload_n 0, 1, []), (1380, .iload_n 3, 1, []), (1381, .iconst 3, 1, [])]
set_option maxRecDepth 100000 in
theorem xo_219_7_2 : ∀ (i : Nat) (en : xa_E), xt_219_7_2[i]? = some en → ∃ pl, xa_ok xb_G xb_S 219 (962 + i) en pl = true := xa_all_of xb_G xb_S 219 xt_219_7_2 962 xp_219_7_2 (by decide +kernel)
def xp_219_7_3 : List (List Nat) := [[], [], [1262, 1263, 1264, 59, 1265], [], [], [], [], [], [], [], [], [], [], [], [], [], [], [796, 797, 798, 50, 799], [], [], [], [], [], [], [], []]
def xt_219_7_3 : List xa_E := [(1382, .iadd, 1, []), (1383, .iaload, 1, []), (1384, .invokevirtual 146, 3, [1, 196, 3, 9]), (1387, .if_icmp .eq 358, 3, [1281]), (1390, .iconst 0, 1, []), (1391, .ireturn, 1, [1]), (1392, .aload_n 1, 1, []), (1393, .aload_n 0, 1, []), (1394, .iload_n 3, 1, []), (1395, .iconst 1, 1, []), (1396, .iadd, 1, []), (1397, .iaload, 1, []), (1398, .aload_n 0, 1, []), (1399, .iload_n 3, 1, []), (1400, .iconst 2, 1, []), (1401, .iadd, 1, []), (1402, .iaload, 1, []), (1403, .invokevirtual 147, 3, [1, 91, 2, 8]), (1406, .aload_n 2, 1, []), (1407, .aload_n 0, 1, []), (1408, .iload_n 3, 1, []), (1409, .iconst 1, 1, []), (1410, .iadd, 1, []), (1411, .iaload, 1, []), (1412, .aload_n 0, 1, []), (1413, .iload_n 3, 1, [])]
set_option maxRecDepth 100000 in
theorem xo_219_7_3 : ∀ (i : Nat) (en : xa_E), xt_219_7_3[i]? = some en → ∃ pl, xa_ok xb_G xb_S 219 (988 + i) en pl = true := xa_all_of xb_G xb_S 219 xt_219_7_3 988 xp_219_7_3 (by decide +kernel)
def xp_219_7_4 : List (List Nat) := [[], [], [], [1267, 1268, 1269, 59, 1270], [], [], [], [], [], [], [], [], [], [], [], [], [], [], [], [], [], [], [], [801, 802, 803, 50, 804], [], []]
def xt_219_7_4 : List xa_E := [(1414, .iconst 2, 1, []), (1415, .iadd, 1, []), (1416, .iaload, 1, []), (1417, .invokevirtual 150, 3, [1, 197, 2, 9]), (1420, .if_icmp .eq 325, 3, [1281]), (1423, .iconst 0, 1, []), (1424, .ireturn, 1, [1]), (1425, .aload_n 1, 1, []), (1426, .aload_n 0, 1, []), (1427, .iload_n 3, 1, []), (1428, .iconst 1, 1, []), (1429, .iadd, 1, []), (1430, .iaload, 1, []), (1431, .aload_n 0, 1, []), (1432, .iload_n 3, 1, []), (1433, .iconst 2, 1, []), (1434, .iadd, 1, []), (1435, .iaload, 1, []), (1436, .aload_n 0, 1, []), (1437, .iload_n 3, 1, []), (1438, .iconst 3, 1, []), (1439, .iadd, 1, []), (1440, .iaload, 1, []), (1441, .invokevirtual 151, 3, [1, 92, 3, 8]), (1444, .aload_n 2, 1, []), (1445, .aload_n 0, 1, [])]
set_option maxRecDepth 100000 in
theorem xo_219_7_4 : ∀ (i : Nat) (en : xa_E), xt_219_7_4[i]? = some en → ∃ pl, xa_ok xb_G xb_S 219 (1014 + i) en pl = true := xa_all_of xb_G xb_S 219 xt_219_7_4 1014 xp_219_7_4 (by decide +kernel)
set_option maxRecDepth 100000 in
theorem xo_219_7 : ∀ (i : Nat) (en : xa_E), xt_219_7[i]? = some en → ∃ pl, xa_ok xb_G xb_S 219 (910 + i) en pl = true := by
  rw [show xt_219_7 = (xt_219_7_0 ++ (xt_219_7_1 ++ (xt_219_7_2 ++ (xt_219_7_3 ++ xt_219_7_4)))) from rfl]
  exact (xa_all_app (a := xt_219_7_0) xo_219_7_0 (xa_all_app (a := xt_219_7_1) xo_219_7_1 (xa_all_app (a := xt_219_7_2) xo_219_7_2 (xa_all_app (a := xt_219_7_3) xo_219_7_3 xo_219_7_4))))
def xp_219_8_0 : List (List Nat) := [[], [], [], [], [], [], [], [], [], [], [], [], [], [], [1273, 1274, 1275, 59, 1276], [], [], [], [], [], [], [], [], [], [], []]
def xt_219_8_0 : List xa_E := [(1446, .iload_n 3, 1, []), (1447, .iconst 1, 1, []), (1448, .iadd, 1, []), (1449, .iaload, 1, []), (1450, .aload_n 0, 1, []), (1451, .iload_n 3, 1, []), (1452, .iconst 2, 1, []), (1453, .iadd, 1, []), (1454, .iaload, 1, []), (1455, .aload_n 0, 1, []), (1456, .iload_n 3, 1, []), (1457, .iconst 3, 1, []), (1458, .iadd, 1, []), (1459, .iaload, 1, []), (1460, .invokevirtual 154, 3, [1, 199, 3, 9]), (1463, .if_icmp .eq 282, 3, [1281]), (1466, .iconst 0, 1, []), (1467, .ireturn, 1, [1]), (1468, .aload_n 1, 1, []), (1469, .aload_n 0, 1, []), (1470, .iload_n 3, 1, []), (1471, .iconst 1, 1, []), (1472, .iadd, 1, []), (1473, .iaload, 1, []), (1474, .aload_n 0, 1, []), (1475, .iload_n 3, 1, [])]
set_option maxRecDepth 100000 in
theorem xo_219_8_0 : ∀ (i : Nat) (en : xa_E), xt_219_8_0[i]? = some en → ∃ pl, xa_ok xb_G xb_S 219 (1040 + i) en pl = true := xa_all_of xb_G xb_S 219 xt_219_8_0 1040 xp_219_8_0 (by decide +kernel)
def xp_219_8_1 : List (List Nat) := [[], [], [], [], [], [], [], [], [812, 813, 814, 50, 815], [], [], [], [], [], [], [], [], [], [], [], [], [], [], [], [], [1281, 1282, 1283, 59, 1284]]
def xt_219_8_1 : List xa_E := [(1476, .iconst 2, 1, []), (1477, .iadd, 1, []), (1478, .iaload, 1, []), (1479, .aload_n 0, 1, []), (1480, .iload_n 3, 1, []), (1481, .iconst 3, 1, []), (1482, .iadd, 1, []), (1483, .iaload, 1, []), (1484, .invokevirtual 155, 3, [1, 93, 3, 8]), (1487, .aload_n 2, 1, []), (1488, .aload_n 0, 1, []), (1489, .iload_n 3, 1, []), (1490, .iconst 1, 1, []), (1491, .iadd, 1, []), (1492, .iaload, 1, []), (1493, .aload_n 0, 1, []), (1494, .iload_n 3, 1, []), (1495, .iconst 2, 1, []), (1496, .iadd, 1, []), (1497, .iaload, 1, []), (1498, .aload_n 0, 1, []), (1499, .iload_n 3, 1, []), (1500, .iconst 3, 1, []), (1501, .iadd, 1, []), (1502, .iaload, 1, []), (1503, .invokevirtual 158, 3, [1, 202, 3, 9])]
set_option maxRecDepth 100000 in
theorem xo_219_8_1 : ∀ (i : Nat) (en : xa_E), xt_219_8_1[i]? = some en → ∃ pl, xa_ok xb_G xb_S 219 (1066 + i) en pl = true := xa_all_of xb_G xb_S 219 xt_219_8_1 1066 xp_219_8_1 (by decide +kernel)
def xp_219_8_2 : List (List Nat) := [[], [], [], [], [], [], [], [], [], [], [], [], [], [], [], [], [], [], [], [], [], [], [], [], [], []]
def xt_219_8_2 : List xa_E := [(1506, .if_icmp .eq 239, 3, [1281]), (1509, .iconst 0, 1, []), (1510, .ireturn, 1, [1]), (1511, .aload_n 1, 1, []), (1512, .aload_n 0, 1, []), (1513, .iload_n 3, 1, []), (1514, .iconst 1, 1, []), (1515, .iadd, 1, []), (1516, .iaload, 1, []), (1517, .aload_n 0, 1, []), (1518, .iload_n 3, 1, []), (1519, .iconst 2, 1, []), (1520, .iadd, 1, []), (1521, .iaload, 1, []), (1522, .aload_n 0, 1, []), (1523, .iload_n 3, 1, []), (1524, .iconst 3, 1, []), (1525, .iadd, 1, []), (1526, .iaload, 1, []), (1527, .aload_n 0, 1, []), (1528, .iload_n 3, 1, []), (1529, .iconst 4, 1, []), (1530, .iadd, 1, []), (1531, .iaload, 1, []), (1532, .aload_n 0, 1, []), (1533, .iload_n 3, 1, [])]
set_option maxRecDepth 100000 in
theorem xo_219_8_2 : ∀ (i : Nat) (en : xa_E), xt_219_8_2[i]? = some en → ∃ pl, xa_ok xb_G xb_S 219 (1092 + i) en pl = true := xa_all_of xb_G xb_S 219 xt_219_8_2 1092 xp_219_8_2 (by decide +kernel)
def xp_219_8_3 : List (List Nat) := [[], [], [], [824, 825, 826, 50, 827], [], [], [], [], [], [], [], [], [], [], [], [], [], [], [], [], [], [], [], [], [], []]
def xt_219_8_3 : List xa_E := [(1534, .iconst 5, 1, []), (1535, .iadd, 1, []), (1536, .iaload, 1, []), (1537, .invokevirtual 159, 3, [1, 94, 5, 8]), (1540, .aload_n 2, 1, []), (1541, .aload_n 0, 1, []), (1542, .iload_n 3, 1, []), (1543, .iconst 1, 1, []), (1544, .iadd, 1, []), (1545, .iaload, 1, []), (1546, .aload_n 0, 1, []), (1547, .iload_n 3, 1, []), (1548, .iconst 2, 1, []), (1549, .iadd, 1, []), (1550, .iaload, 1, []), (1551, .aload_n 0, 1, []), (1552, .iload_n 3, 1, []), (1553, .iconst 3, 1, []), (1554, .iadd, 1, []), (1555, .iaload, 1, []), (1556, .aload_n 0, 1, []), (1557, .iload_n 3, 1, []), (1558, .iconst 4, 1, []), (1559, .iadd, 1, []), (1560, .iaload, 1, []), (1561, .aload_n 0, 1, [])]
set_option maxRecDepth 100000 in
theorem xo_219_8_3 : ∀ (i : Nat) (en : xa_E), xt_219_8_3[i]? = some en → ∃ pl, xa_ok xb_G xb_S 219 (1118 + i) en pl = true := xa_all_of xb_G xb_S 219 xt_219_8_3 1118 xp_219_8_3 (by decide +kernel)
def xp_219_8_4 : List (List Nat) := [[], [], [], [], [1292, 1293, 1294, 59, 1295], [], [], [], [], [], [], [], [], [], [], [], [], [], [], [], [], [], [], [], [833, 834, 835, 50, 836], []]
def xt_219_8_4 : List xa_E := [(1562, .iload_n 3, 1, []), (1563, .iconst 5, 1, []), (1564, .iadd, 1, []), (1565, .iaload, 1, []), (1566, .invokevirtual 163, 3, [1, 203, 5, 9]), (1569, .if_icmp .eq 176, 3, [1281]), (1572, .iconst 0, 1, []), (1573, .ireturn, 1, [1]), (1574, .aload_n 1, 1, []), (1575, .aload_n 0, 1, []), (1576, .iload_n 3, 1, []), (1577, .iconst 1, 1, []), (1578, .iadd, 1, []), (1579, .iaload, 1, []), (1580, .aload_n 0, 1, []), (1581, .iload_n 3, 1, []), (1582, .iconst 2, 1, []), (1583, .iadd, 1, []), (1584, .iaload, 1, []), (1585, .aload_n 0, 1, []), (1586, .iload_n 3, 1, []), (1587, .iconst 3, 1, []), (1588, .iadd, 1, []), (1589, .iaload, 1, []), (1590, .invokevirtual 164, 3, [1, 95, 3, 8]), (1593, .aload_n 2, 1, [])]
set_option maxRecDepth 100000 in
theorem xo_219_8_4 : ∀ (i : Nat) (en : xa_E), xt_219_8_4[i]? = some en → ∃ pl, xa_ok xb_G xb_S 219 (1144 + i) en pl = true := xa_all_of xb_G xb_S 219 xt_219_8_4 1144 xp_219_8_4 (by decide +kernel)
set_option maxRecDepth 100000 in
theorem xo_219_8 : ∀ (i : Nat) (en : xa_E), xt_219_8[i]? = some en → ∃ pl, xa_ok xb_G xb_S 219 (1040 + i) en pl = true := by
  rw [show xt_219_8 = (xt_219_8_0 ++ (xt_219_8_1 ++ (xt_219_8_2 ++ (xt_219_8_3 ++ xt_219_8_4)))) from rfl]
  exact (xa_all_app (a := xt_219_8_0) xo_219_8_0 (xa_all_app (a := xt_219_8_1) xo_219_8_1 (xa_all_app (a := xt_219_8_2) xo_219_8_2 (xa_all_app (a := xt_219_8_3) xo_219_8_3 xo_219_8_4))))
def xp_219_9_0 : List (List Nat) := [[], [], [], [], [], [], [], [], [], [], [], [], [], [], [], [1296, 1297, 1298, 59, 1299], [], [], [], [], [], [], [], [], [], []]
def xt_219_9_0 : List xa_E := [(1594, .aload_n 0, 1, []), (1595, .iload_n 3, 1, []), (1596, .iconst 1, 1, []), (1597, .iadd, 1, []), (1598, .iaload, 1, []), (1599, .aload_n 0, 1, []), (1600, .iload_n 3, 1, []), (1601, .iconst 2, 1, []), (1602, .iadd, 1, []), (1603, .iaload, 1, []), (1604, .aload_n 0, 1, []), (1605, .iload_n 3, 1, []), (1606, .iconst 3, 1, []), (1607, .iadd, 1, []), (1608, .iaload, 1, []), (1609, .invokevirtual 167, 3, [1, 204, 3, 9]), (1612, .if_icmp .eq 133, 3, [1281]), (1615, .iconst 0, 1, []), (1616, .ireturn, 1, [1]), (1617, .aload_n 1, 1, []), (1618, .aload_n 0, 1, []), (1619, .iload_n 3, 1, []), (1620, .iconst 1, 1, []), (1621, .iadd, 1, []), (1622, .iaload, 1, []), (1623, .aload_n 0, 1, [])]
set_option maxRecDepth 100000 in
theorem xo_219_9_0 : ∀ (i : Nat) (en : xa_E), xt_219_9_0[i]? = some en → ∃ pl, xa_ok xb_G xb_S 219 (1170 + i) en pl = true := xa_all_of xb_G xb_S 219 xt_219_9_0 1170 xp_219_9_0 (by decide +kernel)
def xp_219_9_1 : List (List Nat) := [[], [], [], [], [], [], [], [], [], [840, 841, 842, 50, 843], [], [], [], [], [], [], [], [], [], [], [], [], [], [], [], []]
def xt_219_9_1 : List xa_E := [(1624, .iload_n 3, 1, []), (1625, .iconst 2, 1, []), (1626, .iadd, 1, []), (1627, .iaload, 1, []), (1628, .aload_n 0, 1, []), (1629, .iload_n 3, 1, []), (1630, .iconst 3, 1, []), (1631, .iadd, 1, []), (1632, .iaload, 1, []), (1633, .invokevirtual 168, 3, [1, 96, 3, 8]), (1636, .aload_n 2, 1, []), (1637, .aload_n 0, 1, []), (1638, .iload_n 3, 1, []), (1639, .iconst 1, 1, []), (1640, .iadd, 1, []), (1641, .iaload, 1, []), (1642, .aload_n 0, 1, []), (1643, .iload_n 3, 1, []), (1644, .iconst 2, 1, []), (1645, .iadd, 1, []), (1646, .iaload, 1, []), (1647, .aload_n 0, 1, []), (1648, .iload_n 3, 1, []), (1649, .iconst 3, 1, []), (1650, .iadd, 1, []), (1651, .iaload, 1, [])]
set_option maxRecDepth 100000 in
theorem xo_219_9_1 : ∀ (i : Nat) (en : xa_E), xt_219_9_1[i]? = some en → ∃ pl, xa_ok xb_G xb_S 219 (1196 + i) en pl = true := xa_all_of xb_G xb_S 219 xt_219_9_1 1196 xp_219_9_1 (by decide +kernel)
def xp_219_9_2 : List (List Nat) := [[1301, 1302, 1303, 59, 1304], [], [], [], [], [844, 845, 846, 50, 847], [], [1305, 1306, 1307, 59, 1308], [], [], [], [], [848, 849, 850, 50, 851], [], [1309, 1310, 1311, 59, 1312], [], [], [], [], [852, 853, 854, 50, 855], [], [1313, 1314, 1315, 59, 1316], [], [], [], []]
def xt_219_9_2 : List xa_E := [(1652, .invokevirtual 171, 3, [1, 205, 3, 9]), (1655, .if_icmp .eq 90, 3, [1281]), (1658, .iconst 0, 1, []), (1659, .ireturn, 1, [1]), (1660, .aload_n 1, 1, []), (1661, .invokevirtual 172, 3, [1, 97, 0, 8]), (1664, .aload_n 2, 1, []), (1665, .invokevirtual 175, 3, [1, 206, 0, 9]), (1668, .if_icmp .eq 77, 3, [1281]), (1671, .iconst 0, 1, []), (1672, .ireturn, 1, [1]), (1673, .aload_n 1, 1, []), (1674, .invokevirtual 176, 3, [1, 98, 0, 8]), (1677, .aload_n 2, 1, []), (1678, .invokevirtual 179, 3, [1, 207, 0, 9]), (1681, .if_icmp .eq 64, 3, [1281]), (1684, .iconst 0, 1, []), (1685, .ireturn, 1, [1]), (1686, .aload_n 1, 1, []), (1687, .invokevirtual 180, 3, [1, 99, 0, 8]), (1690, .aload_n 2, 1, []), (1691, .invokevirtual 183, 3, [1, 208, 0, 9]), (1694, .if_icmp .eq 51, 3, [1281]), (1697, .iconst 0, 1, []), (1698, .ireturn, 1, [1]), (1699, .aload_n 1, 1, [])]
set_option maxRecDepth 100000 in
theorem xo_219_9_2 : ∀ (i : Nat) (en : xa_E), xt_219_9_2[i]? = some en → ∃ pl, xa_ok xb_G xb_S 219 (1222 + i) en pl = true := xa_all_of xb_G xb_S 219 xt_219_9_2 1222 xp_219_9_2 (by decide +kernel)
def xp_219_9_3 : List (List Nat) := [[], [], [], [], [], [856, 857, 858, 50, 859], [], [], [], [], [], [], [1317, 1318, 1319, 59, 1320], [], [], [], [], [], [], [], [], [], [876, 877, 878, 50, 879], [], [], []]
def xt_219_9_3 : List xa_E := [(1700, .aload_n 0, 1, []), (1701, .iload_n 3, 1, []), (1702, .iconst 1, 1, []), (1703, .iadd, 1, []), (1704, .iaload, 1, []), (1705, .invokevirtual 184, 3, [1, 100, 1, 8]), (1708, .aload_n 2, 1, []), (1709, .aload_n 0, 1, []), (1710, .iload_n 3, 1, []), (1711, .iconst 1, 1, []), (1712, .iadd, 1, []), (1713, .iaload, 1, []), (1714, .invokevirtual 187, 3, [1, 209, 1, 9]), (1717, .if_icmp .eq 28, 3, [1281]), (1720, .iconst 0, 1, []), (1721, .ireturn, 1, [1]), (1722, .aload_n 1, 1, []), (1723, .aload_n 0, 1, []), (1724, .iload_n 3, 1, []), (1725, .iconst 1, 1, []), (1726, .iadd, 1, []), (1727, .iaload, 1, []), (1728, .invokevirtual 188, 3, [1, 101, 1, 8]), (1731, .aload_n 2, 1, []), (1732, .aload_n 0, 1, []), (1733, .iload_n 3, 1, [])]
set_option maxRecDepth 100000 in
theorem xo_219_9_3 : ∀ (i : Nat) (en : xa_E), xt_219_9_3[i]? = some en → ∃ pl, xa_ok xb_G xb_S 219 (1248 + i) en pl = true := xa_all_of xb_G xb_S 219 xt_219_9_3 1248 xp_219_9_3 (by decide +kernel)
def xp_219_9_4 : List (List Nat) := [[], [], [], [1321, 1322, 1323, 59, 1324], [], [], [], [], [], [], []]
def xt_219_9_4 : List xa_E := [(1734, .iconst 1, 1, []), (1735, .iadd, 1, []), (1736, .iaload, 1, []), (1737, .invokevirtual 191, 3, [1, 210, 1, 9]), (1740, .if_icmp .eq 5, 3, [1281]), (1743, .iconst 0, 1, []), (1744, .ireturn, 1, [1]), (1745, .iinc 3 6, 3, []), (1748, .goto (-1730), 3, [10]), (1751, .iconst 1, 1, []), (1752, .ireturn, 1, [1])]
set_option maxRecDepth 100000 in
theorem xo_219_9_4 : ∀ (i : Nat) (en : xa_E), xt_219_9_4[i]? = some en → ∃ pl, xa_ok xb_G xb_S 219 (1274 + i) en pl = true := xa_all_of xb_G xb_S 219 xt_219_9_4 1274 xp_219_9_4 (by decide +kernel)
set_option maxRecDepth 100000 in
theorem xo_219_9 : ∀ (i : Nat) (en : xa_E), xt_219_9[i]? = some en → ∃ pl, xa_ok xb_G xb_S 219 (1170 + i) en pl = true := by
  rw [show xt_219_9 = (xt_219_9_0 ++ (xt_219_9_1 ++ (xt_219_9_2 ++ (xt_219_9_3 ++ xt_219_9_4)))) from rfl]
  exact (xa_all_app (a := xt_219_9_0) xo_219_9_0 (xa_all_app (a := xt_219_9_1) xo_219_9_1 (xa_all_app (a := xt_219_9_2) xo_219_9_2 (xa_all_app (a := xt_219_9_3) xo_219_9_3 xo_219_9_4))))
set_option maxRecDepth 100000 in
theorem xo_219 : xa_allOK xb_G xb_S 219 := by
  have h : ∀ (i : Nat) (en : xa_E), xt_219[i]? = some en → ∃ pl, xa_ok xb_G xb_S 219 (0 + i) en pl = true := (xa_all_app (a := xt_219_0) xo_219_0 (xa_all_app (a := xt_219_1) xo_219_1 (xa_all_app (a := xt_219_2) xo_219_2 (xa_all_app (a := xt_219_3) xo_219_3 (xa_all_app (a := xt_219_4) xo_219_4 (xa_all_app (a := xt_219_5) xo_219_5 (xa_all_app (a := xt_219_6) xo_219_6 (xa_all_app (a := xt_219_7) xo_219_7 (xa_all_app (a := xt_219_8) xo_219_8 xo_219_9)))))))))
  intro i en e
  have := h i en e
  rwa [Nat.zero_add] at this
end
section
/-! ALL METHODS, BY CONTRACT -/
theorem xa_met {G : xa_G} {S : xa_M} {X : List Int} {l : Launch} {b0 : Nat} {ca : Nat → Nat} {v3 : Value} {D : va_G} {cI : ClassId} {cQ : Nat → ClassId} (hCl : xa_ClOK) (hall : ∀ y, xa_allOK G S y) (hpl : ∀ y, plainName (S y).2.1.cls = true ∧ (S y).1 = (S y).2.1.cls) (h0 : ∀ y, xa_at G y 0 0 = true) (h3 : v3.category = 1) : ∀ n y, xa_Mt G S X l b0 ca v3 D cI cQ n y := by
  intro n
  induction n using Nat.strongRecOn with
  | ind n IH =>
    intro y av h rv h1 ex hargs z1 z2
    refine Met.ofW (cc := (S y).2.2.1) (maxL := (G.2 y).1) (ret := (S y).2.2.2.1) (hpl y).1 rfl ?_
    intro p e s m args below meth c s₁ B hml hv
    obtain ⟨rfl, hR, hF⟩ := hv
    have hts := atoms_spec (ws := xa_ws G S y) B.pre
    have hown := findClass_of_methodNamed B.named
    have C : xa_Cx G S y X b0 ca v3 D cI cQ p (xa_rm G S y) s m (av.map (xa_cv b0 ca v3)).toArray meth c := ⟨B.exec, B.bytes, hml, by rw [(hpl y).2]; exact hown, fun w hw => hts w (List.mem_cons_of_mem _ hw), hF, h3, by have := hR.1; omega, (name_of_methodNamed B.named B.method).1, Nat.le_refl _, Nat.le_refl _⟩
    have hx := B.exec
    have hb := B.bytes
    have hr := B.returns
    have hlocks := B.notSynchronized
    have hRT : xa_RT S y b0 ca v3 D cI cQ p l e (xa_rm G S y) s m (av.map (xa_cv b0 ca v3)).toArray below meth c (MQ below (xa_Post b0 ca v3 D cI cQ h1 rv) (av.map (xa_cv b0 ca v3)).toArray s (G.2 y).2.1 (G.2 y).2.2 (fun q : Nat => b0 ≤ q)) h1 rv := by
      intro pc H locs cells slots lr ins st hdg hend hR1 hS hc hs
      refine W.widen (k := (G.2 y).2.1) (n := (G.2 y).2.2) hc hs ?_
      have hq : ∀ t : State, t.heap = H → s.WarmedH t.vm → xa_Post b0 ca v3 D cI cQ h1 rv (av.map (xa_cv b0 ca v3)).toArray s (.returned (rv.map (xa_cv b0 ca v3))) t := fun t ht _ => ⟨rfl, by rw [ht]; exact hR1, hS.F ht⟩
      rcases hend with ⟨rfl, rfl, rfl, hret⟩ | ⟨z, ty, rfl, rfl, rfl, hret, hn⟩ | ⟨z, rfl, rfl, rfl, hret⟩ | ⟨a, C, rfl, rfl, rfl, hret⟩
      · exact W.vret hx hb (hr.trans hret) hq hS.2.2 hdg hlocks
      · exact W.zret hx hb (hr.trans hret) hn hq hS.2.2 hdg hlocks
      · exact W.lret hx hb (hr.trans hret) hq hS.2.2 hdg hlocks
      · exact W.aret hx hb (hr.trans hret) (Or.inl ⟨C, rfl⟩) (Or.inr ⟨_, rfl⟩) hq hS.2.2 hdg hlocks
    have key := xa_sim C hCl (hall y) hRT n (fun k hk y => IH k hk y) 0 _ [] h ex
    rw [lg_entry_eq]
    exact key 0 s.heap [] 0 0 _ (h0 y) (xa_lr_entry h3 hargs) hR va_S.rf (by show 0 + _ ≤ (G.2 y).2.1; omega) (by show 0 + _ ≤ (G.2 y).2.2; omega)
theorem xg_0 (y : Nat) (h1 : 0 ≤ y) (h2 : y < 20) : xa_allOK xb_G xb_S y := by
  rcases (by omega : y = 0 ∨ y = 1 ∨ y = 2 ∨ y = 3 ∨ y = 4 ∨ y = 5 ∨ y = 6 ∨ y = 7 ∨ y = 8 ∨ y = 9 ∨ y = 10 ∨ y = 11 ∨ y = 12 ∨ y = 13 ∨ y = 14 ∨ y = 15 ∨ y = 16 ∨ y = 17 ∨ y = 18 ∨ y = 19) with rfl | rfl | rfl | rfl | rfl | rfl | rfl | rfl | rfl | rfl | rfl | rfl | rfl | rfl | rfl | rfl | rfl | rfl | rfl | rfl
  · exact xo_0
  · exact xo_1
  · exact xo_2
  · exact xo_3
  · exact xo_4
  · exact xo_5
  · exact xo_6
  · exact xo_7
  · exact xo_8
  · exact xo_9
  · exact xo_10
  · exact xo_11
  · exact xo_12
  · exact xo_13
  · exact xo_14
  · exact xo_15
  · exact xo_16
  · exact xo_17
  · exact xo_18
  · exact xo_19
theorem xg_1 (y : Nat) (h1 : 20 ≤ y) (h2 : y < 40) : xa_allOK xb_G xb_S y := by
  rcases (by omega : y = 20 ∨ y = 21 ∨ y = 22 ∨ y = 23 ∨ y = 24 ∨ y = 25 ∨ y = 26 ∨ y = 27 ∨ y = 28 ∨ y = 29 ∨ y = 30 ∨ y = 31 ∨ y = 32 ∨ y = 33 ∨ y = 34 ∨ y = 35 ∨ y = 36 ∨ y = 37 ∨ y = 38 ∨ y = 39) with rfl | rfl | rfl | rfl | rfl | rfl | rfl | rfl | rfl | rfl | rfl | rfl | rfl | rfl | rfl | rfl | rfl | rfl | rfl | rfl
  · exact xo_20
  · exact xo_21
  · exact xo_22
  · exact xo_23
  · exact xo_24
  · exact xo_25
  · exact xo_26
  · exact xo_27
  · exact xo_28
  · exact xo_29
  · exact xo_30
  · exact xo_31
  · exact xo_32
  · exact xo_33
  · exact xo_34
  · exact xo_35
  · exact xo_36
  · exact xo_37
  · exact xo_38
  · exact xo_39
theorem xg_2 (y : Nat) (h1 : 40 ≤ y) (h2 : y < 60) : xa_allOK xb_G xb_S y := by
  rcases (by omega : y = 40 ∨ y = 41 ∨ y = 42 ∨ y = 43 ∨ y = 44 ∨ y = 45 ∨ y = 46 ∨ y = 47 ∨ y = 48 ∨ y = 49 ∨ y = 50 ∨ y = 51 ∨ y = 52 ∨ y = 53 ∨ y = 54 ∨ y = 55 ∨ y = 56 ∨ y = 57 ∨ y = 58 ∨ y = 59) with rfl | rfl | rfl | rfl | rfl | rfl | rfl | rfl | rfl | rfl | rfl | rfl | rfl | rfl | rfl | rfl | rfl | rfl | rfl | rfl
  · exact xo_40
  · exact xo_41
  · exact xo_42
  · exact xo_43
  · exact xo_44
  · exact xo_45
  · exact xo_46
  · exact xo_47
  · exact xo_48
  · exact xo_49
  · exact xo_50
  · exact xo_51
  · exact xo_52
  · exact xo_53
  · exact xo_54
  · exact xo_55
  · exact xo_56
  · exact xo_57
  · exact xo_58
  · exact xo_59
theorem xg_3 (y : Nat) (h1 : 60 ≤ y) (h2 : y < 80) : xa_allOK xb_G xb_S y := by
  rcases (by omega : y = 60 ∨ y = 61 ∨ y = 62 ∨ y = 63 ∨ y = 64 ∨ y = 65 ∨ y = 66 ∨ y = 67 ∨ y = 68 ∨ y = 69 ∨ y = 70 ∨ y = 71 ∨ y = 72 ∨ y = 73 ∨ y = 74 ∨ y = 75 ∨ y = 76 ∨ y = 77 ∨ y = 78 ∨ y = 79) with rfl | rfl | rfl | rfl | rfl | rfl | rfl | rfl | rfl | rfl | rfl | rfl | rfl | rfl | rfl | rfl | rfl | rfl | rfl | rfl
  · exact xo_60
  · exact xo_61
  · exact xo_62
  · exact xo_63
  · exact xo_64
  · exact xo_65
  · exact xo_66
  · exact xo_67
  · exact xo_68
  · exact xo_69
  · exact xo_70
  · exact xo_71
  · exact xo_72
  · exact xo_73
  · exact xo_74
  · exact xo_75
  · exact xo_76
  · exact xo_77
  · exact xo_78
  · exact xo_79
theorem xg_4 (y : Nat) (h1 : 80 ≤ y) (h2 : y < 100) : xa_allOK xb_G xb_S y := by
  rcases (by omega : y = 80 ∨ y = 81 ∨ y = 82 ∨ y = 83 ∨ y = 84 ∨ y = 85 ∨ y = 86 ∨ y = 87 ∨ y = 88 ∨ y = 89 ∨ y = 90 ∨ y = 91 ∨ y = 92 ∨ y = 93 ∨ y = 94 ∨ y = 95 ∨ y = 96 ∨ y = 97 ∨ y = 98 ∨ y = 99) with rfl | rfl | rfl | rfl | rfl | rfl | rfl | rfl | rfl | rfl | rfl | rfl | rfl | rfl | rfl | rfl | rfl | rfl | rfl | rfl
  · exact xo_80
  · exact xo_81
  · exact xo_82
  · exact xo_83
  · exact xo_84
  · exact xo_85
  · exact xo_86
  · exact xo_87
  · exact xo_88
  · exact xo_89
  · exact xo_90
  · exact xo_91
  · exact xo_92
  · exact xo_93
  · exact xo_94
  · exact xo_95
  · exact xo_96
  · exact xo_97
  · exact xo_98
  · exact xo_99
theorem xg_5 (y : Nat) (h1 : 100 ≤ y) (h2 : y < 120) : xa_allOK xb_G xb_S y := by
  rcases (by omega : y = 100 ∨ y = 101 ∨ y = 102 ∨ y = 103 ∨ y = 104 ∨ y = 105 ∨ y = 106 ∨ y = 107 ∨ y = 108 ∨ y = 109 ∨ y = 110 ∨ y = 111 ∨ y = 112 ∨ y = 113 ∨ y = 114 ∨ y = 115 ∨ y = 116 ∨ y = 117 ∨ y = 118 ∨ y = 119) with rfl | rfl | rfl | rfl | rfl | rfl | rfl | rfl | rfl | rfl | rfl | rfl | rfl | rfl | rfl | rfl | rfl | rfl | rfl | rfl
  · exact xo_100
  · exact xo_101
  · exact xo_102
  · exact xo_103
  · exact xo_104
  · exact xo_105
  · exact xo_106
  · exact xo_107
  · exact xo_108
  · exact xo_109
  · exact xo_110
  · exact xo_111
  · exact xo_112
  · exact xo_113
  · exact xo_114
  · exact xo_115
  · exact xo_116
  · exact xo_117
  · exact xo_118
  · exact xo_119
theorem xg_6 (y : Nat) (h1 : 120 ≤ y) (h2 : y < 140) : xa_allOK xb_G xb_S y := by
  rcases (by omega : y = 120 ∨ y = 121 ∨ y = 122 ∨ y = 123 ∨ y = 124 ∨ y = 125 ∨ y = 126 ∨ y = 127 ∨ y = 128 ∨ y = 129 ∨ y = 130 ∨ y = 131 ∨ y = 132 ∨ y = 133 ∨ y = 134 ∨ y = 135 ∨ y = 136 ∨ y = 137 ∨ y = 138 ∨ y = 139) with rfl | rfl | rfl | rfl | rfl | rfl | rfl | rfl | rfl | rfl | rfl | rfl | rfl | rfl | rfl | rfl | rfl | rfl | rfl | rfl
  · exact xo_120
  · exact xo_121
  · exact xo_122
  · exact xo_123
  · exact xo_124
  · exact xo_125
  · exact xo_126
  · exact xo_127
  · exact xo_128
  · exact xo_129
  · exact xo_130
  · exact xo_131
  · exact xo_132
  · exact xo_133
  · exact xo_134
  · exact xo_135
  · exact xo_136
  · exact xo_137
  · exact xo_138
  · exact xo_139
theorem xg_7 (y : Nat) (h1 : 140 ≤ y) (h2 : y < 160) : xa_allOK xb_G xb_S y := by
  rcases (by omega : y = 140 ∨ y = 141 ∨ y = 142 ∨ y = 143 ∨ y = 144 ∨ y = 145 ∨ y = 146 ∨ y = 147 ∨ y = 148 ∨ y = 149 ∨ y = 150 ∨ y = 151 ∨ y = 152 ∨ y = 153 ∨ y = 154 ∨ y = 155 ∨ y = 156 ∨ y = 157 ∨ y = 158 ∨ y = 159) with rfl | rfl | rfl | rfl | rfl | rfl | rfl | rfl | rfl | rfl | rfl | rfl | rfl | rfl | rfl | rfl | rfl | rfl | rfl | rfl
  · exact xo_140
  · exact xo_141
  · exact xo_142
  · exact xo_143
  · exact xo_144
  · exact xo_145
  · exact xo_146
  · exact xo_147
  · exact xo_148
  · exact xo_149
  · exact xo_150
  · exact xo_151
  · exact xo_152
  · exact xo_153
  · exact xo_154
  · exact xo_155
  · exact xo_156
  · exact xo_157
  · exact xo_158
  · exact xo_159
theorem xg_8 (y : Nat) (h1 : 160 ≤ y) (h2 : y < 180) : xa_allOK xb_G xb_S y := by
  rcases (by omega : y = 160 ∨ y = 161 ∨ y = 162 ∨ y = 163 ∨ y = 164 ∨ y = 165 ∨ y = 166 ∨ y = 167 ∨ y = 168 ∨ y = 169 ∨ y = 170 ∨ y = 171 ∨ y = 172 ∨ y = 173 ∨ y = 174 ∨ y = 175 ∨ y = 176 ∨ y = 177 ∨ y = 178 ∨ y = 179) with rfl | rfl | rfl | rfl | rfl | rfl | rfl | rfl | rfl | rfl | rfl | rfl | rfl | rfl | rfl | rfl | rfl | rfl | rfl | rfl
  · exact xo_160
  · exact xo_161
  · exact xo_162
  · exact xo_163
  · exact xo_164
  · exact xo_165
  · exact xo_166
  · exact xo_167
  · exact xo_168
  · exact xo_169
  · exact xo_170
  · exact xo_171
  · exact xo_172
  · exact xo_173
  · exact xo_174
  · exact xo_175
  · exact xo_176
  · exact xo_177
  · exact xo_178
  · exact xo_179
theorem xg_9 (y : Nat) (h1 : 180 ≤ y) (h2 : y < 200) : xa_allOK xb_G xb_S y := by
  rcases (by omega : y = 180 ∨ y = 181 ∨ y = 182 ∨ y = 183 ∨ y = 184 ∨ y = 185 ∨ y = 186 ∨ y = 187 ∨ y = 188 ∨ y = 189 ∨ y = 190 ∨ y = 191 ∨ y = 192 ∨ y = 193 ∨ y = 194 ∨ y = 195 ∨ y = 196 ∨ y = 197 ∨ y = 198 ∨ y = 199) with rfl | rfl | rfl | rfl | rfl | rfl | rfl | rfl | rfl | rfl | rfl | rfl | rfl | rfl | rfl | rfl | rfl | rfl | rfl | rfl
  · exact xo_180
  · exact xo_181
  · exact xo_182
  · exact xo_183
  · exact xo_184
  · exact xo_185
  · exact xo_186
  · exact xo_187
  · exact xo_188
  · exact xo_189
  · exact xo_190
  · exact xo_191
  · exact xo_192
  · exact xo_193
  · exact xo_194
  · exact xo_195
  · exact xo_196
  · exact xo_197
  · exact xo_198
  · exact xo_199
theorem xg_10 (y : Nat) (h1 : 200 ≤ y) (h2 : y < 220) : xa_allOK xb_G xb_S y := by
  rcases (by omega : y = 200 ∨ y = 201 ∨ y = 202 ∨ y = 203 ∨ y = 204 ∨ y = 205 ∨ y = 206 ∨ y = 207 ∨ y = 208 ∨ y = 209 ∨ y = 210 ∨ y = 211 ∨ y = 212 ∨ y = 213 ∨ y = 214 ∨ y = 215 ∨ y = 216 ∨ y = 217 ∨ y = 218 ∨ y = 219) with rfl | rfl | rfl | rfl | rfl | rfl | rfl | rfl | rfl | rfl | rfl | rfl | rfl | rfl | rfl | rfl | rfl | rfl | rfl | rfl
  · exact xo_200
  · exact xo_201
  · exact xo_202
  · exact xo_203
  · exact xo_204
  · exact xo_205
  · exact xo_206
  · exact xo_207
  · exact xo_208
  · exact xo_209
  · exact xo_210
  · exact xo_211
  · exact xo_212
  · exact xo_213
  · exact xo_214
  · exact xo_215
  · exact xo_216
  · exact xo_217
  · exact xo_218
  · exact xo_219
theorem xb_all (y : Nat) : xa_allOK xb_G xb_S y := by
  by_cases h : y < 220
  · rcases (by omega : (0 ≤ y ∧ y < 20) ∨ (20 ≤ y ∧ y < 40) ∨ (40 ≤ y ∧ y < 60) ∨ (60 ≤ y ∧ y < 80) ∨ (80 ≤ y ∧ y < 100) ∨ (100 ≤ y ∧ y < 120) ∨ (120 ≤ y ∧ y < 140) ∨ (140 ≤ y ∧ y < 160) ∨ (160 ≤ y ∧ y < 180) ∨ (180 ≤ y ∧ y < 200) ∨ (200 ≤ y ∧ y < 220)) with ⟨a, b⟩ | ⟨a, b⟩ | ⟨a, b⟩ | ⟨a, b⟩ | ⟨a, b⟩ | ⟨a, b⟩ | ⟨a, b⟩ | ⟨a, b⟩ | ⟨a, b⟩ | ⟨a, b⟩ | ⟨a, b⟩
    · exact xg_0 y a b
    · exact xg_1 y a b
    · exact xg_2 y a b
    · exact xg_3 y a b
    · exact xg_4 y a b
    · exact xg_5 y a b
    · exact xg_6 y a b
    · exact xg_7 y a b
    · exact xg_8 y a b
    · exact xg_9 y a b
    · exact xg_10 y a b
  · intro i en e
    have hz : xb_G.1 y = [] := by
      show xb_tabs.getD y [] = []
      rw [List.getD_eq_getElem?_getD, List.getElem?_eq_none (by show xb_tabs.length ≤ y; rw [show xb_tabs.length = 220 from rfl]; omega)]
      rfl
    rw [hz] at e
    simp at e
def xb_srow : List (String × (MethodName × (ByteArray × (Option FieldType × (Nat × Nat))))) := xb_s0 ++ (xb_s1 ++ (xb_s2 ++ xb_s3))
theorem xb_srow_ok : ∀ q ∈ xb_srow, plainName q.2.1.cls = true ∧ q.1 = q.2.1.cls := by decide +kernel
theorem xb_pl (y : Nat) : plainName (xb_S y).2.1.cls = true ∧ (xb_S y).1 = (xb_S y).2.1.cls := by
  have e : xb_S y = xb_srow.getD y ("InkHoursLaw", ⟨"InkHoursLaw", "law", "([I)Z"⟩, code, some .boolean, 10, 215) := rfl
  rw [e, List.getD_eq_getElem?_getD]
  cases hq : xb_srow[y]? with
  | none => exact ⟨by decide, rfl⟩
  | some q => exact xb_srow_ok q (List.mem_of_getElem? hq)
theorem xb_tabs_0 : ∀ t ∈ xb_tabs, (match t[0]? with | none => true | some e => e.1 == 0) = true := by decide +kernel
theorem xb_at0 (y : Nat) : xa_at xb_G y 0 0 = true := by
  unfold xa_at
  show (match (xb_tabs.getD y [])[0]? with | none => true | some e => e.1 == 0) = true
  rw [List.getD_eq_getElem?_getD]
  cases hq : xb_tabs[y]? with
  | none => rfl
  | some q => exact xb_tabs_0 q (List.mem_of_getElem? hq)
theorem xb_cl_in : ∀ q ∈ xb_cl, ∀ w ∈ u_ws q.1 q.2.1 q.2.2, w ∈ xa_tb := by
  intro q hq
  simp only [xb_cl, List.mem_cons, List.not_mem_nil, or_false] at hq
  rcases hq with rfl | rfl | rfl | rfl | rfl | rfl | rfl | rfl | rfl | rfl
  all_goals decide +kernel
theorem xb_nm0 : ∀ a, a < 5 → ∀ b, b < 5 → a ≠ b → (xb_F0 a).2.1 ≠ (xb_F0 b).2.1 := by decide +kernel
theorem xb_ty0 : ∀ k, k < 5 → parseFieldDescriptor (xb_F0 k).2.2.1 = some (xb_t0 k) := by decide +kernel
theorem xb_df0 (b0 : Nat) (ca : Nat → Nat) (v3 : Value) (j : Nat) (hj : j < 5) : defaultValue (xb_t0 j) = vp_V ((xa_nf 0).map (xa_cv b0 ca v3)) j := by
  rcases (by omega : j = 0 ∨ j = 1 ∨ j = 2 ∨ j = 3 ∨ j = 4) with rfl | rfl | rfl | rfl | rfl
  all_goals rfl
theorem xb_nm1 : ∀ a, a < 4 → ∀ b, b < 4 → a ≠ b → (xb_F1 a).2.1 ≠ (xb_F1 b).2.1 := by decide +kernel
theorem xb_ty1 : ∀ k, k < 4 → parseFieldDescriptor (xb_F1 k).2.2.1 = some (xb_t1 k) := by decide +kernel
theorem xb_df1 (b0 : Nat) (ca : Nat → Nat) (v3 : Value) (j : Nat) (hj : j < 4) : defaultValue (xb_t1 j) = vp_V ((xa_nf 1).map (xa_cv b0 ca v3)) j := by
  rcases (by omega : j = 0 ∨ j = 1 ∨ j = 2 ∨ j = 3) with rfl | rfl | rfl | rfl
  all_goals rfl
theorem xb_nm2 : ∀ a, a < 6 → ∀ b, b < 6 → a ≠ b → (xb_F2 a).2.1 ≠ (xb_F2 b).2.1 := by decide +kernel
theorem xb_ty2 : ∀ k, k < 6 → parseFieldDescriptor (xb_F2 k).2.2.1 = some (xb_t2 k) := by decide +kernel
theorem xb_df2 (b0 : Nat) (ca : Nat → Nat) (v3 : Value) (j : Nat) (hj : j < 6) : defaultValue (xb_t2 j) = vp_V ((xa_nf 2).map (xa_cv b0 ca v3)) j := by
  rcases (by omega : j = 0 ∨ j = 1 ∨ j = 2 ∨ j = 3 ∨ j = 4 ∨ j = 5) with rfl | rfl | rfl | rfl | rfl | rfl
  all_goals rfl
theorem xb_nm3 : ∀ a, a < 5 → ∀ b, b < 5 → a ≠ b → (xb_F3 a).2.1 ≠ (xb_F3 b).2.1 := by decide +kernel
theorem xb_ty3 : ∀ k, k < 5 → parseFieldDescriptor (xb_F3 k).2.2.1 = some (xb_t3 k) := by decide +kernel
theorem xb_df3 (b0 : Nat) (ca : Nat → Nat) (v3 : Value) (j : Nat) (hj : j < 5) : defaultValue (xb_t3 j) = vp_V ((xa_nf 3).map (xa_cv b0 ca v3)) j := by
  rcases (by omega : j = 0 ∨ j = 1 ∨ j = 2 ∨ j = 3 ∨ j = 4) with rfl | rfl | rfl | rfl | rfl
  all_goals rfl
theorem xb_nm4 : ∀ a, a < 3 → ∀ b, b < 3 → a ≠ b → (xb_F4 a).2.1 ≠ (xb_F4 b).2.1 := by decide +kernel
theorem xb_ty4 : ∀ k, k < 3 → parseFieldDescriptor (xb_F4 k).2.2.1 = some (xb_t4 k) := by decide +kernel
theorem xb_df4 (b0 : Nat) (ca : Nat → Nat) (v3 : Value) (j : Nat) (hj : j < 3) : defaultValue (xb_t4 j) = vp_V ((xa_nf 4).map (xa_cv b0 ca v3)) j := by
  rcases (by omega : j = 0 ∨ j = 1 ∨ j = 2) with rfl | rfl | rfl
  all_goals rfl
theorem xb_nm5 : ∀ a, a < 6 → ∀ b, b < 6 → a ≠ b → (xb_F5 a).2.1 ≠ (xb_F5 b).2.1 := by decide +kernel
theorem xb_ty5 : ∀ k, k < 6 → parseFieldDescriptor (xb_F5 k).2.2.1 = some (xb_t5 k) := by decide +kernel
theorem xb_df5 (b0 : Nat) (ca : Nat → Nat) (v3 : Value) (j : Nat) (hj : j < 6) : defaultValue (xb_t5 j) = vp_V ((xa_nf 5).map (xa_cv b0 ca v3)) j := by
  rcases (by omega : j = 0 ∨ j = 1 ∨ j = 2 ∨ j = 3 ∨ j = 4 ∨ j = 5) with rfl | rfl | rfl | rfl | rfl | rfl
  all_goals rfl
theorem xb_nm6 : ∀ a, a < 3 → ∀ b, b < 3 → a ≠ b → (xb_F6 a).2.1 ≠ (xb_F6 b).2.1 := by decide +kernel
theorem xb_ty6 : ∀ k, k < 3 → parseFieldDescriptor (xb_F6 k).2.2.1 = some (xb_t6 k) := by decide +kernel
theorem xb_df6 (b0 : Nat) (ca : Nat → Nat) (v3 : Value) (j : Nat) (hj : j < 3) : defaultValue (xb_t6 j) = vp_V ((xa_nf 6).map (xa_cv b0 ca v3)) j := by
  rcases (by omega : j = 0 ∨ j = 1 ∨ j = 2) with rfl | rfl | rfl
  all_goals rfl
theorem xb_nm7 : ∀ a, a < 7 → ∀ b, b < 7 → a ≠ b → (xb_F7 a).2.1 ≠ (xb_F7 b).2.1 := by decide +kernel
theorem xb_ty7 : ∀ k, k < 7 → parseFieldDescriptor (xb_F7 k).2.2.1 = some (xb_t7 k) := by decide +kernel
theorem xb_df7 (b0 : Nat) (ca : Nat → Nat) (v3 : Value) (j : Nat) (hj : j < 7) : defaultValue (xb_t7 j) = vp_V ((xa_nf 7).map (xa_cv b0 ca v3)) j := by
  rcases (by omega : j = 0 ∨ j = 1 ∨ j = 2 ∨ j = 3 ∨ j = 4 ∨ j = 5 ∨ j = 6) with rfl | rfl | rfl | rfl | rfl | rfl | rfl
  all_goals rfl
theorem xb_nm8 : ∀ a, a < 11 → ∀ b, b < 11 → a ≠ b → (xb_F8 a).2.1 ≠ (xb_F8 b).2.1 := by decide +kernel
theorem xb_ty8 : ∀ k, k < 11 → parseFieldDescriptor (xb_F8 k).2.2.1 = some (xb_t8 k) := by decide +kernel
theorem xb_df8 (b0 : Nat) (ca : Nat → Nat) (v3 : Value) (j : Nat) (hj : j < 11) : defaultValue (xb_t8 j) = vp_V ((xa_nf 8).map (xa_cv b0 ca v3)) j := by
  rcases (by omega : j = 0 ∨ j = 1 ∨ j = 2 ∨ j = 3 ∨ j = 4 ∨ j = 5 ∨ j = 6 ∨ j = 7 ∨ j = 8 ∨ j = 9 ∨ j = 10) with rfl | rfl | rfl | rfl | rfl | rfl | rfl | rfl | rfl | rfl | rfl
  all_goals rfl
theorem xb_nm9 : ∀ a, a < 21 → ∀ b, b < 21 → a ≠ b → (xb_F9 a).2.1 ≠ (xb_F9 b).2.1 := by decide +kernel
theorem xb_ty9 : ∀ k, k < 21 → parseFieldDescriptor (xb_F9 k).2.2.1 = some (xb_t9 k) := by decide +kernel
theorem xb_df9 (b0 : Nat) (ca : Nat → Nat) (v3 : Value) (j : Nat) (hj : j < 21) : defaultValue (xb_t9 j) = vp_V ((xa_nf 9).map (xa_cv b0 ca v3)) j := by
  rcases (by omega : j = 0 ∨ j = 1 ∨ j = 2 ∨ j = 3 ∨ j = 4 ∨ j = 5 ∨ j = 6 ∨ j = 7 ∨ j = 8 ∨ j = 9 ∨ j = 10 ∨ j = 11 ∨ j = 12 ∨ j = 13 ∨ j = 14 ∨ j = 15 ∨ j = 16 ∨ j = 17 ∨ j = 18 ∨ j = 19 ∨ j = 20) with rfl | rfl | rfl | rfl | rfl | rfl | rfl | rfl | rfl | rfl | rfl | rfl | rfl | rfl | rfl | rfl | rfl | rfl | rfl | rfl | rfl
  all_goals rfl
theorem xb_ClOK : xa_ClOK := by
  intro ci q hq
  refine ⟨xb_cl_in q (List.mem_of_getElem? hq), ?_⟩
  have hlt : ci < 10 := (List.getElem?_eq_some_iff.mp hq).1
  rcases (by omega : ci = 0 ∨ ci = 1 ∨ ci = 2 ∨ ci = 3 ∨ ci = 4 ∨ ci = 5 ∨ ci = 6 ∨ ci = 7 ∨ ci = 8 ∨ ci = 9) with rfl | rfl | rfl | rfl | rfl | rfl | rfl | rfl | rfl | rfl
  · cases hq; exact ⟨xb_nm0, rfl, xb_t0, xb_ty0, xb_df0⟩
  · cases hq; exact ⟨xb_nm1, rfl, xb_t1, xb_ty1, xb_df1⟩
  · cases hq; exact ⟨xb_nm2, rfl, xb_t2, xb_ty2, xb_df2⟩
  · cases hq; exact ⟨xb_nm3, rfl, xb_t3, xb_ty3, xb_df3⟩
  · cases hq; exact ⟨xb_nm4, rfl, xb_t4, xb_ty4, xb_df4⟩
  · cases hq; exact ⟨xb_nm5, rfl, xb_t5, xb_ty5, xb_df5⟩
  · cases hq; exact ⟨xb_nm6, rfl, xb_t6, xb_ty6, xb_df6⟩
  · cases hq; exact ⟨xb_nm7, rfl, xb_t7, xb_ty7, xb_df7⟩
  · cases hq; exact ⟨xb_nm8, rfl, xb_t8, xb_ty8, xb_df8⟩
  · cases hq; exact ⟨xb_nm9, rfl, xb_t9, xb_ty9, xb_df9⟩
end
section
/-! THE CLAIM OUT OF ONE WALK OF THE LAW'S BODY. Your part is whole_start (and what it stands on); all else here is the same for every law, but numbers. -/
def R_law : String := "InkHoursLaw"
def lw_P (b : Addr) (xs : List Int32) (args : Array Value) (s : State) : Prop := args = #[.ref b] ∧ s.IntsAt b xs ∧ xs.length ≤ 3072 ∧ (Jvm.Cond.and given_1 narrow_1).before args s = true
def lw_Q (_ : Array Value) (s : State) (o : Outcome) (t : State) : Prop := o = .returned (some (.int 1)) ∧ Framed s o t [] 600000 7302249
def lw_Z (below : List Frame) (a : Array Value) (s : State) : State → Prop := fun t => ∃ o, t.status = .running ∧ Ended t below o ∧ lw_Q a s o t
/-- the law's own end, with 1 on the stack, nothing written that was there before, its room as the claim has it -/
theorem lw_ret {p : Program} {l : Launch} {e : Env} {s : State} {m : MethodId} {below : List Frame} {meth : Method} {c : Code} {b : Nat} (hx : p.tables.exec = Jvm.exec) (hb : c.code = code) (hr : meth.sig.returnType = ret) (hlocks : meth.locks = false) {pc : Nat} {H : Heap} {ls : Array Slot} (hdg : decode code pc = .ok (.ireturn, 1)) : W p l e room_1 s m #[Value.ref b] below meth c H [] 600000 7302249 (lw_Z below #[Value.ref b] s) (F0 m pc ls [.int 1]) := by
  intro T hT X
  obtain ⟨fs, hret, hrun, hended, hW, hframe⟩ := X.leave (v := some (.int 1)) (hlocks := hlocks) (fun h => by rw [hr] at h; cases h)
  have hmeth' : T.vm.method? m = some meth := X.method'
  refine ⟨T.setFrames fs, ?_, .returned (some (.int 1)), hrun, hended, rfl, ⟨_, rfl⟩, hW, hframe⟩
  jvm_step X.here [X.here.top, hx, hb, hdg, hmeth', hr, ret, narrow_b1]
  (try refine ⟨rfl, ?_⟩); (try refine ⟨rfl, ?_⟩)
  first | (intro acts; rw [hret _ acts rfl rfl rfl]) | rw [hret _ _ rfl rfl rfl]
  exact Steps.refl _
/-- what holds at the law's entry: the machine, the code, the tables' words (any of lw_tbl by 'hts w (by decide +kernel)'), the script of L ints xs at the cell b, what the Statement gives of the start (any of its parts by flat_of_before) -/
def lw_At (p : Program) (s : State) (m : MethodId) (meth : Method) (c : Code) (b L : Nat) (xs : Nat → Int32) : Prop :=
  p.tables.exec = Jvm.exec ∧ c.code = code ∧ meth.sig.returnType = ret ∧ c.maxLocals = 4 ∧ s.vm.findClass R_law = some m.cls ∧ (∀ w ∈ lw_tbl, w.before #[Value.ref b] s = true) ∧ va_X b L xs s s.heap ∧ b < s.heap.size ∧ meth.locks = false ∧ (Jvm.Cond.and given_1 narrow_1).before #[Value.ref b] s = true ∧ meth.name = "law"
/-! THE LAW'S ENTRY: what the Statement gives of the start, as the methods need it -/
def xs_fl : List Jvm.Cond := flatC (Jvm.Cond.and given_1 narrow_1)
/-- a text: its object, its bytes -/
theorem xs_str {b0 : Nat} {args : Array Value} {s : State} {tm : Term} (bs : List Int) (hb0 : b0 = s.heap.size) (hn : bs.length < 2 ^ 31) (hex : (Cond.exactly tm "java/lang/String").before args s = true) (hco : (Cond.eq (.field tm "java/lang/String" "coder" "B") (.int 0)).before args s = true) (har : (Cond.arrayOf (.field tm "java/lang/String" "value" "[B") .byte).before args s = true)
    (hle : (Cond.eq (.length (.field tm "java/lang/String" "value" "[B")) (.int (Int32.ofNat bs.length))).before args s = true) (hel : ∀ j : Nat, j < bs.length → (Cond.eq (.elem (.field tm "java/lang/String" "value" "[B") (.int (Int32.ofNat j))) (.int (Int32.ofInt (bs.getD j 0)))).before args s = true) :
    ∃ a t : Nat, tm.eval args s none [] s = some (.ref a) ∧ va_O "java/lang/String" a (fun q : Nat => b0 ≤ q) s s.heap ∧ va_OF "java/lang/String" "coder" "B" (.int 0) a (fun q : Nat => b0 ≤ q) s s.heap ∧ va_OF "java/lang/String" "value" "[B" (.ref t) a (fun q : Nat => b0 ≤ q) s s.heap ∧ va_T .byte t bs.length (fun j => .int (Int32.ofInt (bs.getD j 0))) (fun q : Nat => b0 ≤ q) s s.heap := by
  have hA : ∀ a : Nat, a < s.heap.size → ¬ b0 ≤ a := fun a h => by omega
  obtain ⟨a, c, cA, kA, q1, q2, q3, q4, q5, q6, -⟩ := Cond.exactly_spec (args := args) (first := s) (o := none) (s := s) (idx := []) (t := tm) (cls := "java/lang/String") hex
  obtain ⟨t, ht, hT⟩ := va_Tof (f := fun j => .int (Int32.ofInt (bs.getD j 0))) (A := fun q : Nat => b0 ≤ q) hn har (va_eqt hle) (fun j hj => va_eqt (hel j hj)) hA
  exact ⟨a, t, q1, ⟨cA, q3, q5, by rw [q6]; exact q2, hA a (Array.getElem?_eq_some_iff.mp q3).1⟩, vk_OFof q1 (va_eqt hco) hA, vk_OFof q1 ht hA, hT⟩
/-- a static row of numbers -/
theorem xs_row {b0 : Nat} {args : Array Value} {s : State} {C n : String} (bs : List Int) (hb0 : b0 = s.heap.size) (hn : bs.length < 2 ^ 31) (hl : (Cond.laysStatic C n "[I").before args s = true) (hini : (Cond.initialized C).before args s = true) (har : (Cond.arrayOf (.static C n "[I") .int).before args s = true)
    (hle : (Cond.eq (.length (.static C n "[I")) (.int (Int32.ofNat bs.length))).before args s = true) (hel : ∀ j : Nat, j < bs.length → (Cond.eq (.elem (.static C n "[I") (.int (Int32.ofNat j))) (.int (Int32.ofInt (bs.getD j 0)))).before args s = true) :
    ∃ t : Nat, va_Z C n "[I" (.ref t) (fun q : Nat => b0 ≤ q) s s.heap ∧ va_T .int t bs.length (fun j => .int (Int32.ofInt (bs.getD j 0))) (fun q : Nat => b0 ≤ q) s s.heap := by
  have hA : ∀ a : Nat, a < s.heap.size → ¬ b0 ≤ a := fun a h => by omega
  obtain ⟨t, ht, hT⟩ := va_Tof (f := fun j => .int (Int32.ofInt (bs.getD j 0))) (A := fun q : Nat => b0 ≤ q) hn har (va_eqt hle) (fun j hj => va_eqt (hel j hj)) hA
  exact ⟨t, va_Zof hl hini ht hA, hT⟩
theorem xs_in0 : Cond.exactly (Term.string "InkHours$Text" 41) "java/lang/String" ∈ xs_fl ∧ Cond.eq (.field (Term.string "InkHours$Text" 41) "java/lang/String" "coder" "B") (.int 0) ∈ xs_fl ∧ Cond.arrayOf (.field (Term.string "InkHours$Text" 41) "java/lang/String" "value" "[B") .byte ∈ xs_fl ∧ Cond.eq (.length (.field (Term.string "InkHours$Text" 41) "java/lang/String" "value" "[B")) (.int (Int32.ofNat 3)) ∈ xs_fl ∧ ∀ j : Nat, j < 3 → Cond.eq (.elem (.field (Term.string "InkHours$Text" 41) "java/lang/String" "value" "[B") (.int (Int32.ofNat j))) (.int (Int32.ofInt ((xa_tx.getD 0 []).getD j 0))) ∈ xs_fl := by decide +kernel
theorem xs_in1 : Cond.exactly (Term.string "InkHours$Text" 50) "java/lang/String" ∈ xs_fl ∧ Cond.eq (.field (Term.string "InkHours$Text" 50) "java/lang/String" "coder" "B") (.int 0) ∈ xs_fl ∧ Cond.arrayOf (.field (Term.string "InkHours$Text" 50) "java/lang/String" "value" "[B") .byte ∈ xs_fl ∧ Cond.eq (.length (.field (Term.string "InkHours$Text" 50) "java/lang/String" "value" "[B")) (.int (Int32.ofNat 5)) ∈ xs_fl ∧ ∀ j : Nat, j < 5 → Cond.eq (.elem (.field (Term.string "InkHours$Text" 50) "java/lang/String" "value" "[B") (.int (Int32.ofNat j))) (.int (Int32.ofInt ((xa_tx.getD 1 []).getD j 0))) ∈ xs_fl := by decide +kernel
theorem xs_in2 : Cond.exactly (Term.string "InkHours$Text" 55) "java/lang/String" ∈ xs_fl ∧ Cond.eq (.field (Term.string "InkHours$Text" 55) "java/lang/String" "coder" "B") (.int 0) ∈ xs_fl ∧ Cond.arrayOf (.field (Term.string "InkHours$Text" 55) "java/lang/String" "value" "[B") .byte ∈ xs_fl ∧ Cond.eq (.length (.field (Term.string "InkHours$Text" 55) "java/lang/String" "value" "[B")) (.int (Int32.ofNat 2)) ∈ xs_fl ∧ ∀ j : Nat, j < 2 → Cond.eq (.elem (.field (Term.string "InkHours$Text" 55) "java/lang/String" "value" "[B") (.int (Int32.ofNat j))) (.int (Int32.ofInt ((xa_tx.getD 2 []).getD j 0))) ∈ xs_fl := by decide +kernel
theorem xs_in3 : Cond.exactly (Term.string "InkHours$Text" 64) "java/lang/String" ∈ xs_fl ∧ Cond.eq (.field (Term.string "InkHours$Text" 64) "java/lang/String" "coder" "B") (.int 0) ∈ xs_fl ∧ Cond.arrayOf (.field (Term.string "InkHours$Text" 64) "java/lang/String" "value" "[B") .byte ∈ xs_fl ∧ Cond.eq (.length (.field (Term.string "InkHours$Text" 64) "java/lang/String" "value" "[B")) (.int (Int32.ofNat 5)) ∈ xs_fl ∧ ∀ j : Nat, j < 5 → Cond.eq (.elem (.field (Term.string "InkHours$Text" 64) "java/lang/String" "value" "[B") (.int (Int32.ofNat j))) (.int (Int32.ofInt ((xa_tx.getD 3 []).getD j 0))) ∈ xs_fl := by decide +kernel
theorem xs_in4 : Cond.exactly (Term.string "InkHours$Text" 71) "java/lang/String" ∈ xs_fl ∧ Cond.eq (.field (Term.string "InkHours$Text" 71) "java/lang/String" "coder" "B") (.int 0) ∈ xs_fl ∧ Cond.arrayOf (.field (Term.string "InkHours$Text" 71) "java/lang/String" "value" "[B") .byte ∈ xs_fl ∧ Cond.eq (.length (.field (Term.string "InkHours$Text" 71) "java/lang/String" "value" "[B")) (.int (Int32.ofNat 5)) ∈ xs_fl ∧ ∀ j : Nat, j < 5 → Cond.eq (.elem (.field (Term.string "InkHours$Text" 71) "java/lang/String" "value" "[B") (.int (Int32.ofNat j))) (.int (Int32.ofInt ((xa_tx.getD 4 []).getD j 0))) ∈ xs_fl := by decide +kernel
theorem xs_in5 : Cond.exactly (Term.string "InkHours$Text" 80) "java/lang/String" ∈ xs_fl ∧ Cond.eq (.field (Term.string "InkHours$Text" 80) "java/lang/String" "coder" "B") (.int 0) ∈ xs_fl ∧ Cond.arrayOf (.field (Term.string "InkHours$Text" 80) "java/lang/String" "value" "[B") .byte ∈ xs_fl ∧ Cond.eq (.length (.field (Term.string "InkHours$Text" 80) "java/lang/String" "value" "[B")) (.int (Int32.ofNat 5)) ∈ xs_fl ∧ ∀ j : Nat, j < 5 → Cond.eq (.elem (.field (Term.string "InkHours$Text" 80) "java/lang/String" "value" "[B") (.int (Int32.ofNat j))) (.int (Int32.ofInt ((xa_tx.getD 5 []).getD j 0))) ∈ xs_fl := by decide +kernel
theorem xs_in6 : Cond.exactly (Term.string "InkHours$Text" 88) "java/lang/String" ∈ xs_fl ∧ Cond.eq (.field (Term.string "InkHours$Text" 88) "java/lang/String" "coder" "B") (.int 0) ∈ xs_fl ∧ Cond.arrayOf (.field (Term.string "InkHours$Text" 88) "java/lang/String" "value" "[B") .byte ∈ xs_fl ∧ Cond.eq (.length (.field (Term.string "InkHours$Text" 88) "java/lang/String" "value" "[B")) (.int (Int32.ofNat 4)) ∈ xs_fl ∧ ∀ j : Nat, j < 4 → Cond.eq (.elem (.field (Term.string "InkHours$Text" 88) "java/lang/String" "value" "[B") (.int (Int32.ofNat j))) (.int (Int32.ofInt ((xa_tx.getD 6 []).getD j 0))) ∈ xs_fl := by decide +kernel
theorem xs_in7 : Cond.exactly (Term.string "InkHours$Text" 104) "java/lang/String" ∈ xs_fl ∧ Cond.eq (.field (Term.string "InkHours$Text" 104) "java/lang/String" "coder" "B") (.int 0) ∈ xs_fl ∧ Cond.arrayOf (.field (Term.string "InkHours$Text" 104) "java/lang/String" "value" "[B") .byte ∈ xs_fl ∧ Cond.eq (.length (.field (Term.string "InkHours$Text" 104) "java/lang/String" "value" "[B")) (.int (Int32.ofNat 3)) ∈ xs_fl ∧ ∀ j : Nat, j < 3 → Cond.eq (.elem (.field (Term.string "InkHours$Text" 104) "java/lang/String" "value" "[B") (.int (Int32.ofNat j))) (.int (Int32.ofInt ((xa_tx.getD 7 []).getD j 0))) ∈ xs_fl := by decide +kernel
theorem xs_in8 : Cond.exactly (Term.string "InkHours$Text" 109) "java/lang/String" ∈ xs_fl ∧ Cond.eq (.field (Term.string "InkHours$Text" 109) "java/lang/String" "coder" "B") (.int 0) ∈ xs_fl ∧ Cond.arrayOf (.field (Term.string "InkHours$Text" 109) "java/lang/String" "value" "[B") .byte ∈ xs_fl ∧ Cond.eq (.length (.field (Term.string "InkHours$Text" 109) "java/lang/String" "value" "[B")) (.int (Int32.ofNat 3)) ∈ xs_fl ∧ ∀ j : Nat, j < 3 → Cond.eq (.elem (.field (Term.string "InkHours$Text" 109) "java/lang/String" "value" "[B") (.int (Int32.ofNat j))) (.int (Int32.ofInt ((xa_tx.getD 8 []).getD j 0))) ∈ xs_fl := by decide +kernel
theorem xs_in9 : Cond.exactly (Term.string "InkHours$Text" 111) "java/lang/String" ∈ xs_fl ∧ Cond.eq (.field (Term.string "InkHours$Text" 111) "java/lang/String" "coder" "B") (.int 0) ∈ xs_fl ∧ Cond.arrayOf (.field (Term.string "InkHours$Text" 111) "java/lang/String" "value" "[B") .byte ∈ xs_fl ∧ Cond.eq (.length (.field (Term.string "InkHours$Text" 111) "java/lang/String" "value" "[B")) (.int (Int32.ofNat 2)) ∈ xs_fl ∧ ∀ j : Nat, j < 2 → Cond.eq (.elem (.field (Term.string "InkHours$Text" 111) "java/lang/String" "value" "[B") (.int (Int32.ofNat j))) (.int (Int32.ofInt ((xa_tx.getD 9 []).getD j 0))) ∈ xs_fl := by decide +kernel
theorem xs_in10 : Cond.exactly (Term.string "InkHours$Text" 113) "java/lang/String" ∈ xs_fl ∧ Cond.eq (.field (Term.string "InkHours$Text" 113) "java/lang/String" "coder" "B") (.int 0) ∈ xs_fl ∧ Cond.arrayOf (.field (Term.string "InkHours$Text" 113) "java/lang/String" "value" "[B") .byte ∈ xs_fl ∧ Cond.eq (.length (.field (Term.string "InkHours$Text" 113) "java/lang/String" "value" "[B")) (.int (Int32.ofNat 4)) ∈ xs_fl ∧ ∀ j : Nat, j < 4 → Cond.eq (.elem (.field (Term.string "InkHours$Text" 113) "java/lang/String" "value" "[B") (.int (Int32.ofNat j))) (.int (Int32.ofInt ((xa_tx.getD 10 []).getD j 0))) ∈ xs_fl := by decide +kernel
theorem xs_in11 : Cond.exactly (Term.string "InkHours$Text" 115) "java/lang/String" ∈ xs_fl ∧ Cond.eq (.field (Term.string "InkHours$Text" 115) "java/lang/String" "coder" "B") (.int 0) ∈ xs_fl ∧ Cond.arrayOf (.field (Term.string "InkHours$Text" 115) "java/lang/String" "value" "[B") .byte ∈ xs_fl ∧ Cond.eq (.length (.field (Term.string "InkHours$Text" 115) "java/lang/String" "value" "[B")) (.int (Int32.ofNat 5)) ∈ xs_fl ∧ ∀ j : Nat, j < 5 → Cond.eq (.elem (.field (Term.string "InkHours$Text" 115) "java/lang/String" "value" "[B") (.int (Int32.ofNat j))) (.int (Int32.ofInt ((xa_tx.getD 11 []).getD j 0))) ∈ xs_fl := by decide +kernel
theorem xs_in12 : Cond.exactly (Term.string "InkHours$Text" 117) "java/lang/String" ∈ xs_fl ∧ Cond.eq (.field (Term.string "InkHours$Text" 117) "java/lang/String" "coder" "B") (.int 0) ∈ xs_fl ∧ Cond.arrayOf (.field (Term.string "InkHours$Text" 117) "java/lang/String" "value" "[B") .byte ∈ xs_fl ∧ Cond.eq (.length (.field (Term.string "InkHours$Text" 117) "java/lang/String" "value" "[B")) (.int (Int32.ofNat 4)) ∈ xs_fl ∧ ∀ j : Nat, j < 4 → Cond.eq (.elem (.field (Term.string "InkHours$Text" 117) "java/lang/String" "value" "[B") (.int (Int32.ofNat j))) (.int (Int32.ofInt ((xa_tx.getD 12 []).getD j 0))) ∈ xs_fl := by decide +kernel
theorem xs_row0 : Cond.arrayOf (.static "InkHours" "KIND_ABOVE" "[I") .int ∈ xs_fl ∧ Cond.eq (.length (.static "InkHours" "KIND_ABOVE" "[I")) (.int (Int32.ofNat 7)) ∈ xs_fl ∧ (∀ j : Nat, j < 7 → Cond.eq (.elem (.static "InkHours" "KIND_ABOVE" "[I") (.int (Int32.ofNat j))) (.int (Int32.ofInt (([-1, 0, 0, 0, 1, 3, 1] : List Int).getD j 0))) ∈ xs_fl) ∧ Cond.laysStatic "InkHours" "KIND_ABOVE" "[I" ∈ lw_tbl := by decide +kernel
theorem xs_row1 : Cond.arrayOf (.static "InkHours" "TRUTHS_OF_LETTER" "[I") .int ∈ xs_fl ∧ Cond.eq (.length (.static "InkHours" "TRUTHS_OF_LETTER" "[I")) (.int (Int32.ofNat 4)) ∈ xs_fl ∧ (∀ j : Nat, j < 4 → Cond.eq (.elem (.static "InkHours" "TRUTHS_OF_LETTER" "[I") (.int (Int32.ofNat j))) (.int (Int32.ofInt (([43690, 52428, 61680, 65280] : List Int).getD j 0))) ∈ xs_fl) ∧ Cond.laysStatic "InkHours" "TRUTHS_OF_LETTER" "[I" ∈ lw_tbl := by decide +kernel
theorem xs_row2 : Cond.arrayOf (.static "InkHours" "MORE_KINDS" "[I") .int ∈ xs_fl ∧ Cond.eq (.length (.static "InkHours" "MORE_KINDS" "[I")) (.int (Int32.ofNat 7)) ∈ xs_fl ∧ (∀ j : Nat, j < 7 → Cond.eq (.elem (.static "InkHours" "MORE_KINDS" "[I") (.int (Int32.ofNat j))) (.int (Int32.ofInt (([1, 1, 1, 1, 2, 3, 5] : List Int).getD j 0))) ∈ xs_fl) ∧ Cond.laysStatic "InkHours" "MORE_KINDS" "[I" ∈ lw_tbl := by decide +kernel
theorem xs_row3 : Cond.arrayOf (.static "InkHours" "MORE_LETTERS" "[I") .int ∈ xs_fl ∧ Cond.eq (.length (.static "InkHours" "MORE_LETTERS" "[I")) (.int (Int32.ofNat 7)) ∈ xs_fl ∧ (∀ j : Nat, j < 7 → Cond.eq (.elem (.static "InkHours" "MORE_LETTERS" "[I") (.int (Int32.ofNat j))) (.int (Int32.ofInt (([0, 1, 2, 3, 0, 0, 0] : List Int).getD j 0))) ∈ xs_fl) ∧ Cond.laysStatic "InkHours" "MORE_LETTERS" "[I" ∈ lw_tbl := by decide +kernel
theorem xs_more : Cond.eq (.static "java/lang/String" "COMPACT_STRINGS" "Z") (.int 1) ∈ xs_fl ∧ Cond.isRef (.static "jdk/internal/util/Preconditions" "SIOOBE_FORMATTER" "Ljava/util/function/BiFunction;") ∈ xs_fl ∧ Cond.laysStatic "java/lang/String" "COMPACT_STRINGS" "Z" ∈ lw_tbl ∧ Cond.laysStatic "jdk/internal/util/Preconditions" "SIOOBE_FORMATTER" "Ljava/util/function/BiFunction;" ∈ lw_tbl ∧ Cond.initialized "InkHours" ∈ lw_tbl ∧ Cond.initialized "java/lang/String" ∈ lw_tbl ∧ Cond.initialized "jdk/internal/util/Preconditions" ∈ lw_tbl ∧ Cond.arrayClass .int ∈ lw_tbl := by decide +kernel
theorem xs_ao : ∀ C ∈ xa_ao, Cond.arrayOver (.object C) ∈ lw_tbl := by decide +kernel
theorem xs_inst : ∀ q ∈ xb_cl, Cond.instantiable q.1 q.2.2 ∈ lw_tbl := by
  intro q hq
  simp only [xb_cl, List.mem_cons, List.not_mem_nil, or_false] at hq
  rcases hq with rfl | rfl | rfl | rfl | rfl | rfl | rfl | rfl | rfl | rfl
  all_goals decide +kernel
theorem xs_sr : ∀ q ∈ xa_sr, Cond.stringRef q.1 q.2.1 q.2.2.1 ∈ lw_tbl := by decide +kernel
/-- where the constants stand -/
def xs_ca (b t4 t5 t6 t7 : Nat) (aK aV : Nat → Nat) (c : Nat) : Nat := if c = 2 then b else if c = 4 then t4 else if c = 5 then t5 else if c = 6 then t6 else if c = 7 then t7 else if c < 40 then aK (c - 20) else aV (c - 40)
theorem xs_arrOf {s : State} {C : String} (h : (Cond.arrayOver (.object C)).before #[] s = true) : ∃ cA : ClassId, ArrOfT s cA (.object C) ∧ va_RA s cA (.object C) := by
  obtain ⟨comp, c, k, h1, h2, h3, h4, h5⟩ := Cond.arrayOver_spec h
  exact ⟨c, fun N z => ⟨fun k h => (by cases h), k, h3, comp, h4⟩, k, comp, h3, h4, h1, h5⟩
/-- all that stays, at the law's start -/
theorem xs_F {p : Program} {s : State} {m : MethodId} {meth : Method} {c : Code} {b L : Nat} {xs : Nat → Int32} (hL : L ≤ 3072) (C0 : lw_At p s m meth c b L xs) : ∃ (ca : Nat → Nat) (v3 : Value) (D : va_G) (cI : ClassId) (cQ : Nat → ClassId), v3.category = 1 ∧ ca 2 = b ∧ xa_F s.heap.size ca v3 ((List.range L).map (fun j => (xs j).toInt)) D cI cQ s s.heap := by
  obtain ⟨hx, hb, hr, hml, hown, hts, hX, hbl, hlocks, hgv, hnm⟩ := id C0
  have hfl : ∀ w ∈ xs_fl, w.before #[Value.ref b] s = true := flat_of_before _ hgv
  have hA : ∀ a : Nat, a < s.heap.size → ¬ s.heap.size ≤ a := fun a h => by omega
  obtain ⟨m1, m2, m3, m4, m5, m6, m7, m8⟩ := xs_more
  -- classes
  have hcls : ∀ k : Nat, ∃ q : ClassId × (Nat → Nat), ∀ r : vw_C, xb_cl[k]? = some r → u_Kn s r.1 r.2.1 r.2.2 q.1 q.2 := by
    intro k
    cases hk : xb_cl[k]? with
    | none => exact ⟨(0, fun _ => 0), fun r h => by cases h⟩
    | some r =>
      have hm := List.mem_of_getElem? hk
      obtain ⟨cC, iS, h⟩ := u_known (C := r.1) (T := r.2.1) (N := r.2.2) (n := r.2.2) hts (fun w hw => (List.mem_filter.mp (xb_cl_in r hm w hw)).1) (hts _ (xs_inst r hm))
      exact ⟨(cC, iS), fun r' h' => by cases h'; exact h⟩
  obtain ⟨f, hf⟩ := Classical.axiomOfChoice hcls
  -- arrays
  obtain ⟨cI, kA, comp, i1, i2, i3⟩ := Cond.arrayClass_spec (hts _ m8)
  have hI : ArrOfT s cI .int ∧ va_RA s cI .int := ⟨fun N z => ⟨fun k h => (by cases h), kA, i2, comp, i3⟩, i1⟩
  have hao : ∀ C ∈ xa_ao, va_AO C s := fun C hC => va_AO.of (hts _ (xs_ao C hC))
  obtain ⟨c1, hc1⟩ := xs_arrOf (va_AO.use (A := #[]) (hao "InkHours$Course" (by decide)))
  obtain ⟨c2, hc2⟩ := xs_arrOf (va_AO.use (A := #[]) (hao "InkHours$Paper" (by decide)))
  obtain ⟨c4, hc4⟩ := xs_arrOf (va_AO.use (A := #[]) (hao "InkHours$Sheet" (by decide)))
  -- static rows
  obtain ⟨t4, z4, y4⟩ := xs_row (b0 := s.heap.size) (C := "InkHours") (n := "KIND_ABOVE") [-1, 0, 0, 0, 1, 3, 1] rfl (by decide) (hts _ xs_row0.2.2.2) (hts _ m5) (hfl _ xs_row0.1) (hfl _ xs_row0.2.1) (fun j hj => hfl _ (xs_row0.2.2.1 j hj))
  obtain ⟨t5, z5, y5⟩ := xs_row (b0 := s.heap.size) (C := "InkHours") (n := "TRUTHS_OF_LETTER") [43690, 52428, 61680, 65280] rfl (by decide) (hts _ xs_row1.2.2.2) (hts _ m5) (hfl _ xs_row1.1) (hfl _ xs_row1.2.1) (fun j hj => hfl _ (xs_row1.2.2.1 j hj))
  obtain ⟨t6, z6, y6⟩ := xs_row (b0 := s.heap.size) (C := "InkHours") (n := "MORE_KINDS") [1, 1, 1, 1, 2, 3, 5] rfl (by decide) (hts _ xs_row2.2.2.2) (hts _ m5) (hfl _ xs_row2.1) (hfl _ xs_row2.2.1) (fun j hj => hfl _ (xs_row2.2.2.1 j hj))
  obtain ⟨t7, z7, y7⟩ := xs_row (b0 := s.heap.size) (C := "InkHours") (n := "MORE_LETTERS") [0, 1, 2, 3, 0, 0, 0] rfl (by decide) (hts _ xs_row3.2.2.2) (hts _ m5) (hfl _ xs_row3.1) (hfl _ xs_row3.2.1) (fun j hj => hfl _ (xs_row3.2.2.1 j hj))
  -- texts
  have htx : ∀ i : Nat, ∃ q : Nat × Nat, i < 13 → (Term.string "InkHours$Text" ((xa_sr.getD i ("", 0, "", 0)).2.1)).eval #[Value.ref b] s none [] s = some (.ref q.1) ∧ va_O "java/lang/String" q.1 (fun q : Nat => s.heap.size ≤ q) s s.heap ∧ va_OF "java/lang/String" "coder" "B" (.int 0) q.1 (fun q : Nat => s.heap.size ≤ q) s s.heap ∧ va_OF "java/lang/String" "value" "[B" (.ref q.2) q.1 (fun q : Nat => s.heap.size ≤ q) s s.heap ∧ va_T .byte q.2 (xa_tx.getD i []).length (fun j => .int (Int32.ofInt ((xa_tx.getD i []).getD j 0))) (fun q : Nat => s.heap.size ≤ q) s s.heap := by
    intro i
    by_cases hi : i < 13
    · rcases (by omega : i = 0 ∨ i = 1 ∨ i = 2 ∨ i = 3 ∨ i = 4 ∨ i = 5 ∨ i = 6 ∨ i = 7 ∨ i = 8 ∨ i = 9 ∨ i = 10 ∨ i = 11 ∨ i = 12) with rfl | rfl | rfl | rfl | rfl | rfl | rfl | rfl | rfl | rfl | rfl | rfl | rfl
      · obtain ⟨a, t, h⟩ := xs_str (b0 := s.heap.size) (tm := Term.string "InkHours$Text" 41) (xa_tx.getD 0 []) rfl (by decide) (hfl _ xs_in0.1) (hfl _ xs_in0.2.1) (hfl _ xs_in0.2.2.1) (hfl _ xs_in0.2.2.2.1) (fun j hj => hfl _ (xs_in0.2.2.2.2 j hj))
        exact ⟨(a, t), fun _ => h⟩
      · obtain ⟨a, t, h⟩ := xs_str (b0 := s.heap.size) (tm := Term.string "InkHours$Text" 50) (xa_tx.getD 1 []) rfl (by decide) (hfl _ xs_in1.1) (hfl _ xs_in1.2.1) (hfl _ xs_in1.2.2.1) (hfl _ xs_in1.2.2.2.1) (fun j hj => hfl _ (xs_in1.2.2.2.2 j hj))
        exact ⟨(a, t), fun _ => h⟩
      · obtain ⟨a, t, h⟩ := xs_str (b0 := s.heap.size) (tm := Term.string "InkHours$Text" 55) (xa_tx.getD 2 []) rfl (by decide) (hfl _ xs_in2.1) (hfl _ xs_in2.2.1) (hfl _ xs_in2.2.2.1) (hfl _ xs_in2.2.2.2.1) (fun j hj => hfl _ (xs_in2.2.2.2.2 j hj))
        exact ⟨(a, t), fun _ => h⟩
      · obtain ⟨a, t, h⟩ := xs_str (b0 := s.heap.size) (tm := Term.string "InkHours$Text" 64) (xa_tx.getD 3 []) rfl (by decide) (hfl _ xs_in3.1) (hfl _ xs_in3.2.1) (hfl _ xs_in3.2.2.1) (hfl _ xs_in3.2.2.2.1) (fun j hj => hfl _ (xs_in3.2.2.2.2 j hj))
        exact ⟨(a, t), fun _ => h⟩
      · obtain ⟨a, t, h⟩ := xs_str (b0 := s.heap.size) (tm := Term.string "InkHours$Text" 71) (xa_tx.getD 4 []) rfl (by decide) (hfl _ xs_in4.1) (hfl _ xs_in4.2.1) (hfl _ xs_in4.2.2.1) (hfl _ xs_in4.2.2.2.1) (fun j hj => hfl _ (xs_in4.2.2.2.2 j hj))
        exact ⟨(a, t), fun _ => h⟩
      · obtain ⟨a, t, h⟩ := xs_str (b0 := s.heap.size) (tm := Term.string "InkHours$Text" 80) (xa_tx.getD 5 []) rfl (by decide) (hfl _ xs_in5.1) (hfl _ xs_in5.2.1) (hfl _ xs_in5.2.2.1) (hfl _ xs_in5.2.2.2.1) (fun j hj => hfl _ (xs_in5.2.2.2.2 j hj))
        exact ⟨(a, t), fun _ => h⟩
      · obtain ⟨a, t, h⟩ := xs_str (b0 := s.heap.size) (tm := Term.string "InkHours$Text" 88) (xa_tx.getD 6 []) rfl (by decide) (hfl _ xs_in6.1) (hfl _ xs_in6.2.1) (hfl _ xs_in6.2.2.1) (hfl _ xs_in6.2.2.2.1) (fun j hj => hfl _ (xs_in6.2.2.2.2 j hj))
        exact ⟨(a, t), fun _ => h⟩
      · obtain ⟨a, t, h⟩ := xs_str (b0 := s.heap.size) (tm := Term.string "InkHours$Text" 104) (xa_tx.getD 7 []) rfl (by decide) (hfl _ xs_in7.1) (hfl _ xs_in7.2.1) (hfl _ xs_in7.2.2.1) (hfl _ xs_in7.2.2.2.1) (fun j hj => hfl _ (xs_in7.2.2.2.2 j hj))
        exact ⟨(a, t), fun _ => h⟩
      · obtain ⟨a, t, h⟩ := xs_str (b0 := s.heap.size) (tm := Term.string "InkHours$Text" 109) (xa_tx.getD 8 []) rfl (by decide) (hfl _ xs_in8.1) (hfl _ xs_in8.2.1) (hfl _ xs_in8.2.2.1) (hfl _ xs_in8.2.2.2.1) (fun j hj => hfl _ (xs_in8.2.2.2.2 j hj))
        exact ⟨(a, t), fun _ => h⟩
      · obtain ⟨a, t, h⟩ := xs_str (b0 := s.heap.size) (tm := Term.string "InkHours$Text" 111) (xa_tx.getD 9 []) rfl (by decide) (hfl _ xs_in9.1) (hfl _ xs_in9.2.1) (hfl _ xs_in9.2.2.1) (hfl _ xs_in9.2.2.2.1) (fun j hj => hfl _ (xs_in9.2.2.2.2 j hj))
        exact ⟨(a, t), fun _ => h⟩
      · obtain ⟨a, t, h⟩ := xs_str (b0 := s.heap.size) (tm := Term.string "InkHours$Text" 113) (xa_tx.getD 10 []) rfl (by decide) (hfl _ xs_in10.1) (hfl _ xs_in10.2.1) (hfl _ xs_in10.2.2.1) (hfl _ xs_in10.2.2.2.1) (fun j hj => hfl _ (xs_in10.2.2.2.2 j hj))
        exact ⟨(a, t), fun _ => h⟩
      · obtain ⟨a, t, h⟩ := xs_str (b0 := s.heap.size) (tm := Term.string "InkHours$Text" 115) (xa_tx.getD 11 []) rfl (by decide) (hfl _ xs_in11.1) (hfl _ xs_in11.2.1) (hfl _ xs_in11.2.2.1) (hfl _ xs_in11.2.2.2.1) (fun j hj => hfl _ (xs_in11.2.2.2.2 j hj))
        exact ⟨(a, t), fun _ => h⟩
      · obtain ⟨a, t, h⟩ := xs_str (b0 := s.heap.size) (tm := Term.string "InkHours$Text" 117) (xa_tx.getD 12 []) rfl (by decide) (hfl _ xs_in12.1) (hfl _ xs_in12.2.1) (hfl _ xs_in12.2.2.1) (hfl _ xs_in12.2.2.2.1) (fun j hj => hfl _ (xs_in12.2.2.2.2 j hj))
        exact ⟨(a, t), fun _ => h⟩
    · exact ⟨(0, 0), fun h => absurd h hi⟩
  obtain ⟨g, hg⟩ := Classical.axiomOfChoice htx
  -- what nobody asks
  have hv3 : ∃ v3 : Value, v3.category = 1 ∧ va_Z "jdk/internal/util/Preconditions" "SIOOBE_FORMATTER" "Ljava/util/function/BiFunction;" v3 (fun q : Nat => s.heap.size ≤ q) s s.heap := by
    rcases va_Zqof (A := fun q : Nat => s.heap.size ≤ q) (hts _ m4) (hts _ m7) (hfl _ m2) hA with h | ⟨t, h⟩
    · exact ⟨.null, rfl, h⟩
    · exact ⟨.ref t, rfl, h⟩
  obtain ⟨v3, h3, hz3⟩ := hv3
  have hzc : va_Z "java/lang/String" "COMPACT_STRINGS" "Z" (.int 1) (fun q : Nat => s.heap.size ≤ q) s s.heap := va_Zof (hts _ m3) (hts _ m6) (va_eqi (hfl _ m1)) hA
  refine ⟨xs_ca b t4 t5 t6 t7 (fun i => (g i).1) (fun i => (g i).2), v3, (fun k => (f k).1, fun k => (f k).2), cI, (fun k => if k = 1 then c1 else if k = 2 then c2 else c4), h3, rfl, ⟨fun k q hq => hf k q hq, ?_⟩, fun w hw => ?_, hao, fun q hq => ?_, fun q hq => ?_, fun k xs' e => ?_, fun k xs' e => ?_, fun k k1 k2 => ?_⟩
  · intro k q hq
    have hlt : k < 4 := (List.getElem?_eq_some_iff.mp hq).1
    rcases (by omega : k = 0 ∨ k = 1 ∨ k = 2 ∨ k = 3) with rfl | rfl | rfl | rfl
    · cases hq; exact hI
    · cases hq; exact hc1
    · cases hq; exact hc2
    · cases hq; exact hc4
  · obtain ⟨w1, w2⟩ := List.mem_filter.mp hw
    have h := hts w w1
    cases w <;> first | exact va_Nw.of rfl h | (simp [xa_isN] at w2)
  · have hw := hts _ (xs_sr q hq)
    obtain ⟨i, hi⟩ := List.getElem?_of_mem hq
    have hlt : i < 13 := (List.getElem?_eq_some_iff.mp hi).1
    have h := (hg i hlt).1
    rw [List.getD_eq_getElem?_getD, hi] at h
    have hq1 : ∀ q ∈ xa_sr, q.1 = "InkHours$Text" := by decide
    have hq2 : ∀ j : Nat, j < 13 → (xa_sr.getD j ("", 0, "", 0)).2.2.2 = 20 + j := by decide
    have h2 := hq2 i hlt
    rw [List.getD_eq_getElem?_getD, hi] at h2
    have h2 : q.2.2.2 = 20 + i := h2
    refine vk_R.of (A := #[Value.ref b]) hw ?_
    rw [hq1 q hq, h2]
    have e : xs_ca b t4 t5 t6 t7 (fun i => (g i).1) (fun i => (g i).2) (20 + i) = (g i).1 := by
      unfold xs_ca
      rw [if_neg (by omega), if_neg (by omega), if_neg (by omega), if_neg (by omega), if_neg (by omega), if_pos (by omega), show 20 + i - 20 = i by omega]
    rw [e]
    exact h
  · simp only [xa_st, List.mem_cons, List.not_mem_nil, or_false] at hq
    rcases hq with rfl | rfl | rfl | rfl | rfl | rfl
    · exact z4
    · exact z5
    · exact z6
    · exact z7
    · exact hzc
    · exact hz3
  · unfold xa_ca at e
    split at e
    · cases e
      obtain ⟨scr, x1, x2, x3, x4, x5⟩ := hX
      refine ⟨scr, x1, x2, x3, ?_, ?_, fun j hj => ?_, hA b hbl⟩
      · rw [x4, List.length_map, List.length_range]
        exact Nat.le_refl _
      · rw [x4, List.length_map, List.length_range] <;> rfl
      · rw [List.length_map, List.length_range] at hj
        rw [x5 j hj]
        dsimp only
        rw [List.getD_eq_getElem?_getD, List.getElem?_map, List.getElem?_range hj]
        show some (Value.int (xs j)) = some (Value.int (Int32.ofInt (xs j).toInt))
        rw [xa_asI]
    · cases e; exact y4
    · cases e; exact y5
    · cases e; exact y6
    · cases e; exact y7
    · cases e
  · unfold xa_cb at e
    split at e
    · cases e
    · next hk =>
      have hlt : k - 40 < 13 := (List.getElem?_eq_some_iff.mp e).1
      have h := (hg (k - 40) hlt).2.2.2.2
      have e1 : xa_tx.getD (k - 40) [] = xs' := by rw [List.getD_eq_getElem?_getD, e]; rfl
      rw [e1] at h
      have e2 : xs_ca b t4 t5 t6 t7 (fun i => (g i).1) (fun i => (g i).2) k = (g (k - 40)).2 := by
        unfold xs_ca
        rw [if_neg (by omega), if_neg (by omega), if_neg (by omega), if_neg (by omega), if_neg (by omega), if_neg (by omega)]
      rw [e2]
      exact h
  · have hlt : k - 20 < 13 := by omega
    have h := (hg (k - 20) hlt).2
    have e2 : xs_ca b t4 t5 t6 t7 (fun i => (g i).1) (fun i => (g i).2) k = (g (k - 20)).1 := by
      unfold xs_ca
      rw [if_neg (by omega), if_neg (by omega), if_neg (by omega), if_neg (by omega), if_neg (by omega), if_pos (by omega)]
    have e3 : xs_ca b t4 t5 t6 t7 (fun i => (g i).1) (fun i => (g i).2) (k + 20) = (g (k - 20)).2 := by
      unfold xs_ca
      rw [if_neg (by omega), if_neg (by omega), if_neg (by omega), if_neg (by omega), if_neg (by omega), if_neg (by omega), show k + 20 - 40 = k - 20 by omega]
    rw [e2, e3]
    exact ⟨h.1, h.2.1, h.2.2.1⟩
/-- what is left: the small machine's run of the law, on every script -/
def xs_Pure : Prop := ∀ X : List Int, X.length ≤ 3072 → (∀ x ∈ X, xa_rI x) → ∃ (n : Nat) (h' : xa_H), xa_ex xb_G X n 219 0 (xa_loc 4 [xC 2]) [] [] = some (some (xI 1), h') ∧ h'.length ≤ 600000 ∧ xa_sl h' ≤ 7302249
set_option maxHeartbeats 4000000 in
theorem xs_start (hpure : xs_Pure) {p : Program} {e : Env} {s : State} {m : MethodId} {below : List Frame} {meth : Method} {c : Code} (l : Launch) {b L : Nat} {xs : Nat → Int32} (hL : L ≤ 3072) (C0 : lw_At p s m meth c b L xs) : W p l e room_1 s m #[Value.ref b] below meth c s.heap [] 0 0 (lw_Z below #[Value.ref b] s) (entryFrame m ([Value.ref b] : List Value).toArray 4) := by
  obtain ⟨ca, v3, D, cI, cQ, h3, hca, hF⟩ := xs_F hL C0
  obtain ⟨hx, hb, hr, hml, hown, hts, hX, hbl, hlocks, hgv, hnm⟩ := id C0
  obtain ⟨n, h', ex, hl1, hl2⟩ := hpure ((List.range L).map (fun j => (xs j).toInt)) (by rw [List.length_map, List.length_range]; exact hL) (fun x hx => by
    obtain ⟨j, -, rfl⟩ := List.mem_map.mp hx
    exact xa_rng _)
  have C : xa_Cx xb_G xb_S 219 ((List.range L).map (fun j => (xs j).toInt)) s.heap.size ca v3 D cI cQ p room_1 s m #[Value.ref b] meth c := by
    refine ⟨hx, hb, hml, hown, fun w hw => hts w (List.mem_filter.mp hw).1, hF, h3, Nat.le_refl _, ?_, by show 10 ≤ 13; omega, by show 215 ≤ 474; omega⟩
    exact hnm
  have hRT : xa_RT xb_S 219 s.heap.size ca v3 D cI cQ p l e room_1 s m #[Value.ref b] below meth c (lw_Z below #[Value.ref b] s) h' (some (xI 1)) := by
    intro pc H locs cells slots lr ins st hdg hend hR1 hS hc hs
    refine W.widen (k := 600000) (n := 7302249) hc hs ?_
    refine va_forget hS.2.2 ?_
    rcases hend with ⟨rfl, rfl, q, hret⟩ | ⟨z, ty, rfl, rfl, q, hret, hn⟩ | ⟨z, rfl, rfl, q, hret⟩ | ⟨a, C, rfl, rfl, q, hret⟩
    · cases q
    · cases q
      exact lw_ret hx hb hr hlocks hdg
    · cases q
    · cases q
  have key := xa_sim C xb_ClOK (xb_all 219) hRT n (fun k _ y => xa_met xb_ClOK xb_all xb_pl xb_at0 h3 k y) 0 _ [] [] ex
  rw [lg_entry_eq]
  have h2 := key 0 s.heap [] 0 0 _ (xb_at0 219) (xa_lr_entry (av := [xC 2]) (nL := 4) h3 (by decide)) ⟨rfl, fun k q h => by simp [xa_W] at h⟩ va_S.rf (by show 0 + _ ≤ 600000; omega) (by show 0 + _ ≤ 7302249; omega)
  have e : xa_cv s.heap.size ca v3 (xC 2) = .ref b := by rw [xa_cv_C (by decide) (by decide), hca]
  rw [show [xC 2].map (xa_cv s.heap.size ca v3) = [Value.ref b] by rw [List.map_cons, e]; rfl] at h2
  exact h2
end
section
/-! THE END: the law on the real machine, out of the small one's run -/
theorem xs_pure : xs_Pure := sorry
theorem whole_start {p : Program} {e : Env} {s : State} {m : MethodId} {below : List Frame} {meth : Method} {c : Code} (l : Launch) (hflags : l.flags = flags0) {b L : Nat} {xs : Nat → Int32} (hL : L ≤ 3072) (C0 : lw_At p s m meth c b L xs) : W p l e room_1 s m #[Value.ref b] below meth c s.heap [] 0 0 (lw_Z below #[Value.ref b] s) (entryFrame m ([Value.ref b] : List Value).toArray 4) := xs_start xs_pure l hL C0
-- ===== YOUR PART ENDS =====
set_option maxHeartbeats 4000000 in
theorem lw_walk (l : Launch) (hflags : l.flags = flags0) (b : Addr) (xs : List Int32) : MetFree l x (headSpec (Jvm.Cond.code x code maxLocals ret :: tables_1) room_1) (lw_P b xs) (fun _ _ _ _ _ => True) lw_Q := by
  refine MetFree.of_bodyS (code := code) (maxLocals := maxLocals) (ret := ret) (by decide) ?_ ?_
  · intro args s m h hn
    obtain ⟨meth, c, h1, h2, h3, h4, h5, h6, -, -⟩ := Cond.code_spec hn (atoms_spec (ws := Jvm.Cond.code x code maxLocals ret :: tables_1) h _ List.mem_cons_self)
    exact ⟨meth, c, h1, h2, h3, h4, h5, h6⟩
  · intro p e s m args below meth c s₁ B hml0 hP _
    obtain ⟨rfl, hx, hbd, hgv⟩ := hP
    obtain ⟨scr, harrAt, hlist, hof, hsmall⟩ := hx
    obtain ⟨hcb, hkn, -, -⟩ := State.arrayAt?_spec harrAt
    have hown : s.vm.findClass R_law = some m.cls := findClass_of_methodNamed B.named
    have hts0 : ∀ c ∈ (Jvm.Cond.code x code maxLocals ret :: tables_1), c.before #[Value.ref b] s = true := atoms_spec (ws := Jvm.Cond.code x code maxLocals ret :: tables_1) B.pre
    have hts : ∀ w ∈ lw_tbl, w.before #[Value.ref b] s = true := k2_hts_sels lw_privs (fun w hw => hts0 w (List.mem_cons_of_mem _ hw)) lw_privs_ok
    have hml : c.maxLocals = 4 := B.maxLocals_eq (hts0 _ List.mem_cons_self)
    have X₀ : Stand p l e room_1 s m #[Value.ref b] below meth c s₁ [] 0 0 := Stand.of_body B
    have hh0 : s₁.heap = s.heap := by rw [B.state]; rfl
    have hsz : scr.slots.size = xs.length := by rw [← Array.length_toList, hlist, List.length_map]
    have hval : ∀ j : Nat, j < xs.length → scr.slots[j]? = some (.int (xs.getD j 0)) := fun j hj => by
      rw [← Array.getElem?_toList, hlist]
      simp [hj]
    have hbl : b < s.heap.size := (Array.getElem?_eq_some_iff.mp hcb).1
    have hX : va_X b xs.length (fun j => xs.getD j 0) s s.heap := ⟨scr, hcb, hof, hkn, hsz, hval⟩
    have K : W p l e room_1 s m #[Value.ref b] below meth c s₁.heap [] 0 0 (lw_Z below #[Value.ref b] s) (entryFrame m ([Value.ref b] : List Value).toArray 4) := by
      rw [hh0]
      exact whole_start l hflags hbd ⟨B.exec, B.bytes, B.returns, hml, hown, hts, hX, hbl, B.notSynchronized, hgv, (name_of_methodNamed B.named B.method).1⟩
    obtain ⟨t, a1, o, b1, b2, b3⟩ := K s₁ rfl X₀
    exact ⟨t, o, a1, b1, b2, b3⟩
theorem lw_pre_spec {args : Array Value} {s : State} (h : (Jvm.Cond.and given_1 narrow_1).before args s = true) (hr : rest_1_c.before args s = true) : ∃ (b : Addr) (xs : List Int32), lw_P b xs args s := by
  have hs := flat_of_before _ h
  have hq := flat_of_before _ hr
  have hc : (Cond.count 1).before args s = true := hs _ (by decide +kernel)
  have harr : (Cond.arrayOf (.arg 0) .int).before args s = true := hs _ (by decide +kernel)
  have hle : (Cond.le (.length (.arg 0)) (.int 3072)).before args s = true := hs _ (by decide +kernel)
  have hlen : (Cond.isInt (.length (.arg 0))).before args s = true := hq _ (by decide +kernel)
  have hall : (Cond.all (.arg 0) (.isInt (.elem (.arg 0) (.index 0)))).before args s = true := hq _ (by decide +kernel)
  obtain ⟨b, xs, hb, hx⟩ := State.ints_of_pre rfl harr hlen hall
  have hsm : xs.length < 2 ^ 31 := hx.choose_spec.2.2.2
  have hev : (Term.length (.arg 0)).eval args s none [] s = some (.int xs.length.toInt32) := hx.length_eval hb
  have hv := Cond.le_ints hev (show (Term.int 3072).eval args s none [] s = some (.int 3072) from rfl)
  have hd : xs.length.toInt32 ≤ 3072 := by
    simpa [Cond.before, Cond.holds, hv] using hle
  have hN : xs.length ≤ 3072 := (Int32.ofNat_le_ofNat hsm (by decide)).mp (show Int32.ofNat xs.length ≤ Int32.ofNat 3072 from hd)
  exact ⟨b, xs, Cond.one_arg hc (show args[0]? = some (.ref b) from hb), hx, hN, h⟩
theorem lw_comes (l : Launch) (hflags : l.flags = flags0) : Comes l x (Jvm.Cond.code x code maxLocals ret :: tables_1) room_1 (fun tb e args s => Calls_1 tb e args s ∧ rest_1 tb e args s ∧ Pre_1 tb e args s)
    (fun _ _ args s o t => lw_Q args s o t) := by
  intro p e ha hc hk s m args below hf hfit hheap happ hpre
  obtain ⟨b, xs, hP⟩ := lw_pre_spec hpre.2.2 hpre.2.1
  obtain ⟨k, o, h1, h2, h3, hQ⟩ := lw_walk l hflags b xs p e ha hc hk s m args below hf ((Spec.applies_iff_loose hf).mp happ).1 hP trivial
  exact ⟨k, o, h1, h2, h3, hQ⟩
theorem lw_frame {s t : State} {o : Outcome} {args : Array Value} (h : Framed s o t [] 600000 7302249) :
    Framed s o t (fieldLocs frame_1_writes args s ++ arrayLocs frame_1_arrays args s ++ staticLocs frame_1_statics s) 600000 7302249 := h
theorem lw_limb (L : Cond) (hL : ∀ (args : Array Value) (s t : State), L.after args s (.returned (some (.int 1))) t = true) :
    ArmFor flags0 classFile x code maxLocals ret World_1 tables_1 room_1 Calls_1 rest_1 Pre_1
      (fun tb e a s o t => postC L tb e a s o t ∧ Framed s o t (fieldLocs frame_1_writes a s ++ arrayLocs frame_1_arrays a s ++ staticLocs frame_1_statics s) 600000 7302249) := by
  intro l hflags _ _ p e ha hc hk s m args below hf hfit hheap happ hpre
  obtain ⟨k, o, h1, h2, h3, rfl, hF⟩ := lw_comes l hflags p e ha hc hk s m args below hf hfit hheap happ hpre
  exact ⟨k, _, h1, h2, h3, hL args s _, lw_frame hF⟩
theorem i_vc : Claimed_1_1 ∧ Claimed_1_2 := ⟨lw_limb limb_1_1 (fun args s t => by simp [limb_1_1, Cond.after, Cond.holds, Cond.value]), lw_limb limb_1_2 (fun args s t => Cond.after_iff.mpr (by
  first | (rw [show limb_1_2 = Cond.eq .result (.int 1) from rfl, Cond.eq_ints (x := 1) (y := 1) rfl rfl]; simp; done) | (simp [limb_1_2, Cond.value, Term.eval]; done)))⟩
end
