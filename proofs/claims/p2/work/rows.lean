section
-- ===== PART A: goes FIRST, ahead of the names: the tables' words, and 'selects' of the private methods out of them =====
/-- a private method of a class that the tables say can be made, by its rows of tables_1 -/
def lw_okq (q : MethodName × Nat) : Prop := (q.1.cls ≠ "java/lang/invoke/MethodHandle" ∧ q.1.cls ≠ "java/lang/invoke/VarHandle") ∧ Cond.instantiable q.1.cls q.2 ∈ tables_1 ∧ Cond.privateMethod q.1 ∈ tables_1 ∧ Cond.instanceMethod q.1 ∈ tables_1
theorem lw_p0 : lw_okq (⟨"java/util/ArrayList", "add", "(Ljava/lang/Object;[Ljava/lang/Object;I)V"⟩, 3) := ⟨⟨by decide +kernel, by decide +kernel⟩, List.mem_of_getElem? (i := 80) (by decide +kernel), List.mem_of_getElem? (i := 219) (by decide +kernel), List.mem_of_getElem? (i := 220) (by decide +kernel)⟩
theorem lw_p1 : lw_okq (⟨"java/util/ArrayList", "grow", "()[Ljava/lang/Object;"⟩, 3) := ⟨⟨by decide +kernel, by decide +kernel⟩, List.mem_of_getElem? (i := 80) (by decide +kernel), List.mem_of_getElem? (i := 223) (by decide +kernel), List.mem_of_getElem? (i := 224) (by decide +kernel)⟩
theorem lw_p2 : lw_okq (⟨"java/util/ArrayList", "grow", "(I)[Ljava/lang/Object;"⟩, 3) := ⟨⟨by decide +kernel, by decide +kernel⟩, List.mem_of_getElem? (i := 80) (by decide +kernel), List.mem_of_getElem? (i := 227) (by decide +kernel), List.mem_of_getElem? (i := 228) (by decide +kernel)⟩
theorem lw_p3 : lw_okq (⟨"SafePaths$Draft", "addUnlessPassedOver", "(Ljava/util/ArrayList;II)V"⟩, 2) := ⟨⟨by decide +kernel, by decide +kernel⟩, List.mem_of_getElem? (i := 66) (by decide +kernel), List.mem_of_getElem? (i := 425) (by decide +kernel), List.mem_of_getElem? (i := 426) (by decide +kernel)⟩
theorem lw_p4 : lw_okq (⟨"SafePaths", "judgeAsPath", "(Ljava/util/ArrayList;)I"⟩, 9) := ⟨⟨by decide +kernel, by decide +kernel⟩, List.mem_of_getElem? (i := 28) (by decide +kernel), List.mem_of_getElem? (i := 436) (by decide +kernel), List.mem_of_getElem? (i := 437) (by decide +kernel)⟩
theorem lw_p5 : lw_okq (⟨"SafePaths$Name", "hasControlByte", "()Z"⟩, 2) := ⟨⟨by decide +kernel, by decide +kernel⟩, List.mem_of_getElem? (i := 136) (by decide +kernel), List.mem_of_getElem? (i := 479) (by decide +kernel), List.mem_of_getElem? (i := 480) (by decide +kernel)⟩
theorem lw_p6 : lw_okq (⟨"SafePaths$Name", "isOfOtherSystems", "()Z"⟩, 2) := ⟨⟨by decide +kernel, by decide +kernel⟩, List.mem_of_getElem? (i := 136) (by decide +kernel), List.mem_of_getElem? (i := 483) (by decide +kernel), List.mem_of_getElem? (i := 484) (by decide +kernel)⟩
theorem lw_p7 : lw_okq (⟨"SafePaths$Name", "hasMark", "()Z"⟩, 2) := ⟨⟨by decide +kernel, by decide +kernel⟩, List.mem_of_getElem? (i := 136) (by decide +kernel), List.mem_of_getElem? (i := 491) (by decide +kernel), List.mem_of_getElem? (i := 492) (by decide +kernel)⟩
theorem lw_p8 : lw_okq (⟨"SafePaths$Name", "isKeptWord", "()Z"⟩, 2) := ⟨⟨by decide +kernel, by decide +kernel⟩, List.mem_of_getElem? (i := 136) (by decide +kernel), List.mem_of_getElem? (i := 578) (by decide +kernel), List.mem_of_getElem? (i := 579) (by decide +kernel)⟩
theorem lw_p9 : lw_okq (⟨"SafePaths$Name", "lengthToFirstDot", "()I"⟩, 2) := ⟨⟨by decide +kernel, by decide +kernel⟩, List.mem_of_getElem? (i := 136) (by decide +kernel), List.mem_of_getElem? (i := 582) (by decide +kernel), List.mem_of_getElem? (i := 583) (by decide +kernel)⟩
theorem lw_p10 : lw_okq (⟨"SafePaths$Name", "beginsWithOneOf", "(Ljava/lang/String;)Z"⟩, 2) := ⟨⟨by decide +kernel, by decide +kernel⟩, List.mem_of_getElem? (i := 136) (by decide +kernel), List.mem_of_getElem? (i := 587) (by decide +kernel), List.mem_of_getElem? (i := 588) (by decide +kernel)⟩
theorem lw_p11 : lw_okq (⟨"SafePaths", "judgeAsTarget", "()I"⟩, 9) := ⟨⟨by decide +kernel, by decide +kernel⟩, List.mem_of_getElem? (i := 28) (by decide +kernel), List.mem_of_getElem? (i := 687) (by decide +kernel), List.mem_of_getElem? (i := 688) (by decide +kernel)⟩
theorem lw_p12 : lw_okq (⟨"SafePaths", "otherOf", "(IILSafePaths$Parted;)LSafePaths$Parted;"⟩, 9) := ⟨⟨by decide +kernel, by decide +kernel⟩, List.mem_of_getElem? (i := 28) (by decide +kernel), List.mem_of_getElem? (i := 699) (by decide +kernel), List.mem_of_getElem? (i := 700) (by decide +kernel)⟩
theorem lw_p13 : lw_okq (⟨"SafePaths$Taking", "forgetLastJudgement", "()V"⟩, 14) := ⟨⟨by decide +kernel, by decide +kernel⟩, List.mem_of_getElem? (i := 321) (by decide +kernel), List.mem_of_getElem? (i := 739) (by decide +kernel), List.mem_of_getElem? (i := 740) (by decide +kernel)⟩
theorem lw_p14 : lw_okq (⟨"SafePaths$Taking", "judgeWay", "(LSafePaths$Parted;)I"⟩, 14) := ⟨⟨by decide +kernel, by decide +kernel⟩, List.mem_of_getElem? (i := 321) (by decide +kernel), List.mem_of_getElem? (i := 743) (by decide +kernel), List.mem_of_getElem? (i := 744) (by decide +kernel)⟩
theorem lw_p15 : lw_okq (⟨"SafePaths$Taking", "judgeWayPart", "(LSafePaths$Name;)I"⟩, 14) := ⟨⟨by decide +kernel, by decide +kernel⟩, List.mem_of_getElem? (i := 321) (by decide +kernel), List.mem_of_getElem? (i := 749) (by decide +kernel), List.mem_of_getElem? (i := 750) (by decide +kernel)⟩
def lw_privs_1 : List (MethodName × Nat) := [(⟨"java/util/ArrayList", "add", "(Ljava/lang/Object;[Ljava/lang/Object;I)V"⟩, 3), (⟨"java/util/ArrayList", "grow", "()[Ljava/lang/Object;"⟩, 3), (⟨"java/util/ArrayList", "grow", "(I)[Ljava/lang/Object;"⟩, 3), (⟨"SafePaths$Draft", "addUnlessPassedOver", "(Ljava/util/ArrayList;II)V"⟩, 2), (⟨"SafePaths", "judgeAsPath", "(Ljava/util/ArrayList;)I"⟩, 9), (⟨"SafePaths$Name", "hasControlByte", "()Z"⟩, 2), (⟨"SafePaths$Name", "isOfOtherSystems", "()Z"⟩, 2), (⟨"SafePaths$Name", "hasMark", "()Z"⟩, 2), (⟨"SafePaths$Name", "isKeptWord", "()Z"⟩, 2), (⟨"SafePaths$Name", "lengthToFirstDot", "()I"⟩, 2), (⟨"SafePaths$Name", "beginsWithOneOf", "(Ljava/lang/String;)Z"⟩, 2), (⟨"SafePaths", "judgeAsTarget", "()I"⟩, 9), (⟨"SafePaths", "otherOf", "(IILSafePaths$Parted;)LSafePaths$Parted;"⟩, 9), (⟨"SafePaths$Taking", "forgetLastJudgement", "()V"⟩, 14), (⟨"SafePaths$Taking", "judgeWay", "(LSafePaths$Parted;)I"⟩, 14), (⟨"SafePaths$Taking", "judgeWayPart", "(LSafePaths$Name;)I"⟩, 14)]
theorem lw_r1 : ∀ q ∈ lw_privs_1, lw_okq q := List.forall_mem_cons.mpr ⟨lw_p0, List.forall_mem_cons.mpr ⟨lw_p1, List.forall_mem_cons.mpr ⟨lw_p2, List.forall_mem_cons.mpr ⟨lw_p3, List.forall_mem_cons.mpr ⟨lw_p4, List.forall_mem_cons.mpr ⟨lw_p5, List.forall_mem_cons.mpr ⟨lw_p6, List.forall_mem_cons.mpr ⟨lw_p7, List.forall_mem_cons.mpr ⟨lw_p8, List.forall_mem_cons.mpr ⟨lw_p9, List.forall_mem_cons.mpr ⟨lw_p10, List.forall_mem_cons.mpr ⟨lw_p11, List.forall_mem_cons.mpr ⟨lw_p12, List.forall_mem_cons.mpr ⟨lw_p13, List.forall_mem_cons.mpr ⟨lw_p14, List.forall_mem_cons.mpr ⟨lw_p15, fun _ h => absurd h List.not_mem_nil⟩⟩⟩⟩⟩⟩⟩⟩⟩⟩⟩⟩⟩⟩⟩⟩
theorem lw_p16 : lw_okq (⟨"SafePaths$Taking", "nextBy", "(LSafePaths$Name;)LSafePaths$Node;"⟩, 14) := ⟨⟨by decide +kernel, by decide +kernel⟩, List.mem_of_getElem? (i := 321) (by decide +kernel), List.mem_of_getElem? (i := 753) (by decide +kernel), List.mem_of_getElem? (i := 754) (by decide +kernel)⟩
theorem lw_p17 : lw_okq (⟨"SafePaths$Taking", "judgeLack", "()I"⟩, 14) := ⟨⟨by decide +kernel, by decide +kernel⟩, List.mem_of_getElem? (i := 321) (by decide +kernel), List.mem_of_getElem? (i := 769) (by decide +kernel), List.mem_of_getElem? (i := 770) (by decide +kernel)⟩
theorem lw_p18 : lw_okq (⟨"SafePaths$Taking", "isShut", "()Z"⟩, 14) := ⟨⟨by decide +kernel, by decide +kernel⟩, List.mem_of_getElem? (i := 321) (by decide +kernel), List.mem_of_getElem? (i := 773) (by decide +kernel), List.mem_of_getElem? (i := 774) (by decide +kernel)⟩
theorem lw_p19 : lw_okq (⟨"SafePaths$Taking", "isRefusedMeeting", "(LSafePaths$Node;LSafePaths$Name;)Z"⟩, 14) := ⟨⟨by decide +kernel, by decide +kernel⟩, List.mem_of_getElem? (i := 321) (by decide +kernel), List.mem_of_getElem? (i := 777) (by decide +kernel), List.mem_of_getElem? (i := 778) (by decide +kernel)⟩
theorem lw_p20 : lw_okq (⟨"SafePaths$Taking", "judgeLast", "(LSafePaths$Name;)I"⟩, 14) := ⟨⟨by decide +kernel, by decide +kernel⟩, List.mem_of_getElem? (i := 321) (by decide +kernel), List.mem_of_getElem? (i := 782) (by decide +kernel), List.mem_of_getElem? (i := 783) (by decide +kernel)⟩
theorem lw_p21 : lw_okq (⟨"SafePaths$Taking", "judgeKind", "(LSafePaths$Entry;)I"⟩, 14) := ⟨⟨by decide +kernel, by decide +kernel⟩, List.mem_of_getElem? (i := 321) (by decide +kernel), List.mem_of_getElem? (i := 786) (by decide +kernel), List.mem_of_getElem? (i := 787) (by decide +kernel)⟩
theorem lw_p22 : lw_okq (⟨"SafePaths$Taking", "isPlaceTaken", "(I)Z"⟩, 14) := ⟨⟨by decide +kernel, by decide +kernel⟩, List.mem_of_getElem? (i := 321) (by decide +kernel), List.mem_of_getElem? (i := 794) (by decide +kernel), List.mem_of_getElem? (i := 795) (by decide +kernel)⟩
theorem lw_p23 : lw_okq (⟨"SafePaths$Walk", "begin", "(LSafePaths$Parted;LSafePaths$Node;)V"⟩, 5) := ⟨⟨by decide +kernel, by decide +kernel⟩, List.mem_of_getElem? (i := 297) (by decide +kernel), List.mem_of_getElem? (i := 806) (by decide +kernel), List.mem_of_getElem? (i := 807) (by decide +kernel)⟩
theorem lw_p24 : lw_okq (⟨"java/util/ArrayList", "fastRemove", "([Ljava/lang/Object;I)V"⟩, 3) := ⟨⟨by decide +kernel, by decide +kernel⟩, List.mem_of_getElem? (i := 80) (by decide +kernel), List.mem_of_getElem? (i := 823) (by decide +kernel), List.mem_of_getElem? (i := 824) (by decide +kernel)⟩
theorem lw_p25 : lw_okq (⟨"SafePaths$Walk", "goUp", "()I"⟩, 5) := ⟨⟨by decide +kernel, by decide +kernel⟩, List.mem_of_getElem? (i := 297) (by decide +kernel), List.mem_of_getElem? (i := 830) (by decide +kernel), List.mem_of_getElem? (i := 831) (by decide +kernel)⟩
theorem lw_p26 : lw_okq (⟨"SafePaths$Walk", "goTo", "(LSafePaths$Node;)I"⟩, 5) := ⟨⟨by decide +kernel, by decide +kernel⟩, List.mem_of_getElem? (i := 297) (by decide +kernel), List.mem_of_getElem? (i := 836) (by decide +kernel), List.mem_of_getElem? (i := 837) (by decide +kernel)⟩
theorem lw_p27 : lw_okq (⟨"SafePaths$Taking", "judgeSharing", "(LSafePaths$Parted;)I"⟩, 14) := ⟨⟨by decide +kernel, by decide +kernel⟩, List.mem_of_getElem? (i := 321) (by decide +kernel), List.mem_of_getElem? (i := 841) (by decide +kernel), List.mem_of_getElem? (i := 842) (by decide +kernel)⟩
theorem lw_p28 : lw_okq (⟨"SafePaths$Taking", "judgeLimits", "(LSafePaths$Entry;)I"⟩, 14) := ⟨⟨by decide +kernel, by decide +kernel⟩, List.mem_of_getElem? (i := 321) (by decide +kernel), List.mem_of_getElem? (i := 853) (by decide +kernel), List.mem_of_getElem? (i := 854) (by decide +kernel)⟩
theorem lw_p29 : lw_okq (⟨"SafePaths$Taking", "bring", "(LSafePaths$Entry;)LSafePaths$Node;"⟩, 14) := ⟨⟨by decide +kernel, by decide +kernel⟩, List.mem_of_getElem? (i := 321) (by decide +kernel), List.mem_of_getElem? (i := 865) (by decide +kernel), List.mem_of_getElem? (i := 866) (by decide +kernel)⟩
theorem lw_p30 : lw_okq (⟨"SafePaths$Taking", "bodyFor", "(LSafePaths$Entry;)LSafePaths$Body;"⟩, 14) := ⟨⟨by decide +kernel, by decide +kernel⟩, List.mem_of_getElem? (i := 321) (by decide +kernel), List.mem_of_getElem? (i := 873) (by decide +kernel), List.mem_of_getElem? (i := 874) (by decide +kernel)⟩
theorem lw_p31 : lw_okq (⟨"SafePaths$Tree", "countIn", "(LSafePaths$Node;)I"⟩, 7) := ⟨⟨by decide +kernel, by decide +kernel⟩, List.mem_of_getElem? (i := 106) (by decide +kernel), List.mem_of_getElem? (i := 957) (by decide +kernel), List.mem_of_getElem? (i := 958) (by decide +kernel)⟩
def lw_privs_2 : List (MethodName × Nat) := [(⟨"SafePaths$Taking", "nextBy", "(LSafePaths$Name;)LSafePaths$Node;"⟩, 14), (⟨"SafePaths$Taking", "judgeLack", "()I"⟩, 14), (⟨"SafePaths$Taking", "isShut", "()Z"⟩, 14), (⟨"SafePaths$Taking", "isRefusedMeeting", "(LSafePaths$Node;LSafePaths$Name;)Z"⟩, 14), (⟨"SafePaths$Taking", "judgeLast", "(LSafePaths$Name;)I"⟩, 14), (⟨"SafePaths$Taking", "judgeKind", "(LSafePaths$Entry;)I"⟩, 14), (⟨"SafePaths$Taking", "isPlaceTaken", "(I)Z"⟩, 14), (⟨"SafePaths$Walk", "begin", "(LSafePaths$Parted;LSafePaths$Node;)V"⟩, 5), (⟨"java/util/ArrayList", "fastRemove", "([Ljava/lang/Object;I)V"⟩, 3), (⟨"SafePaths$Walk", "goUp", "()I"⟩, 5), (⟨"SafePaths$Walk", "goTo", "(LSafePaths$Node;)I"⟩, 5), (⟨"SafePaths$Taking", "judgeSharing", "(LSafePaths$Parted;)I"⟩, 14), (⟨"SafePaths$Taking", "judgeLimits", "(LSafePaths$Entry;)I"⟩, 14), (⟨"SafePaths$Taking", "bring", "(LSafePaths$Entry;)LSafePaths$Node;"⟩, 14), (⟨"SafePaths$Taking", "bodyFor", "(LSafePaths$Entry;)LSafePaths$Body;"⟩, 14), (⟨"SafePaths$Tree", "countIn", "(LSafePaths$Node;)I"⟩, 7)]
theorem lw_r2 : ∀ q ∈ lw_privs_2, lw_okq q := List.forall_mem_cons.mpr ⟨lw_p16, List.forall_mem_cons.mpr ⟨lw_p17, List.forall_mem_cons.mpr ⟨lw_p18, List.forall_mem_cons.mpr ⟨lw_p19, List.forall_mem_cons.mpr ⟨lw_p20, List.forall_mem_cons.mpr ⟨lw_p21, List.forall_mem_cons.mpr ⟨lw_p22, List.forall_mem_cons.mpr ⟨lw_p23, List.forall_mem_cons.mpr ⟨lw_p24, List.forall_mem_cons.mpr ⟨lw_p25, List.forall_mem_cons.mpr ⟨lw_p26, List.forall_mem_cons.mpr ⟨lw_p27, List.forall_mem_cons.mpr ⟨lw_p28, List.forall_mem_cons.mpr ⟨lw_p29, List.forall_mem_cons.mpr ⟨lw_p30, List.forall_mem_cons.mpr ⟨lw_p31, fun _ h => absurd h List.not_mem_nil⟩⟩⟩⟩⟩⟩⟩⟩⟩⟩⟩⟩⟩⟩⟩⟩
theorem lw_p32 : lw_okq (⟨"SafePathsModel", "add", "(II)I"⟩, 42) := ⟨⟨by decide +kernel, by decide +kernel⟩, List.mem_of_getElem? (i := 1010) (by decide +kernel), List.mem_of_getElem? (i := 1018) (by decide +kernel), List.mem_of_getElem? (i := 1019) (by decide +kernel)⟩
theorem lw_p33 : lw_okq (⟨"SafePathsModel", "word3", "(III)V"⟩, 42) := ⟨⟨by decide +kernel, by decide +kernel⟩, List.mem_of_getElem? (i := 1010) (by decide +kernel), List.mem_of_getElem? (i := 1022) (by decide +kernel), List.mem_of_getElem? (i := 1023) (by decide +kernel)⟩
theorem lw_p34 : lw_okq (⟨"SafePathsModel", "nextPart", "(II)I"⟩, 42) := ⟨⟨by decide +kernel, by decide +kernel⟩, List.mem_of_getElem? (i := 1010) (by decide +kernel), List.mem_of_getElem? (i := 1164) (by decide +kernel), List.mem_of_getElem? (i := 1165) (by decide +kernel)⟩
theorem lw_p35 : lw_okq (⟨"SafePathsModel", "isParting", "(I)Z"⟩, 42) := ⟨⟨by decide +kernel, by decide +kernel⟩, List.mem_of_getElem? (i := 1010) (by decide +kernel), List.mem_of_getElem? (i := 1168) (by decide +kernel), List.mem_of_getElem? (i := 1169) (by decide +kernel)⟩
theorem lw_p36 : lw_okq (⟨"SafePathsModel", "hasRule", "(I)Z"⟩, 42) := ⟨⟨by decide +kernel, by decide +kernel⟩, List.mem_of_getElem? (i := 1010) (by decide +kernel), List.mem_of_getElem? (i := 1172) (by decide +kernel), List.mem_of_getElem? (i := 1173) (by decide +kernel)⟩
theorem lw_p37 : lw_okq (⟨"SafePathsModel", "isUp", "()Z"⟩, 42) := ⟨⟨by decide +kernel, by decide +kernel⟩, List.mem_of_getElem? (i := 1010) (by decide +kernel), List.mem_of_getElem? (i := 1176) (by decide +kernel), List.mem_of_getElem? (i := 1177) (by decide +kernel)⟩
theorem lw_p38 : lw_okq (⟨"SafePathsModel", "isBad", "()Z"⟩, 42) := ⟨⟨by decide +kernel, by decide +kernel⟩, List.mem_of_getElem? (i := 1010) (by decide +kernel), List.mem_of_getElem? (i := 1180) (by decide +kernel), List.mem_of_getElem? (i := 1181) (by decide +kernel)⟩
theorem lw_p39 : lw_okq (⟨"SafePathsModel", "isLike", "(IIII)Z"⟩, 42) := ⟨⟨by decide +kernel, by decide +kernel⟩, List.mem_of_getElem? (i := 1010) (by decide +kernel), List.mem_of_getElem? (i := 1184) (by decide +kernel), List.mem_of_getElem? (i := 1185) (by decide +kernel)⟩
theorem lw_p40 : lw_okq (⟨"SafePathsModel", "isPath", "(I)Z"⟩, 42) := ⟨⟨by decide +kernel, by decide +kernel⟩, List.mem_of_getElem? (i := 1010) (by decide +kernel), List.mem_of_getElem? (i := 1195) (by decide +kernel), List.mem_of_getElem? (i := 1196) (by decide +kernel)⟩
theorem lw_p41 : lw_okq (⟨"SafePathsModel", "leads", "(III)I"⟩, 42) := ⟨⟨by decide +kernel, by decide +kernel⟩, List.mem_of_getElem? (i := 1010) (by decide +kernel), List.mem_of_getElem? (i := 1211) (by decide +kernel), List.mem_of_getElem? (i := 1212) (by decide +kernel)⟩
theorem lw_p42 : lw_okq (⟨"SafePathsModel", "startOf", "(II)I"⟩, 42) := ⟨⟨by decide +kernel, by decide +kernel⟩, List.mem_of_getElem? (i := 1010) (by decide +kernel), List.mem_of_getElem? (i := 1215) (by decide +kernel), List.mem_of_getElem? (i := 1216) (by decide +kernel)⟩
theorem lw_p43 : lw_okq (⟨"SafePathsModel", "isInside", "(I)Z"⟩, 42) := ⟨⟨by decide +kernel, by decide +kernel⟩, List.mem_of_getElem? (i := 1010) (by decide +kernel), List.mem_of_getElem? (i := 1219) (by decide +kernel), List.mem_of_getElem? (i := 1220) (by decide +kernel)⟩
theorem lw_p44 : lw_okq (⟨"SafePathsModel", "nextWord", "()Z"⟩, 42) := ⟨⟨by decide +kernel, by decide +kernel⟩, List.mem_of_getElem? (i := 1010) (by decide +kernel), List.mem_of_getElem? (i := 1223) (by decide +kernel), List.mem_of_getElem? (i := 1224) (by decide +kernel)⟩
theorem lw_p45 : lw_okq (⟨"SafePathsModel", "in", "(I)I"⟩, 42) := ⟨⟨by decide +kernel, by decide +kernel⟩, List.mem_of_getElem? (i := 1010) (by decide +kernel), List.mem_of_getElem? (i := 1227) (by decide +kernel), List.mem_of_getElem? (i := 1228) (by decide +kernel)⟩
theorem lw_p46 : lw_okq (⟨"SafePathsModel", "isNamed", "(IZ)Z"⟩, 42) := ⟨⟨by decide +kernel, by decide +kernel⟩, List.mem_of_getElem? (i := 1010) (by decide +kernel), List.mem_of_getElem? (i := 1231) (by decide +kernel), List.mem_of_getElem? (i := 1232) (by decide +kernel)⟩
theorem lw_p47 : lw_okq (⟨"SafePathsModel", "isLeft", "()Z"⟩, 42) := ⟨⟨by decide +kernel, by decide +kernel⟩, List.mem_of_getElem? (i := 1010) (by decide +kernel), List.mem_of_getElem? (i := 1235) (by decide +kernel), List.mem_of_getElem? (i := 1236) (by decide +kernel)⟩
def lw_privs_3 : List (MethodName × Nat) := [(⟨"SafePathsModel", "add", "(II)I"⟩, 42), (⟨"SafePathsModel", "word3", "(III)V"⟩, 42), (⟨"SafePathsModel", "nextPart", "(II)I"⟩, 42), (⟨"SafePathsModel", "isParting", "(I)Z"⟩, 42), (⟨"SafePathsModel", "hasRule", "(I)Z"⟩, 42), (⟨"SafePathsModel", "isUp", "()Z"⟩, 42), (⟨"SafePathsModel", "isBad", "()Z"⟩, 42), (⟨"SafePathsModel", "isLike", "(IIII)Z"⟩, 42), (⟨"SafePathsModel", "isPath", "(I)Z"⟩, 42), (⟨"SafePathsModel", "leads", "(III)I"⟩, 42), (⟨"SafePathsModel", "startOf", "(II)I"⟩, 42), (⟨"SafePathsModel", "isInside", "(I)Z"⟩, 42), (⟨"SafePathsModel", "nextWord", "()Z"⟩, 42), (⟨"SafePathsModel", "in", "(I)I"⟩, 42), (⟨"SafePathsModel", "isNamed", "(IZ)Z"⟩, 42), (⟨"SafePathsModel", "isLeft", "()Z"⟩, 42)]
theorem lw_r3 : ∀ q ∈ lw_privs_3, lw_okq q := List.forall_mem_cons.mpr ⟨lw_p32, List.forall_mem_cons.mpr ⟨lw_p33, List.forall_mem_cons.mpr ⟨lw_p34, List.forall_mem_cons.mpr ⟨lw_p35, List.forall_mem_cons.mpr ⟨lw_p36, List.forall_mem_cons.mpr ⟨lw_p37, List.forall_mem_cons.mpr ⟨lw_p38, List.forall_mem_cons.mpr ⟨lw_p39, List.forall_mem_cons.mpr ⟨lw_p40, List.forall_mem_cons.mpr ⟨lw_p41, List.forall_mem_cons.mpr ⟨lw_p42, List.forall_mem_cons.mpr ⟨lw_p43, List.forall_mem_cons.mpr ⟨lw_p44, List.forall_mem_cons.mpr ⟨lw_p45, List.forall_mem_cons.mpr ⟨lw_p46, List.forall_mem_cons.mpr ⟨lw_p47, fun _ h => absurd h List.not_mem_nil⟩⟩⟩⟩⟩⟩⟩⟩⟩⟩⟩⟩⟩⟩⟩⟩
theorem lw_p48 : lw_okq (⟨"SafePathsModel", "isEntry", "(I)Z"⟩, 42) := ⟨⟨by decide +kernel, by decide +kernel⟩, List.mem_of_getElem? (i := 1010) (by decide +kernel), List.mem_of_getElem? (i := 1248) (by decide +kernel), List.mem_of_getElem? (i := 1249) (by decide +kernel)⟩
theorem lw_p49 : lw_okq (⟨"SafePathsModel", "takes", "(IZ)I"⟩, 42) := ⟨⟨by decide +kernel, by decide +kernel⟩, List.mem_of_getElem? (i := 1010) (by decide +kernel), List.mem_of_getElem? (i := 1252) (by decide +kernel), List.mem_of_getElem? (i := 1253) (by decide +kernel)⟩
theorem lw_p50 : lw_okq (⟨"SafePathsModel", "walk", "(IZ)I"⟩, 42) := ⟨⟨by decide +kernel, by decide +kernel⟩, List.mem_of_getElem? (i := 1010) (by decide +kernel), List.mem_of_getElem? (i := 1256) (by decide +kernel), List.mem_of_getElem? (i := 1257) (by decide +kernel)⟩
theorem lw_p51 : lw_okq (⟨"SafePathsModel", "partWord", "(II)V"⟩, 42) := ⟨⟨by decide +kernel, by decide +kernel⟩, List.mem_of_getElem? (i := 1010) (by decide +kernel), List.mem_of_getElem? (i := 1260) (by decide +kernel), List.mem_of_getElem? (i := 1261) (by decide +kernel)⟩
theorem lw_p52 : lw_okq (⟨"SafePathsModel", "note", "(IIZ)V"⟩, 42) := ⟨⟨by decide +kernel, by decide +kernel⟩, List.mem_of_getElem? (i := 1010) (by decide +kernel), List.mem_of_getElem? (i := 1264) (by decide +kernel), List.mem_of_getElem? (i := 1265) (by decide +kernel)⟩
theorem lw_p53 : lw_okq (⟨"SafePathsModel", "isThere", "(II)Z"⟩, 42) := ⟨⟨by decide +kernel, by decide +kernel⟩, List.mem_of_getElem? (i := 1010) (by decide +kernel), List.mem_of_getElem? (i := 1268) (by decide +kernel), List.mem_of_getElem? (i := 1269) (by decide +kernel)⟩
theorem lw_p54 : lw_okq (⟨"SafePathsModel", "fileAt", "(I)I"⟩, 42) := ⟨⟨by decide +kernel, by decide +kernel⟩, List.mem_of_getElem? (i := 1010) (by decide +kernel), List.mem_of_getElem? (i := 1272) (by decide +kernel), List.mem_of_getElem? (i := 1273) (by decide +kernel)⟩
theorem lw_p55 : lw_okq (⟨"SafePathsModel", "comes", "(IIIIZI)I"⟩, 42) := ⟨⟨by decide +kernel, by decide +kernel⟩, List.mem_of_getElem? (i := 1010) (by decide +kernel), List.mem_of_getElem? (i := 1276) (by decide +kernel), List.mem_of_getElem? (i := 1277) (by decide +kernel)⟩
def lw_privs_4 : List (MethodName × Nat) := [(⟨"SafePathsModel", "isEntry", "(I)Z"⟩, 42), (⟨"SafePathsModel", "takes", "(IZ)I"⟩, 42), (⟨"SafePathsModel", "walk", "(IZ)I"⟩, 42), (⟨"SafePathsModel", "partWord", "(II)V"⟩, 42), (⟨"SafePathsModel", "note", "(IIZ)V"⟩, 42), (⟨"SafePathsModel", "isThere", "(II)Z"⟩, 42), (⟨"SafePathsModel", "fileAt", "(I)I"⟩, 42), (⟨"SafePathsModel", "comes", "(IIIIZI)I"⟩, 42)]
theorem lw_r4 : ∀ q ∈ lw_privs_4, lw_okq q := List.forall_mem_cons.mpr ⟨lw_p48, List.forall_mem_cons.mpr ⟨lw_p49, List.forall_mem_cons.mpr ⟨lw_p50, List.forall_mem_cons.mpr ⟨lw_p51, List.forall_mem_cons.mpr ⟨lw_p52, List.forall_mem_cons.mpr ⟨lw_p53, List.forall_mem_cons.mpr ⟨lw_p54, List.forall_mem_cons.mpr ⟨lw_p55, fun _ h => absurd h List.not_mem_nil⟩⟩⟩⟩⟩⟩⟩⟩
def lw_privs : List (MethodName × Nat) := lw_privs_1 ++ (lw_privs_2 ++ (lw_privs_3 ++ (lw_privs_4)))
def lw_tbl : List Cond := k2_sels lw_privs ++ tables_1
theorem lw_privs_ok : ∀ q ∈ lw_privs, lw_okq q := by
  show ∀ q ∈ lw_privs_1 ++ (lw_privs_2 ++ (lw_privs_3 ++ (lw_privs_4))), lw_okq q
  exact List.forall_mem_append.mpr ⟨lw_r1, List.forall_mem_append.mpr ⟨lw_r2, List.forall_mem_append.mpr ⟨lw_r3, lw_r4⟩⟩⟩
end
section
def RX0 : String := "SafePaths$Body"
def TX0 : u_T := fun k => match k with
  | 0 => ("SafePaths$Body", "number", "I", true)
  | 1 => ("SafePaths$Body", "size", "J", true)
  | _ => ("SafePaths$Body", "value", "I", true)
def tyX0 : Nat → FieldType := fun k => match k with
  | 0 => .int
  | 1 => .long
  | _ => .int
abbrev wsX00 : List Cond := u_ws RX0 TX0 3
theorem nmX0 : ∀ a, a < 3 → ∀ b, b < 3 → a ≠ b → (TX0 a).2.1 ≠ (TX0 b).2.1 := by decide +kernel
theorem tyX0_ok : ∀ k, k < 3 → parseFieldDescriptor (TX0 k).2.2.1 = some (tyX0 k) := by decide +kernel
abbrev cX0_init : ByteArray := prog_2_method_1_code
def yX0_init : MethodName := ⟨RX0, "<init>", "(IJI)V"⟩
def RX1 : String := "SafePaths$Draft"
def TX1 : u_T := fun k => match k with
  | 0 => ("SafePaths$Draft", "bytes", "[I", true)
  | _ => ("SafePaths$Draft", "length", "I", false)
def tyX1 : Nat → FieldType := fun k => match k with
  | 0 => .array .int
  | _ => .int
abbrev wsX10 : List Cond := u_ws RX1 TX1 2
theorem nmX1 : ∀ a, a < 2 → ∀ b, b < 2 → a ≠ b → (TX1 a).2.1 ≠ (TX1 b).2.1 := by decide +kernel
theorem tyX1_ok : ∀ k, k < 2 → parseFieldDescriptor (TX1 k).2.2.1 = some (tyX1 k) := by decide +kernel
abbrev cX1_init : ByteArray := prog_3_method_1_code
def yX1_init : MethodName := ⟨RX1, "<init>", "()V"⟩
abbrev cX1_append : ByteArray := prog_3_method_2_code
def yX1_append : MethodName := ⟨RX1, "append", "(I)I"⟩
abbrev cX1_clear : ByteArray := prog_3_method_3_code
def yX1_clear : MethodName := ⟨RX1, "clear", "()V"⟩
abbrev cX1_length : ByteArray := prog_3_method_4_code
def yX1_length : MethodName := ⟨RX1, "length", "()I"⟩
abbrev cX1_beginsWithDivider : ByteArray := prog_3_method_5_code
def yX1_beginsWithDivider : MethodName := ⟨RX1, "beginsWithDivider", "(LSafePaths$Rules;)Z"⟩
abbrev cX1_beginsWithDrive : ByteArray := prog_3_method_6_code
def yX1_beginsWithDrive : MethodName := ⟨RX1, "beginsWithDrive", "()Z"⟩
abbrev cX1_cut : ByteArray := prog_3_method_7_code
def yX1_cut : MethodName := ⟨RX1, "cut", "(LSafePaths$Rules;)Ljava/util/ArrayList;"⟩
abbrev cX1_addUnlessPassedOver : ByteArray := prog_3_method_8_code
def yX1_addUnlessPassedOver : MethodName := ⟨RX1, "addUnlessPassedOver", "(Ljava/util/ArrayList;II)V"⟩
def RX2 : String := "SafePaths$Entry"
def TX2 : u_T := fun k => match k with
  | 0 => ("SafePaths$Entry", "kind", "I", true)
  | 1 => ("SafePaths$Entry", "path", "LSafePaths$Parted;", true)
  | 2 => ("SafePaths$Entry", "other", "LSafePaths$Parted;", true)
  | 3 => ("SafePaths$Entry", "with", "I", true)
  | _ => ("SafePaths$Entry", "size", "J", true)
def tyX2 : Nat → FieldType := fun k => match k with
  | 0 => .int
  | 1 => .object "SafePaths$Parted"
  | 2 => .object "SafePaths$Parted"
  | 3 => .int
  | _ => .long
abbrev wsX20 : List Cond := u_ws RX2 TX2 5
theorem nmX2 : ∀ a, a < 5 → ∀ b, b < 5 → a ≠ b → (TX2 a).2.1 ≠ (TX2 b).2.1 := by decide +kernel
theorem tyX2_ok : ∀ k, k < 5 → parseFieldDescriptor (TX2 k).2.2.1 = some (tyX2 k) := by decide +kernel
abbrev cX2_init : ByteArray := prog_4_method_1_code
def yX2_init : MethodName := ⟨RX2, "<init>", "(ILSafePaths$Parted;LSafePaths$Parted;IJ)V"⟩
def RX3 : String := "SafePaths$Name"
def TX3 : u_T := fun k => match k with
  | 0 => ("SafePaths$Name", "bytes", "[I", true)
  | _ => ("SafePaths$Name", "small", "[I", true)
def tyX3 : Nat → FieldType := fun k => match k with
  | 0 => .array .int
  | _ => .array .int
abbrev wsX30 : List Cond := u_ws RX3 TX3 2
theorem nmX3 : ∀ a, a < 2 → ∀ b, b < 2 → a ≠ b → (TX3 a).2.1 ≠ (TX3 b).2.1 := by decide +kernel
theorem tyX3_ok : ∀ k, k < 2 → parseFieldDescriptor (TX3 k).2.2.1 = some (tyX3 k) := by decide +kernel
abbrev cX3_init : ByteArray := prog_5_method_1_code
def yX3_init : MethodName := ⟨RX3, "<init>", "([III)V"⟩
abbrev cX3_smallLetter : ByteArray := prog_5_method_2_code
def yX3_smallLetter : MethodName := ⟨RX3, "smallLetter", "(I)I"⟩
abbrev cX3_length : ByteArray := prog_5_method_3_code
def yX3_length : MethodName := ⟨RX3, "length", "()I"⟩
abbrev cX3_byteAt : ByteArray := prog_5_method_4_code
def yX3_byteAt : MethodName := ⟨RX3, "byteAt", "(I)I"⟩
abbrev cX3_isSameAs : ByteArray := prog_5_method_5_code
def yX3_isSameAs : MethodName := ⟨RX3, "isSameAs", "(LSafePaths$Name;)Z"⟩
abbrev cX3_isAlike : ByteArray := prog_5_method_6_code
def yX3_isAlike : MethodName := ⟨RX3, "isAlike", "(LSafePaths$Name;)Z"⟩
abbrev cX3_isEqual : ByteArray := prog_5_method_7_code
def yX3_isEqual : MethodName := ⟨RX3, "isEqual", "([I[I)Z"⟩
abbrev cX3_isStay : ByteArray := prog_5_method_8_code
def yX3_isStay : MethodName := ⟨RX3, "isStay", "()Z"⟩
abbrev cX3_isUp : ByteArray := prog_5_method_9_code
def yX3_isUp : MethodName := ⟨RX3, "isUp", "()Z"⟩
abbrev cX3_judge : ByteArray := prog_5_method_10_code
def yX3_judge : MethodName := ⟨RX3, "judge", "(LSafePaths$Rules;)I"⟩
abbrev cX3_hasControlByte : ByteArray := prog_5_method_11_code
def yX3_hasControlByte : MethodName := ⟨RX3, "hasControlByte", "()Z"⟩
abbrev cX3_isOfOtherSystems : ByteArray := prog_5_method_12_code
def yX3_isOfOtherSystems : MethodName := ⟨RX3, "isOfOtherSystems", "()Z"⟩
abbrev cX3_hasMark : ByteArray := prog_5_method_13_code
def yX3_hasMark : MethodName := ⟨RX3, "hasMark", "()Z"⟩
abbrev cX3_isKeptWord : ByteArray := prog_5_method_14_code
def yX3_isKeptWord : MethodName := ⟨RX3, "isKeptWord", "()Z"⟩
abbrev cX3_lengthToFirstDot : ByteArray := prog_5_method_15_code
def yX3_lengthToFirstDot : MethodName := ⟨RX3, "lengthToFirstDot", "()I"⟩
abbrev cX3_beginsWithOneOf : ByteArray := prog_5_method_16_code
def yX3_beginsWithOneOf : MethodName := ⟨RX3, "beginsWithOneOf", "(Ljava/lang/String;)Z"⟩
def RX4 : String := "SafePaths$Node"
def TX4 : u_T := fun k => match k with
  | 0 => ("SafePaths$Node", "number", "I", true)
  | 1 => ("SafePaths$Node", "folder", "LSafePaths$Node;", true)
  | 2 => ("SafePaths$Node", "name", "LSafePaths$Name;", true)
  | 3 => ("SafePaths$Node", "body", "LSafePaths$Body;", true)
  | 4 => ("SafePaths$Node", "target", "LSafePaths$Parted;", true)
  | 5 => ("SafePaths$Node", "dead", "Z", true)
  | 6 => ("SafePaths$Node", "shut", "Z", false)
  | _ => ("SafePaths$Node", "gone", "Z", false)
def tyX4 : Nat → FieldType := fun k => match k with
  | 0 => .int
  | 1 => .object "SafePaths$Node"
  | 2 => .object "SafePaths$Name"
  | 3 => .object "SafePaths$Body"
  | 4 => .object "SafePaths$Parted"
  | 5 => .boolean
  | 6 => .boolean
  | _ => .boolean
abbrev wsX40 : List Cond := u_ws RX4 TX4 8
theorem nmX4 : ∀ a, a < 8 → ∀ b, b < 8 → a ≠ b → (TX4 a).2.1 ≠ (TX4 b).2.1 := by decide +kernel
theorem tyX4_ok : ∀ k, k < 8 → parseFieldDescriptor (TX4 k).2.2.1 = some (tyX4 k) := by decide +kernel
abbrev cX4_init : ByteArray := prog_6_method_1_code
def yX4_init : MethodName := ⟨RX4, "<init>", "(ILSafePaths$Node;LSafePaths$Name;LSafePaths$Body;LSafePaths$Parted;Z)V"⟩
abbrev cX4_isFolder : ByteArray := prog_6_method_2_code
def yX4_isFolder : MethodName := ⟨RX4, "isFolder", "()Z"⟩
abbrev cX4_up : ByteArray := prog_6_method_3_code
def yX4_up : MethodName := ⟨RX4, "up", "()LSafePaths$Node;"⟩
abbrev cX4_state : ByteArray := prog_6_method_4_code
def yX4_state : MethodName := ⟨RX4, "state", "()I"⟩
def RX5 : String := "SafePaths$Note"
def TX5 : u_T := fun k => match k with
  | 0 => ("SafePaths$Note", "folder", "LSafePaths$Node;", true)
  | _ => ("SafePaths$Note", "shut", "Z", true)
def tyX5 : Nat → FieldType := fun k => match k with
  | 0 => .object "SafePaths$Node"
  | _ => .boolean
abbrev wsX50 : List Cond := u_ws RX5 TX5 2
theorem nmX5 : ∀ a, a < 2 → ∀ b, b < 2 → a ≠ b → (TX5 a).2.1 ≠ (TX5 b).2.1 := by decide +kernel
theorem tyX5_ok : ∀ k, k < 2 → parseFieldDescriptor (TX5 k).2.2.1 = some (tyX5 k) := by decide +kernel
abbrev cX5_init : ByteArray := prog_7_method_1_code
def yX5_init : MethodName := ⟨RX5, "<init>", "(LSafePaths$Node;Z)V"⟩
def RX6 : String := "SafePaths$Parted"
def TX6 : u_T := fun k => match k with
  | 0 => ("SafePaths$Parted", "number", "I", true)
  | 1 => ("SafePaths$Parted", "fromTop", "Z", true)
  | 2 => ("SafePaths$Parted", "parts", "Ljava/util/ArrayList;", true)
  | _ => ("SafePaths$Parted", "none", "LSafePaths$Name;", true)
def tyX6 : Nat → FieldType := fun k => match k with
  | 0 => .int
  | 1 => .boolean
  | 2 => .object "java/util/ArrayList"
  | _ => .object "SafePaths$Name"
abbrev wsX60 : List Cond := u_ws RX6 TX6 4
theorem nmX6 : ∀ a, a < 4 → ∀ b, b < 4 → a ≠ b → (TX6 a).2.1 ≠ (TX6 b).2.1 := by decide +kernel
theorem tyX6_ok : ∀ k, k < 4 → parseFieldDescriptor (TX6 k).2.2.1 = some (tyX6 k) := by decide +kernel
abbrev cX6_init : ByteArray := prog_8_method_1_code
def yX6_init : MethodName := ⟨RX6, "<init>", "(IZLjava/util/ArrayList;)V"⟩
abbrev cX6_count : ByteArray := prog_8_method_2_code
def yX6_count : MethodName := ⟨RX6, "count", "()I"⟩
abbrev cX6_at : ByteArray := prog_8_method_3_code
def yX6_at : MethodName := ⟨RX6, "at", "(I)LSafePaths$Name;"⟩
def RX7 : String := "SafePaths$Rules"
def TX7 : u_T := fun k => match k with
  | 0 => ("SafePaths$Rules", "backslashDivides", "Z", true)
  | 1 => ("SafePaths$Rules", "lettersMeet", "Z", true)
  | 2 => ("SafePaths$Rules", "deadLinks", "Z", true)
  | 3 => ("SafePaths$Rules", "strictNames", "Z", true)
  | 4 => ("SafePaths$Rules", "meetingIsSame", "Z", true)
  | _ => ("SafePaths$Rules", "makesFolders", "Z", true)
def tyX7 : Nat → FieldType := fun k => match k with
  | 0 => .boolean
  | 1 => .boolean
  | 2 => .boolean
  | 3 => .boolean
  | 4 => .boolean
  | _ => .boolean
abbrev wsX70 : List Cond := u_ws RX7 TX7 6
theorem nmX7 : ∀ a, a < 6 → ∀ b, b < 6 → a ≠ b → (TX7 a).2.1 ≠ (TX7 b).2.1 := by decide +kernel
theorem tyX7_ok : ∀ k, k < 6 → parseFieldDescriptor (TX7 k).2.2.1 = some (tyX7 k) := by decide +kernel
abbrev cX7_init : ByteArray := prog_9_method_1_code
def yX7_init : MethodName := ⟨RX7, "<init>", "(I)V"⟩
abbrev cX7_divides : ByteArray := prog_9_method_2_code
def yX7_divides : MethodName := ⟨RX7, "divides", "(I)Z"⟩
abbrev cX7_takeAsOne : ByteArray := prog_9_method_3_code
def yX7_takeAsOne : MethodName := ⟨RX7, "takeAsOne", "(LSafePaths$Name;LSafePaths$Name;)Z"⟩
def RX8 : String := "SafePaths$Taking"
def TX8 : u_T := fun k => match k with
  | 0 => ("SafePaths$Taking", "rules", "LSafePaths$Rules;", true)
  | 1 => ("SafePaths$Taking", "tree", "LSafePaths$Tree;", true)
  | 2 => ("SafePaths$Taking", "walk", "LSafePaths$Walk;", true)
  | 3 => ("SafePaths$Taking", "notes", "Ljava/util/ArrayList;", true)
  | 4 => ("SafePaths$Taking", "nodeLimit", "J", false)
  | 5 => ("SafePaths$Taking", "sizeLimit", "J", false)
  | 6 => ("SafePaths$Taking", "made", "I", false)
  | 7 => ("SafePaths$Taking", "sizes", "J", false)
  | 8 => ("SafePaths$Taking", "folder", "LSafePaths$Node;", false)
  | 9 => ("SafePaths$Taking", "lacking", "I", false)
  | 10 => ("SafePaths$Taking", "there", "LSafePaths$Node;", false)
  | 11 => ("SafePaths$Taking", "already", "LSafePaths$Node;", false)
  | 12 => ("SafePaths$Taking", "shared", "LSafePaths$Body;", false)
  | _ => ("SafePaths$Taking", "dead", "Z", false)
def tyX8 : Nat → FieldType := fun k => match k with
  | 0 => .object "SafePaths$Rules"
  | 1 => .object "SafePaths$Tree"
  | 2 => .object "SafePaths$Walk"
  | 3 => .object "java/util/ArrayList"
  | 4 => .long
  | 5 => .long
  | 6 => .int
  | 7 => .long
  | 8 => .object "SafePaths$Node"
  | 9 => .int
  | 10 => .object "SafePaths$Node"
  | 11 => .object "SafePaths$Node"
  | 12 => .object "SafePaths$Body"
  | _ => .boolean
abbrev wsX80 : List Cond := u_ws RX8 TX8 14
theorem nmX8 : ∀ a, a < 14 → ∀ b, b < 14 → a ≠ b → (TX8 a).2.1 ≠ (TX8 b).2.1 := by decide +kernel
theorem tyX8_ok : ∀ k, k < 14 → parseFieldDescriptor (TX8 k).2.2.1 = some (tyX8 k) := by decide +kernel
abbrev cX8_init : ByteArray := prog_10_method_1_code
def yX8_init : MethodName := ⟨RX8, "<init>", "(LSafePaths$Rules;LSafePaths$Tree;LSafePaths$Walk;)V"⟩
abbrev cX8_changeNodeLimit : ByteArray := prog_10_method_2_code
def yX8_changeNodeLimit : MethodName := ⟨RX8, "changeNodeLimit", "(J)J"⟩
abbrev cX8_changeSizeLimit : ByteArray := prog_10_method_3_code
def yX8_changeSizeLimit : MethodName := ⟨RX8, "changeSizeLimit", "(J)J"⟩
abbrev cX8_notedCount : ByteArray := prog_10_method_4_code
def yX8_notedCount : MethodName := ⟨RX8, "notedCount", "()I"⟩
abbrev cX8_setNotedRights : ByteArray := prog_10_method_5_code
def yX8_setNotedRights : MethodName := ⟨RX8, "setNotedRights", "()V"⟩
abbrev cX8_judge : ByteArray := prog_10_method_6_code
def yX8_judge : MethodName := ⟨RX8, "judge", "(LSafePaths$Entry;)I"⟩
abbrev cX8_forgetLastJudgement : ByteArray := prog_10_method_7_code
def yX8_forgetLastJudgement : MethodName := ⟨RX8, "forgetLastJudgement", "()V"⟩
abbrev cX8_judgeWay : ByteArray := prog_10_method_8_code
def yX8_judgeWay : MethodName := ⟨RX8, "judgeWay", "(LSafePaths$Parted;)I"⟩
abbrev cX8_judgeWayPart : ByteArray := prog_10_method_9_code
def yX8_judgeWayPart : MethodName := ⟨RX8, "judgeWayPart", "(LSafePaths$Name;)I"⟩
abbrev cX8_nextBy : ByteArray := prog_10_method_10_code
def yX8_nextBy : MethodName := ⟨RX8, "nextBy", "(LSafePaths$Name;)LSafePaths$Node;"⟩
abbrev cX8_judgeLack : ByteArray := prog_10_method_11_code
def yX8_judgeLack : MethodName := ⟨RX8, "judgeLack", "()I"⟩
abbrev cX8_isShut : ByteArray := prog_10_method_12_code
def yX8_isShut : MethodName := ⟨RX8, "isShut", "()Z"⟩
abbrev cX8_isRefusedMeeting : ByteArray := prog_10_method_13_code
def yX8_isRefusedMeeting : MethodName := ⟨RX8, "isRefusedMeeting", "(LSafePaths$Node;LSafePaths$Name;)Z"⟩
abbrev cX8_judgeLast : ByteArray := prog_10_method_14_code
def yX8_judgeLast : MethodName := ⟨RX8, "judgeLast", "(LSafePaths$Name;)I"⟩
abbrev cX8_judgeKind : ByteArray := prog_10_method_15_code
def yX8_judgeKind : MethodName := ⟨RX8, "judgeKind", "(LSafePaths$Entry;)I"⟩
abbrev cX8_isPlaceTaken : ByteArray := prog_10_method_16_code
def yX8_isPlaceTaken : MethodName := ⟨RX8, "isPlaceTaken", "(I)Z"⟩
abbrev cX8_judgeSharing : ByteArray := prog_10_method_17_code
def yX8_judgeSharing : MethodName := ⟨RX8, "judgeSharing", "(LSafePaths$Parted;)I"⟩
abbrev cX8_judgeLimits : ByteArray := prog_10_method_18_code
def yX8_judgeLimits : MethodName := ⟨RX8, "judgeLimits", "(LSafePaths$Entry;)I"⟩
abbrev cX8_carryOut : ByteArray := prog_10_method_19_code
def yX8_carryOut : MethodName := ⟨RX8, "carryOut", "(LSafePaths$Entry;)I"⟩
abbrev cX8_bring : ByteArray := prog_10_method_20_code
def yX8_bring : MethodName := ⟨RX8, "bring", "(LSafePaths$Entry;)LSafePaths$Node;"⟩
abbrev cX8_bodyFor : ByteArray := prog_10_method_21_code
def yX8_bodyFor : MethodName := ⟨RX8, "bodyFor", "(LSafePaths$Entry;)LSafePaths$Body;"⟩
def RX9 : String := "SafePaths$Tree"
def TX9 : u_T := fun k => match k with
  | 0 => ("SafePaths$Tree", "rules", "LSafePaths$Rules;", true)
  | 1 => ("SafePaths$Tree", "nodes", "Ljava/util/ArrayList;", true)
  | 2 => ("SafePaths$Tree", "bodies", "Ljava/util/ArrayList;", true)
  | 3 => ("SafePaths$Tree", "top", "LSafePaths$Node;", true)
  | 4 => ("SafePaths$Tree", "root", "LSafePaths$Node;", true)
  | 5 => ("SafePaths$Tree", "home", "LSafePaths$Node;", true)
  | _ => ("SafePaths$Tree", "key", "LSafePaths$Node;", true)
def tyX9 : Nat → FieldType := fun k => match k with
  | 0 => .object "SafePaths$Rules"
  | 1 => .object "java/util/ArrayList"
  | 2 => .object "java/util/ArrayList"
  | 3 => .object "SafePaths$Node"
  | 4 => .object "SafePaths$Node"
  | 5 => .object "SafePaths$Node"
  | _ => .object "SafePaths$Node"
abbrev wsX90 : List Cond := u_ws RX9 TX9 7
theorem nmX9 : ∀ a, a < 7 → ∀ b, b < 7 → a ≠ b → (TX9 a).2.1 ≠ (TX9 b).2.1 := by decide +kernel
theorem tyX9_ok : ∀ k, k < 7 → parseFieldDescriptor (TX9 k).2.2.1 = some (tyX9 k) := by decide +kernel
abbrev cX9_init : ByteArray := prog_11_method_1_code
def yX9_init : MethodName := ⟨RX9, "<init>", "(LSafePaths$Rules;)V"⟩
abbrev cX9_nodeCount : ByteArray := prog_11_method_2_code
def yX9_nodeCount : MethodName := ⟨RX9, "nodeCount", "()I"⟩
abbrev cX9_bodyCount : ByteArray := prog_11_method_3_code
def yX9_bodyCount : MethodName := ⟨RX9, "bodyCount", "()I"⟩
abbrev cX9_at : ByteArray := prog_11_method_4_code
def yX9_at : MethodName := ⟨RX9, "at", "(I)LSafePaths$Node;"⟩
abbrev cX9_bodyAt : ByteArray := prog_11_method_5_code
def yX9_bodyAt : MethodName := ⟨RX9, "bodyAt", "(I)LSafePaths$Body;"⟩
abbrev cX9_addNode : ByteArray := prog_11_method_6_code
def yX9_addNode : MethodName := ⟨RX9, "addNode", "(LSafePaths$Node;LSafePaths$Name;LSafePaths$Body;LSafePaths$Parted;Z)LSafePaths$Node;"⟩
abbrev cX9_addBody : ByteArray := prog_11_method_7_code
def yX9_addBody : MethodName := ⟨RX9, "addBody", "(JI)LSafePaths$Body;"⟩
abbrev cX9_childOf : ByteArray := prog_11_method_8_code
def yX9_childOf : MethodName := ⟨RX9, "childOf", "(LSafePaths$Node;LSafePaths$Name;)LSafePaths$Node;"⟩
abbrev cX9_reach : ByteArray := prog_11_method_9_code
def yX9_reach : MethodName := ⟨RX9, "reach", "(LSafePaths$Parted;Z)LSafePaths$Node;"⟩
abbrev cX9_isOutside : ByteArray := prog_11_method_10_code
def yX9_isOutside : MethodName := ⟨RX9, "isOutside", "(LSafePaths$Node;)Z"⟩
abbrev cX9_isUntouchedOutside : ByteArray := prog_11_method_11_code
def yX9_isUntouchedOutside : MethodName := ⟨RX9, "isUntouchedOutside", "()Z"⟩
abbrev cX9_isAllElseBelowRoot : ByteArray := prog_11_method_12_code
def yX9_isAllElseBelowRoot : MethodName := ⟨RX9, "isAllElseBelowRoot", "()Z"⟩
abbrev cX9_contentOf : ByteArray := prog_11_method_13_code
def yX9_contentOf : MethodName := ⟨RX9, "contentOf", "(LSafePaths$Node;)I"⟩
abbrev cX9_countIn : ByteArray := prog_11_method_14_code
def yX9_countIn : MethodName := ⟨RX9, "countIn", "(LSafePaths$Node;)I"⟩
abbrev cX9_countShut : ByteArray := prog_11_method_15_code
def yX9_countShut : MethodName := ⟨RX9, "countShut", "()I"⟩
abbrev cX9_countFilesWith : ByteArray := prog_11_method_16_code
def yX9_countFilesWith : MethodName := ⟨RX9, "countFilesWith", "(LSafePaths$Body;)I"⟩
def RX10 : String := "SafePaths$Walk"
def TX10 : u_T := fun k => match k with
  | 0 => ("SafePaths$Walk", "tree", "LSafePaths$Tree;", true)
  | 1 => ("SafePaths$Walk", "ahead", "Ljava/util/ArrayList;", true)
  | 2 => ("SafePaths$Walk", "folder", "LSafePaths$Node;", false)
  | 3 => ("SafePaths$Walk", "below", "I", false)
  | _ => ("SafePaths$Walk", "linksPassed", "I", false)
def tyX10 : Nat → FieldType := fun k => match k with
  | 0 => .object "SafePaths$Tree"
  | 1 => .object "java/util/ArrayList"
  | 2 => .object "SafePaths$Node"
  | 3 => .int
  | _ => .int
abbrev wsX100 : List Cond := u_ws RX10 TX10 5
theorem nmX10 : ∀ a, a < 5 → ∀ b, b < 5 → a ≠ b → (TX10 a).2.1 ≠ (TX10 b).2.1 := by decide +kernel
theorem tyX10_ok : ∀ k, k < 5 → parseFieldDescriptor (TX10 k).2.2.1 = some (tyX10 k) := by decide +kernel
abbrev cX10_init : ByteArray := prog_12_method_1_code
def yX10_init : MethodName := ⟨RX10, "<init>", "(LSafePaths$Tree;)V"⟩
abbrev cX10_goThrough : ByteArray := prog_12_method_2_code
def yX10_goThrough : MethodName := ⟨RX10, "goThrough", "(LSafePaths$Parted;LSafePaths$Node;I)I"⟩
abbrev cX10_begin : ByteArray := prog_12_method_3_code
def yX10_begin : MethodName := ⟨RX10, "begin", "(LSafePaths$Parted;LSafePaths$Node;)V"⟩
abbrev cX10_goUp : ByteArray := prog_12_method_4_code
def yX10_goUp : MethodName := ⟨RX10, "goUp", "()I"⟩
abbrev cX10_goTo : ByteArray := prog_12_method_5_code
def yX10_goTo : MethodName := ⟨RX10, "goTo", "(LSafePaths$Node;)I"⟩
def RX11 : String := "SafePaths"
def TX11 : u_T := fun k => match k with
  | 0 => ("SafePaths", "rules", "LSafePaths$Rules;", true)
  | 1 => ("SafePaths", "draft", "LSafePaths$Draft;", true)
  | 2 => ("SafePaths", "paths", "Ljava/util/ArrayList;", true)
  | 3 => ("SafePaths", "targets", "Ljava/util/ArrayList;", true)
  | 4 => ("SafePaths", "entries", "Ljava/util/ArrayList;", true)
  | 5 => ("SafePaths", "tree", "LSafePaths$Tree;", true)
  | 6 => ("SafePaths", "walk", "LSafePaths$Walk;", true)
  | 7 => ("SafePaths", "taking", "LSafePaths$Taking;", true)
  | _ => ("SafePaths", "listed", "I", false)
def tyX11 : Nat → FieldType := fun k => match k with
  | 0 => .object "SafePaths$Rules"
  | 1 => .object "SafePaths$Draft"
  | 2 => .object "java/util/ArrayList"
  | 3 => .object "java/util/ArrayList"
  | 4 => .object "java/util/ArrayList"
  | 5 => .object "SafePaths$Tree"
  | 6 => .object "SafePaths$Walk"
  | 7 => .object "SafePaths$Taking"
  | _ => .int
abbrev wsX110 : List Cond := u_ws RX11 TX11 9
theorem nmX11 : ∀ a, a < 9 → ∀ b, b < 9 → a ≠ b → (TX11 a).2.1 ≠ (TX11 b).2.1 := by decide +kernel
theorem tyX11_ok : ∀ k, k < 9 → parseFieldDescriptor (TX11 k).2.2.1 = some (tyX11 k) := by decide +kernel
abbrev cX11_init : ByteArray := prog_1_method_1_code
def yX11_init : MethodName := ⟨RX11, "<init>", "(I)V"⟩
abbrev cX11_put : ByteArray := prog_1_method_2_code
def yX11_put : MethodName := ⟨RX11, "put", "(I)I"⟩
abbrev cX11_path : ByteArray := prog_1_method_3_code
def yX11_path : MethodName := ⟨RX11, "path", "()I"⟩
abbrev cX11_part : ByteArray := prog_1_method_4_code
def yX11_part : MethodName := ⟨RX11, "part", "(III)I"⟩
abbrev cX11_meets : ByteArray := prog_1_method_5_code
def yX11_meets : MethodName := ⟨RX11, "meets", "(II)I"⟩
abbrev cX11_target : ByteArray := prog_1_method_6_code
def yX11_target : MethodName := ⟨RX11, "target", "()I"⟩
abbrev cX11_entry : ByteArray := prog_1_method_7_code
def yX11_entry : MethodName := ⟨RX11, "entry", "(IIIJ)I"⟩
abbrev cX11_take : ByteArray := prog_1_method_8_code
def yX11_take : MethodName := ⟨RX11, "take", "(I)I"⟩
abbrev cX11_dry : ByteArray := prog_1_method_9_code
def yX11_dry : MethodName := ⟨RX11, "dry", "(I)I"⟩
abbrev cX11_finish : ByteArray := prog_1_method_10_code
def yX11_finish : MethodName := ⟨RX11, "finish", "()I"⟩
abbrev cX11_limit : ByteArray := prog_1_method_11_code
def yX11_limit : MethodName := ⟨RX11, "limit", "(IJ)J"⟩
abbrev cX11_lead : ByteArray := prog_1_method_12_code
def yX11_lead : MethodName := ⟨RX11, "lead", "(I)I"⟩
abbrev cX11_find : ByteArray := prog_1_method_13_code
def yX11_find : MethodName := ⟨RX11, "find", "(I)I"⟩
abbrev cX11_node : ByteArray := prog_1_method_14_code
def yX11_node : MethodName := ⟨RX11, "node", "(II)I"⟩
abbrev cX11_name : ByteArray := prog_1_method_15_code
def yX11_name : MethodName := ⟨RX11, "name", "(II)I"⟩
abbrev cX11_body : ByteArray := prog_1_method_16_code
def yX11_body : MethodName := ⟨RX11, "body", "(II)J"⟩
abbrev cX11_inside : ByteArray := prog_1_method_17_code
def yX11_inside : MethodName := ⟨RX11, "inside", "()Z"⟩
abbrev cX11_told : ByteArray := prog_1_method_18_code
def yX11_told : MethodName := ⟨RX11, "told", "(I)I"⟩
abbrev cX11_judgeAsPath : ByteArray := prog_1_method_19_code
def yX11_judgeAsPath : MethodName := ⟨RX11, "judgeAsPath", "(Ljava/util/ArrayList;)I"⟩
abbrev cX11_earlierOf : ByteArray := prog_1_method_20_code
def yX11_earlierOf : MethodName := ⟨RX11, "earlierOf", "(II)I"⟩
abbrev cX11_judgeAsTarget : ByteArray := prog_1_method_21_code
def yX11_judgeAsTarget : MethodName := ⟨RX11, "judgeAsTarget", "()I"⟩
abbrev cX11_otherOf : ByteArray := prog_1_method_22_code
def yX11_otherOf : MethodName := ⟨RX11, "otherOf", "(IILSafePaths$Parted;)LSafePaths$Parted;"⟩
abbrev cX11_memberOf : ByteArray := prog_1_method_23_code
def yX11_memberOf : MethodName := ⟨RX11, "memberOf", "(Ljava/util/ArrayList;I)LSafePaths$Parted;"⟩
def RX12 : String := "SafePathsModel"
def TX12 : u_T := fun k => match k with
  | 0 => ("SafePathsModel", "rules", "I", true)
  | 1 => ("SafePathsModel", "draft", "[I", true)
  | 2 => ("SafePathsModel", "drafted", "I", false)
  | 3 => ("SafePathsModel", "nodes", "I", false)
  | 4 => ("SafePathsModel", "kind", "[I", true)
  | 5 => ("SafePathsModel", "isShut", "[Z", true)
  | 6 => ("SafePathsModel", "isDead", "[Z", true)
  | 7 => ("SafePathsModel", "isGone", "[Z", true)
  | 8 => ("SafePathsModel", "over", "[I", true)
  | 9 => ("SafePathsModel", "has", "[I", true)
  | 10 => ("SafePathsModel", "length", "[I", true)
  | 11 => ("SafePathsModel", "name", "[I", true)
  | 12 => ("SafePathsModel", "noted", "[I", true)
  | 13 => ("SafePathsModel", "notes", "I", false)
  | 14 => ("SafePathsModel", "bodies", "I", false)
  | 15 => ("SafePathsModel", "bodySize", "[J", true)
  | 16 => ("SafePathsModel", "bodyValue", "[I", true)
  | 17 => ("SafePathsModel", "paths", "I", false)
  | 18 => ("SafePathsModel", "parts", "[I", true)
  | 19 => ("SafePathsModel", "partLength", "[I", true)
  | 20 => ("SafePathsModel", "partByte", "[I", true)
  | 21 => ("SafePathsModel", "targets", "I", false)
  | 22 => ("SafePathsModel", "targetSize", "[I", true)
  | 23 => ("SafePathsModel", "targetByte", "[I", true)
  | 24 => ("SafePathsModel", "entries", "I", false)
  | 25 => ("SafePathsModel", "entryKind", "[I", true)
  | 26 => ("SafePathsModel", "entryPath", "[I", true)
  | 27 => ("SafePathsModel", "entryWith", "[I", true)
  | 28 => ("SafePathsModel", "entrySize", "[J", true)
  | 29 => ("SafePathsModel", "mostNodes", "J", false)
  | 30 => ("SafePathsModel", "mostSize", "J", false)
  | 31 => ("SafePathsModel", "made", "I", false)
  | 32 => ("SafePathsModel", "sizes", "J", false)
  | 33 => ("SafePathsModel", "listed", "I", false)
  | 34 => ("SafePathsModel", "word", "[I", true)
  | 35 => ("SafePathsModel", "wordSize", "I", false)
  | 36 => ("SafePathsModel", "pile", "[I", true)
  | 37 => ("SafePathsModel", "place", "[I", true)
  | 38 => ("SafePathsModel", "top", "I", false)
  | 39 => ("SafePathsModel", "walkFolder", "I", false)
  | 40 => ("SafePathsModel", "walkLack", "I", false)
  | _ => ("SafePathsModel", "walkThere", "I", false)
def tyX12 : Nat → FieldType := fun k => match k with
  | 0 => .int
  | 1 => .array .int
  | 2 => .int
  | 3 => .int
  | 4 => .array .int
  | 5 => .array .boolean
  | 6 => .array .boolean
  | 7 => .array .boolean
  | 8 => .array .int
  | 9 => .array .int
  | 10 => .array .int
  | 11 => .array .int
  | 12 => .array .int
  | 13 => .int
  | 14 => .int
  | 15 => .array .long
  | 16 => .array .int
  | 17 => .int
  | 18 => .array .int
  | 19 => .array .int
  | 20 => .array .int
  | 21 => .int
  | 22 => .array .int
  | 23 => .array .int
  | 24 => .int
  | 25 => .array .int
  | 26 => .array .int
  | 27 => .array .int
  | 28 => .array .long
  | 29 => .long
  | 30 => .long
  | 31 => .int
  | 32 => .long
  | 33 => .int
  | 34 => .array .int
  | 35 => .int
  | 36 => .array .int
  | 37 => .array .int
  | 38 => .int
  | 39 => .int
  | 40 => .int
  | _ => .int
abbrev wsX120 : List Cond := u_ws RX12 TX12 42
theorem nmX12 : ∀ a, a < 42 → ∀ b, b < 42 → a ≠ b → (TX12 a).2.1 ≠ (TX12 b).2.1 := by decide +kernel
theorem tyX12_ok : ∀ k, k < 42 → parseFieldDescriptor (TX12 k).2.2.1 = some (tyX12 k) := by decide +kernel
abbrev cX12_init : ByteArray := prog_14_method_1_code
def yX12_init : MethodName := ⟨RX12, "<init>", "(I)V"⟩
abbrev cX12_word3 : ByteArray := prog_14_method_2_code
def yX12_word3 : MethodName := ⟨RX12, "word3", "(III)V"⟩
abbrev cX12_add : ByteArray := prog_14_method_3_code
def yX12_add : MethodName := ⟨RX12, "add", "(II)I"⟩
abbrev cX12_hasRule : ByteArray := prog_14_method_4_code
def yX12_hasRule : MethodName := ⟨RX12, "hasRule", "(I)Z"⟩
abbrev cX12_isParting : ByteArray := prog_14_method_5_code
def yX12_isParting : MethodName := ⟨RX12, "isParting", "(I)Z"⟩
abbrev cX12_small : ByteArray := prog_14_method_6_code
def yX12_small : MethodName := ⟨RX12, "small", "(I)I"⟩
abbrev cX12_put : ByteArray := prog_14_method_7_code
def yX12_put : MethodName := ⟨RX12, "put", "(I)I"⟩
abbrev cX12_nextPart : ByteArray := prog_14_method_8_code
def yX12_nextPart : MethodName := ⟨RX12, "nextPart", "(II)I"⟩
abbrev cX12_isUp : ByteArray := prog_14_method_9_code
def yX12_isUp : MethodName := ⟨RX12, "isUp", "()Z"⟩
abbrev cX12_isLike : ByteArray := prog_14_method_10_code
def yX12_isLike : MethodName := ⟨RX12, "isLike", "(IIII)Z"⟩
abbrev cX12_isBad : ByteArray := prog_14_method_11_code
def yX12_isBad : MethodName := ⟨RX12, "isBad", "()Z"⟩
abbrev cX12_path : ByteArray := prog_14_method_12_code
def yX12_path : MethodName := ⟨RX12, "path", "()I"⟩
abbrev cX12_isPath : ByteArray := prog_14_method_13_code
def yX12_isPath : MethodName := ⟨RX12, "isPath", "(I)Z"⟩
abbrev cX12_part : ByteArray := prog_14_method_14_code
def yX12_part : MethodName := ⟨RX12, "part", "(III)I"⟩
abbrev cX12_meets : ByteArray := prog_14_method_15_code
def yX12_meets : MethodName := ⟨RX12, "meets", "(II)I"⟩
abbrev cX12_target : ByteArray := prog_14_method_16_code
def yX12_target : MethodName := ⟨RX12, "target", "()I"⟩
abbrev cX12_isNamed : ByteArray := prog_14_method_17_code
def yX12_isNamed : MethodName := ⟨RX12, "isNamed", "(IZ)Z"⟩
abbrev cX12_in : ByteArray := prog_14_method_18_code
def yX12_in : MethodName := ⟨RX12, "in", "(I)I"⟩
abbrev cX12_partWord : ByteArray := prog_14_method_19_code
def yX12_partWord : MethodName := ⟨RX12, "partWord", "(II)V"⟩
abbrev cX12_isInside : ByteArray := prog_14_method_20_code
def yX12_isInside : MethodName := ⟨RX12, "isInside", "(I)Z"⟩
abbrev cX12_nextWord : ByteArray := prog_14_method_21_code
def yX12_nextWord : MethodName := ⟨RX12, "nextWord", "()Z"⟩
abbrev cX12_isLeft : ByteArray := prog_14_method_22_code
def yX12_isLeft : MethodName := ⟨RX12, "isLeft", "()Z"⟩
abbrev cX12_startOf : ByteArray := prog_14_method_23_code
def yX12_startOf : MethodName := ⟨RX12, "startOf", "(II)I"⟩
abbrev cX12_leads : ByteArray := prog_14_method_24_code
def yX12_leads : MethodName := ⟨RX12, "leads", "(III)I"⟩
abbrev cX12_lead : ByteArray := prog_14_method_25_code
def yX12_lead : MethodName := ⟨RX12, "lead", "(I)I"⟩
abbrev cX12_entry : ByteArray := prog_14_method_26_code
def yX12_entry : MethodName := ⟨RX12, "entry", "(IIIJ)I"⟩
abbrev cX12_walk : ByteArray := prog_14_method_27_code
def yX12_walk : MethodName := ⟨RX12, "walk", "(IZ)I"⟩
abbrev cX12_fileAt : ByteArray := prog_14_method_28_code
def yX12_fileAt : MethodName := ⟨RX12, "fileAt", "(I)I"⟩
abbrev cX12_isThere : ByteArray := prog_14_method_29_code
def yX12_isThere : MethodName := ⟨RX12, "isThere", "(II)Z"⟩
abbrev cX12_takes : ByteArray := prog_14_method_30_code
def yX12_takes : MethodName := ⟨RX12, "takes", "(IZ)I"⟩
abbrev cX12_note : ByteArray := prog_14_method_31_code
def yX12_note : MethodName := ⟨RX12, "note", "(IIZ)V"⟩
abbrev cX12_comes : ByteArray := prog_14_method_32_code
def yX12_comes : MethodName := ⟨RX12, "comes", "(IIIIZI)I"⟩
abbrev cX12_isEntry : ByteArray := prog_14_method_33_code
def yX12_isEntry : MethodName := ⟨RX12, "isEntry", "(I)Z"⟩
abbrev cX12_take : ByteArray := prog_14_method_34_code
def yX12_take : MethodName := ⟨RX12, "take", "(I)I"⟩
abbrev cX12_dry : ByteArray := prog_14_method_35_code
def yX12_dry : MethodName := ⟨RX12, "dry", "(I)I"⟩
abbrev cX12_finish : ByteArray := prog_14_method_36_code
def yX12_finish : MethodName := ⟨RX12, "finish", "()I"⟩
abbrev cX12_limit : ByteArray := prog_14_method_37_code
def yX12_limit : MethodName := ⟨RX12, "limit", "(IJ)J"⟩
abbrev cX12_find : ByteArray := prog_14_method_38_code
def yX12_find : MethodName := ⟨RX12, "find", "(I)I"⟩
abbrev cX12_node : ByteArray := prog_14_method_39_code
def yX12_node : MethodName := ⟨RX12, "node", "(II)I"⟩
abbrev cX12_name : ByteArray := prog_14_method_40_code
def yX12_name : MethodName := ⟨RX12, "name", "(II)I"⟩
abbrev cX12_body : ByteArray := prog_14_method_41_code
def yX12_body : MethodName := ⟨RX12, "body", "(II)J"⟩
abbrev cX12_inside : ByteArray := prog_14_method_42_code
def yX12_inside : MethodName := ⟨RX12, "inside", "()Z"⟩
abbrev cX12_told : ByteArray := prog_14_method_43_code
def yX12_told : MethodName := ⟨RX12, "told", "(I)I"⟩
def RJx145de : String := "java/io/Serializable"
def RJ11 : String := "java/lang/Character"
abbrev cJ11_isValidCodePoint_9a6ad : ByteArray := prog_16_method_11_code
def yJ11_isValidCodePoint_9a6ad : MethodName := ⟨RJ11, "isValidCodePoint", "(I)Z"⟩
abbrev cJ11_highSurrogate_5068e : ByteArray := prog_16_method_28_code
def yJ11_highSurrogate_5068e : MethodName := ⟨RJ11, "highSurrogate", "(I)C"⟩
abbrev cJ11_lowSurrogate_5068e : ByteArray := prog_16_method_29_code
def yJ11_lowSurrogate_5068e : MethodName := ⟨RJ11, "lowSurrogate", "(I)C"⟩
def RJx8e188 : String := "java/lang/Cloneable"
def RJxab1ab : String := "java/lang/Iterable"
def RJ9 : String := "java/lang/Math"
abbrev cJ9_max_7cf53 : ByteArray := prog_19_method_65_code
def yJ9_max_7cf53 : MethodName := ⟨RJ9, "max", "(II)I"⟩
abbrev cJ9_min_7cf53 : ByteArray := prog_19_method_69_code
def yJ9_min_7cf53 : MethodName := ⟨RJ9, "min", "(II)I"⟩
def RJ0 : String := "java/lang/String"
abbrev cJ0_length_8abf5 : ByteArray := prog_20_method_54_code
def yJ0_length_8abf5 : MethodName := ⟨RJ0, "length", "()I"⟩
abbrev cJ0_charAt_5068e : ByteArray := prog_20_method_56_code
def yJ0_charAt_5068e : MethodName := ⟨RJ0, "charAt", "(I)C"⟩
abbrev cJ0_indexOf_0f7a4 : ByteArray := prog_20_method_79_code
def yJ0_indexOf_0f7a4 : MethodName := ⟨RJ0, "indexOf", "(I)I"⟩
abbrev cJ0_indexOf_7cf53 : ByteArray := prog_20_method_80_code
def yJ0_indexOf_7cf53 : MethodName := ⟨RJ0, "indexOf", "(II)I"⟩
abbrev cJ0_coder_7d493 : ByteArray := prog_20_method_152_code
def yJ0_coder_7d493 : MethodName := ⟨RJ0, "coder", "()B"⟩
abbrev cJ0_isLatin1_aae02 : ByteArray := prog_20_method_154_code
def yJ0_isLatin1_aae02 : MethodName := ⟨RJ0, "isLatin1", "()Z"⟩
abbrev cJ0_checkIndex_df160 : ByteArray := prog_20_method_155_code
def yJ0_checkIndex_df160 : MethodName := ⟨RJ0, "checkIndex", "(II)V"⟩
abbrev cJ0_checkBoundsBeginEnd_23922 : ByteArray := prog_20_method_158_code
def yJ0_checkBoundsBeginEnd_23922 : MethodName := ⟨RJ0, "checkBoundsBeginEnd", "(III)V"⟩
def RJ1 : String := "java/lang/StringLatin1"
abbrev cJ1_charAt_3b067 : ByteArray := prog_21_method_2_code
def yJ1_charAt_3b067 : MethodName := ⟨RJ1, "charAt", "([BI)C"⟩
abbrev cJ1_canEncode_9a6ad : ByteArray := prog_21_method_4_code
def yJ1_canEncode_9a6ad : MethodName := ⟨RJ1, "canEncode", "(I)Z"⟩
abbrev cJ1_indexOf_4cfef : ByteArray := prog_21_method_22_code
def yJ1_indexOf_4cfef : MethodName := ⟨RJ1, "indexOf", "([BIII)I"⟩
abbrev cJ1_indexOfChar_4cfef : ByteArray := prog_21_method_23_code
def yJ1_indexOfChar_4cfef : MethodName := ⟨RJ1, "indexOfChar", "([BIII)I"⟩
def RJ2 : String := "java/lang/StringUTF16"
abbrev cJ2_getChar_3b067 : ByteArray := prog_22_method_5_code
def yJ2_getChar_3b067 : MethodName := ⟨RJ2, "getChar", "([BI)C"⟩
abbrev cJ2_length_9d52b : ByteArray := prog_22_method_6_code
def yJ2_length_9d52b : MethodName := ⟨RJ2, "length", "([B)I"⟩
abbrev cJ2_indexOf_4cfef : ByteArray := prog_22_method_40_code
def yJ2_indexOf_4cfef : MethodName := ⟨RJ2, "indexOf", "([BIII)I"⟩
abbrev cJ2_indexOfChar_4cfef : ByteArray := prog_22_method_47_code
def yJ2_indexOfChar_4cfef : MethodName := ⟨RJ2, "indexOfChar", "([BIII)I"⟩
abbrev cJ2_indexOfCharUnsafe_4cfef : ByteArray := prog_22_method_48_code
def yJ2_indexOfCharUnsafe_4cfef : MethodName := ⟨RJ2, "indexOfCharUnsafe", "([BIII)I"⟩
abbrev cJ2_indexOfSupplementary_4cfef : ByteArray := prog_22_method_49_code
def yJ2_indexOfSupplementary_4cfef : MethodName := ⟨RJ2, "indexOfSupplementary", "([BIII)I"⟩
abbrev cJ2_charAt_3b067 : ByteArray := prog_22_method_83_code
def yJ2_charAt_3b067 : MethodName := ⟨RJ2, "charAt", "([BI)C"⟩
abbrev cJ2_checkIndex_2214a : ByteArray := prog_22_method_91_code
def yJ2_checkIndex_2214a : MethodName := ⟨RJ2, "checkIndex", "(I[B)V"⟩
abbrev cJ2_checkBoundsBeginEnd_d044e : ByteArray := prog_22_method_93_code
def yJ2_checkBoundsBeginEnd_d044e : MethodName := ⟨RJ2, "checkBoundsBeginEnd", "(II[B)V"⟩
def RJ10 : String := "java/lang/System"
def RJxa1e45 : String := "java/util/AbstractCollection"
abbrev cJxa1e45_init_da8c8 : ByteArray := prog_24_method_1_code
def yJxa1e45_init_da8c8 : MethodName := ⟨RJxa1e45, "<init>", "()V"⟩
def RJxc12de : String := "java/util/AbstractList"
abbrev cJxc12de_init_da8c8 : ByteArray := prog_25_method_1_code
def yJxc12de_init_da8c8 : MethodName := ⟨RJxc12de, "<init>", "()V"⟩
def RJx4a65c : String := "java/util/ArrayList"
def TJx4a65c : u_T := fun k => match k with
  | 0 => ("java/util/AbstractList", "modCount", "I", false)
  | 1 => ("java/util/ArrayList", "elementData", "[Ljava/lang/Object;", false)
  | _ => ("java/util/ArrayList", "size", "I", false)
def tyJx4a65c : Nat → FieldType := fun k => match k with
  | 0 => .int
  | 1 => .array (.object "java/lang/Object")
  | _ => .int
abbrev wsJx4a65c0 : List Cond := u_ws RJx4a65c TJx4a65c 3
theorem nmJx4a65c : ∀ a, a < 3 → ∀ b, b < 3 → a ≠ b → (TJx4a65c a).2.1 ≠ (TJx4a65c b).2.1 := by decide +kernel
theorem tyJx4a65c_ok : ∀ k, k < 3 → parseFieldDescriptor (TJx4a65c k).2.2.1 = some (tyJx4a65c k) := by decide +kernel
abbrev cJx4a65c_init_da8c8 : ByteArray := prog_26_method_2_code
def yJx4a65c_init_da8c8 : MethodName := ⟨RJx4a65c, "<init>", "()V"⟩
abbrev cJx4a65c_grow_92f84 : ByteArray := prog_26_method_6_code
def yJx4a65c_grow_92f84 : MethodName := ⟨RJx4a65c, "grow", "(I)[Ljava/lang/Object;"⟩
abbrev cJx4a65c_grow_d5877 : ByteArray := prog_26_method_7_code
def yJx4a65c_grow_d5877 : MethodName := ⟨RJx4a65c, "grow", "()[Ljava/lang/Object;"⟩
abbrev cJx4a65c_size_8abf5 : ByteArray := prog_26_method_8_code
def yJx4a65c_size_8abf5 : MethodName := ⟨RJx4a65c, "size", "()I"⟩
abbrev cJx4a65c_isEmpty_aae02 : ByteArray := prog_26_method_9_code
def yJx4a65c_isEmpty_aae02 : MethodName := ⟨RJx4a65c, "isEmpty", "()Z"⟩
abbrev cJx4a65c_elementData_915e3 : ByteArray := prog_26_method_18_code
def yJx4a65c_elementData_915e3 : MethodName := ⟨RJx4a65c, "elementData", "(I)Ljava/lang/Object;"⟩
abbrev cJx4a65c_get_915e3 : ByteArray := prog_26_method_20_code
def yJx4a65c_get_915e3 : MethodName := ⟨RJx4a65c, "get", "(I)Ljava/lang/Object;"⟩
abbrev cJx4a65c_add_72be8 : ByteArray := prog_26_method_24_code
def yJx4a65c_add_72be8 : MethodName := ⟨RJx4a65c, "add", "(Ljava/lang/Object;[Ljava/lang/Object;I)V"⟩
abbrev cJx4a65c_add_9ea2d : ByteArray := prog_26_method_25_code
def yJx4a65c_add_9ea2d : MethodName := ⟨RJx4a65c, "add", "(Ljava/lang/Object;)Z"⟩
abbrev cJx4a65c_remove_915e3 : ByteArray := prog_26_method_29_code
def yJx4a65c_remove_915e3 : MethodName := ⟨RJx4a65c, "remove", "(I)Ljava/lang/Object;"⟩
abbrev cJx4a65c_fastRemove_b59b0 : ByteArray := prog_26_method_39_code
def yJx4a65c_fastRemove_b59b0 : MethodName := ⟨RJx4a65c, "fastRemove", "([Ljava/lang/Object;I)V"⟩
abbrev cJx4a65c_clear_da8c8 : ByteArray := prog_26_method_40_code
def yJx4a65c_clear_da8c8 : MethodName := ⟨RJx4a65c, "clear", "()V"⟩
def RJ7 : String := "java/util/Arrays"
abbrev cJ7_copyOf_1904c : ByteArray := prog_27_method_119_code
def yJ7_copyOf_1904c : MethodName := ⟨RJ7, "copyOf", "([Ljava/lang/Object;I)[Ljava/lang/Object;"⟩
abbrev cJ7_copyOf_6403c : ByteArray := prog_27_method_120_code
def yJ7_copyOf_6403c : MethodName := ⟨RJ7, "copyOf", "([Ljava/lang/Object;ILjava/lang/Class;)[Ljava/lang/Object;"⟩
def RJx5ef63 : String := "java/util/Collection"
def RJxbd725 : String := "java/util/List"
def RJ15 : String := "java/util/Objects"
abbrev cJ15_checkIndex_7cf53 : ByteArray := prog_30_method_17_code
def yJ15_checkIndex_7cf53 : MethodName := ⟨RJ15, "checkIndex", "(II)I"⟩
def RJxf0a74 : String := "java/util/RandomAccess"
def RJxa66e6 : String := "java/util/SequencedCollection"
def RJ8 : String := "jdk/internal/util/ArraysSupport"
abbrev cJ8_newLength_cabcc : ByteArray := prog_33_method_27_code
def yJ8_newLength_cabcc : MethodName := ⟨RJ8, "newLength", "(III)I"⟩
abbrev cJ8_hugeLength_7cf53 : ByteArray := prog_33_method_28_code
def yJ8_hugeLength_7cf53 : MethodName := ⟨RJ8, "hugeLength", "(II)I"⟩
def RJ3 : String := "jdk/internal/util/Preconditions"
abbrev cJ3_checkIndex_8e157 : ByteArray := prog_34_method_11_code
def yJ3_checkIndex_8e157 : MethodName := ⟨RJ3, "checkIndex", "(IILjava/util/function/BiFunction;)I"⟩
abbrev cJ3_checkFromToIndex_8c36e : ByteArray := prog_34_method_12_code
def yJ3_checkFromToIndex_8c36e : MethodName := ⟨RJ3, "checkFromToIndex", "(IIILjava/util/function/BiFunction;)I"⟩
def RL : String := "SafePathsLaw"
abbrev cL_cell : ByteArray := method_2_code
def yL_cell : MethodName := ⟨RL, "cell", "([II)I"⟩
abbrev cL_law : ByteArray := code
def yL_law : MethodName := ⟨RL, "law", "([I)Z"⟩
abbrev vwCl : List vw_C := [(RJx4a65c, TJx4a65c, 3), (RX0, TX0, 3), (RX1, TX1, 2), (RX2, TX2, 5), (RX3, TX3, 2), (RX4, TX4, 8), (RX5, TX5, 2), (RX6, TX6, 4), (RX7, TX7, 6), (RX8, TX8, 14), (RX9, TX9, 7), (RX10, TX10, 5), (RX11, TX11, 9), (RX12, TX12, 42)]
end
section
theorem dX0_init_0 : decode cX0_init 0 = .ok (.aload_n 0, 1) := by decide +kernel
theorem dX0_init_1 : decode cX0_init 1 = .ok (.invokespecial 1, 3) := by decide +kernel
theorem dX0_init_4 : decode cX0_init 4 = .ok (.aload_n 0, 1) := by decide +kernel
theorem dX0_init_5 : decode cX0_init 5 = .ok (.iload_n 1, 1) := by decide +kernel
theorem dX0_init_6 : decode cX0_init 6 = .ok (.putfield 7, 3) := by decide +kernel
theorem dX0_init_9 : decode cX0_init 9 = .ok (.aload_n 0, 1) := by decide +kernel
theorem dX0_init_10 : decode cX0_init 10 = .ok (.lload_n 2, 1) := by decide +kernel
theorem dX0_init_11 : decode cX0_init 11 = .ok (.putfield 13, 3) := by decide +kernel
theorem dX0_init_14 : decode cX0_init 14 = .ok (.aload_n 0, 1) := by decide +kernel
theorem dX0_init_15 : decode cX0_init 15 = .ok (.iload 4, 2) := by decide +kernel
theorem dX0_init_17 : decode cX0_init 17 = .ok (.putfield 17, 3) := by decide +kernel
theorem dX0_init_20 : decode cX0_init 20 = .ok (.return_, 1) := by decide +kernel
theorem dX1_init_0 : decode cX1_init 0 = .ok (.aload_n 0, 1) := by decide +kernel
theorem dX1_init_1 : decode cX1_init 1 = .ok (.invokespecial 3, 3) := by decide +kernel
theorem dX1_init_4 : decode cX1_init 4 = .ok (.aload_n 0, 1) := by decide +kernel
theorem dX1_init_5 : decode cX1_init 5 = .ok (.sipush 160, 3) := by decide +kernel
theorem dX1_init_8 : decode cX1_init 8 = .ok (.newarray .int, 2) := by decide +kernel
theorem dX1_init_10 : decode cX1_init 10 = .ok (.putfield 9, 3) := by decide +kernel
theorem dX1_init_13 : decode cX1_init 13 = .ok (.aload_n 0, 1) := by decide +kernel
theorem dX1_init_14 : decode cX1_init 14 = .ok (.iconst 0, 1) := by decide +kernel
theorem dX1_init_15 : decode cX1_init 15 = .ok (.putfield 15, 3) := by decide +kernel
theorem dX1_init_18 : decode cX1_init 18 = .ok (.return_, 1) := by decide +kernel
theorem dX1_append_0 : decode cX1_append 0 = .ok (.aload_n 0, 1) := by decide +kernel
theorem dX1_append_1 : decode cX1_append 1 = .ok (.getfield 15, 3) := by decide +kernel
theorem dX1_append_4 : decode cX1_append 4 = .ok (.aload_n 0, 1) := by decide +kernel
theorem dX1_append_5 : decode cX1_append 5 = .ok (.getfield 9, 3) := by decide +kernel
theorem dX1_append_8 : decode cX1_append 8 = .ok (.arraylength, 1) := by decide +kernel
theorem dX1_append_9 : decode cX1_append 9 = .ok (.if_icmp .ge 14, 3) := by decide +kernel
theorem dX1_append_12 : decode cX1_append 12 = .ok (.iload_n 1, 1) := by decide +kernel
theorem dX1_append_13 : decode cX1_append 13 = .ok (.ifCond .lt 10, 3) := by decide +kernel
theorem dX1_append_16 : decode cX1_append 16 = .ok (.iload_n 1, 1) := by decide +kernel
theorem dX1_append_17 : decode cX1_append 17 = .ok (.sipush 255, 3) := by decide +kernel
theorem dX1_append_20 : decode cX1_append 20 = .ok (.if_icmp .le 6, 3) := by decide +kernel
theorem dX1_append_23 : decode cX1_append 23 = .ok (.bipush (-5), 2) := by decide +kernel
theorem dX1_append_25 : decode cX1_append 25 = .ok (.ireturn, 1) := by decide +kernel
theorem dX1_append_26 : decode cX1_append 26 = .ok (.aload_n 0, 1) := by decide +kernel
theorem dX1_append_27 : decode cX1_append 27 = .ok (.getfield 9, 3) := by decide +kernel
theorem dX1_append_30 : decode cX1_append 30 = .ok (.aload_n 0, 1) := by decide +kernel
theorem dX1_append_31 : decode cX1_append 31 = .ok (.getfield 15, 3) := by decide +kernel
theorem dX1_append_34 : decode cX1_append 34 = .ok (.iload_n 1, 1) := by decide +kernel
theorem dX1_append_35 : decode cX1_append 35 = .ok (.iastore, 1) := by decide +kernel
theorem dX1_append_36 : decode cX1_append 36 = .ok (.aload_n 0, 1) := by decide +kernel
theorem dX1_append_37 : decode cX1_append 37 = .ok (.dup, 1) := by decide +kernel
theorem dX1_append_38 : decode cX1_append 38 = .ok (.getfield 15, 3) := by decide +kernel
theorem dX1_append_41 : decode cX1_append 41 = .ok (.iconst 1, 1) := by decide +kernel
theorem dX1_append_42 : decode cX1_append 42 = .ok (.iadd, 1) := by decide +kernel
theorem dX1_append_43 : decode cX1_append 43 = .ok (.putfield 15, 3) := by decide +kernel
theorem dX1_append_46 : decode cX1_append 46 = .ok (.aload_n 0, 1) := by decide +kernel
theorem dX1_append_47 : decode cX1_append 47 = .ok (.getfield 15, 3) := by decide +kernel
theorem dX1_append_50 : decode cX1_append 50 = .ok (.ireturn, 1) := by decide +kernel
theorem dX1_clear_0 : decode cX1_clear 0 = .ok (.aload_n 0, 1) := by decide +kernel
theorem dX1_clear_1 : decode cX1_clear 1 = .ok (.iconst 0, 1) := by decide +kernel
theorem dX1_clear_2 : decode cX1_clear 2 = .ok (.putfield 15, 3) := by decide +kernel
theorem dX1_clear_5 : decode cX1_clear 5 = .ok (.return_, 1) := by decide +kernel
theorem dX1_length_0 : decode cX1_length 0 = .ok (.aload_n 0, 1) := by decide +kernel
theorem dX1_length_1 : decode cX1_length 1 = .ok (.getfield 15, 3) := by decide +kernel
theorem dX1_length_4 : decode cX1_length 4 = .ok (.ireturn, 1) := by decide +kernel
theorem dX1_beginsWithDivider_0 : decode cX1_beginsWithDivider 0 = .ok (.aload_n 0, 1) := by decide +kernel
theorem dX1_beginsWithDivider_1 : decode cX1_beginsWithDivider 1 = .ok (.getfield 15, 3) := by decide +kernel
theorem dX1_beginsWithDivider_4 : decode cX1_beginsWithDivider 4 = .ok (.ifCond .le 20, 3) := by decide +kernel
theorem dX1_beginsWithDivider_7 : decode cX1_beginsWithDivider 7 = .ok (.aload_n 1, 1) := by decide +kernel
theorem dX1_beginsWithDivider_8 : decode cX1_beginsWithDivider 8 = .ok (.aload_n 0, 1) := by decide +kernel
theorem dX1_beginsWithDivider_9 : decode cX1_beginsWithDivider 9 = .ok (.getfield 9, 3) := by decide +kernel
theorem dX1_beginsWithDivider_12 : decode cX1_beginsWithDivider 12 = .ok (.iconst 0, 1) := by decide +kernel
theorem dX1_beginsWithDivider_13 : decode cX1_beginsWithDivider 13 = .ok (.iaload, 1) := by decide +kernel
theorem dX1_beginsWithDivider_14 : decode cX1_beginsWithDivider 14 = .ok (.invokevirtual 19, 3) := by decide +kernel
theorem dX1_beginsWithDivider_17 : decode cX1_beginsWithDivider 17 = .ok (.ifCond .eq 7, 3) := by decide +kernel
theorem dX1_beginsWithDivider_20 : decode cX1_beginsWithDivider 20 = .ok (.iconst 1, 1) := by decide +kernel
theorem dX1_beginsWithDivider_21 : decode cX1_beginsWithDivider 21 = .ok (.goto 4, 3) := by decide +kernel
theorem dX1_beginsWithDivider_24 : decode cX1_beginsWithDivider 24 = .ok (.iconst 0, 1) := by decide +kernel
theorem dX1_beginsWithDivider_25 : decode cX1_beginsWithDivider 25 = .ok (.ireturn, 1) := by decide +kernel
theorem dX1_beginsWithDrive_0 : decode cX1_beginsWithDrive 0 = .ok (.aload_n 0, 1) := by decide +kernel
theorem dX1_beginsWithDrive_1 : decode cX1_beginsWithDrive 1 = .ok (.getfield 15, 3) := by decide +kernel
theorem dX1_beginsWithDrive_4 : decode cX1_beginsWithDrive 4 = .ok (.iconst 2, 1) := by decide +kernel
theorem dX1_beginsWithDrive_5 : decode cX1_beginsWithDrive 5 = .ok (.if_icmp .lt 14, 3) := by decide +kernel
theorem dX1_beginsWithDrive_8 : decode cX1_beginsWithDrive 8 = .ok (.aload_n 0, 1) := by decide +kernel
theorem dX1_beginsWithDrive_9 : decode cX1_beginsWithDrive 9 = .ok (.getfield 9, 3) := by decide +kernel
theorem dX1_beginsWithDrive_12 : decode cX1_beginsWithDrive 12 = .ok (.iconst 1, 1) := by decide +kernel
theorem dX1_beginsWithDrive_13 : decode cX1_beginsWithDrive 13 = .ok (.iaload, 1) := by decide +kernel
theorem dX1_beginsWithDrive_14 : decode cX1_beginsWithDrive 14 = .ok (.bipush 58, 2) := by decide +kernel
theorem dX1_beginsWithDrive_16 : decode cX1_beginsWithDrive 16 = .ok (.if_icmp .eq 5, 3) := by decide +kernel
theorem dX1_beginsWithDrive_19 : decode cX1_beginsWithDrive 19 = .ok (.iconst 0, 1) := by decide +kernel
theorem dX1_beginsWithDrive_20 : decode cX1_beginsWithDrive 20 = .ok (.ireturn, 1) := by decide +kernel
theorem dX1_beginsWithDrive_21 : decode cX1_beginsWithDrive 21 = .ok (.aload_n 0, 1) := by decide +kernel
theorem dX1_beginsWithDrive_22 : decode cX1_beginsWithDrive 22 = .ok (.getfield 9, 3) := by decide +kernel
theorem dX1_beginsWithDrive_25 : decode cX1_beginsWithDrive 25 = .ok (.iconst 0, 1) := by decide +kernel
theorem dX1_beginsWithDrive_26 : decode cX1_beginsWithDrive 26 = .ok (.iaload, 1) := by decide +kernel
theorem dX1_beginsWithDrive_27 : decode cX1_beginsWithDrive 27 = .ok (.istore_n 1, 1) := by decide +kernel
theorem dX1_beginsWithDrive_28 : decode cX1_beginsWithDrive 28 = .ok (.iload_n 1, 1) := by decide +kernel
theorem dX1_beginsWithDrive_29 : decode cX1_beginsWithDrive 29 = .ok (.bipush 65, 2) := by decide +kernel
theorem dX1_beginsWithDrive_31 : decode cX1_beginsWithDrive 31 = .ok (.if_icmp .lt 9, 3) := by decide +kernel
theorem dX1_beginsWithDrive_34 : decode cX1_beginsWithDrive 34 = .ok (.iload_n 1, 1) := by decide +kernel
theorem dX1_beginsWithDrive_35 : decode cX1_beginsWithDrive 35 = .ok (.bipush 90, 2) := by decide +kernel
theorem dX1_beginsWithDrive_37 : decode cX1_beginsWithDrive 37 = .ok (.if_icmp .le 15, 3) := by decide +kernel
theorem dX1_beginsWithDrive_40 : decode cX1_beginsWithDrive 40 = .ok (.iload_n 1, 1) := by decide +kernel
theorem dX1_beginsWithDrive_41 : decode cX1_beginsWithDrive 41 = .ok (.bipush 97, 2) := by decide +kernel
theorem dX1_beginsWithDrive_43 : decode cX1_beginsWithDrive 43 = .ok (.if_icmp .lt 13, 3) := by decide +kernel
theorem dX1_beginsWithDrive_46 : decode cX1_beginsWithDrive 46 = .ok (.iload_n 1, 1) := by decide +kernel
theorem dX1_beginsWithDrive_47 : decode cX1_beginsWithDrive 47 = .ok (.bipush 122, 2) := by decide +kernel
theorem dX1_beginsWithDrive_49 : decode cX1_beginsWithDrive 49 = .ok (.if_icmp .gt 7, 3) := by decide +kernel
theorem dX1_beginsWithDrive_52 : decode cX1_beginsWithDrive 52 = .ok (.iconst 1, 1) := by decide +kernel
theorem dX1_beginsWithDrive_53 : decode cX1_beginsWithDrive 53 = .ok (.goto 4, 3) := by decide +kernel
theorem dX1_beginsWithDrive_56 : decode cX1_beginsWithDrive 56 = .ok (.iconst 0, 1) := by decide +kernel
theorem dX1_beginsWithDrive_57 : decode cX1_beginsWithDrive 57 = .ok (.ireturn, 1) := by decide +kernel
theorem dX1_cut_0 : decode cX1_cut 0 = .ok (.new 25, 3) := by decide +kernel
theorem dX1_cut_3 : decode cX1_cut 3 = .ok (.dup, 1) := by decide +kernel
theorem dX1_cut_4 : decode cX1_cut 4 = .ok (.invokespecial 27, 3) := by decide +kernel
theorem dX1_cut_7 : decode cX1_cut 7 = .ok (.astore_n 2, 1) := by decide +kernel
theorem dX1_cut_8 : decode cX1_cut 8 = .ok (.iconst 0, 1) := by decide +kernel
theorem dX1_cut_9 : decode cX1_cut 9 = .ok (.istore_n 3, 1) := by decide +kernel
theorem dX1_cut_10 : decode cX1_cut 10 = .ok (.iconst 0, 1) := by decide +kernel
theorem dX1_cut_11 : decode cX1_cut 11 = .ok (.istore 4, 2) := by decide +kernel
theorem dX1_cut_13 : decode cX1_cut 13 = .ok (.iload 4, 2) := by decide +kernel
theorem dX1_cut_15 : decode cX1_cut 15 = .ok (.aload_n 0, 1) := by decide +kernel
theorem dX1_cut_16 : decode cX1_cut 16 = .ok (.getfield 15, 3) := by decide +kernel
theorem dX1_cut_19 : decode cX1_cut 19 = .ok (.if_icmp .gt 45, 3) := by decide +kernel
theorem dX1_cut_22 : decode cX1_cut 22 = .ok (.iload 4, 2) := by decide +kernel
theorem dX1_cut_24 : decode cX1_cut 24 = .ok (.aload_n 0, 1) := by decide +kernel
theorem dX1_cut_25 : decode cX1_cut 25 = .ok (.getfield 15, 3) := by decide +kernel
theorem dX1_cut_28 : decode cX1_cut 28 = .ok (.if_icmp .eq 17, 3) := by decide +kernel
theorem dX1_cut_31 : decode cX1_cut 31 = .ok (.aload_n 1, 1) := by decide +kernel
theorem dX1_cut_32 : decode cX1_cut 32 = .ok (.aload_n 0, 1) := by decide +kernel
theorem dX1_cut_33 : decode cX1_cut 33 = .ok (.getfield 9, 3) := by decide +kernel
theorem dX1_cut_36 : decode cX1_cut 36 = .ok (.iload 4, 2) := by decide +kernel
theorem dX1_cut_38 : decode cX1_cut 38 = .ok (.iaload, 1) := by decide +kernel
theorem dX1_cut_39 : decode cX1_cut 39 = .ok (.invokevirtual 19, 3) := by decide +kernel
theorem dX1_cut_42 : decode cX1_cut 42 = .ok (.ifCond .eq 16, 3) := by decide +kernel
theorem dX1_cut_45 : decode cX1_cut 45 = .ok (.aload_n 0, 1) := by decide +kernel
theorem dX1_cut_46 : decode cX1_cut 46 = .ok (.aload_n 2, 1) := by decide +kernel
theorem dX1_cut_47 : decode cX1_cut 47 = .ok (.iload_n 3, 1) := by decide +kernel
theorem dX1_cut_48 : decode cX1_cut 48 = .ok (.iload 4, 2) := by decide +kernel
theorem dX1_cut_50 : decode cX1_cut 50 = .ok (.invokevirtual 28, 3) := by decide +kernel
theorem dX1_cut_53 : decode cX1_cut 53 = .ok (.iload 4, 2) := by decide +kernel
theorem dX1_cut_55 : decode cX1_cut 55 = .ok (.iconst 1, 1) := by decide +kernel
theorem dX1_cut_56 : decode cX1_cut 56 = .ok (.iadd, 1) := by decide +kernel
theorem dX1_cut_57 : decode cX1_cut 57 = .ok (.istore_n 3, 1) := by decide +kernel
theorem dX1_cut_58 : decode cX1_cut 58 = .ok (.iinc 4 1, 3) := by decide +kernel
theorem dX1_cut_61 : decode cX1_cut 61 = .ok (.goto (-48), 3) := by decide +kernel
theorem dX1_cut_64 : decode cX1_cut 64 = .ok (.aload_n 2, 1) := by decide +kernel
theorem dX1_cut_65 : decode cX1_cut 65 = .ok (.areturn, 1) := by decide +kernel
theorem dX1_addUnlessPassedOver_0 : decode cX1_addUnlessPassedOver 0 = .ok (.iload_n 2, 1) := by decide +kernel
theorem dX1_addUnlessPassedOver_1 : decode cX1_addUnlessPassedOver 1 = .ok (.iload_n 3, 1) := by decide +kernel
theorem dX1_addUnlessPassedOver_2 : decode cX1_addUnlessPassedOver 2 = .ok (.if_icmp .lt 4, 3) := by decide +kernel
theorem dX1_addUnlessPassedOver_5 : decode cX1_addUnlessPassedOver 5 = .ok (.return_, 1) := by decide +kernel
theorem dX1_addUnlessPassedOver_6 : decode cX1_addUnlessPassedOver 6 = .ok (.new 32, 3) := by decide +kernel
theorem dX1_addUnlessPassedOver_9 : decode cX1_addUnlessPassedOver 9 = .ok (.dup, 1) := by decide +kernel
theorem dX1_addUnlessPassedOver_10 : decode cX1_addUnlessPassedOver 10 = .ok (.aload_n 0, 1) := by decide +kernel
theorem dX1_addUnlessPassedOver_11 : decode cX1_addUnlessPassedOver 11 = .ok (.getfield 9, 3) := by decide +kernel
theorem dX1_addUnlessPassedOver_14 : decode cX1_addUnlessPassedOver 14 = .ok (.iload_n 2, 1) := by decide +kernel
theorem dX1_addUnlessPassedOver_15 : decode cX1_addUnlessPassedOver 15 = .ok (.iload_n 3, 1) := by decide +kernel
theorem dX1_addUnlessPassedOver_16 : decode cX1_addUnlessPassedOver 16 = .ok (.invokespecial 34, 3) := by decide +kernel
theorem dX1_addUnlessPassedOver_19 : decode cX1_addUnlessPassedOver 19 = .ok (.astore 4, 2) := by decide +kernel
theorem dX1_addUnlessPassedOver_21 : decode cX1_addUnlessPassedOver 21 = .ok (.aload 4, 2) := by decide +kernel
theorem dX1_addUnlessPassedOver_23 : decode cX1_addUnlessPassedOver 23 = .ok (.invokevirtual 37, 3) := by decide +kernel
theorem dX1_addUnlessPassedOver_26 : decode cX1_addUnlessPassedOver 26 = .ok (.ifCond .ne 10, 3) := by decide +kernel
theorem dX1_addUnlessPassedOver_29 : decode cX1_addUnlessPassedOver 29 = .ok (.aload_n 1, 1) := by decide +kernel
theorem dX1_addUnlessPassedOver_30 : decode cX1_addUnlessPassedOver 30 = .ok (.aload 4, 2) := by decide +kernel
theorem dX1_addUnlessPassedOver_32 : decode cX1_addUnlessPassedOver 32 = .ok (.invokevirtual 41, 3) := by decide +kernel
theorem dX1_addUnlessPassedOver_35 : decode cX1_addUnlessPassedOver 35 = .ok (.pop, 1) := by decide +kernel
theorem dX1_addUnlessPassedOver_36 : decode cX1_addUnlessPassedOver 36 = .ok (.return_, 1) := by decide +kernel
theorem dX2_init_0 : decode cX2_init 0 = .ok (.aload_n 0, 1) := by decide +kernel
theorem dX2_init_1 : decode cX2_init 1 = .ok (.invokespecial 1, 3) := by decide +kernel
theorem dX2_init_4 : decode cX2_init 4 = .ok (.aload_n 0, 1) := by decide +kernel
theorem dX2_init_5 : decode cX2_init 5 = .ok (.iload_n 1, 1) := by decide +kernel
theorem dX2_init_6 : decode cX2_init 6 = .ok (.putfield 7, 3) := by decide +kernel
theorem dX2_init_9 : decode cX2_init 9 = .ok (.aload_n 0, 1) := by decide +kernel
theorem dX2_init_10 : decode cX2_init 10 = .ok (.aload_n 2, 1) := by decide +kernel
theorem dX2_init_11 : decode cX2_init 11 = .ok (.putfield 13, 3) := by decide +kernel
theorem dX2_init_14 : decode cX2_init 14 = .ok (.aload_n 0, 1) := by decide +kernel
theorem dX2_init_15 : decode cX2_init 15 = .ok (.aload_n 3, 1) := by decide +kernel
theorem dX2_init_16 : decode cX2_init 16 = .ok (.putfield 17, 3) := by decide +kernel
theorem dX2_init_19 : decode cX2_init 19 = .ok (.aload_n 0, 1) := by decide +kernel
theorem dX2_init_20 : decode cX2_init 20 = .ok (.iload 4, 2) := by decide +kernel
theorem dX2_init_22 : decode cX2_init 22 = .ok (.putfield 20, 3) := by decide +kernel
theorem dX2_init_25 : decode cX2_init 25 = .ok (.aload_n 0, 1) := by decide +kernel
theorem dX2_init_26 : decode cX2_init 26 = .ok (.lload 5, 2) := by decide +kernel
theorem dX2_init_28 : decode cX2_init 28 = .ok (.putfield 23, 3) := by decide +kernel
theorem dX2_init_31 : decode cX2_init 31 = .ok (.return_, 1) := by decide +kernel
theorem dX3_init_0 : decode cX3_init 0 = .ok (.aload_n 0, 1) := by decide +kernel
theorem dX3_init_1 : decode cX3_init 1 = .ok (.invokespecial 3, 3) := by decide +kernel
theorem dX3_init_4 : decode cX3_init 4 = .ok (.iload_n 2, 1) := by decide +kernel
theorem dX3_init_5 : decode cX3_init 5 = .ok (.iconst 0, 1) := by decide +kernel
theorem dX3_init_6 : decode cX3_init 6 = .ok (.invokestatic 9, 3) := by decide +kernel
theorem dX3_init_9 : decode cX3_init 9 = .ok (.istore 4, 2) := by decide +kernel
theorem dX3_init_11 : decode cX3_init 11 = .ok (.iload_n 3, 1) := by decide +kernel
theorem dX3_init_12 : decode cX3_init 12 = .ok (.aload_n 1, 1) := by decide +kernel
theorem dX3_init_13 : decode cX3_init 13 = .ok (.arraylength, 1) := by decide +kernel
theorem dX3_init_14 : decode cX3_init 14 = .ok (.invokestatic 15, 3) := by decide +kernel
theorem dX3_init_17 : decode cX3_init 17 = .ok (.istore 5, 2) := by decide +kernel
theorem dX3_init_19 : decode cX3_init 19 = .ok (.iload 5, 2) := by decide +kernel
theorem dX3_init_21 : decode cX3_init 21 = .ok (.iload 4, 2) := by decide +kernel
theorem dX3_init_23 : decode cX3_init 23 = .ok (.isub, 1) := by decide +kernel
theorem dX3_init_24 : decode cX3_init 24 = .ok (.iconst 0, 1) := by decide +kernel
theorem dX3_init_25 : decode cX3_init 25 = .ok (.invokestatic 9, 3) := by decide +kernel
theorem dX3_init_28 : decode cX3_init 28 = .ok (.istore 6, 2) := by decide +kernel
theorem dX3_init_30 : decode cX3_init 30 = .ok (.aload_n 0, 1) := by decide +kernel
theorem dX3_init_31 : decode cX3_init 31 = .ok (.iload 6, 2) := by decide +kernel
theorem dX3_init_33 : decode cX3_init 33 = .ok (.newarray .int, 2) := by decide +kernel
theorem dX3_init_35 : decode cX3_init 35 = .ok (.putfield 18, 3) := by decide +kernel
theorem dX3_init_38 : decode cX3_init 38 = .ok (.aload_n 0, 1) := by decide +kernel
theorem dX3_init_39 : decode cX3_init 39 = .ok (.iload 6, 2) := by decide +kernel
theorem dX3_init_41 : decode cX3_init 41 = .ok (.newarray .int, 2) := by decide +kernel
theorem dX3_init_43 : decode cX3_init 43 = .ok (.putfield 24, 3) := by decide +kernel
theorem dX3_init_46 : decode cX3_init 46 = .ok (.iconst 0, 1) := by decide +kernel
theorem dX3_init_47 : decode cX3_init 47 = .ok (.istore 7, 2) := by decide +kernel
theorem dX3_init_49 : decode cX3_init 49 = .ok (.iload 7, 2) := by decide +kernel
theorem dX3_init_51 : decode cX3_init 51 = .ok (.iload 6, 2) := by decide +kernel
theorem dX3_init_53 : decode cX3_init 53 = .ok (.if_icmp .ge 40, 3) := by decide +kernel
theorem dX3_init_56 : decode cX3_init 56 = .ok (.aload_n 0, 1) := by decide +kernel
theorem dX3_init_57 : decode cX3_init 57 = .ok (.getfield 18, 3) := by decide +kernel
theorem dX3_init_60 : decode cX3_init 60 = .ok (.iload 7, 2) := by decide +kernel
theorem dX3_init_62 : decode cX3_init 62 = .ok (.aload_n 1, 1) := by decide +kernel
theorem dX3_init_63 : decode cX3_init 63 = .ok (.iload 4, 2) := by decide +kernel
theorem dX3_init_65 : decode cX3_init 65 = .ok (.iload 7, 2) := by decide +kernel
theorem dX3_init_67 : decode cX3_init 67 = .ok (.iadd, 1) := by decide +kernel
theorem dX3_init_68 : decode cX3_init 68 = .ok (.iaload, 1) := by decide +kernel
theorem dX3_init_69 : decode cX3_init 69 = .ok (.iastore, 1) := by decide +kernel
theorem dX3_init_70 : decode cX3_init 70 = .ok (.aload_n 0, 1) := by decide +kernel
theorem dX3_init_71 : decode cX3_init 71 = .ok (.getfield 24, 3) := by decide +kernel
theorem dX3_init_74 : decode cX3_init 74 = .ok (.iload 7, 2) := by decide +kernel
theorem dX3_init_76 : decode cX3_init 76 = .ok (.aload_n 0, 1) := by decide +kernel
theorem dX3_init_77 : decode cX3_init 77 = .ok (.getfield 18, 3) := by decide +kernel
theorem dX3_init_80 : decode cX3_init 80 = .ok (.iload 7, 2) := by decide +kernel
theorem dX3_init_82 : decode cX3_init 82 = .ok (.iaload, 1) := by decide +kernel
theorem dX3_init_83 : decode cX3_init 83 = .ok (.invokestatic 27, 3) := by decide +kernel
theorem dX3_init_86 : decode cX3_init 86 = .ok (.iastore, 1) := by decide +kernel
theorem dX3_init_87 : decode cX3_init 87 = .ok (.iinc 7 1, 3) := by decide +kernel
theorem dX3_init_90 : decode cX3_init 90 = .ok (.goto (-41), 3) := by decide +kernel
theorem dX3_init_93 : decode cX3_init 93 = .ok (.return_, 1) := by decide +kernel
theorem dX3_smallLetter_0 : decode cX3_smallLetter 0 = .ok (.iload_n 0, 1) := by decide +kernel
theorem dX3_smallLetter_1 : decode cX3_smallLetter 1 = .ok (.bipush 65, 2) := by decide +kernel
theorem dX3_smallLetter_3 : decode cX3_smallLetter 3 = .ok (.if_icmp .lt 16, 3) := by decide +kernel
theorem dX3_smallLetter_6 : decode cX3_smallLetter 6 = .ok (.iload_n 0, 1) := by decide +kernel
theorem dX3_smallLetter_7 : decode cX3_smallLetter 7 = .ok (.bipush 90, 2) := by decide +kernel
theorem dX3_smallLetter_9 : decode cX3_smallLetter 9 = .ok (.if_icmp .gt 10, 3) := by decide +kernel
theorem dX3_smallLetter_12 : decode cX3_smallLetter 12 = .ok (.iload_n 0, 1) := by decide +kernel
theorem dX3_smallLetter_13 : decode cX3_smallLetter 13 = .ok (.bipush 32, 2) := by decide +kernel
theorem dX3_smallLetter_15 : decode cX3_smallLetter 15 = .ok (.iadd, 1) := by decide +kernel
theorem dX3_smallLetter_16 : decode cX3_smallLetter 16 = .ok (.goto 4, 3) := by decide +kernel
theorem dX3_smallLetter_19 : decode cX3_smallLetter 19 = .ok (.iload_n 0, 1) := by decide +kernel
theorem dX3_smallLetter_20 : decode cX3_smallLetter 20 = .ok (.ireturn, 1) := by decide +kernel
theorem dX3_length_0 : decode cX3_length 0 = .ok (.aload_n 0, 1) := by decide +kernel
theorem dX3_length_1 : decode cX3_length 1 = .ok (.getfield 18, 3) := by decide +kernel
theorem dX3_length_4 : decode cX3_length 4 = .ok (.arraylength, 1) := by decide +kernel
theorem dX3_length_5 : decode cX3_length 5 = .ok (.ireturn, 1) := by decide +kernel
theorem dX3_byteAt_0 : decode cX3_byteAt 0 = .ok (.iload_n 1, 1) := by decide +kernel
theorem dX3_byteAt_1 : decode cX3_byteAt 1 = .ok (.ifCond .lt 21, 3) := by decide +kernel
theorem dX3_byteAt_4 : decode cX3_byteAt 4 = .ok (.iload_n 1, 1) := by decide +kernel
theorem dX3_byteAt_5 : decode cX3_byteAt 5 = .ok (.aload_n 0, 1) := by decide +kernel
theorem dX3_byteAt_6 : decode cX3_byteAt 6 = .ok (.getfield 18, 3) := by decide +kernel
theorem dX3_byteAt_9 : decode cX3_byteAt 9 = .ok (.arraylength, 1) := by decide +kernel
theorem dX3_byteAt_10 : decode cX3_byteAt 10 = .ok (.if_icmp .ge 12, 3) := by decide +kernel
theorem dX3_byteAt_13 : decode cX3_byteAt 13 = .ok (.aload_n 0, 1) := by decide +kernel
theorem dX3_byteAt_14 : decode cX3_byteAt 14 = .ok (.getfield 18, 3) := by decide +kernel
theorem dX3_byteAt_17 : decode cX3_byteAt 17 = .ok (.iload_n 1, 1) := by decide +kernel
theorem dX3_byteAt_18 : decode cX3_byteAt 18 = .ok (.iaload, 1) := by decide +kernel
theorem dX3_byteAt_19 : decode cX3_byteAt 19 = .ok (.goto 4, 3) := by decide +kernel
theorem dX3_byteAt_22 : decode cX3_byteAt 22 = .ok (.iconst (-1), 1) := by decide +kernel
theorem dX3_byteAt_23 : decode cX3_byteAt 23 = .ok (.ireturn, 1) := by decide +kernel
theorem dX3_isSameAs_0 : decode cX3_isSameAs 0 = .ok (.aload_n 0, 1) := by decide +kernel
theorem dX3_isSameAs_1 : decode cX3_isSameAs 1 = .ok (.getfield 18, 3) := by decide +kernel
theorem dX3_isSameAs_4 : decode cX3_isSameAs 4 = .ok (.aload_n 1, 1) := by decide +kernel
theorem dX3_isSameAs_5 : decode cX3_isSameAs 5 = .ok (.getfield 18, 3) := by decide +kernel
theorem dX3_isSameAs_8 : decode cX3_isSameAs 8 = .ok (.invokestatic 31, 3) := by decide +kernel
theorem dX3_isSameAs_11 : decode cX3_isSameAs 11 = .ok (.ireturn, 1) := by decide +kernel
theorem dX3_isAlike_0 : decode cX3_isAlike 0 = .ok (.aload_n 0, 1) := by decide +kernel
theorem dX3_isAlike_1 : decode cX3_isAlike 1 = .ok (.getfield 24, 3) := by decide +kernel
theorem dX3_isAlike_4 : decode cX3_isAlike 4 = .ok (.aload_n 1, 1) := by decide +kernel
theorem dX3_isAlike_5 : decode cX3_isAlike 5 = .ok (.getfield 24, 3) := by decide +kernel
theorem dX3_isAlike_8 : decode cX3_isAlike 8 = .ok (.invokestatic 31, 3) := by decide +kernel
theorem dX3_isAlike_11 : decode cX3_isAlike 11 = .ok (.ireturn, 1) := by decide +kernel
theorem dX3_isEqual_0 : decode cX3_isEqual 0 = .ok (.aload_n 0, 1) := by decide +kernel
theorem dX3_isEqual_1 : decode cX3_isEqual 1 = .ok (.arraylength, 1) := by decide +kernel
theorem dX3_isEqual_2 : decode cX3_isEqual 2 = .ok (.aload_n 1, 1) := by decide +kernel
theorem dX3_isEqual_3 : decode cX3_isEqual 3 = .ok (.arraylength, 1) := by decide +kernel
theorem dX3_isEqual_4 : decode cX3_isEqual 4 = .ok (.if_icmp .eq 5, 3) := by decide +kernel
theorem dX3_isEqual_7 : decode cX3_isEqual 7 = .ok (.iconst 0, 1) := by decide +kernel
theorem dX3_isEqual_8 : decode cX3_isEqual 8 = .ok (.ireturn, 1) := by decide +kernel
theorem dX3_isEqual_9 : decode cX3_isEqual 9 = .ok (.iconst 0, 1) := by decide +kernel
theorem dX3_isEqual_10 : decode cX3_isEqual 10 = .ok (.istore_n 2, 1) := by decide +kernel
theorem dX3_isEqual_11 : decode cX3_isEqual 11 = .ok (.iload_n 2, 1) := by decide +kernel
theorem dX3_isEqual_12 : decode cX3_isEqual 12 = .ok (.aload_n 0, 1) := by decide +kernel
theorem dX3_isEqual_13 : decode cX3_isEqual 13 = .ok (.arraylength, 1) := by decide +kernel
theorem dX3_isEqual_14 : decode cX3_isEqual 14 = .ok (.if_icmp .ge 20, 3) := by decide +kernel
theorem dX3_isEqual_17 : decode cX3_isEqual 17 = .ok (.aload_n 0, 1) := by decide +kernel
theorem dX3_isEqual_18 : decode cX3_isEqual 18 = .ok (.iload_n 2, 1) := by decide +kernel
theorem dX3_isEqual_19 : decode cX3_isEqual 19 = .ok (.iaload, 1) := by decide +kernel
theorem dX3_isEqual_20 : decode cX3_isEqual 20 = .ok (.aload_n 1, 1) := by decide +kernel
theorem dX3_isEqual_21 : decode cX3_isEqual 21 = .ok (.iload_n 2, 1) := by decide +kernel
theorem dX3_isEqual_22 : decode cX3_isEqual 22 = .ok (.iaload, 1) := by decide +kernel
theorem dX3_isEqual_23 : decode cX3_isEqual 23 = .ok (.if_icmp .eq 5, 3) := by decide +kernel
theorem dX3_isEqual_26 : decode cX3_isEqual 26 = .ok (.iconst 0, 1) := by decide +kernel
theorem dX3_isEqual_27 : decode cX3_isEqual 27 = .ok (.ireturn, 1) := by decide +kernel
theorem dX3_isEqual_28 : decode cX3_isEqual 28 = .ok (.iinc 2 1, 3) := by decide +kernel
theorem dX3_isEqual_31 : decode cX3_isEqual 31 = .ok (.goto (-20), 3) := by decide +kernel
theorem dX3_isEqual_34 : decode cX3_isEqual 34 = .ok (.iconst 1, 1) := by decide +kernel
theorem dX3_isEqual_35 : decode cX3_isEqual 35 = .ok (.ireturn, 1) := by decide +kernel
theorem dX3_isStay_0 : decode cX3_isStay 0 = .ok (.aload_n 0, 1) := by decide +kernel
theorem dX3_isStay_1 : decode cX3_isStay 1 = .ok (.getfield 18, 3) := by decide +kernel
theorem dX3_isStay_4 : decode cX3_isStay 4 = .ok (.arraylength, 1) := by decide +kernel
theorem dX3_isStay_5 : decode cX3_isStay 5 = .ok (.iconst 1, 1) := by decide +kernel
theorem dX3_isStay_6 : decode cX3_isStay 6 = .ok (.if_icmp .ne 18, 3) := by decide +kernel
theorem dX3_isStay_9 : decode cX3_isStay 9 = .ok (.aload_n 0, 1) := by decide +kernel
theorem dX3_isStay_10 : decode cX3_isStay 10 = .ok (.getfield 18, 3) := by decide +kernel
theorem dX3_isStay_13 : decode cX3_isStay 13 = .ok (.iconst 0, 1) := by decide +kernel
theorem dX3_isStay_14 : decode cX3_isStay 14 = .ok (.iaload, 1) := by decide +kernel
theorem dX3_isStay_15 : decode cX3_isStay 15 = .ok (.bipush 46, 2) := by decide +kernel
theorem dX3_isStay_17 : decode cX3_isStay 17 = .ok (.if_icmp .ne 7, 3) := by decide +kernel
theorem dX3_isStay_20 : decode cX3_isStay 20 = .ok (.iconst 1, 1) := by decide +kernel
theorem dX3_isStay_21 : decode cX3_isStay 21 = .ok (.goto 4, 3) := by decide +kernel
theorem dX3_isStay_24 : decode cX3_isStay 24 = .ok (.iconst 0, 1) := by decide +kernel
theorem dX3_isStay_25 : decode cX3_isStay 25 = .ok (.ireturn, 1) := by decide +kernel
theorem dX3_isUp_0 : decode cX3_isUp 0 = .ok (.aload_n 0, 1) := by decide +kernel
theorem dX3_isUp_1 : decode cX3_isUp 1 = .ok (.getfield 18, 3) := by decide +kernel
theorem dX3_isUp_4 : decode cX3_isUp 4 = .ok (.arraylength, 1) := by decide +kernel
theorem dX3_isUp_5 : decode cX3_isUp 5 = .ok (.iconst 2, 1) := by decide +kernel
theorem dX3_isUp_6 : decode cX3_isUp 6 = .ok (.if_icmp .ne 29, 3) := by decide +kernel
theorem dX3_isUp_9 : decode cX3_isUp 9 = .ok (.aload_n 0, 1) := by decide +kernel
theorem dX3_isUp_10 : decode cX3_isUp 10 = .ok (.getfield 18, 3) := by decide +kernel
theorem dX3_isUp_13 : decode cX3_isUp 13 = .ok (.iconst 0, 1) := by decide +kernel
theorem dX3_isUp_14 : decode cX3_isUp 14 = .ok (.iaload, 1) := by decide +kernel
theorem dX3_isUp_15 : decode cX3_isUp 15 = .ok (.bipush 46, 2) := by decide +kernel
theorem dX3_isUp_17 : decode cX3_isUp 17 = .ok (.if_icmp .ne 18, 3) := by decide +kernel
theorem dX3_isUp_20 : decode cX3_isUp 20 = .ok (.aload_n 0, 1) := by decide +kernel
theorem dX3_isUp_21 : decode cX3_isUp 21 = .ok (.getfield 18, 3) := by decide +kernel
theorem dX3_isUp_24 : decode cX3_isUp 24 = .ok (.iconst 1, 1) := by decide +kernel
theorem dX3_isUp_25 : decode cX3_isUp 25 = .ok (.iaload, 1) := by decide +kernel
theorem dX3_isUp_26 : decode cX3_isUp 26 = .ok (.bipush 46, 2) := by decide +kernel
theorem dX3_isUp_28 : decode cX3_isUp 28 = .ok (.if_icmp .ne 7, 3) := by decide +kernel
theorem dX3_isUp_31 : decode cX3_isUp 31 = .ok (.iconst 1, 1) := by decide +kernel
theorem dX3_isUp_32 : decode cX3_isUp 32 = .ok (.goto 4, 3) := by decide +kernel
theorem dX3_isUp_35 : decode cX3_isUp 35 = .ok (.iconst 0, 1) := by decide +kernel
theorem dX3_isUp_36 : decode cX3_isUp 36 = .ok (.ireturn, 1) := by decide +kernel
theorem dX3_judge_0 : decode cX3_judge 0 = .ok (.aload_n 0, 1) := by decide +kernel
theorem dX3_judge_1 : decode cX3_judge 1 = .ok (.invokevirtual 35, 3) := by decide +kernel
theorem dX3_judge_4 : decode cX3_judge 4 = .ok (.ifCond .eq 6, 3) := by decide +kernel
theorem dX3_judge_7 : decode cX3_judge 7 = .ok (.bipush (-3), 2) := by decide +kernel
theorem dX3_judge_9 : decode cX3_judge 9 = .ok (.ireturn, 1) := by decide +kernel
theorem dX3_judge_10 : decode cX3_judge 10 = .ok (.aload_n 0, 1) := by decide +kernel
theorem dX3_judge_11 : decode cX3_judge 11 = .ok (.invokevirtual 39, 3) := by decide +kernel
theorem dX3_judge_14 : decode cX3_judge 14 = .ok (.ifCond .ne 17, 3) := by decide +kernel
theorem dX3_judge_17 : decode cX3_judge 17 = .ok (.aload_n 1, 1) := by decide +kernel
theorem dX3_judge_18 : decode cX3_judge 18 = .ok (.getfield 42, 3) := by decide +kernel
theorem dX3_judge_21 : decode cX3_judge 21 = .ok (.ifCond .eq 13, 3) := by decide +kernel
theorem dX3_judge_24 : decode cX3_judge 24 = .ok (.aload_n 0, 1) := by decide +kernel
theorem dX3_judge_25 : decode cX3_judge 25 = .ok (.invokevirtual 48, 3) := by decide +kernel
theorem dX3_judge_28 : decode cX3_judge 28 = .ok (.ifCond .eq 6, 3) := by decide +kernel
theorem dX3_judge_31 : decode cX3_judge 31 = .ok (.bipush (-4), 2) := by decide +kernel
theorem dX3_judge_33 : decode cX3_judge 33 = .ok (.ireturn, 1) := by decide +kernel
theorem dX3_judge_34 : decode cX3_judge 34 = .ok (.aload_n 0, 1) := by decide +kernel
theorem dX3_judge_35 : decode cX3_judge 35 = .ok (.getfield 18, 3) := by decide +kernel
theorem dX3_judge_38 : decode cX3_judge 38 = .ok (.arraylength, 1) := by decide +kernel
theorem dX3_judge_39 : decode cX3_judge 39 = .ok (.bipush 16, 2) := by decide +kernel
theorem dX3_judge_41 : decode cX3_judge 41 = .ok (.if_icmp .le 8, 3) := by decide +kernel
theorem dX3_judge_44 : decode cX3_judge 44 = .ok (.bipush (-5), 2) := by decide +kernel
theorem dX3_judge_46 : decode cX3_judge 46 = .ok (.goto 4, 3) := by decide +kernel
theorem dX3_judge_49 : decode cX3_judge 49 = .ok (.iconst 0, 1) := by decide +kernel
theorem dX3_judge_50 : decode cX3_judge 50 = .ok (.ireturn, 1) := by decide +kernel
theorem dX3_hasControlByte_0 : decode cX3_hasControlByte 0 = .ok (.iconst 0, 1) := by decide +kernel
theorem dX3_hasControlByte_1 : decode cX3_hasControlByte 1 = .ok (.istore_n 1, 1) := by decide +kernel
theorem dX3_hasControlByte_2 : decode cX3_hasControlByte 2 = .ok (.iload_n 1, 1) := by decide +kernel
theorem dX3_hasControlByte_3 : decode cX3_hasControlByte 3 = .ok (.aload_n 0, 1) := by decide +kernel
theorem dX3_hasControlByte_4 : decode cX3_hasControlByte 4 = .ok (.getfield 18, 3) := by decide +kernel
theorem dX3_hasControlByte_7 : decode cX3_hasControlByte 7 = .ok (.arraylength, 1) := by decide +kernel
theorem dX3_hasControlByte_8 : decode cX3_hasControlByte 8 = .ok (.if_icmp .ge 33, 3) := by decide +kernel
theorem dX3_hasControlByte_11 : decode cX3_hasControlByte 11 = .ok (.aload_n 0, 1) := by decide +kernel
theorem dX3_hasControlByte_12 : decode cX3_hasControlByte 12 = .ok (.getfield 18, 3) := by decide +kernel
theorem dX3_hasControlByte_15 : decode cX3_hasControlByte 15 = .ok (.iload_n 1, 1) := by decide +kernel
theorem dX3_hasControlByte_16 : decode cX3_hasControlByte 16 = .ok (.iaload, 1) := by decide +kernel
theorem dX3_hasControlByte_17 : decode cX3_hasControlByte 17 = .ok (.bipush 32, 2) := by decide +kernel
theorem dX3_hasControlByte_19 : decode cX3_hasControlByte 19 = .ok (.if_icmp .lt 14, 3) := by decide +kernel
theorem dX3_hasControlByte_22 : decode cX3_hasControlByte 22 = .ok (.aload_n 0, 1) := by decide +kernel
theorem dX3_hasControlByte_23 : decode cX3_hasControlByte 23 = .ok (.getfield 18, 3) := by decide +kernel
theorem dX3_hasControlByte_26 : decode cX3_hasControlByte 26 = .ok (.iload_n 1, 1) := by decide +kernel
theorem dX3_hasControlByte_27 : decode cX3_hasControlByte 27 = .ok (.iaload, 1) := by decide +kernel
theorem dX3_hasControlByte_28 : decode cX3_hasControlByte 28 = .ok (.bipush 127, 2) := by decide +kernel
theorem dX3_hasControlByte_30 : decode cX3_hasControlByte 30 = .ok (.if_icmp .ne 5, 3) := by decide +kernel
theorem dX3_hasControlByte_33 : decode cX3_hasControlByte 33 = .ok (.iconst 1, 1) := by decide +kernel
theorem dX3_hasControlByte_34 : decode cX3_hasControlByte 34 = .ok (.ireturn, 1) := by decide +kernel
theorem dX3_hasControlByte_35 : decode cX3_hasControlByte 35 = .ok (.iinc 1 1, 3) := by decide +kernel
theorem dX3_hasControlByte_38 : decode cX3_hasControlByte 38 = .ok (.goto (-36), 3) := by decide +kernel
theorem dX3_hasControlByte_41 : decode cX3_hasControlByte 41 = .ok (.iconst 0, 1) := by decide +kernel
theorem dX3_hasControlByte_42 : decode cX3_hasControlByte 42 = .ok (.ireturn, 1) := by decide +kernel
theorem dX3_isOfOtherSystems_0 : decode cX3_isOfOtherSystems 0 = .ok (.aload_n 0, 1) := by decide +kernel
theorem dX3_isOfOtherSystems_1 : decode cX3_isOfOtherSystems 1 = .ok (.aload_n 0, 1) := by decide +kernel
theorem dX3_isOfOtherSystems_2 : decode cX3_isOfOtherSystems 2 = .ok (.getfield 18, 3) := by decide +kernel
theorem dX3_isOfOtherSystems_5 : decode cX3_isOfOtherSystems 5 = .ok (.arraylength, 1) := by decide +kernel
theorem dX3_isOfOtherSystems_6 : decode cX3_isOfOtherSystems 6 = .ok (.iconst 1, 1) := by decide +kernel
theorem dX3_isOfOtherSystems_7 : decode cX3_isOfOtherSystems 7 = .ok (.isub, 1) := by decide +kernel
theorem dX3_isOfOtherSystems_8 : decode cX3_isOfOtherSystems 8 = .ok (.invokevirtual 51, 3) := by decide +kernel
theorem dX3_isOfOtherSystems_11 : decode cX3_isOfOtherSystems 11 = .ok (.istore_n 1, 1) := by decide +kernel
theorem dX3_isOfOtherSystems_12 : decode cX3_isOfOtherSystems 12 = .ok (.iload_n 1, 1) := by decide +kernel
theorem dX3_isOfOtherSystems_13 : decode cX3_isOfOtherSystems 13 = .ok (.bipush 46, 2) := by decide +kernel
theorem dX3_isOfOtherSystems_15 : decode cX3_isOfOtherSystems 15 = .ok (.if_icmp .eq 23, 3) := by decide +kernel
theorem dX3_isOfOtherSystems_18 : decode cX3_isOfOtherSystems 18 = .ok (.iload_n 1, 1) := by decide +kernel
theorem dX3_isOfOtherSystems_19 : decode cX3_isOfOtherSystems 19 = .ok (.bipush 32, 2) := by decide +kernel
theorem dX3_isOfOtherSystems_21 : decode cX3_isOfOtherSystems 21 = .ok (.if_icmp .eq 17, 3) := by decide +kernel
theorem dX3_isOfOtherSystems_24 : decode cX3_isOfOtherSystems 24 = .ok (.aload_n 0, 1) := by decide +kernel
theorem dX3_isOfOtherSystems_25 : decode cX3_isOfOtherSystems 25 = .ok (.invokevirtual 54, 3) := by decide +kernel
theorem dX3_isOfOtherSystems_28 : decode cX3_isOfOtherSystems 28 = .ok (.ifCond .ne 10, 3) := by decide +kernel
theorem dX3_isOfOtherSystems_31 : decode cX3_isOfOtherSystems 31 = .ok (.aload_n 0, 1) := by decide +kernel
theorem dX3_isOfOtherSystems_32 : decode cX3_isOfOtherSystems 32 = .ok (.invokevirtual 57, 3) := by decide +kernel
theorem dX3_isOfOtherSystems_35 : decode cX3_isOfOtherSystems 35 = .ok (.ifCond .eq 7, 3) := by decide +kernel
theorem dX3_isOfOtherSystems_38 : decode cX3_isOfOtherSystems 38 = .ok (.iconst 1, 1) := by decide +kernel
theorem dX3_isOfOtherSystems_39 : decode cX3_isOfOtherSystems 39 = .ok (.goto 4, 3) := by decide +kernel
theorem dX3_isOfOtherSystems_42 : decode cX3_isOfOtherSystems 42 = .ok (.iconst 0, 1) := by decide +kernel
theorem dX3_isOfOtherSystems_43 : decode cX3_isOfOtherSystems 43 = .ok (.ireturn, 1) := by decide +kernel
theorem dX3_hasMark_0 : decode cX3_hasMark 0 = .ok (.iconst 0, 1) := by decide +kernel
theorem dX3_hasMark_1 : decode cX3_hasMark 1 = .ok (.istore_n 1, 1) := by decide +kernel
theorem dX3_hasMark_2 : decode cX3_hasMark 2 = .ok (.iload_n 1, 1) := by decide +kernel
theorem dX3_hasMark_3 : decode cX3_hasMark 3 = .ok (.aload_n 0, 1) := by decide +kernel
theorem dX3_hasMark_4 : decode cX3_hasMark 4 = .ok (.getfield 18, 3) := by decide +kernel
theorem dX3_hasMark_7 : decode cX3_hasMark 7 = .ok (.arraylength, 1) := by decide +kernel
theorem dX3_hasMark_8 : decode cX3_hasMark 8 = .ok (.if_icmp .ge 26, 3) := by decide +kernel
theorem dX3_hasMark_11 : decode cX3_hasMark 11 = .ok (.ldc 60, 2) := by decide +kernel
theorem dX3_hasMark_13 : decode cX3_hasMark 13 = .ok (.aload_n 0, 1) := by decide +kernel
theorem dX3_hasMark_14 : decode cX3_hasMark 14 = .ok (.getfield 18, 3) := by decide +kernel
theorem dX3_hasMark_17 : decode cX3_hasMark 17 = .ok (.iload_n 1, 1) := by decide +kernel
theorem dX3_hasMark_18 : decode cX3_hasMark 18 = .ok (.iaload, 1) := by decide +kernel
theorem dX3_hasMark_19 : decode cX3_hasMark 19 = .ok (.i2c, 1) := by decide +kernel
theorem dX3_hasMark_20 : decode cX3_hasMark 20 = .ok (.invokevirtual 62, 3) := by decide +kernel
theorem dX3_hasMark_23 : decode cX3_hasMark 23 = .ok (.ifCond .lt 5, 3) := by decide +kernel
theorem dX3_hasMark_26 : decode cX3_hasMark 26 = .ok (.iconst 1, 1) := by decide +kernel
theorem dX3_hasMark_27 : decode cX3_hasMark 27 = .ok (.ireturn, 1) := by decide +kernel
theorem dX3_hasMark_28 : decode cX3_hasMark 28 = .ok (.iinc 1 1, 3) := by decide +kernel
theorem dX3_hasMark_31 : decode cX3_hasMark 31 = .ok (.goto (-29), 3) := by decide +kernel
theorem dX3_hasMark_34 : decode cX3_hasMark 34 = .ok (.iconst 0, 1) := by decide +kernel
theorem dX3_hasMark_35 : decode cX3_hasMark 35 = .ok (.ireturn, 1) := by decide +kernel
theorem dX3_isKeptWord_0 : decode cX3_isKeptWord 0 = .ok (.aload_n 0, 1) := by decide +kernel
theorem dX3_isKeptWord_1 : decode cX3_isKeptWord 1 = .ok (.invokevirtual 67, 3) := by decide +kernel
theorem dX3_isKeptWord_4 : decode cX3_isKeptWord 4 = .ok (.istore_n 1, 1) := by decide +kernel
theorem dX3_isKeptWord_5 : decode cX3_isKeptWord 5 = .ok (.iload_n 1, 1) := by decide +kernel
theorem dX3_isKeptWord_6 : decode cX3_isKeptWord 6 = .ok (.iconst 3, 1) := by decide +kernel
theorem dX3_isKeptWord_7 : decode cX3_isKeptWord 7 = .ok (.if_icmp .ne 10, 3) := by decide +kernel
theorem dX3_isKeptWord_10 : decode cX3_isKeptWord 10 = .ok (.aload_n 0, 1) := by decide +kernel
theorem dX3_isKeptWord_11 : decode cX3_isKeptWord 11 = .ok (.ldc 71, 2) := by decide +kernel
theorem dX3_isKeptWord_13 : decode cX3_isKeptWord 13 = .ok (.invokevirtual 73, 3) := by decide +kernel
theorem dX3_isKeptWord_16 : decode cX3_isKeptWord 16 = .ok (.ireturn, 1) := by decide +kernel
theorem dX3_isKeptWord_17 : decode cX3_isKeptWord 17 = .ok (.aload_n 0, 1) := by decide +kernel
theorem dX3_isKeptWord_18 : decode cX3_isKeptWord 18 = .ok (.iconst 3, 1) := by decide +kernel
theorem dX3_isKeptWord_19 : decode cX3_isKeptWord 19 = .ok (.invokevirtual 51, 3) := by decide +kernel
theorem dX3_isKeptWord_22 : decode cX3_isKeptWord 22 = .ok (.istore_n 2, 1) := by decide +kernel
theorem dX3_isKeptWord_23 : decode cX3_isKeptWord 23 = .ok (.iload_n 1, 1) := by decide +kernel
theorem dX3_isKeptWord_24 : decode cX3_isKeptWord 24 = .ok (.iconst 4, 1) := by decide +kernel
theorem dX3_isKeptWord_25 : decode cX3_isKeptWord 25 = .ok (.if_icmp .ne 28, 3) := by decide +kernel
theorem dX3_isKeptWord_28 : decode cX3_isKeptWord 28 = .ok (.iload_n 2, 1) := by decide +kernel
theorem dX3_isKeptWord_29 : decode cX3_isKeptWord 29 = .ok (.bipush 49, 2) := by decide +kernel
theorem dX3_isKeptWord_31 : decode cX3_isKeptWord 31 = .ok (.if_icmp .lt 22, 3) := by decide +kernel
theorem dX3_isKeptWord_34 : decode cX3_isKeptWord 34 = .ok (.iload_n 2, 1) := by decide +kernel
theorem dX3_isKeptWord_35 : decode cX3_isKeptWord 35 = .ok (.bipush 57, 2) := by decide +kernel
theorem dX3_isKeptWord_37 : decode cX3_isKeptWord 37 = .ok (.if_icmp .gt 16, 3) := by decide +kernel
theorem dX3_isKeptWord_40 : decode cX3_isKeptWord 40 = .ok (.aload_n 0, 1) := by decide +kernel
theorem dX3_isKeptWord_41 : decode cX3_isKeptWord 41 = .ok (.ldc 77, 2) := by decide +kernel
theorem dX3_isKeptWord_43 : decode cX3_isKeptWord 43 = .ok (.invokevirtual 73, 3) := by decide +kernel
theorem dX3_isKeptWord_46 : decode cX3_isKeptWord 46 = .ok (.ifCond .eq 7, 3) := by decide +kernel
theorem dX3_isKeptWord_49 : decode cX3_isKeptWord 49 = .ok (.iconst 1, 1) := by decide +kernel
theorem dX3_isKeptWord_50 : decode cX3_isKeptWord 50 = .ok (.goto 4, 3) := by decide +kernel
theorem dX3_isKeptWord_53 : decode cX3_isKeptWord 53 = .ok (.iconst 0, 1) := by decide +kernel
theorem dX3_isKeptWord_54 : decode cX3_isKeptWord 54 = .ok (.ireturn, 1) := by decide +kernel
theorem dX3_lengthToFirstDot_0 : decode cX3_lengthToFirstDot 0 = .ok (.iconst 0, 1) := by decide +kernel
theorem dX3_lengthToFirstDot_1 : decode cX3_lengthToFirstDot 1 = .ok (.istore_n 1, 1) := by decide +kernel
theorem dX3_lengthToFirstDot_2 : decode cX3_lengthToFirstDot 2 = .ok (.iload_n 1, 1) := by decide +kernel
theorem dX3_lengthToFirstDot_3 : decode cX3_lengthToFirstDot 3 = .ok (.aload_n 0, 1) := by decide +kernel
theorem dX3_lengthToFirstDot_4 : decode cX3_lengthToFirstDot 4 = .ok (.getfield 18, 3) := by decide +kernel
theorem dX3_lengthToFirstDot_7 : decode cX3_lengthToFirstDot 7 = .ok (.arraylength, 1) := by decide +kernel
theorem dX3_lengthToFirstDot_8 : decode cX3_lengthToFirstDot 8 = .ok (.if_icmp .ge 20, 3) := by decide +kernel
theorem dX3_lengthToFirstDot_11 : decode cX3_lengthToFirstDot 11 = .ok (.aload_n 0, 1) := by decide +kernel
theorem dX3_lengthToFirstDot_12 : decode cX3_lengthToFirstDot 12 = .ok (.getfield 18, 3) := by decide +kernel
theorem dX3_lengthToFirstDot_15 : decode cX3_lengthToFirstDot 15 = .ok (.iload_n 1, 1) := by decide +kernel
theorem dX3_lengthToFirstDot_16 : decode cX3_lengthToFirstDot 16 = .ok (.iaload, 1) := by decide +kernel
theorem dX3_lengthToFirstDot_17 : decode cX3_lengthToFirstDot 17 = .ok (.bipush 46, 2) := by decide +kernel
theorem dX3_lengthToFirstDot_19 : decode cX3_lengthToFirstDot 19 = .ok (.if_icmp .eq 9, 3) := by decide +kernel
theorem dX3_lengthToFirstDot_22 : decode cX3_lengthToFirstDot 22 = .ok (.iinc 1 1, 3) := by decide +kernel
theorem dX3_lengthToFirstDot_25 : decode cX3_lengthToFirstDot 25 = .ok (.goto (-23), 3) := by decide +kernel
theorem dX3_lengthToFirstDot_28 : decode cX3_lengthToFirstDot 28 = .ok (.iload_n 1, 1) := by decide +kernel
theorem dX3_lengthToFirstDot_29 : decode cX3_lengthToFirstDot 29 = .ok (.ireturn, 1) := by decide +kernel
theorem dX3_beginsWithOneOf_0 : decode cX3_beginsWithOneOf 0 = .ok (.aload_n 0, 1) := by decide +kernel
theorem dX3_beginsWithOneOf_1 : decode cX3_beginsWithOneOf 1 = .ok (.getfield 24, 3) := by decide +kernel
theorem dX3_beginsWithOneOf_4 : decode cX3_beginsWithOneOf 4 = .ok (.arraylength, 1) := by decide +kernel
theorem dX3_beginsWithOneOf_5 : decode cX3_beginsWithOneOf 5 = .ok (.iconst 3, 1) := by decide +kernel
theorem dX3_beginsWithOneOf_6 : decode cX3_beginsWithOneOf 6 = .ok (.if_icmp .ge 5, 3) := by decide +kernel
theorem dX3_beginsWithOneOf_9 : decode cX3_beginsWithOneOf 9 = .ok (.iconst 0, 1) := by decide +kernel
theorem dX3_beginsWithOneOf_10 : decode cX3_beginsWithOneOf 10 = .ok (.ireturn, 1) := by decide +kernel
theorem dX3_beginsWithOneOf_11 : decode cX3_beginsWithOneOf 11 = .ok (.iconst 0, 1) := by decide +kernel
theorem dX3_beginsWithOneOf_12 : decode cX3_beginsWithOneOf 12 = .ok (.istore_n 2, 1) := by decide +kernel
theorem dX3_beginsWithOneOf_13 : decode cX3_beginsWithOneOf 13 = .ok (.iload_n 2, 1) := by decide +kernel
theorem dX3_beginsWithOneOf_14 : decode cX3_beginsWithOneOf 14 = .ok (.iconst 2, 1) := by decide +kernel
theorem dX3_beginsWithOneOf_15 : decode cX3_beginsWithOneOf 15 = .ok (.iadd, 1) := by decide +kernel
theorem dX3_beginsWithOneOf_16 : decode cX3_beginsWithOneOf 16 = .ok (.aload_n 1, 1) := by decide +kernel
theorem dX3_beginsWithOneOf_17 : decode cX3_beginsWithOneOf 17 = .ok (.invokevirtual 79, 3) := by decide +kernel
theorem dX3_beginsWithOneOf_20 : decode cX3_beginsWithOneOf 20 = .ok (.if_icmp .ge 67, 3) := by decide +kernel
theorem dX3_beginsWithOneOf_23 : decode cX3_beginsWithOneOf 23 = .ok (.aload_n 0, 1) := by decide +kernel
theorem dX3_beginsWithOneOf_24 : decode cX3_beginsWithOneOf 24 = .ok (.getfield 24, 3) := by decide +kernel
theorem dX3_beginsWithOneOf_27 : decode cX3_beginsWithOneOf 27 = .ok (.iconst 0, 1) := by decide +kernel
theorem dX3_beginsWithOneOf_28 : decode cX3_beginsWithOneOf 28 = .ok (.iaload, 1) := by decide +kernel
theorem dX3_beginsWithOneOf_29 : decode cX3_beginsWithOneOf 29 = .ok (.aload_n 1, 1) := by decide +kernel
theorem dX3_beginsWithOneOf_30 : decode cX3_beginsWithOneOf 30 = .ok (.iload_n 2, 1) := by decide +kernel
theorem dX3_beginsWithOneOf_31 : decode cX3_beginsWithOneOf 31 = .ok (.invokevirtual 82, 3) := by decide +kernel
theorem dX3_beginsWithOneOf_34 : decode cX3_beginsWithOneOf 34 = .ok (.if_icmp .ne 23, 3) := by decide +kernel
theorem dX3_beginsWithOneOf_37 : decode cX3_beginsWithOneOf 37 = .ok (.aload_n 0, 1) := by decide +kernel
theorem dX3_beginsWithOneOf_38 : decode cX3_beginsWithOneOf 38 = .ok (.getfield 24, 3) := by decide +kernel
theorem dX3_beginsWithOneOf_41 : decode cX3_beginsWithOneOf 41 = .ok (.iconst 1, 1) := by decide +kernel
theorem dX3_beginsWithOneOf_42 : decode cX3_beginsWithOneOf 42 = .ok (.iaload, 1) := by decide +kernel
theorem dX3_beginsWithOneOf_43 : decode cX3_beginsWithOneOf 43 = .ok (.aload_n 1, 1) := by decide +kernel
theorem dX3_beginsWithOneOf_44 : decode cX3_beginsWithOneOf 44 = .ok (.iload_n 2, 1) := by decide +kernel
theorem dX3_beginsWithOneOf_45 : decode cX3_beginsWithOneOf 45 = .ok (.iconst 1, 1) := by decide +kernel
theorem dX3_beginsWithOneOf_46 : decode cX3_beginsWithOneOf 46 = .ok (.iadd, 1) := by decide +kernel
theorem dX3_beginsWithOneOf_47 : decode cX3_beginsWithOneOf 47 = .ok (.invokevirtual 82, 3) := by decide +kernel
theorem dX3_beginsWithOneOf_50 : decode cX3_beginsWithOneOf 50 = .ok (.if_icmp .ne 7, 3) := by decide +kernel
theorem dX3_beginsWithOneOf_53 : decode cX3_beginsWithOneOf 53 = .ok (.iconst 1, 1) := by decide +kernel
theorem dX3_beginsWithOneOf_54 : decode cX3_beginsWithOneOf 54 = .ok (.goto 4, 3) := by decide +kernel
theorem dX3_beginsWithOneOf_57 : decode cX3_beginsWithOneOf 57 = .ok (.iconst 0, 1) := by decide +kernel
theorem dX3_beginsWithOneOf_58 : decode cX3_beginsWithOneOf 58 = .ok (.istore_n 3, 1) := by decide +kernel
theorem dX3_beginsWithOneOf_59 : decode cX3_beginsWithOneOf 59 = .ok (.iload_n 3, 1) := by decide +kernel
theorem dX3_beginsWithOneOf_60 : decode cX3_beginsWithOneOf 60 = .ok (.ifCond .eq 21, 3) := by decide +kernel
theorem dX3_beginsWithOneOf_63 : decode cX3_beginsWithOneOf 63 = .ok (.aload_n 0, 1) := by decide +kernel
theorem dX3_beginsWithOneOf_64 : decode cX3_beginsWithOneOf 64 = .ok (.getfield 24, 3) := by decide +kernel
theorem dX3_beginsWithOneOf_67 : decode cX3_beginsWithOneOf 67 = .ok (.iconst 2, 1) := by decide +kernel
theorem dX3_beginsWithOneOf_68 : decode cX3_beginsWithOneOf 68 = .ok (.iaload, 1) := by decide +kernel
theorem dX3_beginsWithOneOf_69 : decode cX3_beginsWithOneOf 69 = .ok (.aload_n 1, 1) := by decide +kernel
theorem dX3_beginsWithOneOf_70 : decode cX3_beginsWithOneOf 70 = .ok (.iload_n 2, 1) := by decide +kernel
theorem dX3_beginsWithOneOf_71 : decode cX3_beginsWithOneOf 71 = .ok (.iconst 2, 1) := by decide +kernel
theorem dX3_beginsWithOneOf_72 : decode cX3_beginsWithOneOf 72 = .ok (.iadd, 1) := by decide +kernel
theorem dX3_beginsWithOneOf_73 : decode cX3_beginsWithOneOf 73 = .ok (.invokevirtual 82, 3) := by decide +kernel
theorem dX3_beginsWithOneOf_76 : decode cX3_beginsWithOneOf 76 = .ok (.if_icmp .ne 5, 3) := by decide +kernel
theorem dX3_beginsWithOneOf_79 : decode cX3_beginsWithOneOf 79 = .ok (.iconst 1, 1) := by decide +kernel
theorem dX3_beginsWithOneOf_80 : decode cX3_beginsWithOneOf 80 = .ok (.ireturn, 1) := by decide +kernel
theorem dX3_beginsWithOneOf_81 : decode cX3_beginsWithOneOf 81 = .ok (.iinc 2 3, 3) := by decide +kernel
theorem dX3_beginsWithOneOf_84 : decode cX3_beginsWithOneOf 84 = .ok (.goto (-71), 3) := by decide +kernel
theorem dX3_beginsWithOneOf_87 : decode cX3_beginsWithOneOf 87 = .ok (.iconst 0, 1) := by decide +kernel
theorem dX3_beginsWithOneOf_88 : decode cX3_beginsWithOneOf 88 = .ok (.ireturn, 1) := by decide +kernel
theorem dX4_init_0 : decode cX4_init 0 = .ok (.aload_n 0, 1) := by decide +kernel
theorem dX4_init_1 : decode cX4_init 1 = .ok (.invokespecial 1, 3) := by decide +kernel
theorem dX4_init_4 : decode cX4_init 4 = .ok (.aload_n 0, 1) := by decide +kernel
theorem dX4_init_5 : decode cX4_init 5 = .ok (.iload_n 1, 1) := by decide +kernel
theorem dX4_init_6 : decode cX4_init 6 = .ok (.putfield 7, 3) := by decide +kernel
theorem dX4_init_9 : decode cX4_init 9 = .ok (.aload_n 0, 1) := by decide +kernel
theorem dX4_init_10 : decode cX4_init 10 = .ok (.aload_n 2, 1) := by decide +kernel
theorem dX4_init_11 : decode cX4_init 11 = .ok (.putfield 13, 3) := by decide +kernel
theorem dX4_init_14 : decode cX4_init 14 = .ok (.aload_n 0, 1) := by decide +kernel
theorem dX4_init_15 : decode cX4_init 15 = .ok (.aload_n 3, 1) := by decide +kernel
theorem dX4_init_16 : decode cX4_init 16 = .ok (.putfield 17, 3) := by decide +kernel
theorem dX4_init_19 : decode cX4_init 19 = .ok (.aload_n 0, 1) := by decide +kernel
theorem dX4_init_20 : decode cX4_init 20 = .ok (.aload 4, 2) := by decide +kernel
theorem dX4_init_22 : decode cX4_init 22 = .ok (.putfield 21, 3) := by decide +kernel
theorem dX4_init_25 : decode cX4_init 25 = .ok (.aload_n 0, 1) := by decide +kernel
theorem dX4_init_26 : decode cX4_init 26 = .ok (.aload 5, 2) := by decide +kernel
theorem dX4_init_28 : decode cX4_init 28 = .ok (.putfield 25, 3) := by decide +kernel
theorem dX4_init_31 : decode cX4_init 31 = .ok (.aload_n 0, 1) := by decide +kernel
theorem dX4_init_32 : decode cX4_init 32 = .ok (.iload 6, 2) := by decide +kernel
theorem dX4_init_34 : decode cX4_init 34 = .ok (.putfield 29, 3) := by decide +kernel
theorem dX4_init_37 : decode cX4_init 37 = .ok (.aload_n 0, 1) := by decide +kernel
theorem dX4_init_38 : decode cX4_init 38 = .ok (.iconst 0, 1) := by decide +kernel
theorem dX4_init_39 : decode cX4_init 39 = .ok (.putfield 33, 3) := by decide +kernel
theorem dX4_init_42 : decode cX4_init 42 = .ok (.aload_n 0, 1) := by decide +kernel
theorem dX4_init_43 : decode cX4_init 43 = .ok (.iconst 0, 1) := by decide +kernel
theorem dX4_init_44 : decode cX4_init 44 = .ok (.putfield 36, 3) := by decide +kernel
theorem dX4_init_47 : decode cX4_init 47 = .ok (.return_, 1) := by decide +kernel
theorem dX4_isFolder_0 : decode cX4_isFolder 0 = .ok (.aload_n 0, 1) := by decide +kernel
theorem dX4_isFolder_1 : decode cX4_isFolder 1 = .ok (.getfield 21, 3) := by decide +kernel
theorem dX4_isFolder_4 : decode cX4_isFolder 4 = .ok (.ifnonnull 14, 3) := by decide +kernel
theorem dX4_isFolder_7 : decode cX4_isFolder 7 = .ok (.aload_n 0, 1) := by decide +kernel
theorem dX4_isFolder_8 : decode cX4_isFolder 8 = .ok (.getfield 25, 3) := by decide +kernel
theorem dX4_isFolder_11 : decode cX4_isFolder 11 = .ok (.ifnonnull 7, 3) := by decide +kernel
theorem dX4_isFolder_14 : decode cX4_isFolder 14 = .ok (.iconst 1, 1) := by decide +kernel
theorem dX4_isFolder_15 : decode cX4_isFolder 15 = .ok (.goto 4, 3) := by decide +kernel
theorem dX4_isFolder_18 : decode cX4_isFolder 18 = .ok (.iconst 0, 1) := by decide +kernel
theorem dX4_isFolder_19 : decode cX4_isFolder 19 = .ok (.ireturn, 1) := by decide +kernel
theorem dX4_up_0 : decode cX4_up 0 = .ok (.aload_n 0, 1) := by decide +kernel
theorem dX4_up_1 : decode cX4_up 1 = .ok (.getfield 13, 3) := by decide +kernel
theorem dX4_up_4 : decode cX4_up 4 = .ok (.ifnonnull 7, 3) := by decide +kernel
theorem dX4_up_7 : decode cX4_up 7 = .ok (.aload_n 0, 1) := by decide +kernel
theorem dX4_up_8 : decode cX4_up 8 = .ok (.goto 7, 3) := by decide +kernel
theorem dX4_up_11 : decode cX4_up 11 = .ok (.aload_n 0, 1) := by decide +kernel
theorem dX4_up_12 : decode cX4_up 12 = .ok (.getfield 13, 3) := by decide +kernel
theorem dX4_up_15 : decode cX4_up 15 = .ok (.areturn, 1) := by decide +kernel
theorem dX4_state_0 : decode cX4_state 0 = .ok (.aload_n 0, 1) := by decide +kernel
theorem dX4_state_1 : decode cX4_state 1 = .ok (.getfield 36, 3) := by decide +kernel
theorem dX4_state_4 : decode cX4_state 4 = .ok (.ifCond .eq 5, 3) := by decide +kernel
theorem dX4_state_7 : decode cX4_state 7 = .ok (.iconst (-1), 1) := by decide +kernel
theorem dX4_state_8 : decode cX4_state 8 = .ok (.ireturn, 1) := by decide +kernel
theorem dX4_state_9 : decode cX4_state 9 = .ok (.aload_n 0, 1) := by decide +kernel
theorem dX4_state_10 : decode cX4_state 10 = .ok (.getfield 21, 3) := by decide +kernel
theorem dX4_state_13 : decode cX4_state 13 = .ok (.ifnull 5, 3) := by decide +kernel
theorem dX4_state_16 : decode cX4_state 16 = .ok (.iconst 2, 1) := by decide +kernel
theorem dX4_state_17 : decode cX4_state 17 = .ok (.ireturn, 1) := by decide +kernel
theorem dX4_state_18 : decode cX4_state 18 = .ok (.aload_n 0, 1) := by decide +kernel
theorem dX4_state_19 : decode cX4_state 19 = .ok (.getfield 25, 3) := by decide +kernel
theorem dX4_state_22 : decode cX4_state 22 = .ok (.ifnull 16, 3) := by decide +kernel
theorem dX4_state_25 : decode cX4_state 25 = .ok (.aload_n 0, 1) := by decide +kernel
theorem dX4_state_26 : decode cX4_state 26 = .ok (.getfield 29, 3) := by decide +kernel
theorem dX4_state_29 : decode cX4_state 29 = .ok (.ifCond .eq 7, 3) := by decide +kernel
theorem dX4_state_32 : decode cX4_state 32 = .ok (.iconst 4, 1) := by decide +kernel
theorem dX4_state_33 : decode cX4_state 33 = .ok (.goto 4, 3) := by decide +kernel
theorem dX4_state_36 : decode cX4_state 36 = .ok (.iconst 3, 1) := by decide +kernel
theorem dX4_state_37 : decode cX4_state 37 = .ok (.ireturn, 1) := by decide +kernel
theorem dX4_state_38 : decode cX4_state 38 = .ok (.aload_n 0, 1) := by decide +kernel
theorem dX4_state_39 : decode cX4_state 39 = .ok (.getfield 33, 3) := by decide +kernel
theorem dX4_state_42 : decode cX4_state 42 = .ok (.ifCond .eq 7, 3) := by decide +kernel
theorem dX4_state_45 : decode cX4_state 45 = .ok (.iconst 1, 1) := by decide +kernel
theorem dX4_state_46 : decode cX4_state 46 = .ok (.goto 4, 3) := by decide +kernel
theorem dX4_state_49 : decode cX4_state 49 = .ok (.iconst 0, 1) := by decide +kernel
theorem dX4_state_50 : decode cX4_state 50 = .ok (.ireturn, 1) := by decide +kernel
theorem dX5_init_0 : decode cX5_init 0 = .ok (.aload_n 0, 1) := by decide +kernel
theorem dX5_init_1 : decode cX5_init 1 = .ok (.invokespecial 1, 3) := by decide +kernel
theorem dX5_init_4 : decode cX5_init 4 = .ok (.aload_n 0, 1) := by decide +kernel
theorem dX5_init_5 : decode cX5_init 5 = .ok (.aload_n 1, 1) := by decide +kernel
theorem dX5_init_6 : decode cX5_init 6 = .ok (.putfield 7, 3) := by decide +kernel
theorem dX5_init_9 : decode cX5_init 9 = .ok (.aload_n 0, 1) := by decide +kernel
theorem dX5_init_10 : decode cX5_init 10 = .ok (.iload_n 2, 1) := by decide +kernel
theorem dX5_init_11 : decode cX5_init 11 = .ok (.putfield 13, 3) := by decide +kernel
theorem dX5_init_14 : decode cX5_init 14 = .ok (.return_, 1) := by decide +kernel
theorem dX6_init_0 : decode cX6_init 0 = .ok (.aload_n 0, 1) := by decide +kernel
theorem dX6_init_1 : decode cX6_init 1 = .ok (.invokespecial 1, 3) := by decide +kernel
theorem dX6_init_4 : decode cX6_init 4 = .ok (.aload_n 0, 1) := by decide +kernel
theorem dX6_init_5 : decode cX6_init 5 = .ok (.iload_n 1, 1) := by decide +kernel
theorem dX6_init_6 : decode cX6_init 6 = .ok (.putfield 7, 3) := by decide +kernel
theorem dX6_init_9 : decode cX6_init 9 = .ok (.aload_n 0, 1) := by decide +kernel
theorem dX6_init_10 : decode cX6_init 10 = .ok (.iload_n 2, 1) := by decide +kernel
theorem dX6_init_11 : decode cX6_init 11 = .ok (.putfield 13, 3) := by decide +kernel
theorem dX6_init_14 : decode cX6_init 14 = .ok (.aload_n 0, 1) := by decide +kernel
theorem dX6_init_15 : decode cX6_init 15 = .ok (.aload_n 3, 1) := by decide +kernel
theorem dX6_init_16 : decode cX6_init 16 = .ok (.putfield 17, 3) := by decide +kernel
theorem dX6_init_19 : decode cX6_init 19 = .ok (.aload_n 0, 1) := by decide +kernel
theorem dX6_init_20 : decode cX6_init 20 = .ok (.new 21, 3) := by decide +kernel
theorem dX6_init_23 : decode cX6_init 23 = .ok (.dup, 1) := by decide +kernel
theorem dX6_init_24 : decode cX6_init 24 = .ok (.getstatic 23, 3) := by decide +kernel
theorem dX6_init_27 : decode cX6_init 27 = .ok (.iconst 0, 1) := by decide +kernel
theorem dX6_init_28 : decode cX6_init 28 = .ok (.iconst 0, 1) := by decide +kernel
theorem dX6_init_29 : decode cX6_init 29 = .ok (.invokespecial 29, 3) := by decide +kernel
theorem dX6_init_32 : decode cX6_init 32 = .ok (.putfield 32, 3) := by decide +kernel
theorem dX6_init_35 : decode cX6_init 35 = .ok (.return_, 1) := by decide +kernel
theorem dX6_count_0 : decode cX6_count 0 = .ok (.aload_n 0, 1) := by decide +kernel
theorem dX6_count_1 : decode cX6_count 1 = .ok (.getfield 17, 3) := by decide +kernel
theorem dX6_count_4 : decode cX6_count 4 = .ok (.invokevirtual 36, 3) := by decide +kernel
theorem dX6_count_7 : decode cX6_count 7 = .ok (.ireturn, 1) := by decide +kernel
theorem dX6_at_0 : decode cX6_at 0 = .ok (.iload_n 1, 1) := by decide +kernel
theorem dX6_at_1 : decode cX6_at 1 = .ok (.ifCond .lt 28, 3) := by decide +kernel
theorem dX6_at_4 : decode cX6_at 4 = .ok (.iload_n 1, 1) := by decide +kernel
theorem dX6_at_5 : decode cX6_at 5 = .ok (.aload_n 0, 1) := by decide +kernel
theorem dX6_at_6 : decode cX6_at 6 = .ok (.getfield 17, 3) := by decide +kernel
theorem dX6_at_9 : decode cX6_at 9 = .ok (.invokevirtual 36, 3) := by decide +kernel
theorem dX6_at_12 : decode cX6_at 12 = .ok (.if_icmp .ge 17, 3) := by decide +kernel
theorem dX6_at_15 : decode cX6_at 15 = .ok (.aload_n 0, 1) := by decide +kernel
theorem dX6_at_16 : decode cX6_at 16 = .ok (.getfield 17, 3) := by decide +kernel
theorem dX6_at_19 : decode cX6_at 19 = .ok (.iload_n 1, 1) := by decide +kernel
theorem dX6_at_20 : decode cX6_at 20 = .ok (.invokevirtual 42, 3) := by decide +kernel
theorem dX6_at_23 : decode cX6_at 23 = .ok (.checkcast 21, 3) := by decide +kernel
theorem dX6_at_26 : decode cX6_at 26 = .ok (.goto 7, 3) := by decide +kernel
theorem dX6_at_29 : decode cX6_at 29 = .ok (.aload_n 0, 1) := by decide +kernel
theorem dX6_at_30 : decode cX6_at 30 = .ok (.getfield 32, 3) := by decide +kernel
theorem dX6_at_33 : decode cX6_at 33 = .ok (.areturn, 1) := by decide +kernel
theorem dX7_init_0 : decode cX7_init 0 = .ok (.aload_n 0, 1) := by decide +kernel
theorem dX7_init_1 : decode cX7_init 1 = .ok (.invokespecial 3, 3) := by decide +kernel
theorem dX7_init_4 : decode cX7_init 4 = .ok (.aload_n 0, 1) := by decide +kernel
theorem dX7_init_5 : decode cX7_init 5 = .ok (.iload_n 1, 1) := by decide +kernel
theorem dX7_init_6 : decode cX7_init 6 = .ok (.iconst 1, 1) := by decide +kernel
theorem dX7_init_7 : decode cX7_init 7 = .ok (.iand, 1) := by decide +kernel
theorem dX7_init_8 : decode cX7_init 8 = .ok (.ifCond .eq 7, 3) := by decide +kernel
theorem dX7_init_11 : decode cX7_init 11 = .ok (.iconst 1, 1) := by decide +kernel
theorem dX7_init_12 : decode cX7_init 12 = .ok (.goto 4, 3) := by decide +kernel
theorem dX7_init_15 : decode cX7_init 15 = .ok (.iconst 0, 1) := by decide +kernel
theorem dX7_init_16 : decode cX7_init 16 = .ok (.putfield 9, 3) := by decide +kernel
theorem dX7_init_19 : decode cX7_init 19 = .ok (.aload_n 0, 1) := by decide +kernel
theorem dX7_init_20 : decode cX7_init 20 = .ok (.iload_n 1, 1) := by decide +kernel
theorem dX7_init_21 : decode cX7_init 21 = .ok (.iconst 2, 1) := by decide +kernel
theorem dX7_init_22 : decode cX7_init 22 = .ok (.iand, 1) := by decide +kernel
theorem dX7_init_23 : decode cX7_init 23 = .ok (.ifCond .eq 7, 3) := by decide +kernel
theorem dX7_init_26 : decode cX7_init 26 = .ok (.iconst 1, 1) := by decide +kernel
theorem dX7_init_27 : decode cX7_init 27 = .ok (.goto 4, 3) := by decide +kernel
theorem dX7_init_30 : decode cX7_init 30 = .ok (.iconst 0, 1) := by decide +kernel
theorem dX7_init_31 : decode cX7_init 31 = .ok (.putfield 15, 3) := by decide +kernel
theorem dX7_init_34 : decode cX7_init 34 = .ok (.aload_n 0, 1) := by decide +kernel
theorem dX7_init_35 : decode cX7_init 35 = .ok (.iload_n 1, 1) := by decide +kernel
theorem dX7_init_36 : decode cX7_init 36 = .ok (.iconst 4, 1) := by decide +kernel
theorem dX7_init_37 : decode cX7_init 37 = .ok (.iand, 1) := by decide +kernel
theorem dX7_init_38 : decode cX7_init 38 = .ok (.ifCond .eq 7, 3) := by decide +kernel
theorem dX7_init_41 : decode cX7_init 41 = .ok (.iconst 1, 1) := by decide +kernel
theorem dX7_init_42 : decode cX7_init 42 = .ok (.goto 4, 3) := by decide +kernel
theorem dX7_init_45 : decode cX7_init 45 = .ok (.iconst 0, 1) := by decide +kernel
theorem dX7_init_46 : decode cX7_init 46 = .ok (.putfield 18, 3) := by decide +kernel
theorem dX7_init_49 : decode cX7_init 49 = .ok (.aload_n 0, 1) := by decide +kernel
theorem dX7_init_50 : decode cX7_init 50 = .ok (.iload_n 1, 1) := by decide +kernel
theorem dX7_init_51 : decode cX7_init 51 = .ok (.bipush 8, 2) := by decide +kernel
theorem dX7_init_53 : decode cX7_init 53 = .ok (.iand, 1) := by decide +kernel
theorem dX7_init_54 : decode cX7_init 54 = .ok (.ifCond .eq 7, 3) := by decide +kernel
theorem dX7_init_57 : decode cX7_init 57 = .ok (.iconst 1, 1) := by decide +kernel
theorem dX7_init_58 : decode cX7_init 58 = .ok (.goto 4, 3) := by decide +kernel
theorem dX7_init_61 : decode cX7_init 61 = .ok (.iconst 0, 1) := by decide +kernel
theorem dX7_init_62 : decode cX7_init 62 = .ok (.putfield 21, 3) := by decide +kernel
theorem dX7_init_65 : decode cX7_init 65 = .ok (.aload_n 0, 1) := by decide +kernel
theorem dX7_init_66 : decode cX7_init 66 = .ok (.iload_n 1, 1) := by decide +kernel
theorem dX7_init_67 : decode cX7_init 67 = .ok (.bipush 16, 2) := by decide +kernel
theorem dX7_init_69 : decode cX7_init 69 = .ok (.iand, 1) := by decide +kernel
theorem dX7_init_70 : decode cX7_init 70 = .ok (.ifCond .eq 7, 3) := by decide +kernel
theorem dX7_init_73 : decode cX7_init 73 = .ok (.iconst 1, 1) := by decide +kernel
theorem dX7_init_74 : decode cX7_init 74 = .ok (.goto 4, 3) := by decide +kernel
theorem dX7_init_77 : decode cX7_init 77 = .ok (.iconst 0, 1) := by decide +kernel
theorem dX7_init_78 : decode cX7_init 78 = .ok (.putfield 24, 3) := by decide +kernel
theorem dX7_init_81 : decode cX7_init 81 = .ok (.aload_n 0, 1) := by decide +kernel
theorem dX7_init_82 : decode cX7_init 82 = .ok (.iload_n 1, 1) := by decide +kernel
theorem dX7_init_83 : decode cX7_init 83 = .ok (.bipush 32, 2) := by decide +kernel
theorem dX7_init_85 : decode cX7_init 85 = .ok (.iand, 1) := by decide +kernel
theorem dX7_init_86 : decode cX7_init 86 = .ok (.ifCond .eq 7, 3) := by decide +kernel
theorem dX7_init_89 : decode cX7_init 89 = .ok (.iconst 1, 1) := by decide +kernel
theorem dX7_init_90 : decode cX7_init 90 = .ok (.goto 4, 3) := by decide +kernel
theorem dX7_init_93 : decode cX7_init 93 = .ok (.iconst 0, 1) := by decide +kernel
theorem dX7_init_94 : decode cX7_init 94 = .ok (.putfield 27, 3) := by decide +kernel
theorem dX7_init_97 : decode cX7_init 97 = .ok (.return_, 1) := by decide +kernel
theorem dX7_divides_0 : decode cX7_divides 0 = .ok (.iload_n 1, 1) := by decide +kernel
theorem dX7_divides_1 : decode cX7_divides 1 = .ok (.bipush 47, 2) := by decide +kernel
theorem dX7_divides_3 : decode cX7_divides 3 = .ok (.if_icmp .eq 16, 3) := by decide +kernel
theorem dX7_divides_6 : decode cX7_divides 6 = .ok (.aload_n 0, 1) := by decide +kernel
theorem dX7_divides_7 : decode cX7_divides 7 = .ok (.getfield 9, 3) := by decide +kernel
theorem dX7_divides_10 : decode cX7_divides 10 = .ok (.ifCond .eq 13, 3) := by decide +kernel
theorem dX7_divides_13 : decode cX7_divides 13 = .ok (.iload_n 1, 1) := by decide +kernel
theorem dX7_divides_14 : decode cX7_divides 14 = .ok (.bipush 92, 2) := by decide +kernel
theorem dX7_divides_16 : decode cX7_divides 16 = .ok (.if_icmp .ne 7, 3) := by decide +kernel
theorem dX7_divides_19 : decode cX7_divides 19 = .ok (.iconst 1, 1) := by decide +kernel
theorem dX7_divides_20 : decode cX7_divides 20 = .ok (.goto 4, 3) := by decide +kernel
theorem dX7_divides_23 : decode cX7_divides 23 = .ok (.iconst 0, 1) := by decide +kernel
theorem dX7_divides_24 : decode cX7_divides 24 = .ok (.ireturn, 1) := by decide +kernel
theorem dX7_takeAsOne_0 : decode cX7_takeAsOne 0 = .ok (.aload_n 1, 1) := by decide +kernel
theorem dX7_takeAsOne_1 : decode cX7_takeAsOne 1 = .ok (.aload_n 2, 1) := by decide +kernel
theorem dX7_takeAsOne_2 : decode cX7_takeAsOne 2 = .ok (.invokevirtual 30, 3) := by decide +kernel
theorem dX7_takeAsOne_5 : decode cX7_takeAsOne 5 = .ok (.ifCond .ne 18, 3) := by decide +kernel
theorem dX7_takeAsOne_8 : decode cX7_takeAsOne 8 = .ok (.aload_n 0, 1) := by decide +kernel
theorem dX7_takeAsOne_9 : decode cX7_takeAsOne 9 = .ok (.getfield 15, 3) := by decide +kernel
theorem dX7_takeAsOne_12 : decode cX7_takeAsOne 12 = .ok (.ifCond .eq 15, 3) := by decide +kernel
theorem dX7_takeAsOne_15 : decode cX7_takeAsOne 15 = .ok (.aload_n 1, 1) := by decide +kernel
theorem dX7_takeAsOne_16 : decode cX7_takeAsOne 16 = .ok (.aload_n 2, 1) := by decide +kernel
theorem dX7_takeAsOne_17 : decode cX7_takeAsOne 17 = .ok (.invokevirtual 36, 3) := by decide +kernel
theorem dX7_takeAsOne_20 : decode cX7_takeAsOne 20 = .ok (.ifCond .eq 7, 3) := by decide +kernel
theorem dX7_takeAsOne_23 : decode cX7_takeAsOne 23 = .ok (.iconst 1, 1) := by decide +kernel
theorem dX7_takeAsOne_24 : decode cX7_takeAsOne 24 = .ok (.goto 4, 3) := by decide +kernel
theorem dX7_takeAsOne_27 : decode cX7_takeAsOne 27 = .ok (.iconst 0, 1) := by decide +kernel
theorem dX7_takeAsOne_28 : decode cX7_takeAsOne 28 = .ok (.ireturn, 1) := by decide +kernel
theorem dX8_init_0 : decode cX8_init 0 = .ok (.aload_n 0, 1) := by decide +kernel
theorem dX8_init_1 : decode cX8_init 1 = .ok (.invokespecial 3, 3) := by decide +kernel
theorem dX8_init_4 : decode cX8_init 4 = .ok (.aload_n 0, 1) := by decide +kernel
theorem dX8_init_5 : decode cX8_init 5 = .ok (.aload_n 1, 1) := by decide +kernel
theorem dX8_init_6 : decode cX8_init 6 = .ok (.putfield 9, 3) := by decide +kernel
theorem dX8_init_9 : decode cX8_init 9 = .ok (.aload_n 0, 1) := by decide +kernel
theorem dX8_init_10 : decode cX8_init 10 = .ok (.aload_n 2, 1) := by decide +kernel
theorem dX8_init_11 : decode cX8_init 11 = .ok (.putfield 15, 3) := by decide +kernel
theorem dX8_init_14 : decode cX8_init 14 = .ok (.aload_n 0, 1) := by decide +kernel
theorem dX8_init_15 : decode cX8_init 15 = .ok (.aload_n 3, 1) := by decide +kernel
theorem dX8_init_16 : decode cX8_init 16 = .ok (.putfield 19, 3) := by decide +kernel
theorem dX8_init_19 : decode cX8_init 19 = .ok (.aload_n 0, 1) := by decide +kernel
theorem dX8_init_20 : decode cX8_init 20 = .ok (.new 23, 3) := by decide +kernel
theorem dX8_init_23 : decode cX8_init 23 = .ok (.dup, 1) := by decide +kernel
theorem dX8_init_24 : decode cX8_init 24 = .ok (.invokespecial 25, 3) := by decide +kernel
theorem dX8_init_27 : decode cX8_init 27 = .ok (.putfield 26, 3) := by decide +kernel
theorem dX8_init_30 : decode cX8_init 30 = .ok (.aload_n 0, 1) := by decide +kernel
theorem dX8_init_31 : decode cX8_init 31 = .ok (.ldc2_w 30, 3) := by decide +kernel
theorem dX8_init_34 : decode cX8_init 34 = .ok (.putfield 32, 3) := by decide +kernel
theorem dX8_init_37 : decode cX8_init 37 = .ok (.aload_n 0, 1) := by decide +kernel
theorem dX8_init_38 : decode cX8_init 38 = .ok (.ldc2_w 36, 3) := by decide +kernel
theorem dX8_init_41 : decode cX8_init 41 = .ok (.putfield 38, 3) := by decide +kernel
theorem dX8_init_44 : decode cX8_init 44 = .ok (.aload_n 0, 1) := by decide +kernel
theorem dX8_init_45 : decode cX8_init 45 = .ok (.iconst 0, 1) := by decide +kernel
theorem dX8_init_46 : decode cX8_init 46 = .ok (.putfield 41, 3) := by decide +kernel
theorem dX8_init_49 : decode cX8_init 49 = .ok (.aload_n 0, 1) := by decide +kernel
theorem dX8_init_50 : decode cX8_init 50 = .ok (.lconst 0, 1) := by decide +kernel
theorem dX8_init_51 : decode cX8_init 51 = .ok (.putfield 45, 3) := by decide +kernel
theorem dX8_init_54 : decode cX8_init 54 = .ok (.aload_n 0, 1) := by decide +kernel
theorem dX8_init_55 : decode cX8_init 55 = .ok (.aload_n 2, 1) := by decide +kernel
theorem dX8_init_56 : decode cX8_init 56 = .ok (.getfield 48, 3) := by decide +kernel
theorem dX8_init_59 : decode cX8_init 59 = .ok (.putfield 54, 3) := by decide +kernel
theorem dX8_init_62 : decode cX8_init 62 = .ok (.aload_n 0, 1) := by decide +kernel
theorem dX8_init_63 : decode cX8_init 63 = .ok (.iconst 0, 1) := by decide +kernel
theorem dX8_init_64 : decode cX8_init 64 = .ok (.putfield 57, 3) := by decide +kernel
theorem dX8_init_67 : decode cX8_init 67 = .ok (.aload_n 0, 1) := by decide +kernel
theorem dX8_init_68 : decode cX8_init 68 = .ok (.aconst_null, 1) := by decide +kernel
theorem dX8_init_69 : decode cX8_init 69 = .ok (.putfield 60, 3) := by decide +kernel
theorem dX8_init_72 : decode cX8_init 72 = .ok (.aload_n 0, 1) := by decide +kernel
theorem dX8_init_73 : decode cX8_init 73 = .ok (.aconst_null, 1) := by decide +kernel
theorem dX8_init_74 : decode cX8_init 74 = .ok (.putfield 63, 3) := by decide +kernel
theorem dX8_init_77 : decode cX8_init 77 = .ok (.aload_n 0, 1) := by decide +kernel
theorem dX8_init_78 : decode cX8_init 78 = .ok (.aconst_null, 1) := by decide +kernel
theorem dX8_init_79 : decode cX8_init 79 = .ok (.putfield 66, 3) := by decide +kernel
theorem dX8_init_82 : decode cX8_init 82 = .ok (.aload_n 0, 1) := by decide +kernel
theorem dX8_init_83 : decode cX8_init 83 = .ok (.iconst 0, 1) := by decide +kernel
theorem dX8_init_84 : decode cX8_init 84 = .ok (.putfield 70, 3) := by decide +kernel
theorem dX8_init_87 : decode cX8_init 87 = .ok (.return_, 1) := by decide +kernel
theorem dX8_changeNodeLimit_0 : decode cX8_changeNodeLimit 0 = .ok (.aload_n 0, 1) := by decide +kernel
theorem dX8_changeNodeLimit_1 : decode cX8_changeNodeLimit 1 = .ok (.getfield 32, 3) := by decide +kernel
theorem dX8_changeNodeLimit_4 : decode cX8_changeNodeLimit 4 = .ok (.lstore_n 3, 1) := by decide +kernel
theorem dX8_changeNodeLimit_5 : decode cX8_changeNodeLimit 5 = .ok (.aload_n 0, 1) := by decide +kernel
theorem dX8_changeNodeLimit_6 : decode cX8_changeNodeLimit 6 = .ok (.lload_n 1, 1) := by decide +kernel
theorem dX8_changeNodeLimit_7 : decode cX8_changeNodeLimit 7 = .ok (.putfield 32, 3) := by decide +kernel
theorem dX8_changeNodeLimit_10 : decode cX8_changeNodeLimit 10 = .ok (.lload_n 3, 1) := by decide +kernel
theorem dX8_changeNodeLimit_11 : decode cX8_changeNodeLimit 11 = .ok (.lreturn, 1) := by decide +kernel
theorem dX8_changeSizeLimit_0 : decode cX8_changeSizeLimit 0 = .ok (.aload_n 0, 1) := by decide +kernel
theorem dX8_changeSizeLimit_1 : decode cX8_changeSizeLimit 1 = .ok (.getfield 38, 3) := by decide +kernel
theorem dX8_changeSizeLimit_4 : decode cX8_changeSizeLimit 4 = .ok (.lstore_n 3, 1) := by decide +kernel
theorem dX8_changeSizeLimit_5 : decode cX8_changeSizeLimit 5 = .ok (.aload_n 0, 1) := by decide +kernel
theorem dX8_changeSizeLimit_6 : decode cX8_changeSizeLimit 6 = .ok (.lload_n 1, 1) := by decide +kernel
theorem dX8_changeSizeLimit_7 : decode cX8_changeSizeLimit 7 = .ok (.putfield 38, 3) := by decide +kernel
theorem dX8_changeSizeLimit_10 : decode cX8_changeSizeLimit 10 = .ok (.lload_n 3, 1) := by decide +kernel
theorem dX8_changeSizeLimit_11 : decode cX8_changeSizeLimit 11 = .ok (.lreturn, 1) := by decide +kernel
theorem dX8_notedCount_0 : decode cX8_notedCount 0 = .ok (.aload_n 0, 1) := by decide +kernel
theorem dX8_notedCount_1 : decode cX8_notedCount 1 = .ok (.getfield 26, 3) := by decide +kernel
theorem dX8_notedCount_4 : decode cX8_notedCount 4 = .ok (.invokevirtual 74, 3) := by decide +kernel
theorem dX8_notedCount_7 : decode cX8_notedCount 7 = .ok (.ireturn, 1) := by decide +kernel
theorem dX8_setNotedRights_0 : decode cX8_setNotedRights 0 = .ok (.iconst 0, 1) := by decide +kernel
theorem dX8_setNotedRights_1 : decode cX8_setNotedRights 1 = .ok (.istore_n 1, 1) := by decide +kernel
theorem dX8_setNotedRights_2 : decode cX8_setNotedRights 2 = .ok (.iload_n 1, 1) := by decide +kernel
theorem dX8_setNotedRights_3 : decode cX8_setNotedRights 3 = .ok (.aload_n 0, 1) := by decide +kernel
theorem dX8_setNotedRights_4 : decode cX8_setNotedRights 4 = .ok (.getfield 26, 3) := by decide +kernel
theorem dX8_setNotedRights_7 : decode cX8_setNotedRights 7 = .ok (.invokevirtual 74, 3) := by decide +kernel
theorem dX8_setNotedRights_10 : decode cX8_setNotedRights 10 = .ok (.if_icmp .ge 32, 3) := by decide +kernel
theorem dX8_setNotedRights_13 : decode cX8_setNotedRights 13 = .ok (.aload_n 0, 1) := by decide +kernel
theorem dX8_setNotedRights_14 : decode cX8_setNotedRights 14 = .ok (.getfield 26, 3) := by decide +kernel
theorem dX8_setNotedRights_17 : decode cX8_setNotedRights 17 = .ok (.iload_n 1, 1) := by decide +kernel
theorem dX8_setNotedRights_18 : decode cX8_setNotedRights 18 = .ok (.invokevirtual 78, 3) := by decide +kernel
theorem dX8_setNotedRights_21 : decode cX8_setNotedRights 21 = .ok (.checkcast 82, 3) := by decide +kernel
theorem dX8_setNotedRights_24 : decode cX8_setNotedRights 24 = .ok (.astore_n 2, 1) := by decide +kernel
theorem dX8_setNotedRights_25 : decode cX8_setNotedRights 25 = .ok (.aload_n 2, 1) := by decide +kernel
theorem dX8_setNotedRights_26 : decode cX8_setNotedRights 26 = .ok (.getfield 84, 3) := by decide +kernel
theorem dX8_setNotedRights_29 : decode cX8_setNotedRights 29 = .ok (.aload_n 2, 1) := by decide +kernel
theorem dX8_setNotedRights_30 : decode cX8_setNotedRights 30 = .ok (.getfield 85, 3) := by decide +kernel
theorem dX8_setNotedRights_33 : decode cX8_setNotedRights 33 = .ok (.putfield 88, 3) := by decide +kernel
theorem dX8_setNotedRights_36 : decode cX8_setNotedRights 36 = .ok (.iinc 1 1, 3) := by decide +kernel
theorem dX8_setNotedRights_39 : decode cX8_setNotedRights 39 = .ok (.goto (-37), 3) := by decide +kernel
theorem dX8_setNotedRights_42 : decode cX8_setNotedRights 42 = .ok (.aload_n 0, 1) := by decide +kernel
theorem dX8_setNotedRights_43 : decode cX8_setNotedRights 43 = .ok (.getfield 26, 3) := by decide +kernel
theorem dX8_setNotedRights_46 : decode cX8_setNotedRights 46 = .ok (.invokevirtual 91, 3) := by decide +kernel
theorem dX8_setNotedRights_49 : decode cX8_setNotedRights 49 = .ok (.return_, 1) := by decide +kernel
theorem dX8_judge_0 : decode cX8_judge 0 = .ok (.aload_n 0, 1) := by decide +kernel
theorem dX8_judge_1 : decode cX8_judge 1 = .ok (.invokevirtual 94, 3) := by decide +kernel
theorem dX8_judge_4 : decode cX8_judge 4 = .ok (.aload_n 0, 1) := by decide +kernel
theorem dX8_judge_5 : decode cX8_judge 5 = .ok (.aload_n 1, 1) := by decide +kernel
theorem dX8_judge_6 : decode cX8_judge 6 = .ok (.getfield 97, 3) := by decide +kernel
theorem dX8_judge_9 : decode cX8_judge 9 = .ok (.invokevirtual 103, 3) := by decide +kernel
theorem dX8_judge_12 : decode cX8_judge 12 = .ok (.istore_n 2, 1) := by decide +kernel
theorem dX8_judge_13 : decode cX8_judge 13 = .ok (.iload_n 2, 1) := by decide +kernel
theorem dX8_judge_14 : decode cX8_judge 14 = .ok (.ifCond .ne 24, 3) := by decide +kernel
theorem dX8_judge_17 : decode cX8_judge 17 = .ok (.aload_n 0, 1) := by decide +kernel
theorem dX8_judge_18 : decode cX8_judge 18 = .ok (.aload_n 1, 1) := by decide +kernel
theorem dX8_judge_19 : decode cX8_judge 19 = .ok (.getfield 97, 3) := by decide +kernel
theorem dX8_judge_22 : decode cX8_judge 22 = .ok (.aload_n 1, 1) := by decide +kernel
theorem dX8_judge_23 : decode cX8_judge 23 = .ok (.getfield 97, 3) := by decide +kernel
theorem dX8_judge_26 : decode cX8_judge 26 = .ok (.invokevirtual 107, 3) := by decide +kernel
theorem dX8_judge_29 : decode cX8_judge 29 = .ok (.iconst 1, 1) := by decide +kernel
theorem dX8_judge_30 : decode cX8_judge 30 = .ok (.isub, 1) := by decide +kernel
theorem dX8_judge_31 : decode cX8_judge 31 = .ok (.invokevirtual 112, 3) := by decide +kernel
theorem dX8_judge_34 : decode cX8_judge 34 = .ok (.invokevirtual 116, 3) := by decide +kernel
theorem dX8_judge_37 : decode cX8_judge 37 = .ok (.istore_n 2, 1) := by decide +kernel
theorem dX8_judge_38 : decode cX8_judge 38 = .ok (.iload_n 2, 1) := by decide +kernel
theorem dX8_judge_39 : decode cX8_judge 39 = .ok (.ifCond .ne 9, 3) := by decide +kernel
theorem dX8_judge_42 : decode cX8_judge 42 = .ok (.aload_n 0, 1) := by decide +kernel
theorem dX8_judge_43 : decode cX8_judge 43 = .ok (.aload_n 1, 1) := by decide +kernel
theorem dX8_judge_44 : decode cX8_judge 44 = .ok (.invokevirtual 120, 3) := by decide +kernel
theorem dX8_judge_47 : decode cX8_judge 47 = .ok (.istore_n 2, 1) := by decide +kernel
theorem dX8_judge_48 : decode cX8_judge 48 = .ok (.iload_n 2, 1) := by decide +kernel
theorem dX8_judge_49 : decode cX8_judge 49 = .ok (.ifCond .ne 16, 3) := by decide +kernel
theorem dX8_judge_52 : decode cX8_judge 52 = .ok (.aload_n 0, 1) := by decide +kernel
theorem dX8_judge_53 : decode cX8_judge 53 = .ok (.getfield 63, 3) := by decide +kernel
theorem dX8_judge_56 : decode cX8_judge 56 = .ok (.ifnonnull 9, 3) := by decide +kernel
theorem dX8_judge_59 : decode cX8_judge 59 = .ok (.aload_n 0, 1) := by decide +kernel
theorem dX8_judge_60 : decode cX8_judge 60 = .ok (.aload_n 1, 1) := by decide +kernel
theorem dX8_judge_61 : decode cX8_judge 61 = .ok (.invokevirtual 124, 3) := by decide +kernel
theorem dX8_judge_64 : decode cX8_judge 64 = .ok (.istore_n 2, 1) := by decide +kernel
theorem dX8_judge_65 : decode cX8_judge 65 = .ok (.iload_n 2, 1) := by decide +kernel
theorem dX8_judge_66 : decode cX8_judge 66 = .ok (.ireturn, 1) := by decide +kernel
theorem dX8_forgetLastJudgement_0 : decode cX8_forgetLastJudgement 0 = .ok (.aload_n 0, 1) := by decide +kernel
theorem dX8_forgetLastJudgement_1 : decode cX8_forgetLastJudgement 1 = .ok (.aload_n 0, 1) := by decide +kernel
theorem dX8_forgetLastJudgement_2 : decode cX8_forgetLastJudgement 2 = .ok (.getfield 15, 3) := by decide +kernel
theorem dX8_forgetLastJudgement_5 : decode cX8_forgetLastJudgement 5 = .ok (.getfield 48, 3) := by decide +kernel
theorem dX8_forgetLastJudgement_8 : decode cX8_forgetLastJudgement 8 = .ok (.putfield 54, 3) := by decide +kernel
theorem dX8_forgetLastJudgement_11 : decode cX8_forgetLastJudgement 11 = .ok (.aload_n 0, 1) := by decide +kernel
theorem dX8_forgetLastJudgement_12 : decode cX8_forgetLastJudgement 12 = .ok (.iconst 0, 1) := by decide +kernel
theorem dX8_forgetLastJudgement_13 : decode cX8_forgetLastJudgement 13 = .ok (.putfield 57, 3) := by decide +kernel
theorem dX8_forgetLastJudgement_16 : decode cX8_forgetLastJudgement 16 = .ok (.aload_n 0, 1) := by decide +kernel
theorem dX8_forgetLastJudgement_17 : decode cX8_forgetLastJudgement 17 = .ok (.aconst_null, 1) := by decide +kernel
theorem dX8_forgetLastJudgement_18 : decode cX8_forgetLastJudgement 18 = .ok (.putfield 60, 3) := by decide +kernel
theorem dX8_forgetLastJudgement_21 : decode cX8_forgetLastJudgement 21 = .ok (.aload_n 0, 1) := by decide +kernel
theorem dX8_forgetLastJudgement_22 : decode cX8_forgetLastJudgement 22 = .ok (.aconst_null, 1) := by decide +kernel
theorem dX8_forgetLastJudgement_23 : decode cX8_forgetLastJudgement 23 = .ok (.putfield 63, 3) := by decide +kernel
theorem dX8_forgetLastJudgement_26 : decode cX8_forgetLastJudgement 26 = .ok (.aload_n 0, 1) := by decide +kernel
theorem dX8_forgetLastJudgement_27 : decode cX8_forgetLastJudgement 27 = .ok (.aconst_null, 1) := by decide +kernel
theorem dX8_forgetLastJudgement_28 : decode cX8_forgetLastJudgement 28 = .ok (.putfield 66, 3) := by decide +kernel
theorem dX8_forgetLastJudgement_31 : decode cX8_forgetLastJudgement 31 = .ok (.aload_n 0, 1) := by decide +kernel
theorem dX8_forgetLastJudgement_32 : decode cX8_forgetLastJudgement 32 = .ok (.iconst 0, 1) := by decide +kernel
theorem dX8_forgetLastJudgement_33 : decode cX8_forgetLastJudgement 33 = .ok (.putfield 70, 3) := by decide +kernel
theorem dX8_forgetLastJudgement_36 : decode cX8_forgetLastJudgement 36 = .ok (.return_, 1) := by decide +kernel
theorem dX8_judgeWay_0 : decode cX8_judgeWay 0 = .ok (.iconst 0, 1) := by decide +kernel
theorem dX8_judgeWay_1 : decode cX8_judgeWay 1 = .ok (.istore_n 2, 1) := by decide +kernel
theorem dX8_judgeWay_2 : decode cX8_judgeWay 2 = .ok (.iload_n 2, 1) := by decide +kernel
theorem dX8_judgeWay_3 : decode cX8_judgeWay 3 = .ok (.iconst 1, 1) := by decide +kernel
theorem dX8_judgeWay_4 : decode cX8_judgeWay 4 = .ok (.iadd, 1) := by decide +kernel
theorem dX8_judgeWay_5 : decode cX8_judgeWay 5 = .ok (.aload_n 1, 1) := by decide +kernel
theorem dX8_judgeWay_6 : decode cX8_judgeWay 6 = .ok (.invokevirtual 107, 3) := by decide +kernel
theorem dX8_judgeWay_9 : decode cX8_judgeWay 9 = .ok (.if_icmp .ge 25, 3) := by decide +kernel
theorem dX8_judgeWay_12 : decode cX8_judgeWay 12 = .ok (.aload_n 0, 1) := by decide +kernel
theorem dX8_judgeWay_13 : decode cX8_judgeWay 13 = .ok (.aload_n 1, 1) := by decide +kernel
theorem dX8_judgeWay_14 : decode cX8_judgeWay 14 = .ok (.iload_n 2, 1) := by decide +kernel
theorem dX8_judgeWay_15 : decode cX8_judgeWay 15 = .ok (.invokevirtual 112, 3) := by decide +kernel
theorem dX8_judgeWay_18 : decode cX8_judgeWay 18 = .ok (.invokevirtual 127, 3) := by decide +kernel
end
section
theorem dX8_judgeWay_21 : decode cX8_judgeWay 21 = .ok (.istore_n 3, 1) := by decide +kernel
theorem dX8_judgeWay_22 : decode cX8_judgeWay 22 = .ok (.iload_n 3, 1) := by decide +kernel
theorem dX8_judgeWay_23 : decode cX8_judgeWay 23 = .ok (.ifCond .eq 5, 3) := by decide +kernel
theorem dX8_judgeWay_26 : decode cX8_judgeWay 26 = .ok (.iload_n 3, 1) := by decide +kernel
theorem dX8_judgeWay_27 : decode cX8_judgeWay 27 = .ok (.ireturn, 1) := by decide +kernel
theorem dX8_judgeWay_28 : decode cX8_judgeWay 28 = .ok (.iinc 2 1, 3) := by decide +kernel
theorem dX8_judgeWay_31 : decode cX8_judgeWay 31 = .ok (.goto (-29), 3) := by decide +kernel
theorem dX8_judgeWay_34 : decode cX8_judgeWay 34 = .ok (.iconst 0, 1) := by decide +kernel
theorem dX8_judgeWay_35 : decode cX8_judgeWay 35 = .ok (.ireturn, 1) := by decide +kernel
theorem dX8_judgeWayPart_0 : decode cX8_judgeWayPart 0 = .ok (.aload_n 0, 1) := by decide +kernel
theorem dX8_judgeWayPart_1 : decode cX8_judgeWayPart 1 = .ok (.aload_n 1, 1) := by decide +kernel
theorem dX8_judgeWayPart_2 : decode cX8_judgeWayPart 2 = .ok (.invokevirtual 130, 3) := by decide +kernel
theorem dX8_judgeWayPart_5 : decode cX8_judgeWayPart 5 = .ok (.astore_n 2, 1) := by decide +kernel
theorem dX8_judgeWayPart_6 : decode cX8_judgeWayPart 6 = .ok (.aload_n 2, 1) := by decide +kernel
theorem dX8_judgeWayPart_7 : decode cX8_judgeWayPart 7 = .ok (.ifnonnull 8, 3) := by decide +kernel
theorem dX8_judgeWayPart_10 : decode cX8_judgeWayPart 10 = .ok (.aload_n 0, 1) := by decide +kernel
theorem dX8_judgeWayPart_11 : decode cX8_judgeWayPart 11 = .ok (.invokevirtual 134, 3) := by decide +kernel
theorem dX8_judgeWayPart_14 : decode cX8_judgeWayPart 14 = .ok (.ireturn, 1) := by decide +kernel
theorem dX8_judgeWayPart_15 : decode cX8_judgeWayPart 15 = .ok (.aload_n 0, 1) := by decide +kernel
theorem dX8_judgeWayPart_16 : decode cX8_judgeWayPart 16 = .ok (.aload_n 2, 1) := by decide +kernel
theorem dX8_judgeWayPart_17 : decode cX8_judgeWayPart 17 = .ok (.aload_n 1, 1) := by decide +kernel
theorem dX8_judgeWayPart_18 : decode cX8_judgeWayPart 18 = .ok (.invokevirtual 137, 3) := by decide +kernel
theorem dX8_judgeWayPart_21 : decode cX8_judgeWayPart 21 = .ok (.ifCond .eq 6, 3) := by decide +kernel
theorem dX8_judgeWayPart_24 : decode cX8_judgeWayPart 24 = .ok (.bipush (-12), 2) := by decide +kernel
theorem dX8_judgeWayPart_26 : decode cX8_judgeWayPart 26 = .ok (.ireturn, 1) := by decide +kernel
theorem dX8_judgeWayPart_27 : decode cX8_judgeWayPart 27 = .ok (.aload_n 2, 1) := by decide +kernel
theorem dX8_judgeWayPart_28 : decode cX8_judgeWayPart 28 = .ok (.getfield 141, 3) := by decide +kernel
theorem dX8_judgeWayPart_31 : decode cX8_judgeWayPart 31 = .ok (.ifnull 6, 3) := by decide +kernel
theorem dX8_judgeWayPart_34 : decode cX8_judgeWayPart 34 = .ok (.bipush (-14), 2) := by decide +kernel
theorem dX8_judgeWayPart_36 : decode cX8_judgeWayPart 36 = .ok (.ireturn, 1) := by decide +kernel
theorem dX8_judgeWayPart_37 : decode cX8_judgeWayPart 37 = .ok (.aload_n 2, 1) := by decide +kernel
theorem dX8_judgeWayPart_38 : decode cX8_judgeWayPart 38 = .ok (.getfield 144, 3) := by decide +kernel
theorem dX8_judgeWayPart_41 : decode cX8_judgeWayPart 41 = .ok (.ifnull 6, 3) := by decide +kernel
theorem dX8_judgeWayPart_44 : decode cX8_judgeWayPart 44 = .ok (.bipush (-15), 2) := by decide +kernel
theorem dX8_judgeWayPart_46 : decode cX8_judgeWayPart 46 = .ok (.ireturn, 1) := by decide +kernel
theorem dX8_judgeWayPart_47 : decode cX8_judgeWayPart 47 = .ok (.aload_n 0, 1) := by decide +kernel
theorem dX8_judgeWayPart_48 : decode cX8_judgeWayPart 48 = .ok (.aload_n 2, 1) := by decide +kernel
theorem dX8_judgeWayPart_49 : decode cX8_judgeWayPart 49 = .ok (.putfield 54, 3) := by decide +kernel
theorem dX8_judgeWayPart_52 : decode cX8_judgeWayPart 52 = .ok (.iconst 0, 1) := by decide +kernel
theorem dX8_judgeWayPart_53 : decode cX8_judgeWayPart 53 = .ok (.ireturn, 1) := by decide +kernel
theorem dX8_nextBy_0 : decode cX8_nextBy 0 = .ok (.aload_n 0, 1) := by decide +kernel
theorem dX8_nextBy_1 : decode cX8_nextBy 1 = .ok (.getfield 57, 3) := by decide +kernel
theorem dX8_nextBy_4 : decode cX8_nextBy 4 = .ok (.ifCond .le 7, 3) := by decide +kernel
theorem dX8_nextBy_7 : decode cX8_nextBy 7 = .ok (.aconst_null, 1) := by decide +kernel
theorem dX8_nextBy_8 : decode cX8_nextBy 8 = .ok (.goto 15, 3) := by decide +kernel
theorem dX8_nextBy_11 : decode cX8_nextBy 11 = .ok (.aload_n 0, 1) := by decide +kernel
theorem dX8_nextBy_12 : decode cX8_nextBy 12 = .ok (.getfield 15, 3) := by decide +kernel
theorem dX8_nextBy_15 : decode cX8_nextBy 15 = .ok (.aload_n 0, 1) := by decide +kernel
theorem dX8_nextBy_16 : decode cX8_nextBy 16 = .ok (.getfield 54, 3) := by decide +kernel
theorem dX8_nextBy_19 : decode cX8_nextBy 19 = .ok (.aload_n 1, 1) := by decide +kernel
theorem dX8_nextBy_20 : decode cX8_nextBy 20 = .ok (.invokevirtual 147, 3) := by decide +kernel
theorem dX8_nextBy_23 : decode cX8_nextBy 23 = .ok (.areturn, 1) := by decide +kernel
theorem dX8_judgeLack_0 : decode cX8_judgeLack 0 = .ok (.aload_n 0, 1) := by decide +kernel
theorem dX8_judgeLack_1 : decode cX8_judgeLack 1 = .ok (.getfield 9, 3) := by decide +kernel
theorem dX8_judgeLack_4 : decode cX8_judgeLack 4 = .ok (.getfield 151, 3) := by decide +kernel
theorem dX8_judgeLack_7 : decode cX8_judgeLack 7 = .ok (.ifCond .ne 6, 3) := by decide +kernel
theorem dX8_judgeLack_10 : decode cX8_judgeLack 10 = .ok (.bipush (-13), 2) := by decide +kernel
theorem dX8_judgeLack_12 : decode cX8_judgeLack 12 = .ok (.ireturn, 1) := by decide +kernel
theorem dX8_judgeLack_13 : decode cX8_judgeLack 13 = .ok (.aload_n 0, 1) := by decide +kernel
theorem dX8_judgeLack_14 : decode cX8_judgeLack 14 = .ok (.invokevirtual 156, 3) := by decide +kernel
theorem dX8_judgeLack_17 : decode cX8_judgeLack 17 = .ok (.ifCond .eq 6, 3) := by decide +kernel
theorem dX8_judgeLack_20 : decode cX8_judgeLack 20 = .ok (.bipush (-16), 2) := by decide +kernel
theorem dX8_judgeLack_22 : decode cX8_judgeLack 22 = .ok (.ireturn, 1) := by decide +kernel
theorem dX8_judgeLack_23 : decode cX8_judgeLack 23 = .ok (.aload_n 0, 1) := by decide +kernel
theorem dX8_judgeLack_24 : decode cX8_judgeLack 24 = .ok (.dup, 1) := by decide +kernel
theorem dX8_judgeLack_25 : decode cX8_judgeLack 25 = .ok (.getfield 57, 3) := by decide +kernel
theorem dX8_judgeLack_28 : decode cX8_judgeLack 28 = .ok (.iconst 1, 1) := by decide +kernel
theorem dX8_judgeLack_29 : decode cX8_judgeLack 29 = .ok (.iadd, 1) := by decide +kernel
theorem dX8_judgeLack_30 : decode cX8_judgeLack 30 = .ok (.putfield 57, 3) := by decide +kernel
theorem dX8_judgeLack_33 : decode cX8_judgeLack 33 = .ok (.iconst 0, 1) := by decide +kernel
theorem dX8_judgeLack_34 : decode cX8_judgeLack 34 = .ok (.ireturn, 1) := by decide +kernel
theorem dX8_isShut_0 : decode cX8_isShut 0 = .ok (.aload_n 0, 1) := by decide +kernel
theorem dX8_isShut_1 : decode cX8_isShut 1 = .ok (.getfield 57, 3) := by decide +kernel
theorem dX8_isShut_4 : decode cX8_isShut 4 = .ok (.ifCond .ne 17, 3) := by decide +kernel
theorem dX8_isShut_7 : decode cX8_isShut 7 = .ok (.aload_n 0, 1) := by decide +kernel
theorem dX8_isShut_8 : decode cX8_isShut 8 = .ok (.getfield 54, 3) := by decide +kernel
theorem dX8_isShut_11 : decode cX8_isShut 11 = .ok (.getfield 88, 3) := by decide +kernel
theorem dX8_isShut_14 : decode cX8_isShut 14 = .ok (.ifCond .eq 7, 3) := by decide +kernel
theorem dX8_isShut_17 : decode cX8_isShut 17 = .ok (.iconst 1, 1) := by decide +kernel
theorem dX8_isShut_18 : decode cX8_isShut 18 = .ok (.goto 4, 3) := by decide +kernel
theorem dX8_isShut_21 : decode cX8_isShut 21 = .ok (.iconst 0, 1) := by decide +kernel
theorem dX8_isShut_22 : decode cX8_isShut 22 = .ok (.ireturn, 1) := by decide +kernel
theorem dX8_isRefusedMeeting_0 : decode cX8_isRefusedMeeting 0 = .ok (.aload_n 0, 1) := by decide +kernel
theorem dX8_isRefusedMeeting_1 : decode cX8_isRefusedMeeting 1 = .ok (.getfield 9, 3) := by decide +kernel
theorem dX8_isRefusedMeeting_4 : decode cX8_isRefusedMeeting 4 = .ok (.getfield 160, 3) := by decide +kernel
theorem dX8_isRefusedMeeting_7 : decode cX8_isRefusedMeeting 7 = .ok (.ifCond .ne 18, 3) := by decide +kernel
theorem dX8_isRefusedMeeting_10 : decode cX8_isRefusedMeeting 10 = .ok (.aload_n 1, 1) := by decide +kernel
theorem dX8_isRefusedMeeting_11 : decode cX8_isRefusedMeeting 11 = .ok (.getfield 163, 3) := by decide +kernel
theorem dX8_isRefusedMeeting_14 : decode cX8_isRefusedMeeting 14 = .ok (.aload_n 2, 1) := by decide +kernel
theorem dX8_isRefusedMeeting_15 : decode cX8_isRefusedMeeting 15 = .ok (.invokevirtual 167, 3) := by decide +kernel
theorem dX8_isRefusedMeeting_18 : decode cX8_isRefusedMeeting 18 = .ok (.ifCond .ne 7, 3) := by decide +kernel
theorem dX8_isRefusedMeeting_21 : decode cX8_isRefusedMeeting 21 = .ok (.iconst 1, 1) := by decide +kernel
theorem dX8_isRefusedMeeting_22 : decode cX8_isRefusedMeeting 22 = .ok (.goto 4, 3) := by decide +kernel
theorem dX8_isRefusedMeeting_25 : decode cX8_isRefusedMeeting 25 = .ok (.iconst 0, 1) := by decide +kernel
theorem dX8_isRefusedMeeting_26 : decode cX8_isRefusedMeeting 26 = .ok (.ireturn, 1) := by decide +kernel
theorem dX8_judgeLast_0 : decode cX8_judgeLast 0 = .ok (.aload_n 0, 1) := by decide +kernel
theorem dX8_judgeLast_1 : decode cX8_judgeLast 1 = .ok (.aload_n 0, 1) := by decide +kernel
theorem dX8_judgeLast_2 : decode cX8_judgeLast 2 = .ok (.aload_n 1, 1) := by decide +kernel
theorem dX8_judgeLast_3 : decode cX8_judgeLast 3 = .ok (.invokevirtual 130, 3) := by decide +kernel
theorem dX8_judgeLast_6 : decode cX8_judgeLast 6 = .ok (.putfield 60, 3) := by decide +kernel
theorem dX8_judgeLast_9 : decode cX8_judgeLast 9 = .ok (.aload_n 0, 1) := by decide +kernel
theorem dX8_judgeLast_10 : decode cX8_judgeLast 10 = .ok (.getfield 60, 3) := by decide +kernel
theorem dX8_judgeLast_13 : decode cX8_judgeLast 13 = .ok (.ifnull 20, 3) := by decide +kernel
theorem dX8_judgeLast_16 : decode cX8_judgeLast 16 = .ok (.aload_n 0, 1) := by decide +kernel
theorem dX8_judgeLast_17 : decode cX8_judgeLast 17 = .ok (.aload_n 0, 1) := by decide +kernel
theorem dX8_judgeLast_18 : decode cX8_judgeLast 18 = .ok (.getfield 60, 3) := by decide +kernel
theorem dX8_judgeLast_21 : decode cX8_judgeLast 21 = .ok (.aload_n 1, 1) := by decide +kernel
theorem dX8_judgeLast_22 : decode cX8_judgeLast 22 = .ok (.invokevirtual 137, 3) := by decide +kernel
theorem dX8_judgeLast_25 : decode cX8_judgeLast 25 = .ok (.ifCond .eq 8, 3) := by decide +kernel
theorem dX8_judgeLast_28 : decode cX8_judgeLast 28 = .ok (.bipush (-12), 2) := by decide +kernel
theorem dX8_judgeLast_30 : decode cX8_judgeLast 30 = .ok (.goto 4, 3) := by decide +kernel
theorem dX8_judgeLast_33 : decode cX8_judgeLast 33 = .ok (.iconst 0, 1) := by decide +kernel
theorem dX8_judgeLast_34 : decode cX8_judgeLast 34 = .ok (.ireturn, 1) := by decide +kernel
theorem dX8_judgeKind_0 : decode cX8_judgeKind 0 = .ok (.aload_n 1, 1) := by decide +kernel
theorem dX8_judgeKind_1 : decode cX8_judgeKind 1 = .ok (.getfield 173, 3) := by decide +kernel
theorem dX8_judgeKind_4 : decode cX8_judgeKind 4 = .ok (.iconst 4, 1) := by decide +kernel
theorem dX8_judgeKind_5 : decode cX8_judgeKind 5 = .ok (.if_icmp .ne 6, 3) := by decide +kernel
theorem dX8_judgeKind_8 : decode cX8_judgeKind 8 = .ok (.bipush (-20), 2) := by decide +kernel
theorem dX8_judgeKind_10 : decode cX8_judgeKind 10 = .ok (.ireturn, 1) := by decide +kernel
theorem dX8_judgeKind_11 : decode cX8_judgeKind 11 = .ok (.aload_n 1, 1) := by decide +kernel
theorem dX8_judgeKind_12 : decode cX8_judgeKind 12 = .ok (.getfield 173, 3) := by decide +kernel
theorem dX8_judgeKind_15 : decode cX8_judgeKind 15 = .ok (.ifCond .ne 30, 3) := by decide +kernel
theorem dX8_judgeKind_18 : decode cX8_judgeKind 18 = .ok (.aload_n 0, 1) := by decide +kernel
theorem dX8_judgeKind_19 : decode cX8_judgeKind 19 = .ok (.getfield 60, 3) := by decide +kernel
theorem dX8_judgeKind_22 : decode cX8_judgeKind 22 = .ok (.ifnull 23, 3) := by decide +kernel
theorem dX8_judgeKind_25 : decode cX8_judgeKind 25 = .ok (.aload_n 0, 1) := by decide +kernel
theorem dX8_judgeKind_26 : decode cX8_judgeKind 26 = .ok (.getfield 60, 3) := by decide +kernel
theorem dX8_judgeKind_29 : decode cX8_judgeKind 29 = .ok (.invokevirtual 176, 3) := by decide +kernel
theorem dX8_judgeKind_32 : decode cX8_judgeKind 32 = .ok (.ifCond .eq 13, 3) := by decide +kernel
theorem dX8_judgeKind_35 : decode cX8_judgeKind 35 = .ok (.aload_n 0, 1) := by decide +kernel
theorem dX8_judgeKind_36 : decode cX8_judgeKind 36 = .ok (.aload_n 0, 1) := by decide +kernel
theorem dX8_judgeKind_37 : decode cX8_judgeKind 37 = .ok (.getfield 60, 3) := by decide +kernel
theorem dX8_judgeKind_40 : decode cX8_judgeKind 40 = .ok (.putfield 63, 3) := by decide +kernel
theorem dX8_judgeKind_43 : decode cX8_judgeKind 43 = .ok (.iconst 0, 1) := by decide +kernel
theorem dX8_judgeKind_44 : decode cX8_judgeKind 44 = .ok (.ireturn, 1) := by decide +kernel
theorem dX8_judgeKind_45 : decode cX8_judgeKind 45 = .ok (.aload_n 0, 1) := by decide +kernel
theorem dX8_judgeKind_46 : decode cX8_judgeKind 46 = .ok (.aload_n 1, 1) := by decide +kernel
theorem dX8_judgeKind_47 : decode cX8_judgeKind 47 = .ok (.getfield 173, 3) := by decide +kernel
theorem dX8_judgeKind_50 : decode cX8_judgeKind 50 = .ok (.invokevirtual 179, 3) := by decide +kernel
theorem dX8_judgeKind_53 : decode cX8_judgeKind 53 = .ok (.ifCond .eq 6, 3) := by decide +kernel
theorem dX8_judgeKind_56 : decode cX8_judgeKind 56 = .ok (.bipush (-17), 2) := by decide +kernel
theorem dX8_judgeKind_58 : decode cX8_judgeKind 58 = .ok (.ireturn, 1) := by decide +kernel
theorem dX8_judgeKind_59 : decode cX8_judgeKind 59 = .ok (.aload_n 0, 1) := by decide +kernel
theorem dX8_judgeKind_60 : decode cX8_judgeKind 60 = .ok (.invokevirtual 156, 3) := by decide +kernel
theorem dX8_judgeKind_63 : decode cX8_judgeKind 63 = .ok (.ifCond .eq 6, 3) := by decide +kernel
theorem dX8_judgeKind_66 : decode cX8_judgeKind 66 = .ok (.bipush (-16), 2) := by decide +kernel
theorem dX8_judgeKind_68 : decode cX8_judgeKind 68 = .ok (.ireturn, 1) := by decide +kernel
theorem dX8_judgeKind_69 : decode cX8_judgeKind 69 = .ok (.aload_n 1, 1) := by decide +kernel
theorem dX8_judgeKind_70 : decode cX8_judgeKind 70 = .ok (.getfield 173, 3) := by decide +kernel
theorem dX8_judgeKind_73 : decode cX8_judgeKind 73 = .ok (.iconst 2, 1) := by decide +kernel
theorem dX8_judgeKind_74 : decode cX8_judgeKind 74 = .ok (.if_icmp .ne 59, 3) := by decide +kernel
theorem dX8_judgeKind_77 : decode cX8_judgeKind 77 = .ok (.aload_n 0, 1) := by decide +kernel
theorem dX8_judgeKind_78 : decode cX8_judgeKind 78 = .ok (.aload_n 0, 1) := by decide +kernel
theorem dX8_judgeKind_79 : decode cX8_judgeKind 79 = .ok (.getfield 19, 3) := by decide +kernel
theorem dX8_judgeKind_82 : decode cX8_judgeKind 82 = .ok (.aload_n 1, 1) := by decide +kernel
theorem dX8_judgeKind_83 : decode cX8_judgeKind 83 = .ok (.getfield 183, 3) := by decide +kernel
theorem dX8_judgeKind_86 : decode cX8_judgeKind 86 = .ok (.aload_n 0, 1) := by decide +kernel
theorem dX8_judgeKind_87 : decode cX8_judgeKind 87 = .ok (.getfield 54, 3) := by decide +kernel
theorem dX8_judgeKind_90 : decode cX8_judgeKind 90 = .ok (.aload_n 0, 1) := by decide +kernel
theorem dX8_judgeKind_91 : decode cX8_judgeKind 91 = .ok (.getfield 57, 3) := by decide +kernel
theorem dX8_judgeKind_94 : decode cX8_judgeKind 94 = .ok (.invokevirtual 186, 3) := by decide +kernel
theorem dX8_judgeKind_97 : decode cX8_judgeKind 97 = .ok (.iconst (-1), 1) := by decide +kernel
theorem dX8_judgeKind_98 : decode cX8_judgeKind 98 = .ok (.if_icmp .ne 7, 3) := by decide +kernel
theorem dX8_judgeKind_101 : decode cX8_judgeKind 101 = .ok (.iconst 1, 1) := by decide +kernel
theorem dX8_judgeKind_102 : decode cX8_judgeKind 102 = .ok (.goto 4, 3) := by decide +kernel
theorem dX8_judgeKind_105 : decode cX8_judgeKind 105 = .ok (.iconst 0, 1) := by decide +kernel
theorem dX8_judgeKind_106 : decode cX8_judgeKind 106 = .ok (.putfield 70, 3) := by decide +kernel
theorem dX8_judgeKind_109 : decode cX8_judgeKind 109 = .ok (.aload_n 0, 1) := by decide +kernel
theorem dX8_judgeKind_110 : decode cX8_judgeKind 110 = .ok (.getfield 70, 3) := by decide +kernel
theorem dX8_judgeKind_113 : decode cX8_judgeKind 113 = .ok (.ifCond .eq 18, 3) := by decide +kernel
theorem dX8_judgeKind_116 : decode cX8_judgeKind 116 = .ok (.aload_n 0, 1) := by decide +kernel
theorem dX8_judgeKind_117 : decode cX8_judgeKind 117 = .ok (.getfield 9, 3) := by decide +kernel
theorem dX8_judgeKind_120 : decode cX8_judgeKind 120 = .ok (.getfield 192, 3) := by decide +kernel
theorem dX8_judgeKind_123 : decode cX8_judgeKind 123 = .ok (.ifCond .ne 8, 3) := by decide +kernel
theorem dX8_judgeKind_126 : decode cX8_judgeKind 126 = .ok (.bipush (-18), 2) := by decide +kernel
theorem dX8_judgeKind_128 : decode cX8_judgeKind 128 = .ok (.goto 4, 3) := by decide +kernel
theorem dX8_judgeKind_131 : decode cX8_judgeKind 131 = .ok (.iconst 0, 1) := by decide +kernel
theorem dX8_judgeKind_132 : decode cX8_judgeKind 132 = .ok (.ireturn, 1) := by decide +kernel
theorem dX8_judgeKind_133 : decode cX8_judgeKind 133 = .ok (.aload_n 1, 1) := by decide +kernel
theorem dX8_judgeKind_134 : decode cX8_judgeKind 134 = .ok (.getfield 173, 3) := by decide +kernel
theorem dX8_judgeKind_137 : decode cX8_judgeKind 137 = .ok (.iconst 3, 1) := by decide +kernel
theorem dX8_judgeKind_138 : decode cX8_judgeKind 138 = .ok (.if_icmp .ne 14, 3) := by decide +kernel
theorem dX8_judgeKind_141 : decode cX8_judgeKind 141 = .ok (.aload_n 0, 1) := by decide +kernel
theorem dX8_judgeKind_142 : decode cX8_judgeKind 142 = .ok (.aload_n 1, 1) := by decide +kernel
theorem dX8_judgeKind_143 : decode cX8_judgeKind 143 = .ok (.getfield 183, 3) := by decide +kernel
theorem dX8_judgeKind_146 : decode cX8_judgeKind 146 = .ok (.invokevirtual 195, 3) := by decide +kernel
theorem dX8_judgeKind_149 : decode cX8_judgeKind 149 = .ok (.goto 4, 3) := by decide +kernel
theorem dX8_judgeKind_152 : decode cX8_judgeKind 152 = .ok (.iconst 0, 1) := by decide +kernel
theorem dX8_judgeKind_153 : decode cX8_judgeKind 153 = .ok (.ireturn, 1) := by decide +kernel
theorem dX8_isPlaceTaken_0 : decode cX8_isPlaceTaken 0 = .ok (.aload_n 0, 1) := by decide +kernel
theorem dX8_isPlaceTaken_1 : decode cX8_isPlaceTaken 1 = .ok (.getfield 60, 3) := by decide +kernel
theorem dX8_isPlaceTaken_4 : decode cX8_isPlaceTaken 4 = .ok (.ifnull 21, 3) := by decide +kernel
theorem dX8_isPlaceTaken_7 : decode cX8_isPlaceTaken 7 = .ok (.iload_n 1, 1) := by decide +kernel
theorem dX8_isPlaceTaken_8 : decode cX8_isPlaceTaken 8 = .ok (.ifCond .eq 13, 3) := by decide +kernel
theorem dX8_isPlaceTaken_11 : decode cX8_isPlaceTaken 11 = .ok (.aload_n 0, 1) := by decide +kernel
theorem dX8_isPlaceTaken_12 : decode cX8_isPlaceTaken 12 = .ok (.getfield 60, 3) := by decide +kernel
theorem dX8_isPlaceTaken_15 : decode cX8_isPlaceTaken 15 = .ok (.invokevirtual 176, 3) := by decide +kernel
theorem dX8_isPlaceTaken_18 : decode cX8_isPlaceTaken 18 = .ok (.ifCond .eq 7, 3) := by decide +kernel
theorem dX8_isPlaceTaken_21 : decode cX8_isPlaceTaken 21 = .ok (.iconst 1, 1) := by decide +kernel
theorem dX8_isPlaceTaken_22 : decode cX8_isPlaceTaken 22 = .ok (.goto 4, 3) := by decide +kernel
theorem dX8_isPlaceTaken_25 : decode cX8_isPlaceTaken 25 = .ok (.iconst 0, 1) := by decide +kernel
theorem dX8_isPlaceTaken_26 : decode cX8_isPlaceTaken 26 = .ok (.ireturn, 1) := by decide +kernel
theorem dX8_judgeSharing_0 : decode cX8_judgeSharing 0 = .ok (.aload_n 0, 1) := by decide +kernel
theorem dX8_judgeSharing_1 : decode cX8_judgeSharing 1 = .ok (.getfield 15, 3) := by decide +kernel
theorem dX8_judgeSharing_4 : decode cX8_judgeSharing 4 = .ok (.aload_n 1, 1) := by decide +kernel
theorem dX8_judgeSharing_5 : decode cX8_judgeSharing 5 = .ok (.aload_n 0, 1) := by decide +kernel
theorem dX8_judgeSharing_6 : decode cX8_judgeSharing 6 = .ok (.getfield 9, 3) := by decide +kernel
theorem dX8_judgeSharing_9 : decode cX8_judgeSharing 9 = .ok (.getfield 160, 3) := by decide +kernel
theorem dX8_judgeSharing_12 : decode cX8_judgeSharing 12 = .ok (.ifCond .ne 7, 3) := by decide +kernel
theorem dX8_judgeSharing_15 : decode cX8_judgeSharing 15 = .ok (.iconst 1, 1) := by decide +kernel
theorem dX8_judgeSharing_16 : decode cX8_judgeSharing 16 = .ok (.goto 4, 3) := by decide +kernel
theorem dX8_judgeSharing_19 : decode cX8_judgeSharing 19 = .ok (.iconst 0, 1) := by decide +kernel
theorem dX8_judgeSharing_20 : decode cX8_judgeSharing 20 = .ok (.invokevirtual 198, 3) := by decide +kernel
theorem dX8_judgeSharing_23 : decode cX8_judgeSharing 23 = .ok (.astore_n 2, 1) := by decide +kernel
theorem dX8_judgeSharing_24 : decode cX8_judgeSharing 24 = .ok (.aload_n 2, 1) := by decide +kernel
theorem dX8_judgeSharing_25 : decode cX8_judgeSharing 25 = .ok (.ifnull 10, 3) := by decide +kernel
theorem dX8_judgeSharing_28 : decode cX8_judgeSharing 28 = .ok (.aload_n 2, 1) := by decide +kernel
theorem dX8_judgeSharing_29 : decode cX8_judgeSharing 29 = .ok (.getfield 144, 3) := by decide +kernel
theorem dX8_judgeSharing_32 : decode cX8_judgeSharing 32 = .ok (.ifnonnull 6, 3) := by decide +kernel
theorem dX8_judgeSharing_35 : decode cX8_judgeSharing 35 = .ok (.bipush (-19), 2) := by decide +kernel
theorem dX8_judgeSharing_37 : decode cX8_judgeSharing 37 = .ok (.ireturn, 1) := by decide +kernel
theorem dX8_judgeSharing_38 : decode cX8_judgeSharing 38 = .ok (.aload_n 0, 1) := by decide +kernel
theorem dX8_judgeSharing_39 : decode cX8_judgeSharing 39 = .ok (.aload_n 2, 1) := by decide +kernel
theorem dX8_judgeSharing_40 : decode cX8_judgeSharing 40 = .ok (.getfield 144, 3) := by decide +kernel
theorem dX8_judgeSharing_43 : decode cX8_judgeSharing 43 = .ok (.putfield 66, 3) := by decide +kernel
theorem dX8_judgeSharing_46 : decode cX8_judgeSharing 46 = .ok (.aload_n 2, 1) := by decide +kernel
theorem dX8_judgeSharing_47 : decode cX8_judgeSharing 47 = .ok (.aload_n 0, 1) := by decide +kernel
theorem dX8_judgeSharing_48 : decode cX8_judgeSharing 48 = .ok (.getfield 60, 3) := by decide +kernel
theorem dX8_judgeSharing_51 : decode cX8_judgeSharing 51 = .ok (.if_acmp .ne 8, 3) := by decide +kernel
theorem dX8_judgeSharing_54 : decode cX8_judgeSharing 54 = .ok (.aload_n 0, 1) := by decide +kernel
theorem dX8_judgeSharing_55 : decode cX8_judgeSharing 55 = .ok (.aload_n 2, 1) := by decide +kernel
theorem dX8_judgeSharing_56 : decode cX8_judgeSharing 56 = .ok (.putfield 63, 3) := by decide +kernel
theorem dX8_judgeSharing_59 : decode cX8_judgeSharing 59 = .ok (.iconst 0, 1) := by decide +kernel
theorem dX8_judgeSharing_60 : decode cX8_judgeSharing 60 = .ok (.ireturn, 1) := by decide +kernel
theorem dX8_judgeLimits_0 : decode cX8_judgeLimits 0 = .ok (.aload_n 0, 1) := by decide +kernel
theorem dX8_judgeLimits_1 : decode cX8_judgeLimits 1 = .ok (.getfield 57, 3) := by decide +kernel
theorem dX8_judgeLimits_4 : decode cX8_judgeLimits 4 = .ok (.iconst 1, 1) := by decide +kernel
theorem dX8_judgeLimits_5 : decode cX8_judgeLimits 5 = .ok (.iadd, 1) := by decide +kernel
theorem dX8_judgeLimits_6 : decode cX8_judgeLimits 6 = .ok (.istore_n 2, 1) := by decide +kernel
theorem dX8_judgeLimits_7 : decode cX8_judgeLimits 7 = .ok (.aload_n 0, 1) := by decide +kernel
theorem dX8_judgeLimits_8 : decode cX8_judgeLimits 8 = .ok (.getfield 41, 3) := by decide +kernel
theorem dX8_judgeLimits_11 : decode cX8_judgeLimits 11 = .ok (.iload_n 2, 1) := by decide +kernel
theorem dX8_judgeLimits_12 : decode cX8_judgeLimits 12 = .ok (.iadd, 1) := by decide +kernel
theorem dX8_judgeLimits_13 : decode cX8_judgeLimits 13 = .ok (.i2l, 1) := by decide +kernel
theorem dX8_judgeLimits_14 : decode cX8_judgeLimits 14 = .ok (.aload_n 0, 1) := by decide +kernel
theorem dX8_judgeLimits_15 : decode cX8_judgeLimits 15 = .ok (.getfield 32, 3) := by decide +kernel
theorem dX8_judgeLimits_18 : decode cX8_judgeLimits 18 = .ok (.lcmp, 1) := by decide +kernel
theorem dX8_judgeLimits_19 : decode cX8_judgeLimits 19 = .ok (.ifCond .le 6, 3) := by decide +kernel
theorem dX8_judgeLimits_22 : decode cX8_judgeLimits 22 = .ok (.bipush (-21), 2) := by decide +kernel
theorem dX8_judgeLimits_24 : decode cX8_judgeLimits 24 = .ok (.ireturn, 1) := by decide +kernel
theorem dX8_judgeLimits_25 : decode cX8_judgeLimits 25 = .ok (.aload_n 1, 1) := by decide +kernel
theorem dX8_judgeLimits_26 : decode cX8_judgeLimits 26 = .ok (.getfield 173, 3) := by decide +kernel
theorem dX8_judgeLimits_29 : decode cX8_judgeLimits 29 = .ok (.iconst 1, 1) := by decide +kernel
theorem dX8_judgeLimits_30 : decode cX8_judgeLimits 30 = .ok (.if_icmp .ne 23, 3) := by decide +kernel
theorem dX8_judgeLimits_33 : decode cX8_judgeLimits 33 = .ok (.aload_n 0, 1) := by decide +kernel
theorem dX8_judgeLimits_34 : decode cX8_judgeLimits 34 = .ok (.getfield 45, 3) := by decide +kernel
theorem dX8_judgeLimits_37 : decode cX8_judgeLimits 37 = .ok (.aload_n 1, 1) := by decide +kernel
theorem dX8_judgeLimits_38 : decode cX8_judgeLimits 38 = .ok (.getfield 202, 3) := by decide +kernel
theorem dX8_judgeLimits_41 : decode cX8_judgeLimits 41 = .ok (.ladd, 1) := by decide +kernel
theorem dX8_judgeLimits_42 : decode cX8_judgeLimits 42 = .ok (.aload_n 0, 1) := by decide +kernel
theorem dX8_judgeLimits_43 : decode cX8_judgeLimits 43 = .ok (.getfield 38, 3) := by decide +kernel
theorem dX8_judgeLimits_46 : decode cX8_judgeLimits 46 = .ok (.lcmp, 1) := by decide +kernel
theorem dX8_judgeLimits_47 : decode cX8_judgeLimits 47 = .ok (.ifCond .le 6, 3) := by decide +kernel
theorem dX8_judgeLimits_50 : decode cX8_judgeLimits 50 = .ok (.bipush (-21), 2) := by decide +kernel
theorem dX8_judgeLimits_52 : decode cX8_judgeLimits 52 = .ok (.ireturn, 1) := by decide +kernel
theorem dX8_judgeLimits_53 : decode cX8_judgeLimits 53 = .ok (.aload_n 0, 1) := by decide +kernel
theorem dX8_judgeLimits_54 : decode cX8_judgeLimits 54 = .ok (.getfield 15, 3) := by decide +kernel
theorem dX8_judgeLimits_57 : decode cX8_judgeLimits 57 = .ok (.invokevirtual 204, 3) := by decide +kernel
theorem dX8_judgeLimits_60 : decode cX8_judgeLimits 60 = .ok (.iload_n 2, 1) := by decide +kernel
theorem dX8_judgeLimits_61 : decode cX8_judgeLimits 61 = .ok (.iadd, 1) := by decide +kernel
theorem dX8_judgeLimits_62 : decode cX8_judgeLimits 62 = .ok (.sipush 200, 3) := by decide +kernel
theorem dX8_judgeLimits_65 : decode cX8_judgeLimits 65 = .ok (.if_icmp .le 8, 3) := by decide +kernel
theorem dX8_judgeLimits_68 : decode cX8_judgeLimits 68 = .ok (.bipush (-6), 2) := by decide +kernel
theorem dX8_judgeLimits_70 : decode cX8_judgeLimits 70 = .ok (.goto 4, 3) := by decide +kernel
theorem dX8_judgeLimits_73 : decode cX8_judgeLimits 73 = .ok (.iconst 0, 1) := by decide +kernel
theorem dX8_judgeLimits_74 : decode cX8_judgeLimits 74 = .ok (.ireturn, 1) := by decide +kernel
theorem dX8_carryOut_0 : decode cX8_carryOut 0 = .ok (.aload_n 0, 1) := by decide +kernel
theorem dX8_carryOut_1 : decode cX8_carryOut 1 = .ok (.getfield 63, 3) := by decide +kernel
theorem dX8_carryOut_4 : decode cX8_carryOut 4 = .ok (.ifnonnull 11, 3) := by decide +kernel
theorem dX8_carryOut_7 : decode cX8_carryOut 7 = .ok (.aload_n 0, 1) := by decide +kernel
theorem dX8_carryOut_8 : decode cX8_carryOut 8 = .ok (.aload_n 1, 1) := by decide +kernel
theorem dX8_carryOut_9 : decode cX8_carryOut 9 = .ok (.invokevirtual 207, 3) := by decide +kernel
theorem dX8_carryOut_12 : decode cX8_carryOut 12 = .ok (.goto 7, 3) := by decide +kernel
theorem dX8_carryOut_15 : decode cX8_carryOut 15 = .ok (.aload_n 0, 1) := by decide +kernel
theorem dX8_carryOut_16 : decode cX8_carryOut 16 = .ok (.getfield 63, 3) := by decide +kernel
theorem dX8_carryOut_19 : decode cX8_carryOut 19 = .ok (.astore_n 2, 1) := by decide +kernel
theorem dX8_carryOut_20 : decode cX8_carryOut 20 = .ok (.aload_n 1, 1) := by decide +kernel
theorem dX8_carryOut_21 : decode cX8_carryOut 21 = .ok (.getfield 173, 3) := by decide +kernel
theorem dX8_carryOut_24 : decode cX8_carryOut 24 = .ok (.ifCond .ne 45, 3) := by decide +kernel
theorem dX8_carryOut_27 : decode cX8_carryOut 27 = .ok (.aload_n 0, 1) := by decide +kernel
theorem dX8_carryOut_28 : decode cX8_carryOut 28 = .ok (.getfield 26, 3) := by decide +kernel
theorem dX8_carryOut_31 : decode cX8_carryOut 31 = .ok (.invokevirtual 74, 3) := by decide +kernel
theorem dX8_carryOut_34 : decode cX8_carryOut 34 = .ok (.sipush 512, 3) := by decide +kernel
theorem dX8_carryOut_37 : decode cX8_carryOut 37 = .ok (.if_icmp .ge 32, 3) := by decide +kernel
theorem dX8_carryOut_40 : decode cX8_carryOut 40 = .ok (.aload_n 0, 1) := by decide +kernel
theorem dX8_carryOut_41 : decode cX8_carryOut 41 = .ok (.getfield 26, 3) := by decide +kernel
theorem dX8_carryOut_44 : decode cX8_carryOut 44 = .ok (.new 82, 3) := by decide +kernel
theorem dX8_carryOut_47 : decode cX8_carryOut 47 = .ok (.dup, 1) := by decide +kernel
theorem dX8_carryOut_48 : decode cX8_carryOut 48 = .ok (.aload_n 2, 1) := by decide +kernel
theorem dX8_carryOut_49 : decode cX8_carryOut 49 = .ok (.aload_n 1, 1) := by decide +kernel
theorem dX8_carryOut_50 : decode cX8_carryOut 50 = .ok (.getfield 211, 3) := by decide +kernel
theorem dX8_carryOut_53 : decode cX8_carryOut 53 = .ok (.iconst 1, 1) := by decide +kernel
theorem dX8_carryOut_54 : decode cX8_carryOut 54 = .ok (.if_icmp .ne 7, 3) := by decide +kernel
theorem dX8_carryOut_57 : decode cX8_carryOut 57 = .ok (.iconst 1, 1) := by decide +kernel
theorem dX8_carryOut_58 : decode cX8_carryOut 58 = .ok (.goto 4, 3) := by decide +kernel
theorem dX8_carryOut_61 : decode cX8_carryOut 61 = .ok (.iconst 0, 1) := by decide +kernel
theorem dX8_carryOut_62 : decode cX8_carryOut 62 = .ok (.invokespecial 214, 3) := by decide +kernel
theorem dX8_carryOut_65 : decode cX8_carryOut 65 = .ok (.invokevirtual 217, 3) := by decide +kernel
theorem dX8_carryOut_68 : decode cX8_carryOut 68 = .ok (.pop, 1) := by decide +kernel
theorem dX8_carryOut_69 : decode cX8_carryOut 69 = .ok (.aload_n 2, 1) := by decide +kernel
theorem dX8_carryOut_70 : decode cX8_carryOut 70 = .ok (.getfield 221, 3) := by decide +kernel
theorem dX8_carryOut_73 : decode cX8_carryOut 73 = .ok (.ireturn, 1) := by decide +kernel
theorem dX8_bring_0 : decode cX8_bring 0 = .ok (.aload_n 1, 1) := by decide +kernel
theorem dX8_bring_1 : decode cX8_bring 1 = .ok (.getfield 97, 3) := by decide +kernel
theorem dX8_bring_4 : decode cX8_bring 4 = .ok (.invokevirtual 107, 3) := by decide +kernel
theorem dX8_bring_7 : decode cX8_bring 7 = .ok (.iconst 1, 1) := by decide +kernel
theorem dX8_bring_8 : decode cX8_bring 8 = .ok (.isub, 1) := by decide +kernel
theorem dX8_bring_9 : decode cX8_bring 9 = .ok (.istore_n 2, 1) := by decide +kernel
theorem dX8_bring_10 : decode cX8_bring 10 = .ok (.aload_n 0, 1) := by decide +kernel
theorem dX8_bring_11 : decode cX8_bring 11 = .ok (.getfield 54, 3) := by decide +kernel
theorem dX8_bring_14 : decode cX8_bring 14 = .ok (.astore_n 3, 1) := by decide +kernel
theorem dX8_bring_15 : decode cX8_bring 15 = .ok (.iload_n 2, 1) := by decide +kernel
theorem dX8_bring_16 : decode cX8_bring 16 = .ok (.aload_n 0, 1) := by decide +kernel
theorem dX8_bring_17 : decode cX8_bring 17 = .ok (.getfield 57, 3) := by decide +kernel
theorem dX8_bring_20 : decode cX8_bring 20 = .ok (.isub, 1) := by decide +kernel
theorem dX8_bring_21 : decode cX8_bring 21 = .ok (.istore 4, 2) := by decide +kernel
theorem dX8_bring_23 : decode cX8_bring 23 = .ok (.iload 4, 2) := by decide +kernel
theorem dX8_bring_25 : decode cX8_bring 25 = .ok (.iload_n 2, 1) := by decide +kernel
theorem dX8_bring_26 : decode cX8_bring 26 = .ok (.if_icmp .ge 30, 3) := by decide +kernel
theorem dX8_bring_29 : decode cX8_bring 29 = .ok (.aload_n 0, 1) := by decide +kernel
theorem dX8_bring_30 : decode cX8_bring 30 = .ok (.getfield 15, 3) := by decide +kernel
theorem dX8_bring_33 : decode cX8_bring 33 = .ok (.aload_n 3, 1) := by decide +kernel
theorem dX8_bring_34 : decode cX8_bring 34 = .ok (.aload_n 1, 1) := by decide +kernel
theorem dX8_bring_35 : decode cX8_bring 35 = .ok (.getfield 97, 3) := by decide +kernel
theorem dX8_bring_38 : decode cX8_bring 38 = .ok (.iload 4, 2) := by decide +kernel
theorem dX8_bring_40 : decode cX8_bring 40 = .ok (.invokevirtual 112, 3) := by decide +kernel
theorem dX8_bring_43 : decode cX8_bring 43 = .ok (.aconst_null, 1) := by decide +kernel
theorem dX8_bring_44 : decode cX8_bring 44 = .ok (.aconst_null, 1) := by decide +kernel
theorem dX8_bring_45 : decode cX8_bring 45 = .ok (.iconst 0, 1) := by decide +kernel
theorem dX8_bring_46 : decode cX8_bring 46 = .ok (.invokevirtual 224, 3) := by decide +kernel
theorem dX8_bring_49 : decode cX8_bring 49 = .ok (.astore_n 3, 1) := by decide +kernel
theorem dX8_bring_50 : decode cX8_bring 50 = .ok (.iinc 4 1, 3) := by decide +kernel
theorem dX8_bring_53 : decode cX8_bring 53 = .ok (.goto (-30), 3) := by decide +kernel
theorem dX8_bring_56 : decode cX8_bring 56 = .ok (.aload_n 0, 1) := by decide +kernel
theorem dX8_bring_57 : decode cX8_bring 57 = .ok (.getfield 60, 3) := by decide +kernel
theorem dX8_bring_60 : decode cX8_bring 60 = .ok (.ifnull 11, 3) := by decide +kernel
theorem dX8_bring_63 : decode cX8_bring 63 = .ok (.aload_n 0, 1) := by decide +kernel
theorem dX8_bring_64 : decode cX8_bring 64 = .ok (.getfield 60, 3) := by decide +kernel
theorem dX8_bring_67 : decode cX8_bring 67 = .ok (.iconst 1, 1) := by decide +kernel
theorem dX8_bring_68 : decode cX8_bring 68 = .ok (.putfield 228, 3) := by decide +kernel
theorem dX8_bring_71 : decode cX8_bring 71 = .ok (.aload_n 0, 1) := by decide +kernel
theorem dX8_bring_72 : decode cX8_bring 72 = .ok (.dup, 1) := by decide +kernel
theorem dX8_bring_73 : decode cX8_bring 73 = .ok (.getfield 41, 3) := by decide +kernel
theorem dX8_bring_76 : decode cX8_bring 76 = .ok (.aload_n 0, 1) := by decide +kernel
theorem dX8_bring_77 : decode cX8_bring 77 = .ok (.getfield 57, 3) := by decide +kernel
theorem dX8_bring_80 : decode cX8_bring 80 = .ok (.iconst 1, 1) := by decide +kernel
theorem dX8_bring_81 : decode cX8_bring 81 = .ok (.iadd, 1) := by decide +kernel
theorem dX8_bring_82 : decode cX8_bring 82 = .ok (.iadd, 1) := by decide +kernel
theorem dX8_bring_83 : decode cX8_bring 83 = .ok (.putfield 41, 3) := by decide +kernel
theorem dX8_bring_86 : decode cX8_bring 86 = .ok (.aload_n 1, 1) := by decide +kernel
theorem dX8_bring_87 : decode cX8_bring 87 = .ok (.getfield 173, 3) := by decide +kernel
theorem dX8_bring_90 : decode cX8_bring 90 = .ok (.iconst 2, 1) := by decide +kernel
theorem dX8_bring_91 : decode cX8_bring 91 = .ok (.if_icmp .ne 10, 3) := by decide +kernel
theorem dX8_bring_94 : decode cX8_bring 94 = .ok (.aload_n 1, 1) := by decide +kernel
theorem dX8_bring_95 : decode cX8_bring 95 = .ok (.getfield 183, 3) := by decide +kernel
theorem dX8_bring_98 : decode cX8_bring 98 = .ok (.goto 4, 3) := by decide +kernel
theorem dX8_bring_101 : decode cX8_bring 101 = .ok (.aconst_null, 1) := by decide +kernel
theorem dX8_bring_102 : decode cX8_bring 102 = .ok (.astore 4, 2) := by decide +kernel
theorem dX8_bring_104 : decode cX8_bring 104 = .ok (.aload_n 0, 1) := by decide +kernel
theorem dX8_bring_105 : decode cX8_bring 105 = .ok (.getfield 15, 3) := by decide +kernel
theorem dX8_bring_108 : decode cX8_bring 108 = .ok (.aload_n 3, 1) := by decide +kernel
theorem dX8_bring_109 : decode cX8_bring 109 = .ok (.aload_n 1, 1) := by decide +kernel
theorem dX8_bring_110 : decode cX8_bring 110 = .ok (.getfield 97, 3) := by decide +kernel
theorem dX8_bring_113 : decode cX8_bring 113 = .ok (.iload_n 2, 1) := by decide +kernel
theorem dX8_bring_114 : decode cX8_bring 114 = .ok (.invokevirtual 112, 3) := by decide +kernel
theorem dX8_bring_117 : decode cX8_bring 117 = .ok (.aload_n 0, 1) := by decide +kernel
theorem dX8_bring_118 : decode cX8_bring 118 = .ok (.aload_n 1, 1) := by decide +kernel
theorem dX8_bring_119 : decode cX8_bring 119 = .ok (.invokevirtual 231, 3) := by decide +kernel
theorem dX8_bring_122 : decode cX8_bring 122 = .ok (.aload 4, 2) := by decide +kernel
theorem dX8_bring_124 : decode cX8_bring 124 = .ok (.aload_n 0, 1) := by decide +kernel
theorem dX8_bring_125 : decode cX8_bring 125 = .ok (.getfield 70, 3) := by decide +kernel
theorem dX8_bring_128 : decode cX8_bring 128 = .ok (.invokevirtual 224, 3) := by decide +kernel
theorem dX8_bring_131 : decode cX8_bring 131 = .ok (.areturn, 1) := by decide +kernel
theorem dX8_bodyFor_0 : decode cX8_bodyFor 0 = .ok (.aload_n 1, 1) := by decide +kernel
theorem dX8_bodyFor_1 : decode cX8_bodyFor 1 = .ok (.getfield 173, 3) := by decide +kernel
theorem dX8_bodyFor_4 : decode cX8_bodyFor 4 = .ok (.iconst 1, 1) := by decide +kernel
theorem dX8_bodyFor_5 : decode cX8_bodyFor 5 = .ok (.if_icmp .eq 8, 3) := by decide +kernel
theorem dX8_bodyFor_8 : decode cX8_bodyFor 8 = .ok (.aload_n 0, 1) := by decide +kernel
theorem dX8_bodyFor_9 : decode cX8_bodyFor 9 = .ok (.getfield 66, 3) := by decide +kernel
theorem dX8_bodyFor_12 : decode cX8_bodyFor 12 = .ok (.areturn, 1) := by decide +kernel
theorem dX8_bodyFor_13 : decode cX8_bodyFor 13 = .ok (.aload_n 0, 1) := by decide +kernel
theorem dX8_bodyFor_14 : decode cX8_bodyFor 14 = .ok (.dup, 1) := by decide +kernel
theorem dX8_bodyFor_15 : decode cX8_bodyFor 15 = .ok (.getfield 45, 3) := by decide +kernel
theorem dX8_bodyFor_18 : decode cX8_bodyFor 18 = .ok (.aload_n 1, 1) := by decide +kernel
theorem dX8_bodyFor_19 : decode cX8_bodyFor 19 = .ok (.getfield 202, 3) := by decide +kernel
theorem dX8_bodyFor_22 : decode cX8_bodyFor 22 = .ok (.ladd, 1) := by decide +kernel
theorem dX8_bodyFor_23 : decode cX8_bodyFor 23 = .ok (.putfield 45, 3) := by decide +kernel
theorem dX8_bodyFor_26 : decode cX8_bodyFor 26 = .ok (.aload_n 0, 1) := by decide +kernel
theorem dX8_bodyFor_27 : decode cX8_bodyFor 27 = .ok (.getfield 15, 3) := by decide +kernel
theorem dX8_bodyFor_30 : decode cX8_bodyFor 30 = .ok (.aload_n 1, 1) := by decide +kernel
theorem dX8_bodyFor_31 : decode cX8_bodyFor 31 = .ok (.getfield 202, 3) := by decide +kernel
theorem dX8_bodyFor_34 : decode cX8_bodyFor 34 = .ok (.aload_n 1, 1) := by decide +kernel
theorem dX8_bodyFor_35 : decode cX8_bodyFor 35 = .ok (.getfield 211, 3) := by decide +kernel
theorem dX8_bodyFor_38 : decode cX8_bodyFor 38 = .ok (.invokevirtual 235, 3) := by decide +kernel
theorem dX8_bodyFor_41 : decode cX8_bodyFor 41 = .ok (.areturn, 1) := by decide +kernel
theorem dX9_init_0 : decode cX9_init 0 = .ok (.aload_n 0, 1) := by decide +kernel
theorem dX9_init_1 : decode cX9_init 1 = .ok (.invokespecial 1, 3) := by decide +kernel
theorem dX9_init_4 : decode cX9_init 4 = .ok (.aload_n 0, 1) := by decide +kernel
theorem dX9_init_5 : decode cX9_init 5 = .ok (.aload_n 1, 1) := by decide +kernel
theorem dX9_init_6 : decode cX9_init 6 = .ok (.putfield 7, 3) := by decide +kernel
theorem dX9_init_9 : decode cX9_init 9 = .ok (.aload_n 0, 1) := by decide +kernel
theorem dX9_init_10 : decode cX9_init 10 = .ok (.new 13, 3) := by decide +kernel
theorem dX9_init_13 : decode cX9_init 13 = .ok (.dup, 1) := by decide +kernel
theorem dX9_init_14 : decode cX9_init 14 = .ok (.invokespecial 15, 3) := by decide +kernel
theorem dX9_init_17 : decode cX9_init 17 = .ok (.putfield 16, 3) := by decide +kernel
theorem dX9_init_20 : decode cX9_init 20 = .ok (.aload_n 0, 1) := by decide +kernel
theorem dX9_init_21 : decode cX9_init 21 = .ok (.new 13, 3) := by decide +kernel
theorem dX9_init_24 : decode cX9_init 24 = .ok (.dup, 1) := by decide +kernel
theorem dX9_init_25 : decode cX9_init 25 = .ok (.invokespecial 15, 3) := by decide +kernel
theorem dX9_init_28 : decode cX9_init 28 = .ok (.putfield 20, 3) := by decide +kernel
theorem dX9_init_31 : decode cX9_init 31 = .ok (.new 23, 3) := by decide +kernel
theorem dX9_init_34 : decode cX9_init 34 = .ok (.dup, 1) := by decide +kernel
theorem dX9_init_35 : decode cX9_init 35 = .ok (.iconst 0, 1) := by decide +kernel
theorem dX9_init_36 : decode cX9_init 36 = .ok (.ldc2_w 25, 3) := by decide +kernel
theorem dX9_init_39 : decode cX9_init 39 = .ok (.bipush 42, 2) := by decide +kernel
theorem dX9_init_41 : decode cX9_init 41 = .ok (.invokespecial 27, 3) := by decide +kernel
theorem dX9_init_44 : decode cX9_init 44 = .ok (.astore_n 2, 1) := by decide +kernel
theorem dX9_init_45 : decode cX9_init 45 = .ok (.aload_n 0, 1) := by decide +kernel
theorem dX9_init_46 : decode cX9_init 46 = .ok (.new 30, 3) := by decide +kernel
theorem dX9_init_49 : decode cX9_init 49 = .ok (.dup, 1) := by decide +kernel
theorem dX9_init_50 : decode cX9_init 50 = .ok (.iconst 0, 1) := by decide +kernel
theorem dX9_init_51 : decode cX9_init 51 = .ok (.aconst_null, 1) := by decide +kernel
theorem dX9_init_52 : decode cX9_init 52 = .ok (.new 32, 3) := by decide +kernel
theorem dX9_init_55 : decode cX9_init 55 = .ok (.dup, 1) := by decide +kernel
theorem dX9_init_56 : decode cX9_init 56 = .ok (.getstatic 34, 3) := by decide +kernel
theorem dX9_init_59 : decode cX9_init 59 = .ok (.iconst 0, 1) := by decide +kernel
theorem dX9_init_60 : decode cX9_init 60 = .ok (.iconst 0, 1) := by decide +kernel
theorem dX9_init_61 : decode cX9_init 61 = .ok (.invokespecial 40, 3) := by decide +kernel
theorem dX9_init_64 : decode cX9_init 64 = .ok (.aconst_null, 1) := by decide +kernel
theorem dX9_init_65 : decode cX9_init 65 = .ok (.aconst_null, 1) := by decide +kernel
theorem dX9_init_66 : decode cX9_init 66 = .ok (.iconst 0, 1) := by decide +kernel
theorem dX9_init_67 : decode cX9_init 67 = .ok (.invokespecial 43, 3) := by decide +kernel
theorem dX9_init_70 : decode cX9_init 70 = .ok (.putfield 46, 3) := by decide +kernel
theorem dX9_init_73 : decode cX9_init 73 = .ok (.aload_n 0, 1) := by decide +kernel
theorem dX9_init_74 : decode cX9_init 74 = .ok (.new 30, 3) := by decide +kernel
theorem dX9_init_77 : decode cX9_init 77 = .ok (.dup, 1) := by decide +kernel
theorem dX9_init_78 : decode cX9_init 78 = .ok (.iconst 1, 1) := by decide +kernel
theorem dX9_init_79 : decode cX9_init 79 = .ok (.aload_n 0, 1) := by decide +kernel
theorem dX9_init_80 : decode cX9_init 80 = .ok (.getfield 46, 3) := by decide +kernel
theorem dX9_init_83 : decode cX9_init 83 = .ok (.new 32, 3) := by decide +kernel
theorem dX9_init_86 : decode cX9_init 86 = .ok (.dup, 1) := by decide +kernel
theorem dX9_init_87 : decode cX9_init 87 = .ok (.getstatic 50, 3) := by decide +kernel
theorem dX9_init_90 : decode cX9_init 90 = .ok (.iconst 0, 1) := by decide +kernel
theorem dX9_init_91 : decode cX9_init 91 = .ok (.getstatic 50, 3) := by decide +kernel
theorem dX9_init_94 : decode cX9_init 94 = .ok (.arraylength, 1) := by decide +kernel
theorem dX9_init_95 : decode cX9_init 95 = .ok (.invokespecial 40, 3) := by decide +kernel
theorem dX9_init_98 : decode cX9_init 98 = .ok (.aconst_null, 1) := by decide +kernel
theorem dX9_init_99 : decode cX9_init 99 = .ok (.aconst_null, 1) := by decide +kernel
theorem dX9_init_100 : decode cX9_init 100 = .ok (.iconst 0, 1) := by decide +kernel
theorem dX9_init_101 : decode cX9_init 101 = .ok (.invokespecial 43, 3) := by decide +kernel
theorem dX9_init_104 : decode cX9_init 104 = .ok (.putfield 53, 3) := by decide +kernel
theorem dX9_init_107 : decode cX9_init 107 = .ok (.aload_n 0, 1) := by decide +kernel
theorem dX9_init_108 : decode cX9_init 108 = .ok (.new 30, 3) := by decide +kernel
theorem dX9_init_111 : decode cX9_init 111 = .ok (.dup, 1) := by decide +kernel
theorem dX9_init_112 : decode cX9_init 112 = .ok (.iconst 2, 1) := by decide +kernel
theorem dX9_init_113 : decode cX9_init 113 = .ok (.aload_n 0, 1) := by decide +kernel
theorem dX9_init_114 : decode cX9_init 114 = .ok (.getfield 46, 3) := by decide +kernel
theorem dX9_init_117 : decode cX9_init 117 = .ok (.new 32, 3) := by decide +kernel
theorem dX9_init_120 : decode cX9_init 120 = .ok (.dup, 1) := by decide +kernel
theorem dX9_init_121 : decode cX9_init 121 = .ok (.getstatic 56, 3) := by decide +kernel
theorem dX9_init_124 : decode cX9_init 124 = .ok (.iconst 0, 1) := by decide +kernel
theorem dX9_init_125 : decode cX9_init 125 = .ok (.getstatic 56, 3) := by decide +kernel
theorem dX9_init_128 : decode cX9_init 128 = .ok (.arraylength, 1) := by decide +kernel
theorem dX9_init_129 : decode cX9_init 129 = .ok (.invokespecial 40, 3) := by decide +kernel
theorem dX9_init_132 : decode cX9_init 132 = .ok (.aconst_null, 1) := by decide +kernel
theorem dX9_init_133 : decode cX9_init 133 = .ok (.aconst_null, 1) := by decide +kernel
theorem dX9_init_134 : decode cX9_init 134 = .ok (.iconst 0, 1) := by decide +kernel
theorem dX9_init_135 : decode cX9_init 135 = .ok (.invokespecial 43, 3) := by decide +kernel
theorem dX9_init_138 : decode cX9_init 138 = .ok (.putfield 59, 3) := by decide +kernel
theorem dX9_init_141 : decode cX9_init 141 = .ok (.aload_n 0, 1) := by decide +kernel
theorem dX9_init_142 : decode cX9_init 142 = .ok (.new 30, 3) := by decide +kernel
theorem dX9_init_145 : decode cX9_init 145 = .ok (.dup, 1) := by decide +kernel
theorem dX9_init_146 : decode cX9_init 146 = .ok (.iconst 3, 1) := by decide +kernel
theorem dX9_init_147 : decode cX9_init 147 = .ok (.aload_n 0, 1) := by decide +kernel
theorem dX9_init_148 : decode cX9_init 148 = .ok (.getfield 59, 3) := by decide +kernel
theorem dX9_init_151 : decode cX9_init 151 = .ok (.new 32, 3) := by decide +kernel
theorem dX9_init_154 : decode cX9_init 154 = .ok (.dup, 1) := by decide +kernel
theorem dX9_init_155 : decode cX9_init 155 = .ok (.getstatic 62, 3) := by decide +kernel
theorem dX9_init_158 : decode cX9_init 158 = .ok (.iconst 0, 1) := by decide +kernel
theorem dX9_init_159 : decode cX9_init 159 = .ok (.getstatic 62, 3) := by decide +kernel
theorem dX9_init_162 : decode cX9_init 162 = .ok (.arraylength, 1) := by decide +kernel
theorem dX9_init_163 : decode cX9_init 163 = .ok (.invokespecial 40, 3) := by decide +kernel
theorem dX9_init_166 : decode cX9_init 166 = .ok (.aload_n 2, 1) := by decide +kernel
theorem dX9_init_167 : decode cX9_init 167 = .ok (.aconst_null, 1) := by decide +kernel
theorem dX9_init_168 : decode cX9_init 168 = .ok (.iconst 0, 1) := by decide +kernel
theorem dX9_init_169 : decode cX9_init 169 = .ok (.invokespecial 43, 3) := by decide +kernel
theorem dX9_init_172 : decode cX9_init 172 = .ok (.putfield 65, 3) := by decide +kernel
theorem dX9_init_175 : decode cX9_init 175 = .ok (.aload_n 0, 1) := by decide +kernel
theorem dX9_init_176 : decode cX9_init 176 = .ok (.getfield 20, 3) := by decide +kernel
theorem dX9_init_179 : decode cX9_init 179 = .ok (.aload_n 2, 1) := by decide +kernel
theorem dX9_init_180 : decode cX9_init 180 = .ok (.invokevirtual 68, 3) := by decide +kernel
theorem dX9_init_183 : decode cX9_init 183 = .ok (.pop, 1) := by decide +kernel
theorem dX9_init_184 : decode cX9_init 184 = .ok (.aload_n 0, 1) := by decide +kernel
theorem dX9_init_185 : decode cX9_init 185 = .ok (.getfield 16, 3) := by decide +kernel
theorem dX9_init_188 : decode cX9_init 188 = .ok (.aload_n 0, 1) := by decide +kernel
theorem dX9_init_189 : decode cX9_init 189 = .ok (.getfield 46, 3) := by decide +kernel
theorem dX9_init_192 : decode cX9_init 192 = .ok (.invokevirtual 68, 3) := by decide +kernel
theorem dX9_init_195 : decode cX9_init 195 = .ok (.pop, 1) := by decide +kernel
theorem dX9_init_196 : decode cX9_init 196 = .ok (.aload_n 0, 1) := by decide +kernel
theorem dX9_init_197 : decode cX9_init 197 = .ok (.getfield 16, 3) := by decide +kernel
theorem dX9_init_200 : decode cX9_init 200 = .ok (.aload_n 0, 1) := by decide +kernel
theorem dX9_init_201 : decode cX9_init 201 = .ok (.getfield 53, 3) := by decide +kernel
theorem dX9_init_204 : decode cX9_init 204 = .ok (.invokevirtual 68, 3) := by decide +kernel
theorem dX9_init_207 : decode cX9_init 207 = .ok (.pop, 1) := by decide +kernel
theorem dX9_init_208 : decode cX9_init 208 = .ok (.aload_n 0, 1) := by decide +kernel
theorem dX9_init_209 : decode cX9_init 209 = .ok (.getfield 16, 3) := by decide +kernel
theorem dX9_init_212 : decode cX9_init 212 = .ok (.aload_n 0, 1) := by decide +kernel
theorem dX9_init_213 : decode cX9_init 213 = .ok (.getfield 59, 3) := by decide +kernel
theorem dX9_init_216 : decode cX9_init 216 = .ok (.invokevirtual 68, 3) := by decide +kernel
theorem dX9_init_219 : decode cX9_init 219 = .ok (.pop, 1) := by decide +kernel
theorem dX9_init_220 : decode cX9_init 220 = .ok (.aload_n 0, 1) := by decide +kernel
theorem dX9_init_221 : decode cX9_init 221 = .ok (.getfield 16, 3) := by decide +kernel
theorem dX9_init_224 : decode cX9_init 224 = .ok (.aload_n 0, 1) := by decide +kernel
theorem dX9_init_225 : decode cX9_init 225 = .ok (.getfield 65, 3) := by decide +kernel
theorem dX9_init_228 : decode cX9_init 228 = .ok (.invokevirtual 68, 3) := by decide +kernel
theorem dX9_init_231 : decode cX9_init 231 = .ok (.pop, 1) := by decide +kernel
theorem dX9_init_232 : decode cX9_init 232 = .ok (.return_, 1) := by decide +kernel
theorem dX9_nodeCount_0 : decode cX9_nodeCount 0 = .ok (.aload_n 0, 1) := by decide +kernel
theorem dX9_nodeCount_1 : decode cX9_nodeCount 1 = .ok (.getfield 16, 3) := by decide +kernel
theorem dX9_nodeCount_4 : decode cX9_nodeCount 4 = .ok (.invokevirtual 72, 3) := by decide +kernel
theorem dX9_nodeCount_7 : decode cX9_nodeCount 7 = .ok (.ireturn, 1) := by decide +kernel
theorem dX9_bodyCount_0 : decode cX9_bodyCount 0 = .ok (.aload_n 0, 1) := by decide +kernel
theorem dX9_bodyCount_1 : decode cX9_bodyCount 1 = .ok (.getfield 20, 3) := by decide +kernel
theorem dX9_bodyCount_4 : decode cX9_bodyCount 4 = .ok (.invokevirtual 72, 3) := by decide +kernel
theorem dX9_bodyCount_7 : decode cX9_bodyCount 7 = .ok (.ireturn, 1) := by decide +kernel
theorem dX9_at_0 : decode cX9_at 0 = .ok (.iload_n 1, 1) := by decide +kernel
theorem dX9_at_1 : decode cX9_at 1 = .ok (.ifCond .lt 28, 3) := by decide +kernel
theorem dX9_at_4 : decode cX9_at 4 = .ok (.iload_n 1, 1) := by decide +kernel
theorem dX9_at_5 : decode cX9_at 5 = .ok (.aload_n 0, 1) := by decide +kernel
theorem dX9_at_6 : decode cX9_at 6 = .ok (.getfield 16, 3) := by decide +kernel
theorem dX9_at_9 : decode cX9_at 9 = .ok (.invokevirtual 72, 3) := by decide +kernel
theorem dX9_at_12 : decode cX9_at 12 = .ok (.if_icmp .ge 17, 3) := by decide +kernel
theorem dX9_at_15 : decode cX9_at 15 = .ok (.aload_n 0, 1) := by decide +kernel
theorem dX9_at_16 : decode cX9_at 16 = .ok (.getfield 16, 3) := by decide +kernel
theorem dX9_at_19 : decode cX9_at 19 = .ok (.iload_n 1, 1) := by decide +kernel
theorem dX9_at_20 : decode cX9_at 20 = .ok (.invokevirtual 76, 3) := by decide +kernel
theorem dX9_at_23 : decode cX9_at 23 = .ok (.checkcast 30, 3) := by decide +kernel
theorem dX9_at_26 : decode cX9_at 26 = .ok (.goto 4, 3) := by decide +kernel
theorem dX9_at_29 : decode cX9_at 29 = .ok (.aconst_null, 1) := by decide +kernel
theorem dX9_at_30 : decode cX9_at 30 = .ok (.areturn, 1) := by decide +kernel
theorem dX9_bodyAt_0 : decode cX9_bodyAt 0 = .ok (.iload_n 1, 1) := by decide +kernel
theorem dX9_bodyAt_1 : decode cX9_bodyAt 1 = .ok (.ifCond .lt 28, 3) := by decide +kernel
theorem dX9_bodyAt_4 : decode cX9_bodyAt 4 = .ok (.iload_n 1, 1) := by decide +kernel
theorem dX9_bodyAt_5 : decode cX9_bodyAt 5 = .ok (.aload_n 0, 1) := by decide +kernel
theorem dX9_bodyAt_6 : decode cX9_bodyAt 6 = .ok (.getfield 20, 3) := by decide +kernel
theorem dX9_bodyAt_9 : decode cX9_bodyAt 9 = .ok (.invokevirtual 72, 3) := by decide +kernel
theorem dX9_bodyAt_12 : decode cX9_bodyAt 12 = .ok (.if_icmp .ge 17, 3) := by decide +kernel
theorem dX9_bodyAt_15 : decode cX9_bodyAt 15 = .ok (.aload_n 0, 1) := by decide +kernel
theorem dX9_bodyAt_16 : decode cX9_bodyAt 16 = .ok (.getfield 20, 3) := by decide +kernel
theorem dX9_bodyAt_19 : decode cX9_bodyAt 19 = .ok (.iload_n 1, 1) := by decide +kernel
theorem dX9_bodyAt_20 : decode cX9_bodyAt 20 = .ok (.invokevirtual 76, 3) := by decide +kernel
theorem dX9_bodyAt_23 : decode cX9_bodyAt 23 = .ok (.checkcast 23, 3) := by decide +kernel
theorem dX9_bodyAt_26 : decode cX9_bodyAt 26 = .ok (.goto 4, 3) := by decide +kernel
theorem dX9_bodyAt_29 : decode cX9_bodyAt 29 = .ok (.aconst_null, 1) := by decide +kernel
theorem dX9_bodyAt_30 : decode cX9_bodyAt 30 = .ok (.areturn, 1) := by decide +kernel
theorem dX9_addNode_0 : decode cX9_addNode 0 = .ok (.new 30, 3) := by decide +kernel
theorem dX9_addNode_3 : decode cX9_addNode 3 = .ok (.dup, 1) := by decide +kernel
theorem dX9_addNode_4 : decode cX9_addNode 4 = .ok (.aload_n 0, 1) := by decide +kernel
theorem dX9_addNode_5 : decode cX9_addNode 5 = .ok (.getfield 16, 3) := by decide +kernel
theorem dX9_addNode_8 : decode cX9_addNode 8 = .ok (.invokevirtual 72, 3) := by decide +kernel
theorem dX9_addNode_11 : decode cX9_addNode 11 = .ok (.aload_n 1, 1) := by decide +kernel
theorem dX9_addNode_12 : decode cX9_addNode 12 = .ok (.aload_n 2, 1) := by decide +kernel
theorem dX9_addNode_13 : decode cX9_addNode 13 = .ok (.aload_n 3, 1) := by decide +kernel
theorem dX9_addNode_14 : decode cX9_addNode 14 = .ok (.aload 4, 2) := by decide +kernel
theorem dX9_addNode_16 : decode cX9_addNode 16 = .ok (.iload 5, 2) := by decide +kernel
theorem dX9_addNode_18 : decode cX9_addNode 18 = .ok (.invokespecial 43, 3) := by decide +kernel
theorem dX9_addNode_21 : decode cX9_addNode 21 = .ok (.astore 6, 2) := by decide +kernel
theorem dX9_addNode_23 : decode cX9_addNode 23 = .ok (.aload_n 0, 1) := by decide +kernel
theorem dX9_addNode_24 : decode cX9_addNode 24 = .ok (.getfield 16, 3) := by decide +kernel
theorem dX9_addNode_27 : decode cX9_addNode 27 = .ok (.aload 6, 2) := by decide +kernel
theorem dX9_addNode_29 : decode cX9_addNode 29 = .ok (.invokevirtual 68, 3) := by decide +kernel
theorem dX9_addNode_32 : decode cX9_addNode 32 = .ok (.pop, 1) := by decide +kernel
theorem dX9_addNode_33 : decode cX9_addNode 33 = .ok (.aload 6, 2) := by decide +kernel
theorem dX9_addNode_35 : decode cX9_addNode 35 = .ok (.areturn, 1) := by decide +kernel
theorem dX9_addBody_0 : decode cX9_addBody 0 = .ok (.new 23, 3) := by decide +kernel
theorem dX9_addBody_3 : decode cX9_addBody 3 = .ok (.dup, 1) := by decide +kernel
theorem dX9_addBody_4 : decode cX9_addBody 4 = .ok (.aload_n 0, 1) := by decide +kernel
theorem dX9_addBody_5 : decode cX9_addBody 5 = .ok (.getfield 20, 3) := by decide +kernel
theorem dX9_addBody_8 : decode cX9_addBody 8 = .ok (.invokevirtual 72, 3) := by decide +kernel
theorem dX9_addBody_11 : decode cX9_addBody 11 = .ok (.lload_n 1, 1) := by decide +kernel
theorem dX9_addBody_12 : decode cX9_addBody 12 = .ok (.iload_n 3, 1) := by decide +kernel
theorem dX9_addBody_13 : decode cX9_addBody 13 = .ok (.invokespecial 27, 3) := by decide +kernel
theorem dX9_addBody_16 : decode cX9_addBody 16 = .ok (.astore 4, 2) := by decide +kernel
theorem dX9_addBody_18 : decode cX9_addBody 18 = .ok (.aload_n 0, 1) := by decide +kernel
theorem dX9_addBody_19 : decode cX9_addBody 19 = .ok (.getfield 20, 3) := by decide +kernel
theorem dX9_addBody_22 : decode cX9_addBody 22 = .ok (.aload 4, 2) := by decide +kernel
theorem dX9_addBody_24 : decode cX9_addBody 24 = .ok (.invokevirtual 68, 3) := by decide +kernel
theorem dX9_addBody_27 : decode cX9_addBody 27 = .ok (.pop, 1) := by decide +kernel
theorem dX9_addBody_28 : decode cX9_addBody 28 = .ok (.aload 4, 2) := by decide +kernel
theorem dX9_addBody_30 : decode cX9_addBody 30 = .ok (.areturn, 1) := by decide +kernel
theorem dX9_childOf_0 : decode cX9_childOf 0 = .ok (.aconst_null, 1) := by decide +kernel
theorem dX9_childOf_1 : decode cX9_childOf 1 = .ok (.astore_n 3, 1) := by decide +kernel
theorem dX9_childOf_2 : decode cX9_childOf 2 = .ok (.iconst 0, 1) := by decide +kernel
theorem dX9_childOf_3 : decode cX9_childOf 3 = .ok (.istore 4, 2) := by decide +kernel
theorem dX9_childOf_5 : decode cX9_childOf 5 = .ok (.iload 4, 2) := by decide +kernel
theorem dX9_childOf_7 : decode cX9_childOf 7 = .ok (.aload_n 0, 1) := by decide +kernel
theorem dX9_childOf_8 : decode cX9_childOf 8 = .ok (.getfield 16, 3) := by decide +kernel
theorem dX9_childOf_11 : decode cX9_childOf 11 = .ok (.invokevirtual 72, 3) := by decide +kernel
theorem dX9_childOf_14 : decode cX9_childOf 14 = .ok (.if_icmp .ge 87, 3) := by decide +kernel
theorem dX9_childOf_17 : decode cX9_childOf 17 = .ok (.aload_n 0, 1) := by decide +kernel
theorem dX9_childOf_18 : decode cX9_childOf 18 = .ok (.getfield 16, 3) := by decide +kernel
theorem dX9_childOf_21 : decode cX9_childOf 21 = .ok (.iload 4, 2) := by decide +kernel
theorem dX9_childOf_23 : decode cX9_childOf 23 = .ok (.invokevirtual 76, 3) := by decide +kernel
theorem dX9_childOf_26 : decode cX9_childOf 26 = .ok (.checkcast 30, 3) := by decide +kernel
theorem dX9_childOf_29 : decode cX9_childOf 29 = .ok (.astore 5, 2) := by decide +kernel
theorem dX9_childOf_31 : decode cX9_childOf 31 = .ok (.aload 5, 2) := by decide +kernel
theorem dX9_childOf_33 : decode cX9_childOf 33 = .ok (.getfield 80, 3) := by decide +kernel
theorem dX9_childOf_36 : decode cX9_childOf 36 = .ok (.ifCond .ne 59, 3) := by decide +kernel
theorem dX9_childOf_39 : decode cX9_childOf 39 = .ok (.aload 5, 2) := by decide +kernel
theorem dX9_childOf_41 : decode cX9_childOf 41 = .ok (.invokevirtual 84, 3) := by decide +kernel
theorem dX9_childOf_44 : decode cX9_childOf 44 = .ok (.aload_n 1, 1) := by decide +kernel
theorem dX9_childOf_45 : decode cX9_childOf 45 = .ok (.if_acmp .eq 6, 3) := by decide +kernel
theorem dX9_childOf_48 : decode cX9_childOf 48 = .ok (.goto 47, 3) := by decide +kernel
theorem dX9_childOf_51 : decode cX9_childOf 51 = .ok (.aload 5, 2) := by decide +kernel
theorem dX9_childOf_53 : decode cX9_childOf 53 = .ok (.getfield 88, 3) := by decide +kernel
theorem dX9_childOf_56 : decode cX9_childOf 56 = .ok (.aload_n 2, 1) := by decide +kernel
theorem dX9_childOf_57 : decode cX9_childOf 57 = .ok (.invokevirtual 92, 3) := by decide +kernel
theorem dX9_childOf_60 : decode cX9_childOf 60 = .ok (.ifCond .eq 6, 3) := by decide +kernel
theorem dX9_childOf_63 : decode cX9_childOf 63 = .ok (.aload 5, 2) := by decide +kernel
theorem dX9_childOf_65 : decode cX9_childOf 65 = .ok (.areturn, 1) := by decide +kernel
theorem dX9_childOf_66 : decode cX9_childOf 66 = .ok (.aload_n 3, 1) := by decide +kernel
theorem dX9_childOf_67 : decode cX9_childOf 67 = .ok (.ifnonnull 28, 3) := by decide +kernel
theorem dX9_childOf_70 : decode cX9_childOf 70 = .ok (.aload_n 0, 1) := by decide +kernel
theorem dX9_childOf_71 : decode cX9_childOf 71 = .ok (.getfield 7, 3) := by decide +kernel
theorem dX9_childOf_74 : decode cX9_childOf 74 = .ok (.getfield 96, 3) := by decide +kernel
theorem dX9_childOf_77 : decode cX9_childOf 77 = .ok (.ifCond .eq 18, 3) := by decide +kernel
theorem dX9_childOf_80 : decode cX9_childOf 80 = .ok (.aload 5, 2) := by decide +kernel
theorem dX9_childOf_82 : decode cX9_childOf 82 = .ok (.getfield 88, 3) := by decide +kernel
theorem dX9_childOf_85 : decode cX9_childOf 85 = .ok (.aload_n 2, 1) := by decide +kernel
theorem dX9_childOf_86 : decode cX9_childOf 86 = .ok (.invokevirtual 101, 3) := by decide +kernel
theorem dX9_childOf_89 : decode cX9_childOf 89 = .ok (.ifCond .eq 6, 3) := by decide +kernel
theorem dX9_childOf_92 : decode cX9_childOf 92 = .ok (.aload 5, 2) := by decide +kernel
theorem dX9_childOf_94 : decode cX9_childOf 94 = .ok (.astore_n 3, 1) := by decide +kernel
theorem dX9_childOf_95 : decode cX9_childOf 95 = .ok (.iinc 4 1, 3) := by decide +kernel
theorem dX9_childOf_98 : decode cX9_childOf 98 = .ok (.goto (-93), 3) := by decide +kernel
theorem dX9_childOf_101 : decode cX9_childOf 101 = .ok (.aload_n 3, 1) := by decide +kernel
theorem dX9_childOf_102 : decode cX9_childOf 102 = .ok (.areturn, 1) := by decide +kernel
theorem dX9_reach_0 : decode cX9_reach 0 = .ok (.aload_n 0, 1) := by decide +kernel
theorem dX9_reach_1 : decode cX9_reach 1 = .ok (.getfield 53, 3) := by decide +kernel
theorem dX9_reach_4 : decode cX9_reach 4 = .ok (.astore_n 3, 1) := by decide +kernel
theorem dX9_reach_5 : decode cX9_reach 5 = .ok (.iconst 0, 1) := by decide +kernel
theorem dX9_reach_6 : decode cX9_reach 6 = .ok (.istore 4, 2) := by decide +kernel
theorem dX9_reach_8 : decode cX9_reach 8 = .ok (.iload 4, 2) := by decide +kernel
theorem dX9_reach_10 : decode cX9_reach 10 = .ok (.aload_n 1, 1) := by decide +kernel
theorem dX9_reach_11 : decode cX9_reach 11 = .ok (.invokevirtual 104, 3) := by decide +kernel
theorem dX9_reach_14 : decode cX9_reach 14 = .ok (.if_icmp .ge 62, 3) := by decide +kernel
theorem dX9_reach_17 : decode cX9_reach 17 = .ok (.aload_n 3, 1) := by decide +kernel
theorem dX9_reach_18 : decode cX9_reach 18 = .ok (.invokevirtual 109, 3) := by decide +kernel
theorem dX9_reach_21 : decode cX9_reach 21 = .ok (.ifCond .ne 5, 3) := by decide +kernel
theorem dX9_reach_24 : decode cX9_reach 24 = .ok (.aconst_null, 1) := by decide +kernel
theorem dX9_reach_25 : decode cX9_reach 25 = .ok (.areturn, 1) := by decide +kernel
theorem dX9_reach_26 : decode cX9_reach 26 = .ok (.aload_n 0, 1) := by decide +kernel
theorem dX9_reach_27 : decode cX9_reach 27 = .ok (.aload_n 3, 1) := by decide +kernel
theorem dX9_reach_28 : decode cX9_reach 28 = .ok (.aload_n 1, 1) := by decide +kernel
theorem dX9_reach_29 : decode cX9_reach 29 = .ok (.iload 4, 2) := by decide +kernel
theorem dX9_reach_31 : decode cX9_reach 31 = .ok (.invokevirtual 113, 3) := by decide +kernel
theorem dX9_reach_34 : decode cX9_reach 34 = .ok (.invokevirtual 117, 3) := by decide +kernel
theorem dX9_reach_37 : decode cX9_reach 37 = .ok (.astore 5, 2) := by decide +kernel
theorem dX9_reach_39 : decode cX9_reach 39 = .ok (.aload 5, 2) := by decide +kernel
theorem dX9_reach_41 : decode cX9_reach 41 = .ok (.ifnull 24, 3) := by decide +kernel
theorem dX9_reach_44 : decode cX9_reach 44 = .ok (.iload_n 2, 1) := by decide +kernel
theorem dX9_reach_45 : decode cX9_reach 45 = .ok (.ifCond .eq 22, 3) := by decide +kernel
theorem dX9_reach_48 : decode cX9_reach 48 = .ok (.aload 5, 2) := by decide +kernel
theorem dX9_reach_50 : decode cX9_reach 50 = .ok (.getfield 88, 3) := by decide +kernel
theorem dX9_reach_53 : decode cX9_reach 53 = .ok (.aload_n 1, 1) := by decide +kernel
theorem dX9_reach_54 : decode cX9_reach 54 = .ok (.iload 4, 2) := by decide +kernel
theorem dX9_reach_56 : decode cX9_reach 56 = .ok (.invokevirtual 113, 3) := by decide +kernel
theorem dX9_reach_59 : decode cX9_reach 59 = .ok (.invokevirtual 92, 3) := by decide +kernel
theorem dX9_reach_62 : decode cX9_reach 62 = .ok (.ifCond .ne 5, 3) := by decide +kernel
theorem dX9_reach_65 : decode cX9_reach 65 = .ok (.aconst_null, 1) := by decide +kernel
theorem dX9_reach_66 : decode cX9_reach 66 = .ok (.areturn, 1) := by decide +kernel
theorem dX9_reach_67 : decode cX9_reach 67 = .ok (.aload 5, 2) := by decide +kernel
theorem dX9_reach_69 : decode cX9_reach 69 = .ok (.astore_n 3, 1) := by decide +kernel
theorem dX9_reach_70 : decode cX9_reach 70 = .ok (.iinc 4 1, 3) := by decide +kernel
theorem dX9_reach_73 : decode cX9_reach 73 = .ok (.goto (-65), 3) := by decide +kernel
theorem dX9_reach_76 : decode cX9_reach 76 = .ok (.aload_n 3, 1) := by decide +kernel
theorem dX9_reach_77 : decode cX9_reach 77 = .ok (.areturn, 1) := by decide +kernel
theorem dX9_isOutside_0 : decode cX9_isOutside 0 = .ok (.aload_n 1, 1) := by decide +kernel
theorem dX9_isOutside_1 : decode cX9_isOutside 1 = .ok (.astore_n 2, 1) := by decide +kernel
theorem dX9_isOutside_2 : decode cX9_isOutside 2 = .ok (.aload_n 2, 1) := by decide +kernel
theorem dX9_isOutside_3 : decode cX9_isOutside 3 = .ok (.ifnull 21, 3) := by decide +kernel
theorem dX9_isOutside_6 : decode cX9_isOutside 6 = .ok (.aload_n 2, 1) := by decide +kernel
theorem dX9_isOutside_7 : decode cX9_isOutside 7 = .ok (.aload_n 0, 1) := by decide +kernel
theorem dX9_isOutside_8 : decode cX9_isOutside 8 = .ok (.getfield 53, 3) := by decide +kernel
theorem dX9_isOutside_11 : decode cX9_isOutside 11 = .ok (.if_acmp .ne 5, 3) := by decide +kernel
theorem dX9_isOutside_14 : decode cX9_isOutside 14 = .ok (.iconst 0, 1) := by decide +kernel
theorem dX9_isOutside_15 : decode cX9_isOutside 15 = .ok (.ireturn, 1) := by decide +kernel
theorem dX9_isOutside_16 : decode cX9_isOutside 16 = .ok (.aload_n 2, 1) := by decide +kernel
theorem dX9_isOutside_17 : decode cX9_isOutside 17 = .ok (.getfield 121, 3) := by decide +kernel
theorem dX9_isOutside_20 : decode cX9_isOutside 20 = .ok (.astore_n 2, 1) := by decide +kernel
theorem dX9_isOutside_21 : decode cX9_isOutside 21 = .ok (.goto (-19), 3) := by decide +kernel
theorem dX9_isOutside_24 : decode cX9_isOutside 24 = .ok (.iconst 1, 1) := by decide +kernel
theorem dX9_isOutside_25 : decode cX9_isOutside 25 = .ok (.ireturn, 1) := by decide +kernel
theorem dX9_isUntouchedOutside_0 : decode cX9_isUntouchedOutside 0 = .ok (.aload_n 0, 1) := by decide +kernel
theorem dX9_isUntouchedOutside_1 : decode cX9_isUntouchedOutside 1 = .ok (.getfield 46, 3) := by decide +kernel
theorem dX9_isUntouchedOutside_4 : decode cX9_isUntouchedOutside 4 = .ok (.invokevirtual 124, 3) := by decide +kernel
theorem dX9_isUntouchedOutside_7 : decode cX9_isUntouchedOutside 7 = .ok (.ifCond .ne 38, 3) := by decide +kernel
theorem dX9_isUntouchedOutside_10 : decode cX9_isUntouchedOutside 10 = .ok (.aload_n 0, 1) := by decide +kernel
theorem dX9_isUntouchedOutside_11 : decode cX9_isUntouchedOutside 11 = .ok (.getfield 59, 3) := by decide +kernel
theorem dX9_isUntouchedOutside_14 : decode cX9_isUntouchedOutside 14 = .ok (.invokevirtual 124, 3) := by decide +kernel
theorem dX9_isUntouchedOutside_17 : decode cX9_isUntouchedOutside 17 = .ok (.ifCond .ne 28, 3) := by decide +kernel
theorem dX9_isUntouchedOutside_20 : decode cX9_isUntouchedOutside 20 = .ok (.aload_n 0, 1) := by decide +kernel
theorem dX9_isUntouchedOutside_21 : decode cX9_isUntouchedOutside 21 = .ok (.getfield 65, 3) := by decide +kernel
theorem dX9_isUntouchedOutside_24 : decode cX9_isUntouchedOutside 24 = .ok (.invokevirtual 124, 3) := by decide +kernel
theorem dX9_isUntouchedOutside_27 : decode cX9_isUntouchedOutside 27 = .ok (.iconst 2, 1) := by decide +kernel
theorem dX9_isUntouchedOutside_28 : decode cX9_isUntouchedOutside 28 = .ok (.if_icmp .ne 17, 3) := by decide +kernel
theorem dX9_isUntouchedOutside_31 : decode cX9_isUntouchedOutside 31 = .ok (.aload_n 0, 1) := by decide +kernel
theorem dX9_isUntouchedOutside_32 : decode cX9_isUntouchedOutside 32 = .ok (.getfield 53, 3) := by decide +kernel
theorem dX9_isUntouchedOutside_35 : decode cX9_isUntouchedOutside 35 = .ok (.getfield 80, 3) := by decide +kernel
theorem dX9_isUntouchedOutside_38 : decode cX9_isUntouchedOutside 38 = .ok (.ifCond .ne 7, 3) := by decide +kernel
theorem dX9_isUntouchedOutside_41 : decode cX9_isUntouchedOutside 41 = .ok (.iconst 1, 1) := by decide +kernel
theorem dX9_isUntouchedOutside_42 : decode cX9_isUntouchedOutside 42 = .ok (.goto 4, 3) := by decide +kernel
theorem dX9_isUntouchedOutside_45 : decode cX9_isUntouchedOutside 45 = .ok (.iconst 0, 1) := by decide +kernel
theorem dX9_isUntouchedOutside_46 : decode cX9_isUntouchedOutside 46 = .ok (.ireturn, 1) := by decide +kernel
theorem dX9_isAllElseBelowRoot_0 : decode cX9_isAllElseBelowRoot 0 = .ok (.aload_n 0, 1) := by decide +kernel
theorem dX9_isAllElseBelowRoot_1 : decode cX9_isAllElseBelowRoot 1 = .ok (.getfield 65, 3) := by decide +kernel
theorem dX9_isAllElseBelowRoot_4 : decode cX9_isAllElseBelowRoot 4 = .ok (.getfield 127, 3) := by decide +kernel
theorem dX9_isAllElseBelowRoot_7 : decode cX9_isAllElseBelowRoot 7 = .ok (.iconst 1, 1) := by decide +kernel
theorem dX9_isAllElseBelowRoot_8 : decode cX9_isAllElseBelowRoot 8 = .ok (.iadd, 1) := by decide +kernel
theorem dX9_isAllElseBelowRoot_9 : decode cX9_isAllElseBelowRoot 9 = .ok (.istore_n 1, 1) := by decide +kernel
theorem dX9_isAllElseBelowRoot_10 : decode cX9_isAllElseBelowRoot 10 = .ok (.iload_n 1, 1) := by decide +kernel
theorem dX9_isAllElseBelowRoot_11 : decode cX9_isAllElseBelowRoot 11 = .ok (.aload_n 0, 1) := by decide +kernel
theorem dX9_isAllElseBelowRoot_12 : decode cX9_isAllElseBelowRoot 12 = .ok (.getfield 16, 3) := by decide +kernel
theorem dX9_isAllElseBelowRoot_15 : decode cX9_isAllElseBelowRoot 15 = .ok (.invokevirtual 72, 3) := by decide +kernel
theorem dX9_isAllElseBelowRoot_18 : decode cX9_isAllElseBelowRoot 18 = .ok (.if_icmp .ge 46, 3) := by decide +kernel
theorem dX9_isAllElseBelowRoot_21 : decode cX9_isAllElseBelowRoot 21 = .ok (.aload_n 0, 1) := by decide +kernel
theorem dX9_isAllElseBelowRoot_22 : decode cX9_isAllElseBelowRoot 22 = .ok (.getfield 16, 3) := by decide +kernel
theorem dX9_isAllElseBelowRoot_25 : decode cX9_isAllElseBelowRoot 25 = .ok (.iload_n 1, 1) := by decide +kernel
theorem dX9_isAllElseBelowRoot_26 : decode cX9_isAllElseBelowRoot 26 = .ok (.invokevirtual 76, 3) := by decide +kernel
theorem dX9_isAllElseBelowRoot_29 : decode cX9_isAllElseBelowRoot 29 = .ok (.checkcast 30, 3) := by decide +kernel
theorem dX9_isAllElseBelowRoot_32 : decode cX9_isAllElseBelowRoot 32 = .ok (.getfield 80, 3) := by decide +kernel
theorem dX9_isAllElseBelowRoot_35 : decode cX9_isAllElseBelowRoot 35 = .ok (.ifCond .ne 23, 3) := by decide +kernel
theorem dX9_isAllElseBelowRoot_38 : decode cX9_isAllElseBelowRoot 38 = .ok (.aload_n 0, 1) := by decide +kernel
theorem dX9_isAllElseBelowRoot_39 : decode cX9_isAllElseBelowRoot 39 = .ok (.aload_n 0, 1) := by decide +kernel
theorem dX9_isAllElseBelowRoot_40 : decode cX9_isAllElseBelowRoot 40 = .ok (.getfield 16, 3) := by decide +kernel
theorem dX9_isAllElseBelowRoot_43 : decode cX9_isAllElseBelowRoot 43 = .ok (.iload_n 1, 1) := by decide +kernel
theorem dX9_isAllElseBelowRoot_44 : decode cX9_isAllElseBelowRoot 44 = .ok (.invokevirtual 76, 3) := by decide +kernel
theorem dX9_isAllElseBelowRoot_47 : decode cX9_isAllElseBelowRoot 47 = .ok (.checkcast 30, 3) := by decide +kernel
theorem dX9_isAllElseBelowRoot_50 : decode cX9_isAllElseBelowRoot 50 = .ok (.invokevirtual 131, 3) := by decide +kernel
theorem dX9_isAllElseBelowRoot_53 : decode cX9_isAllElseBelowRoot 53 = .ok (.ifCond .eq 5, 3) := by decide +kernel
theorem dX9_isAllElseBelowRoot_56 : decode cX9_isAllElseBelowRoot 56 = .ok (.iconst 0, 1) := by decide +kernel
theorem dX9_isAllElseBelowRoot_57 : decode cX9_isAllElseBelowRoot 57 = .ok (.ireturn, 1) := by decide +kernel
theorem dX9_isAllElseBelowRoot_58 : decode cX9_isAllElseBelowRoot 58 = .ok (.iinc 1 1, 3) := by decide +kernel
theorem dX9_isAllElseBelowRoot_61 : decode cX9_isAllElseBelowRoot 61 = .ok (.goto (-51), 3) := by decide +kernel
theorem dX9_isAllElseBelowRoot_64 : decode cX9_isAllElseBelowRoot 64 = .ok (.iconst 1, 1) := by decide +kernel
theorem dX9_isAllElseBelowRoot_65 : decode cX9_isAllElseBelowRoot 65 = .ok (.ireturn, 1) := by decide +kernel
theorem dX9_contentOf_0 : decode cX9_contentOf 0 = .ok (.aload_n 1, 1) := by decide +kernel
theorem dX9_contentOf_1 : decode cX9_contentOf 1 = .ok (.getfield 80, 3) := by decide +kernel
theorem dX9_contentOf_4 : decode cX9_contentOf 4 = .ok (.ifCond .eq 5, 3) := by decide +kernel
theorem dX9_contentOf_7 : decode cX9_contentOf 7 = .ok (.iconst (-1), 1) := by decide +kernel
theorem dX9_contentOf_8 : decode cX9_contentOf 8 = .ok (.ireturn, 1) := by decide +kernel
theorem dX9_contentOf_9 : decode cX9_contentOf 9 = .ok (.aload_n 1, 1) := by decide +kernel
theorem dX9_contentOf_10 : decode cX9_contentOf 10 = .ok (.getfield 135, 3) := by decide +kernel
theorem dX9_contentOf_13 : decode cX9_contentOf 13 = .ok (.ifnull 11, 3) := by decide +kernel
theorem dX9_contentOf_16 : decode cX9_contentOf 16 = .ok (.aload_n 1, 1) := by decide +kernel
theorem dX9_contentOf_17 : decode cX9_contentOf 17 = .ok (.getfield 135, 3) := by decide +kernel
theorem dX9_contentOf_20 : decode cX9_contentOf 20 = .ok (.getfield 139, 3) := by decide +kernel
theorem dX9_contentOf_23 : decode cX9_contentOf 23 = .ok (.ireturn, 1) := by decide +kernel
theorem dX9_contentOf_24 : decode cX9_contentOf 24 = .ok (.aload_n 1, 1) := by decide +kernel
theorem dX9_contentOf_25 : decode cX9_contentOf 25 = .ok (.getfield 140, 3) := by decide +kernel
theorem dX9_contentOf_28 : decode cX9_contentOf 28 = .ok (.ifnull 13, 3) := by decide +kernel
theorem dX9_contentOf_31 : decode cX9_contentOf 31 = .ok (.aload_n 1, 1) := by decide +kernel
theorem dX9_contentOf_32 : decode cX9_contentOf 32 = .ok (.getfield 140, 3) := by decide +kernel
theorem dX9_contentOf_35 : decode cX9_contentOf 35 = .ok (.getfield 144, 3) := by decide +kernel
theorem dX9_contentOf_38 : decode cX9_contentOf 38 = .ok (.goto 8, 3) := by decide +kernel
theorem dX9_contentOf_41 : decode cX9_contentOf 41 = .ok (.aload_n 0, 1) := by decide +kernel
theorem dX9_contentOf_42 : decode cX9_contentOf 42 = .ok (.aload_n 1, 1) := by decide +kernel
theorem dX9_contentOf_43 : decode cX9_contentOf 43 = .ok (.invokevirtual 145, 3) := by decide +kernel
theorem dX9_contentOf_46 : decode cX9_contentOf 46 = .ok (.ireturn, 1) := by decide +kernel
theorem dX9_countIn_0 : decode cX9_countIn 0 = .ok (.iconst 0, 1) := by decide +kernel
theorem dX9_countIn_1 : decode cX9_countIn 1 = .ok (.istore_n 2, 1) := by decide +kernel
theorem dX9_countIn_2 : decode cX9_countIn 2 = .ok (.iconst 0, 1) := by decide +kernel
theorem dX9_countIn_3 : decode cX9_countIn 3 = .ok (.istore_n 3, 1) := by decide +kernel
theorem dX9_countIn_4 : decode cX9_countIn 4 = .ok (.iload_n 3, 1) := by decide +kernel
theorem dX9_countIn_5 : decode cX9_countIn 5 = .ok (.aload_n 0, 1) := by decide +kernel
theorem dX9_countIn_6 : decode cX9_countIn 6 = .ok (.getfield 16, 3) := by decide +kernel
theorem dX9_countIn_9 : decode cX9_countIn 9 = .ok (.invokevirtual 72, 3) := by decide +kernel
theorem dX9_countIn_12 : decode cX9_countIn 12 = .ok (.if_icmp .ge 42, 3) := by decide +kernel
theorem dX9_countIn_15 : decode cX9_countIn 15 = .ok (.aload_n 0, 1) := by decide +kernel
theorem dX9_countIn_16 : decode cX9_countIn 16 = .ok (.getfield 16, 3) := by decide +kernel
theorem dX9_countIn_19 : decode cX9_countIn 19 = .ok (.iload_n 3, 1) := by decide +kernel
theorem dX9_countIn_20 : decode cX9_countIn 20 = .ok (.invokevirtual 76, 3) := by decide +kernel
theorem dX9_countIn_23 : decode cX9_countIn 23 = .ok (.checkcast 30, 3) := by decide +kernel
theorem dX9_countIn_26 : decode cX9_countIn 26 = .ok (.astore 4, 2) := by decide +kernel
theorem dX9_countIn_28 : decode cX9_countIn 28 = .ok (.aload 4, 2) := by decide +kernel
theorem dX9_countIn_30 : decode cX9_countIn 30 = .ok (.getfield 80, 3) := by decide +kernel
theorem dX9_countIn_33 : decode cX9_countIn 33 = .ok (.ifCond .ne 15, 3) := by decide +kernel
theorem dX9_countIn_36 : decode cX9_countIn 36 = .ok (.aload 4, 2) := by decide +kernel
theorem dX9_countIn_38 : decode cX9_countIn 38 = .ok (.invokevirtual 84, 3) := by decide +kernel
theorem dX9_countIn_41 : decode cX9_countIn 41 = .ok (.aload_n 1, 1) := by decide +kernel
theorem dX9_countIn_42 : decode cX9_countIn 42 = .ok (.if_acmp .ne 6, 3) := by decide +kernel
theorem dX9_countIn_45 : decode cX9_countIn 45 = .ok (.iinc 2 1, 3) := by decide +kernel
theorem dX9_countIn_48 : decode cX9_countIn 48 = .ok (.iinc 3 1, 3) := by decide +kernel
theorem dX9_countIn_51 : decode cX9_countIn 51 = .ok (.goto (-47), 3) := by decide +kernel
theorem dX9_countIn_54 : decode cX9_countIn 54 = .ok (.iload_n 2, 1) := by decide +kernel
theorem dX9_countIn_55 : decode cX9_countIn 55 = .ok (.ireturn, 1) := by decide +kernel
theorem dX9_countShut_0 : decode cX9_countShut 0 = .ok (.iconst 0, 1) := by decide +kernel
theorem dX9_countShut_1 : decode cX9_countShut 1 = .ok (.istore_n 1, 1) := by decide +kernel
theorem dX9_countShut_2 : decode cX9_countShut 2 = .ok (.iconst 0, 1) := by decide +kernel
theorem dX9_countShut_3 : decode cX9_countShut 3 = .ok (.istore_n 2, 1) := by decide +kernel
theorem dX9_countShut_4 : decode cX9_countShut 4 = .ok (.iload_n 2, 1) := by decide +kernel
theorem dX9_countShut_5 : decode cX9_countShut 5 = .ok (.aload_n 0, 1) := by decide +kernel
theorem dX9_countShut_6 : decode cX9_countShut 6 = .ok (.getfield 16, 3) := by decide +kernel
theorem dX9_countShut_9 : decode cX9_countShut 9 = .ok (.invokevirtual 72, 3) := by decide +kernel
theorem dX9_countShut_12 : decode cX9_countShut 12 = .ok (.if_icmp .ge 30, 3) := by decide +kernel
theorem dX9_countShut_15 : decode cX9_countShut 15 = .ok (.aload_n 0, 1) := by decide +kernel
theorem dX9_countShut_16 : decode cX9_countShut 16 = .ok (.getfield 16, 3) := by decide +kernel
theorem dX9_countShut_19 : decode cX9_countShut 19 = .ok (.iload_n 2, 1) := by decide +kernel
theorem dX9_countShut_20 : decode cX9_countShut 20 = .ok (.invokevirtual 76, 3) := by decide +kernel
theorem dX9_countShut_23 : decode cX9_countShut 23 = .ok (.checkcast 30, 3) := by decide +kernel
theorem dX9_countShut_26 : decode cX9_countShut 26 = .ok (.invokevirtual 124, 3) := by decide +kernel
theorem dX9_countShut_29 : decode cX9_countShut 29 = .ok (.iconst 1, 1) := by decide +kernel
theorem dX9_countShut_30 : decode cX9_countShut 30 = .ok (.if_icmp .ne 6, 3) := by decide +kernel
theorem dX9_countShut_33 : decode cX9_countShut 33 = .ok (.iinc 1 1, 3) := by decide +kernel
theorem dX9_countShut_36 : decode cX9_countShut 36 = .ok (.iinc 2 1, 3) := by decide +kernel
theorem dX9_countShut_39 : decode cX9_countShut 39 = .ok (.goto (-35), 3) := by decide +kernel
theorem dX9_countShut_42 : decode cX9_countShut 42 = .ok (.iload_n 1, 1) := by decide +kernel
theorem dX9_countShut_43 : decode cX9_countShut 43 = .ok (.ireturn, 1) := by decide +kernel
theorem dX9_countFilesWith_0 : decode cX9_countFilesWith 0 = .ok (.iconst 0, 1) := by decide +kernel
theorem dX9_countFilesWith_1 : decode cX9_countFilesWith 1 = .ok (.istore_n 2, 1) := by decide +kernel
theorem dX9_countFilesWith_2 : decode cX9_countFilesWith 2 = .ok (.iconst 0, 1) := by decide +kernel
theorem dX9_countFilesWith_3 : decode cX9_countFilesWith 3 = .ok (.istore_n 3, 1) := by decide +kernel
theorem dX9_countFilesWith_4 : decode cX9_countFilesWith 4 = .ok (.iload_n 3, 1) := by decide +kernel
theorem dX9_countFilesWith_5 : decode cX9_countFilesWith 5 = .ok (.aload_n 0, 1) := by decide +kernel
theorem dX9_countFilesWith_6 : decode cX9_countFilesWith 6 = .ok (.getfield 16, 3) := by decide +kernel
theorem dX9_countFilesWith_9 : decode cX9_countFilesWith 9 = .ok (.invokevirtual 72, 3) := by decide +kernel
theorem dX9_countFilesWith_12 : decode cX9_countFilesWith 12 = .ok (.if_icmp .ge 42, 3) := by decide +kernel
theorem dX9_countFilesWith_15 : decode cX9_countFilesWith 15 = .ok (.aload_n 0, 1) := by decide +kernel
theorem dX9_countFilesWith_16 : decode cX9_countFilesWith 16 = .ok (.getfield 16, 3) := by decide +kernel
theorem dX9_countFilesWith_19 : decode cX9_countFilesWith 19 = .ok (.iload_n 3, 1) := by decide +kernel
theorem dX9_countFilesWith_20 : decode cX9_countFilesWith 20 = .ok (.invokevirtual 76, 3) := by decide +kernel
theorem dX9_countFilesWith_23 : decode cX9_countFilesWith 23 = .ok (.checkcast 30, 3) := by decide +kernel
theorem dX9_countFilesWith_26 : decode cX9_countFilesWith 26 = .ok (.astore 4, 2) := by decide +kernel
theorem dX9_countFilesWith_28 : decode cX9_countFilesWith 28 = .ok (.aload 4, 2) := by decide +kernel
theorem dX9_countFilesWith_30 : decode cX9_countFilesWith 30 = .ok (.getfield 80, 3) := by decide +kernel
theorem dX9_countFilesWith_33 : decode cX9_countFilesWith 33 = .ok (.ifCond .ne 15, 3) := by decide +kernel
theorem dX9_countFilesWith_36 : decode cX9_countFilesWith 36 = .ok (.aload 4, 2) := by decide +kernel
theorem dX9_countFilesWith_38 : decode cX9_countFilesWith 38 = .ok (.getfield 135, 3) := by decide +kernel
theorem dX9_countFilesWith_41 : decode cX9_countFilesWith 41 = .ok (.aload_n 1, 1) := by decide +kernel
theorem dX9_countFilesWith_42 : decode cX9_countFilesWith 42 = .ok (.if_acmp .ne 6, 3) := by decide +kernel
theorem dX9_countFilesWith_45 : decode cX9_countFilesWith 45 = .ok (.iinc 2 1, 3) := by decide +kernel
theorem dX9_countFilesWith_48 : decode cX9_countFilesWith 48 = .ok (.iinc 3 1, 3) := by decide +kernel
theorem dX9_countFilesWith_51 : decode cX9_countFilesWith 51 = .ok (.goto (-47), 3) := by decide +kernel
theorem dX9_countFilesWith_54 : decode cX9_countFilesWith 54 = .ok (.iload_n 2, 1) := by decide +kernel
theorem dX9_countFilesWith_55 : decode cX9_countFilesWith 55 = .ok (.ireturn, 1) := by decide +kernel
theorem dX10_init_0 : decode cX10_init 0 = .ok (.aload_n 0, 1) := by decide +kernel
theorem dX10_init_1 : decode cX10_init 1 = .ok (.invokespecial 3, 3) := by decide +kernel
theorem dX10_init_4 : decode cX10_init 4 = .ok (.aload_n 0, 1) := by decide +kernel
theorem dX10_init_5 : decode cX10_init 5 = .ok (.aload_n 1, 1) := by decide +kernel
theorem dX10_init_6 : decode cX10_init 6 = .ok (.putfield 9, 3) := by decide +kernel
theorem dX10_init_9 : decode cX10_init 9 = .ok (.aload_n 0, 1) := by decide +kernel
theorem dX10_init_10 : decode cX10_init 10 = .ok (.new 15, 3) := by decide +kernel
theorem dX10_init_13 : decode cX10_init 13 = .ok (.dup, 1) := by decide +kernel
theorem dX10_init_14 : decode cX10_init 14 = .ok (.invokespecial 17, 3) := by decide +kernel
theorem dX10_init_17 : decode cX10_init 17 = .ok (.putfield 18, 3) := by decide +kernel
theorem dX10_init_20 : decode cX10_init 20 = .ok (.aload_n 0, 1) := by decide +kernel
theorem dX10_init_21 : decode cX10_init 21 = .ok (.aload_n 1, 1) := by decide +kernel
theorem dX10_init_22 : decode cX10_init 22 = .ok (.getfield 22, 3) := by decide +kernel
theorem dX10_init_25 : decode cX10_init 25 = .ok (.putfield 28, 3) := by decide +kernel
theorem dX10_init_28 : decode cX10_init 28 = .ok (.aload_n 0, 1) := by decide +kernel
theorem dX10_init_29 : decode cX10_init 29 = .ok (.iconst 0, 1) := by decide +kernel
theorem dX10_init_30 : decode cX10_init 30 = .ok (.putfield 31, 3) := by decide +kernel
theorem dX10_init_33 : decode cX10_init 33 = .ok (.aload_n 0, 1) := by decide +kernel
theorem dX10_init_34 : decode cX10_init 34 = .ok (.iconst 0, 1) := by decide +kernel
theorem dX10_init_35 : decode cX10_init 35 = .ok (.putfield 35, 3) := by decide +kernel
theorem dX10_init_38 : decode cX10_init 38 = .ok (.return_, 1) := by decide +kernel
theorem dX10_goThrough_0 : decode cX10_goThrough 0 = .ok (.aload_n 0, 1) := by decide +kernel
theorem dX10_goThrough_1 : decode cX10_goThrough 1 = .ok (.getfield 18, 3) := by decide +kernel
theorem dX10_goThrough_4 : decode cX10_goThrough 4 = .ok (.invokevirtual 38, 3) := by decide +kernel
theorem dX10_goThrough_7 : decode cX10_goThrough 7 = .ok (.aload_n 0, 1) := by decide +kernel
theorem dX10_goThrough_8 : decode cX10_goThrough 8 = .ok (.iload_n 3, 1) := by decide +kernel
theorem dX10_goThrough_9 : decode cX10_goThrough 9 = .ok (.putfield 31, 3) := by decide +kernel
theorem dX10_goThrough_12 : decode cX10_goThrough 12 = .ok (.aload_n 0, 1) := by decide +kernel
theorem dX10_goThrough_13 : decode cX10_goThrough 13 = .ok (.iconst 0, 1) := by decide +kernel
theorem dX10_goThrough_14 : decode cX10_goThrough 14 = .ok (.putfield 35, 3) := by decide +kernel
theorem dX10_goThrough_17 : decode cX10_goThrough 17 = .ok (.aload_n 0, 1) := by decide +kernel
theorem dX10_goThrough_18 : decode cX10_goThrough 18 = .ok (.aload_n 1, 1) := by decide +kernel
theorem dX10_goThrough_19 : decode cX10_goThrough 19 = .ok (.aload_n 2, 1) := by decide +kernel
theorem dX10_goThrough_20 : decode cX10_goThrough 20 = .ok (.invokevirtual 41, 3) := by decide +kernel
theorem dX10_goThrough_23 : decode cX10_goThrough 23 = .ok (.iconst 0, 1) := by decide +kernel
theorem dX10_goThrough_24 : decode cX10_goThrough 24 = .ok (.istore 4, 2) := by decide +kernel
theorem dX10_goThrough_26 : decode cX10_goThrough 26 = .ok (.iload 4, 2) := by decide +kernel
theorem dX10_goThrough_28 : decode cX10_goThrough 28 = .ok (.sipush 1000, 3) := by decide +kernel
theorem dX10_goThrough_31 : decode cX10_goThrough 31 = .ok (.if_icmp .ge 131, 3) := by decide +kernel
theorem dX10_goThrough_34 : decode cX10_goThrough 34 = .ok (.aload_n 0, 1) := by decide +kernel
theorem dX10_goThrough_35 : decode cX10_goThrough 35 = .ok (.getfield 9, 3) := by decide +kernel
theorem dX10_goThrough_38 : decode cX10_goThrough 38 = .ok (.aload_n 0, 1) := by decide +kernel
theorem dX10_goThrough_39 : decode cX10_goThrough 39 = .ok (.getfield 28, 3) := by decide +kernel
theorem dX10_goThrough_42 : decode cX10_goThrough 42 = .ok (.invokevirtual 45, 3) := by decide +kernel
theorem dX10_goThrough_45 : decode cX10_goThrough 45 = .ok (.ifCond .eq 5, 3) := by decide +kernel
end
section
theorem dX10_goThrough_48 : decode cX10_goThrough 48 = .ok (.iconst (-1), 1) := by decide +kernel
theorem dX10_goThrough_49 : decode cX10_goThrough 49 = .ok (.ireturn, 1) := by decide +kernel
theorem dX10_goThrough_50 : decode cX10_goThrough 50 = .ok (.aload_n 0, 1) := by decide +kernel
theorem dX10_goThrough_51 : decode cX10_goThrough 51 = .ok (.getfield 18, 3) := by decide +kernel
theorem dX10_goThrough_54 : decode cX10_goThrough 54 = .ok (.invokevirtual 49, 3) := by decide +kernel
theorem dX10_goThrough_57 : decode cX10_goThrough 57 = .ok (.ifCond .eq 23, 3) := by decide +kernel
theorem dX10_goThrough_60 : decode cX10_goThrough 60 = .ok (.aload_n 0, 1) := by decide +kernel
theorem dX10_goThrough_61 : decode cX10_goThrough 61 = .ok (.getfield 31, 3) := by decide +kernel
theorem dX10_goThrough_64 : decode cX10_goThrough 64 = .ok (.ifCond .le 8, 3) := by decide +kernel
theorem dX10_goThrough_67 : decode cX10_goThrough 67 = .ok (.bipush (-2), 2) := by decide +kernel
theorem dX10_goThrough_69 : decode cX10_goThrough 69 = .ok (.goto 10, 3) := by decide +kernel
theorem dX10_goThrough_72 : decode cX10_goThrough 72 = .ok (.aload_n 0, 1) := by decide +kernel
theorem dX10_goThrough_73 : decode cX10_goThrough 73 = .ok (.getfield 28, 3) := by decide +kernel
theorem dX10_goThrough_76 : decode cX10_goThrough 76 = .ok (.getfield 53, 3) := by decide +kernel
theorem dX10_goThrough_79 : decode cX10_goThrough 79 = .ok (.ireturn, 1) := by decide +kernel
theorem dX10_goThrough_80 : decode cX10_goThrough 80 = .ok (.aload_n 0, 1) := by decide +kernel
theorem dX10_goThrough_81 : decode cX10_goThrough 81 = .ok (.getfield 18, 3) := by decide +kernel
theorem dX10_goThrough_84 : decode cX10_goThrough 84 = .ok (.aload_n 0, 1) := by decide +kernel
theorem dX10_goThrough_85 : decode cX10_goThrough 85 = .ok (.getfield 18, 3) := by decide +kernel
theorem dX10_goThrough_88 : decode cX10_goThrough 88 = .ok (.invokevirtual 58, 3) := by decide +kernel
theorem dX10_goThrough_91 : decode cX10_goThrough 91 = .ok (.iconst 1, 1) := by decide +kernel
theorem dX10_goThrough_92 : decode cX10_goThrough 92 = .ok (.isub, 1) := by decide +kernel
theorem dX10_goThrough_93 : decode cX10_goThrough 93 = .ok (.invokevirtual 62, 3) := by decide +kernel
theorem dX10_goThrough_96 : decode cX10_goThrough 96 = .ok (.checkcast 66, 3) := by decide +kernel
theorem dX10_goThrough_99 : decode cX10_goThrough 99 = .ok (.astore 5, 2) := by decide +kernel
theorem dX10_goThrough_101 : decode cX10_goThrough 101 = .ok (.aload 5, 2) := by decide +kernel
theorem dX10_goThrough_103 : decode cX10_goThrough 103 = .ok (.invokevirtual 68, 3) := by decide +kernel
theorem dX10_goThrough_106 : decode cX10_goThrough 106 = .ok (.ifCond .eq 10, 3) := by decide +kernel
theorem dX10_goThrough_109 : decode cX10_goThrough 109 = .ok (.aload_n 0, 1) := by decide +kernel
theorem dX10_goThrough_110 : decode cX10_goThrough 110 = .ok (.invokevirtual 71, 3) := by decide +kernel
theorem dX10_goThrough_113 : decode cX10_goThrough 113 = .ok (.goto 31, 3) := by decide +kernel
theorem dX10_goThrough_116 : decode cX10_goThrough 116 = .ok (.aload_n 0, 1) := by decide +kernel
theorem dX10_goThrough_117 : decode cX10_goThrough 117 = .ok (.aload_n 0, 1) := by decide +kernel
theorem dX10_goThrough_118 : decode cX10_goThrough 118 = .ok (.getfield 31, 3) := by decide +kernel
theorem dX10_goThrough_121 : decode cX10_goThrough 121 = .ok (.ifCond .le 7, 3) := by decide +kernel
theorem dX10_goThrough_124 : decode cX10_goThrough 124 = .ok (.aconst_null, 1) := by decide +kernel
theorem dX10_goThrough_125 : decode cX10_goThrough 125 = .ok (.goto 16, 3) := by decide +kernel
theorem dX10_goThrough_128 : decode cX10_goThrough 128 = .ok (.aload_n 0, 1) := by decide +kernel
theorem dX10_goThrough_129 : decode cX10_goThrough 129 = .ok (.getfield 9, 3) := by decide +kernel
theorem dX10_goThrough_132 : decode cX10_goThrough 132 = .ok (.aload_n 0, 1) := by decide +kernel
theorem dX10_goThrough_133 : decode cX10_goThrough 133 = .ok (.getfield 28, 3) := by decide +kernel
theorem dX10_goThrough_136 : decode cX10_goThrough 136 = .ok (.aload 5, 2) := by decide +kernel
theorem dX10_goThrough_138 : decode cX10_goThrough 138 = .ok (.invokevirtual 74, 3) := by decide +kernel
theorem dX10_goThrough_141 : decode cX10_goThrough 141 = .ok (.invokevirtual 78, 3) := by decide +kernel
theorem dX10_goThrough_144 : decode cX10_goThrough 144 = .ok (.istore 6, 2) := by decide +kernel
theorem dX10_goThrough_146 : decode cX10_goThrough 146 = .ok (.iload 6, 2) := by decide +kernel
theorem dX10_goThrough_148 : decode cX10_goThrough 148 = .ok (.bipush (-4), 2) := by decide +kernel
theorem dX10_goThrough_150 : decode cX10_goThrough 150 = .ok (.if_icmp .eq 6, 3) := by decide +kernel
theorem dX10_goThrough_153 : decode cX10_goThrough 153 = .ok (.iload 6, 2) := by decide +kernel
theorem dX10_goThrough_155 : decode cX10_goThrough 155 = .ok (.ireturn, 1) := by decide +kernel
theorem dX10_goThrough_156 : decode cX10_goThrough 156 = .ok (.iinc 4 1, 3) := by decide +kernel
theorem dX10_goThrough_159 : decode cX10_goThrough 159 = .ok (.goto (-133), 3) := by decide +kernel
theorem dX10_goThrough_162 : decode cX10_goThrough 162 = .ok (.bipush (-3), 2) := by decide +kernel
theorem dX10_goThrough_164 : decode cX10_goThrough 164 = .ok (.ireturn, 1) := by decide +kernel
theorem dX10_begin_0 : decode cX10_begin 0 = .ok (.aload_n 0, 1) := by decide +kernel
theorem dX10_begin_1 : decode cX10_begin 1 = .ok (.aload_n 1, 1) := by decide +kernel
theorem dX10_begin_2 : decode cX10_begin 2 = .ok (.getfield 82, 3) := by decide +kernel
theorem dX10_begin_5 : decode cX10_begin 5 = .ok (.ifCond .eq 13, 3) := by decide +kernel
theorem dX10_begin_8 : decode cX10_begin 8 = .ok (.aload_n 0, 1) := by decide +kernel
theorem dX10_begin_9 : decode cX10_begin 9 = .ok (.getfield 9, 3) := by decide +kernel
theorem dX10_begin_12 : decode cX10_begin 12 = .ok (.getfield 88, 3) := by decide +kernel
theorem dX10_begin_15 : decode cX10_begin 15 = .ok (.goto 4, 3) := by decide +kernel
theorem dX10_begin_18 : decode cX10_begin 18 = .ok (.aload_n 2, 1) := by decide +kernel
theorem dX10_begin_19 : decode cX10_begin 19 = .ok (.putfield 28, 3) := by decide +kernel
theorem dX10_begin_22 : decode cX10_begin 22 = .ok (.aload_n 1, 1) := by decide +kernel
theorem dX10_begin_23 : decode cX10_begin 23 = .ok (.invokevirtual 91, 3) := by decide +kernel
theorem dX10_begin_26 : decode cX10_begin 26 = .ok (.iconst 1, 1) := by decide +kernel
theorem dX10_begin_27 : decode cX10_begin 27 = .ok (.isub, 1) := by decide +kernel
theorem dX10_begin_28 : decode cX10_begin 28 = .ok (.istore_n 3, 1) := by decide +kernel
theorem dX10_begin_29 : decode cX10_begin 29 = .ok (.iload_n 3, 1) := by decide +kernel
theorem dX10_begin_30 : decode cX10_begin 30 = .ok (.ifCond .lt 22, 3) := by decide +kernel
theorem dX10_begin_33 : decode cX10_begin 33 = .ok (.aload_n 0, 1) := by decide +kernel
theorem dX10_begin_34 : decode cX10_begin 34 = .ok (.getfield 18, 3) := by decide +kernel
theorem dX10_begin_37 : decode cX10_begin 37 = .ok (.aload_n 1, 1) := by decide +kernel
theorem dX10_begin_38 : decode cX10_begin 38 = .ok (.iload_n 3, 1) := by decide +kernel
theorem dX10_begin_39 : decode cX10_begin 39 = .ok (.invokevirtual 94, 3) := by decide +kernel
theorem dX10_begin_42 : decode cX10_begin 42 = .ok (.invokevirtual 98, 3) := by decide +kernel
theorem dX10_begin_45 : decode cX10_begin 45 = .ok (.pop, 1) := by decide +kernel
theorem dX10_begin_46 : decode cX10_begin 46 = .ok (.iinc 3 (-1), 3) := by decide +kernel
theorem dX10_begin_49 : decode cX10_begin 49 = .ok (.goto (-20), 3) := by decide +kernel
theorem dX10_begin_52 : decode cX10_begin 52 = .ok (.return_, 1) := by decide +kernel
theorem dX10_goUp_0 : decode cX10_goUp 0 = .ok (.aload_n 0, 1) := by decide +kernel
theorem dX10_goUp_1 : decode cX10_goUp 1 = .ok (.getfield 31, 3) := by decide +kernel
theorem dX10_goUp_4 : decode cX10_goUp 4 = .ok (.ifCond .le 16, 3) := by decide +kernel
theorem dX10_goUp_7 : decode cX10_goUp 7 = .ok (.aload_n 0, 1) := by decide +kernel
theorem dX10_goUp_8 : decode cX10_goUp 8 = .ok (.dup, 1) := by decide +kernel
theorem dX10_goUp_9 : decode cX10_goUp 9 = .ok (.getfield 31, 3) := by decide +kernel
theorem dX10_goUp_12 : decode cX10_goUp 12 = .ok (.iconst 1, 1) := by decide +kernel
theorem dX10_goUp_13 : decode cX10_goUp 13 = .ok (.isub, 1) := by decide +kernel
theorem dX10_goUp_14 : decode cX10_goUp 14 = .ok (.putfield 31, 3) := by decide +kernel
theorem dX10_goUp_17 : decode cX10_goUp 17 = .ok (.goto 14, 3) := by decide +kernel
theorem dX10_goUp_20 : decode cX10_goUp 20 = .ok (.aload_n 0, 1) := by decide +kernel
theorem dX10_goUp_21 : decode cX10_goUp 21 = .ok (.aload_n 0, 1) := by decide +kernel
theorem dX10_goUp_22 : decode cX10_goUp 22 = .ok (.getfield 28, 3) := by decide +kernel
theorem dX10_goUp_25 : decode cX10_goUp 25 = .ok (.invokevirtual 102, 3) := by decide +kernel
theorem dX10_goUp_28 : decode cX10_goUp 28 = .ok (.putfield 28, 3) := by decide +kernel
theorem dX10_goUp_31 : decode cX10_goUp 31 = .ok (.bipush (-4), 2) := by decide +kernel
theorem dX10_goUp_33 : decode cX10_goUp 33 = .ok (.ireturn, 1) := by decide +kernel
theorem dX10_goTo_0 : decode cX10_goTo 0 = .ok (.aload_n 1, 1) := by decide +kernel
theorem dX10_goTo_1 : decode cX10_goTo 1 = .ok (.ifnonnull 16, 3) := by decide +kernel
theorem dX10_goTo_4 : decode cX10_goTo 4 = .ok (.aload_n 0, 1) := by decide +kernel
theorem dX10_goTo_5 : decode cX10_goTo 5 = .ok (.dup, 1) := by decide +kernel
theorem dX10_goTo_6 : decode cX10_goTo 6 = .ok (.getfield 31, 3) := by decide +kernel
theorem dX10_goTo_9 : decode cX10_goTo 9 = .ok (.iconst 1, 1) := by decide +kernel
theorem dX10_goTo_10 : decode cX10_goTo 10 = .ok (.iadd, 1) := by decide +kernel
theorem dX10_goTo_11 : decode cX10_goTo 11 = .ok (.putfield 31, 3) := by decide +kernel
theorem dX10_goTo_14 : decode cX10_goTo 14 = .ok (.bipush (-4), 2) := by decide +kernel
theorem dX10_goTo_16 : decode cX10_goTo 16 = .ok (.ireturn, 1) := by decide +kernel
theorem dX10_goTo_17 : decode cX10_goTo 17 = .ok (.aload_n 1, 1) := by decide +kernel
theorem dX10_goTo_18 : decode cX10_goTo 18 = .ok (.invokevirtual 106, 3) := by decide +kernel
theorem dX10_goTo_21 : decode cX10_goTo 21 = .ok (.ifCond .eq 11, 3) := by decide +kernel
theorem dX10_goTo_24 : decode cX10_goTo 24 = .ok (.aload_n 0, 1) := by decide +kernel
theorem dX10_goTo_25 : decode cX10_goTo 25 = .ok (.aload_n 1, 1) := by decide +kernel
theorem dX10_goTo_26 : decode cX10_goTo 26 = .ok (.putfield 28, 3) := by decide +kernel
theorem dX10_goTo_29 : decode cX10_goTo 29 = .ok (.bipush (-4), 2) := by decide +kernel
theorem dX10_goTo_31 : decode cX10_goTo 31 = .ok (.ireturn, 1) := by decide +kernel
theorem dX10_goTo_32 : decode cX10_goTo 32 = .ok (.aload_n 1, 1) := by decide +kernel
theorem dX10_goTo_33 : decode cX10_goTo 33 = .ok (.getfield 109, 3) := by decide +kernel
theorem dX10_goTo_36 : decode cX10_goTo 36 = .ok (.ifnull 10, 3) := by decide +kernel
theorem dX10_goTo_39 : decode cX10_goTo 39 = .ok (.aload_n 1, 1) := by decide +kernel
theorem dX10_goTo_40 : decode cX10_goTo 40 = .ok (.getfield 113, 3) := by decide +kernel
theorem dX10_goTo_43 : decode cX10_goTo 43 = .ok (.ifCond .eq 23, 3) := by decide +kernel
theorem dX10_goTo_46 : decode cX10_goTo 46 = .ok (.aload_n 0, 1) := by decide +kernel
theorem dX10_goTo_47 : decode cX10_goTo 47 = .ok (.getfield 18, 3) := by decide +kernel
theorem dX10_goTo_50 : decode cX10_goTo 50 = .ok (.invokevirtual 49, 3) := by decide +kernel
theorem dX10_goTo_53 : decode cX10_goTo 53 = .ok (.ifCond .eq 10, 3) := by decide +kernel
theorem dX10_goTo_56 : decode cX10_goTo 56 = .ok (.aload_n 1, 1) := by decide +kernel
theorem dX10_goTo_57 : decode cX10_goTo 57 = .ok (.getfield 53, 3) := by decide +kernel
theorem dX10_goTo_60 : decode cX10_goTo 60 = .ok (.goto 5, 3) := by decide +kernel
theorem dX10_goTo_63 : decode cX10_goTo 63 = .ok (.bipush (-2), 2) := by decide +kernel
theorem dX10_goTo_65 : decode cX10_goTo 65 = .ok (.ireturn, 1) := by decide +kernel
theorem dX10_goTo_66 : decode cX10_goTo 66 = .ok (.aload_n 0, 1) := by decide +kernel
theorem dX10_goTo_67 : decode cX10_goTo 67 = .ok (.getfield 35, 3) := by decide +kernel
theorem dX10_goTo_70 : decode cX10_goTo 70 = .ok (.bipush 20, 2) := by decide +kernel
theorem dX10_goTo_72 : decode cX10_goTo 72 = .ok (.if_icmp .lt 6, 3) := by decide +kernel
theorem dX10_goTo_75 : decode cX10_goTo 75 = .ok (.bipush (-3), 2) := by decide +kernel
theorem dX10_goTo_77 : decode cX10_goTo 77 = .ok (.ireturn, 1) := by decide +kernel
theorem dX10_goTo_78 : decode cX10_goTo 78 = .ok (.aload_n 0, 1) := by decide +kernel
theorem dX10_goTo_79 : decode cX10_goTo 79 = .ok (.dup, 1) := by decide +kernel
theorem dX10_goTo_80 : decode cX10_goTo 80 = .ok (.getfield 35, 3) := by decide +kernel
theorem dX10_goTo_83 : decode cX10_goTo 83 = .ok (.iconst 1, 1) := by decide +kernel
theorem dX10_goTo_84 : decode cX10_goTo 84 = .ok (.iadd, 1) := by decide +kernel
theorem dX10_goTo_85 : decode cX10_goTo 85 = .ok (.putfield 35, 3) := by decide +kernel
theorem dX10_goTo_88 : decode cX10_goTo 88 = .ok (.aload_n 0, 1) := by decide +kernel
theorem dX10_goTo_89 : decode cX10_goTo 89 = .ok (.aload_n 1, 1) := by decide +kernel
theorem dX10_goTo_90 : decode cX10_goTo 90 = .ok (.getfield 109, 3) := by decide +kernel
theorem dX10_goTo_93 : decode cX10_goTo 93 = .ok (.aload_n 1, 1) := by decide +kernel
theorem dX10_goTo_94 : decode cX10_goTo 94 = .ok (.invokevirtual 102, 3) := by decide +kernel
theorem dX10_goTo_97 : decode cX10_goTo 97 = .ok (.invokevirtual 41, 3) := by decide +kernel
theorem dX10_goTo_100 : decode cX10_goTo 100 = .ok (.bipush (-4), 2) := by decide +kernel
theorem dX10_goTo_102 : decode cX10_goTo 102 = .ok (.ireturn, 1) := by decide +kernel
theorem dX11_init_0 : decode cX11_init 0 = .ok (.aload_n 0, 1) := by decide +kernel
theorem dX11_init_1 : decode cX11_init 1 = .ok (.invokespecial 1, 3) := by decide +kernel
theorem dX11_init_4 : decode cX11_init 4 = .ok (.aload_n 0, 1) := by decide +kernel
theorem dX11_init_5 : decode cX11_init 5 = .ok (.new 7, 3) := by decide +kernel
theorem dX11_init_8 : decode cX11_init 8 = .ok (.dup, 1) := by decide +kernel
theorem dX11_init_9 : decode cX11_init 9 = .ok (.iload_n 1, 1) := by decide +kernel
theorem dX11_init_10 : decode cX11_init 10 = .ok (.invokespecial 9, 3) := by decide +kernel
theorem dX11_init_13 : decode cX11_init 13 = .ok (.putfield 12, 3) := by decide +kernel
theorem dX11_init_16 : decode cX11_init 16 = .ok (.aload_n 0, 1) := by decide +kernel
theorem dX11_init_17 : decode cX11_init 17 = .ok (.new 18, 3) := by decide +kernel
theorem dX11_init_20 : decode cX11_init 20 = .ok (.dup, 1) := by decide +kernel
theorem dX11_init_21 : decode cX11_init 21 = .ok (.invokespecial 20, 3) := by decide +kernel
theorem dX11_init_24 : decode cX11_init 24 = .ok (.putfield 21, 3) := by decide +kernel
theorem dX11_init_27 : decode cX11_init 27 = .ok (.aload_n 0, 1) := by decide +kernel
theorem dX11_init_28 : decode cX11_init 28 = .ok (.new 25, 3) := by decide +kernel
theorem dX11_init_31 : decode cX11_init 31 = .ok (.dup, 1) := by decide +kernel
theorem dX11_init_32 : decode cX11_init 32 = .ok (.invokespecial 27, 3) := by decide +kernel
theorem dX11_init_35 : decode cX11_init 35 = .ok (.putfield 28, 3) := by decide +kernel
theorem dX11_init_38 : decode cX11_init 38 = .ok (.aload_n 0, 1) := by decide +kernel
theorem dX11_init_39 : decode cX11_init 39 = .ok (.new 25, 3) := by decide +kernel
theorem dX11_init_42 : decode cX11_init 42 = .ok (.dup, 1) := by decide +kernel
theorem dX11_init_43 : decode cX11_init 43 = .ok (.invokespecial 27, 3) := by decide +kernel
theorem dX11_init_46 : decode cX11_init 46 = .ok (.putfield 32, 3) := by decide +kernel
theorem dX11_init_49 : decode cX11_init 49 = .ok (.aload_n 0, 1) := by decide +kernel
theorem dX11_init_50 : decode cX11_init 50 = .ok (.new 25, 3) := by decide +kernel
theorem dX11_init_53 : decode cX11_init 53 = .ok (.dup, 1) := by decide +kernel
theorem dX11_init_54 : decode cX11_init 54 = .ok (.invokespecial 27, 3) := by decide +kernel
theorem dX11_init_57 : decode cX11_init 57 = .ok (.putfield 35, 3) := by decide +kernel
theorem dX11_init_60 : decode cX11_init 60 = .ok (.aload_n 0, 1) := by decide +kernel
theorem dX11_init_61 : decode cX11_init 61 = .ok (.new 38, 3) := by decide +kernel
theorem dX11_init_64 : decode cX11_init 64 = .ok (.dup, 1) := by decide +kernel
theorem dX11_init_65 : decode cX11_init 65 = .ok (.aload_n 0, 1) := by decide +kernel
theorem dX11_init_66 : decode cX11_init 66 = .ok (.getfield 12, 3) := by decide +kernel
theorem dX11_init_69 : decode cX11_init 69 = .ok (.invokespecial 40, 3) := by decide +kernel
theorem dX11_init_72 : decode cX11_init 72 = .ok (.putfield 43, 3) := by decide +kernel
theorem dX11_init_75 : decode cX11_init 75 = .ok (.aload_n 0, 1) := by decide +kernel
theorem dX11_init_76 : decode cX11_init 76 = .ok (.new 47, 3) := by decide +kernel
theorem dX11_init_79 : decode cX11_init 79 = .ok (.dup, 1) := by decide +kernel
theorem dX11_init_80 : decode cX11_init 80 = .ok (.aload_n 0, 1) := by decide +kernel
theorem dX11_init_81 : decode cX11_init 81 = .ok (.getfield 43, 3) := by decide +kernel
theorem dX11_init_84 : decode cX11_init 84 = .ok (.invokespecial 49, 3) := by decide +kernel
theorem dX11_init_87 : decode cX11_init 87 = .ok (.putfield 52, 3) := by decide +kernel
theorem dX11_init_90 : decode cX11_init 90 = .ok (.aload_n 0, 1) := by decide +kernel
theorem dX11_init_91 : decode cX11_init 91 = .ok (.new 56, 3) := by decide +kernel
theorem dX11_init_94 : decode cX11_init 94 = .ok (.dup, 1) := by decide +kernel
theorem dX11_init_95 : decode cX11_init 95 = .ok (.aload_n 0, 1) := by decide +kernel
theorem dX11_init_96 : decode cX11_init 96 = .ok (.getfield 12, 3) := by decide +kernel
theorem dX11_init_99 : decode cX11_init 99 = .ok (.aload_n 0, 1) := by decide +kernel
theorem dX11_init_100 : decode cX11_init 100 = .ok (.getfield 43, 3) := by decide +kernel
theorem dX11_init_103 : decode cX11_init 103 = .ok (.aload_n 0, 1) := by decide +kernel
theorem dX11_init_104 : decode cX11_init 104 = .ok (.getfield 52, 3) := by decide +kernel
theorem dX11_init_107 : decode cX11_init 107 = .ok (.invokespecial 58, 3) := by decide +kernel
theorem dX11_init_110 : decode cX11_init 110 = .ok (.putfield 61, 3) := by decide +kernel
theorem dX11_init_113 : decode cX11_init 113 = .ok (.aload_n 0, 1) := by decide +kernel
theorem dX11_init_114 : decode cX11_init 114 = .ok (.iconst 0, 1) := by decide +kernel
theorem dX11_init_115 : decode cX11_init 115 = .ok (.putfield 65, 3) := by decide +kernel
theorem dX11_init_118 : decode cX11_init 118 = .ok (.return_, 1) := by decide +kernel
theorem dX11_put_0 : decode cX11_put 0 = .ok (.aload_n 0, 1) := by decide +kernel
theorem dX11_put_1 : decode cX11_put 1 = .ok (.getfield 21, 3) := by decide +kernel
theorem dX11_put_4 : decode cX11_put 4 = .ok (.iload_n 1, 1) := by decide +kernel
theorem dX11_put_5 : decode cX11_put 5 = .ok (.invokevirtual 69, 3) := by decide +kernel
theorem dX11_put_8 : decode cX11_put 8 = .ok (.ireturn, 1) := by decide +kernel
theorem dX11_path_0 : decode cX11_path 0 = .ok (.aload_n 0, 1) := by decide +kernel
theorem dX11_path_1 : decode cX11_path 1 = .ok (.getfield 21, 3) := by decide +kernel
theorem dX11_path_4 : decode cX11_path 4 = .ok (.aload_n 0, 1) := by decide +kernel
theorem dX11_path_5 : decode cX11_path 5 = .ok (.getfield 12, 3) := by decide +kernel
theorem dX11_path_8 : decode cX11_path 8 = .ok (.invokevirtual 73, 3) := by decide +kernel
theorem dX11_path_11 : decode cX11_path 11 = .ok (.astore_n 1, 1) := by decide +kernel
theorem dX11_path_12 : decode cX11_path 12 = .ok (.aload_n 0, 1) := by decide +kernel
theorem dX11_path_13 : decode cX11_path 13 = .ok (.aload_n 1, 1) := by decide +kernel
theorem dX11_path_14 : decode cX11_path 14 = .ok (.invokevirtual 77, 3) := by decide +kernel
theorem dX11_path_17 : decode cX11_path 17 = .ok (.istore_n 2, 1) := by decide +kernel
theorem dX11_path_18 : decode cX11_path 18 = .ok (.iload_n 2, 1) := by decide +kernel
theorem dX11_path_19 : decode cX11_path 19 = .ok (.ifCond .ne 29, 3) := by decide +kernel
theorem dX11_path_22 : decode cX11_path 22 = .ok (.aload_n 0, 1) := by decide +kernel
theorem dX11_path_23 : decode cX11_path 23 = .ok (.getfield 28, 3) := by decide +kernel
theorem dX11_path_26 : decode cX11_path 26 = .ok (.invokevirtual 81, 3) := by decide +kernel
theorem dX11_path_29 : decode cX11_path 29 = .ok (.istore_n 2, 1) := by decide +kernel
theorem dX11_path_30 : decode cX11_path 30 = .ok (.aload_n 0, 1) := by decide +kernel
theorem dX11_path_31 : decode cX11_path 31 = .ok (.getfield 28, 3) := by decide +kernel
theorem dX11_path_34 : decode cX11_path 34 = .ok (.new 85, 3) := by decide +kernel
theorem dX11_path_37 : decode cX11_path 37 = .ok (.dup, 1) := by decide +kernel
theorem dX11_path_38 : decode cX11_path 38 = .ok (.iload_n 2, 1) := by decide +kernel
theorem dX11_path_39 : decode cX11_path 39 = .ok (.iconst 0, 1) := by decide +kernel
theorem dX11_path_40 : decode cX11_path 40 = .ok (.aload_n 1, 1) := by decide +kernel
theorem dX11_path_41 : decode cX11_path 41 = .ok (.invokespecial 87, 3) := by decide +kernel
theorem dX11_path_44 : decode cX11_path 44 = .ok (.invokevirtual 90, 3) := by decide +kernel
theorem dX11_path_47 : decode cX11_path 47 = .ok (.pop, 1) := by decide +kernel
theorem dX11_path_48 : decode cX11_path 48 = .ok (.aload_n 0, 1) := by decide +kernel
theorem dX11_path_49 : decode cX11_path 49 = .ok (.getfield 21, 3) := by decide +kernel
theorem dX11_path_52 : decode cX11_path 52 = .ok (.invokevirtual 94, 3) := by decide +kernel
theorem dX11_path_55 : decode cX11_path 55 = .ok (.iload_n 2, 1) := by decide +kernel
theorem dX11_path_56 : decode cX11_path 56 = .ok (.ireturn, 1) := by decide +kernel
theorem dX11_part_0 : decode cX11_part 0 = .ok (.aload_n 0, 1) := by decide +kernel
theorem dX11_part_1 : decode cX11_part 1 = .ok (.getfield 28, 3) := by decide +kernel
theorem dX11_part_4 : decode cX11_part 4 = .ok (.iload_n 1, 1) := by decide +kernel
theorem dX11_part_5 : decode cX11_part 5 = .ok (.invokestatic 97, 3) := by decide +kernel
theorem dX11_part_8 : decode cX11_part 8 = .ok (.astore 4, 2) := by decide +kernel
theorem dX11_part_10 : decode cX11_part 10 = .ok (.aload 4, 2) := by decide +kernel
theorem dX11_part_12 : decode cX11_part 12 = .ok (.ifnonnull 7, 3) := by decide +kernel
theorem dX11_part_15 : decode cX11_part 15 = .ok (.iconst (-1), 1) := by decide +kernel
theorem dX11_part_16 : decode cX11_part 16 = .ok (.goto 13, 3) := by decide +kernel
theorem dX11_part_19 : decode cX11_part 19 = .ok (.aload 4, 2) := by decide +kernel
theorem dX11_part_21 : decode cX11_part 21 = .ok (.iload_n 2, 1) := by decide +kernel
theorem dX11_part_22 : decode cX11_part 22 = .ok (.invokevirtual 101, 3) := by decide +kernel
theorem dX11_part_25 : decode cX11_part 25 = .ok (.iload_n 3, 1) := by decide +kernel
theorem dX11_part_26 : decode cX11_part 26 = .ok (.invokevirtual 105, 3) := by decide +kernel
theorem dX11_part_29 : decode cX11_part 29 = .ok (.ireturn, 1) := by decide +kernel
theorem dX11_meets_0 : decode cX11_meets 0 = .ok (.aload_n 0, 1) := by decide +kernel
theorem dX11_meets_1 : decode cX11_meets 1 = .ok (.getfield 28, 3) := by decide +kernel
theorem dX11_meets_4 : decode cX11_meets 4 = .ok (.iload_n 1, 1) := by decide +kernel
theorem dX11_meets_5 : decode cX11_meets 5 = .ok (.invokestatic 97, 3) := by decide +kernel
theorem dX11_meets_8 : decode cX11_meets 8 = .ok (.astore_n 3, 1) := by decide +kernel
theorem dX11_meets_9 : decode cX11_meets 9 = .ok (.aload_n 0, 1) := by decide +kernel
theorem dX11_meets_10 : decode cX11_meets 10 = .ok (.getfield 28, 3) := by decide +kernel
theorem dX11_meets_13 : decode cX11_meets 13 = .ok (.iload_n 2, 1) := by decide +kernel
theorem dX11_meets_14 : decode cX11_meets 14 = .ok (.invokestatic 97, 3) := by decide +kernel
theorem dX11_meets_17 : decode cX11_meets 17 = .ok (.astore 4, 2) := by decide +kernel
theorem dX11_meets_19 : decode cX11_meets 19 = .ok (.aload_n 3, 1) := by decide +kernel
theorem dX11_meets_20 : decode cX11_meets 20 = .ok (.ifnull 8, 3) := by decide +kernel
theorem dX11_meets_23 : decode cX11_meets 23 = .ok (.aload 4, 2) := by decide +kernel
theorem dX11_meets_25 : decode cX11_meets 25 = .ok (.ifnonnull 6, 3) := by decide +kernel
theorem dX11_meets_28 : decode cX11_meets 28 = .ok (.bipush (-7), 2) := by decide +kernel
theorem dX11_meets_30 : decode cX11_meets 30 = .ok (.ireturn, 1) := by decide +kernel
theorem dX11_meets_31 : decode cX11_meets 31 = .ok (.aload_n 3, 1) := by decide +kernel
theorem dX11_meets_32 : decode cX11_meets 32 = .ok (.invokevirtual 110, 3) := by decide +kernel
theorem dX11_meets_35 : decode cX11_meets 35 = .ok (.aload 4, 2) := by decide +kernel
theorem dX11_meets_37 : decode cX11_meets 37 = .ok (.invokevirtual 110, 3) := by decide +kernel
theorem dX11_meets_40 : decode cX11_meets 40 = .ok (.if_icmp .eq 5, 3) := by decide +kernel
theorem dX11_meets_43 : decode cX11_meets 43 = .ok (.iconst 0, 1) := by decide +kernel
theorem dX11_meets_44 : decode cX11_meets 44 = .ok (.ireturn, 1) := by decide +kernel
theorem dX11_meets_45 : decode cX11_meets 45 = .ok (.iconst 0, 1) := by decide +kernel
theorem dX11_meets_46 : decode cX11_meets 46 = .ok (.istore 5, 2) := by decide +kernel
theorem dX11_meets_48 : decode cX11_meets 48 = .ok (.iload 5, 2) := by decide +kernel
theorem dX11_meets_50 : decode cX11_meets 50 = .ok (.aload_n 3, 1) := by decide +kernel
theorem dX11_meets_51 : decode cX11_meets 51 = .ok (.invokevirtual 110, 3) := by decide +kernel
theorem dX11_meets_54 : decode cX11_meets 54 = .ok (.if_icmp .ge 34, 3) := by decide +kernel
theorem dX11_meets_57 : decode cX11_meets 57 = .ok (.aload_n 0, 1) := by decide +kernel
theorem dX11_meets_58 : decode cX11_meets 58 = .ok (.getfield 12, 3) := by decide +kernel
theorem dX11_meets_61 : decode cX11_meets 61 = .ok (.aload_n 3, 1) := by decide +kernel
theorem dX11_meets_62 : decode cX11_meets 62 = .ok (.iload 5, 2) := by decide +kernel
theorem dX11_meets_64 : decode cX11_meets 64 = .ok (.invokevirtual 101, 3) := by decide +kernel
theorem dX11_meets_67 : decode cX11_meets 67 = .ok (.aload 4, 2) := by decide +kernel
theorem dX11_meets_69 : decode cX11_meets 69 = .ok (.iload 5, 2) := by decide +kernel
theorem dX11_meets_71 : decode cX11_meets 71 = .ok (.invokevirtual 101, 3) := by decide +kernel
theorem dX11_meets_74 : decode cX11_meets 74 = .ok (.invokevirtual 113, 3) := by decide +kernel
theorem dX11_meets_77 : decode cX11_meets 77 = .ok (.ifCond .ne 5, 3) := by decide +kernel
theorem dX11_meets_80 : decode cX11_meets 80 = .ok (.iconst 0, 1) := by decide +kernel
theorem dX11_meets_81 : decode cX11_meets 81 = .ok (.ireturn, 1) := by decide +kernel
theorem dX11_meets_82 : decode cX11_meets 82 = .ok (.iinc 5 1, 3) := by decide +kernel
theorem dX11_meets_85 : decode cX11_meets 85 = .ok (.goto (-37), 3) := by decide +kernel
theorem dX11_meets_88 : decode cX11_meets 88 = .ok (.iconst 1, 1) := by decide +kernel
theorem dX11_meets_89 : decode cX11_meets 89 = .ok (.ireturn, 1) := by decide +kernel
theorem dX11_target_0 : decode cX11_target 0 = .ok (.aload_n 0, 1) := by decide +kernel
theorem dX11_target_1 : decode cX11_target 1 = .ok (.invokevirtual 117, 3) := by decide +kernel
theorem dX11_target_4 : decode cX11_target 4 = .ok (.istore_n 1, 1) := by decide +kernel
theorem dX11_target_5 : decode cX11_target 5 = .ok (.iload_n 1, 1) := by decide +kernel
theorem dX11_target_6 : decode cX11_target 6 = .ok (.ifCond .ne 49, 3) := by decide +kernel
theorem dX11_target_9 : decode cX11_target 9 = .ok (.aload_n 0, 1) := by decide +kernel
theorem dX11_target_10 : decode cX11_target 10 = .ok (.getfield 32, 3) := by decide +kernel
theorem dX11_target_13 : decode cX11_target 13 = .ok (.invokevirtual 81, 3) := by decide +kernel
theorem dX11_target_16 : decode cX11_target 16 = .ok (.istore_n 1, 1) := by decide +kernel
theorem dX11_target_17 : decode cX11_target 17 = .ok (.aload_n 0, 1) := by decide +kernel
theorem dX11_target_18 : decode cX11_target 18 = .ok (.getfield 32, 3) := by decide +kernel
theorem dX11_target_21 : decode cX11_target 21 = .ok (.new 85, 3) := by decide +kernel
theorem dX11_target_24 : decode cX11_target 24 = .ok (.dup, 1) := by decide +kernel
theorem dX11_target_25 : decode cX11_target 25 = .ok (.iload_n 1, 1) := by decide +kernel
theorem dX11_target_26 : decode cX11_target 26 = .ok (.aload_n 0, 1) := by decide +kernel
theorem dX11_target_27 : decode cX11_target 27 = .ok (.getfield 21, 3) := by decide +kernel
theorem dX11_target_30 : decode cX11_target 30 = .ok (.aload_n 0, 1) := by decide +kernel
theorem dX11_target_31 : decode cX11_target 31 = .ok (.getfield 12, 3) := by decide +kernel
theorem dX11_target_34 : decode cX11_target 34 = .ok (.invokevirtual 120, 3) := by decide +kernel
theorem dX11_target_37 : decode cX11_target 37 = .ok (.aload_n 0, 1) := by decide +kernel
theorem dX11_target_38 : decode cX11_target 38 = .ok (.getfield 21, 3) := by decide +kernel
theorem dX11_target_41 : decode cX11_target 41 = .ok (.aload_n 0, 1) := by decide +kernel
theorem dX11_target_42 : decode cX11_target 42 = .ok (.getfield 12, 3) := by decide +kernel
theorem dX11_target_45 : decode cX11_target 45 = .ok (.invokevirtual 73, 3) := by decide +kernel
theorem dX11_target_48 : decode cX11_target 48 = .ok (.invokespecial 87, 3) := by decide +kernel
theorem dX11_target_51 : decode cX11_target 51 = .ok (.invokevirtual 90, 3) := by decide +kernel
theorem dX11_target_54 : decode cX11_target 54 = .ok (.pop, 1) := by decide +kernel
theorem dX11_target_55 : decode cX11_target 55 = .ok (.aload_n 0, 1) := by decide +kernel
theorem dX11_target_56 : decode cX11_target 56 = .ok (.getfield 21, 3) := by decide +kernel
theorem dX11_target_59 : decode cX11_target 59 = .ok (.invokevirtual 94, 3) := by decide +kernel
theorem dX11_target_62 : decode cX11_target 62 = .ok (.iload_n 1, 1) := by decide +kernel
theorem dX11_target_63 : decode cX11_target 63 = .ok (.ireturn, 1) := by decide +kernel
theorem dX11_entry_0 : decode cX11_entry 0 = .ok (.iload_n 1, 1) := by decide +kernel
theorem dX11_entry_1 : decode cX11_entry 1 = .ok (.ifCond .lt 8, 3) := by decide +kernel
theorem dX11_entry_4 : decode cX11_entry 4 = .ok (.iload_n 1, 1) := by decide +kernel
theorem dX11_entry_5 : decode cX11_entry 5 = .ok (.iconst 4, 1) := by decide +kernel
theorem dX11_entry_6 : decode cX11_entry 6 = .ok (.if_icmp .le 6, 3) := by decide +kernel
theorem dX11_entry_9 : decode cX11_entry 9 = .ok (.bipush (-7), 2) := by decide +kernel
theorem dX11_entry_11 : decode cX11_entry 11 = .ok (.ireturn, 1) := by decide +kernel
theorem dX11_entry_12 : decode cX11_entry 12 = .ok (.aload_n 0, 1) := by decide +kernel
theorem dX11_entry_13 : decode cX11_entry 13 = .ok (.getfield 28, 3) := by decide +kernel
theorem dX11_entry_16 : decode cX11_entry 16 = .ok (.iload_n 2, 1) := by decide +kernel
theorem dX11_entry_17 : decode cX11_entry 17 = .ok (.invokestatic 97, 3) := by decide +kernel
theorem dX11_entry_20 : decode cX11_entry 20 = .ok (.astore 6, 2) := by decide +kernel
theorem dX11_entry_22 : decode cX11_entry 22 = .ok (.aload_n 0, 1) := by decide +kernel
theorem dX11_entry_23 : decode cX11_entry 23 = .ok (.iload_n 1, 1) := by decide +kernel
theorem dX11_entry_24 : decode cX11_entry 24 = .ok (.iload_n 3, 1) := by decide +kernel
theorem dX11_entry_25 : decode cX11_entry 25 = .ok (.aload 6, 2) := by decide +kernel
theorem dX11_entry_27 : decode cX11_entry 27 = .ok (.invokevirtual 124, 3) := by decide +kernel
theorem dX11_entry_30 : decode cX11_entry 30 = .ok (.astore 7, 2) := by decide +kernel
theorem dX11_entry_32 : decode cX11_entry 32 = .ok (.aload 6, 2) := by decide +kernel
theorem dX11_entry_34 : decode cX11_entry 34 = .ok (.ifnull 8, 3) := by decide +kernel
theorem dX11_entry_37 : decode cX11_entry 37 = .ok (.aload 7, 2) := by decide +kernel
theorem dX11_entry_39 : decode cX11_entry 39 = .ok (.ifnonnull 6, 3) := by decide +kernel
theorem dX11_entry_42 : decode cX11_entry 42 = .ok (.bipush (-7), 2) := by decide +kernel
theorem dX11_entry_44 : decode cX11_entry 44 = .ok (.ireturn, 1) := by decide +kernel
theorem dX11_entry_45 : decode cX11_entry 45 = .ok (.iload_n 1, 1) := by decide +kernel
theorem dX11_entry_46 : decode cX11_entry 46 = .ok (.ifCond .ne 15, 3) := by decide +kernel
theorem dX11_entry_49 : decode cX11_entry 49 = .ok (.iload_n 3, 1) := by decide +kernel
theorem dX11_entry_50 : decode cX11_entry 50 = .ok (.ifCond .eq 11, 3) := by decide +kernel
theorem dX11_entry_53 : decode cX11_entry 53 = .ok (.iload_n 3, 1) := by decide +kernel
theorem dX11_entry_54 : decode cX11_entry 54 = .ok (.iconst 1, 1) := by decide +kernel
theorem dX11_entry_55 : decode cX11_entry 55 = .ok (.if_icmp .eq 6, 3) := by decide +kernel
theorem dX11_entry_58 : decode cX11_entry 58 = .ok (.bipush (-7), 2) := by decide +kernel
theorem dX11_entry_60 : decode cX11_entry 60 = .ok (.ireturn, 1) := by decide +kernel
theorem dX11_entry_61 : decode cX11_entry 61 = .ok (.iload_n 1, 1) := by decide +kernel
theorem dX11_entry_62 : decode cX11_entry 62 = .ok (.iconst 1, 1) := by decide +kernel
theorem dX11_entry_63 : decode cX11_entry 63 = .ok (.if_icmp .ne 22, 3) := by decide +kernel
theorem dX11_entry_66 : decode cX11_entry 66 = .ok (.lload 4, 2) := by decide +kernel
theorem dX11_entry_68 : decode cX11_entry 68 = .ok (.lconst 0, 1) := by decide +kernel
theorem dX11_entry_69 : decode cX11_entry 69 = .ok (.lcmp, 1) := by decide +kernel
theorem dX11_entry_70 : decode cX11_entry 70 = .ok (.ifCond .lt 12, 3) := by decide +kernel
theorem dX11_entry_73 : decode cX11_entry 73 = .ok (.lload 4, 2) := by decide +kernel
theorem dX11_entry_75 : decode cX11_entry 75 = .ok (.ldc2_w 128, 3) := by decide +kernel
theorem dX11_entry_78 : decode cX11_entry 78 = .ok (.lcmp, 1) := by decide +kernel
theorem dX11_entry_79 : decode cX11_entry 79 = .ok (.ifCond .le 6, 3) := by decide +kernel
theorem dX11_entry_82 : decode cX11_entry 82 = .ok (.bipush (-7), 2) := by decide +kernel
theorem dX11_entry_84 : decode cX11_entry 84 = .ok (.ireturn, 1) := by decide +kernel
theorem dX11_entry_85 : decode cX11_entry 85 = .ok (.aload_n 0, 1) := by decide +kernel
theorem dX11_entry_86 : decode cX11_entry 86 = .ok (.getfield 35, 3) := by decide +kernel
theorem dX11_entry_89 : decode cX11_entry 89 = .ok (.invokevirtual 81, 3) := by decide +kernel
theorem dX11_entry_92 : decode cX11_entry 92 = .ok (.bipush 100, 2) := by decide +kernel
theorem dX11_entry_94 : decode cX11_entry 94 = .ok (.if_icmp .lt 6, 3) := by decide +kernel
theorem dX11_entry_97 : decode cX11_entry 97 = .ok (.bipush (-6), 2) := by decide +kernel
theorem dX11_entry_99 : decode cX11_entry 99 = .ok (.ireturn, 1) := by decide +kernel
theorem dX11_entry_100 : decode cX11_entry 100 = .ok (.aload_n 0, 1) := by decide +kernel
theorem dX11_entry_101 : decode cX11_entry 101 = .ok (.getfield 35, 3) := by decide +kernel
theorem dX11_entry_104 : decode cX11_entry 104 = .ok (.new 130, 3) := by decide +kernel
theorem dX11_entry_107 : decode cX11_entry 107 = .ok (.dup, 1) := by decide +kernel
theorem dX11_entry_108 : decode cX11_entry 108 = .ok (.iload_n 1, 1) := by decide +kernel
theorem dX11_entry_109 : decode cX11_entry 109 = .ok (.aload 6, 2) := by decide +kernel
theorem dX11_entry_111 : decode cX11_entry 111 = .ok (.aload 7, 2) := by decide +kernel
theorem dX11_entry_113 : decode cX11_entry 113 = .ok (.iload_n 3, 1) := by decide +kernel
theorem dX11_entry_114 : decode cX11_entry 114 = .ok (.lload 4, 2) := by decide +kernel
theorem dX11_entry_116 : decode cX11_entry 116 = .ok (.invokespecial 132, 3) := by decide +kernel
theorem dX11_entry_119 : decode cX11_entry 119 = .ok (.invokevirtual 90, 3) := by decide +kernel
theorem dX11_entry_122 : decode cX11_entry 122 = .ok (.pop, 1) := by decide +kernel
theorem dX11_entry_123 : decode cX11_entry 123 = .ok (.aload_n 0, 1) := by decide +kernel
theorem dX11_entry_124 : decode cX11_entry 124 = .ok (.getfield 35, 3) := by decide +kernel
theorem dX11_entry_127 : decode cX11_entry 127 = .ok (.invokevirtual 81, 3) := by decide +kernel
theorem dX11_entry_130 : decode cX11_entry 130 = .ok (.iconst 1, 1) := by decide +kernel
theorem dX11_entry_131 : decode cX11_entry 131 = .ok (.isub, 1) := by decide +kernel
theorem dX11_entry_132 : decode cX11_entry 132 = .ok (.ireturn, 1) := by decide +kernel
theorem dX11_take_0 : decode cX11_take 0 = .ok (.iload_n 1, 1) := by decide +kernel
theorem dX11_take_1 : decode cX11_take 1 = .ok (.ifCond .lt 14, 3) := by decide +kernel
theorem dX11_take_4 : decode cX11_take 4 = .ok (.iload_n 1, 1) := by decide +kernel
theorem dX11_take_5 : decode cX11_take 5 = .ok (.aload_n 0, 1) := by decide +kernel
theorem dX11_take_6 : decode cX11_take 6 = .ok (.getfield 35, 3) := by decide +kernel
theorem dX11_take_9 : decode cX11_take 9 = .ok (.invokevirtual 81, 3) := by decide +kernel
theorem dX11_take_12 : decode cX11_take 12 = .ok (.if_icmp .lt 6, 3) := by decide +kernel
theorem dX11_take_15 : decode cX11_take 15 = .ok (.bipush (-7), 2) := by decide +kernel
theorem dX11_take_17 : decode cX11_take 17 = .ok (.ireturn, 1) := by decide +kernel
theorem dX11_take_18 : decode cX11_take 18 = .ok (.aload_n 0, 1) := by decide +kernel
theorem dX11_take_19 : decode cX11_take 19 = .ok (.getfield 35, 3) := by decide +kernel
theorem dX11_take_22 : decode cX11_take 22 = .ok (.iload_n 1, 1) := by decide +kernel
theorem dX11_take_23 : decode cX11_take 23 = .ok (.invokevirtual 135, 3) := by decide +kernel
theorem dX11_take_26 : decode cX11_take 26 = .ok (.checkcast 130, 3) := by decide +kernel
theorem dX11_take_29 : decode cX11_take 29 = .ok (.astore_n 2, 1) := by decide +kernel
theorem dX11_take_30 : decode cX11_take 30 = .ok (.aload_n 0, 1) := by decide +kernel
theorem dX11_take_31 : decode cX11_take 31 = .ok (.getfield 61, 3) := by decide +kernel
theorem dX11_take_34 : decode cX11_take 34 = .ok (.aload_n 2, 1) := by decide +kernel
theorem dX11_take_35 : decode cX11_take 35 = .ok (.invokevirtual 139, 3) := by decide +kernel
theorem dX11_take_38 : decode cX11_take 38 = .ok (.istore_n 3, 1) := by decide +kernel
theorem dX11_take_39 : decode cX11_take 39 = .ok (.iload_n 3, 1) := by decide +kernel
theorem dX11_take_40 : decode cX11_take 40 = .ok (.bipush (-20), 2) := by decide +kernel
theorem dX11_take_42 : decode cX11_take 42 = .ok (.if_icmp .ne 13, 3) := by decide +kernel
theorem dX11_take_45 : decode cX11_take 45 = .ok (.aload_n 0, 1) := by decide +kernel
theorem dX11_take_46 : decode cX11_take 46 = .ok (.dup, 1) := by decide +kernel
theorem dX11_take_47 : decode cX11_take 47 = .ok (.getfield 65, 3) := by decide +kernel
theorem dX11_take_50 : decode cX11_take 50 = .ok (.iconst 1, 1) := by decide +kernel
theorem dX11_take_51 : decode cX11_take 51 = .ok (.iadd, 1) := by decide +kernel
theorem dX11_take_52 : decode cX11_take 52 = .ok (.putfield 65, 3) := by decide +kernel
theorem dX11_take_55 : decode cX11_take 55 = .ok (.iload_n 3, 1) := by decide +kernel
theorem dX11_take_56 : decode cX11_take 56 = .ok (.ifCond .ne 14, 3) := by decide +kernel
theorem dX11_take_59 : decode cX11_take 59 = .ok (.aload_n 0, 1) := by decide +kernel
theorem dX11_take_60 : decode cX11_take 60 = .ok (.getfield 61, 3) := by decide +kernel
theorem dX11_take_63 : decode cX11_take 63 = .ok (.aload_n 2, 1) := by decide +kernel
theorem dX11_take_64 : decode cX11_take 64 = .ok (.invokevirtual 143, 3) := by decide +kernel
theorem dX11_take_67 : decode cX11_take 67 = .ok (.goto 4, 3) := by decide +kernel
theorem dX11_take_70 : decode cX11_take 70 = .ok (.iload_n 3, 1) := by decide +kernel
theorem dX11_take_71 : decode cX11_take 71 = .ok (.ireturn, 1) := by decide +kernel
theorem dX11_dry_0 : decode cX11_dry 0 = .ok (.iload_n 1, 1) := by decide +kernel
theorem dX11_dry_1 : decode cX11_dry 1 = .ok (.ifCond .lt 14, 3) := by decide +kernel
theorem dX11_dry_4 : decode cX11_dry 4 = .ok (.iload_n 1, 1) := by decide +kernel
theorem dX11_dry_5 : decode cX11_dry 5 = .ok (.aload_n 0, 1) := by decide +kernel
theorem dX11_dry_6 : decode cX11_dry 6 = .ok (.getfield 35, 3) := by decide +kernel
theorem dX11_dry_9 : decode cX11_dry 9 = .ok (.invokevirtual 81, 3) := by decide +kernel
theorem dX11_dry_12 : decode cX11_dry 12 = .ok (.if_icmp .lt 6, 3) := by decide +kernel
theorem dX11_dry_15 : decode cX11_dry 15 = .ok (.bipush (-7), 2) := by decide +kernel
theorem dX11_dry_17 : decode cX11_dry 17 = .ok (.ireturn, 1) := by decide +kernel
theorem dX11_dry_18 : decode cX11_dry 18 = .ok (.aload_n 0, 1) := by decide +kernel
theorem dX11_dry_19 : decode cX11_dry 19 = .ok (.getfield 61, 3) := by decide +kernel
theorem dX11_dry_22 : decode cX11_dry 22 = .ok (.aload_n 0, 1) := by decide +kernel
theorem dX11_dry_23 : decode cX11_dry 23 = .ok (.getfield 35, 3) := by decide +kernel
theorem dX11_dry_26 : decode cX11_dry 26 = .ok (.iload_n 1, 1) := by decide +kernel
theorem dX11_dry_27 : decode cX11_dry 27 = .ok (.invokevirtual 135, 3) := by decide +kernel
theorem dX11_dry_30 : decode cX11_dry 30 = .ok (.checkcast 130, 3) := by decide +kernel
theorem dX11_dry_33 : decode cX11_dry 33 = .ok (.invokevirtual 139, 3) := by decide +kernel
theorem dX11_dry_36 : decode cX11_dry 36 = .ok (.ireturn, 1) := by decide +kernel
theorem dX11_finish_0 : decode cX11_finish 0 = .ok (.aload_n 0, 1) := by decide +kernel
theorem dX11_finish_1 : decode cX11_finish 1 = .ok (.getfield 61, 3) := by decide +kernel
theorem dX11_finish_4 : decode cX11_finish 4 = .ok (.invokevirtual 146, 3) := by decide +kernel
theorem dX11_finish_7 : decode cX11_finish 7 = .ok (.aload_n 0, 1) := by decide +kernel
theorem dX11_finish_8 : decode cX11_finish 8 = .ok (.getfield 43, 3) := by decide +kernel
theorem dX11_finish_11 : decode cX11_finish 11 = .ok (.invokevirtual 149, 3) := by decide +kernel
theorem dX11_finish_14 : decode cX11_finish 14 = .ok (.ireturn, 1) := by decide +kernel
theorem dX11_limit_0 : decode cX11_limit 0 = .ok (.lload_n 2, 1) := by decide +kernel
theorem dX11_limit_1 : decode cX11_limit 1 = .ok (.lconst 0, 1) := by decide +kernel
theorem dX11_limit_2 : decode cX11_limit 2 = .ok (.lcmp, 1) := by decide +kernel
theorem dX11_limit_3 : decode cX11_limit 3 = .ok (.ifCond .ge 7, 3) := by decide +kernel
theorem dX11_limit_6 : decode cX11_limit 6 = .ok (.ldc2_w 152, 3) := by decide +kernel
theorem dX11_limit_9 : decode cX11_limit 9 = .ok (.lreturn, 1) := by decide +kernel
theorem dX11_limit_10 : decode cX11_limit 10 = .ok (.iload_n 1, 1) := by decide +kernel
theorem dX11_limit_11 : decode cX11_limit 11 = .ok (.ifCond .ne 12, 3) := by decide +kernel
theorem dX11_limit_14 : decode cX11_limit 14 = .ok (.aload_n 0, 1) := by decide +kernel
theorem dX11_limit_15 : decode cX11_limit 15 = .ok (.getfield 61, 3) := by decide +kernel
theorem dX11_limit_18 : decode cX11_limit 18 = .ok (.lload_n 2, 1) := by decide +kernel
theorem dX11_limit_19 : decode cX11_limit 19 = .ok (.invokevirtual 154, 3) := by decide +kernel
theorem dX11_limit_22 : decode cX11_limit 22 = .ok (.lreturn, 1) := by decide +kernel
theorem dX11_limit_23 : decode cX11_limit 23 = .ok (.iload_n 1, 1) := by decide +kernel
theorem dX11_limit_24 : decode cX11_limit 24 = .ok (.iconst 1, 1) := by decide +kernel
theorem dX11_limit_25 : decode cX11_limit 25 = .ok (.if_icmp .ne 12, 3) := by decide +kernel
theorem dX11_limit_28 : decode cX11_limit 28 = .ok (.aload_n 0, 1) := by decide +kernel
theorem dX11_limit_29 : decode cX11_limit 29 = .ok (.getfield 61, 3) := by decide +kernel
theorem dX11_limit_32 : decode cX11_limit 32 = .ok (.lload_n 2, 1) := by decide +kernel
theorem dX11_limit_33 : decode cX11_limit 33 = .ok (.invokevirtual 158, 3) := by decide +kernel
theorem dX11_limit_36 : decode cX11_limit 36 = .ok (.lreturn, 1) := by decide +kernel
theorem dX11_limit_37 : decode cX11_limit 37 = .ok (.ldc2_w 152, 3) := by decide +kernel
theorem dX11_limit_40 : decode cX11_limit 40 = .ok (.lreturn, 1) := by decide +kernel
theorem dX11_lead_0 : decode cX11_lead 0 = .ok (.aload_n 0, 1) := by decide +kernel
theorem dX11_lead_1 : decode cX11_lead 1 = .ok (.getfield 43, 3) := by decide +kernel
theorem dX11_lead_4 : decode cX11_lead 4 = .ok (.iload_n 1, 1) := by decide +kernel
theorem dX11_lead_5 : decode cX11_lead 5 = .ok (.invokevirtual 161, 3) := by decide +kernel
theorem dX11_lead_8 : decode cX11_lead 8 = .ok (.astore_n 2, 1) := by decide +kernel
theorem dX11_lead_9 : decode cX11_lead 9 = .ok (.aload_n 2, 1) := by decide +kernel
theorem dX11_lead_10 : decode cX11_lead 10 = .ok (.ifnull 10, 3) := by decide +kernel
theorem dX11_lead_13 : decode cX11_lead 13 = .ok (.aload_n 2, 1) := by decide +kernel
theorem dX11_lead_14 : decode cX11_lead 14 = .ok (.getfield 164, 3) := by decide +kernel
theorem dX11_lead_17 : decode cX11_lead 17 = .ok (.ifCond .eq 6, 3) := by decide +kernel
theorem dX11_lead_20 : decode cX11_lead 20 = .ok (.bipush (-7), 2) := by decide +kernel
theorem dX11_lead_22 : decode cX11_lead 22 = .ok (.ireturn, 1) := by decide +kernel
theorem dX11_lead_23 : decode cX11_lead 23 = .ok (.aload_n 2, 1) := by decide +kernel
theorem dX11_lead_24 : decode cX11_lead 24 = .ok (.getfield 170, 3) := by decide +kernel
theorem dX11_lead_27 : decode cX11_lead 27 = .ok (.ifnonnull 8, 3) := by decide +kernel
theorem dX11_lead_30 : decode cX11_lead 30 = .ok (.aload_n 2, 1) := by decide +kernel
theorem dX11_lead_31 : decode cX11_lead 31 = .ok (.getfield 174, 3) := by decide +kernel
theorem dX11_lead_34 : decode cX11_lead 34 = .ok (.ireturn, 1) := by decide +kernel
theorem dX11_lead_35 : decode cX11_lead 35 = .ok (.aload_n 2, 1) := by decide +kernel
theorem dX11_lead_36 : decode cX11_lead 36 = .ok (.getfield 177, 3) := by decide +kernel
theorem dX11_lead_39 : decode cX11_lead 39 = .ok (.ifCond .eq 8, 3) := by decide +kernel
theorem dX11_lead_42 : decode cX11_lead 42 = .ok (.bipush (-2), 2) := by decide +kernel
theorem dX11_lead_44 : decode cX11_lead 44 = .ok (.goto 19, 3) := by decide +kernel
theorem dX11_lead_47 : decode cX11_lead 47 = .ok (.aload_n 0, 1) := by decide +kernel
theorem dX11_lead_48 : decode cX11_lead 48 = .ok (.getfield 52, 3) := by decide +kernel
theorem dX11_lead_51 : decode cX11_lead 51 = .ok (.aload_n 2, 1) := by decide +kernel
theorem dX11_lead_52 : decode cX11_lead 52 = .ok (.getfield 170, 3) := by decide +kernel
theorem dX11_lead_55 : decode cX11_lead 55 = .ok (.aload_n 2, 1) := by decide +kernel
theorem dX11_lead_56 : decode cX11_lead 56 = .ok (.invokevirtual 180, 3) := by decide +kernel
theorem dX11_lead_59 : decode cX11_lead 59 = .ok (.iconst 0, 1) := by decide +kernel
theorem dX11_lead_60 : decode cX11_lead 60 = .ok (.invokevirtual 184, 3) := by decide +kernel
theorem dX11_lead_63 : decode cX11_lead 63 = .ok (.ireturn, 1) := by decide +kernel
theorem dX11_find_0 : decode cX11_find 0 = .ok (.aload_n 0, 1) := by decide +kernel
theorem dX11_find_1 : decode cX11_find 1 = .ok (.getfield 28, 3) := by decide +kernel
theorem dX11_find_4 : decode cX11_find 4 = .ok (.iload_n 1, 1) := by decide +kernel
theorem dX11_find_5 : decode cX11_find 5 = .ok (.invokestatic 97, 3) := by decide +kernel
theorem dX11_find_8 : decode cX11_find 8 = .ok (.astore_n 2, 1) := by decide +kernel
theorem dX11_find_9 : decode cX11_find 9 = .ok (.aload_n 2, 1) := by decide +kernel
theorem dX11_find_10 : decode cX11_find 10 = .ok (.ifnonnull 6, 3) := by decide +kernel
theorem dX11_find_13 : decode cX11_find 13 = .ok (.bipush (-7), 2) := by decide +kernel
theorem dX11_find_15 : decode cX11_find 15 = .ok (.ireturn, 1) := by decide +kernel
theorem dX11_find_16 : decode cX11_find 16 = .ok (.aload_n 0, 1) := by decide +kernel
theorem dX11_find_17 : decode cX11_find 17 = .ok (.getfield 43, 3) := by decide +kernel
theorem dX11_find_20 : decode cX11_find 20 = .ok (.aload_n 2, 1) := by decide +kernel
theorem dX11_find_21 : decode cX11_find 21 = .ok (.iconst 0, 1) := by decide +kernel
theorem dX11_find_22 : decode cX11_find 22 = .ok (.invokevirtual 188, 3) := by decide +kernel
theorem dX11_find_25 : decode cX11_find 25 = .ok (.astore_n 3, 1) := by decide +kernel
theorem dX11_find_26 : decode cX11_find 26 = .ok (.aload_n 3, 1) := by decide +kernel
theorem dX11_find_27 : decode cX11_find 27 = .ok (.ifnonnull 8, 3) := by decide +kernel
theorem dX11_find_30 : decode cX11_find 30 = .ok (.bipush (-2), 2) := by decide +kernel
theorem dX11_find_32 : decode cX11_find 32 = .ok (.goto 7, 3) := by decide +kernel
theorem dX11_find_35 : decode cX11_find 35 = .ok (.aload_n 3, 1) := by decide +kernel
theorem dX11_find_36 : decode cX11_find 36 = .ok (.getfield 174, 3) := by decide +kernel
theorem dX11_find_39 : decode cX11_find 39 = .ok (.ireturn, 1) := by decide +kernel
theorem dX11_node_0 : decode cX11_node 0 = .ok (.aload_n 0, 1) := by decide +kernel
theorem dX11_node_1 : decode cX11_node 1 = .ok (.getfield 43, 3) := by decide +kernel
theorem dX11_node_4 : decode cX11_node 4 = .ok (.iload_n 1, 1) := by decide +kernel
theorem dX11_node_5 : decode cX11_node 5 = .ok (.invokevirtual 161, 3) := by decide +kernel
theorem dX11_node_8 : decode cX11_node 8 = .ok (.astore_n 3, 1) := by decide +kernel
theorem dX11_node_9 : decode cX11_node 9 = .ok (.aload_n 3, 1) := by decide +kernel
theorem dX11_node_10 : decode cX11_node 10 = .ok (.ifnonnull 6, 3) := by decide +kernel
theorem dX11_node_13 : decode cX11_node 13 = .ok (.bipush (-7), 2) := by decide +kernel
theorem dX11_node_15 : decode cX11_node 15 = .ok (.ireturn, 1) := by decide +kernel
theorem dX11_node_16 : decode cX11_node 16 = .ok (.iload_n 2, 1) := by decide +kernel
theorem dX11_node_17 : decode cX11_node 17 = .ok (.tableswitch 61 0 3 #[31, 36, 44, 53], 31) := by decide +kernel
theorem dX11_node_48 : decode cX11_node 48 = .ok (.aload_n 3, 1) := by decide +kernel
theorem dX11_node_49 : decode cX11_node 49 = .ok (.invokevirtual 192, 3) := by decide +kernel
theorem dX11_node_52 : decode cX11_node 52 = .ok (.ireturn, 1) := by decide +kernel
theorem dX11_node_53 : decode cX11_node 53 = .ok (.aload_n 3, 1) := by decide +kernel
theorem dX11_node_54 : decode cX11_node 54 = .ok (.invokevirtual 180, 3) := by decide +kernel
theorem dX11_node_57 : decode cX11_node 57 = .ok (.getfield 174, 3) := by decide +kernel
theorem dX11_node_60 : decode cX11_node 60 = .ok (.ireturn, 1) := by decide +kernel
theorem dX11_node_61 : decode cX11_node 61 = .ok (.aload_n 0, 1) := by decide +kernel
theorem dX11_node_62 : decode cX11_node 62 = .ok (.getfield 43, 3) := by decide +kernel
theorem dX11_node_65 : decode cX11_node 65 = .ok (.aload_n 3, 1) := by decide +kernel
theorem dX11_node_66 : decode cX11_node 66 = .ok (.invokevirtual 195, 3) := by decide +kernel
theorem dX11_node_69 : decode cX11_node 69 = .ok (.ireturn, 1) := by decide +kernel
theorem dX11_node_70 : decode cX11_node 70 = .ok (.aload_n 3, 1) := by decide +kernel
theorem dX11_node_71 : decode cX11_node 71 = .ok (.getfield 199, 3) := by decide +kernel
theorem dX11_node_74 : decode cX11_node 74 = .ok (.invokevirtual 203, 3) := by decide +kernel
theorem dX11_node_77 : decode cX11_node 77 = .ok (.ireturn, 1) := by decide +kernel
theorem dX11_node_78 : decode cX11_node 78 = .ok (.bipush (-7), 2) := by decide +kernel
theorem dX11_node_80 : decode cX11_node 80 = .ok (.ireturn, 1) := by decide +kernel
theorem dX11_name_0 : decode cX11_name 0 = .ok (.aload_n 0, 1) := by decide +kernel
theorem dX11_name_1 : decode cX11_name 1 = .ok (.getfield 43, 3) := by decide +kernel
theorem dX11_name_4 : decode cX11_name 4 = .ok (.iload_n 1, 1) := by decide +kernel
theorem dX11_name_5 : decode cX11_name 5 = .ok (.invokevirtual 161, 3) := by decide +kernel
theorem dX11_name_8 : decode cX11_name 8 = .ok (.astore_n 3, 1) := by decide +kernel
theorem dX11_name_9 : decode cX11_name 9 = .ok (.aload_n 3, 1) := by decide +kernel
theorem dX11_name_10 : decode cX11_name 10 = .ok (.ifnonnull 7, 3) := by decide +kernel
theorem dX11_name_13 : decode cX11_name 13 = .ok (.iconst (-1), 1) := by decide +kernel
theorem dX11_name_14 : decode cX11_name 14 = .ok (.goto 11, 3) := by decide +kernel
theorem dX11_name_17 : decode cX11_name 17 = .ok (.aload_n 3, 1) := by decide +kernel
theorem dX11_name_18 : decode cX11_name 18 = .ok (.getfield 199, 3) := by decide +kernel
theorem dX11_name_21 : decode cX11_name 21 = .ok (.iload_n 2, 1) := by decide +kernel
theorem dX11_name_22 : decode cX11_name 22 = .ok (.invokevirtual 105, 3) := by decide +kernel
theorem dX11_name_25 : decode cX11_name 25 = .ok (.ireturn, 1) := by decide +kernel
theorem dX11_body_0 : decode cX11_body 0 = .ok (.aload_n 0, 1) := by decide +kernel
theorem dX11_body_1 : decode cX11_body 1 = .ok (.getfield 43, 3) := by decide +kernel
theorem dX11_body_4 : decode cX11_body 4 = .ok (.iload_n 1, 1) := by decide +kernel
theorem dX11_body_5 : decode cX11_body 5 = .ok (.invokevirtual 206, 3) := by decide +kernel
theorem dX11_body_8 : decode cX11_body 8 = .ok (.astore_n 3, 1) := by decide +kernel
theorem dX11_body_9 : decode cX11_body 9 = .ok (.aload_n 3, 1) := by decide +kernel
theorem dX11_body_10 : decode cX11_body 10 = .ok (.ifnonnull 7, 3) := by decide +kernel
theorem dX11_body_13 : decode cX11_body 13 = .ok (.ldc2_w 152, 3) := by decide +kernel
theorem dX11_body_16 : decode cX11_body 16 = .ok (.lreturn, 1) := by decide +kernel
theorem dX11_body_17 : decode cX11_body 17 = .ok (.iload_n 2, 1) := by decide +kernel
theorem dX11_body_18 : decode cX11_body 18 = .ok (.tableswitch 47 0 2 #[26, 31, 37], 26) := by decide +kernel
theorem dX11_body_44 : decode cX11_body 44 = .ok (.aload_n 3, 1) := by decide +kernel
theorem dX11_body_45 : decode cX11_body 45 = .ok (.getfield 210, 3) := by decide +kernel
theorem dX11_body_48 : decode cX11_body 48 = .ok (.lreturn, 1) := by decide +kernel
theorem dX11_body_49 : decode cX11_body 49 = .ok (.aload_n 3, 1) := by decide +kernel
theorem dX11_body_50 : decode cX11_body 50 = .ok (.getfield 215, 3) := by decide +kernel
theorem dX11_body_53 : decode cX11_body 53 = .ok (.i2l, 1) := by decide +kernel
theorem dX11_body_54 : decode cX11_body 54 = .ok (.lreturn, 1) := by decide +kernel
theorem dX11_body_55 : decode cX11_body 55 = .ok (.aload_n 0, 1) := by decide +kernel
theorem dX11_body_56 : decode cX11_body 56 = .ok (.getfield 43, 3) := by decide +kernel
theorem dX11_body_59 : decode cX11_body 59 = .ok (.aload_n 3, 1) := by decide +kernel
theorem dX11_body_60 : decode cX11_body 60 = .ok (.invokevirtual 218, 3) := by decide +kernel
theorem dX11_body_63 : decode cX11_body 63 = .ok (.i2l, 1) := by decide +kernel
theorem dX11_body_64 : decode cX11_body 64 = .ok (.lreturn, 1) := by decide +kernel
theorem dX11_body_65 : decode cX11_body 65 = .ok (.ldc2_w 152, 3) := by decide +kernel
theorem dX11_body_68 : decode cX11_body 68 = .ok (.lreturn, 1) := by decide +kernel
theorem dX11_inside_0 : decode cX11_inside 0 = .ok (.aload_n 0, 1) := by decide +kernel
theorem dX11_inside_1 : decode cX11_inside 1 = .ok (.getfield 43, 3) := by decide +kernel
theorem dX11_inside_4 : decode cX11_inside 4 = .ok (.invokevirtual 222, 3) := by decide +kernel
theorem dX11_inside_7 : decode cX11_inside 7 = .ok (.ifCond .eq 17, 3) := by decide +kernel
theorem dX11_inside_10 : decode cX11_inside 10 = .ok (.aload_n 0, 1) := by decide +kernel
theorem dX11_inside_11 : decode cX11_inside 11 = .ok (.getfield 43, 3) := by decide +kernel
theorem dX11_inside_14 : decode cX11_inside 14 = .ok (.invokevirtual 226, 3) := by decide +kernel
theorem dX11_inside_17 : decode cX11_inside 17 = .ok (.ifCond .eq 7, 3) := by decide +kernel
theorem dX11_inside_20 : decode cX11_inside 20 = .ok (.iconst 1, 1) := by decide +kernel
theorem dX11_inside_21 : decode cX11_inside 21 = .ok (.goto 4, 3) := by decide +kernel
theorem dX11_inside_24 : decode cX11_inside 24 = .ok (.iconst 0, 1) := by decide +kernel
theorem dX11_inside_25 : decode cX11_inside 25 = .ok (.ireturn, 1) := by decide +kernel
theorem dX11_told_0 : decode cX11_told 0 = .ok (.iload_n 1, 1) := by decide +kernel
theorem dX11_told_1 : decode cX11_told 1 = .ok (.tableswitch 108 0 7 #[47, 55, 63, 71, 79, 87, 95, 100], 47) := by decide +kernel
theorem dX11_told_48 : decode cX11_told 48 = .ok (.aload_n 0, 1) := by decide +kernel
theorem dX11_told_49 : decode cX11_told 49 = .ok (.getfield 43, 3) := by decide +kernel
theorem dX11_told_52 : decode cX11_told 52 = .ok (.invokevirtual 229, 3) := by decide +kernel
theorem dX11_told_55 : decode cX11_told 55 = .ok (.ireturn, 1) := by decide +kernel
theorem dX11_told_56 : decode cX11_told 56 = .ok (.aload_n 0, 1) := by decide +kernel
theorem dX11_told_57 : decode cX11_told 57 = .ok (.getfield 43, 3) := by decide +kernel
theorem dX11_told_60 : decode cX11_told 60 = .ok (.invokevirtual 232, 3) := by decide +kernel
theorem dX11_told_63 : decode cX11_told 63 = .ok (.ireturn, 1) := by decide +kernel
theorem dX11_told_64 : decode cX11_told 64 = .ok (.aload_n 0, 1) := by decide +kernel
theorem dX11_told_65 : decode cX11_told 65 = .ok (.getfield 28, 3) := by decide +kernel
theorem dX11_told_68 : decode cX11_told 68 = .ok (.invokevirtual 81, 3) := by decide +kernel
theorem dX11_told_71 : decode cX11_told 71 = .ok (.ireturn, 1) := by decide +kernel
theorem dX11_told_72 : decode cX11_told 72 = .ok (.aload_n 0, 1) := by decide +kernel
theorem dX11_told_73 : decode cX11_told 73 = .ok (.getfield 32, 3) := by decide +kernel
theorem dX11_told_76 : decode cX11_told 76 = .ok (.invokevirtual 81, 3) := by decide +kernel
theorem dX11_told_79 : decode cX11_told 79 = .ok (.ireturn, 1) := by decide +kernel
theorem dX11_told_80 : decode cX11_told 80 = .ok (.aload_n 0, 1) := by decide +kernel
theorem dX11_told_81 : decode cX11_told 81 = .ok (.getfield 35, 3) := by decide +kernel
theorem dX11_told_84 : decode cX11_told 84 = .ok (.invokevirtual 81, 3) := by decide +kernel
theorem dX11_told_87 : decode cX11_told 87 = .ok (.ireturn, 1) := by decide +kernel
theorem dX11_told_88 : decode cX11_told 88 = .ok (.aload_n 0, 1) := by decide +kernel
theorem dX11_told_89 : decode cX11_told 89 = .ok (.getfield 61, 3) := by decide +kernel
theorem dX11_told_92 : decode cX11_told 92 = .ok (.getfield 235, 3) := by decide +kernel
theorem dX11_told_95 : decode cX11_told 95 = .ok (.ireturn, 1) := by decide +kernel
theorem dX11_told_96 : decode cX11_told 96 = .ok (.aload_n 0, 1) := by decide +kernel
theorem dX11_told_97 : decode cX11_told 97 = .ok (.getfield 65, 3) := by decide +kernel
theorem dX11_told_100 : decode cX11_told 100 = .ok (.ireturn, 1) := by decide +kernel
theorem dX11_told_101 : decode cX11_told 101 = .ok (.aload_n 0, 1) := by decide +kernel
theorem dX11_told_102 : decode cX11_told 102 = .ok (.getfield 61, 3) := by decide +kernel
theorem dX11_told_105 : decode cX11_told 105 = .ok (.invokevirtual 238, 3) := by decide +kernel
theorem dX11_told_108 : decode cX11_told 108 = .ok (.ireturn, 1) := by decide +kernel
theorem dX11_told_109 : decode cX11_told 109 = .ok (.bipush (-7), 2) := by decide +kernel
theorem dX11_told_111 : decode cX11_told 111 = .ok (.ireturn, 1) := by decide +kernel
theorem dX11_judgeAsPath_0 : decode cX11_judgeAsPath 0 = .ok (.aload_n 1, 1) := by decide +kernel
theorem dX11_judgeAsPath_1 : decode cX11_judgeAsPath 1 = .ok (.invokevirtual 241, 3) := by decide +kernel
theorem dX11_judgeAsPath_4 : decode cX11_judgeAsPath 4 = .ok (.ifCond .eq 5, 3) := by decide +kernel
theorem dX11_judgeAsPath_7 : decode cX11_judgeAsPath 7 = .ok (.iconst (-1), 1) := by decide +kernel
theorem dX11_judgeAsPath_8 : decode cX11_judgeAsPath 8 = .ok (.ireturn, 1) := by decide +kernel
theorem dX11_judgeAsPath_9 : decode cX11_judgeAsPath 9 = .ok (.aload_n 0, 1) := by decide +kernel
theorem dX11_judgeAsPath_10 : decode cX11_judgeAsPath 10 = .ok (.getfield 21, 3) := by decide +kernel
theorem dX11_judgeAsPath_13 : decode cX11_judgeAsPath 13 = .ok (.aload_n 0, 1) := by decide +kernel
theorem dX11_judgeAsPath_14 : decode cX11_judgeAsPath 14 = .ok (.getfield 12, 3) := by decide +kernel
theorem dX11_judgeAsPath_17 : decode cX11_judgeAsPath 17 = .ok (.invokevirtual 120, 3) := by decide +kernel
theorem dX11_judgeAsPath_20 : decode cX11_judgeAsPath 20 = .ok (.ifCond .ne 13, 3) := by decide +kernel
theorem dX11_judgeAsPath_23 : decode cX11_judgeAsPath 23 = .ok (.aload_n 0, 1) := by decide +kernel
theorem dX11_judgeAsPath_24 : decode cX11_judgeAsPath 24 = .ok (.getfield 21, 3) := by decide +kernel
theorem dX11_judgeAsPath_27 : decode cX11_judgeAsPath 27 = .ok (.invokevirtual 244, 3) := by decide +kernel
theorem dX11_judgeAsPath_30 : decode cX11_judgeAsPath 30 = .ok (.ifCond .eq 6, 3) := by decide +kernel
theorem dX11_judgeAsPath_33 : decode cX11_judgeAsPath 33 = .ok (.bipush (-2), 2) := by decide +kernel
theorem dX11_judgeAsPath_35 : decode cX11_judgeAsPath 35 = .ok (.ireturn, 1) := by decide +kernel
theorem dX11_judgeAsPath_36 : decode cX11_judgeAsPath 36 = .ok (.aload_n 1, 1) := by decide +kernel
theorem dX11_judgeAsPath_37 : decode cX11_judgeAsPath 37 = .ok (.invokevirtual 81, 3) := by decide +kernel
theorem dX11_judgeAsPath_40 : decode cX11_judgeAsPath 40 = .ok (.bipush 8, 2) := by decide +kernel
theorem dX11_judgeAsPath_42 : decode cX11_judgeAsPath 42 = .ok (.if_icmp .le 8, 3) := by decide +kernel
theorem dX11_judgeAsPath_45 : decode cX11_judgeAsPath 45 = .ok (.bipush (-5), 2) := by decide +kernel
theorem dX11_judgeAsPath_47 : decode cX11_judgeAsPath 47 = .ok (.goto 4, 3) := by decide +kernel
theorem dX11_judgeAsPath_50 : decode cX11_judgeAsPath 50 = .ok (.iconst 0, 1) := by decide +kernel
theorem dX11_judgeAsPath_51 : decode cX11_judgeAsPath 51 = .ok (.istore_n 2, 1) := by decide +kernel
theorem dX11_judgeAsPath_52 : decode cX11_judgeAsPath 52 = .ok (.iconst 0, 1) := by decide +kernel
theorem dX11_judgeAsPath_53 : decode cX11_judgeAsPath 53 = .ok (.istore_n 3, 1) := by decide +kernel
theorem dX11_judgeAsPath_54 : decode cX11_judgeAsPath 54 = .ok (.iload_n 3, 1) := by decide +kernel
theorem dX11_judgeAsPath_55 : decode cX11_judgeAsPath 55 = .ok (.aload_n 1, 1) := by decide +kernel
theorem dX11_judgeAsPath_56 : decode cX11_judgeAsPath 56 = .ok (.invokevirtual 81, 3) := by decide +kernel
theorem dX11_judgeAsPath_59 : decode cX11_judgeAsPath 59 = .ok (.if_icmp .ge 29, 3) := by decide +kernel
theorem dX11_judgeAsPath_62 : decode cX11_judgeAsPath 62 = .ok (.iload_n 2, 1) := by decide +kernel
theorem dX11_judgeAsPath_63 : decode cX11_judgeAsPath 63 = .ok (.aload_n 1, 1) := by decide +kernel
theorem dX11_judgeAsPath_64 : decode cX11_judgeAsPath 64 = .ok (.iload_n 3, 1) := by decide +kernel
theorem dX11_judgeAsPath_65 : decode cX11_judgeAsPath 65 = .ok (.invokevirtual 135, 3) := by decide +kernel
theorem dX11_judgeAsPath_68 : decode cX11_judgeAsPath 68 = .ok (.checkcast 106, 3) := by decide +kernel
theorem dX11_judgeAsPath_71 : decode cX11_judgeAsPath 71 = .ok (.aload_n 0, 1) := by decide +kernel
theorem dX11_judgeAsPath_72 : decode cX11_judgeAsPath 72 = .ok (.getfield 12, 3) := by decide +kernel
theorem dX11_judgeAsPath_75 : decode cX11_judgeAsPath 75 = .ok (.invokevirtual 247, 3) := by decide +kernel
theorem dX11_judgeAsPath_78 : decode cX11_judgeAsPath 78 = .ok (.invokestatic 250, 3) := by decide +kernel
theorem dX11_judgeAsPath_81 : decode cX11_judgeAsPath 81 = .ok (.istore_n 2, 1) := by decide +kernel
theorem dX11_judgeAsPath_82 : decode cX11_judgeAsPath 82 = .ok (.iinc 3 1, 3) := by decide +kernel
theorem dX11_judgeAsPath_85 : decode cX11_judgeAsPath 85 = .ok (.goto (-31), 3) := by decide +kernel
theorem dX11_judgeAsPath_88 : decode cX11_judgeAsPath 88 = .ok (.iload_n 2, 1) := by decide +kernel
theorem dX11_judgeAsPath_89 : decode cX11_judgeAsPath 89 = .ok (.aload_n 0, 1) := by decide +kernel
theorem dX11_judgeAsPath_90 : decode cX11_judgeAsPath 90 = .ok (.getfield 28, 3) := by decide +kernel
theorem dX11_judgeAsPath_93 : decode cX11_judgeAsPath 93 = .ok (.invokevirtual 81, 3) := by decide +kernel
theorem dX11_judgeAsPath_96 : decode cX11_judgeAsPath 96 = .ok (.bipush 60, 2) := by decide +kernel
theorem dX11_judgeAsPath_98 : decode cX11_judgeAsPath 98 = .ok (.if_icmp .lt 8, 3) := by decide +kernel
theorem dX11_judgeAsPath_101 : decode cX11_judgeAsPath 101 = .ok (.bipush (-6), 2) := by decide +kernel
theorem dX11_judgeAsPath_103 : decode cX11_judgeAsPath 103 = .ok (.goto 4, 3) := by decide +kernel
theorem dX11_judgeAsPath_106 : decode cX11_judgeAsPath 106 = .ok (.iconst 0, 1) := by decide +kernel
theorem dX11_judgeAsPath_107 : decode cX11_judgeAsPath 107 = .ok (.invokestatic 250, 3) := by decide +kernel
theorem dX11_judgeAsPath_110 : decode cX11_judgeAsPath 110 = .ok (.ireturn, 1) := by decide +kernel
theorem dX11_earlierOf_0 : decode cX11_earlierOf 0 = .ok (.iload_n 0, 1) := by decide +kernel
theorem dX11_earlierOf_1 : decode cX11_earlierOf 1 = .ok (.ifCond .eq 7, 3) := by decide +kernel
theorem dX11_earlierOf_4 : decode cX11_earlierOf 4 = .ok (.iload_n 1, 1) := by decide +kernel
theorem dX11_earlierOf_5 : decode cX11_earlierOf 5 = .ok (.ifCond .ne 9, 3) := by decide +kernel
theorem dX11_earlierOf_8 : decode cX11_earlierOf 8 = .ok (.iload_n 0, 1) := by decide +kernel
theorem dX11_earlierOf_9 : decode cX11_earlierOf 9 = .ok (.iload_n 1, 1) := by decide +kernel
theorem dX11_earlierOf_10 : decode cX11_earlierOf 10 = .ok (.invokestatic 254, 3) := by decide +kernel
theorem dX11_earlierOf_13 : decode cX11_earlierOf 13 = .ok (.ireturn, 1) := by decide +kernel
theorem dX11_earlierOf_14 : decode cX11_earlierOf 14 = .ok (.iload_n 0, 1) := by decide +kernel
theorem dX11_earlierOf_15 : decode cX11_earlierOf 15 = .ok (.iload_n 1, 1) := by decide +kernel
theorem dX11_earlierOf_16 : decode cX11_earlierOf 16 = .ok (.invokestatic 259, 3) := by decide +kernel
theorem dX11_earlierOf_19 : decode cX11_earlierOf 19 = .ok (.ireturn, 1) := by decide +kernel
theorem dX11_judgeAsTarget_0 : decode cX11_judgeAsTarget 0 = .ok (.aload_n 0, 1) := by decide +kernel
theorem dX11_judgeAsTarget_1 : decode cX11_judgeAsTarget 1 = .ok (.getfield 21, 3) := by decide +kernel
theorem dX11_judgeAsTarget_4 : decode cX11_judgeAsTarget 4 = .ok (.invokevirtual 262, 3) := by decide +kernel
theorem dX11_judgeAsTarget_7 : decode cX11_judgeAsTarget 7 = .ok (.iconst 1, 1) := by decide +kernel
theorem dX11_judgeAsTarget_8 : decode cX11_judgeAsTarget 8 = .ok (.if_icmp .lt 15, 3) := by decide +kernel
theorem dX11_judgeAsTarget_11 : decode cX11_judgeAsTarget 11 = .ok (.aload_n 0, 1) := by decide +kernel
theorem dX11_judgeAsTarget_12 : decode cX11_judgeAsTarget 12 = .ok (.getfield 21, 3) := by decide +kernel
theorem dX11_judgeAsTarget_15 : decode cX11_judgeAsTarget 15 = .ok (.invokevirtual 262, 3) := by decide +kernel
theorem dX11_judgeAsTarget_18 : decode cX11_judgeAsTarget 18 = .ok (.bipush 40, 2) := by decide +kernel
theorem dX11_judgeAsTarget_20 : decode cX11_judgeAsTarget 20 = .ok (.if_icmp .le 5, 3) := by decide +kernel
theorem dX11_judgeAsTarget_23 : decode cX11_judgeAsTarget 23 = .ok (.iconst (-1), 1) := by decide +kernel
theorem dX11_judgeAsTarget_24 : decode cX11_judgeAsTarget 24 = .ok (.ireturn, 1) := by decide +kernel
theorem dX11_judgeAsTarget_25 : decode cX11_judgeAsTarget 25 = .ok (.aload_n 0, 1) := by decide +kernel
theorem dX11_judgeAsTarget_26 : decode cX11_judgeAsTarget 26 = .ok (.getfield 32, 3) := by decide +kernel
theorem dX11_judgeAsTarget_29 : decode cX11_judgeAsTarget 29 = .ok (.invokevirtual 81, 3) := by decide +kernel
theorem dX11_judgeAsTarget_32 : decode cX11_judgeAsTarget 32 = .ok (.bipush 40, 2) := by decide +kernel
theorem dX11_judgeAsTarget_34 : decode cX11_judgeAsTarget 34 = .ok (.if_icmp .lt 8, 3) := by decide +kernel
theorem dX11_judgeAsTarget_37 : decode cX11_judgeAsTarget 37 = .ok (.bipush (-6), 2) := by decide +kernel
theorem dX11_judgeAsTarget_39 : decode cX11_judgeAsTarget 39 = .ok (.goto 4, 3) := by decide +kernel
theorem dX11_judgeAsTarget_42 : decode cX11_judgeAsTarget 42 = .ok (.iconst 0, 1) := by decide +kernel
theorem dX11_judgeAsTarget_43 : decode cX11_judgeAsTarget 43 = .ok (.ireturn, 1) := by decide +kernel
theorem dX11_otherOf_0 : decode cX11_otherOf 0 = .ok (.iload_n 1, 1) := by decide +kernel
theorem dX11_otherOf_1 : decode cX11_otherOf 1 = .ok (.iconst 2, 1) := by decide +kernel
theorem dX11_otherOf_2 : decode cX11_otherOf 2 = .ok (.if_icmp .ne 12, 3) := by decide +kernel
theorem dX11_otherOf_5 : decode cX11_otherOf 5 = .ok (.aload_n 0, 1) := by decide +kernel
theorem dX11_otherOf_6 : decode cX11_otherOf 6 = .ok (.getfield 32, 3) := by decide +kernel
theorem dX11_otherOf_9 : decode cX11_otherOf 9 = .ok (.iload_n 2, 1) := by decide +kernel
theorem dX11_otherOf_10 : decode cX11_otherOf 10 = .ok (.invokestatic 97, 3) := by decide +kernel
theorem dX11_otherOf_13 : decode cX11_otherOf 13 = .ok (.areturn, 1) := by decide +kernel
theorem dX11_otherOf_14 : decode cX11_otherOf 14 = .ok (.iload_n 1, 1) := by decide +kernel
theorem dX11_otherOf_15 : decode cX11_otherOf 15 = .ok (.iconst 3, 1) := by decide +kernel
theorem dX11_otherOf_16 : decode cX11_otherOf 16 = .ok (.if_icmp .ne 14, 3) := by decide +kernel
theorem dX11_otherOf_19 : decode cX11_otherOf 19 = .ok (.aload_n 0, 1) := by decide +kernel
theorem dX11_otherOf_20 : decode cX11_otherOf 20 = .ok (.getfield 28, 3) := by decide +kernel
theorem dX11_otherOf_23 : decode cX11_otherOf 23 = .ok (.iload_n 2, 1) := by decide +kernel
theorem dX11_otherOf_24 : decode cX11_otherOf 24 = .ok (.invokestatic 97, 3) := by decide +kernel
theorem dX11_otherOf_27 : decode cX11_otherOf 27 = .ok (.goto 4, 3) := by decide +kernel
theorem dX11_otherOf_30 : decode cX11_otherOf 30 = .ok (.aload_n 3, 1) := by decide +kernel
theorem dX11_otherOf_31 : decode cX11_otherOf 31 = .ok (.areturn, 1) := by decide +kernel
theorem dX11_memberOf_0 : decode cX11_memberOf 0 = .ok (.iload_n 1, 1) := by decide +kernel
theorem dX11_memberOf_1 : decode cX11_memberOf 1 = .ok (.ifCond .lt 22, 3) := by decide +kernel
theorem dX11_memberOf_4 : decode cX11_memberOf 4 = .ok (.iload_n 1, 1) := by decide +kernel
theorem dX11_memberOf_5 : decode cX11_memberOf 5 = .ok (.aload_n 0, 1) := by decide +kernel
theorem dX11_memberOf_6 : decode cX11_memberOf 6 = .ok (.invokevirtual 81, 3) := by decide +kernel
theorem dX11_memberOf_9 : decode cX11_memberOf 9 = .ok (.if_icmp .ge 14, 3) := by decide +kernel
theorem dX11_memberOf_12 : decode cX11_memberOf 12 = .ok (.aload_n 0, 1) := by decide +kernel
theorem dX11_memberOf_13 : decode cX11_memberOf 13 = .ok (.iload_n 1, 1) := by decide +kernel
theorem dX11_memberOf_14 : decode cX11_memberOf 14 = .ok (.invokevirtual 135, 3) := by decide +kernel
theorem dX11_memberOf_17 : decode cX11_memberOf 17 = .ok (.checkcast 85, 3) := by decide +kernel
theorem dX11_memberOf_20 : decode cX11_memberOf 20 = .ok (.goto 4, 3) := by decide +kernel
theorem dX11_memberOf_23 : decode cX11_memberOf 23 = .ok (.aconst_null, 1) := by decide +kernel
theorem dX11_memberOf_24 : decode cX11_memberOf 24 = .ok (.areturn, 1) := by decide +kernel
theorem dX12_init_0 : decode cX12_init 0 = .ok (.aload_n 0, 1) := by decide +kernel
theorem dX12_init_1 : decode cX12_init 1 = .ok (.invokespecial 1, 3) := by decide +kernel
theorem dX12_init_4 : decode cX12_init 4 = .ok (.aload_n 0, 1) := by decide +kernel
theorem dX12_init_5 : decode cX12_init 5 = .ok (.sipush 160, 3) := by decide +kernel
theorem dX12_init_8 : decode cX12_init 8 = .ok (.newarray .int, 2) := by decide +kernel
theorem dX12_init_10 : decode cX12_init 10 = .ok (.putfield 7, 3) := by decide +kernel
theorem dX12_init_13 : decode cX12_init 13 = .ok (.aload_n 0, 1) := by decide +kernel
theorem dX12_init_14 : decode cX12_init 14 = .ok (.sipush 200, 3) := by decide +kernel
theorem dX12_init_17 : decode cX12_init 17 = .ok (.newarray .int, 2) := by decide +kernel
theorem dX12_init_19 : decode cX12_init 19 = .ok (.putfield 13, 3) := by decide +kernel
theorem dX12_init_22 : decode cX12_init 22 = .ok (.aload_n 0, 1) := by decide +kernel
theorem dX12_init_23 : decode cX12_init 23 = .ok (.sipush 200, 3) := by decide +kernel
theorem dX12_init_26 : decode cX12_init 26 = .ok (.newarray .boolean, 2) := by decide +kernel
theorem dX12_init_28 : decode cX12_init 28 = .ok (.putfield 16, 3) := by decide +kernel
theorem dX12_init_31 : decode cX12_init 31 = .ok (.aload_n 0, 1) := by decide +kernel
theorem dX12_init_32 : decode cX12_init 32 = .ok (.sipush 200, 3) := by decide +kernel
theorem dX12_init_35 : decode cX12_init 35 = .ok (.newarray .boolean, 2) := by decide +kernel
theorem dX12_init_37 : decode cX12_init 37 = .ok (.putfield 20, 3) := by decide +kernel
theorem dX12_init_40 : decode cX12_init 40 = .ok (.aload_n 0, 1) := by decide +kernel
theorem dX12_init_41 : decode cX12_init 41 = .ok (.sipush 200, 3) := by decide +kernel
theorem dX12_init_44 : decode cX12_init 44 = .ok (.newarray .boolean, 2) := by decide +kernel
theorem dX12_init_46 : decode cX12_init 46 = .ok (.putfield 23, 3) := by decide +kernel
theorem dX12_init_49 : decode cX12_init 49 = .ok (.aload_n 0, 1) := by decide +kernel
theorem dX12_init_50 : decode cX12_init 50 = .ok (.sipush 200, 3) := by decide +kernel
theorem dX12_init_53 : decode cX12_init 53 = .ok (.newarray .int, 2) := by decide +kernel
theorem dX12_init_55 : decode cX12_init 55 = .ok (.putfield 26, 3) := by decide +kernel
theorem dX12_init_58 : decode cX12_init 58 = .ok (.aload_n 0, 1) := by decide +kernel
theorem dX12_init_59 : decode cX12_init 59 = .ok (.sipush 200, 3) := by decide +kernel
theorem dX12_init_62 : decode cX12_init 62 = .ok (.newarray .int, 2) := by decide +kernel
theorem dX12_init_64 : decode cX12_init 64 = .ok (.putfield 29, 3) := by decide +kernel
theorem dX12_init_67 : decode cX12_init 67 = .ok (.aload_n 0, 1) := by decide +kernel
theorem dX12_init_68 : decode cX12_init 68 = .ok (.sipush 200, 3) := by decide +kernel
theorem dX12_init_71 : decode cX12_init 71 = .ok (.newarray .int, 2) := by decide +kernel
theorem dX12_init_73 : decode cX12_init 73 = .ok (.putfield 32, 3) := by decide +kernel
theorem dX12_init_76 : decode cX12_init 76 = .ok (.aload_n 0, 1) := by decide +kernel
theorem dX12_init_77 : decode cX12_init 77 = .ok (.sipush 3200, 3) := by decide +kernel
theorem dX12_init_80 : decode cX12_init 80 = .ok (.newarray .int, 2) := by decide +kernel
theorem dX12_init_82 : decode cX12_init 82 = .ok (.putfield 35, 3) := by decide +kernel
theorem dX12_init_85 : decode cX12_init 85 = .ok (.aload_n 0, 1) := by decide +kernel
theorem dX12_init_86 : decode cX12_init 86 = .ok (.sipush 200, 3) := by decide +kernel
theorem dX12_init_89 : decode cX12_init 89 = .ok (.newarray .int, 2) := by decide +kernel
theorem dX12_init_91 : decode cX12_init 91 = .ok (.putfield 38, 3) := by decide +kernel
theorem dX12_init_94 : decode cX12_init 94 = .ok (.aload_n 0, 1) := by decide +kernel
theorem dX12_init_95 : decode cX12_init 95 = .ok (.sipush 204, 3) := by decide +kernel
theorem dX12_init_98 : decode cX12_init 98 = .ok (.newarray .long, 2) := by decide +kernel
theorem dX12_init_100 : decode cX12_init 100 = .ok (.putfield 41, 3) := by decide +kernel
theorem dX12_init_103 : decode cX12_init 103 = .ok (.aload_n 0, 1) := by decide +kernel
theorem dX12_init_104 : decode cX12_init 104 = .ok (.sipush 204, 3) := by decide +kernel
theorem dX12_init_107 : decode cX12_init 107 = .ok (.newarray .int, 2) := by decide +kernel
theorem dX12_init_109 : decode cX12_init 109 = .ok (.putfield 45, 3) := by decide +kernel
theorem dX12_init_112 : decode cX12_init 112 = .ok (.aload_n 0, 1) := by decide +kernel
theorem dX12_init_113 : decode cX12_init 113 = .ok (.bipush 60, 2) := by decide +kernel
theorem dX12_init_115 : decode cX12_init 115 = .ok (.newarray .int, 2) := by decide +kernel
theorem dX12_init_117 : decode cX12_init 117 = .ok (.putfield 48, 3) := by decide +kernel
theorem dX12_init_120 : decode cX12_init 120 = .ok (.aload_n 0, 1) := by decide +kernel
theorem dX12_init_121 : decode cX12_init 121 = .ok (.sipush 480, 3) := by decide +kernel
theorem dX12_init_124 : decode cX12_init 124 = .ok (.newarray .int, 2) := by decide +kernel
theorem dX12_init_126 : decode cX12_init 126 = .ok (.putfield 51, 3) := by decide +kernel
theorem dX12_init_129 : decode cX12_init 129 = .ok (.aload_n 0, 1) := by decide +kernel
theorem dX12_init_130 : decode cX12_init 130 = .ok (.sipush 7680, 3) := by decide +kernel
theorem dX12_init_133 : decode cX12_init 133 = .ok (.newarray .int, 2) := by decide +kernel
theorem dX12_init_135 : decode cX12_init 135 = .ok (.putfield 54, 3) := by decide +kernel
theorem dX12_init_138 : decode cX12_init 138 = .ok (.aload_n 0, 1) := by decide +kernel
theorem dX12_init_139 : decode cX12_init 139 = .ok (.bipush 40, 2) := by decide +kernel
theorem dX12_init_141 : decode cX12_init 141 = .ok (.newarray .int, 2) := by decide +kernel
theorem dX12_init_143 : decode cX12_init 143 = .ok (.putfield 57, 3) := by decide +kernel
theorem dX12_init_146 : decode cX12_init 146 = .ok (.aload_n 0, 1) := by decide +kernel
theorem dX12_init_147 : decode cX12_init 147 = .ok (.sipush 1600, 3) := by decide +kernel
theorem dX12_init_150 : decode cX12_init 150 = .ok (.newarray .int, 2) := by decide +kernel
theorem dX12_init_152 : decode cX12_init 152 = .ok (.putfield 60, 3) := by decide +kernel
theorem dX12_init_155 : decode cX12_init 155 = .ok (.aload_n 0, 1) := by decide +kernel
theorem dX12_init_156 : decode cX12_init 156 = .ok (.bipush 100, 2) := by decide +kernel
theorem dX12_init_158 : decode cX12_init 158 = .ok (.newarray .int, 2) := by decide +kernel
theorem dX12_init_160 : decode cX12_init 160 = .ok (.putfield 63, 3) := by decide +kernel
theorem dX12_init_163 : decode cX12_init 163 = .ok (.aload_n 0, 1) := by decide +kernel
theorem dX12_init_164 : decode cX12_init 164 = .ok (.bipush 100, 2) := by decide +kernel
theorem dX12_init_166 : decode cX12_init 166 = .ok (.newarray .int, 2) := by decide +kernel
theorem dX12_init_168 : decode cX12_init 168 = .ok (.putfield 66, 3) := by decide +kernel
theorem dX12_init_171 : decode cX12_init 171 = .ok (.aload_n 0, 1) := by decide +kernel
theorem dX12_init_172 : decode cX12_init 172 = .ok (.bipush 100, 2) := by decide +kernel
theorem dX12_init_174 : decode cX12_init 174 = .ok (.newarray .int, 2) := by decide +kernel
theorem dX12_init_176 : decode cX12_init 176 = .ok (.putfield 69, 3) := by decide +kernel
theorem dX12_init_179 : decode cX12_init 179 = .ok (.aload_n 0, 1) := by decide +kernel
theorem dX12_init_180 : decode cX12_init 180 = .ok (.bipush 100, 2) := by decide +kernel
theorem dX12_init_182 : decode cX12_init 182 = .ok (.newarray .long, 2) := by decide +kernel
theorem dX12_init_184 : decode cX12_init 184 = .ok (.putfield 72, 3) := by decide +kernel
theorem dX12_init_187 : decode cX12_init 187 = .ok (.aload_n 0, 1) := by decide +kernel
theorem dX12_init_188 : decode cX12_init 188 = .ok (.ldc2_w 75, 3) := by decide +kernel
theorem dX12_init_191 : decode cX12_init 191 = .ok (.putfield 77, 3) := by decide +kernel
theorem dX12_init_194 : decode cX12_init 194 = .ok (.aload_n 0, 1) := by decide +kernel
theorem dX12_init_195 : decode cX12_init 195 = .ok (.ldc2_w 81, 3) := by decide +kernel
theorem dX12_init_198 : decode cX12_init 198 = .ok (.putfield 83, 3) := by decide +kernel
theorem dX12_init_201 : decode cX12_init 201 = .ok (.aload_n 0, 1) := by decide +kernel
theorem dX12_init_202 : decode cX12_init 202 = .ok (.sipush 160, 3) := by decide +kernel
theorem dX12_init_205 : decode cX12_init 205 = .ok (.newarray .int, 2) := by decide +kernel
theorem dX12_init_207 : decode cX12_init 207 = .ok (.putfield 86, 3) := by decide +kernel
theorem dX12_init_210 : decode cX12_init 210 = .ok (.aload_n 0, 1) := by decide +kernel
theorem dX12_init_211 : decode cX12_init 211 = .ok (.bipush 24, 2) := by decide +kernel
theorem dX12_init_213 : decode cX12_init 213 = .ok (.newarray .int, 2) := by decide +kernel
theorem dX12_init_215 : decode cX12_init 215 = .ok (.putfield 89, 3) := by decide +kernel
theorem dX12_init_218 : decode cX12_init 218 = .ok (.aload_n 0, 1) := by decide +kernel
theorem dX12_init_219 : decode cX12_init 219 = .ok (.bipush 24, 2) := by decide +kernel
theorem dX12_init_221 : decode cX12_init 221 = .ok (.newarray .int, 2) := by decide +kernel
theorem dX12_init_223 : decode cX12_init 223 = .ok (.putfield 92, 3) := by decide +kernel
theorem dX12_init_226 : decode cX12_init 226 = .ok (.aload_n 0, 1) := by decide +kernel
theorem dX12_init_227 : decode cX12_init 227 = .ok (.iload_n 1, 1) := by decide +kernel
theorem dX12_init_228 : decode cX12_init 228 = .ok (.bipush 63, 2) := by decide +kernel
theorem dX12_init_230 : decode cX12_init 230 = .ok (.iand, 1) := by decide +kernel
theorem dX12_init_231 : decode cX12_init 231 = .ok (.putfield 95, 3) := by decide +kernel
theorem dX12_init_234 : decode cX12_init 234 = .ok (.aload_n 0, 1) := by decide +kernel
theorem dX12_init_235 : decode cX12_init 235 = .ok (.iconst 0, 1) := by decide +kernel
theorem dX12_init_236 : decode cX12_init 236 = .ok (.iconst 0, 1) := by decide +kernel
theorem dX12_init_237 : decode cX12_init 237 = .ok (.invokevirtual 99, 3) := by decide +kernel
theorem dX12_init_240 : decode cX12_init 240 = .ok (.pop, 1) := by decide +kernel
theorem dX12_init_241 : decode cX12_init 241 = .ok (.aload_n 0, 1) := by decide +kernel
theorem dX12_init_242 : decode cX12_init 242 = .ok (.bipush 111, 2) := by decide +kernel
theorem dX12_init_244 : decode cX12_init 244 = .ok (.bipush 117, 2) := by decide +kernel
theorem dX12_init_246 : decode cX12_init 246 = .ok (.bipush 116, 2) := by decide +kernel
theorem dX12_init_248 : decode cX12_init 248 = .ok (.invokevirtual 103, 3) := by decide +kernel
end
section
theorem dX12_init_251 : decode cX12_init 251 = .ok (.aload_n 0, 1) := by decide +kernel
theorem dX12_init_252 : decode cX12_init 252 = .ok (.iconst 0, 1) := by decide +kernel
theorem dX12_init_253 : decode cX12_init 253 = .ok (.iconst 0, 1) := by decide +kernel
theorem dX12_init_254 : decode cX12_init 254 = .ok (.invokevirtual 99, 3) := by decide +kernel
theorem dX12_init_257 : decode cX12_init 257 = .ok (.pop, 1) := by decide +kernel
theorem dX12_init_258 : decode cX12_init 258 = .ok (.aload_n 0, 1) := by decide +kernel
theorem dX12_init_259 : decode cX12_init 259 = .ok (.bipush 104, 2) := by decide +kernel
theorem dX12_init_261 : decode cX12_init 261 = .ok (.bipush 111, 2) := by decide +kernel
theorem dX12_init_263 : decode cX12_init 263 = .ok (.bipush 109, 2) := by decide +kernel
theorem dX12_init_265 : decode cX12_init 265 = .ok (.invokevirtual 103, 3) := by decide +kernel
theorem dX12_init_268 : decode cX12_init 268 = .ok (.aload_n 0, 1) := by decide +kernel
theorem dX12_init_269 : decode cX12_init 269 = .ok (.getfield 86, 3) := by decide +kernel
theorem dX12_init_272 : decode cX12_init 272 = .ok (.iconst 3, 1) := by decide +kernel
theorem dX12_init_273 : decode cX12_init 273 = .ok (.bipush 101, 2) := by decide +kernel
theorem dX12_init_275 : decode cX12_init 275 = .ok (.iastore, 1) := by decide +kernel
theorem dX12_init_276 : decode cX12_init 276 = .ok (.aload_n 0, 1) := by decide +kernel
theorem dX12_init_277 : decode cX12_init 277 = .ok (.iconst 4, 1) := by decide +kernel
theorem dX12_init_278 : decode cX12_init 278 = .ok (.putfield 107, 3) := by decide +kernel
theorem dX12_init_281 : decode cX12_init 281 = .ok (.aload_n 0, 1) := by decide +kernel
theorem dX12_init_282 : decode cX12_init 282 = .ok (.iconst 0, 1) := by decide +kernel
theorem dX12_init_283 : decode cX12_init 283 = .ok (.iconst 0, 1) := by decide +kernel
theorem dX12_init_284 : decode cX12_init 284 = .ok (.invokevirtual 99, 3) := by decide +kernel
theorem dX12_init_287 : decode cX12_init 287 = .ok (.pop, 1) := by decide +kernel
theorem dX12_init_288 : decode cX12_init 288 = .ok (.aload_n 0, 1) := by decide +kernel
theorem dX12_init_289 : decode cX12_init 289 = .ok (.bipush 107, 2) := by decide +kernel
theorem dX12_init_291 : decode cX12_init 291 = .ok (.bipush 101, 2) := by decide +kernel
theorem dX12_init_293 : decode cX12_init 293 = .ok (.bipush 121, 2) := by decide +kernel
theorem dX12_init_295 : decode cX12_init 295 = .ok (.invokevirtual 103, 3) := by decide +kernel
theorem dX12_init_298 : decode cX12_init 298 = .ok (.aload_n 0, 1) := by decide +kernel
theorem dX12_init_299 : decode cX12_init 299 = .ok (.iconst 1, 1) := by decide +kernel
theorem dX12_init_300 : decode cX12_init 300 = .ok (.iconst 2, 1) := by decide +kernel
theorem dX12_init_301 : decode cX12_init 301 = .ok (.invokevirtual 99, 3) := by decide +kernel
theorem dX12_init_304 : decode cX12_init 304 = .ok (.pop, 1) := by decide +kernel
theorem dX12_init_305 : decode cX12_init 305 = .ok (.aload_n 0, 1) := by decide +kernel
theorem dX12_init_306 : decode cX12_init 306 = .ok (.getfield 29, 3) := by decide +kernel
theorem dX12_init_309 : decode cX12_init 309 = .ok (.iconst 3, 1) := by decide +kernel
theorem dX12_init_310 : decode cX12_init 310 = .ok (.iconst 0, 1) := by decide +kernel
theorem dX12_init_311 : decode cX12_init 311 = .ok (.iastore, 1) := by decide +kernel
theorem dX12_init_312 : decode cX12_init 312 = .ok (.aload_n 0, 1) := by decide +kernel
theorem dX12_init_313 : decode cX12_init 313 = .ok (.getfield 41, 3) := by decide +kernel
theorem dX12_init_316 : decode cX12_init 316 = .ok (.iconst 0, 1) := by decide +kernel
theorem dX12_init_317 : decode cX12_init 317 = .ok (.ldc2_w 110, 3) := by decide +kernel
theorem dX12_init_320 : decode cX12_init 320 = .ok (.lastore, 1) := by decide +kernel
theorem dX12_init_321 : decode cX12_init 321 = .ok (.aload_n 0, 1) := by decide +kernel
theorem dX12_init_322 : decode cX12_init 322 = .ok (.getfield 45, 3) := by decide +kernel
theorem dX12_init_325 : decode cX12_init 325 = .ok (.iconst 0, 1) := by decide +kernel
theorem dX12_init_326 : decode cX12_init 326 = .ok (.bipush 42, 2) := by decide +kernel
theorem dX12_init_328 : decode cX12_init 328 = .ok (.iastore, 1) := by decide +kernel
theorem dX12_init_329 : decode cX12_init 329 = .ok (.aload_n 0, 1) := by decide +kernel
theorem dX12_init_330 : decode cX12_init 330 = .ok (.iconst 1, 1) := by decide +kernel
theorem dX12_init_331 : decode cX12_init 331 = .ok (.putfield 112, 3) := by decide +kernel
theorem dX12_init_334 : decode cX12_init 334 = .ok (.return_, 1) := by decide +kernel
theorem dX12_word3_0 : decode cX12_word3 0 = .ok (.aload_n 0, 1) := by decide +kernel
theorem dX12_word3_1 : decode cX12_word3 1 = .ok (.getfield 86, 3) := by decide +kernel
theorem dX12_word3_4 : decode cX12_word3 4 = .ok (.iconst 0, 1) := by decide +kernel
theorem dX12_word3_5 : decode cX12_word3 5 = .ok (.iload_n 1, 1) := by decide +kernel
theorem dX12_word3_6 : decode cX12_word3 6 = .ok (.iastore, 1) := by decide +kernel
theorem dX12_word3_7 : decode cX12_word3 7 = .ok (.aload_n 0, 1) := by decide +kernel
theorem dX12_word3_8 : decode cX12_word3 8 = .ok (.getfield 86, 3) := by decide +kernel
theorem dX12_word3_11 : decode cX12_word3 11 = .ok (.iconst 1, 1) := by decide +kernel
theorem dX12_word3_12 : decode cX12_word3 12 = .ok (.iload_n 2, 1) := by decide +kernel
theorem dX12_word3_13 : decode cX12_word3 13 = .ok (.iastore, 1) := by decide +kernel
theorem dX12_word3_14 : decode cX12_word3 14 = .ok (.aload_n 0, 1) := by decide +kernel
theorem dX12_word3_15 : decode cX12_word3 15 = .ok (.getfield 86, 3) := by decide +kernel
theorem dX12_word3_18 : decode cX12_word3 18 = .ok (.iconst 2, 1) := by decide +kernel
theorem dX12_word3_19 : decode cX12_word3 19 = .ok (.iload_n 3, 1) := by decide +kernel
theorem dX12_word3_20 : decode cX12_word3 20 = .ok (.iastore, 1) := by decide +kernel
theorem dX12_word3_21 : decode cX12_word3 21 = .ok (.aload_n 0, 1) := by decide +kernel
theorem dX12_word3_22 : decode cX12_word3 22 = .ok (.iconst 3, 1) := by decide +kernel
theorem dX12_word3_23 : decode cX12_word3 23 = .ok (.putfield 107, 3) := by decide +kernel
theorem dX12_word3_26 : decode cX12_word3 26 = .ok (.return_, 1) := by decide +kernel
theorem dX12_add_0 : decode cX12_add 0 = .ok (.aload_n 0, 1) := by decide +kernel
theorem dX12_add_1 : decode cX12_add 1 = .ok (.getfield 115, 3) := by decide +kernel
theorem dX12_add_4 : decode cX12_add 4 = .ok (.istore_n 3, 1) := by decide +kernel
theorem dX12_add_5 : decode cX12_add 5 = .ok (.aload_n 0, 1) := by decide +kernel
theorem dX12_add_6 : decode cX12_add 6 = .ok (.getfield 13, 3) := by decide +kernel
theorem dX12_add_9 : decode cX12_add 9 = .ok (.iload_n 3, 1) := by decide +kernel
theorem dX12_add_10 : decode cX12_add 10 = .ok (.iload_n 1, 1) := by decide +kernel
theorem dX12_add_11 : decode cX12_add 11 = .ok (.iastore, 1) := by decide +kernel
theorem dX12_add_12 : decode cX12_add 12 = .ok (.aload_n 0, 1) := by decide +kernel
theorem dX12_add_13 : decode cX12_add 13 = .ok (.getfield 26, 3) := by decide +kernel
theorem dX12_add_16 : decode cX12_add 16 = .ok (.iload_n 3, 1) := by decide +kernel
theorem dX12_add_17 : decode cX12_add 17 = .ok (.iload_n 2, 1) := by decide +kernel
theorem dX12_add_18 : decode cX12_add 18 = .ok (.iastore, 1) := by decide +kernel
theorem dX12_add_19 : decode cX12_add 19 = .ok (.aload_n 0, 1) := by decide +kernel
theorem dX12_add_20 : decode cX12_add 20 = .ok (.getfield 32, 3) := by decide +kernel
theorem dX12_add_23 : decode cX12_add 23 = .ok (.iload_n 3, 1) := by decide +kernel
theorem dX12_add_24 : decode cX12_add 24 = .ok (.aload_n 0, 1) := by decide +kernel
theorem dX12_add_25 : decode cX12_add 25 = .ok (.getfield 107, 3) := by decide +kernel
theorem dX12_add_28 : decode cX12_add 28 = .ok (.iastore, 1) := by decide +kernel
theorem dX12_add_29 : decode cX12_add 29 = .ok (.iconst 0, 1) := by decide +kernel
theorem dX12_add_30 : decode cX12_add 30 = .ok (.istore 4, 2) := by decide +kernel
theorem dX12_add_32 : decode cX12_add 32 = .ok (.iload 4, 2) := by decide +kernel
theorem dX12_add_34 : decode cX12_add 34 = .ok (.aload_n 0, 1) := by decide +kernel
theorem dX12_add_35 : decode cX12_add 35 = .ok (.getfield 107, 3) := by decide +kernel
theorem dX12_add_38 : decode cX12_add 38 = .ok (.if_icmp .ge 28, 3) := by decide +kernel
theorem dX12_add_41 : decode cX12_add 41 = .ok (.aload_n 0, 1) := by decide +kernel
theorem dX12_add_42 : decode cX12_add 42 = .ok (.getfield 35, 3) := by decide +kernel
theorem dX12_add_45 : decode cX12_add 45 = .ok (.bipush 16, 2) := by decide +kernel
theorem dX12_add_47 : decode cX12_add 47 = .ok (.iload_n 3, 1) := by decide +kernel
theorem dX12_add_48 : decode cX12_add 48 = .ok (.imul, 1) := by decide +kernel
theorem dX12_add_49 : decode cX12_add 49 = .ok (.iload 4, 2) := by decide +kernel
theorem dX12_add_51 : decode cX12_add 51 = .ok (.iadd, 1) := by decide +kernel
theorem dX12_add_52 : decode cX12_add 52 = .ok (.aload_n 0, 1) := by decide +kernel
theorem dX12_add_53 : decode cX12_add 53 = .ok (.getfield 86, 3) := by decide +kernel
theorem dX12_add_56 : decode cX12_add 56 = .ok (.iload 4, 2) := by decide +kernel
theorem dX12_add_58 : decode cX12_add 58 = .ok (.iaload, 1) := by decide +kernel
theorem dX12_add_59 : decode cX12_add 59 = .ok (.iastore, 1) := by decide +kernel
theorem dX12_add_60 : decode cX12_add 60 = .ok (.iinc 4 1, 3) := by decide +kernel
theorem dX12_add_63 : decode cX12_add 63 = .ok (.goto (-31), 3) := by decide +kernel
theorem dX12_add_66 : decode cX12_add 66 = .ok (.aload_n 0, 1) := by decide +kernel
theorem dX12_add_67 : decode cX12_add 67 = .ok (.getfield 38, 3) := by decide +kernel
theorem dX12_add_70 : decode cX12_add 70 = .ok (.iload_n 3, 1) := by decide +kernel
theorem dX12_add_71 : decode cX12_add 71 = .ok (.iconst (-1), 1) := by decide +kernel
theorem dX12_add_72 : decode cX12_add 72 = .ok (.iastore, 1) := by decide +kernel
theorem dX12_add_73 : decode cX12_add 73 = .ok (.aload_n 0, 1) := by decide +kernel
theorem dX12_add_74 : decode cX12_add 74 = .ok (.getfield 29, 3) := by decide +kernel
theorem dX12_add_77 : decode cX12_add 77 = .ok (.iload_n 3, 1) := by decide +kernel
theorem dX12_add_78 : decode cX12_add 78 = .ok (.iconst (-1), 1) := by decide +kernel
theorem dX12_add_79 : decode cX12_add 79 = .ok (.iastore, 1) := by decide +kernel
theorem dX12_add_80 : decode cX12_add 80 = .ok (.aload_n 0, 1) := by decide +kernel
theorem dX12_add_81 : decode cX12_add 81 = .ok (.dup, 1) := by decide +kernel
theorem dX12_add_82 : decode cX12_add 82 = .ok (.getfield 115, 3) := by decide +kernel
theorem dX12_add_85 : decode cX12_add 85 = .ok (.iconst 1, 1) := by decide +kernel
theorem dX12_add_86 : decode cX12_add 86 = .ok (.iadd, 1) := by decide +kernel
theorem dX12_add_87 : decode cX12_add 87 = .ok (.putfield 115, 3) := by decide +kernel
theorem dX12_add_90 : decode cX12_add 90 = .ok (.iload_n 3, 1) := by decide +kernel
theorem dX12_add_91 : decode cX12_add 91 = .ok (.ireturn, 1) := by decide +kernel
theorem dX12_hasRule_0 : decode cX12_hasRule 0 = .ok (.aload_n 0, 1) := by decide +kernel
theorem dX12_hasRule_1 : decode cX12_hasRule 1 = .ok (.getfield 95, 3) := by decide +kernel
theorem dX12_hasRule_4 : decode cX12_hasRule 4 = .ok (.iload_n 1, 1) := by decide +kernel
theorem dX12_hasRule_5 : decode cX12_hasRule 5 = .ok (.iand, 1) := by decide +kernel
theorem dX12_hasRule_6 : decode cX12_hasRule 6 = .ok (.ifCond .eq 7, 3) := by decide +kernel
theorem dX12_hasRule_9 : decode cX12_hasRule 9 = .ok (.iconst 1, 1) := by decide +kernel
theorem dX12_hasRule_10 : decode cX12_hasRule 10 = .ok (.goto 4, 3) := by decide +kernel
theorem dX12_hasRule_13 : decode cX12_hasRule 13 = .ok (.iconst 0, 1) := by decide +kernel
theorem dX12_hasRule_14 : decode cX12_hasRule 14 = .ok (.ireturn, 1) := by decide +kernel
theorem dX12_isParting_0 : decode cX12_isParting 0 = .ok (.iload_n 1, 1) := by decide +kernel
theorem dX12_isParting_1 : decode cX12_isParting 1 = .ok (.bipush 47, 2) := by decide +kernel
theorem dX12_isParting_3 : decode cX12_isParting 3 = .ok (.if_icmp .eq 17, 3) := by decide +kernel
theorem dX12_isParting_6 : decode cX12_isParting 6 = .ok (.iload_n 1, 1) := by decide +kernel
theorem dX12_isParting_7 : decode cX12_isParting 7 = .ok (.bipush 92, 2) := by decide +kernel
theorem dX12_isParting_9 : decode cX12_isParting 9 = .ok (.if_icmp .ne 15, 3) := by decide +kernel
theorem dX12_isParting_12 : decode cX12_isParting 12 = .ok (.aload_n 0, 1) := by decide +kernel
theorem dX12_isParting_13 : decode cX12_isParting 13 = .ok (.iconst 1, 1) := by decide +kernel
theorem dX12_isParting_14 : decode cX12_isParting 14 = .ok (.invokevirtual 118, 3) := by decide +kernel
theorem dX12_isParting_17 : decode cX12_isParting 17 = .ok (.ifCond .eq 7, 3) := by decide +kernel
theorem dX12_isParting_20 : decode cX12_isParting 20 = .ok (.iconst 1, 1) := by decide +kernel
theorem dX12_isParting_21 : decode cX12_isParting 21 = .ok (.goto 4, 3) := by decide +kernel
theorem dX12_isParting_24 : decode cX12_isParting 24 = .ok (.iconst 0, 1) := by decide +kernel
theorem dX12_isParting_25 : decode cX12_isParting 25 = .ok (.ireturn, 1) := by decide +kernel
theorem dX12_small_0 : decode cX12_small 0 = .ok (.iload_n 0, 1) := by decide +kernel
theorem dX12_small_1 : decode cX12_small 1 = .ok (.bipush 65, 2) := by decide +kernel
theorem dX12_small_3 : decode cX12_small 3 = .ok (.if_icmp .lt 16, 3) := by decide +kernel
theorem dX12_small_6 : decode cX12_small 6 = .ok (.iload_n 0, 1) := by decide +kernel
theorem dX12_small_7 : decode cX12_small 7 = .ok (.bipush 90, 2) := by decide +kernel
theorem dX12_small_9 : decode cX12_small 9 = .ok (.if_icmp .gt 10, 3) := by decide +kernel
theorem dX12_small_12 : decode cX12_small 12 = .ok (.iload_n 0, 1) := by decide +kernel
theorem dX12_small_13 : decode cX12_small 13 = .ok (.bipush 32, 2) := by decide +kernel
theorem dX12_small_15 : decode cX12_small 15 = .ok (.iadd, 1) := by decide +kernel
theorem dX12_small_16 : decode cX12_small 16 = .ok (.goto 4, 3) := by decide +kernel
theorem dX12_small_19 : decode cX12_small 19 = .ok (.iload_n 0, 1) := by decide +kernel
theorem dX12_small_20 : decode cX12_small 20 = .ok (.ireturn, 1) := by decide +kernel
theorem dX12_put_0 : decode cX12_put 0 = .ok (.aload_n 0, 1) := by decide +kernel
theorem dX12_put_1 : decode cX12_put 1 = .ok (.getfield 122, 3) := by decide +kernel
theorem dX12_put_4 : decode cX12_put 4 = .ok (.sipush 160, 3) := by decide +kernel
theorem dX12_put_7 : decode cX12_put 7 = .ok (.if_icmp .eq 14, 3) := by decide +kernel
theorem dX12_put_10 : decode cX12_put 10 = .ok (.iload_n 1, 1) := by decide +kernel
theorem dX12_put_11 : decode cX12_put 11 = .ok (.ifCond .lt 10, 3) := by decide +kernel
theorem dX12_put_14 : decode cX12_put 14 = .ok (.iload_n 1, 1) := by decide +kernel
theorem dX12_put_15 : decode cX12_put 15 = .ok (.sipush 255, 3) := by decide +kernel
theorem dX12_put_18 : decode cX12_put 18 = .ok (.if_icmp .le 6, 3) := by decide +kernel
theorem dX12_put_21 : decode cX12_put 21 = .ok (.bipush (-5), 2) := by decide +kernel
theorem dX12_put_23 : decode cX12_put 23 = .ok (.ireturn, 1) := by decide +kernel
theorem dX12_put_24 : decode cX12_put 24 = .ok (.aload_n 0, 1) := by decide +kernel
theorem dX12_put_25 : decode cX12_put 25 = .ok (.getfield 7, 3) := by decide +kernel
theorem dX12_put_28 : decode cX12_put 28 = .ok (.aload_n 0, 1) := by decide +kernel
theorem dX12_put_29 : decode cX12_put 29 = .ok (.getfield 122, 3) := by decide +kernel
theorem dX12_put_32 : decode cX12_put 32 = .ok (.iload_n 1, 1) := by decide +kernel
theorem dX12_put_33 : decode cX12_put 33 = .ok (.iastore, 1) := by decide +kernel
theorem dX12_put_34 : decode cX12_put 34 = .ok (.aload_n 0, 1) := by decide +kernel
theorem dX12_put_35 : decode cX12_put 35 = .ok (.dup, 1) := by decide +kernel
theorem dX12_put_36 : decode cX12_put 36 = .ok (.getfield 122, 3) := by decide +kernel
theorem dX12_put_39 : decode cX12_put 39 = .ok (.iconst 1, 1) := by decide +kernel
theorem dX12_put_40 : decode cX12_put 40 = .ok (.iadd, 1) := by decide +kernel
theorem dX12_put_41 : decode cX12_put 41 = .ok (.putfield 122, 3) := by decide +kernel
theorem dX12_put_44 : decode cX12_put 44 = .ok (.aload_n 0, 1) := by decide +kernel
theorem dX12_put_45 : decode cX12_put 45 = .ok (.getfield 122, 3) := by decide +kernel
theorem dX12_put_48 : decode cX12_put 48 = .ok (.ireturn, 1) := by decide +kernel
theorem dX12_nextPart_0 : decode cX12_nextPart 0 = .ok (.iload_n 1, 1) := by decide +kernel
theorem dX12_nextPart_1 : decode cX12_nextPart 1 = .ok (.istore_n 3, 1) := by decide +kernel
theorem dX12_nextPart_2 : decode cX12_nextPart 2 = .ok (.iload_n 3, 1) := by decide +kernel
theorem dX12_nextPart_3 : decode cX12_nextPart 3 = .ok (.iload_n 2, 1) := by decide +kernel
theorem dX12_nextPart_4 : decode cX12_nextPart 4 = .ok (.if_icmp .ge 88, 3) := by decide +kernel
theorem dX12_nextPart_7 : decode cX12_nextPart 7 = .ok (.aload_n 0, 1) := by decide +kernel
theorem dX12_nextPart_8 : decode cX12_nextPart 8 = .ok (.iconst 0, 1) := by decide +kernel
theorem dX12_nextPart_9 : decode cX12_nextPart 9 = .ok (.putfield 107, 3) := by decide +kernel
theorem dX12_nextPart_12 : decode cX12_nextPart 12 = .ok (.iload_n 3, 1) := by decide +kernel
theorem dX12_nextPart_13 : decode cX12_nextPart 13 = .ok (.iload_n 2, 1) := by decide +kernel
theorem dX12_nextPart_14 : decode cX12_nextPart 14 = .ok (.if_icmp .ge 47, 3) := by decide +kernel
theorem dX12_nextPart_17 : decode cX12_nextPart 17 = .ok (.aload_n 0, 1) := by decide +kernel
theorem dX12_nextPart_18 : decode cX12_nextPart 18 = .ok (.aload_n 0, 1) := by decide +kernel
theorem dX12_nextPart_19 : decode cX12_nextPart 19 = .ok (.getfield 7, 3) := by decide +kernel
theorem dX12_nextPart_22 : decode cX12_nextPart 22 = .ok (.iload_n 3, 1) := by decide +kernel
theorem dX12_nextPart_23 : decode cX12_nextPart 23 = .ok (.iaload, 1) := by decide +kernel
theorem dX12_nextPart_24 : decode cX12_nextPart 24 = .ok (.invokevirtual 125, 3) := by decide +kernel
theorem dX12_nextPart_27 : decode cX12_nextPart 27 = .ok (.ifCond .ne 34, 3) := by decide +kernel
theorem dX12_nextPart_30 : decode cX12_nextPart 30 = .ok (.aload_n 0, 1) := by decide +kernel
theorem dX12_nextPart_31 : decode cX12_nextPart 31 = .ok (.getfield 86, 3) := by decide +kernel
theorem dX12_nextPart_34 : decode cX12_nextPart 34 = .ok (.aload_n 0, 1) := by decide +kernel
theorem dX12_nextPart_35 : decode cX12_nextPart 35 = .ok (.getfield 107, 3) := by decide +kernel
theorem dX12_nextPart_38 : decode cX12_nextPart 38 = .ok (.aload_n 0, 1) := by decide +kernel
theorem dX12_nextPart_39 : decode cX12_nextPart 39 = .ok (.getfield 7, 3) := by decide +kernel
theorem dX12_nextPart_42 : decode cX12_nextPart 42 = .ok (.iload_n 3, 1) := by decide +kernel
theorem dX12_nextPart_43 : decode cX12_nextPart 43 = .ok (.iaload, 1) := by decide +kernel
theorem dX12_nextPart_44 : decode cX12_nextPart 44 = .ok (.iastore, 1) := by decide +kernel
theorem dX12_nextPart_45 : decode cX12_nextPart 45 = .ok (.aload_n 0, 1) := by decide +kernel
theorem dX12_nextPart_46 : decode cX12_nextPart 46 = .ok (.dup, 1) := by decide +kernel
theorem dX12_nextPart_47 : decode cX12_nextPart 47 = .ok (.getfield 107, 3) := by decide +kernel
theorem dX12_nextPart_50 : decode cX12_nextPart 50 = .ok (.iconst 1, 1) := by decide +kernel
theorem dX12_nextPart_51 : decode cX12_nextPart 51 = .ok (.iadd, 1) := by decide +kernel
theorem dX12_nextPart_52 : decode cX12_nextPart 52 = .ok (.putfield 107, 3) := by decide +kernel
theorem dX12_nextPart_55 : decode cX12_nextPart 55 = .ok (.iinc 3 1, 3) := by decide +kernel
theorem dX12_nextPart_58 : decode cX12_nextPart 58 = .ok (.goto (-46), 3) := by decide +kernel
theorem dX12_nextPart_61 : decode cX12_nextPart 61 = .ok (.iinc 3 1, 3) := by decide +kernel
theorem dX12_nextPart_64 : decode cX12_nextPart 64 = .ok (.aload_n 0, 1) := by decide +kernel
theorem dX12_nextPart_65 : decode cX12_nextPart 65 = .ok (.getfield 107, 3) := by decide +kernel
theorem dX12_nextPart_68 : decode cX12_nextPart 68 = .ok (.ifCond .le (-66), 3) := by decide +kernel
theorem dX12_nextPart_71 : decode cX12_nextPart 71 = .ok (.aload_n 0, 1) := by decide +kernel
theorem dX12_nextPart_72 : decode cX12_nextPart 72 = .ok (.getfield 107, 3) := by decide +kernel
theorem dX12_nextPart_75 : decode cX12_nextPart 75 = .ok (.iconst 1, 1) := by decide +kernel
theorem dX12_nextPart_76 : decode cX12_nextPart 76 = .ok (.if_icmp .ne 14, 3) := by decide +kernel
theorem dX12_nextPart_79 : decode cX12_nextPart 79 = .ok (.aload_n 0, 1) := by decide +kernel
theorem dX12_nextPart_80 : decode cX12_nextPart 80 = .ok (.getfield 86, 3) := by decide +kernel
theorem dX12_nextPart_83 : decode cX12_nextPart 83 = .ok (.iconst 0, 1) := by decide +kernel
theorem dX12_nextPart_84 : decode cX12_nextPart 84 = .ok (.iaload, 1) := by decide +kernel
theorem dX12_nextPart_85 : decode cX12_nextPart 85 = .ok (.bipush 46, 2) := by decide +kernel
theorem dX12_nextPart_87 : decode cX12_nextPart 87 = .ok (.if_icmp .eq (-85), 3) := by decide +kernel
theorem dX12_nextPart_90 : decode cX12_nextPart 90 = .ok (.iload_n 3, 1) := by decide +kernel
theorem dX12_nextPart_91 : decode cX12_nextPart 91 = .ok (.ireturn, 1) := by decide +kernel
theorem dX12_nextPart_92 : decode cX12_nextPart 92 = .ok (.iconst (-1), 1) := by decide +kernel
theorem dX12_nextPart_93 : decode cX12_nextPart 93 = .ok (.ireturn, 1) := by decide +kernel
theorem dX12_isUp_0 : decode cX12_isUp 0 = .ok (.aload_n 0, 1) := by decide +kernel
theorem dX12_isUp_1 : decode cX12_isUp 1 = .ok (.getfield 107, 3) := by decide +kernel
theorem dX12_isUp_4 : decode cX12_isUp 4 = .ok (.iconst 2, 1) := by decide +kernel
theorem dX12_isUp_5 : decode cX12_isUp 5 = .ok (.if_icmp .ne 29, 3) := by decide +kernel
theorem dX12_isUp_8 : decode cX12_isUp 8 = .ok (.aload_n 0, 1) := by decide +kernel
theorem dX12_isUp_9 : decode cX12_isUp 9 = .ok (.getfield 86, 3) := by decide +kernel
theorem dX12_isUp_12 : decode cX12_isUp 12 = .ok (.iconst 0, 1) := by decide +kernel
theorem dX12_isUp_13 : decode cX12_isUp 13 = .ok (.iaload, 1) := by decide +kernel
theorem dX12_isUp_14 : decode cX12_isUp 14 = .ok (.bipush 46, 2) := by decide +kernel
theorem dX12_isUp_16 : decode cX12_isUp 16 = .ok (.if_icmp .ne 18, 3) := by decide +kernel
theorem dX12_isUp_19 : decode cX12_isUp 19 = .ok (.aload_n 0, 1) := by decide +kernel
theorem dX12_isUp_20 : decode cX12_isUp 20 = .ok (.getfield 86, 3) := by decide +kernel
theorem dX12_isUp_23 : decode cX12_isUp 23 = .ok (.iconst 1, 1) := by decide +kernel
theorem dX12_isUp_24 : decode cX12_isUp 24 = .ok (.iaload, 1) := by decide +kernel
theorem dX12_isUp_25 : decode cX12_isUp 25 = .ok (.bipush 46, 2) := by decide +kernel
theorem dX12_isUp_27 : decode cX12_isUp 27 = .ok (.if_icmp .ne 7, 3) := by decide +kernel
theorem dX12_isUp_30 : decode cX12_isUp 30 = .ok (.iconst 1, 1) := by decide +kernel
theorem dX12_isUp_31 : decode cX12_isUp 31 = .ok (.goto 4, 3) := by decide +kernel
theorem dX12_isUp_34 : decode cX12_isUp 34 = .ok (.iconst 0, 1) := by decide +kernel
theorem dX12_isUp_35 : decode cX12_isUp 35 = .ok (.ireturn, 1) := by decide +kernel
theorem dX12_isLike_0 : decode cX12_isLike 0 = .ok (.aload_n 0, 1) := by decide +kernel
theorem dX12_isLike_1 : decode cX12_isLike 1 = .ok (.getfield 86, 3) := by decide +kernel
theorem dX12_isLike_4 : decode cX12_isLike 4 = .ok (.iload_n 1, 1) := by decide +kernel
theorem dX12_isLike_5 : decode cX12_isLike 5 = .ok (.iaload, 1) := by decide +kernel
theorem dX12_isLike_6 : decode cX12_isLike 6 = .ok (.invokestatic 128, 3) := by decide +kernel
theorem dX12_isLike_9 : decode cX12_isLike 9 = .ok (.iload_n 2, 1) := by decide +kernel
theorem dX12_isLike_10 : decode cX12_isLike 10 = .ok (.if_icmp .ne 38, 3) := by decide +kernel
theorem dX12_isLike_13 : decode cX12_isLike 13 = .ok (.aload_n 0, 1) := by decide +kernel
theorem dX12_isLike_14 : decode cX12_isLike 14 = .ok (.getfield 86, 3) := by decide +kernel
theorem dX12_isLike_17 : decode cX12_isLike 17 = .ok (.iload_n 1, 1) := by decide +kernel
theorem dX12_isLike_18 : decode cX12_isLike 18 = .ok (.iconst 1, 1) := by decide +kernel
theorem dX12_isLike_19 : decode cX12_isLike 19 = .ok (.iadd, 1) := by decide +kernel
theorem dX12_isLike_20 : decode cX12_isLike 20 = .ok (.iaload, 1) := by decide +kernel
theorem dX12_isLike_21 : decode cX12_isLike 21 = .ok (.invokestatic 128, 3) := by decide +kernel
theorem dX12_isLike_24 : decode cX12_isLike 24 = .ok (.iload_n 3, 1) := by decide +kernel
theorem dX12_isLike_25 : decode cX12_isLike 25 = .ok (.if_icmp .ne 23, 3) := by decide +kernel
theorem dX12_isLike_28 : decode cX12_isLike 28 = .ok (.aload_n 0, 1) := by decide +kernel
theorem dX12_isLike_29 : decode cX12_isLike 29 = .ok (.getfield 86, 3) := by decide +kernel
theorem dX12_isLike_32 : decode cX12_isLike 32 = .ok (.iload_n 1, 1) := by decide +kernel
theorem dX12_isLike_33 : decode cX12_isLike 33 = .ok (.iconst 2, 1) := by decide +kernel
theorem dX12_isLike_34 : decode cX12_isLike 34 = .ok (.iadd, 1) := by decide +kernel
theorem dX12_isLike_35 : decode cX12_isLike 35 = .ok (.iaload, 1) := by decide +kernel
theorem dX12_isLike_36 : decode cX12_isLike 36 = .ok (.invokestatic 128, 3) := by decide +kernel
theorem dX12_isLike_39 : decode cX12_isLike 39 = .ok (.iload 4, 2) := by decide +kernel
theorem dX12_isLike_41 : decode cX12_isLike 41 = .ok (.if_icmp .ne 7, 3) := by decide +kernel
theorem dX12_isLike_44 : decode cX12_isLike 44 = .ok (.iconst 1, 1) := by decide +kernel
theorem dX12_isLike_45 : decode cX12_isLike 45 = .ok (.goto 4, 3) := by decide +kernel
theorem dX12_isLike_48 : decode cX12_isLike 48 = .ok (.iconst 0, 1) := by decide +kernel
theorem dX12_isLike_49 : decode cX12_isLike 49 = .ok (.ireturn, 1) := by decide +kernel
theorem dX12_isBad_0 : decode cX12_isBad 0 = .ok (.iconst 0, 1) := by decide +kernel
theorem dX12_isBad_1 : decode cX12_isBad 1 = .ok (.istore_n 1, 1) := by decide +kernel
theorem dX12_isBad_2 : decode cX12_isBad 2 = .ok (.iload_n 1, 1) := by decide +kernel
theorem dX12_isBad_3 : decode cX12_isBad 3 = .ok (.aload_n 0, 1) := by decide +kernel
theorem dX12_isBad_4 : decode cX12_isBad 4 = .ok (.getfield 107, 3) := by decide +kernel
theorem dX12_isBad_7 : decode cX12_isBad 7 = .ok (.if_icmp .ge 91, 3) := by decide +kernel
theorem dX12_isBad_10 : decode cX12_isBad 10 = .ok (.aload_n 0, 1) := by decide +kernel
theorem dX12_isBad_11 : decode cX12_isBad 11 = .ok (.getfield 86, 3) := by decide +kernel
theorem dX12_isBad_14 : decode cX12_isBad 14 = .ok (.iload_n 1, 1) := by decide +kernel
theorem dX12_isBad_15 : decode cX12_isBad 15 = .ok (.iaload, 1) := by decide +kernel
theorem dX12_isBad_16 : decode cX12_isBad 16 = .ok (.istore_n 2, 1) := by decide +kernel
theorem dX12_isBad_17 : decode cX12_isBad 17 = .ok (.iload_n 2, 1) := by decide +kernel
theorem dX12_isBad_18 : decode cX12_isBad 18 = .ok (.bipush 58, 2) := by decide +kernel
theorem dX12_isBad_20 : decode cX12_isBad 20 = .ok (.if_icmp .eq 39, 3) := by decide +kernel
theorem dX12_isBad_23 : decode cX12_isBad 23 = .ok (.iload_n 2, 1) := by decide +kernel
theorem dX12_isBad_24 : decode cX12_isBad 24 = .ok (.bipush 42, 2) := by decide +kernel
theorem dX12_isBad_26 : decode cX12_isBad 26 = .ok (.if_icmp .eq 33, 3) := by decide +kernel
theorem dX12_isBad_29 : decode cX12_isBad 29 = .ok (.iload_n 2, 1) := by decide +kernel
theorem dX12_isBad_30 : decode cX12_isBad 30 = .ok (.bipush 63, 2) := by decide +kernel
theorem dX12_isBad_32 : decode cX12_isBad 32 = .ok (.if_icmp .eq 27, 3) := by decide +kernel
theorem dX12_isBad_35 : decode cX12_isBad 35 = .ok (.iload_n 2, 1) := by decide +kernel
theorem dX12_isBad_36 : decode cX12_isBad 36 = .ok (.bipush 34, 2) := by decide +kernel
theorem dX12_isBad_38 : decode cX12_isBad 38 = .ok (.if_icmp .eq 21, 3) := by decide +kernel
theorem dX12_isBad_41 : decode cX12_isBad 41 = .ok (.iload_n 2, 1) := by decide +kernel
theorem dX12_isBad_42 : decode cX12_isBad 42 = .ok (.bipush 60, 2) := by decide +kernel
theorem dX12_isBad_44 : decode cX12_isBad 44 = .ok (.if_icmp .eq 15, 3) := by decide +kernel
theorem dX12_isBad_47 : decode cX12_isBad 47 = .ok (.iload_n 2, 1) := by decide +kernel
theorem dX12_isBad_48 : decode cX12_isBad 48 = .ok (.bipush 62, 2) := by decide +kernel
theorem dX12_isBad_50 : decode cX12_isBad 50 = .ok (.if_icmp .eq 9, 3) := by decide +kernel
theorem dX12_isBad_53 : decode cX12_isBad 53 = .ok (.iload_n 2, 1) := by decide +kernel
theorem dX12_isBad_54 : decode cX12_isBad 54 = .ok (.bipush 124, 2) := by decide +kernel
theorem dX12_isBad_56 : decode cX12_isBad 56 = .ok (.if_icmp .ne 7, 3) := by decide +kernel
theorem dX12_isBad_59 : decode cX12_isBad 59 = .ok (.iconst 1, 1) := by decide +kernel
theorem dX12_isBad_60 : decode cX12_isBad 60 = .ok (.goto 4, 3) := by decide +kernel
theorem dX12_isBad_63 : decode cX12_isBad 63 = .ok (.iconst 0, 1) := by decide +kernel
theorem dX12_isBad_64 : decode cX12_isBad 64 = .ok (.istore_n 3, 1) := by decide +kernel
theorem dX12_isBad_65 : decode cX12_isBad 65 = .ok (.iload_n 2, 1) := by decide +kernel
theorem dX12_isBad_66 : decode cX12_isBad 66 = .ok (.bipush 32, 2) := by decide +kernel
theorem dX12_isBad_68 : decode cX12_isBad 68 = .ok (.if_icmp .lt 22, 3) := by decide +kernel
theorem dX12_isBad_71 : decode cX12_isBad 71 = .ok (.iload_n 2, 1) := by decide +kernel
theorem dX12_isBad_72 : decode cX12_isBad 72 = .ok (.bipush 127, 2) := by decide +kernel
theorem dX12_isBad_74 : decode cX12_isBad 74 = .ok (.if_icmp .eq 16, 3) := by decide +kernel
theorem dX12_isBad_77 : decode cX12_isBad 77 = .ok (.aload_n 0, 1) := by decide +kernel
theorem dX12_isBad_78 : decode cX12_isBad 78 = .ok (.bipush 8, 2) := by decide +kernel
theorem dX12_isBad_80 : decode cX12_isBad 80 = .ok (.invokevirtual 118, 3) := by decide +kernel
theorem dX12_isBad_83 : decode cX12_isBad 83 = .ok (.ifCond .eq 9, 3) := by decide +kernel
theorem dX12_isBad_86 : decode cX12_isBad 86 = .ok (.iload_n 3, 1) := by decide +kernel
theorem dX12_isBad_87 : decode cX12_isBad 87 = .ok (.ifCond .eq 5, 3) := by decide +kernel
theorem dX12_isBad_90 : decode cX12_isBad 90 = .ok (.iconst 1, 1) := by decide +kernel
theorem dX12_isBad_91 : decode cX12_isBad 91 = .ok (.ireturn, 1) := by decide +kernel
theorem dX12_isBad_92 : decode cX12_isBad 92 = .ok (.iinc 1 1, 3) := by decide +kernel
theorem dX12_isBad_95 : decode cX12_isBad 95 = .ok (.goto (-93), 3) := by decide +kernel
theorem dX12_isBad_98 : decode cX12_isBad 98 = .ok (.aload_n 0, 1) := by decide +kernel
theorem dX12_isBad_99 : decode cX12_isBad 99 = .ok (.bipush 8, 2) := by decide +kernel
theorem dX12_isBad_101 : decode cX12_isBad 101 = .ok (.invokevirtual 118, 3) := by decide +kernel
theorem dX12_isBad_104 : decode cX12_isBad 104 = .ok (.ifCond .ne 5, 3) := by decide +kernel
theorem dX12_isBad_107 : decode cX12_isBad 107 = .ok (.iconst 0, 1) := by decide +kernel
theorem dX12_isBad_108 : decode cX12_isBad 108 = .ok (.ireturn, 1) := by decide +kernel
theorem dX12_isBad_109 : decode cX12_isBad 109 = .ok (.aload_n 0, 1) := by decide +kernel
theorem dX12_isBad_110 : decode cX12_isBad 110 = .ok (.getfield 86, 3) := by decide +kernel
theorem dX12_isBad_113 : decode cX12_isBad 113 = .ok (.aload_n 0, 1) := by decide +kernel
theorem dX12_isBad_114 : decode cX12_isBad 114 = .ok (.getfield 107, 3) := by decide +kernel
theorem dX12_isBad_117 : decode cX12_isBad 117 = .ok (.iconst 1, 1) := by decide +kernel
theorem dX12_isBad_118 : decode cX12_isBad 118 = .ok (.isub, 1) := by decide +kernel
theorem dX12_isBad_119 : decode cX12_isBad 119 = .ok (.iaload, 1) := by decide +kernel
theorem dX12_isBad_120 : decode cX12_isBad 120 = .ok (.istore_n 1, 1) := by decide +kernel
theorem dX12_isBad_121 : decode cX12_isBad 121 = .ok (.iconst 0, 1) := by decide +kernel
theorem dX12_isBad_122 : decode cX12_isBad 122 = .ok (.istore_n 2, 1) := by decide +kernel
theorem dX12_isBad_123 : decode cX12_isBad 123 = .ok (.iload_n 2, 1) := by decide +kernel
theorem dX12_isBad_124 : decode cX12_isBad 124 = .ok (.aload_n 0, 1) := by decide +kernel
theorem dX12_isBad_125 : decode cX12_isBad 125 = .ok (.getfield 107, 3) := by decide +kernel
theorem dX12_isBad_128 : decode cX12_isBad 128 = .ok (.if_icmp .ge 20, 3) := by decide +kernel
theorem dX12_isBad_131 : decode cX12_isBad 131 = .ok (.aload_n 0, 1) := by decide +kernel
theorem dX12_isBad_132 : decode cX12_isBad 132 = .ok (.getfield 86, 3) := by decide +kernel
theorem dX12_isBad_135 : decode cX12_isBad 135 = .ok (.iload_n 2, 1) := by decide +kernel
theorem dX12_isBad_136 : decode cX12_isBad 136 = .ok (.iaload, 1) := by decide +kernel
theorem dX12_isBad_137 : decode cX12_isBad 137 = .ok (.bipush 46, 2) := by decide +kernel
theorem dX12_isBad_139 : decode cX12_isBad 139 = .ok (.if_icmp .eq 9, 3) := by decide +kernel
theorem dX12_isBad_142 : decode cX12_isBad 142 = .ok (.iinc 2 1, 3) := by decide +kernel
theorem dX12_isBad_145 : decode cX12_isBad 145 = .ok (.goto (-22), 3) := by decide +kernel
theorem dX12_isBad_148 : decode cX12_isBad 148 = .ok (.iload_n 2, 1) := by decide +kernel
theorem dX12_isBad_149 : decode cX12_isBad 149 = .ok (.iconst 3, 1) := by decide +kernel
theorem dX12_isBad_150 : decode cX12_isBad 150 = .ok (.if_icmp .ne 63, 3) := by decide +kernel
theorem dX12_isBad_153 : decode cX12_isBad 153 = .ok (.aload_n 0, 1) := by decide +kernel
theorem dX12_isBad_154 : decode cX12_isBad 154 = .ok (.iconst 0, 1) := by decide +kernel
theorem dX12_isBad_155 : decode cX12_isBad 155 = .ok (.bipush 99, 2) := by decide +kernel
theorem dX12_isBad_157 : decode cX12_isBad 157 = .ok (.bipush 111, 2) := by decide +kernel
theorem dX12_isBad_159 : decode cX12_isBad 159 = .ok (.bipush 110, 2) := by decide +kernel
theorem dX12_isBad_161 : decode cX12_isBad 161 = .ok (.invokevirtual 132, 3) := by decide +kernel
theorem dX12_isBad_164 : decode cX12_isBad 164 = .ok (.ifCond .ne 45, 3) := by decide +kernel
theorem dX12_isBad_167 : decode cX12_isBad 167 = .ok (.aload_n 0, 1) := by decide +kernel
theorem dX12_isBad_168 : decode cX12_isBad 168 = .ok (.iconst 0, 1) := by decide +kernel
theorem dX12_isBad_169 : decode cX12_isBad 169 = .ok (.bipush 112, 2) := by decide +kernel
theorem dX12_isBad_171 : decode cX12_isBad 171 = .ok (.bipush 114, 2) := by decide +kernel
theorem dX12_isBad_173 : decode cX12_isBad 173 = .ok (.bipush 110, 2) := by decide +kernel
theorem dX12_isBad_175 : decode cX12_isBad 175 = .ok (.invokevirtual 132, 3) := by decide +kernel
theorem dX12_isBad_178 : decode cX12_isBad 178 = .ok (.ifCond .ne 31, 3) := by decide +kernel
theorem dX12_isBad_181 : decode cX12_isBad 181 = .ok (.aload_n 0, 1) := by decide +kernel
theorem dX12_isBad_182 : decode cX12_isBad 182 = .ok (.iconst 0, 1) := by decide +kernel
theorem dX12_isBad_183 : decode cX12_isBad 183 = .ok (.bipush 97, 2) := by decide +kernel
theorem dX12_isBad_185 : decode cX12_isBad 185 = .ok (.bipush 117, 2) := by decide +kernel
theorem dX12_isBad_187 : decode cX12_isBad 187 = .ok (.bipush 120, 2) := by decide +kernel
theorem dX12_isBad_189 : decode cX12_isBad 189 = .ok (.invokevirtual 132, 3) := by decide +kernel
theorem dX12_isBad_192 : decode cX12_isBad 192 = .ok (.ifCond .ne 17, 3) := by decide +kernel
theorem dX12_isBad_195 : decode cX12_isBad 195 = .ok (.aload_n 0, 1) := by decide +kernel
theorem dX12_isBad_196 : decode cX12_isBad 196 = .ok (.iconst 0, 1) := by decide +kernel
theorem dX12_isBad_197 : decode cX12_isBad 197 = .ok (.bipush 110, 2) := by decide +kernel
theorem dX12_isBad_199 : decode cX12_isBad 199 = .ok (.bipush 117, 2) := by decide +kernel
theorem dX12_isBad_201 : decode cX12_isBad 201 = .ok (.bipush 108, 2) := by decide +kernel
theorem dX12_isBad_203 : decode cX12_isBad 203 = .ok (.invokevirtual 132, 3) := by decide +kernel
theorem dX12_isBad_206 : decode cX12_isBad 206 = .ok (.ifCond .eq 7, 3) := by decide +kernel
theorem dX12_isBad_209 : decode cX12_isBad 209 = .ok (.iconst 1, 1) := by decide +kernel
theorem dX12_isBad_210 : decode cX12_isBad 210 = .ok (.goto 4, 3) := by decide +kernel
theorem dX12_isBad_213 : decode cX12_isBad 213 = .ok (.iconst 0, 1) := by decide +kernel
theorem dX12_isBad_214 : decode cX12_isBad 214 = .ok (.istore_n 3, 1) := by decide +kernel
theorem dX12_isBad_215 : decode cX12_isBad 215 = .ok (.iload_n 2, 1) := by decide +kernel
theorem dX12_isBad_216 : decode cX12_isBad 216 = .ok (.iconst 4, 1) := by decide +kernel
theorem dX12_isBad_217 : decode cX12_isBad 217 = .ok (.if_icmp .ne 57, 3) := by decide +kernel
theorem dX12_isBad_220 : decode cX12_isBad 220 = .ok (.aload_n 0, 1) := by decide +kernel
theorem dX12_isBad_221 : decode cX12_isBad 221 = .ok (.iconst 0, 1) := by decide +kernel
theorem dX12_isBad_222 : decode cX12_isBad 222 = .ok (.bipush 99, 2) := by decide +kernel
theorem dX12_isBad_224 : decode cX12_isBad 224 = .ok (.bipush 111, 2) := by decide +kernel
theorem dX12_isBad_226 : decode cX12_isBad 226 = .ok (.bipush 109, 2) := by decide +kernel
theorem dX12_isBad_228 : decode cX12_isBad 228 = .ok (.invokevirtual 132, 3) := by decide +kernel
theorem dX12_isBad_231 : decode cX12_isBad 231 = .ok (.ifCond .ne 17, 3) := by decide +kernel
theorem dX12_isBad_234 : decode cX12_isBad 234 = .ok (.aload_n 0, 1) := by decide +kernel
theorem dX12_isBad_235 : decode cX12_isBad 235 = .ok (.iconst 0, 1) := by decide +kernel
theorem dX12_isBad_236 : decode cX12_isBad 236 = .ok (.bipush 108, 2) := by decide +kernel
theorem dX12_isBad_238 : decode cX12_isBad 238 = .ok (.bipush 112, 2) := by decide +kernel
theorem dX12_isBad_240 : decode cX12_isBad 240 = .ok (.bipush 116, 2) := by decide +kernel
theorem dX12_isBad_242 : decode cX12_isBad 242 = .ok (.invokevirtual 132, 3) := by decide +kernel
theorem dX12_isBad_245 : decode cX12_isBad 245 = .ok (.ifCond .eq 29, 3) := by decide +kernel
theorem dX12_isBad_248 : decode cX12_isBad 248 = .ok (.aload_n 0, 1) := by decide +kernel
theorem dX12_isBad_249 : decode cX12_isBad 249 = .ok (.getfield 86, 3) := by decide +kernel
theorem dX12_isBad_252 : decode cX12_isBad 252 = .ok (.iconst 3, 1) := by decide +kernel
theorem dX12_isBad_253 : decode cX12_isBad 253 = .ok (.iaload, 1) := by decide +kernel
theorem dX12_isBad_254 : decode cX12_isBad 254 = .ok (.bipush 49, 2) := by decide +kernel
theorem dX12_isBad_256 : decode cX12_isBad 256 = .ok (.if_icmp .lt 18, 3) := by decide +kernel
theorem dX12_isBad_259 : decode cX12_isBad 259 = .ok (.aload_n 0, 1) := by decide +kernel
theorem dX12_isBad_260 : decode cX12_isBad 260 = .ok (.getfield 86, 3) := by decide +kernel
theorem dX12_isBad_263 : decode cX12_isBad 263 = .ok (.iconst 3, 1) := by decide +kernel
theorem dX12_isBad_264 : decode cX12_isBad 264 = .ok (.iaload, 1) := by decide +kernel
theorem dX12_isBad_265 : decode cX12_isBad 265 = .ok (.bipush 57, 2) := by decide +kernel
theorem dX12_isBad_267 : decode cX12_isBad 267 = .ok (.if_icmp .gt 7, 3) := by decide +kernel
theorem dX12_isBad_270 : decode cX12_isBad 270 = .ok (.iconst 1, 1) := by decide +kernel
theorem dX12_isBad_271 : decode cX12_isBad 271 = .ok (.goto 4, 3) := by decide +kernel
theorem dX12_isBad_274 : decode cX12_isBad 274 = .ok (.iconst 0, 1) := by decide +kernel
theorem dX12_isBad_275 : decode cX12_isBad 275 = .ok (.istore 4, 2) := by decide +kernel
theorem dX12_isBad_277 : decode cX12_isBad 277 = .ok (.iload_n 1, 1) := by decide +kernel
theorem dX12_isBad_278 : decode cX12_isBad 278 = .ok (.bipush 46, 2) := by decide +kernel
theorem dX12_isBad_280 : decode cX12_isBad 280 = .ok (.if_icmp .eq 18, 3) := by decide +kernel
theorem dX12_isBad_283 : decode cX12_isBad 283 = .ok (.iload_n 1, 1) := by decide +kernel
theorem dX12_isBad_284 : decode cX12_isBad 284 = .ok (.bipush 32, 2) := by decide +kernel
theorem dX12_isBad_286 : decode cX12_isBad 286 = .ok (.if_icmp .eq 12, 3) := by decide +kernel
theorem dX12_isBad_289 : decode cX12_isBad 289 = .ok (.iload_n 3, 1) := by decide +kernel
theorem dX12_isBad_290 : decode cX12_isBad 290 = .ok (.ifCond .ne 8, 3) := by decide +kernel
theorem dX12_isBad_293 : decode cX12_isBad 293 = .ok (.iload 4, 2) := by decide +kernel
theorem dX12_isBad_295 : decode cX12_isBad 295 = .ok (.ifCond .eq 7, 3) := by decide +kernel
theorem dX12_isBad_298 : decode cX12_isBad 298 = .ok (.iconst 1, 1) := by decide +kernel
theorem dX12_isBad_299 : decode cX12_isBad 299 = .ok (.goto 4, 3) := by decide +kernel
theorem dX12_isBad_302 : decode cX12_isBad 302 = .ok (.iconst 0, 1) := by decide +kernel
theorem dX12_isBad_303 : decode cX12_isBad 303 = .ok (.ireturn, 1) := by decide +kernel
theorem dX12_path_0 : decode cX12_path 0 = .ok (.aload_n 0, 1) := by decide +kernel
theorem dX12_path_1 : decode cX12_path 1 = .ok (.getfield 122, 3) := by decide +kernel
theorem dX12_path_4 : decode cX12_path 4 = .ok (.istore_n 1, 1) := by decide +kernel
theorem dX12_path_5 : decode cX12_path 5 = .ok (.aload_n 0, 1) := by decide +kernel
theorem dX12_path_6 : decode cX12_path 6 = .ok (.iconst 0, 1) := by decide +kernel
theorem dX12_path_7 : decode cX12_path 7 = .ok (.putfield 122, 3) := by decide +kernel
theorem dX12_path_10 : decode cX12_path 10 = .ok (.iconst 0, 1) := by decide +kernel
theorem dX12_path_11 : decode cX12_path 11 = .ok (.istore_n 2, 1) := by decide +kernel
theorem dX12_path_12 : decode cX12_path 12 = .ok (.iconst 0, 1) := by decide +kernel
theorem dX12_path_13 : decode cX12_path 13 = .ok (.istore_n 3, 1) := by decide +kernel
theorem dX12_path_14 : decode cX12_path 14 = .ok (.iconst 0, 1) := by decide +kernel
theorem dX12_path_15 : decode cX12_path 15 = .ok (.istore 4, 2) := by decide +kernel
theorem dX12_path_17 : decode cX12_path 17 = .ok (.iconst 0, 1) := by decide +kernel
theorem dX12_path_18 : decode cX12_path 18 = .ok (.istore 5, 2) := by decide +kernel
theorem dX12_path_20 : decode cX12_path 20 = .ok (.aload_n 0, 1) := by decide +kernel
theorem dX12_path_21 : decode cX12_path 21 = .ok (.iconst 0, 1) := by decide +kernel
theorem dX12_path_22 : decode cX12_path 22 = .ok (.iload_n 1, 1) := by decide +kernel
theorem dX12_path_23 : decode cX12_path 23 = .ok (.invokevirtual 136, 3) := by decide +kernel
theorem dX12_path_26 : decode cX12_path 26 = .ok (.istore 6, 2) := by decide +kernel
theorem dX12_path_28 : decode cX12_path 28 = .ok (.iload 6, 2) := by decide +kernel
theorem dX12_path_30 : decode cX12_path 30 = .ok (.ifCond .lt 53, 3) := by decide +kernel
theorem dX12_path_33 : decode cX12_path 33 = .ok (.iinc 2 1, 3) := by decide +kernel
theorem dX12_path_36 : decode cX12_path 36 = .ok (.iload_n 3, 1) := by decide +kernel
theorem dX12_path_37 : decode cX12_path 37 = .ok (.aload_n 0, 1) := by decide +kernel
theorem dX12_path_38 : decode cX12_path 38 = .ok (.invokevirtual 139, 3) := by decide +kernel
theorem dX12_path_41 : decode cX12_path 41 = .ok (.ior, 1) := by decide +kernel
theorem dX12_path_42 : decode cX12_path 42 = .ok (.istore_n 3, 1) := by decide +kernel
theorem dX12_path_43 : decode cX12_path 43 = .ok (.iload 4, 2) := by decide +kernel
theorem dX12_path_45 : decode cX12_path 45 = .ok (.aload_n 0, 1) := by decide +kernel
theorem dX12_path_46 : decode cX12_path 46 = .ok (.invokevirtual 143, 3) := by decide +kernel
theorem dX12_path_49 : decode cX12_path 49 = .ok (.ior, 1) := by decide +kernel
theorem dX12_path_50 : decode cX12_path 50 = .ok (.istore 4, 2) := by decide +kernel
theorem dX12_path_52 : decode cX12_path 52 = .ok (.iload 5, 2) := by decide +kernel
theorem dX12_path_54 : decode cX12_path 54 = .ok (.aload_n 0, 1) := by decide +kernel
theorem dX12_path_55 : decode cX12_path 55 = .ok (.getfield 107, 3) := by decide +kernel
theorem dX12_path_58 : decode cX12_path 58 = .ok (.bipush 16, 2) := by decide +kernel
theorem dX12_path_60 : decode cX12_path 60 = .ok (.if_icmp .le 7, 3) := by decide +kernel
theorem dX12_path_63 : decode cX12_path 63 = .ok (.iconst 1, 1) := by decide +kernel
theorem dX12_path_64 : decode cX12_path 64 = .ok (.goto 4, 3) := by decide +kernel
theorem dX12_path_67 : decode cX12_path 67 = .ok (.iconst 0, 1) := by decide +kernel
theorem dX12_path_68 : decode cX12_path 68 = .ok (.ior, 1) := by decide +kernel
theorem dX12_path_69 : decode cX12_path 69 = .ok (.istore 5, 2) := by decide +kernel
theorem dX12_path_71 : decode cX12_path 71 = .ok (.aload_n 0, 1) := by decide +kernel
theorem dX12_path_72 : decode cX12_path 72 = .ok (.iload 6, 2) := by decide +kernel
theorem dX12_path_74 : decode cX12_path 74 = .ok (.iload_n 1, 1) := by decide +kernel
theorem dX12_path_75 : decode cX12_path 75 = .ok (.invokevirtual 136, 3) := by decide +kernel
theorem dX12_path_78 : decode cX12_path 78 = .ok (.istore 6, 2) := by decide +kernel
theorem dX12_path_80 : decode cX12_path 80 = .ok (.goto (-52), 3) := by decide +kernel
theorem dX12_path_83 : decode cX12_path 83 = .ok (.iload_n 2, 1) := by decide +kernel
theorem dX12_path_84 : decode cX12_path 84 = .ok (.ifCond .ne 5, 3) := by decide +kernel
theorem dX12_path_87 : decode cX12_path 87 = .ok (.iconst (-1), 1) := by decide +kernel
theorem dX12_path_88 : decode cX12_path 88 = .ok (.ireturn, 1) := by decide +kernel
theorem dX12_path_89 : decode cX12_path 89 = .ok (.aload_n 0, 1) := by decide +kernel
theorem dX12_path_90 : decode cX12_path 90 = .ok (.getfield 7, 3) := by decide +kernel
theorem dX12_path_93 : decode cX12_path 93 = .ok (.iconst 0, 1) := by decide +kernel
theorem dX12_path_94 : decode cX12_path 94 = .ok (.iaload, 1) := by decide +kernel
theorem dX12_path_95 : decode cX12_path 95 = .ok (.invokestatic 128, 3) := by decide +kernel
theorem dX12_path_98 : decode cX12_path 98 = .ok (.bipush 97, 2) := by decide +kernel
theorem dX12_path_100 : decode cX12_path 100 = .ok (.if_icmp .lt 21, 3) := by decide +kernel
theorem dX12_path_103 : decode cX12_path 103 = .ok (.aload_n 0, 1) := by decide +kernel
theorem dX12_path_104 : decode cX12_path 104 = .ok (.getfield 7, 3) := by decide +kernel
theorem dX12_path_107 : decode cX12_path 107 = .ok (.iconst 0, 1) := by decide +kernel
theorem dX12_path_108 : decode cX12_path 108 = .ok (.iaload, 1) := by decide +kernel
theorem dX12_path_109 : decode cX12_path 109 = .ok (.invokestatic 128, 3) := by decide +kernel
theorem dX12_path_112 : decode cX12_path 112 = .ok (.bipush 122, 2) := by decide +kernel
theorem dX12_path_114 : decode cX12_path 114 = .ok (.if_icmp .gt 7, 3) := by decide +kernel
theorem dX12_path_117 : decode cX12_path 117 = .ok (.iconst 1, 1) := by decide +kernel
theorem dX12_path_118 : decode cX12_path 118 = .ok (.goto 4, 3) := by decide +kernel
theorem dX12_path_121 : decode cX12_path 121 = .ok (.iconst 0, 1) := by decide +kernel
theorem dX12_path_122 : decode cX12_path 122 = .ok (.istore 6, 2) := by decide +kernel
theorem dX12_path_124 : decode cX12_path 124 = .ok (.aload_n 0, 1) := by decide +kernel
theorem dX12_path_125 : decode cX12_path 125 = .ok (.aload_n 0, 1) := by decide +kernel
theorem dX12_path_126 : decode cX12_path 126 = .ok (.getfield 7, 3) := by decide +kernel
theorem dX12_path_129 : decode cX12_path 129 = .ok (.iconst 0, 1) := by decide +kernel
theorem dX12_path_130 : decode cX12_path 130 = .ok (.iaload, 1) := by decide +kernel
theorem dX12_path_131 : decode cX12_path 131 = .ok (.invokevirtual 125, 3) := by decide +kernel
theorem dX12_path_134 : decode cX12_path 134 = .ok (.ifCond .ne 24, 3) := by decide +kernel
theorem dX12_path_137 : decode cX12_path 137 = .ok (.iload_n 1, 1) := by decide +kernel
theorem dX12_path_138 : decode cX12_path 138 = .ok (.iconst 1, 1) := by decide +kernel
theorem dX12_path_139 : decode cX12_path 139 = .ok (.if_icmp .le 22, 3) := by decide +kernel
theorem dX12_path_142 : decode cX12_path 142 = .ok (.aload_n 0, 1) := by decide +kernel
theorem dX12_path_143 : decode cX12_path 143 = .ok (.getfield 7, 3) := by decide +kernel
theorem dX12_path_146 : decode cX12_path 146 = .ok (.iconst 1, 1) := by decide +kernel
theorem dX12_path_147 : decode cX12_path 147 = .ok (.iaload, 1) := by decide +kernel
theorem dX12_path_148 : decode cX12_path 148 = .ok (.bipush 58, 2) := by decide +kernel
theorem dX12_path_150 : decode cX12_path 150 = .ok (.if_icmp .ne 11, 3) := by decide +kernel
theorem dX12_path_153 : decode cX12_path 153 = .ok (.iload 6, 2) := by decide +kernel
theorem dX12_path_155 : decode cX12_path 155 = .ok (.ifCond .eq 6, 3) := by decide +kernel
theorem dX12_path_158 : decode cX12_path 158 = .ok (.bipush (-2), 2) := by decide +kernel
theorem dX12_path_160 : decode cX12_path 160 = .ok (.ireturn, 1) := by decide +kernel
theorem dX12_path_161 : decode cX12_path 161 = .ok (.iload_n 3, 1) := by decide +kernel
theorem dX12_path_162 : decode cX12_path 162 = .ok (.ifCond .eq 6, 3) := by decide +kernel
theorem dX12_path_165 : decode cX12_path 165 = .ok (.bipush (-3), 2) := by decide +kernel
theorem dX12_path_167 : decode cX12_path 167 = .ok (.ireturn, 1) := by decide +kernel
theorem dX12_path_168 : decode cX12_path 168 = .ok (.iload 4, 2) := by decide +kernel
theorem dX12_path_170 : decode cX12_path 170 = .ok (.ifCond .eq 6, 3) := by decide +kernel
theorem dX12_path_173 : decode cX12_path 173 = .ok (.bipush (-4), 2) := by decide +kernel
theorem dX12_path_175 : decode cX12_path 175 = .ok (.ireturn, 1) := by decide +kernel
theorem dX12_path_176 : decode cX12_path 176 = .ok (.iload 5, 2) := by decide +kernel
theorem dX12_path_178 : decode cX12_path 178 = .ok (.ifCond .ne 9, 3) := by decide +kernel
theorem dX12_path_181 : decode cX12_path 181 = .ok (.iload_n 2, 1) := by decide +kernel
theorem dX12_path_182 : decode cX12_path 182 = .ok (.bipush 8, 2) := by decide +kernel
theorem dX12_path_184 : decode cX12_path 184 = .ok (.if_icmp .le 6, 3) := by decide +kernel
theorem dX12_path_187 : decode cX12_path 187 = .ok (.bipush (-5), 2) := by decide +kernel
theorem dX12_path_189 : decode cX12_path 189 = .ok (.ireturn, 1) := by decide +kernel
theorem dX12_path_190 : decode cX12_path 190 = .ok (.aload_n 0, 1) := by decide +kernel
theorem dX12_path_191 : decode cX12_path 191 = .ok (.getfield 146, 3) := by decide +kernel
theorem dX12_path_194 : decode cX12_path 194 = .ok (.bipush 60, 2) := by decide +kernel
theorem dX12_path_196 : decode cX12_path 196 = .ok (.if_icmp .ne 6, 3) := by decide +kernel
theorem dX12_path_199 : decode cX12_path 199 = .ok (.bipush (-6), 2) := by decide +kernel
theorem dX12_path_201 : decode cX12_path 201 = .ok (.ireturn, 1) := by decide +kernel
theorem dX12_path_202 : decode cX12_path 202 = .ok (.iconst 0, 1) := by decide +kernel
theorem dX12_path_203 : decode cX12_path 203 = .ok (.istore 7, 2) := by decide +kernel
theorem dX12_path_205 : decode cX12_path 205 = .ok (.aload_n 0, 1) := by decide +kernel
theorem dX12_path_206 : decode cX12_path 206 = .ok (.iconst 0, 1) := by decide +kernel
theorem dX12_path_207 : decode cX12_path 207 = .ok (.iload_n 1, 1) := by decide +kernel
theorem dX12_path_208 : decode cX12_path 208 = .ok (.invokevirtual 136, 3) := by decide +kernel
theorem dX12_path_211 : decode cX12_path 211 = .ok (.istore 8, 2) := by decide +kernel
theorem dX12_path_213 : decode cX12_path 213 = .ok (.iload 8, 2) := by decide +kernel
theorem dX12_path_215 : decode cX12_path 215 = .ok (.ifCond .lt 83, 3) := by decide +kernel
theorem dX12_path_218 : decode cX12_path 218 = .ok (.aload_n 0, 1) := by decide +kernel
theorem dX12_path_219 : decode cX12_path 219 = .ok (.getfield 51, 3) := by decide +kernel
theorem dX12_path_222 : decode cX12_path 222 = .ok (.bipush 8, 2) := by decide +kernel
theorem dX12_path_224 : decode cX12_path 224 = .ok (.aload_n 0, 1) := by decide +kernel
theorem dX12_path_225 : decode cX12_path 225 = .ok (.getfield 146, 3) := by decide +kernel
theorem dX12_path_228 : decode cX12_path 228 = .ok (.imul, 1) := by decide +kernel
theorem dX12_path_229 : decode cX12_path 229 = .ok (.iload 7, 2) := by decide +kernel
theorem dX12_path_231 : decode cX12_path 231 = .ok (.iadd, 1) := by decide +kernel
theorem dX12_path_232 : decode cX12_path 232 = .ok (.aload_n 0, 1) := by decide +kernel
theorem dX12_path_233 : decode cX12_path 233 = .ok (.getfield 107, 3) := by decide +kernel
theorem dX12_path_236 : decode cX12_path 236 = .ok (.iastore, 1) := by decide +kernel
theorem dX12_path_237 : decode cX12_path 237 = .ok (.iconst 0, 1) := by decide +kernel
theorem dX12_path_238 : decode cX12_path 238 = .ok (.istore 9, 2) := by decide +kernel
theorem dX12_path_240 : decode cX12_path 240 = .ok (.iload 9, 2) := by decide +kernel
theorem dX12_path_242 : decode cX12_path 242 = .ok (.aload_n 0, 1) := by decide +kernel
theorem dX12_path_243 : decode cX12_path 243 = .ok (.getfield 107, 3) := by decide +kernel
theorem dX12_path_246 : decode cX12_path 246 = .ok (.if_icmp .ge 37, 3) := by decide +kernel
theorem dX12_path_249 : decode cX12_path 249 = .ok (.aload_n 0, 1) := by decide +kernel
theorem dX12_path_250 : decode cX12_path 250 = .ok (.getfield 54, 3) := by decide +kernel
theorem dX12_path_253 : decode cX12_path 253 = .ok (.bipush 16, 2) := by decide +kernel
theorem dX12_path_255 : decode cX12_path 255 = .ok (.bipush 8, 2) := by decide +kernel
theorem dX12_path_257 : decode cX12_path 257 = .ok (.aload_n 0, 1) := by decide +kernel
theorem dX12_path_258 : decode cX12_path 258 = .ok (.getfield 146, 3) := by decide +kernel
theorem dX12_path_261 : decode cX12_path 261 = .ok (.imul, 1) := by decide +kernel
theorem dX12_path_262 : decode cX12_path 262 = .ok (.iload 7, 2) := by decide +kernel
theorem dX12_path_264 : decode cX12_path 264 = .ok (.iadd, 1) := by decide +kernel
theorem dX12_path_265 : decode cX12_path 265 = .ok (.imul, 1) := by decide +kernel
theorem dX12_path_266 : decode cX12_path 266 = .ok (.iload 9, 2) := by decide +kernel
theorem dX12_path_268 : decode cX12_path 268 = .ok (.iadd, 1) := by decide +kernel
theorem dX12_path_269 : decode cX12_path 269 = .ok (.aload_n 0, 1) := by decide +kernel
theorem dX12_path_270 : decode cX12_path 270 = .ok (.getfield 86, 3) := by decide +kernel
theorem dX12_path_273 : decode cX12_path 273 = .ok (.iload 9, 2) := by decide +kernel
theorem dX12_path_275 : decode cX12_path 275 = .ok (.iaload, 1) := by decide +kernel
theorem dX12_path_276 : decode cX12_path 276 = .ok (.iastore, 1) := by decide +kernel
theorem dX12_path_277 : decode cX12_path 277 = .ok (.iinc 9 1, 3) := by decide +kernel
theorem dX12_path_280 : decode cX12_path 280 = .ok (.goto (-40), 3) := by decide +kernel
theorem dX12_path_283 : decode cX12_path 283 = .ok (.iinc 7 1, 3) := by decide +kernel
theorem dX12_path_286 : decode cX12_path 286 = .ok (.aload_n 0, 1) := by decide +kernel
theorem dX12_path_287 : decode cX12_path 287 = .ok (.iload 8, 2) := by decide +kernel
theorem dX12_path_289 : decode cX12_path 289 = .ok (.iload_n 1, 1) := by decide +kernel
theorem dX12_path_290 : decode cX12_path 290 = .ok (.invokevirtual 136, 3) := by decide +kernel
theorem dX12_path_293 : decode cX12_path 293 = .ok (.istore 8, 2) := by decide +kernel
theorem dX12_path_295 : decode cX12_path 295 = .ok (.goto (-82), 3) := by decide +kernel
theorem dX12_path_298 : decode cX12_path 298 = .ok (.aload_n 0, 1) := by decide +kernel
theorem dX12_path_299 : decode cX12_path 299 = .ok (.getfield 48, 3) := by decide +kernel
theorem dX12_path_302 : decode cX12_path 302 = .ok (.aload_n 0, 1) := by decide +kernel
theorem dX12_path_303 : decode cX12_path 303 = .ok (.getfield 146, 3) := by decide +kernel
theorem dX12_path_306 : decode cX12_path 306 = .ok (.iload_n 2, 1) := by decide +kernel
theorem dX12_path_307 : decode cX12_path 307 = .ok (.iastore, 1) := by decide +kernel
theorem dX12_path_308 : decode cX12_path 308 = .ok (.aload_n 0, 1) := by decide +kernel
theorem dX12_path_309 : decode cX12_path 309 = .ok (.dup, 1) := by decide +kernel
theorem dX12_path_310 : decode cX12_path 310 = .ok (.getfield 146, 3) := by decide +kernel
theorem dX12_path_313 : decode cX12_path 313 = .ok (.iconst 1, 1) := by decide +kernel
theorem dX12_path_314 : decode cX12_path 314 = .ok (.iadd, 1) := by decide +kernel
theorem dX12_path_315 : decode cX12_path 315 = .ok (.putfield 146, 3) := by decide +kernel
theorem dX12_path_318 : decode cX12_path 318 = .ok (.aload_n 0, 1) := by decide +kernel
theorem dX12_path_319 : decode cX12_path 319 = .ok (.getfield 146, 3) := by decide +kernel
theorem dX12_path_322 : decode cX12_path 322 = .ok (.iconst 1, 1) := by decide +kernel
theorem dX12_path_323 : decode cX12_path 323 = .ok (.isub, 1) := by decide +kernel
theorem dX12_path_324 : decode cX12_path 324 = .ok (.ireturn, 1) := by decide +kernel
theorem dX12_isPath_0 : decode cX12_isPath 0 = .ok (.iload_n 1, 1) := by decide +kernel
theorem dX12_isPath_1 : decode cX12_isPath 1 = .ok (.ifCond .lt 15, 3) := by decide +kernel
theorem dX12_isPath_4 : decode cX12_isPath 4 = .ok (.iload_n 1, 1) := by decide +kernel
theorem dX12_isPath_5 : decode cX12_isPath 5 = .ok (.aload_n 0, 1) := by decide +kernel
theorem dX12_isPath_6 : decode cX12_isPath 6 = .ok (.getfield 146, 3) := by decide +kernel
theorem dX12_isPath_9 : decode cX12_isPath 9 = .ok (.if_icmp .ge 7, 3) := by decide +kernel
theorem dX12_isPath_12 : decode cX12_isPath 12 = .ok (.iconst 1, 1) := by decide +kernel
theorem dX12_isPath_13 : decode cX12_isPath 13 = .ok (.goto 4, 3) := by decide +kernel
theorem dX12_isPath_16 : decode cX12_isPath 16 = .ok (.iconst 0, 1) := by decide +kernel
theorem dX12_isPath_17 : decode cX12_isPath 17 = .ok (.ireturn, 1) := by decide +kernel
theorem dX12_part_0 : decode cX12_part 0 = .ok (.aload_n 0, 1) := by decide +kernel
theorem dX12_part_1 : decode cX12_part 1 = .ok (.iload_n 1, 1) := by decide +kernel
theorem dX12_part_2 : decode cX12_part 2 = .ok (.invokevirtual 149, 3) := by decide +kernel
theorem dX12_part_5 : decode cX12_part 5 = .ok (.ifCond .eq 40, 3) := by decide +kernel
theorem dX12_part_8 : decode cX12_part 8 = .ok (.iload_n 2, 1) := by decide +kernel
theorem dX12_part_9 : decode cX12_part 9 = .ok (.ifCond .lt 36, 3) := by decide +kernel
theorem dX12_part_12 : decode cX12_part 12 = .ok (.iload_n 2, 1) := by decide +kernel
theorem dX12_part_13 : decode cX12_part 13 = .ok (.aload_n 0, 1) := by decide +kernel
theorem dX12_part_14 : decode cX12_part 14 = .ok (.getfield 48, 3) := by decide +kernel
theorem dX12_part_17 : decode cX12_part 17 = .ok (.iload_n 1, 1) := by decide +kernel
theorem dX12_part_18 : decode cX12_part 18 = .ok (.iaload, 1) := by decide +kernel
theorem dX12_part_19 : decode cX12_part 19 = .ok (.if_icmp .ge 26, 3) := by decide +kernel
theorem dX12_part_22 : decode cX12_part 22 = .ok (.iload_n 3, 1) := by decide +kernel
theorem dX12_part_23 : decode cX12_part 23 = .ok (.ifCond .lt 22, 3) := by decide +kernel
theorem dX12_part_26 : decode cX12_part 26 = .ok (.iload_n 3, 1) := by decide +kernel
theorem dX12_part_27 : decode cX12_part 27 = .ok (.aload_n 0, 1) := by decide +kernel
theorem dX12_part_28 : decode cX12_part 28 = .ok (.getfield 51, 3) := by decide +kernel
theorem dX12_part_31 : decode cX12_part 31 = .ok (.bipush 8, 2) := by decide +kernel
theorem dX12_part_33 : decode cX12_part 33 = .ok (.iload_n 1, 1) := by decide +kernel
theorem dX12_part_34 : decode cX12_part 34 = .ok (.imul, 1) := by decide +kernel
theorem dX12_part_35 : decode cX12_part 35 = .ok (.iload_n 2, 1) := by decide +kernel
theorem dX12_part_36 : decode cX12_part 36 = .ok (.iadd, 1) := by decide +kernel
theorem dX12_part_37 : decode cX12_part 37 = .ok (.iaload, 1) := by decide +kernel
theorem dX12_part_38 : decode cX12_part 38 = .ok (.if_icmp .ge 7, 3) := by decide +kernel
theorem dX12_part_41 : decode cX12_part 41 = .ok (.iconst 1, 1) := by decide +kernel
theorem dX12_part_42 : decode cX12_part 42 = .ok (.goto 4, 3) := by decide +kernel
theorem dX12_part_45 : decode cX12_part 45 = .ok (.iconst 0, 1) := by decide +kernel
theorem dX12_part_46 : decode cX12_part 46 = .ok (.istore 4, 2) := by decide +kernel
theorem dX12_part_48 : decode cX12_part 48 = .ok (.iload 4, 2) := by decide +kernel
theorem dX12_part_50 : decode cX12_part 50 = .ok (.ifCond .eq 22, 3) := by decide +kernel
theorem dX12_part_53 : decode cX12_part 53 = .ok (.aload_n 0, 1) := by decide +kernel
theorem dX12_part_54 : decode cX12_part 54 = .ok (.getfield 54, 3) := by decide +kernel
theorem dX12_part_57 : decode cX12_part 57 = .ok (.bipush 16, 2) := by decide +kernel
theorem dX12_part_59 : decode cX12_part 59 = .ok (.bipush 8, 2) := by decide +kernel
theorem dX12_part_61 : decode cX12_part 61 = .ok (.iload_n 1, 1) := by decide +kernel
theorem dX12_part_62 : decode cX12_part 62 = .ok (.imul, 1) := by decide +kernel
theorem dX12_part_63 : decode cX12_part 63 = .ok (.iload_n 2, 1) := by decide +kernel
theorem dX12_part_64 : decode cX12_part 64 = .ok (.iadd, 1) := by decide +kernel
theorem dX12_part_65 : decode cX12_part 65 = .ok (.imul, 1) := by decide +kernel
theorem dX12_part_66 : decode cX12_part 66 = .ok (.iload_n 3, 1) := by decide +kernel
theorem dX12_part_67 : decode cX12_part 67 = .ok (.iadd, 1) := by decide +kernel
theorem dX12_part_68 : decode cX12_part 68 = .ok (.iaload, 1) := by decide +kernel
theorem dX12_part_69 : decode cX12_part 69 = .ok (.goto 4, 3) := by decide +kernel
theorem dX12_part_72 : decode cX12_part 72 = .ok (.iconst (-1), 1) := by decide +kernel
theorem dX12_part_73 : decode cX12_part 73 = .ok (.ireturn, 1) := by decide +kernel
theorem dX12_meets_0 : decode cX12_meets 0 = .ok (.aload_n 0, 1) := by decide +kernel
theorem dX12_meets_1 : decode cX12_meets 1 = .ok (.iload_n 1, 1) := by decide +kernel
theorem dX12_meets_2 : decode cX12_meets 2 = .ok (.invokevirtual 149, 3) := by decide +kernel
theorem dX12_meets_5 : decode cX12_meets 5 = .ok (.ifCond .eq 11, 3) := by decide +kernel
theorem dX12_meets_8 : decode cX12_meets 8 = .ok (.aload_n 0, 1) := by decide +kernel
theorem dX12_meets_9 : decode cX12_meets 9 = .ok (.iload_n 2, 1) := by decide +kernel
theorem dX12_meets_10 : decode cX12_meets 10 = .ok (.invokevirtual 149, 3) := by decide +kernel
theorem dX12_meets_13 : decode cX12_meets 13 = .ok (.ifCond .ne 6, 3) := by decide +kernel
theorem dX12_meets_16 : decode cX12_meets 16 = .ok (.bipush (-7), 2) := by decide +kernel
theorem dX12_meets_18 : decode cX12_meets 18 = .ok (.ireturn, 1) := by decide +kernel
theorem dX12_meets_19 : decode cX12_meets 19 = .ok (.aload_n 0, 1) := by decide +kernel
theorem dX12_meets_20 : decode cX12_meets 20 = .ok (.getfield 48, 3) := by decide +kernel
theorem dX12_meets_23 : decode cX12_meets 23 = .ok (.iload_n 1, 1) := by decide +kernel
theorem dX12_meets_24 : decode cX12_meets 24 = .ok (.iaload, 1) := by decide +kernel
theorem dX12_meets_25 : decode cX12_meets 25 = .ok (.aload_n 0, 1) := by decide +kernel
theorem dX12_meets_26 : decode cX12_meets 26 = .ok (.getfield 48, 3) := by decide +kernel
theorem dX12_meets_29 : decode cX12_meets 29 = .ok (.iload_n 2, 1) := by decide +kernel
theorem dX12_meets_30 : decode cX12_meets 30 = .ok (.iaload, 1) := by decide +kernel
theorem dX12_meets_31 : decode cX12_meets 31 = .ok (.if_icmp .ne 7, 3) := by decide +kernel
theorem dX12_meets_34 : decode cX12_meets 34 = .ok (.iconst 1, 1) := by decide +kernel
theorem dX12_meets_35 : decode cX12_meets 35 = .ok (.goto 4, 3) := by decide +kernel
theorem dX12_meets_38 : decode cX12_meets 38 = .ok (.iconst 0, 1) := by decide +kernel
theorem dX12_meets_39 : decode cX12_meets 39 = .ok (.istore_n 3, 1) := by decide +kernel
theorem dX12_meets_40 : decode cX12_meets 40 = .ok (.iconst 0, 1) := by decide +kernel
theorem dX12_meets_41 : decode cX12_meets 41 = .ok (.istore 4, 2) := by decide +kernel
theorem dX12_meets_43 : decode cX12_meets 43 = .ok (.iload_n 3, 1) := by decide +kernel
theorem dX12_meets_44 : decode cX12_meets 44 = .ok (.ifCond .eq 150, 3) := by decide +kernel
theorem dX12_meets_47 : decode cX12_meets 47 = .ok (.iload 4, 2) := by decide +kernel
theorem dX12_meets_49 : decode cX12_meets 49 = .ok (.aload_n 0, 1) := by decide +kernel
theorem dX12_meets_50 : decode cX12_meets 50 = .ok (.getfield 48, 3) := by decide +kernel
theorem dX12_meets_53 : decode cX12_meets 53 = .ok (.iload_n 1, 1) := by decide +kernel
theorem dX12_meets_54 : decode cX12_meets 54 = .ok (.iaload, 1) := by decide +kernel
theorem dX12_meets_55 : decode cX12_meets 55 = .ok (.if_icmp .ge 139, 3) := by decide +kernel
theorem dX12_meets_58 : decode cX12_meets 58 = .ok (.bipush 8, 2) := by decide +kernel
theorem dX12_meets_60 : decode cX12_meets 60 = .ok (.iload_n 1, 1) := by decide +kernel
theorem dX12_meets_61 : decode cX12_meets 61 = .ok (.imul, 1) := by decide +kernel
theorem dX12_meets_62 : decode cX12_meets 62 = .ok (.iload 4, 2) := by decide +kernel
theorem dX12_meets_64 : decode cX12_meets 64 = .ok (.iadd, 1) := by decide +kernel
theorem dX12_meets_65 : decode cX12_meets 65 = .ok (.istore 5, 2) := by decide +kernel
theorem dX12_meets_67 : decode cX12_meets 67 = .ok (.bipush 8, 2) := by decide +kernel
theorem dX12_meets_69 : decode cX12_meets 69 = .ok (.iload_n 2, 1) := by decide +kernel
theorem dX12_meets_70 : decode cX12_meets 70 = .ok (.imul, 1) := by decide +kernel
theorem dX12_meets_71 : decode cX12_meets 71 = .ok (.iload 4, 2) := by decide +kernel
theorem dX12_meets_73 : decode cX12_meets 73 = .ok (.iadd, 1) := by decide +kernel
theorem dX12_meets_74 : decode cX12_meets 74 = .ok (.istore 6, 2) := by decide +kernel
theorem dX12_meets_76 : decode cX12_meets 76 = .ok (.aload_n 0, 1) := by decide +kernel
theorem dX12_meets_77 : decode cX12_meets 77 = .ok (.getfield 51, 3) := by decide +kernel
theorem dX12_meets_80 : decode cX12_meets 80 = .ok (.iload 5, 2) := by decide +kernel
theorem dX12_meets_82 : decode cX12_meets 82 = .ok (.iaload, 1) := by decide +kernel
theorem dX12_meets_83 : decode cX12_meets 83 = .ok (.aload_n 0, 1) := by decide +kernel
theorem dX12_meets_84 : decode cX12_meets 84 = .ok (.getfield 51, 3) := by decide +kernel
theorem dX12_meets_87 : decode cX12_meets 87 = .ok (.iload 6, 2) := by decide +kernel
theorem dX12_meets_89 : decode cX12_meets 89 = .ok (.iaload, 1) := by decide +kernel
theorem dX12_meets_90 : decode cX12_meets 90 = .ok (.if_icmp .ne 7, 3) := by decide +kernel
theorem dX12_meets_93 : decode cX12_meets 93 = .ok (.iconst 1, 1) := by decide +kernel
theorem dX12_meets_94 : decode cX12_meets 94 = .ok (.goto 4, 3) := by decide +kernel
theorem dX12_meets_97 : decode cX12_meets 97 = .ok (.iconst 0, 1) := by decide +kernel
theorem dX12_meets_98 : decode cX12_meets 98 = .ok (.istore_n 3, 1) := by decide +kernel
theorem dX12_meets_99 : decode cX12_meets 99 = .ok (.iconst 0, 1) := by decide +kernel
theorem dX12_meets_100 : decode cX12_meets 100 = .ok (.istore 7, 2) := by decide +kernel
theorem dX12_meets_102 : decode cX12_meets 102 = .ok (.iload_n 3, 1) := by decide +kernel
theorem dX12_meets_103 : decode cX12_meets 103 = .ok (.ifCond .eq 85, 3) := by decide +kernel
theorem dX12_meets_106 : decode cX12_meets 106 = .ok (.iload 7, 2) := by decide +kernel
theorem dX12_meets_108 : decode cX12_meets 108 = .ok (.aload_n 0, 1) := by decide +kernel
theorem dX12_meets_109 : decode cX12_meets 109 = .ok (.getfield 51, 3) := by decide +kernel
theorem dX12_meets_112 : decode cX12_meets 112 = .ok (.iload 5, 2) := by decide +kernel
theorem dX12_meets_114 : decode cX12_meets 114 = .ok (.iaload, 1) := by decide +kernel
theorem dX12_meets_115 : decode cX12_meets 115 = .ok (.if_icmp .ge 73, 3) := by decide +kernel
theorem dX12_meets_118 : decode cX12_meets 118 = .ok (.aload_n 0, 1) := by decide +kernel
theorem dX12_meets_119 : decode cX12_meets 119 = .ok (.getfield 54, 3) := by decide +kernel
theorem dX12_meets_122 : decode cX12_meets 122 = .ok (.bipush 16, 2) := by decide +kernel
theorem dX12_meets_124 : decode cX12_meets 124 = .ok (.iload 5, 2) := by decide +kernel
theorem dX12_meets_126 : decode cX12_meets 126 = .ok (.imul, 1) := by decide +kernel
theorem dX12_meets_127 : decode cX12_meets 127 = .ok (.iload 7, 2) := by decide +kernel
theorem dX12_meets_129 : decode cX12_meets 129 = .ok (.iadd, 1) := by decide +kernel
theorem dX12_meets_130 : decode cX12_meets 130 = .ok (.iaload, 1) := by decide +kernel
theorem dX12_meets_131 : decode cX12_meets 131 = .ok (.istore 8, 2) := by decide +kernel
theorem dX12_meets_133 : decode cX12_meets 133 = .ok (.aload_n 0, 1) := by decide +kernel
theorem dX12_meets_134 : decode cX12_meets 134 = .ok (.getfield 54, 3) := by decide +kernel
theorem dX12_meets_137 : decode cX12_meets 137 = .ok (.bipush 16, 2) := by decide +kernel
theorem dX12_meets_139 : decode cX12_meets 139 = .ok (.iload 6, 2) := by decide +kernel
theorem dX12_meets_141 : decode cX12_meets 141 = .ok (.imul, 1) := by decide +kernel
theorem dX12_meets_142 : decode cX12_meets 142 = .ok (.iload 7, 2) := by decide +kernel
theorem dX12_meets_144 : decode cX12_meets 144 = .ok (.iadd, 1) := by decide +kernel
theorem dX12_meets_145 : decode cX12_meets 145 = .ok (.iaload, 1) := by decide +kernel
theorem dX12_meets_146 : decode cX12_meets 146 = .ok (.istore 9, 2) := by decide +kernel
theorem dX12_meets_148 : decode cX12_meets 148 = .ok (.iload 8, 2) := by decide +kernel
theorem dX12_meets_150 : decode cX12_meets 150 = .ok (.iload 9, 2) := by decide +kernel
theorem dX12_meets_152 : decode cX12_meets 152 = .ok (.if_icmp .eq 24, 3) := by decide +kernel
theorem dX12_meets_155 : decode cX12_meets 155 = .ok (.aload_n 0, 1) := by decide +kernel
theorem dX12_meets_156 : decode cX12_meets 156 = .ok (.iconst 2, 1) := by decide +kernel
theorem dX12_meets_157 : decode cX12_meets 157 = .ok (.invokevirtual 118, 3) := by decide +kernel
theorem dX12_meets_160 : decode cX12_meets 160 = .ok (.ifCond .eq 20, 3) := by decide +kernel
theorem dX12_meets_163 : decode cX12_meets 163 = .ok (.iload 8, 2) := by decide +kernel
theorem dX12_meets_165 : decode cX12_meets 165 = .ok (.invokestatic 128, 3) := by decide +kernel
theorem dX12_meets_168 : decode cX12_meets 168 = .ok (.iload 9, 2) := by decide +kernel
theorem dX12_meets_170 : decode cX12_meets 170 = .ok (.invokestatic 128, 3) := by decide +kernel
theorem dX12_meets_173 : decode cX12_meets 173 = .ok (.if_icmp .ne 7, 3) := by decide +kernel
theorem dX12_meets_176 : decode cX12_meets 176 = .ok (.iconst 1, 1) := by decide +kernel
theorem dX12_meets_177 : decode cX12_meets 177 = .ok (.goto 4, 3) := by decide +kernel
theorem dX12_meets_180 : decode cX12_meets 180 = .ok (.iconst 0, 1) := by decide +kernel
theorem dX12_meets_181 : decode cX12_meets 181 = .ok (.istore_n 3, 1) := by decide +kernel
theorem dX12_meets_182 : decode cX12_meets 182 = .ok (.iinc 7 1, 3) := by decide +kernel
theorem dX12_meets_185 : decode cX12_meets 185 = .ok (.goto (-83), 3) := by decide +kernel
theorem dX12_meets_188 : decode cX12_meets 188 = .ok (.iinc 4 1, 3) := by decide +kernel
theorem dX12_meets_191 : decode cX12_meets 191 = .ok (.goto (-148), 3) := by decide +kernel
theorem dX12_meets_194 : decode cX12_meets 194 = .ok (.iload_n 3, 1) := by decide +kernel
theorem dX12_meets_195 : decode cX12_meets 195 = .ok (.ifCond .eq 7, 3) := by decide +kernel
theorem dX12_meets_198 : decode cX12_meets 198 = .ok (.iconst 1, 1) := by decide +kernel
theorem dX12_meets_199 : decode cX12_meets 199 = .ok (.goto 4, 3) := by decide +kernel
theorem dX12_meets_202 : decode cX12_meets 202 = .ok (.iconst 0, 1) := by decide +kernel
theorem dX12_meets_203 : decode cX12_meets 203 = .ok (.ireturn, 1) := by decide +kernel
theorem dX12_target_0 : decode cX12_target 0 = .ok (.aload_n 0, 1) := by decide +kernel
theorem dX12_target_1 : decode cX12_target 1 = .ok (.getfield 122, 3) := by decide +kernel
theorem dX12_target_4 : decode cX12_target 4 = .ok (.istore_n 1, 1) := by decide +kernel
theorem dX12_target_5 : decode cX12_target 5 = .ok (.aload_n 0, 1) := by decide +kernel
theorem dX12_target_6 : decode cX12_target 6 = .ok (.iconst 0, 1) := by decide +kernel
theorem dX12_target_7 : decode cX12_target 7 = .ok (.putfield 122, 3) := by decide +kernel
theorem dX12_target_10 : decode cX12_target 10 = .ok (.iload_n 1, 1) := by decide +kernel
theorem dX12_target_11 : decode cX12_target 11 = .ok (.iconst 1, 1) := by decide +kernel
theorem dX12_target_12 : decode cX12_target 12 = .ok (.if_icmp .lt 9, 3) := by decide +kernel
theorem dX12_target_15 : decode cX12_target 15 = .ok (.iload_n 1, 1) := by decide +kernel
theorem dX12_target_16 : decode cX12_target 16 = .ok (.bipush 40, 2) := by decide +kernel
theorem dX12_target_18 : decode cX12_target 18 = .ok (.if_icmp .le 5, 3) := by decide +kernel
theorem dX12_target_21 : decode cX12_target 21 = .ok (.iconst (-1), 1) := by decide +kernel
theorem dX12_target_22 : decode cX12_target 22 = .ok (.ireturn, 1) := by decide +kernel
theorem dX12_target_23 : decode cX12_target 23 = .ok (.aload_n 0, 1) := by decide +kernel
theorem dX12_target_24 : decode cX12_target 24 = .ok (.getfield 152, 3) := by decide +kernel
theorem dX12_target_27 : decode cX12_target 27 = .ok (.bipush 40, 2) := by decide +kernel
theorem dX12_target_29 : decode cX12_target 29 = .ok (.if_icmp .ne 6, 3) := by decide +kernel
theorem dX12_target_32 : decode cX12_target 32 = .ok (.bipush (-6), 2) := by decide +kernel
theorem dX12_target_34 : decode cX12_target 34 = .ok (.ireturn, 1) := by decide +kernel
theorem dX12_target_35 : decode cX12_target 35 = .ok (.iconst 0, 1) := by decide +kernel
theorem dX12_target_36 : decode cX12_target 36 = .ok (.istore_n 2, 1) := by decide +kernel
theorem dX12_target_37 : decode cX12_target 37 = .ok (.iload_n 2, 1) := by decide +kernel
theorem dX12_target_38 : decode cX12_target 38 = .ok (.iload_n 1, 1) := by decide +kernel
theorem dX12_target_39 : decode cX12_target 39 = .ok (.if_icmp .ge 29, 3) := by decide +kernel
theorem dX12_target_42 : decode cX12_target 42 = .ok (.aload_n 0, 1) := by decide +kernel
theorem dX12_target_43 : decode cX12_target 43 = .ok (.getfield 60, 3) := by decide +kernel
theorem dX12_target_46 : decode cX12_target 46 = .ok (.bipush 40, 2) := by decide +kernel
theorem dX12_target_48 : decode cX12_target 48 = .ok (.aload_n 0, 1) := by decide +kernel
theorem dX12_target_49 : decode cX12_target 49 = .ok (.getfield 152, 3) := by decide +kernel
theorem dX12_target_52 : decode cX12_target 52 = .ok (.imul, 1) := by decide +kernel
theorem dX12_target_53 : decode cX12_target 53 = .ok (.iload_n 2, 1) := by decide +kernel
theorem dX12_target_54 : decode cX12_target 54 = .ok (.iadd, 1) := by decide +kernel
theorem dX12_target_55 : decode cX12_target 55 = .ok (.aload_n 0, 1) := by decide +kernel
theorem dX12_target_56 : decode cX12_target 56 = .ok (.getfield 7, 3) := by decide +kernel
theorem dX12_target_59 : decode cX12_target 59 = .ok (.iload_n 2, 1) := by decide +kernel
theorem dX12_target_60 : decode cX12_target 60 = .ok (.iaload, 1) := by decide +kernel
theorem dX12_target_61 : decode cX12_target 61 = .ok (.iastore, 1) := by decide +kernel
theorem dX12_target_62 : decode cX12_target 62 = .ok (.iinc 2 1, 3) := by decide +kernel
theorem dX12_target_65 : decode cX12_target 65 = .ok (.goto (-28), 3) := by decide +kernel
theorem dX12_target_68 : decode cX12_target 68 = .ok (.aload_n 0, 1) := by decide +kernel
theorem dX12_target_69 : decode cX12_target 69 = .ok (.getfield 57, 3) := by decide +kernel
theorem dX12_target_72 : decode cX12_target 72 = .ok (.aload_n 0, 1) := by decide +kernel
theorem dX12_target_73 : decode cX12_target 73 = .ok (.getfield 152, 3) := by decide +kernel
theorem dX12_target_76 : decode cX12_target 76 = .ok (.iload_n 1, 1) := by decide +kernel
theorem dX12_target_77 : decode cX12_target 77 = .ok (.iastore, 1) := by decide +kernel
theorem dX12_target_78 : decode cX12_target 78 = .ok (.aload_n 0, 1) := by decide +kernel
theorem dX12_target_79 : decode cX12_target 79 = .ok (.dup, 1) := by decide +kernel
theorem dX12_target_80 : decode cX12_target 80 = .ok (.getfield 152, 3) := by decide +kernel
theorem dX12_target_83 : decode cX12_target 83 = .ok (.iconst 1, 1) := by decide +kernel
theorem dX12_target_84 : decode cX12_target 84 = .ok (.iadd, 1) := by decide +kernel
theorem dX12_target_85 : decode cX12_target 85 = .ok (.putfield 152, 3) := by decide +kernel
theorem dX12_target_88 : decode cX12_target 88 = .ok (.aload_n 0, 1) := by decide +kernel
theorem dX12_target_89 : decode cX12_target 89 = .ok (.getfield 152, 3) := by decide +kernel
theorem dX12_target_92 : decode cX12_target 92 = .ok (.iconst 1, 1) := by decide +kernel
theorem dX12_target_93 : decode cX12_target 93 = .ok (.isub, 1) := by decide +kernel
theorem dX12_target_94 : decode cX12_target 94 = .ok (.ireturn, 1) := by decide +kernel
theorem dX12_isNamed_0 : decode cX12_isNamed 0 = .ok (.aload_n 0, 1) := by decide +kernel
theorem dX12_isNamed_1 : decode cX12_isNamed 1 = .ok (.getfield 32, 3) := by decide +kernel
theorem dX12_isNamed_4 : decode cX12_isNamed 4 = .ok (.iload_n 1, 1) := by decide +kernel
theorem dX12_isNamed_5 : decode cX12_isNamed 5 = .ok (.iaload, 1) := by decide +kernel
theorem dX12_isNamed_6 : decode cX12_isNamed 6 = .ok (.aload_n 0, 1) := by decide +kernel
theorem dX12_isNamed_7 : decode cX12_isNamed 7 = .ok (.getfield 107, 3) := by decide +kernel
theorem dX12_isNamed_10 : decode cX12_isNamed 10 = .ok (.if_icmp .ne 7, 3) := by decide +kernel
theorem dX12_isNamed_13 : decode cX12_isNamed 13 = .ok (.iconst 1, 1) := by decide +kernel
theorem dX12_isNamed_14 : decode cX12_isNamed 14 = .ok (.goto 4, 3) := by decide +kernel
theorem dX12_isNamed_17 : decode cX12_isNamed 17 = .ok (.iconst 0, 1) := by decide +kernel
theorem dX12_isNamed_18 : decode cX12_isNamed 18 = .ok (.istore_n 3, 1) := by decide +kernel
theorem dX12_isNamed_19 : decode cX12_isNamed 19 = .ok (.iconst 0, 1) := by decide +kernel
theorem dX12_isNamed_20 : decode cX12_isNamed 20 = .ok (.istore 4, 2) := by decide +kernel
theorem dX12_isNamed_22 : decode cX12_isNamed 22 = .ok (.iload_n 3, 1) := by decide +kernel
theorem dX12_isNamed_23 : decode cX12_isNamed 23 = .ok (.ifCond .eq 72, 3) := by decide +kernel
theorem dX12_isNamed_26 : decode cX12_isNamed 26 = .ok (.iload 4, 2) := by decide +kernel
theorem dX12_isNamed_28 : decode cX12_isNamed 28 = .ok (.aload_n 0, 1) := by decide +kernel
theorem dX12_isNamed_29 : decode cX12_isNamed 29 = .ok (.getfield 107, 3) := by decide +kernel
theorem dX12_isNamed_32 : decode cX12_isNamed 32 = .ok (.if_icmp .ge 63, 3) := by decide +kernel
theorem dX12_isNamed_35 : decode cX12_isNamed 35 = .ok (.aload_n 0, 1) := by decide +kernel
theorem dX12_isNamed_36 : decode cX12_isNamed 36 = .ok (.getfield 35, 3) := by decide +kernel
theorem dX12_isNamed_39 : decode cX12_isNamed 39 = .ok (.bipush 16, 2) := by decide +kernel
theorem dX12_isNamed_41 : decode cX12_isNamed 41 = .ok (.iload_n 1, 1) := by decide +kernel
theorem dX12_isNamed_42 : decode cX12_isNamed 42 = .ok (.imul, 1) := by decide +kernel
theorem dX12_isNamed_43 : decode cX12_isNamed 43 = .ok (.iload 4, 2) := by decide +kernel
theorem dX12_isNamed_45 : decode cX12_isNamed 45 = .ok (.iadd, 1) := by decide +kernel
theorem dX12_isNamed_46 : decode cX12_isNamed 46 = .ok (.iaload, 1) := by decide +kernel
theorem dX12_isNamed_47 : decode cX12_isNamed 47 = .ok (.istore 5, 2) := by decide +kernel
theorem dX12_isNamed_49 : decode cX12_isNamed 49 = .ok (.iload 5, 2) := by decide +kernel
theorem dX12_isNamed_51 : decode cX12_isNamed 51 = .ok (.aload_n 0, 1) := by decide +kernel
theorem dX12_isNamed_52 : decode cX12_isNamed 52 = .ok (.getfield 86, 3) := by decide +kernel
theorem dX12_isNamed_55 : decode cX12_isNamed 55 = .ok (.iload 4, 2) := by decide +kernel
theorem dX12_isNamed_57 : decode cX12_isNamed 57 = .ok (.iaload, 1) := by decide +kernel
theorem dX12_isNamed_58 : decode cX12_isNamed 58 = .ok (.if_icmp .eq 25, 3) := by decide +kernel
theorem dX12_isNamed_61 : decode cX12_isNamed 61 = .ok (.iload_n 2, 1) := by decide +kernel
theorem dX12_isNamed_62 : decode cX12_isNamed 62 = .ok (.ifCond .ne 25, 3) := by decide +kernel
theorem dX12_isNamed_65 : decode cX12_isNamed 65 = .ok (.iload 5, 2) := by decide +kernel
theorem dX12_isNamed_67 : decode cX12_isNamed 67 = .ok (.invokestatic 128, 3) := by decide +kernel
theorem dX12_isNamed_70 : decode cX12_isNamed 70 = .ok (.aload_n 0, 1) := by decide +kernel
theorem dX12_isNamed_71 : decode cX12_isNamed 71 = .ok (.getfield 86, 3) := by decide +kernel
theorem dX12_isNamed_74 : decode cX12_isNamed 74 = .ok (.iload 4, 2) := by decide +kernel
theorem dX12_isNamed_76 : decode cX12_isNamed 76 = .ok (.iaload, 1) := by decide +kernel
theorem dX12_isNamed_77 : decode cX12_isNamed 77 = .ok (.invokestatic 128, 3) := by decide +kernel
end
section
theorem dX12_isNamed_80 : decode cX12_isNamed 80 = .ok (.if_icmp .ne 7, 3) := by decide +kernel
theorem dX12_isNamed_83 : decode cX12_isNamed 83 = .ok (.iconst 1, 1) := by decide +kernel
theorem dX12_isNamed_84 : decode cX12_isNamed 84 = .ok (.goto 4, 3) := by decide +kernel
theorem dX12_isNamed_87 : decode cX12_isNamed 87 = .ok (.iconst 0, 1) := by decide +kernel
theorem dX12_isNamed_88 : decode cX12_isNamed 88 = .ok (.istore_n 3, 1) := by decide +kernel
theorem dX12_isNamed_89 : decode cX12_isNamed 89 = .ok (.iinc 4 1, 3) := by decide +kernel
theorem dX12_isNamed_92 : decode cX12_isNamed 92 = .ok (.goto (-70), 3) := by decide +kernel
theorem dX12_isNamed_95 : decode cX12_isNamed 95 = .ok (.iload_n 3, 1) := by decide +kernel
theorem dX12_isNamed_96 : decode cX12_isNamed 96 = .ok (.ireturn, 1) := by decide +kernel
theorem dX12_in_0 : decode cX12_in 0 = .ok (.iconst 0, 1) := by decide +kernel
theorem dX12_in_1 : decode cX12_in 1 = .ok (.istore_n 2, 1) := by decide +kernel
theorem dX12_in_2 : decode cX12_in 2 = .ok (.iload_n 2, 1) := by decide +kernel
theorem dX12_in_3 : decode cX12_in 3 = .ok (.aload_n 0, 1) := by decide +kernel
theorem dX12_in_4 : decode cX12_in 4 = .ok (.iconst 2, 1) := by decide +kernel
theorem dX12_in_5 : decode cX12_in 5 = .ok (.invokevirtual 118, 3) := by decide +kernel
theorem dX12_in_8 : decode cX12_in 8 = .ok (.ifCond .eq 7, 3) := by decide +kernel
theorem dX12_in_11 : decode cX12_in 11 = .ok (.iconst 2, 1) := by decide +kernel
theorem dX12_in_12 : decode cX12_in 12 = .ok (.goto 4, 3) := by decide +kernel
theorem dX12_in_15 : decode cX12_in 15 = .ok (.iconst 1, 1) := by decide +kernel
theorem dX12_in_16 : decode cX12_in 16 = .ok (.if_icmp .ge 63, 3) := by decide +kernel
theorem dX12_in_19 : decode cX12_in 19 = .ok (.iconst 1, 1) := by decide +kernel
theorem dX12_in_20 : decode cX12_in 20 = .ok (.istore_n 3, 1) := by decide +kernel
theorem dX12_in_21 : decode cX12_in 21 = .ok (.iload_n 3, 1) := by decide +kernel
theorem dX12_in_22 : decode cX12_in 22 = .ok (.aload_n 0, 1) := by decide +kernel
theorem dX12_in_23 : decode cX12_in 23 = .ok (.getfield 115, 3) := by decide +kernel
theorem dX12_in_26 : decode cX12_in 26 = .ok (.if_icmp .ge 47, 3) := by decide +kernel
theorem dX12_in_29 : decode cX12_in 29 = .ok (.aload_n 0, 1) := by decide +kernel
theorem dX12_in_30 : decode cX12_in 30 = .ok (.getfield 23, 3) := by decide +kernel
theorem dX12_in_33 : decode cX12_in 33 = .ok (.iload_n 3, 1) := by decide +kernel
theorem dX12_in_34 : decode cX12_in 34 = .ok (.baload, 1) := by decide +kernel
theorem dX12_in_35 : decode cX12_in 35 = .ok (.ifCond .ne 32, 3) := by decide +kernel
theorem dX12_in_38 : decode cX12_in 38 = .ok (.aload_n 0, 1) := by decide +kernel
theorem dX12_in_39 : decode cX12_in 39 = .ok (.getfield 26, 3) := by decide +kernel
theorem dX12_in_42 : decode cX12_in 42 = .ok (.iload_n 3, 1) := by decide +kernel
theorem dX12_in_43 : decode cX12_in 43 = .ok (.iaload, 1) := by decide +kernel
theorem dX12_in_44 : decode cX12_in 44 = .ok (.iload_n 1, 1) := by decide +kernel
theorem dX12_in_45 : decode cX12_in 45 = .ok (.if_icmp .ne 22, 3) := by decide +kernel
theorem dX12_in_48 : decode cX12_in 48 = .ok (.aload_n 0, 1) := by decide +kernel
theorem dX12_in_49 : decode cX12_in 49 = .ok (.iload_n 3, 1) := by decide +kernel
theorem dX12_in_50 : decode cX12_in 50 = .ok (.iload_n 2, 1) := by decide +kernel
theorem dX12_in_51 : decode cX12_in 51 = .ok (.ifCond .ne 7, 3) := by decide +kernel
theorem dX12_in_54 : decode cX12_in 54 = .ok (.iconst 1, 1) := by decide +kernel
theorem dX12_in_55 : decode cX12_in 55 = .ok (.goto 4, 3) := by decide +kernel
theorem dX12_in_58 : decode cX12_in 58 = .ok (.iconst 0, 1) := by decide +kernel
theorem dX12_in_59 : decode cX12_in 59 = .ok (.invokevirtual 155, 3) := by decide +kernel
theorem dX12_in_62 : decode cX12_in 62 = .ok (.ifCond .eq 5, 3) := by decide +kernel
theorem dX12_in_65 : decode cX12_in 65 = .ok (.iload_n 3, 1) := by decide +kernel
theorem dX12_in_66 : decode cX12_in 66 = .ok (.ireturn, 1) := by decide +kernel
theorem dX12_in_67 : decode cX12_in 67 = .ok (.iinc 3 1, 3) := by decide +kernel
theorem dX12_in_70 : decode cX12_in 70 = .ok (.goto (-49), 3) := by decide +kernel
theorem dX12_in_73 : decode cX12_in 73 = .ok (.iinc 2 1, 3) := by decide +kernel
theorem dX12_in_76 : decode cX12_in 76 = .ok (.goto (-74), 3) := by decide +kernel
theorem dX12_in_79 : decode cX12_in 79 = .ok (.iconst (-1), 1) := by decide +kernel
theorem dX12_in_80 : decode cX12_in 80 = .ok (.ireturn, 1) := by decide +kernel
theorem dX12_partWord_0 : decode cX12_partWord 0 = .ok (.aload_n 0, 1) := by decide +kernel
theorem dX12_partWord_1 : decode cX12_partWord 1 = .ok (.aload_n 0, 1) := by decide +kernel
theorem dX12_partWord_2 : decode cX12_partWord 2 = .ok (.getfield 51, 3) := by decide +kernel
theorem dX12_partWord_5 : decode cX12_partWord 5 = .ok (.bipush 8, 2) := by decide +kernel
theorem dX12_partWord_7 : decode cX12_partWord 7 = .ok (.iload_n 1, 1) := by decide +kernel
theorem dX12_partWord_8 : decode cX12_partWord 8 = .ok (.imul, 1) := by decide +kernel
theorem dX12_partWord_9 : decode cX12_partWord 9 = .ok (.iload_n 2, 1) := by decide +kernel
theorem dX12_partWord_10 : decode cX12_partWord 10 = .ok (.iadd, 1) := by decide +kernel
theorem dX12_partWord_11 : decode cX12_partWord 11 = .ok (.iaload, 1) := by decide +kernel
theorem dX12_partWord_12 : decode cX12_partWord 12 = .ok (.putfield 107, 3) := by decide +kernel
theorem dX12_partWord_15 : decode cX12_partWord 15 = .ok (.iconst 0, 1) := by decide +kernel
theorem dX12_partWord_16 : decode cX12_partWord 16 = .ok (.istore_n 3, 1) := by decide +kernel
theorem dX12_partWord_17 : decode cX12_partWord 17 = .ok (.iload_n 3, 1) := by decide +kernel
theorem dX12_partWord_18 : decode cX12_partWord 18 = .ok (.aload_n 0, 1) := by decide +kernel
theorem dX12_partWord_19 : decode cX12_partWord 19 = .ok (.getfield 107, 3) := by decide +kernel
theorem dX12_partWord_22 : decode cX12_partWord 22 = .ok (.if_icmp .ge 31, 3) := by decide +kernel
theorem dX12_partWord_25 : decode cX12_partWord 25 = .ok (.aload_n 0, 1) := by decide +kernel
theorem dX12_partWord_26 : decode cX12_partWord 26 = .ok (.getfield 86, 3) := by decide +kernel
theorem dX12_partWord_29 : decode cX12_partWord 29 = .ok (.iload_n 3, 1) := by decide +kernel
theorem dX12_partWord_30 : decode cX12_partWord 30 = .ok (.aload_n 0, 1) := by decide +kernel
theorem dX12_partWord_31 : decode cX12_partWord 31 = .ok (.getfield 54, 3) := by decide +kernel
theorem dX12_partWord_34 : decode cX12_partWord 34 = .ok (.bipush 16, 2) := by decide +kernel
theorem dX12_partWord_36 : decode cX12_partWord 36 = .ok (.bipush 8, 2) := by decide +kernel
theorem dX12_partWord_38 : decode cX12_partWord 38 = .ok (.iload_n 1, 1) := by decide +kernel
theorem dX12_partWord_39 : decode cX12_partWord 39 = .ok (.imul, 1) := by decide +kernel
theorem dX12_partWord_40 : decode cX12_partWord 40 = .ok (.iload_n 2, 1) := by decide +kernel
theorem dX12_partWord_41 : decode cX12_partWord 41 = .ok (.iadd, 1) := by decide +kernel
theorem dX12_partWord_42 : decode cX12_partWord 42 = .ok (.imul, 1) := by decide +kernel
theorem dX12_partWord_43 : decode cX12_partWord 43 = .ok (.iload_n 3, 1) := by decide +kernel
theorem dX12_partWord_44 : decode cX12_partWord 44 = .ok (.iadd, 1) := by decide +kernel
theorem dX12_partWord_45 : decode cX12_partWord 45 = .ok (.iaload, 1) := by decide +kernel
theorem dX12_partWord_46 : decode cX12_partWord 46 = .ok (.iastore, 1) := by decide +kernel
theorem dX12_partWord_47 : decode cX12_partWord 47 = .ok (.iinc 3 1, 3) := by decide +kernel
theorem dX12_partWord_50 : decode cX12_partWord 50 = .ok (.goto (-33), 3) := by decide +kernel
theorem dX12_partWord_53 : decode cX12_partWord 53 = .ok (.return_, 1) := by decide +kernel
theorem dX12_isInside_0 : decode cX12_isInside 0 = .ok (.iload_n 1, 1) := by decide +kernel
theorem dX12_isInside_1 : decode cX12_isInside 1 = .ok (.istore_n 2, 1) := by decide +kernel
theorem dX12_isInside_2 : decode cX12_isInside 2 = .ok (.iload_n 2, 1) := by decide +kernel
theorem dX12_isInside_3 : decode cX12_isInside 3 = .ok (.iconst 1, 1) := by decide +kernel
theorem dX12_isInside_4 : decode cX12_isInside 4 = .ok (.if_icmp .le 13, 3) := by decide +kernel
theorem dX12_isInside_7 : decode cX12_isInside 7 = .ok (.aload_n 0, 1) := by decide +kernel
theorem dX12_isInside_8 : decode cX12_isInside 8 = .ok (.getfield 26, 3) := by decide +kernel
theorem dX12_isInside_11 : decode cX12_isInside 11 = .ok (.iload_n 2, 1) := by decide +kernel
theorem dX12_isInside_12 : decode cX12_isInside 12 = .ok (.iaload, 1) := by decide +kernel
theorem dX12_isInside_13 : decode cX12_isInside 13 = .ok (.istore_n 2, 1) := by decide +kernel
theorem dX12_isInside_14 : decode cX12_isInside 14 = .ok (.goto (-12), 3) := by decide +kernel
theorem dX12_isInside_17 : decode cX12_isInside 17 = .ok (.iload_n 2, 1) := by decide +kernel
theorem dX12_isInside_18 : decode cX12_isInside 18 = .ok (.iconst 1, 1) := by decide +kernel
theorem dX12_isInside_19 : decode cX12_isInside 19 = .ok (.if_icmp .ne 7, 3) := by decide +kernel
theorem dX12_isInside_22 : decode cX12_isInside 22 = .ok (.iconst 1, 1) := by decide +kernel
theorem dX12_isInside_23 : decode cX12_isInside 23 = .ok (.goto 4, 3) := by decide +kernel
theorem dX12_isInside_26 : decode cX12_isInside 26 = .ok (.iconst 0, 1) := by decide +kernel
theorem dX12_isInside_27 : decode cX12_isInside 27 = .ok (.ireturn, 1) := by decide +kernel
theorem dX12_nextWord_0 : decode cX12_nextWord 0 = .ok (.aload_n 0, 1) := by decide +kernel
theorem dX12_nextWord_1 : decode cX12_nextWord 1 = .ok (.getfield 159, 3) := by decide +kernel
theorem dX12_nextWord_4 : decode cX12_nextWord 4 = .ok (.ifCond .le 161, 3) := by decide +kernel
theorem dX12_nextWord_7 : decode cX12_nextWord 7 = .ok (.aload_n 0, 1) := by decide +kernel
theorem dX12_nextWord_8 : decode cX12_nextWord 8 = .ok (.getfield 89, 3) := by decide +kernel
theorem dX12_nextWord_11 : decode cX12_nextWord 11 = .ok (.aload_n 0, 1) := by decide +kernel
theorem dX12_nextWord_12 : decode cX12_nextWord 12 = .ok (.getfield 159, 3) := by decide +kernel
theorem dX12_nextWord_15 : decode cX12_nextWord 15 = .ok (.iconst 1, 1) := by decide +kernel
theorem dX12_nextWord_16 : decode cX12_nextWord 16 = .ok (.isub, 1) := by decide +kernel
theorem dX12_nextWord_17 : decode cX12_nextWord 17 = .ok (.iaload, 1) := by decide +kernel
theorem dX12_nextWord_18 : decode cX12_nextWord 18 = .ok (.istore_n 1, 1) := by decide +kernel
theorem dX12_nextWord_19 : decode cX12_nextWord 19 = .ok (.aload_n 0, 1) := by decide +kernel
theorem dX12_nextWord_20 : decode cX12_nextWord 20 = .ok (.getfield 92, 3) := by decide +kernel
theorem dX12_nextWord_23 : decode cX12_nextWord 23 = .ok (.aload_n 0, 1) := by decide +kernel
theorem dX12_nextWord_24 : decode cX12_nextWord 24 = .ok (.getfield 159, 3) := by decide +kernel
theorem dX12_nextWord_27 : decode cX12_nextWord 27 = .ok (.iconst 1, 1) := by decide +kernel
theorem dX12_nextWord_28 : decode cX12_nextWord 28 = .ok (.isub, 1) := by decide +kernel
theorem dX12_nextWord_29 : decode cX12_nextWord 29 = .ok (.iaload, 1) := by decide +kernel
theorem dX12_nextWord_30 : decode cX12_nextWord 30 = .ok (.istore_n 2, 1) := by decide +kernel
theorem dX12_nextWord_31 : decode cX12_nextWord 31 = .ok (.aload_n 0, 1) := by decide +kernel
theorem dX12_nextWord_32 : decode cX12_nextWord 32 = .ok (.iconst 0, 1) := by decide +kernel
theorem dX12_nextWord_33 : decode cX12_nextWord 33 = .ok (.putfield 107, 3) := by decide +kernel
theorem dX12_nextWord_36 : decode cX12_nextWord 36 = .ok (.iload_n 2, 1) := by decide +kernel
theorem dX12_nextWord_37 : decode cX12_nextWord 37 = .ok (.aload_n 0, 1) := by decide +kernel
theorem dX12_nextWord_38 : decode cX12_nextWord 38 = .ok (.getfield 57, 3) := by decide +kernel
theorem dX12_nextWord_41 : decode cX12_nextWord 41 = .ok (.iload_n 1, 1) := by decide +kernel
theorem dX12_nextWord_42 : decode cX12_nextWord 42 = .ok (.iaload, 1) := by decide +kernel
theorem dX12_nextWord_43 : decode cX12_nextWord 43 = .ok (.if_icmp .ge 57, 3) := by decide +kernel
theorem dX12_nextWord_46 : decode cX12_nextWord 46 = .ok (.aload_n 0, 1) := by decide +kernel
theorem dX12_nextWord_47 : decode cX12_nextWord 47 = .ok (.aload_n 0, 1) := by decide +kernel
theorem dX12_nextWord_48 : decode cX12_nextWord 48 = .ok (.getfield 60, 3) := by decide +kernel
theorem dX12_nextWord_51 : decode cX12_nextWord 51 = .ok (.bipush 40, 2) := by decide +kernel
theorem dX12_nextWord_53 : decode cX12_nextWord 53 = .ok (.iload_n 1, 1) := by decide +kernel
theorem dX12_nextWord_54 : decode cX12_nextWord 54 = .ok (.imul, 1) := by decide +kernel
theorem dX12_nextWord_55 : decode cX12_nextWord 55 = .ok (.iload_n 2, 1) := by decide +kernel
theorem dX12_nextWord_56 : decode cX12_nextWord 56 = .ok (.iadd, 1) := by decide +kernel
theorem dX12_nextWord_57 : decode cX12_nextWord 57 = .ok (.iaload, 1) := by decide +kernel
theorem dX12_nextWord_58 : decode cX12_nextWord 58 = .ok (.invokevirtual 125, 3) := by decide +kernel
theorem dX12_nextWord_61 : decode cX12_nextWord 61 = .ok (.ifCond .ne 39, 3) := by decide +kernel
theorem dX12_nextWord_64 : decode cX12_nextWord 64 = .ok (.aload_n 0, 1) := by decide +kernel
theorem dX12_nextWord_65 : decode cX12_nextWord 65 = .ok (.getfield 86, 3) := by decide +kernel
theorem dX12_nextWord_68 : decode cX12_nextWord 68 = .ok (.aload_n 0, 1) := by decide +kernel
theorem dX12_nextWord_69 : decode cX12_nextWord 69 = .ok (.getfield 107, 3) := by decide +kernel
theorem dX12_nextWord_72 : decode cX12_nextWord 72 = .ok (.aload_n 0, 1) := by decide +kernel
theorem dX12_nextWord_73 : decode cX12_nextWord 73 = .ok (.getfield 60, 3) := by decide +kernel
theorem dX12_nextWord_76 : decode cX12_nextWord 76 = .ok (.bipush 40, 2) := by decide +kernel
theorem dX12_nextWord_78 : decode cX12_nextWord 78 = .ok (.iload_n 1, 1) := by decide +kernel
theorem dX12_nextWord_79 : decode cX12_nextWord 79 = .ok (.imul, 1) := by decide +kernel
theorem dX12_nextWord_80 : decode cX12_nextWord 80 = .ok (.iload_n 2, 1) := by decide +kernel
theorem dX12_nextWord_81 : decode cX12_nextWord 81 = .ok (.iadd, 1) := by decide +kernel
theorem dX12_nextWord_82 : decode cX12_nextWord 82 = .ok (.iaload, 1) := by decide +kernel
theorem dX12_nextWord_83 : decode cX12_nextWord 83 = .ok (.iastore, 1) := by decide +kernel
theorem dX12_nextWord_84 : decode cX12_nextWord 84 = .ok (.aload_n 0, 1) := by decide +kernel
theorem dX12_nextWord_85 : decode cX12_nextWord 85 = .ok (.dup, 1) := by decide +kernel
theorem dX12_nextWord_86 : decode cX12_nextWord 86 = .ok (.getfield 107, 3) := by decide +kernel
theorem dX12_nextWord_89 : decode cX12_nextWord 89 = .ok (.iconst 1, 1) := by decide +kernel
theorem dX12_nextWord_90 : decode cX12_nextWord 90 = .ok (.iadd, 1) := by decide +kernel
theorem dX12_nextWord_91 : decode cX12_nextWord 91 = .ok (.putfield 107, 3) := by decide +kernel
theorem dX12_nextWord_94 : decode cX12_nextWord 94 = .ok (.iinc 2 1, 3) := by decide +kernel
theorem dX12_nextWord_97 : decode cX12_nextWord 97 = .ok (.goto (-61), 3) := by decide +kernel
theorem dX12_nextWord_100 : decode cX12_nextWord 100 = .ok (.aload_n 0, 1) := by decide +kernel
theorem dX12_nextWord_101 : decode cX12_nextWord 101 = .ok (.getfield 92, 3) := by decide +kernel
theorem dX12_nextWord_104 : decode cX12_nextWord 104 = .ok (.aload_n 0, 1) := by decide +kernel
theorem dX12_nextWord_105 : decode cX12_nextWord 105 = .ok (.getfield 159, 3) := by decide +kernel
theorem dX12_nextWord_108 : decode cX12_nextWord 108 = .ok (.iconst 1, 1) := by decide +kernel
theorem dX12_nextWord_109 : decode cX12_nextWord 109 = .ok (.isub, 1) := by decide +kernel
theorem dX12_nextWord_110 : decode cX12_nextWord 110 = .ok (.iload_n 2, 1) := by decide +kernel
theorem dX12_nextWord_111 : decode cX12_nextWord 111 = .ok (.iconst 1, 1) := by decide +kernel
theorem dX12_nextWord_112 : decode cX12_nextWord 112 = .ok (.iadd, 1) := by decide +kernel
theorem dX12_nextWord_113 : decode cX12_nextWord 113 = .ok (.iastore, 1) := by decide +kernel
theorem dX12_nextWord_114 : decode cX12_nextWord 114 = .ok (.iload_n 2, 1) := by decide +kernel
theorem dX12_nextWord_115 : decode cX12_nextWord 115 = .ok (.aload_n 0, 1) := by decide +kernel
theorem dX12_nextWord_116 : decode cX12_nextWord 116 = .ok (.getfield 57, 3) := by decide +kernel
theorem dX12_nextWord_119 : decode cX12_nextWord 119 = .ok (.iload_n 1, 1) := by decide +kernel
theorem dX12_nextWord_120 : decode cX12_nextWord 120 = .ok (.iaload, 1) := by decide +kernel
theorem dX12_nextWord_121 : decode cX12_nextWord 121 = .ok (.if_icmp .lt 13, 3) := by decide +kernel
theorem dX12_nextWord_124 : decode cX12_nextWord 124 = .ok (.aload_n 0, 1) := by decide +kernel
theorem dX12_nextWord_125 : decode cX12_nextWord 125 = .ok (.dup, 1) := by decide +kernel
theorem dX12_nextWord_126 : decode cX12_nextWord 126 = .ok (.getfield 159, 3) := by decide +kernel
theorem dX12_nextWord_129 : decode cX12_nextWord 129 = .ok (.iconst 1, 1) := by decide +kernel
theorem dX12_nextWord_130 : decode cX12_nextWord 130 = .ok (.isub, 1) := by decide +kernel
theorem dX12_nextWord_131 : decode cX12_nextWord 131 = .ok (.putfield 159, 3) := by decide +kernel
theorem dX12_nextWord_134 : decode cX12_nextWord 134 = .ok (.aload_n 0, 1) := by decide +kernel
theorem dX12_nextWord_135 : decode cX12_nextWord 135 = .ok (.getfield 107, 3) := by decide +kernel
theorem dX12_nextWord_138 : decode cX12_nextWord 138 = .ok (.ifCond .le 24, 3) := by decide +kernel
theorem dX12_nextWord_141 : decode cX12_nextWord 141 = .ok (.aload_n 0, 1) := by decide +kernel
theorem dX12_nextWord_142 : decode cX12_nextWord 142 = .ok (.getfield 107, 3) := by decide +kernel
theorem dX12_nextWord_145 : decode cX12_nextWord 145 = .ok (.iconst 1, 1) := by decide +kernel
theorem dX12_nextWord_146 : decode cX12_nextWord 146 = .ok (.if_icmp .ne 14, 3) := by decide +kernel
theorem dX12_nextWord_149 : decode cX12_nextWord 149 = .ok (.aload_n 0, 1) := by decide +kernel
theorem dX12_nextWord_150 : decode cX12_nextWord 150 = .ok (.getfield 86, 3) := by decide +kernel
theorem dX12_nextWord_153 : decode cX12_nextWord 153 = .ok (.iconst 0, 1) := by decide +kernel
theorem dX12_nextWord_154 : decode cX12_nextWord 154 = .ok (.iaload, 1) := by decide +kernel
theorem dX12_nextWord_155 : decode cX12_nextWord 155 = .ok (.bipush 46, 2) := by decide +kernel
theorem dX12_nextWord_157 : decode cX12_nextWord 157 = .ok (.if_icmp .eq 5, 3) := by decide +kernel
theorem dX12_nextWord_160 : decode cX12_nextWord 160 = .ok (.iconst 1, 1) := by decide +kernel
theorem dX12_nextWord_161 : decode cX12_nextWord 161 = .ok (.ireturn, 1) := by decide +kernel
theorem dX12_nextWord_162 : decode cX12_nextWord 162 = .ok (.goto (-162), 3) := by decide +kernel
theorem dX12_nextWord_165 : decode cX12_nextWord 165 = .ok (.iconst 0, 1) := by decide +kernel
theorem dX12_nextWord_166 : decode cX12_nextWord 166 = .ok (.ireturn, 1) := by decide +kernel
theorem dX12_isLeft_0 : decode cX12_isLeft 0 = .ok (.iconst 0, 1) := by decide +kernel
theorem dX12_isLeft_1 : decode cX12_isLeft 1 = .ok (.istore_n 1, 1) := by decide +kernel
theorem dX12_isLeft_2 : decode cX12_isLeft 2 = .ok (.iload_n 1, 1) := by decide +kernel
theorem dX12_isLeft_3 : decode cX12_isLeft 3 = .ok (.aload_n 0, 1) := by decide +kernel
theorem dX12_isLeft_4 : decode cX12_isLeft 4 = .ok (.getfield 159, 3) := by decide +kernel
theorem dX12_isLeft_7 : decode cX12_isLeft 7 = .ok (.if_icmp .ge 128, 3) := by decide +kernel
theorem dX12_isLeft_10 : decode cX12_isLeft 10 = .ok (.aload_n 0, 1) := by decide +kernel
theorem dX12_isLeft_11 : decode cX12_isLeft 11 = .ok (.getfield 89, 3) := by decide +kernel
theorem dX12_isLeft_14 : decode cX12_isLeft 14 = .ok (.iload_n 1, 1) := by decide +kernel
theorem dX12_isLeft_15 : decode cX12_isLeft 15 = .ok (.iaload, 1) := by decide +kernel
theorem dX12_isLeft_16 : decode cX12_isLeft 16 = .ok (.istore_n 2, 1) := by decide +kernel
theorem dX12_isLeft_17 : decode cX12_isLeft 17 = .ok (.iconst 0, 1) := by decide +kernel
theorem dX12_isLeft_18 : decode cX12_isLeft 18 = .ok (.istore_n 3, 1) := by decide +kernel
theorem dX12_isLeft_19 : decode cX12_isLeft 19 = .ok (.iconst 0, 1) := by decide +kernel
theorem dX12_isLeft_20 : decode cX12_isLeft 20 = .ok (.istore 4, 2) := by decide +kernel
theorem dX12_isLeft_22 : decode cX12_isLeft 22 = .ok (.aload_n 0, 1) := by decide +kernel
theorem dX12_isLeft_23 : decode cX12_isLeft 23 = .ok (.getfield 92, 3) := by decide +kernel
theorem dX12_isLeft_26 : decode cX12_isLeft 26 = .ok (.iload_n 1, 1) := by decide +kernel
theorem dX12_isLeft_27 : decode cX12_isLeft 27 = .ok (.iaload, 1) := by decide +kernel
theorem dX12_isLeft_28 : decode cX12_isLeft 28 = .ok (.istore 5, 2) := by decide +kernel
theorem dX12_isLeft_30 : decode cX12_isLeft 30 = .ok (.iload 5, 2) := by decide +kernel
theorem dX12_isLeft_32 : decode cX12_isLeft 32 = .ok (.aload_n 0, 1) := by decide +kernel
theorem dX12_isLeft_33 : decode cX12_isLeft 33 = .ok (.getfield 57, 3) := by decide +kernel
theorem dX12_isLeft_36 : decode cX12_isLeft 36 = .ok (.iload_n 2, 1) := by decide +kernel
theorem dX12_isLeft_37 : decode cX12_isLeft 37 = .ok (.iaload, 1) := by decide +kernel
theorem dX12_isLeft_38 : decode cX12_isLeft 38 = .ok (.if_icmp .gt 91, 3) := by decide +kernel
theorem dX12_isLeft_41 : decode cX12_isLeft 41 = .ok (.iload 5, 2) := by decide +kernel
theorem dX12_isLeft_43 : decode cX12_isLeft 43 = .ok (.aload_n 0, 1) := by decide +kernel
theorem dX12_isLeft_44 : decode cX12_isLeft 44 = .ok (.getfield 57, 3) := by decide +kernel
theorem dX12_isLeft_47 : decode cX12_isLeft 47 = .ok (.iload_n 2, 1) := by decide +kernel
theorem dX12_isLeft_48 : decode cX12_isLeft 48 = .ok (.iaload, 1) := by decide +kernel
theorem dX12_isLeft_49 : decode cX12_isLeft 49 = .ok (.if_icmp .eq 22, 3) := by decide +kernel
theorem dX12_isLeft_52 : decode cX12_isLeft 52 = .ok (.aload_n 0, 1) := by decide +kernel
theorem dX12_isLeft_53 : decode cX12_isLeft 53 = .ok (.aload_n 0, 1) := by decide +kernel
theorem dX12_isLeft_54 : decode cX12_isLeft 54 = .ok (.getfield 60, 3) := by decide +kernel
theorem dX12_isLeft_57 : decode cX12_isLeft 57 = .ok (.bipush 40, 2) := by decide +kernel
theorem dX12_isLeft_59 : decode cX12_isLeft 59 = .ok (.iload_n 2, 1) := by decide +kernel
theorem dX12_isLeft_60 : decode cX12_isLeft 60 = .ok (.imul, 1) := by decide +kernel
theorem dX12_isLeft_61 : decode cX12_isLeft 61 = .ok (.iload 5, 2) := by decide +kernel
theorem dX12_isLeft_63 : decode cX12_isLeft 63 = .ok (.iadd, 1) := by decide +kernel
theorem dX12_isLeft_64 : decode cX12_isLeft 64 = .ok (.iaload, 1) := by decide +kernel
theorem dX12_isLeft_65 : decode cX12_isLeft 65 = .ok (.invokevirtual 125, 3) := by decide +kernel
theorem dX12_isLeft_68 : decode cX12_isLeft 68 = .ok (.ifCond .eq 28, 3) := by decide +kernel
theorem dX12_isLeft_71 : decode cX12_isLeft 71 = .ok (.iload_n 3, 1) := by decide +kernel
theorem dX12_isLeft_72 : decode cX12_isLeft 72 = .ok (.iconst 1, 1) := by decide +kernel
theorem dX12_isLeft_73 : decode cX12_isLeft 73 = .ok (.if_icmp .gt 13, 3) := by decide +kernel
theorem dX12_isLeft_76 : decode cX12_isLeft 76 = .ok (.iload_n 3, 1) := by decide +kernel
theorem dX12_isLeft_77 : decode cX12_isLeft 77 = .ok (.iconst 1, 1) := by decide +kernel
theorem dX12_isLeft_78 : decode cX12_isLeft 78 = .ok (.if_icmp .ne 10, 3) := by decide +kernel
theorem dX12_isLeft_81 : decode cX12_isLeft 81 = .ok (.iload 4, 2) := by decide +kernel
theorem dX12_isLeft_83 : decode cX12_isLeft 83 = .ok (.ifCond .eq 5, 3) := by decide +kernel
theorem dX12_isLeft_86 : decode cX12_isLeft 86 = .ok (.iconst 1, 1) := by decide +kernel
theorem dX12_isLeft_87 : decode cX12_isLeft 87 = .ok (.ireturn, 1) := by decide +kernel
theorem dX12_isLeft_88 : decode cX12_isLeft 88 = .ok (.iconst 0, 1) := by decide +kernel
theorem dX12_isLeft_89 : decode cX12_isLeft 89 = .ok (.istore_n 3, 1) := by decide +kernel
theorem dX12_isLeft_90 : decode cX12_isLeft 90 = .ok (.iconst 0, 1) := by decide +kernel
theorem dX12_isLeft_91 : decode cX12_isLeft 91 = .ok (.istore 4, 2) := by decide +kernel
theorem dX12_isLeft_93 : decode cX12_isLeft 93 = .ok (.goto 30, 3) := by decide +kernel
theorem dX12_isLeft_96 : decode cX12_isLeft 96 = .ok (.iinc 3 1, 3) := by decide +kernel
theorem dX12_isLeft_99 : decode cX12_isLeft 99 = .ok (.aload_n 0, 1) := by decide +kernel
theorem dX12_isLeft_100 : decode cX12_isLeft 100 = .ok (.getfield 60, 3) := by decide +kernel
theorem dX12_isLeft_103 : decode cX12_isLeft 103 = .ok (.bipush 40, 2) := by decide +kernel
theorem dX12_isLeft_105 : decode cX12_isLeft 105 = .ok (.iload_n 2, 1) := by decide +kernel
theorem dX12_isLeft_106 : decode cX12_isLeft 106 = .ok (.imul, 1) := by decide +kernel
theorem dX12_isLeft_107 : decode cX12_isLeft 107 = .ok (.iload 5, 2) := by decide +kernel
theorem dX12_isLeft_109 : decode cX12_isLeft 109 = .ok (.iadd, 1) := by decide +kernel
theorem dX12_isLeft_110 : decode cX12_isLeft 110 = .ok (.iaload, 1) := by decide +kernel
theorem dX12_isLeft_111 : decode cX12_isLeft 111 = .ok (.bipush 46, 2) := by decide +kernel
theorem dX12_isLeft_113 : decode cX12_isLeft 113 = .ok (.if_icmp .eq 7, 3) := by decide +kernel
theorem dX12_isLeft_116 : decode cX12_isLeft 116 = .ok (.iconst 1, 1) := by decide +kernel
theorem dX12_isLeft_117 : decode cX12_isLeft 117 = .ok (.goto 4, 3) := by decide +kernel
theorem dX12_isLeft_120 : decode cX12_isLeft 120 = .ok (.iconst 0, 1) := by decide +kernel
theorem dX12_isLeft_121 : decode cX12_isLeft 121 = .ok (.istore 4, 2) := by decide +kernel
theorem dX12_isLeft_123 : decode cX12_isLeft 123 = .ok (.iinc 5 1, 3) := by decide +kernel
theorem dX12_isLeft_126 : decode cX12_isLeft 126 = .ok (.goto (-96), 3) := by decide +kernel
theorem dX12_isLeft_129 : decode cX12_isLeft 129 = .ok (.iinc 1 1, 3) := by decide +kernel
theorem dX12_isLeft_132 : decode cX12_isLeft 132 = .ok (.goto (-130), 3) := by decide +kernel
theorem dX12_isLeft_135 : decode cX12_isLeft 135 = .ok (.iconst 0, 1) := by decide +kernel
theorem dX12_isLeft_136 : decode cX12_isLeft 136 = .ok (.ireturn, 1) := by decide +kernel
theorem dX12_startOf_0 : decode cX12_startOf 0 = .ok (.aload_n 0, 1) := by decide +kernel
theorem dX12_startOf_1 : decode cX12_startOf 1 = .ok (.aload_n 0, 1) := by decide +kernel
theorem dX12_startOf_2 : decode cX12_startOf 2 = .ok (.getfield 60, 3) := by decide +kernel
theorem dX12_startOf_5 : decode cX12_startOf 5 = .ok (.bipush 40, 2) := by decide +kernel
theorem dX12_startOf_7 : decode cX12_startOf 7 = .ok (.iload_n 1, 1) := by decide +kernel
theorem dX12_startOf_8 : decode cX12_startOf 8 = .ok (.imul, 1) := by decide +kernel
theorem dX12_startOf_9 : decode cX12_startOf 9 = .ok (.iaload, 1) := by decide +kernel
theorem dX12_startOf_10 : decode cX12_startOf 10 = .ok (.invokevirtual 125, 3) := by decide +kernel
theorem dX12_startOf_13 : decode cX12_startOf 13 = .ok (.ifCond .eq 7, 3) := by decide +kernel
theorem dX12_startOf_16 : decode cX12_startOf 16 = .ok (.iconst 0, 1) := by decide +kernel
theorem dX12_startOf_17 : decode cX12_startOf 17 = .ok (.goto 4, 3) := by decide +kernel
theorem dX12_startOf_20 : decode cX12_startOf 20 = .ok (.iload_n 2, 1) := by decide +kernel
theorem dX12_startOf_21 : decode cX12_startOf 21 = .ok (.ireturn, 1) := by decide +kernel
theorem dX12_leads_0 : decode cX12_leads 0 = .ok (.aload_n 0, 1) := by decide +kernel
theorem dX12_leads_1 : decode cX12_leads 1 = .ok (.getfield 89, 3) := by decide +kernel
theorem dX12_leads_4 : decode cX12_leads 4 = .ok (.iconst 0, 1) := by decide +kernel
theorem dX12_leads_5 : decode cX12_leads 5 = .ok (.iload_n 1, 1) := by decide +kernel
theorem dX12_leads_6 : decode cX12_leads 6 = .ok (.iastore, 1) := by decide +kernel
theorem dX12_leads_7 : decode cX12_leads 7 = .ok (.aload_n 0, 1) := by decide +kernel
theorem dX12_leads_8 : decode cX12_leads 8 = .ok (.getfield 92, 3) := by decide +kernel
theorem dX12_leads_11 : decode cX12_leads 11 = .ok (.iconst 0, 1) := by decide +kernel
theorem dX12_leads_12 : decode cX12_leads 12 = .ok (.iconst 0, 1) := by decide +kernel
theorem dX12_leads_13 : decode cX12_leads 13 = .ok (.iastore, 1) := by decide +kernel
theorem dX12_leads_14 : decode cX12_leads 14 = .ok (.aload_n 0, 1) := by decide +kernel
theorem dX12_leads_15 : decode cX12_leads 15 = .ok (.iconst 1, 1) := by decide +kernel
theorem dX12_leads_16 : decode cX12_leads 16 = .ok (.putfield 159, 3) := by decide +kernel
theorem dX12_leads_19 : decode cX12_leads 19 = .ok (.aload_n 0, 1) := by decide +kernel
theorem dX12_leads_20 : decode cX12_leads 20 = .ok (.iload_n 1, 1) := by decide +kernel
theorem dX12_leads_21 : decode cX12_leads 21 = .ok (.iload_n 2, 1) := by decide +kernel
theorem dX12_leads_22 : decode cX12_leads 22 = .ok (.invokevirtual 162, 3) := by decide +kernel
theorem dX12_leads_25 : decode cX12_leads 25 = .ok (.istore 4, 2) := by decide +kernel
theorem dX12_leads_27 : decode cX12_leads 27 = .ok (.iload 4, 2) := by decide +kernel
theorem dX12_leads_29 : decode cX12_leads 29 = .ok (.iload_n 2, 1) := by decide +kernel
theorem dX12_leads_30 : decode cX12_leads 30 = .ok (.if_icmp .ne 7, 3) := by decide +kernel
theorem dX12_leads_33 : decode cX12_leads 33 = .ok (.iload_n 3, 1) := by decide +kernel
theorem dX12_leads_34 : decode cX12_leads 34 = .ok (.goto 4, 3) := by decide +kernel
theorem dX12_leads_37 : decode cX12_leads 37 = .ok (.iconst 0, 1) := by decide +kernel
theorem dX12_leads_38 : decode cX12_leads 38 = .ok (.istore 5, 2) := by decide +kernel
theorem dX12_leads_40 : decode cX12_leads 40 = .ok (.aload_n 0, 1) := by decide +kernel
theorem dX12_leads_41 : decode cX12_leads 41 = .ok (.aload_n 0, 1) := by decide +kernel
theorem dX12_leads_42 : decode cX12_leads 42 = .ok (.getfield 60, 3) := by decide +kernel
theorem dX12_leads_45 : decode cX12_leads 45 = .ok (.bipush 40, 2) := by decide +kernel
theorem dX12_leads_47 : decode cX12_leads 47 = .ok (.iload_n 1, 1) := by decide +kernel
theorem dX12_leads_48 : decode cX12_leads 48 = .ok (.imul, 1) := by decide +kernel
theorem dX12_leads_49 : decode cX12_leads 49 = .ok (.iaload, 1) := by decide +kernel
theorem dX12_leads_50 : decode cX12_leads 50 = .ok (.invokevirtual 125, 3) := by decide +kernel
theorem dX12_leads_53 : decode cX12_leads 53 = .ok (.ifCond .eq 6, 3) := by decide +kernel
theorem dX12_leads_56 : decode cX12_leads 56 = .ok (.iconst 0, 1) := by decide +kernel
theorem dX12_leads_57 : decode cX12_leads 57 = .ok (.istore 5, 2) := by decide +kernel
theorem dX12_leads_59 : decode cX12_leads 59 = .ok (.iconst 0, 1) := by decide +kernel
theorem dX12_leads_60 : decode cX12_leads 60 = .ok (.istore 6, 2) := by decide +kernel
theorem dX12_leads_62 : decode cX12_leads 62 = .ok (.aload_n 0, 1) := by decide +kernel
theorem dX12_leads_63 : decode cX12_leads 63 = .ok (.iload 4, 2) := by decide +kernel
theorem dX12_leads_65 : decode cX12_leads 65 = .ok (.invokevirtual 165, 3) := by decide +kernel
theorem dX12_leads_68 : decode cX12_leads 68 = .ok (.ifCond .ne 5, 3) := by decide +kernel
theorem dX12_leads_71 : decode cX12_leads 71 = .ok (.iconst (-1), 1) := by decide +kernel
theorem dX12_leads_72 : decode cX12_leads 72 = .ok (.ireturn, 1) := by decide +kernel
theorem dX12_leads_73 : decode cX12_leads 73 = .ok (.aload_n 0, 1) := by decide +kernel
theorem dX12_leads_74 : decode cX12_leads 74 = .ok (.invokevirtual 168, 3) := by decide +kernel
theorem dX12_leads_77 : decode cX12_leads 77 = .ok (.ifCond .eq 198, 3) := by decide +kernel
theorem dX12_leads_80 : decode cX12_leads 80 = .ok (.iload 5, 2) := by decide +kernel
theorem dX12_leads_82 : decode cX12_leads 82 = .ok (.ifCond .le 23, 3) := by decide +kernel
theorem dX12_leads_85 : decode cX12_leads 85 = .ok (.iload 5, 2) := by decide +kernel
theorem dX12_leads_87 : decode cX12_leads 87 = .ok (.aload_n 0, 1) := by decide +kernel
theorem dX12_leads_88 : decode cX12_leads 88 = .ok (.invokevirtual 139, 3) := by decide +kernel
theorem dX12_leads_91 : decode cX12_leads 91 = .ok (.ifCond .eq 7, 3) := by decide +kernel
theorem dX12_leads_94 : decode cX12_leads 94 = .ok (.iconst (-1), 1) := by decide +kernel
theorem dX12_leads_95 : decode cX12_leads 95 = .ok (.goto 4, 3) := by decide +kernel
theorem dX12_leads_98 : decode cX12_leads 98 = .ok (.iconst 1, 1) := by decide +kernel
theorem dX12_leads_99 : decode cX12_leads 99 = .ok (.iadd, 1) := by decide +kernel
theorem dX12_leads_100 : decode cX12_leads 100 = .ok (.istore 5, 2) := by decide +kernel
theorem dX12_leads_102 : decode cX12_leads 102 = .ok (.goto 162, 3) := by decide +kernel
theorem dX12_leads_105 : decode cX12_leads 105 = .ok (.aload_n 0, 1) := by decide +kernel
theorem dX12_leads_106 : decode cX12_leads 106 = .ok (.invokevirtual 139, 3) := by decide +kernel
theorem dX12_leads_109 : decode cX12_leads 109 = .ok (.ifCond .eq 15, 3) := by decide +kernel
theorem dX12_leads_112 : decode cX12_leads 112 = .ok (.aload_n 0, 1) := by decide +kernel
theorem dX12_leads_113 : decode cX12_leads 113 = .ok (.getfield 26, 3) := by decide +kernel
theorem dX12_leads_116 : decode cX12_leads 116 = .ok (.iload 4, 2) := by decide +kernel
theorem dX12_leads_118 : decode cX12_leads 118 = .ok (.iaload, 1) := by decide +kernel
theorem dX12_leads_119 : decode cX12_leads 119 = .ok (.istore 4, 2) := by decide +kernel
theorem dX12_leads_121 : decode cX12_leads 121 = .ok (.goto 143, 3) := by decide +kernel
theorem dX12_leads_124 : decode cX12_leads 124 = .ok (.aload_n 0, 1) := by decide +kernel
theorem dX12_leads_125 : decode cX12_leads 125 = .ok (.iload 4, 2) := by decide +kernel
theorem dX12_leads_127 : decode cX12_leads 127 = .ok (.invokevirtual 171, 3) := by decide +kernel
theorem dX12_leads_130 : decode cX12_leads 130 = .ok (.istore 7, 2) := by decide +kernel
theorem dX12_leads_132 : decode cX12_leads 132 = .ok (.iload 7, 2) := by decide +kernel
theorem dX12_leads_134 : decode cX12_leads 134 = .ok (.iconst (-1), 1) := by decide +kernel
theorem dX12_leads_135 : decode cX12_leads 135 = .ok (.if_icmp .ne 9, 3) := by decide +kernel
theorem dX12_leads_138 : decode cX12_leads 138 = .ok (.iconst 1, 1) := by decide +kernel
theorem dX12_leads_139 : decode cX12_leads 139 = .ok (.istore 5, 2) := by decide +kernel
theorem dX12_leads_141 : decode cX12_leads 141 = .ok (.goto 123, 3) := by decide +kernel
theorem dX12_leads_144 : decode cX12_leads 144 = .ok (.aload_n 0, 1) := by decide +kernel
theorem dX12_leads_145 : decode cX12_leads 145 = .ok (.getfield 13, 3) := by decide +kernel
theorem dX12_leads_148 : decode cX12_leads 148 = .ok (.iload 7, 2) := by decide +kernel
theorem dX12_leads_150 : decode cX12_leads 150 = .ok (.iaload, 1) := by decide +kernel
theorem dX12_leads_151 : decode cX12_leads 151 = .ok (.ifCond .ne 10, 3) := by decide +kernel
theorem dX12_leads_154 : decode cX12_leads 154 = .ok (.iload 7, 2) := by decide +kernel
theorem dX12_leads_156 : decode cX12_leads 156 = .ok (.istore 4, 2) := by decide +kernel
theorem dX12_leads_158 : decode cX12_leads 158 = .ok (.goto 106, 3) := by decide +kernel
theorem dX12_leads_161 : decode cX12_leads 161 = .ok (.aload_n 0, 1) := by decide +kernel
theorem dX12_leads_162 : decode cX12_leads 162 = .ok (.getfield 13, 3) := by decide +kernel
theorem dX12_leads_165 : decode cX12_leads 165 = .ok (.iload 7, 2) := by decide +kernel
theorem dX12_leads_167 : decode cX12_leads 167 = .ok (.iaload, 1) := by decide +kernel
theorem dX12_leads_168 : decode cX12_leads 168 = .ok (.iconst 2, 1) := by decide +kernel
theorem dX12_leads_169 : decode cX12_leads 169 = .ok (.if_icmp .ne 80, 3) := by decide +kernel
theorem dX12_leads_172 : decode cX12_leads 172 = .ok (.aload_n 0, 1) := by decide +kernel
theorem dX12_leads_173 : decode cX12_leads 173 = .ok (.getfield 20, 3) := by decide +kernel
theorem dX12_leads_176 : decode cX12_leads 176 = .ok (.iload 7, 2) := by decide +kernel
theorem dX12_leads_178 : decode cX12_leads 178 = .ok (.baload, 1) := by decide +kernel
theorem dX12_leads_179 : decode cX12_leads 179 = .ok (.ifCond .ne 70, 3) := by decide +kernel
theorem dX12_leads_182 : decode cX12_leads 182 = .ok (.iload 6, 2) := by decide +kernel
theorem dX12_leads_184 : decode cX12_leads 184 = .ok (.bipush 20, 2) := by decide +kernel
theorem dX12_leads_186 : decode cX12_leads 186 = .ok (.if_icmp .ne 6, 3) := by decide +kernel
theorem dX12_leads_189 : decode cX12_leads 189 = .ok (.bipush (-3), 2) := by decide +kernel
theorem dX12_leads_191 : decode cX12_leads 191 = .ok (.ireturn, 1) := by decide +kernel
theorem dX12_leads_192 : decode cX12_leads 192 = .ok (.iinc 6 1, 3) := by decide +kernel
theorem dX12_leads_195 : decode cX12_leads 195 = .ok (.aload_n 0, 1) := by decide +kernel
theorem dX12_leads_196 : decode cX12_leads 196 = .ok (.getfield 89, 3) := by decide +kernel
theorem dX12_leads_199 : decode cX12_leads 199 = .ok (.aload_n 0, 1) := by decide +kernel
theorem dX12_leads_200 : decode cX12_leads 200 = .ok (.getfield 159, 3) := by decide +kernel
theorem dX12_leads_203 : decode cX12_leads 203 = .ok (.aload_n 0, 1) := by decide +kernel
theorem dX12_leads_204 : decode cX12_leads 204 = .ok (.getfield 29, 3) := by decide +kernel
theorem dX12_leads_207 : decode cX12_leads 207 = .ok (.iload 7, 2) := by decide +kernel
theorem dX12_leads_209 : decode cX12_leads 209 = .ok (.iaload, 1) := by decide +kernel
theorem dX12_leads_210 : decode cX12_leads 210 = .ok (.iastore, 1) := by decide +kernel
theorem dX12_leads_211 : decode cX12_leads 211 = .ok (.aload_n 0, 1) := by decide +kernel
theorem dX12_leads_212 : decode cX12_leads 212 = .ok (.getfield 92, 3) := by decide +kernel
theorem dX12_leads_215 : decode cX12_leads 215 = .ok (.aload_n 0, 1) := by decide +kernel
theorem dX12_leads_216 : decode cX12_leads 216 = .ok (.getfield 159, 3) := by decide +kernel
theorem dX12_leads_219 : decode cX12_leads 219 = .ok (.iconst 0, 1) := by decide +kernel
theorem dX12_leads_220 : decode cX12_leads 220 = .ok (.iastore, 1) := by decide +kernel
theorem dX12_leads_221 : decode cX12_leads 221 = .ok (.aload_n 0, 1) := by decide +kernel
theorem dX12_leads_222 : decode cX12_leads 222 = .ok (.dup, 1) := by decide +kernel
theorem dX12_leads_223 : decode cX12_leads 223 = .ok (.getfield 159, 3) := by decide +kernel
theorem dX12_leads_226 : decode cX12_leads 226 = .ok (.iconst 1, 1) := by decide +kernel
theorem dX12_leads_227 : decode cX12_leads 227 = .ok (.iadd, 1) := by decide +kernel
theorem dX12_leads_228 : decode cX12_leads 228 = .ok (.putfield 159, 3) := by decide +kernel
theorem dX12_leads_231 : decode cX12_leads 231 = .ok (.aload_n 0, 1) := by decide +kernel
theorem dX12_leads_232 : decode cX12_leads 232 = .ok (.aload_n 0, 1) := by decide +kernel
theorem dX12_leads_233 : decode cX12_leads 233 = .ok (.getfield 29, 3) := by decide +kernel
theorem dX12_leads_236 : decode cX12_leads 236 = .ok (.iload 7, 2) := by decide +kernel
theorem dX12_leads_238 : decode cX12_leads 238 = .ok (.iaload, 1) := by decide +kernel
theorem dX12_leads_239 : decode cX12_leads 239 = .ok (.iload 4, 2) := by decide +kernel
theorem dX12_leads_241 : decode cX12_leads 241 = .ok (.invokevirtual 162, 3) := by decide +kernel
theorem dX12_leads_244 : decode cX12_leads 244 = .ok (.istore 4, 2) := by decide +kernel
theorem dX12_leads_246 : decode cX12_leads 246 = .ok (.goto 18, 3) := by decide +kernel
theorem dX12_leads_249 : decode cX12_leads 249 = .ok (.aload_n 0, 1) := by decide +kernel
theorem dX12_leads_250 : decode cX12_leads 250 = .ok (.invokevirtual 174, 3) := by decide +kernel
theorem dX12_leads_253 : decode cX12_leads 253 = .ok (.ifCond .eq 8, 3) := by decide +kernel
theorem dX12_leads_256 : decode cX12_leads 256 = .ok (.bipush (-2), 2) := by decide +kernel
theorem dX12_leads_258 : decode cX12_leads 258 = .ok (.goto 5, 3) := by decide +kernel
theorem dX12_leads_261 : decode cX12_leads 261 = .ok (.iload 7, 2) := by decide +kernel
theorem dX12_leads_263 : decode cX12_leads 263 = .ok (.ireturn, 1) := by decide +kernel
theorem dX12_leads_264 : decode cX12_leads 264 = .ok (.aload_n 0, 1) := by decide +kernel
theorem dX12_leads_265 : decode cX12_leads 265 = .ok (.iload 4, 2) := by decide +kernel
theorem dX12_leads_267 : decode cX12_leads 267 = .ok (.invokevirtual 165, 3) := by decide +kernel
theorem dX12_leads_270 : decode cX12_leads 270 = .ok (.ifCond .ne (-197), 3) := by decide +kernel
theorem dX12_leads_273 : decode cX12_leads 273 = .ok (.iconst (-1), 1) := by decide +kernel
theorem dX12_leads_274 : decode cX12_leads 274 = .ok (.ireturn, 1) := by decide +kernel
theorem dX12_leads_275 : decode cX12_leads 275 = .ok (.iload 5, 2) := by decide +kernel
theorem dX12_leads_277 : decode cX12_leads 277 = .ok (.ifCond .le 8, 3) := by decide +kernel
theorem dX12_leads_280 : decode cX12_leads 280 = .ok (.bipush (-2), 2) := by decide +kernel
theorem dX12_leads_282 : decode cX12_leads 282 = .ok (.goto 5, 3) := by decide +kernel
theorem dX12_leads_285 : decode cX12_leads 285 = .ok (.iload 4, 2) := by decide +kernel
theorem dX12_leads_287 : decode cX12_leads 287 = .ok (.ireturn, 1) := by decide +kernel
theorem dX12_lead_0 : decode cX12_lead 0 = .ok (.iload_n 1, 1) := by decide +kernel
theorem dX12_lead_1 : decode cX12_lead 1 = .ok (.ifCond .lt 20, 3) := by decide +kernel
theorem dX12_lead_4 : decode cX12_lead 4 = .ok (.iload_n 1, 1) := by decide +kernel
theorem dX12_lead_5 : decode cX12_lead 5 = .ok (.aload_n 0, 1) := by decide +kernel
theorem dX12_lead_6 : decode cX12_lead 6 = .ok (.getfield 115, 3) := by decide +kernel
theorem dX12_lead_9 : decode cX12_lead 9 = .ok (.if_icmp .ge 12, 3) := by decide +kernel
theorem dX12_lead_12 : decode cX12_lead 12 = .ok (.aload_n 0, 1) := by decide +kernel
theorem dX12_lead_13 : decode cX12_lead 13 = .ok (.getfield 23, 3) := by decide +kernel
theorem dX12_lead_16 : decode cX12_lead 16 = .ok (.iload_n 1, 1) := by decide +kernel
theorem dX12_lead_17 : decode cX12_lead 17 = .ok (.baload, 1) := by decide +kernel
theorem dX12_lead_18 : decode cX12_lead 18 = .ok (.ifCond .eq 6, 3) := by decide +kernel
theorem dX12_lead_21 : decode cX12_lead 21 = .ok (.bipush (-7), 2) := by decide +kernel
theorem dX12_lead_23 : decode cX12_lead 23 = .ok (.ireturn, 1) := by decide +kernel
theorem dX12_lead_24 : decode cX12_lead 24 = .ok (.aload_n 0, 1) := by decide +kernel
theorem dX12_lead_25 : decode cX12_lead 25 = .ok (.getfield 13, 3) := by decide +kernel
theorem dX12_lead_28 : decode cX12_lead 28 = .ok (.iload_n 1, 1) := by decide +kernel
theorem dX12_lead_29 : decode cX12_lead 29 = .ok (.iaload, 1) := by decide +kernel
theorem dX12_lead_30 : decode cX12_lead 30 = .ok (.iconst 2, 1) := by decide +kernel
theorem dX12_lead_31 : decode cX12_lead 31 = .ok (.if_icmp .eq 5, 3) := by decide +kernel
theorem dX12_lead_34 : decode cX12_lead 34 = .ok (.iload_n 1, 1) := by decide +kernel
theorem dX12_lead_35 : decode cX12_lead 35 = .ok (.ireturn, 1) := by decide +kernel
theorem dX12_lead_36 : decode cX12_lead 36 = .ok (.aload_n 0, 1) := by decide +kernel
theorem dX12_lead_37 : decode cX12_lead 37 = .ok (.getfield 20, 3) := by decide +kernel
theorem dX12_lead_40 : decode cX12_lead 40 = .ok (.iload_n 1, 1) := by decide +kernel
theorem dX12_lead_41 : decode cX12_lead 41 = .ok (.baload, 1) := by decide +kernel
theorem dX12_lead_42 : decode cX12_lead 42 = .ok (.ifCond .eq 8, 3) := by decide +kernel
theorem dX12_lead_45 : decode cX12_lead 45 = .ok (.bipush (-2), 2) := by decide +kernel
theorem dX12_lead_47 : decode cX12_lead 47 = .ok (.goto 20, 3) := by decide +kernel
theorem dX12_lead_50 : decode cX12_lead 50 = .ok (.aload_n 0, 1) := by decide +kernel
theorem dX12_lead_51 : decode cX12_lead 51 = .ok (.aload_n 0, 1) := by decide +kernel
theorem dX12_lead_52 : decode cX12_lead 52 = .ok (.getfield 29, 3) := by decide +kernel
theorem dX12_lead_55 : decode cX12_lead 55 = .ok (.iload_n 1, 1) := by decide +kernel
theorem dX12_lead_56 : decode cX12_lead 56 = .ok (.iaload, 1) := by decide +kernel
theorem dX12_lead_57 : decode cX12_lead 57 = .ok (.aload_n 0, 1) := by decide +kernel
theorem dX12_lead_58 : decode cX12_lead 58 = .ok (.getfield 26, 3) := by decide +kernel
theorem dX12_lead_61 : decode cX12_lead 61 = .ok (.iload_n 1, 1) := by decide +kernel
theorem dX12_lead_62 : decode cX12_lead 62 = .ok (.iaload, 1) := by decide +kernel
theorem dX12_lead_63 : decode cX12_lead 63 = .ok (.iconst 0, 1) := by decide +kernel
theorem dX12_lead_64 : decode cX12_lead 64 = .ok (.invokevirtual 177, 3) := by decide +kernel
theorem dX12_lead_67 : decode cX12_lead 67 = .ok (.ireturn, 1) := by decide +kernel
theorem dX12_entry_0 : decode cX12_entry 0 = .ok (.iload_n 1, 1) := by decide +kernel
theorem dX12_entry_1 : decode cX12_entry 1 = .ok (.ifCond .lt 16, 3) := by decide +kernel
theorem dX12_entry_4 : decode cX12_entry 4 = .ok (.iload_n 1, 1) := by decide +kernel
theorem dX12_entry_5 : decode cX12_entry 5 = .ok (.iconst 4, 1) := by decide +kernel
theorem dX12_entry_6 : decode cX12_entry 6 = .ok (.if_icmp .gt 11, 3) := by decide +kernel
theorem dX12_entry_9 : decode cX12_entry 9 = .ok (.aload_n 0, 1) := by decide +kernel
theorem dX12_entry_10 : decode cX12_entry 10 = .ok (.iload_n 2, 1) := by decide +kernel
theorem dX12_entry_11 : decode cX12_entry 11 = .ok (.invokevirtual 149, 3) := by decide +kernel
theorem dX12_entry_14 : decode cX12_entry 14 = .ok (.ifCond .ne 6, 3) := by decide +kernel
theorem dX12_entry_17 : decode cX12_entry 17 = .ok (.bipush (-7), 2) := by decide +kernel
theorem dX12_entry_19 : decode cX12_entry 19 = .ok (.ireturn, 1) := by decide +kernel
theorem dX12_entry_20 : decode cX12_entry 20 = .ok (.iload_n 1, 1) := by decide +kernel
theorem dX12_entry_21 : decode cX12_entry 21 = .ok (.ifCond .ne 20, 3) := by decide +kernel
theorem dX12_entry_24 : decode cX12_entry 24 = .ok (.iload_n 3, 1) := by decide +kernel
theorem dX12_entry_25 : decode cX12_entry 25 = .ok (.ifCond .eq 8, 3) := by decide +kernel
theorem dX12_entry_28 : decode cX12_entry 28 = .ok (.iload_n 3, 1) := by decide +kernel
theorem dX12_entry_29 : decode cX12_entry 29 = .ok (.iconst 1, 1) := by decide +kernel
theorem dX12_entry_30 : decode cX12_entry 30 = .ok (.if_icmp .ne 7, 3) := by decide +kernel
theorem dX12_entry_33 : decode cX12_entry 33 = .ok (.iconst 1, 1) := by decide +kernel
theorem dX12_entry_34 : decode cX12_entry 34 = .ok (.goto 79, 3) := by decide +kernel
theorem dX12_entry_37 : decode cX12_entry 37 = .ok (.iconst 0, 1) := by decide +kernel
theorem dX12_entry_38 : decode cX12_entry 38 = .ok (.goto 75, 3) := by decide +kernel
theorem dX12_entry_41 : decode cX12_entry 41 = .ok (.iload_n 1, 1) := by decide +kernel
theorem dX12_entry_42 : decode cX12_entry 42 = .ok (.iconst 1, 1) := by decide +kernel
theorem dX12_entry_43 : decode cX12_entry 43 = .ok (.if_icmp .ne 27, 3) := by decide +kernel
theorem dX12_entry_46 : decode cX12_entry 46 = .ok (.lload 4, 2) := by decide +kernel
theorem dX12_entry_48 : decode cX12_entry 48 = .ok (.lconst 0, 1) := by decide +kernel
theorem dX12_entry_49 : decode cX12_entry 49 = .ok (.lcmp, 1) := by decide +kernel
theorem dX12_entry_50 : decode cX12_entry 50 = .ok (.ifCond .lt 16, 3) := by decide +kernel
theorem dX12_entry_53 : decode cX12_entry 53 = .ok (.lload 4, 2) := by decide +kernel
theorem dX12_entry_55 : decode cX12_entry 55 = .ok (.ldc2_w 181, 3) := by decide +kernel
theorem dX12_entry_58 : decode cX12_entry 58 = .ok (.lcmp, 1) := by decide +kernel
theorem dX12_entry_59 : decode cX12_entry 59 = .ok (.ifCond .gt 7, 3) := by decide +kernel
theorem dX12_entry_62 : decode cX12_entry 62 = .ok (.iconst 1, 1) := by decide +kernel
theorem dX12_entry_63 : decode cX12_entry 63 = .ok (.goto 50, 3) := by decide +kernel
theorem dX12_entry_66 : decode cX12_entry 66 = .ok (.iconst 0, 1) := by decide +kernel
theorem dX12_entry_67 : decode cX12_entry 67 = .ok (.goto 46, 3) := by decide +kernel
theorem dX12_entry_70 : decode cX12_entry 70 = .ok (.iload_n 1, 1) := by decide +kernel
theorem dX12_entry_71 : decode cX12_entry 71 = .ok (.iconst 2, 1) := by decide +kernel
theorem dX12_entry_72 : decode cX12_entry 72 = .ok (.if_icmp .ne 23, 3) := by decide +kernel
theorem dX12_entry_75 : decode cX12_entry 75 = .ok (.iload_n 3, 1) := by decide +kernel
theorem dX12_entry_76 : decode cX12_entry 76 = .ok (.ifCond .lt 15, 3) := by decide +kernel
theorem dX12_entry_79 : decode cX12_entry 79 = .ok (.iload_n 3, 1) := by decide +kernel
theorem dX12_entry_80 : decode cX12_entry 80 = .ok (.aload_n 0, 1) := by decide +kernel
theorem dX12_entry_81 : decode cX12_entry 81 = .ok (.getfield 152, 3) := by decide +kernel
theorem dX12_entry_84 : decode cX12_entry 84 = .ok (.if_icmp .ge 7, 3) := by decide +kernel
theorem dX12_entry_87 : decode cX12_entry 87 = .ok (.iconst 1, 1) := by decide +kernel
theorem dX12_entry_88 : decode cX12_entry 88 = .ok (.goto 25, 3) := by decide +kernel
theorem dX12_entry_91 : decode cX12_entry 91 = .ok (.iconst 0, 1) := by decide +kernel
theorem dX12_entry_92 : decode cX12_entry 92 = .ok (.goto 21, 3) := by decide +kernel
theorem dX12_entry_95 : decode cX12_entry 95 = .ok (.iload_n 1, 1) := by decide +kernel
theorem dX12_entry_96 : decode cX12_entry 96 = .ok (.iconst 4, 1) := by decide +kernel
theorem dX12_entry_97 : decode cX12_entry 97 = .ok (.if_icmp .eq 11, 3) := by decide +kernel
theorem dX12_entry_100 : decode cX12_entry 100 = .ok (.aload_n 0, 1) := by decide +kernel
theorem dX12_entry_101 : decode cX12_entry 101 = .ok (.iload_n 3, 1) := by decide +kernel
theorem dX12_entry_102 : decode cX12_entry 102 = .ok (.invokevirtual 149, 3) := by decide +kernel
theorem dX12_entry_105 : decode cX12_entry 105 = .ok (.ifCond .eq 7, 3) := by decide +kernel
theorem dX12_entry_108 : decode cX12_entry 108 = .ok (.iconst 1, 1) := by decide +kernel
theorem dX12_entry_109 : decode cX12_entry 109 = .ok (.goto 4, 3) := by decide +kernel
theorem dX12_entry_112 : decode cX12_entry 112 = .ok (.iconst 0, 1) := by decide +kernel
theorem dX12_entry_113 : decode cX12_entry 113 = .ok (.istore 6, 2) := by decide +kernel
theorem dX12_entry_115 : decode cX12_entry 115 = .ok (.iload 6, 2) := by decide +kernel
theorem dX12_entry_117 : decode cX12_entry 117 = .ok (.ifCond .ne 6, 3) := by decide +kernel
theorem dX12_entry_120 : decode cX12_entry 120 = .ok (.bipush (-7), 2) := by decide +kernel
theorem dX12_entry_122 : decode cX12_entry 122 = .ok (.ireturn, 1) := by decide +kernel
theorem dX12_entry_123 : decode cX12_entry 123 = .ok (.aload_n 0, 1) := by decide +kernel
theorem dX12_entry_124 : decode cX12_entry 124 = .ok (.getfield 183, 3) := by decide +kernel
theorem dX12_entry_127 : decode cX12_entry 127 = .ok (.bipush 100, 2) := by decide +kernel
theorem dX12_entry_129 : decode cX12_entry 129 = .ok (.if_icmp .ne 6, 3) := by decide +kernel
theorem dX12_entry_132 : decode cX12_entry 132 = .ok (.bipush (-6), 2) := by decide +kernel
theorem dX12_entry_134 : decode cX12_entry 134 = .ok (.ireturn, 1) := by decide +kernel
theorem dX12_entry_135 : decode cX12_entry 135 = .ok (.aload_n 0, 1) := by decide +kernel
theorem dX12_entry_136 : decode cX12_entry 136 = .ok (.getfield 63, 3) := by decide +kernel
theorem dX12_entry_139 : decode cX12_entry 139 = .ok (.aload_n 0, 1) := by decide +kernel
theorem dX12_entry_140 : decode cX12_entry 140 = .ok (.getfield 183, 3) := by decide +kernel
theorem dX12_entry_143 : decode cX12_entry 143 = .ok (.iload_n 1, 1) := by decide +kernel
theorem dX12_entry_144 : decode cX12_entry 144 = .ok (.iastore, 1) := by decide +kernel
theorem dX12_entry_145 : decode cX12_entry 145 = .ok (.aload_n 0, 1) := by decide +kernel
theorem dX12_entry_146 : decode cX12_entry 146 = .ok (.getfield 66, 3) := by decide +kernel
theorem dX12_entry_149 : decode cX12_entry 149 = .ok (.aload_n 0, 1) := by decide +kernel
theorem dX12_entry_150 : decode cX12_entry 150 = .ok (.getfield 183, 3) := by decide +kernel
theorem dX12_entry_153 : decode cX12_entry 153 = .ok (.iload_n 2, 1) := by decide +kernel
theorem dX12_entry_154 : decode cX12_entry 154 = .ok (.iastore, 1) := by decide +kernel
theorem dX12_entry_155 : decode cX12_entry 155 = .ok (.aload_n 0, 1) := by decide +kernel
theorem dX12_entry_156 : decode cX12_entry 156 = .ok (.getfield 69, 3) := by decide +kernel
theorem dX12_entry_159 : decode cX12_entry 159 = .ok (.aload_n 0, 1) := by decide +kernel
theorem dX12_entry_160 : decode cX12_entry 160 = .ok (.getfield 183, 3) := by decide +kernel
theorem dX12_entry_163 : decode cX12_entry 163 = .ok (.iload_n 3, 1) := by decide +kernel
theorem dX12_entry_164 : decode cX12_entry 164 = .ok (.iastore, 1) := by decide +kernel
theorem dX12_entry_165 : decode cX12_entry 165 = .ok (.aload_n 0, 1) := by decide +kernel
theorem dX12_entry_166 : decode cX12_entry 166 = .ok (.getfield 72, 3) := by decide +kernel
theorem dX12_entry_169 : decode cX12_entry 169 = .ok (.aload_n 0, 1) := by decide +kernel
theorem dX12_entry_170 : decode cX12_entry 170 = .ok (.getfield 183, 3) := by decide +kernel
theorem dX12_entry_173 : decode cX12_entry 173 = .ok (.lload 4, 2) := by decide +kernel
theorem dX12_entry_175 : decode cX12_entry 175 = .ok (.lastore, 1) := by decide +kernel
theorem dX12_entry_176 : decode cX12_entry 176 = .ok (.aload_n 0, 1) := by decide +kernel
theorem dX12_entry_177 : decode cX12_entry 177 = .ok (.dup, 1) := by decide +kernel
theorem dX12_entry_178 : decode cX12_entry 178 = .ok (.getfield 183, 3) := by decide +kernel
theorem dX12_entry_181 : decode cX12_entry 181 = .ok (.iconst 1, 1) := by decide +kernel
theorem dX12_entry_182 : decode cX12_entry 182 = .ok (.iadd, 1) := by decide +kernel
theorem dX12_entry_183 : decode cX12_entry 183 = .ok (.putfield 183, 3) := by decide +kernel
theorem dX12_entry_186 : decode cX12_entry 186 = .ok (.aload_n 0, 1) := by decide +kernel
theorem dX12_entry_187 : decode cX12_entry 187 = .ok (.getfield 183, 3) := by decide +kernel
theorem dX12_entry_190 : decode cX12_entry 190 = .ok (.iconst 1, 1) := by decide +kernel
theorem dX12_entry_191 : decode cX12_entry 191 = .ok (.isub, 1) := by decide +kernel
theorem dX12_entry_192 : decode cX12_entry 192 = .ok (.ireturn, 1) := by decide +kernel
theorem dX12_walk_0 : decode cX12_walk 0 = .ok (.iconst 1, 1) := by decide +kernel
theorem dX12_walk_1 : decode cX12_walk 1 = .ok (.istore_n 3, 1) := by decide +kernel
theorem dX12_walk_2 : decode cX12_walk 2 = .ok (.aload_n 0, 1) := by decide +kernel
theorem dX12_walk_3 : decode cX12_walk 3 = .ok (.iconst 0, 1) := by decide +kernel
theorem dX12_walk_4 : decode cX12_walk 4 = .ok (.putfield 186, 3) := by decide +kernel
theorem dX12_walk_7 : decode cX12_walk 7 = .ok (.iconst 0, 1) := by decide +kernel
theorem dX12_walk_8 : decode cX12_walk 8 = .ok (.istore 4, 2) := by decide +kernel
theorem dX12_walk_10 : decode cX12_walk 10 = .ok (.iload 4, 2) := by decide +kernel
theorem dX12_walk_12 : decode cX12_walk 12 = .ok (.aload_n 0, 1) := by decide +kernel
theorem dX12_walk_13 : decode cX12_walk 13 = .ok (.getfield 48, 3) := by decide +kernel
theorem dX12_walk_16 : decode cX12_walk 16 = .ok (.iload_n 1, 1) := by decide +kernel
theorem dX12_walk_17 : decode cX12_walk 17 = .ok (.iaload, 1) := by decide +kernel
theorem dX12_walk_18 : decode cX12_walk 18 = .ok (.if_icmp .ge 169, 3) := by decide +kernel
theorem dX12_walk_21 : decode cX12_walk 21 = .ok (.iload 4, 2) := by decide +kernel
theorem dX12_walk_23 : decode cX12_walk 23 = .ok (.aload_n 0, 1) := by decide +kernel
theorem dX12_walk_24 : decode cX12_walk 24 = .ok (.getfield 48, 3) := by decide +kernel
theorem dX12_walk_27 : decode cX12_walk 27 = .ok (.iload_n 1, 1) := by decide +kernel
theorem dX12_walk_28 : decode cX12_walk 28 = .ok (.iaload, 1) := by decide +kernel
theorem dX12_walk_29 : decode cX12_walk 29 = .ok (.iconst 1, 1) := by decide +kernel
theorem dX12_walk_30 : decode cX12_walk 30 = .ok (.isub, 1) := by decide +kernel
theorem dX12_walk_31 : decode cX12_walk 31 = .ok (.if_icmp .ne 7, 3) := by decide +kernel
theorem dX12_walk_34 : decode cX12_walk 34 = .ok (.iconst 1, 1) := by decide +kernel
theorem dX12_walk_35 : decode cX12_walk 35 = .ok (.goto 4, 3) := by decide +kernel
theorem dX12_walk_38 : decode cX12_walk 38 = .ok (.iconst 0, 1) := by decide +kernel
theorem dX12_walk_39 : decode cX12_walk 39 = .ok (.istore 5, 2) := by decide +kernel
theorem dX12_walk_41 : decode cX12_walk 41 = .ok (.aload_n 0, 1) := by decide +kernel
theorem dX12_walk_42 : decode cX12_walk 42 = .ok (.iload_n 1, 1) := by decide +kernel
theorem dX12_walk_43 : decode cX12_walk 43 = .ok (.iload 4, 2) := by decide +kernel
theorem dX12_walk_45 : decode cX12_walk 45 = .ok (.invokevirtual 189, 3) := by decide +kernel
theorem dX12_walk_48 : decode cX12_walk 48 = .ok (.aload_n 0, 1) := by decide +kernel
theorem dX12_walk_49 : decode cX12_walk 49 = .ok (.getfield 186, 3) := by decide +kernel
theorem dX12_walk_52 : decode cX12_walk 52 = .ok (.ifCond .le 7, 3) := by decide +kernel
theorem dX12_walk_55 : decode cX12_walk 55 = .ok (.iconst (-1), 1) := by decide +kernel
theorem dX12_walk_56 : decode cX12_walk 56 = .ok (.goto 8, 3) := by decide +kernel
theorem dX12_walk_59 : decode cX12_walk 59 = .ok (.aload_n 0, 1) := by decide +kernel
theorem dX12_walk_60 : decode cX12_walk 60 = .ok (.iload_n 3, 1) := by decide +kernel
theorem dX12_walk_61 : decode cX12_walk 61 = .ok (.invokevirtual 171, 3) := by decide +kernel
theorem dX12_walk_64 : decode cX12_walk 64 = .ok (.istore 6, 2) := by decide +kernel
theorem dX12_walk_66 : decode cX12_walk 66 = .ok (.iload 6, 2) := by decide +kernel
theorem dX12_walk_68 : decode cX12_walk 68 = .ok (.iconst (-1), 1) := by decide +kernel
theorem dX12_walk_69 : decode cX12_walk 69 = .ok (.if_icmp .eq 25, 3) := by decide +kernel
theorem dX12_walk_72 : decode cX12_walk 72 = .ok (.aload_n 0, 1) := by decide +kernel
theorem dX12_walk_73 : decode cX12_walk 73 = .ok (.iload 6, 2) := by decide +kernel
theorem dX12_walk_75 : decode cX12_walk 75 = .ok (.iconst 1, 1) := by decide +kernel
theorem dX12_walk_76 : decode cX12_walk 76 = .ok (.invokevirtual 155, 3) := by decide +kernel
theorem dX12_walk_79 : decode cX12_walk 79 = .ok (.ifCond .ne 15, 3) := by decide +kernel
theorem dX12_walk_82 : decode cX12_walk 82 = .ok (.aload_n 0, 1) := by decide +kernel
theorem dX12_walk_83 : decode cX12_walk 83 = .ok (.bipush 16, 2) := by decide +kernel
theorem dX12_walk_85 : decode cX12_walk 85 = .ok (.invokevirtual 118, 3) := by decide +kernel
theorem dX12_walk_88 : decode cX12_walk 88 = .ok (.ifCond .ne 6, 3) := by decide +kernel
theorem dX12_walk_91 : decode cX12_walk 91 = .ok (.bipush (-12), 2) := by decide +kernel
theorem dX12_walk_93 : decode cX12_walk 93 = .ok (.ireturn, 1) := by decide +kernel
theorem dX12_walk_94 : decode cX12_walk 94 = .ok (.aload_n 0, 1) := by decide +kernel
theorem dX12_walk_95 : decode cX12_walk 95 = .ok (.iload 6, 2) := by decide +kernel
theorem dX12_walk_97 : decode cX12_walk 97 = .ok (.putfield 193, 3) := by decide +kernel
theorem dX12_walk_100 : decode cX12_walk 100 = .ok (.iload 5, 2) := by decide +kernel
theorem dX12_walk_102 : decode cX12_walk 102 = .ok (.ifCond .ne 79, 3) := by decide +kernel
theorem dX12_walk_105 : decode cX12_walk 105 = .ok (.iload 6, 2) := by decide +kernel
theorem dX12_walk_107 : decode cX12_walk 107 = .ok (.iconst (-1), 1) := by decide +kernel
theorem dX12_walk_108 : decode cX12_walk 108 = .ok (.if_icmp .ne 42, 3) := by decide +kernel
theorem dX12_walk_111 : decode cX12_walk 111 = .ok (.iload_n 2, 1) := by decide +kernel
theorem dX12_walk_112 : decode cX12_walk 112 = .ok (.ifCond .ne 6, 3) := by decide +kernel
theorem dX12_walk_115 : decode cX12_walk 115 = .ok (.bipush (-13), 2) := by decide +kernel
theorem dX12_walk_117 : decode cX12_walk 117 = .ok (.ireturn, 1) := by decide +kernel
theorem dX12_walk_118 : decode cX12_walk 118 = .ok (.aload_n 0, 1) := by decide +kernel
theorem dX12_walk_119 : decode cX12_walk 119 = .ok (.getfield 186, 3) := by decide +kernel
theorem dX12_walk_122 : decode cX12_walk 122 = .ok (.ifCond .ne 15, 3) := by decide +kernel
theorem dX12_walk_125 : decode cX12_walk 125 = .ok (.aload_n 0, 1) := by decide +kernel
theorem dX12_walk_126 : decode cX12_walk 126 = .ok (.getfield 16, 3) := by decide +kernel
theorem dX12_walk_129 : decode cX12_walk 129 = .ok (.iload_n 3, 1) := by decide +kernel
theorem dX12_walk_130 : decode cX12_walk 130 = .ok (.baload, 1) := by decide +kernel
theorem dX12_walk_131 : decode cX12_walk 131 = .ok (.ifCond .eq 6, 3) := by decide +kernel
theorem dX12_walk_134 : decode cX12_walk 134 = .ok (.bipush (-16), 2) := by decide +kernel
theorem dX12_walk_136 : decode cX12_walk 136 = .ok (.ireturn, 1) := by decide +kernel
theorem dX12_walk_137 : decode cX12_walk 137 = .ok (.aload_n 0, 1) := by decide +kernel
theorem dX12_walk_138 : decode cX12_walk 138 = .ok (.dup, 1) := by decide +kernel
theorem dX12_walk_139 : decode cX12_walk 139 = .ok (.getfield 186, 3) := by decide +kernel
theorem dX12_walk_142 : decode cX12_walk 142 = .ok (.iconst 1, 1) := by decide +kernel
theorem dX12_walk_143 : decode cX12_walk 143 = .ok (.iadd, 1) := by decide +kernel
theorem dX12_walk_144 : decode cX12_walk 144 = .ok (.putfield 186, 3) := by decide +kernel
theorem dX12_walk_147 : decode cX12_walk 147 = .ok (.goto 34, 3) := by decide +kernel
theorem dX12_walk_150 : decode cX12_walk 150 = .ok (.aload_n 0, 1) := by decide +kernel
theorem dX12_walk_151 : decode cX12_walk 151 = .ok (.getfield 13, 3) := by decide +kernel
theorem dX12_walk_154 : decode cX12_walk 154 = .ok (.iload 6, 2) := by decide +kernel
theorem dX12_walk_156 : decode cX12_walk 156 = .ok (.iaload, 1) := by decide +kernel
theorem dX12_walk_157 : decode cX12_walk 157 = .ok (.iconst 2, 1) := by decide +kernel
theorem dX12_walk_158 : decode cX12_walk 158 = .ok (.if_icmp .ne 6, 3) := by decide +kernel
theorem dX12_walk_161 : decode cX12_walk 161 = .ok (.bipush (-14), 2) := by decide +kernel
theorem dX12_walk_163 : decode cX12_walk 163 = .ok (.ireturn, 1) := by decide +kernel
theorem dX12_walk_164 : decode cX12_walk 164 = .ok (.aload_n 0, 1) := by decide +kernel
theorem dX12_walk_165 : decode cX12_walk 165 = .ok (.getfield 13, 3) := by decide +kernel
theorem dX12_walk_168 : decode cX12_walk 168 = .ok (.iload 6, 2) := by decide +kernel
theorem dX12_walk_170 : decode cX12_walk 170 = .ok (.iaload, 1) := by decide +kernel
theorem dX12_walk_171 : decode cX12_walk 171 = .ok (.iconst 1, 1) := by decide +kernel
theorem dX12_walk_172 : decode cX12_walk 172 = .ok (.if_icmp .ne 6, 3) := by decide +kernel
theorem dX12_walk_175 : decode cX12_walk 175 = .ok (.bipush (-15), 2) := by decide +kernel
theorem dX12_walk_177 : decode cX12_walk 177 = .ok (.ireturn, 1) := by decide +kernel
theorem dX12_walk_178 : decode cX12_walk 178 = .ok (.iload 6, 2) := by decide +kernel
theorem dX12_walk_180 : decode cX12_walk 180 = .ok (.istore_n 3, 1) := by decide +kernel
theorem dX12_walk_181 : decode cX12_walk 181 = .ok (.iinc 4 1, 3) := by decide +kernel
theorem dX12_walk_184 : decode cX12_walk 184 = .ok (.goto (-174), 3) := by decide +kernel
theorem dX12_walk_187 : decode cX12_walk 187 = .ok (.aload_n 0, 1) := by decide +kernel
theorem dX12_walk_188 : decode cX12_walk 188 = .ok (.iload_n 3, 1) := by decide +kernel
theorem dX12_walk_189 : decode cX12_walk 189 = .ok (.putfield 196, 3) := by decide +kernel
theorem dX12_walk_192 : decode cX12_walk 192 = .ok (.iconst 0, 1) := by decide +kernel
theorem dX12_walk_193 : decode cX12_walk 193 = .ok (.ireturn, 1) := by decide +kernel
theorem dX12_fileAt_0 : decode cX12_fileAt 0 = .ok (.aload_n 0, 1) := by decide +kernel
theorem dX12_fileAt_1 : decode cX12_fileAt 1 = .ok (.iload_n 1, 1) := by decide +kernel
theorem dX12_fileAt_2 : decode cX12_fileAt 2 = .ok (.iconst 0, 1) := by decide +kernel
theorem dX12_fileAt_3 : decode cX12_fileAt 3 = .ok (.invokevirtual 199, 3) := by decide +kernel
theorem dX12_fileAt_6 : decode cX12_fileAt 6 = .ok (.istore_n 2, 1) := by decide +kernel
theorem dX12_fileAt_7 : decode cX12_fileAt 7 = .ok (.iload_n 2, 1) := by decide +kernel
theorem dX12_fileAt_8 : decode cX12_fileAt 8 = .ok (.ifCond .ne 31, 3) := by decide +kernel
theorem dX12_fileAt_11 : decode cX12_fileAt 11 = .ok (.aload_n 0, 1) := by decide +kernel
theorem dX12_fileAt_12 : decode cX12_fileAt 12 = .ok (.getfield 193, 3) := by decide +kernel
theorem dX12_fileAt_15 : decode cX12_fileAt 15 = .ok (.iconst (-1), 1) := by decide +kernel
theorem dX12_fileAt_16 : decode cX12_fileAt 16 = .ok (.if_icmp .eq 23, 3) := by decide +kernel
theorem dX12_fileAt_19 : decode cX12_fileAt 19 = .ok (.aload_n 0, 1) := by decide +kernel
theorem dX12_fileAt_20 : decode cX12_fileAt 20 = .ok (.getfield 13, 3) := by decide +kernel
theorem dX12_fileAt_23 : decode cX12_fileAt 23 = .ok (.aload_n 0, 1) := by decide +kernel
theorem dX12_fileAt_24 : decode cX12_fileAt 24 = .ok (.getfield 193, 3) := by decide +kernel
theorem dX12_fileAt_27 : decode cX12_fileAt 27 = .ok (.iaload, 1) := by decide +kernel
theorem dX12_fileAt_28 : decode cX12_fileAt 28 = .ok (.iconst 1, 1) := by decide +kernel
theorem dX12_fileAt_29 : decode cX12_fileAt 29 = .ok (.if_icmp .ne 10, 3) := by decide +kernel
theorem dX12_fileAt_32 : decode cX12_fileAt 32 = .ok (.aload_n 0, 1) := by decide +kernel
theorem dX12_fileAt_33 : decode cX12_fileAt 33 = .ok (.getfield 193, 3) := by decide +kernel
theorem dX12_fileAt_36 : decode cX12_fileAt 36 = .ok (.goto 4, 3) := by decide +kernel
theorem dX12_fileAt_39 : decode cX12_fileAt 39 = .ok (.iconst (-1), 1) := by decide +kernel
theorem dX12_fileAt_40 : decode cX12_fileAt 40 = .ok (.ireturn, 1) := by decide +kernel
theorem dX12_isThere_0 : decode cX12_isThere 0 = .ok (.iload_n 2, 1) := by decide +kernel
theorem dX12_isThere_1 : decode cX12_isThere 1 = .ok (.ifCond .ne 16, 3) := by decide +kernel
theorem dX12_isThere_4 : decode cX12_isThere 4 = .ok (.aload_n 0, 1) := by decide +kernel
theorem dX12_isThere_5 : decode cX12_isThere 5 = .ok (.getfield 16, 3) := by decide +kernel
theorem dX12_isThere_8 : decode cX12_isThere 8 = .ok (.iload_n 1, 1) := by decide +kernel
theorem dX12_isThere_9 : decode cX12_isThere 9 = .ok (.baload, 1) := by decide +kernel
theorem dX12_isThere_10 : decode cX12_isThere 10 = .ok (.ifCond .eq 7, 3) := by decide +kernel
theorem dX12_isThere_13 : decode cX12_isThere 13 = .ok (.iconst 1, 1) := by decide +kernel
theorem dX12_isThere_14 : decode cX12_isThere 14 = .ok (.goto 4, 3) := by decide +kernel
theorem dX12_isThere_17 : decode cX12_isThere 17 = .ok (.iconst 0, 1) := by decide +kernel
theorem dX12_isThere_18 : decode cX12_isThere 18 = .ok (.ireturn, 1) := by decide +kernel
theorem dX12_takes_0 : decode cX12_takes 0 = .ok (.aload_n 0, 1) := by decide +kernel
theorem dX12_takes_1 : decode cX12_takes 1 = .ok (.getfield 66, 3) := by decide +kernel
theorem dX12_takes_4 : decode cX12_takes 4 = .ok (.iload_n 1, 1) := by decide +kernel
theorem dX12_takes_5 : decode cX12_takes 5 = .ok (.iaload, 1) := by decide +kernel
theorem dX12_takes_6 : decode cX12_takes 6 = .ok (.istore_n 3, 1) := by decide +kernel
theorem dX12_takes_7 : decode cX12_takes 7 = .ok (.aload_n 0, 1) := by decide +kernel
theorem dX12_takes_8 : decode cX12_takes 8 = .ok (.iload_n 3, 1) := by decide +kernel
theorem dX12_takes_9 : decode cX12_takes 9 = .ok (.aload_n 0, 1) := by decide +kernel
theorem dX12_takes_10 : decode cX12_takes 10 = .ok (.bipush 32, 2) := by decide +kernel
theorem dX12_takes_12 : decode cX12_takes 12 = .ok (.invokevirtual 118, 3) := by decide +kernel
theorem dX12_takes_15 : decode cX12_takes 15 = .ok (.invokevirtual 199, 3) := by decide +kernel
theorem dX12_takes_18 : decode cX12_takes 18 = .ok (.istore 4, 2) := by decide +kernel
theorem dX12_takes_20 : decode cX12_takes 20 = .ok (.iload 4, 2) := by decide +kernel
theorem dX12_takes_22 : decode cX12_takes 22 = .ok (.ifCond .eq 6, 3) := by decide +kernel
theorem dX12_takes_25 : decode cX12_takes 25 = .ok (.iload 4, 2) := by decide +kernel
theorem dX12_takes_27 : decode cX12_takes 27 = .ok (.ireturn, 1) := by decide +kernel
theorem dX12_takes_28 : decode cX12_takes 28 = .ok (.aload_n 0, 1) := by decide +kernel
theorem dX12_takes_29 : decode cX12_takes 29 = .ok (.getfield 196, 3) := by decide +kernel
theorem dX12_takes_32 : decode cX12_takes 32 = .ok (.istore 5, 2) := by decide +kernel
theorem dX12_takes_34 : decode cX12_takes 34 = .ok (.aload_n 0, 1) := by decide +kernel
theorem dX12_takes_35 : decode cX12_takes 35 = .ok (.getfield 186, 3) := by decide +kernel
theorem dX12_takes_38 : decode cX12_takes 38 = .ok (.istore 6, 2) := by decide +kernel
theorem dX12_takes_40 : decode cX12_takes 40 = .ok (.aload_n 0, 1) := by decide +kernel
theorem dX12_takes_41 : decode cX12_takes 41 = .ok (.getfield 193, 3) := by decide +kernel
theorem dX12_takes_44 : decode cX12_takes 44 = .ok (.istore 7, 2) := by decide +kernel
theorem dX12_takes_46 : decode cX12_takes 46 = .ok (.aload_n 0, 1) := by decide +kernel
theorem dX12_takes_47 : decode cX12_takes 47 = .ok (.getfield 63, 3) := by decide +kernel
theorem dX12_takes_50 : decode cX12_takes 50 = .ok (.iload_n 1, 1) := by decide +kernel
theorem dX12_takes_51 : decode cX12_takes 51 = .ok (.iaload, 1) := by decide +kernel
theorem dX12_takes_52 : decode cX12_takes 52 = .ok (.istore 8, 2) := by decide +kernel
theorem dX12_takes_54 : decode cX12_takes 54 = .ok (.iload 8, 2) := by decide +kernel
theorem dX12_takes_56 : decode cX12_takes 56 = .ok (.iconst 4, 1) := by decide +kernel
theorem dX12_takes_57 : decode cX12_takes 57 = .ok (.if_icmp .ne 24, 3) := by decide +kernel
theorem dX12_takes_60 : decode cX12_takes 60 = .ok (.aload_n 0, 1) := by decide +kernel
theorem dX12_takes_61 : decode cX12_takes 61 = .ok (.dup, 1) := by decide +kernel
theorem dX12_takes_62 : decode cX12_takes 62 = .ok (.getfield 203, 3) := by decide +kernel
theorem dX12_takes_65 : decode cX12_takes 65 = .ok (.iload_n 2, 1) := by decide +kernel
theorem dX12_takes_66 : decode cX12_takes 66 = .ok (.ifCond .eq 7, 3) := by decide +kernel
theorem dX12_takes_69 : decode cX12_takes 69 = .ok (.iconst 1, 1) := by decide +kernel
theorem dX12_takes_70 : decode cX12_takes 70 = .ok (.goto 4, 3) := by decide +kernel
theorem dX12_takes_73 : decode cX12_takes 73 = .ok (.iconst 0, 1) := by decide +kernel
theorem dX12_takes_74 : decode cX12_takes 74 = .ok (.iadd, 1) := by decide +kernel
theorem dX12_takes_75 : decode cX12_takes 75 = .ok (.putfield 203, 3) := by decide +kernel
theorem dX12_takes_78 : decode cX12_takes 78 = .ok (.bipush (-20), 2) := by decide +kernel
theorem dX12_takes_80 : decode cX12_takes 80 = .ok (.ireturn, 1) := by decide +kernel
theorem dX12_takes_81 : decode cX12_takes 81 = .ok (.iload 8, 2) := by decide +kernel
theorem dX12_takes_83 : decode cX12_takes 83 = .ok (.ifCond .ne 38, 3) := by decide +kernel
theorem dX12_takes_86 : decode cX12_takes 86 = .ok (.iload 7, 2) := by decide +kernel
theorem dX12_takes_88 : decode cX12_takes 88 = .ok (.iconst (-1), 1) := by decide +kernel
theorem dX12_takes_89 : decode cX12_takes 89 = .ok (.if_icmp .eq 32, 3) := by decide +kernel
theorem dX12_takes_92 : decode cX12_takes 92 = .ok (.aload_n 0, 1) := by decide +kernel
theorem dX12_takes_93 : decode cX12_takes 93 = .ok (.getfield 13, 3) := by decide +kernel
theorem dX12_takes_96 : decode cX12_takes 96 = .ok (.iload 7, 2) := by decide +kernel
theorem dX12_takes_98 : decode cX12_takes 98 = .ok (.iaload, 1) := by decide +kernel
theorem dX12_takes_99 : decode cX12_takes 99 = .ok (.ifCond .eq 6, 3) := by decide +kernel
theorem dX12_takes_102 : decode cX12_takes 102 = .ok (.bipush (-17), 2) := by decide +kernel
theorem dX12_takes_104 : decode cX12_takes 104 = .ok (.ireturn, 1) := by decide +kernel
theorem dX12_takes_105 : decode cX12_takes 105 = .ok (.aload_n 0, 1) := by decide +kernel
theorem dX12_takes_106 : decode cX12_takes 106 = .ok (.iload 7, 2) := by decide +kernel
theorem dX12_takes_108 : decode cX12_takes 108 = .ok (.aload_n 0, 1) := by decide +kernel
theorem dX12_takes_109 : decode cX12_takes 109 = .ok (.getfield 69, 3) := by decide +kernel
theorem dX12_takes_112 : decode cX12_takes 112 = .ok (.iload_n 1, 1) := by decide +kernel
theorem dX12_takes_113 : decode cX12_takes 113 = .ok (.iaload, 1) := by decide +kernel
theorem dX12_takes_114 : decode cX12_takes 114 = .ok (.iload_n 2, 1) := by decide +kernel
theorem dX12_takes_115 : decode cX12_takes 115 = .ok (.invokevirtual 206, 3) := by decide +kernel
theorem dX12_takes_118 : decode cX12_takes 118 = .ok (.iload 7, 2) := by decide +kernel
theorem dX12_takes_120 : decode cX12_takes 120 = .ok (.ireturn, 1) := by decide +kernel
theorem dX12_takes_121 : decode cX12_takes 121 = .ok (.iload 7, 2) := by decide +kernel
theorem dX12_takes_123 : decode cX12_takes 123 = .ok (.iconst (-1), 1) := by decide +kernel
theorem dX12_takes_124 : decode cX12_takes 124 = .ok (.if_icmp .eq 16, 3) := by decide +kernel
theorem dX12_takes_127 : decode cX12_takes 127 = .ok (.aload_n 0, 1) := by decide +kernel
theorem dX12_takes_128 : decode cX12_takes 128 = .ok (.getfield 13, 3) := by decide +kernel
theorem dX12_takes_131 : decode cX12_takes 131 = .ok (.iload 7, 2) := by decide +kernel
theorem dX12_takes_133 : decode cX12_takes 133 = .ok (.iaload, 1) := by decide +kernel
theorem dX12_takes_134 : decode cX12_takes 134 = .ok (.ifCond .ne 6, 3) := by decide +kernel
theorem dX12_takes_137 : decode cX12_takes 137 = .ok (.bipush (-17), 2) := by decide +kernel
theorem dX12_takes_139 : decode cX12_takes 139 = .ok (.ireturn, 1) := by decide +kernel
theorem dX12_takes_140 : decode cX12_takes 140 = .ok (.aload_n 0, 1) := by decide +kernel
theorem dX12_takes_141 : decode cX12_takes 141 = .ok (.iload 5, 2) := by decide +kernel
theorem dX12_takes_143 : decode cX12_takes 143 = .ok (.iload 6, 2) := by decide +kernel
theorem dX12_takes_145 : decode cX12_takes 145 = .ok (.invokevirtual 210, 3) := by decide +kernel
theorem dX12_takes_148 : decode cX12_takes 148 = .ok (.ifCond .eq 6, 3) := by decide +kernel
theorem dX12_takes_151 : decode cX12_takes 151 = .ok (.bipush (-16), 2) := by decide +kernel
theorem dX12_takes_153 : decode cX12_takes 153 = .ok (.ireturn, 1) := by decide +kernel
theorem dX12_takes_154 : decode cX12_takes 154 = .ok (.iconst 0, 1) := by decide +kernel
theorem dX12_takes_155 : decode cX12_takes 155 = .ok (.istore 9, 2) := by decide +kernel
theorem dX12_takes_157 : decode cX12_takes 157 = .ok (.iconst (-1), 1) := by decide +kernel
theorem dX12_takes_158 : decode cX12_takes 158 = .ok (.istore 10, 2) := by decide +kernel
theorem dX12_takes_160 : decode cX12_takes 160 = .ok (.iload 8, 2) := by decide +kernel
theorem dX12_takes_162 : decode cX12_takes 162 = .ok (.iconst 2, 1) := by decide +kernel
theorem dX12_takes_163 : decode cX12_takes 163 = .ok (.if_icmp .ne 44, 3) := by decide +kernel
theorem dX12_takes_166 : decode cX12_takes 166 = .ok (.aload_n 0, 1) := by decide +kernel
theorem dX12_takes_167 : decode cX12_takes 167 = .ok (.aload_n 0, 1) := by decide +kernel
theorem dX12_takes_168 : decode cX12_takes 168 = .ok (.getfield 69, 3) := by decide +kernel
theorem dX12_takes_171 : decode cX12_takes 171 = .ok (.iload_n 1, 1) := by decide +kernel
theorem dX12_takes_172 : decode cX12_takes 172 = .ok (.iaload, 1) := by decide +kernel
theorem dX12_takes_173 : decode cX12_takes 173 = .ok (.iload 5, 2) := by decide +kernel
theorem dX12_takes_175 : decode cX12_takes 175 = .ok (.iload 6, 2) := by decide +kernel
theorem dX12_takes_177 : decode cX12_takes 177 = .ok (.invokevirtual 177, 3) := by decide +kernel
theorem dX12_takes_180 : decode cX12_takes 180 = .ok (.iconst (-1), 1) := by decide +kernel
theorem dX12_takes_181 : decode cX12_takes 181 = .ok (.if_icmp .ne 7, 3) := by decide +kernel
theorem dX12_takes_184 : decode cX12_takes 184 = .ok (.iconst 1, 1) := by decide +kernel
theorem dX12_takes_185 : decode cX12_takes 185 = .ok (.goto 4, 3) := by decide +kernel
theorem dX12_takes_188 : decode cX12_takes 188 = .ok (.iconst 0, 1) := by decide +kernel
theorem dX12_takes_189 : decode cX12_takes 189 = .ok (.istore 9, 2) := by decide +kernel
theorem dX12_takes_191 : decode cX12_takes 191 = .ok (.iload 9, 2) := by decide +kernel
theorem dX12_takes_193 : decode cX12_takes 193 = .ok (.ifCond .eq 60, 3) := by decide +kernel
theorem dX12_takes_196 : decode cX12_takes 196 = .ok (.aload_n 0, 1) := by decide +kernel
theorem dX12_takes_197 : decode cX12_takes 197 = .ok (.iconst 4, 1) := by decide +kernel
theorem dX12_takes_198 : decode cX12_takes 198 = .ok (.invokevirtual 118, 3) := by decide +kernel
theorem dX12_takes_201 : decode cX12_takes 201 = .ok (.ifCond .ne 52, 3) := by decide +kernel
theorem dX12_takes_204 : decode cX12_takes 204 = .ok (.bipush (-18), 2) := by decide +kernel
theorem dX12_takes_206 : decode cX12_takes 206 = .ok (.ireturn, 1) := by decide +kernel
theorem dX12_takes_207 : decode cX12_takes 207 = .ok (.iload 8, 2) := by decide +kernel
theorem dX12_takes_209 : decode cX12_takes 209 = .ok (.iconst 3, 1) := by decide +kernel
theorem dX12_takes_210 : decode cX12_takes 210 = .ok (.if_icmp .ne 43, 3) := by decide +kernel
theorem dX12_takes_213 : decode cX12_takes 213 = .ok (.aload_n 0, 1) := by decide +kernel
theorem dX12_takes_214 : decode cX12_takes 214 = .ok (.aload_n 0, 1) := by decide +kernel
theorem dX12_takes_215 : decode cX12_takes 215 = .ok (.getfield 69, 3) := by decide +kernel
theorem dX12_takes_218 : decode cX12_takes 218 = .ok (.iload_n 1, 1) := by decide +kernel
theorem dX12_takes_219 : decode cX12_takes 219 = .ok (.iaload, 1) := by decide +kernel
theorem dX12_takes_220 : decode cX12_takes 220 = .ok (.invokevirtual 214, 3) := by decide +kernel
theorem dX12_takes_223 : decode cX12_takes 223 = .ok (.istore 11, 2) := by decide +kernel
theorem dX12_takes_225 : decode cX12_takes 225 = .ok (.iload 11, 2) := by decide +kernel
theorem dX12_takes_227 : decode cX12_takes 227 = .ok (.iconst (-1), 1) := by decide +kernel
theorem dX12_takes_228 : decode cX12_takes 228 = .ok (.if_icmp .ne 6, 3) := by decide +kernel
theorem dX12_takes_231 : decode cX12_takes 231 = .ok (.bipush (-19), 2) := by decide +kernel
theorem dX12_takes_233 : decode cX12_takes 233 = .ok (.ireturn, 1) := by decide +kernel
theorem dX12_takes_234 : decode cX12_takes 234 = .ok (.iload 11, 2) := by decide +kernel
theorem dX12_takes_236 : decode cX12_takes 236 = .ok (.iload 7, 2) := by decide +kernel
theorem dX12_takes_238 : decode cX12_takes 238 = .ok (.if_icmp .ne 6, 3) := by decide +kernel
theorem dX12_takes_241 : decode cX12_takes 241 = .ok (.iload 7, 2) := by decide +kernel
theorem dX12_takes_243 : decode cX12_takes 243 = .ok (.ireturn, 1) := by decide +kernel
theorem dX12_takes_244 : decode cX12_takes 244 = .ok (.aload_n 0, 1) := by decide +kernel
theorem dX12_takes_245 : decode cX12_takes 245 = .ok (.getfield 29, 3) := by decide +kernel
theorem dX12_takes_248 : decode cX12_takes 248 = .ok (.iload 11, 2) := by decide +kernel
theorem dX12_takes_250 : decode cX12_takes 250 = .ok (.iaload, 1) := by decide +kernel
theorem dX12_takes_251 : decode cX12_takes 251 = .ok (.istore 10, 2) := by decide +kernel
theorem dX12_takes_253 : decode cX12_takes 253 = .ok (.aload_n 0, 1) := by decide +kernel
theorem dX12_takes_254 : decode cX12_takes 254 = .ok (.getfield 217, 3) := by decide +kernel
theorem dX12_takes_257 : decode cX12_takes 257 = .ok (.iload 6, 2) := by decide +kernel
theorem dX12_takes_259 : decode cX12_takes 259 = .ok (.iadd, 1) := by decide +kernel
theorem dX12_takes_260 : decode cX12_takes 260 = .ok (.i2l, 1) := by decide +kernel
theorem dX12_takes_261 : decode cX12_takes 261 = .ok (.lconst 1, 1) := by decide +kernel
theorem dX12_takes_262 : decode cX12_takes 262 = .ok (.ladd, 1) := by decide +kernel
theorem dX12_takes_263 : decode cX12_takes 263 = .ok (.aload_n 0, 1) := by decide +kernel
theorem dX12_takes_264 : decode cX12_takes 264 = .ok (.getfield 77, 3) := by decide +kernel
theorem dX12_takes_267 : decode cX12_takes 267 = .ok (.lcmp, 1) := by decide +kernel
theorem dX12_takes_268 : decode cX12_takes 268 = .ok (.ifCond .gt 28, 3) := by decide +kernel
theorem dX12_takes_271 : decode cX12_takes 271 = .ok (.iload 8, 2) := by decide +kernel
theorem dX12_takes_273 : decode cX12_takes 273 = .ok (.iconst 1, 1) := by decide +kernel
theorem dX12_takes_274 : decode cX12_takes 274 = .ok (.if_icmp .ne 25, 3) := by decide +kernel
theorem dX12_takes_277 : decode cX12_takes 277 = .ok (.aload_n 0, 1) := by decide +kernel
theorem dX12_takes_278 : decode cX12_takes 278 = .ok (.getfield 220, 3) := by decide +kernel
theorem dX12_takes_281 : decode cX12_takes 281 = .ok (.aload_n 0, 1) := by decide +kernel
theorem dX12_takes_282 : decode cX12_takes 282 = .ok (.getfield 72, 3) := by decide +kernel
theorem dX12_takes_285 : decode cX12_takes 285 = .ok (.iload_n 1, 1) := by decide +kernel
theorem dX12_takes_286 : decode cX12_takes 286 = .ok (.laload, 1) := by decide +kernel
theorem dX12_takes_287 : decode cX12_takes 287 = .ok (.ladd, 1) := by decide +kernel
theorem dX12_takes_288 : decode cX12_takes 288 = .ok (.aload_n 0, 1) := by decide +kernel
theorem dX12_takes_289 : decode cX12_takes 289 = .ok (.getfield 83, 3) := by decide +kernel
theorem dX12_takes_292 : decode cX12_takes 292 = .ok (.lcmp, 1) := by decide +kernel
theorem dX12_takes_293 : decode cX12_takes 293 = .ok (.ifCond .le 6, 3) := by decide +kernel
end
section
theorem dX12_takes_296 : decode cX12_takes 296 = .ok (.bipush (-21), 2) := by decide +kernel
theorem dX12_takes_298 : decode cX12_takes 298 = .ok (.ireturn, 1) := by decide +kernel
theorem dX12_takes_299 : decode cX12_takes 299 = .ok (.aload_n 0, 1) := by decide +kernel
theorem dX12_takes_300 : decode cX12_takes 300 = .ok (.getfield 115, 3) := by decide +kernel
theorem dX12_takes_303 : decode cX12_takes 303 = .ok (.iload 6, 2) := by decide +kernel
theorem dX12_takes_305 : decode cX12_takes 305 = .ok (.iadd, 1) := by decide +kernel
theorem dX12_takes_306 : decode cX12_takes 306 = .ok (.iconst 1, 1) := by decide +kernel
theorem dX12_takes_307 : decode cX12_takes 307 = .ok (.iadd, 1) := by decide +kernel
theorem dX12_takes_308 : decode cX12_takes 308 = .ok (.sipush 200, 3) := by decide +kernel
theorem dX12_takes_311 : decode cX12_takes 311 = .ok (.if_icmp .le 6, 3) := by decide +kernel
theorem dX12_takes_314 : decode cX12_takes 314 = .ok (.bipush (-6), 2) := by decide +kernel
theorem dX12_takes_316 : decode cX12_takes 316 = .ok (.ireturn, 1) := by decide +kernel
theorem dX12_takes_317 : decode cX12_takes 317 = .ok (.iload_n 2, 1) := by decide +kernel
theorem dX12_takes_318 : decode cX12_takes 318 = .ok (.ifCond .eq 21, 3) := by decide +kernel
theorem dX12_takes_321 : decode cX12_takes 321 = .ok (.aload_n 0, 1) := by decide +kernel
theorem dX12_takes_322 : decode cX12_takes 322 = .ok (.iload_n 1, 1) := by decide +kernel
theorem dX12_takes_323 : decode cX12_takes 323 = .ok (.iload 5, 2) := by decide +kernel
theorem dX12_takes_325 : decode cX12_takes 325 = .ok (.iload 6, 2) := by decide +kernel
theorem dX12_takes_327 : decode cX12_takes 327 = .ok (.iload 7, 2) := by decide +kernel
theorem dX12_takes_329 : decode cX12_takes 329 = .ok (.iload 9, 2) := by decide +kernel
theorem dX12_takes_331 : decode cX12_takes 331 = .ok (.iload 10, 2) := by decide +kernel
theorem dX12_takes_333 : decode cX12_takes 333 = .ok (.invokevirtual 223, 3) := by decide +kernel
theorem dX12_takes_336 : decode cX12_takes 336 = .ok (.goto 4, 3) := by decide +kernel
theorem dX12_takes_339 : decode cX12_takes 339 = .ok (.iconst 0, 1) := by decide +kernel
theorem dX12_takes_340 : decode cX12_takes 340 = .ok (.ireturn, 1) := by decide +kernel
theorem dX12_note_0 : decode cX12_note 0 = .ok (.iload_n 3, 1) := by decide +kernel
theorem dX12_note_1 : decode cX12_note 1 = .ok (.ifCond .eq 20, 3) := by decide +kernel
theorem dX12_note_4 : decode cX12_note 4 = .ok (.aload_n 0, 1) := by decide +kernel
theorem dX12_note_5 : decode cX12_note 5 = .ok (.getfield 38, 3) := by decide +kernel
theorem dX12_note_8 : decode cX12_note 8 = .ok (.iload_n 1, 1) := by decide +kernel
theorem dX12_note_9 : decode cX12_note 9 = .ok (.iload_n 2, 1) := by decide +kernel
theorem dX12_note_10 : decode cX12_note 10 = .ok (.iastore, 1) := by decide +kernel
theorem dX12_note_11 : decode cX12_note 11 = .ok (.aload_n 0, 1) := by decide +kernel
theorem dX12_note_12 : decode cX12_note 12 = .ok (.dup, 1) := by decide +kernel
theorem dX12_note_13 : decode cX12_note 13 = .ok (.getfield 227, 3) := by decide +kernel
theorem dX12_note_16 : decode cX12_note 16 = .ok (.iconst 1, 1) := by decide +kernel
theorem dX12_note_17 : decode cX12_note 17 = .ok (.iadd, 1) := by decide +kernel
theorem dX12_note_18 : decode cX12_note 18 = .ok (.putfield 227, 3) := by decide +kernel
theorem dX12_note_21 : decode cX12_note 21 = .ok (.return_, 1) := by decide +kernel
theorem dX12_comes_0 : decode cX12_comes 0 = .ok (.aload_n 0, 1) := by decide +kernel
theorem dX12_comes_1 : decode cX12_comes 1 = .ok (.getfield 66, 3) := by decide +kernel
theorem dX12_comes_4 : decode cX12_comes 4 = .ok (.iload_n 1, 1) := by decide +kernel
theorem dX12_comes_5 : decode cX12_comes 5 = .ok (.iaload, 1) := by decide +kernel
theorem dX12_comes_6 : decode cX12_comes 6 = .ok (.istore 7, 2) := by decide +kernel
theorem dX12_comes_8 : decode cX12_comes 8 = .ok (.aload_n 0, 1) := by decide +kernel
theorem dX12_comes_9 : decode cX12_comes 9 = .ok (.getfield 48, 3) := by decide +kernel
theorem dX12_comes_12 : decode cX12_comes 12 = .ok (.iload 7, 2) := by decide +kernel
theorem dX12_comes_14 : decode cX12_comes 14 = .ok (.iaload, 1) := by decide +kernel
theorem dX12_comes_15 : decode cX12_comes 15 = .ok (.iconst 1, 1) := by decide +kernel
theorem dX12_comes_16 : decode cX12_comes 16 = .ok (.isub, 1) := by decide +kernel
theorem dX12_comes_17 : decode cX12_comes 17 = .ok (.istore 8, 2) := by decide +kernel
theorem dX12_comes_19 : decode cX12_comes 19 = .ok (.iload_n 2, 1) := by decide +kernel
theorem dX12_comes_20 : decode cX12_comes 20 = .ok (.istore 9, 2) := by decide +kernel
theorem dX12_comes_22 : decode cX12_comes 22 = .ok (.iload 8, 2) := by decide +kernel
theorem dX12_comes_24 : decode cX12_comes 24 = .ok (.iload_n 3, 1) := by decide +kernel
theorem dX12_comes_25 : decode cX12_comes 25 = .ok (.isub, 1) := by decide +kernel
theorem dX12_comes_26 : decode cX12_comes 26 = .ok (.istore 10, 2) := by decide +kernel
theorem dX12_comes_28 : decode cX12_comes 28 = .ok (.iload 10, 2) := by decide +kernel
theorem dX12_comes_30 : decode cX12_comes 30 = .ok (.iload 8, 2) := by decide +kernel
theorem dX12_comes_32 : decode cX12_comes 32 = .ok (.if_icmp .ge 26, 3) := by decide +kernel
theorem dX12_comes_35 : decode cX12_comes 35 = .ok (.aload_n 0, 1) := by decide +kernel
theorem dX12_comes_36 : decode cX12_comes 36 = .ok (.iload 7, 2) := by decide +kernel
theorem dX12_comes_38 : decode cX12_comes 38 = .ok (.iload 10, 2) := by decide +kernel
theorem dX12_comes_40 : decode cX12_comes 40 = .ok (.invokevirtual 189, 3) := by decide +kernel
theorem dX12_comes_43 : decode cX12_comes 43 = .ok (.aload_n 0, 1) := by decide +kernel
theorem dX12_comes_44 : decode cX12_comes 44 = .ok (.iconst 0, 1) := by decide +kernel
theorem dX12_comes_45 : decode cX12_comes 45 = .ok (.iload 9, 2) := by decide +kernel
theorem dX12_comes_47 : decode cX12_comes 47 = .ok (.invokevirtual 99, 3) := by decide +kernel
theorem dX12_comes_50 : decode cX12_comes 50 = .ok (.istore 9, 2) := by decide +kernel
theorem dX12_comes_52 : decode cX12_comes 52 = .ok (.iinc 10 1, 3) := by decide +kernel
theorem dX12_comes_55 : decode cX12_comes 55 = .ok (.goto (-27), 3) := by decide +kernel
theorem dX12_comes_58 : decode cX12_comes 58 = .ok (.aload_n 0, 1) := by decide +kernel
theorem dX12_comes_59 : decode cX12_comes 59 = .ok (.iload 7, 2) := by decide +kernel
theorem dX12_comes_61 : decode cX12_comes 61 = .ok (.iload 8, 2) := by decide +kernel
theorem dX12_comes_63 : decode cX12_comes 63 = .ok (.invokevirtual 189, 3) := by decide +kernel
theorem dX12_comes_66 : decode cX12_comes 66 = .ok (.aload_n 0, 1) := by decide +kernel
theorem dX12_comes_67 : decode cX12_comes 67 = .ok (.getfield 63, 3) := by decide +kernel
theorem dX12_comes_70 : decode cX12_comes 70 = .ok (.iload_n 1, 1) := by decide +kernel
theorem dX12_comes_71 : decode cX12_comes 71 = .ok (.iaload, 1) := by decide +kernel
theorem dX12_comes_72 : decode cX12_comes 72 = .ok (.istore 10, 2) := by decide +kernel
theorem dX12_comes_74 : decode cX12_comes 74 = .ok (.aload_n 0, 1) := by decide +kernel
theorem dX12_comes_75 : decode cX12_comes 75 = .ok (.iload 10, 2) := by decide +kernel
theorem dX12_comes_77 : decode cX12_comes 77 = .ok (.ifCond .ne 7, 3) := by decide +kernel
theorem dX12_comes_80 : decode cX12_comes 80 = .ok (.iconst 0, 1) := by decide +kernel
theorem dX12_comes_81 : decode cX12_comes 81 = .ok (.goto 14, 3) := by decide +kernel
theorem dX12_comes_84 : decode cX12_comes 84 = .ok (.iload 10, 2) := by decide +kernel
theorem dX12_comes_86 : decode cX12_comes 86 = .ok (.iconst 2, 1) := by decide +kernel
theorem dX12_comes_87 : decode cX12_comes 87 = .ok (.if_icmp .ne 7, 3) := by decide +kernel
theorem dX12_comes_90 : decode cX12_comes 90 = .ok (.iconst 2, 1) := by decide +kernel
theorem dX12_comes_91 : decode cX12_comes 91 = .ok (.goto 4, 3) := by decide +kernel
theorem dX12_comes_94 : decode cX12_comes 94 = .ok (.iconst 1, 1) := by decide +kernel
theorem dX12_comes_95 : decode cX12_comes 95 = .ok (.iload 9, 2) := by decide +kernel
theorem dX12_comes_97 : decode cX12_comes 97 = .ok (.invokevirtual 99, 3) := by decide +kernel
theorem dX12_comes_100 : decode cX12_comes 100 = .ok (.istore 11, 2) := by decide +kernel
theorem dX12_comes_102 : decode cX12_comes 102 = .ok (.aload_n 0, 1) := by decide +kernel
theorem dX12_comes_103 : decode cX12_comes 103 = .ok (.dup, 1) := by decide +kernel
theorem dX12_comes_104 : decode cX12_comes 104 = .ok (.getfield 217, 3) := by decide +kernel
theorem dX12_comes_107 : decode cX12_comes 107 = .ok (.iload_n 3, 1) := by decide +kernel
theorem dX12_comes_108 : decode cX12_comes 108 = .ok (.iconst 1, 1) := by decide +kernel
theorem dX12_comes_109 : decode cX12_comes 109 = .ok (.iadd, 1) := by decide +kernel
theorem dX12_comes_110 : decode cX12_comes 110 = .ok (.iadd, 1) := by decide +kernel
theorem dX12_comes_111 : decode cX12_comes 111 = .ok (.putfield 217, 3) := by decide +kernel
theorem dX12_comes_114 : decode cX12_comes 114 = .ok (.iload 4, 2) := by decide +kernel
theorem dX12_comes_116 : decode cX12_comes 116 = .ok (.iconst (-1), 1) := by decide +kernel
theorem dX12_comes_117 : decode cX12_comes 117 = .ok (.if_icmp .eq 11, 3) := by decide +kernel
theorem dX12_comes_120 : decode cX12_comes 120 = .ok (.aload_n 0, 1) := by decide +kernel
theorem dX12_comes_121 : decode cX12_comes 121 = .ok (.getfield 23, 3) := by decide +kernel
theorem dX12_comes_124 : decode cX12_comes 124 = .ok (.iload 4, 2) := by decide +kernel
theorem dX12_comes_126 : decode cX12_comes 126 = .ok (.iconst 1, 1) := by decide +kernel
theorem dX12_comes_127 : decode cX12_comes 127 = .ok (.bastore, 1) := by decide +kernel
theorem dX12_comes_128 : decode cX12_comes 128 = .ok (.iload 10, 2) := by decide +kernel
theorem dX12_comes_130 : decode cX12_comes 130 = .ok (.ifCond .ne 19, 3) := by decide +kernel
theorem dX12_comes_133 : decode cX12_comes 133 = .ok (.aload_n 0, 1) := by decide +kernel
theorem dX12_comes_134 : decode cX12_comes 134 = .ok (.iload 11, 2) := by decide +kernel
theorem dX12_comes_136 : decode cX12_comes 136 = .ok (.aload_n 0, 1) := by decide +kernel
theorem dX12_comes_137 : decode cX12_comes 137 = .ok (.getfield 69, 3) := by decide +kernel
theorem dX12_comes_140 : decode cX12_comes 140 = .ok (.iload_n 1, 1) := by decide +kernel
theorem dX12_comes_141 : decode cX12_comes 141 = .ok (.iaload, 1) := by decide +kernel
theorem dX12_comes_142 : decode cX12_comes 142 = .ok (.iconst 1, 1) := by decide +kernel
theorem dX12_comes_143 : decode cX12_comes 143 = .ok (.invokevirtual 206, 3) := by decide +kernel
theorem dX12_comes_146 : decode cX12_comes 146 = .ok (.goto 118, 3) := by decide +kernel
theorem dX12_comes_149 : decode cX12_comes 149 = .ok (.iload 10, 2) := by decide +kernel
theorem dX12_comes_151 : decode cX12_comes 151 = .ok (.iconst 1, 1) := by decide +kernel
theorem dX12_comes_152 : decode cX12_comes 152 = .ok (.if_icmp .ne 72, 3) := by decide +kernel
theorem dX12_comes_155 : decode cX12_comes 155 = .ok (.aload_n 0, 1) := by decide +kernel
theorem dX12_comes_156 : decode cX12_comes 156 = .ok (.getfield 29, 3) := by decide +kernel
theorem dX12_comes_159 : decode cX12_comes 159 = .ok (.iload 11, 2) := by decide +kernel
theorem dX12_comes_161 : decode cX12_comes 161 = .ok (.aload_n 0, 1) := by decide +kernel
theorem dX12_comes_162 : decode cX12_comes 162 = .ok (.getfield 112, 3) := by decide +kernel
theorem dX12_comes_165 : decode cX12_comes 165 = .ok (.iastore, 1) := by decide +kernel
theorem dX12_comes_166 : decode cX12_comes 166 = .ok (.aload_n 0, 1) := by decide +kernel
theorem dX12_comes_167 : decode cX12_comes 167 = .ok (.getfield 41, 3) := by decide +kernel
theorem dX12_comes_170 : decode cX12_comes 170 = .ok (.aload_n 0, 1) := by decide +kernel
theorem dX12_comes_171 : decode cX12_comes 171 = .ok (.getfield 112, 3) := by decide +kernel
theorem dX12_comes_174 : decode cX12_comes 174 = .ok (.aload_n 0, 1) := by decide +kernel
theorem dX12_comes_175 : decode cX12_comes 175 = .ok (.getfield 72, 3) := by decide +kernel
theorem dX12_comes_178 : decode cX12_comes 178 = .ok (.iload_n 1, 1) := by decide +kernel
theorem dX12_comes_179 : decode cX12_comes 179 = .ok (.laload, 1) := by decide +kernel
theorem dX12_comes_180 : decode cX12_comes 180 = .ok (.lastore, 1) := by decide +kernel
theorem dX12_comes_181 : decode cX12_comes 181 = .ok (.aload_n 0, 1) := by decide +kernel
theorem dX12_comes_182 : decode cX12_comes 182 = .ok (.getfield 45, 3) := by decide +kernel
theorem dX12_comes_185 : decode cX12_comes 185 = .ok (.aload_n 0, 1) := by decide +kernel
theorem dX12_comes_186 : decode cX12_comes 186 = .ok (.getfield 112, 3) := by decide +kernel
theorem dX12_comes_189 : decode cX12_comes 189 = .ok (.aload_n 0, 1) := by decide +kernel
theorem dX12_comes_190 : decode cX12_comes 190 = .ok (.getfield 69, 3) := by decide +kernel
theorem dX12_comes_193 : decode cX12_comes 193 = .ok (.iload_n 1, 1) := by decide +kernel
theorem dX12_comes_194 : decode cX12_comes 194 = .ok (.iaload, 1) := by decide +kernel
theorem dX12_comes_195 : decode cX12_comes 195 = .ok (.iastore, 1) := by decide +kernel
theorem dX12_comes_196 : decode cX12_comes 196 = .ok (.aload_n 0, 1) := by decide +kernel
theorem dX12_comes_197 : decode cX12_comes 197 = .ok (.dup, 1) := by decide +kernel
theorem dX12_comes_198 : decode cX12_comes 198 = .ok (.getfield 112, 3) := by decide +kernel
theorem dX12_comes_201 : decode cX12_comes 201 = .ok (.iconst 1, 1) := by decide +kernel
theorem dX12_comes_202 : decode cX12_comes 202 = .ok (.iadd, 1) := by decide +kernel
theorem dX12_comes_203 : decode cX12_comes 203 = .ok (.putfield 112, 3) := by decide +kernel
theorem dX12_comes_206 : decode cX12_comes 206 = .ok (.aload_n 0, 1) := by decide +kernel
theorem dX12_comes_207 : decode cX12_comes 207 = .ok (.dup, 1) := by decide +kernel
theorem dX12_comes_208 : decode cX12_comes 208 = .ok (.getfield 220, 3) := by decide +kernel
theorem dX12_comes_211 : decode cX12_comes 211 = .ok (.aload_n 0, 1) := by decide +kernel
theorem dX12_comes_212 : decode cX12_comes 212 = .ok (.getfield 72, 3) := by decide +kernel
theorem dX12_comes_215 : decode cX12_comes 215 = .ok (.iload_n 1, 1) := by decide +kernel
theorem dX12_comes_216 : decode cX12_comes 216 = .ok (.laload, 1) := by decide +kernel
theorem dX12_comes_217 : decode cX12_comes 217 = .ok (.ladd, 1) := by decide +kernel
theorem dX12_comes_218 : decode cX12_comes 218 = .ok (.putfield 220, 3) := by decide +kernel
theorem dX12_comes_221 : decode cX12_comes 221 = .ok (.goto 43, 3) := by decide +kernel
theorem dX12_comes_224 : decode cX12_comes 224 = .ok (.iload 10, 2) := by decide +kernel
theorem dX12_comes_226 : decode cX12_comes 226 = .ok (.iconst 2, 1) := by decide +kernel
theorem dX12_comes_227 : decode cX12_comes 227 = .ok (.if_icmp .ne 28, 3) := by decide +kernel
theorem dX12_comes_230 : decode cX12_comes 230 = .ok (.aload_n 0, 1) := by decide +kernel
theorem dX12_comes_231 : decode cX12_comes 231 = .ok (.getfield 29, 3) := by decide +kernel
theorem dX12_comes_234 : decode cX12_comes 234 = .ok (.iload 11, 2) := by decide +kernel
theorem dX12_comes_236 : decode cX12_comes 236 = .ok (.aload_n 0, 1) := by decide +kernel
theorem dX12_comes_237 : decode cX12_comes 237 = .ok (.getfield 69, 3) := by decide +kernel
theorem dX12_comes_240 : decode cX12_comes 240 = .ok (.iload_n 1, 1) := by decide +kernel
theorem dX12_comes_241 : decode cX12_comes 241 = .ok (.iaload, 1) := by decide +kernel
theorem dX12_comes_242 : decode cX12_comes 242 = .ok (.iastore, 1) := by decide +kernel
theorem dX12_comes_243 : decode cX12_comes 243 = .ok (.aload_n 0, 1) := by decide +kernel
theorem dX12_comes_244 : decode cX12_comes 244 = .ok (.getfield 20, 3) := by decide +kernel
theorem dX12_comes_247 : decode cX12_comes 247 = .ok (.iload 11, 2) := by decide +kernel
theorem dX12_comes_249 : decode cX12_comes 249 = .ok (.iload 5, 2) := by decide +kernel
theorem dX12_comes_251 : decode cX12_comes 251 = .ok (.bastore, 1) := by decide +kernel
theorem dX12_comes_252 : decode cX12_comes 252 = .ok (.goto 12, 3) := by decide +kernel
theorem dX12_comes_255 : decode cX12_comes 255 = .ok (.aload_n 0, 1) := by decide +kernel
theorem dX12_comes_256 : decode cX12_comes 256 = .ok (.getfield 29, 3) := by decide +kernel
theorem dX12_comes_259 : decode cX12_comes 259 = .ok (.iload 11, 2) := by decide +kernel
theorem dX12_comes_261 : decode cX12_comes 261 = .ok (.iload 6, 2) := by decide +kernel
theorem dX12_comes_263 : decode cX12_comes 263 = .ok (.iastore, 1) := by decide +kernel
theorem dX12_comes_264 : decode cX12_comes 264 = .ok (.iload 11, 2) := by decide +kernel
theorem dX12_comes_266 : decode cX12_comes 266 = .ok (.ireturn, 1) := by decide +kernel
theorem dX12_isEntry_0 : decode cX12_isEntry 0 = .ok (.iload_n 1, 1) := by decide +kernel
theorem dX12_isEntry_1 : decode cX12_isEntry 1 = .ok (.ifCond .lt 15, 3) := by decide +kernel
theorem dX12_isEntry_4 : decode cX12_isEntry 4 = .ok (.iload_n 1, 1) := by decide +kernel
theorem dX12_isEntry_5 : decode cX12_isEntry 5 = .ok (.aload_n 0, 1) := by decide +kernel
theorem dX12_isEntry_6 : decode cX12_isEntry 6 = .ok (.getfield 183, 3) := by decide +kernel
theorem dX12_isEntry_9 : decode cX12_isEntry 9 = .ok (.if_icmp .ge 7, 3) := by decide +kernel
theorem dX12_isEntry_12 : decode cX12_isEntry 12 = .ok (.iconst 1, 1) := by decide +kernel
theorem dX12_isEntry_13 : decode cX12_isEntry 13 = .ok (.goto 4, 3) := by decide +kernel
theorem dX12_isEntry_16 : decode cX12_isEntry 16 = .ok (.iconst 0, 1) := by decide +kernel
theorem dX12_isEntry_17 : decode cX12_isEntry 17 = .ok (.ireturn, 1) := by decide +kernel
theorem dX12_take_0 : decode cX12_take 0 = .ok (.aload_n 0, 1) := by decide +kernel
theorem dX12_take_1 : decode cX12_take 1 = .ok (.iload_n 1, 1) := by decide +kernel
theorem dX12_take_2 : decode cX12_take 2 = .ok (.invokevirtual 230, 3) := by decide +kernel
theorem dX12_take_5 : decode cX12_take 5 = .ok (.ifCond .eq 12, 3) := by decide +kernel
theorem dX12_take_8 : decode cX12_take 8 = .ok (.aload_n 0, 1) := by decide +kernel
theorem dX12_take_9 : decode cX12_take 9 = .ok (.iload_n 1, 1) := by decide +kernel
theorem dX12_take_10 : decode cX12_take 10 = .ok (.iconst 1, 1) := by decide +kernel
theorem dX12_take_11 : decode cX12_take 11 = .ok (.invokevirtual 233, 3) := by decide +kernel
theorem dX12_take_14 : decode cX12_take 14 = .ok (.goto 5, 3) := by decide +kernel
theorem dX12_take_17 : decode cX12_take 17 = .ok (.bipush (-7), 2) := by decide +kernel
theorem dX12_take_19 : decode cX12_take 19 = .ok (.ireturn, 1) := by decide +kernel
theorem dX12_dry_0 : decode cX12_dry 0 = .ok (.aload_n 0, 1) := by decide +kernel
theorem dX12_dry_1 : decode cX12_dry 1 = .ok (.iload_n 1, 1) := by decide +kernel
theorem dX12_dry_2 : decode cX12_dry 2 = .ok (.invokevirtual 230, 3) := by decide +kernel
theorem dX12_dry_5 : decode cX12_dry 5 = .ok (.ifCond .ne 6, 3) := by decide +kernel
theorem dX12_dry_8 : decode cX12_dry 8 = .ok (.bipush (-7), 2) := by decide +kernel
theorem dX12_dry_10 : decode cX12_dry 10 = .ok (.ireturn, 1) := by decide +kernel
theorem dX12_dry_11 : decode cX12_dry 11 = .ok (.aload_n 0, 1) := by decide +kernel
theorem dX12_dry_12 : decode cX12_dry 12 = .ok (.iload_n 1, 1) := by decide +kernel
theorem dX12_dry_13 : decode cX12_dry 13 = .ok (.iconst 0, 1) := by decide +kernel
theorem dX12_dry_14 : decode cX12_dry 14 = .ok (.invokevirtual 233, 3) := by decide +kernel
theorem dX12_dry_17 : decode cX12_dry 17 = .ok (.istore_n 2, 1) := by decide +kernel
theorem dX12_dry_18 : decode cX12_dry 18 = .ok (.iload_n 2, 1) := by decide +kernel
theorem dX12_dry_19 : decode cX12_dry 19 = .ok (.ifCond .le 7, 3) := by decide +kernel
theorem dX12_dry_22 : decode cX12_dry 22 = .ok (.iconst 0, 1) := by decide +kernel
theorem dX12_dry_23 : decode cX12_dry 23 = .ok (.goto 4, 3) := by decide +kernel
theorem dX12_dry_26 : decode cX12_dry 26 = .ok (.iload_n 2, 1) := by decide +kernel
theorem dX12_dry_27 : decode cX12_dry 27 = .ok (.ireturn, 1) := by decide +kernel
theorem dX12_finish_0 : decode cX12_finish 0 = .ok (.iconst 0, 1) := by decide +kernel
theorem dX12_finish_1 : decode cX12_finish 1 = .ok (.istore_n 1, 1) := by decide +kernel
theorem dX12_finish_2 : decode cX12_finish 2 = .ok (.iconst 0, 1) := by decide +kernel
theorem dX12_finish_3 : decode cX12_finish 3 = .ok (.istore_n 2, 1) := by decide +kernel
theorem dX12_finish_4 : decode cX12_finish 4 = .ok (.iload_n 2, 1) := by decide +kernel
theorem dX12_finish_5 : decode cX12_finish 5 = .ok (.aload_n 0, 1) := by decide +kernel
theorem dX12_finish_6 : decode cX12_finish 6 = .ok (.getfield 115, 3) := by decide +kernel
theorem dX12_finish_9 : decode cX12_finish 9 = .ok (.if_icmp .ge 82, 3) := by decide +kernel
theorem dX12_finish_12 : decode cX12_finish 12 = .ok (.aload_n 0, 1) := by decide +kernel
theorem dX12_finish_13 : decode cX12_finish 13 = .ok (.getfield 38, 3) := by decide +kernel
theorem dX12_finish_16 : decode cX12_finish 16 = .ok (.iload_n 2, 1) := by decide +kernel
theorem dX12_finish_17 : decode cX12_finish 17 = .ok (.iaload, 1) := by decide +kernel
theorem dX12_finish_18 : decode cX12_finish 18 = .ok (.iconst (-1), 1) := by decide +kernel
theorem dX12_finish_19 : decode cX12_finish 19 = .ok (.if_icmp .eq 31, 3) := by decide +kernel
theorem dX12_finish_22 : decode cX12_finish 22 = .ok (.aload_n 0, 1) := by decide +kernel
theorem dX12_finish_23 : decode cX12_finish 23 = .ok (.getfield 16, 3) := by decide +kernel
theorem dX12_finish_26 : decode cX12_finish 26 = .ok (.iload_n 2, 1) := by decide +kernel
theorem dX12_finish_27 : decode cX12_finish 27 = .ok (.aload_n 0, 1) := by decide +kernel
theorem dX12_finish_28 : decode cX12_finish 28 = .ok (.getfield 38, 3) := by decide +kernel
theorem dX12_finish_31 : decode cX12_finish 31 = .ok (.iload_n 2, 1) := by decide +kernel
theorem dX12_finish_32 : decode cX12_finish 32 = .ok (.iaload, 1) := by decide +kernel
theorem dX12_finish_33 : decode cX12_finish 33 = .ok (.iconst 1, 1) := by decide +kernel
theorem dX12_finish_34 : decode cX12_finish 34 = .ok (.if_icmp .ne 7, 3) := by decide +kernel
theorem dX12_finish_37 : decode cX12_finish 37 = .ok (.iconst 1, 1) := by decide +kernel
theorem dX12_finish_38 : decode cX12_finish 38 = .ok (.goto 4, 3) := by decide +kernel
theorem dX12_finish_41 : decode cX12_finish 41 = .ok (.iconst 0, 1) := by decide +kernel
theorem dX12_finish_42 : decode cX12_finish 42 = .ok (.bastore, 1) := by decide +kernel
theorem dX12_finish_43 : decode cX12_finish 43 = .ok (.aload_n 0, 1) := by decide +kernel
theorem dX12_finish_44 : decode cX12_finish 44 = .ok (.getfield 38, 3) := by decide +kernel
theorem dX12_finish_47 : decode cX12_finish 47 = .ok (.iload_n 2, 1) := by decide +kernel
theorem dX12_finish_48 : decode cX12_finish 48 = .ok (.iconst (-1), 1) := by decide +kernel
theorem dX12_finish_49 : decode cX12_finish 49 = .ok (.iastore, 1) := by decide +kernel
theorem dX12_finish_50 : decode cX12_finish 50 = .ok (.iload_n 1, 1) := by decide +kernel
theorem dX12_finish_51 : decode cX12_finish 51 = .ok (.aload_n 0, 1) := by decide +kernel
theorem dX12_finish_52 : decode cX12_finish 52 = .ok (.getfield 23, 3) := by decide +kernel
theorem dX12_finish_55 : decode cX12_finish 55 = .ok (.iload_n 2, 1) := by decide +kernel
theorem dX12_finish_56 : decode cX12_finish 56 = .ok (.baload, 1) := by decide +kernel
theorem dX12_finish_57 : decode cX12_finish 57 = .ok (.ifCond .ne 25, 3) := by decide +kernel
theorem dX12_finish_60 : decode cX12_finish 60 = .ok (.aload_n 0, 1) := by decide +kernel
theorem dX12_finish_61 : decode cX12_finish 61 = .ok (.getfield 13, 3) := by decide +kernel
theorem dX12_finish_64 : decode cX12_finish 64 = .ok (.iload_n 2, 1) := by decide +kernel
theorem dX12_finish_65 : decode cX12_finish 65 = .ok (.iaload, 1) := by decide +kernel
theorem dX12_finish_66 : decode cX12_finish 66 = .ok (.ifCond .ne 16, 3) := by decide +kernel
theorem dX12_finish_69 : decode cX12_finish 69 = .ok (.aload_n 0, 1) := by decide +kernel
theorem dX12_finish_70 : decode cX12_finish 70 = .ok (.getfield 16, 3) := by decide +kernel
theorem dX12_finish_73 : decode cX12_finish 73 = .ok (.iload_n 2, 1) := by decide +kernel
theorem dX12_finish_74 : decode cX12_finish 74 = .ok (.baload, 1) := by decide +kernel
theorem dX12_finish_75 : decode cX12_finish 75 = .ok (.ifCond .eq 7, 3) := by decide +kernel
theorem dX12_finish_78 : decode cX12_finish 78 = .ok (.iconst 1, 1) := by decide +kernel
theorem dX12_finish_79 : decode cX12_finish 79 = .ok (.goto 4, 3) := by decide +kernel
theorem dX12_finish_82 : decode cX12_finish 82 = .ok (.iconst 0, 1) := by decide +kernel
theorem dX12_finish_83 : decode cX12_finish 83 = .ok (.iadd, 1) := by decide +kernel
theorem dX12_finish_84 : decode cX12_finish 84 = .ok (.istore_n 1, 1) := by decide +kernel
theorem dX12_finish_85 : decode cX12_finish 85 = .ok (.iinc 2 1, 3) := by decide +kernel
theorem dX12_finish_88 : decode cX12_finish 88 = .ok (.goto (-84), 3) := by decide +kernel
theorem dX12_finish_91 : decode cX12_finish 91 = .ok (.aload_n 0, 1) := by decide +kernel
theorem dX12_finish_92 : decode cX12_finish 92 = .ok (.iconst 0, 1) := by decide +kernel
theorem dX12_finish_93 : decode cX12_finish 93 = .ok (.putfield 227, 3) := by decide +kernel
theorem dX12_finish_96 : decode cX12_finish 96 = .ok (.iload_n 1, 1) := by decide +kernel
theorem dX12_finish_97 : decode cX12_finish 97 = .ok (.ireturn, 1) := by decide +kernel
theorem dX12_limit_0 : decode cX12_limit 0 = .ok (.iload_n 1, 1) := by decide +kernel
theorem dX12_limit_1 : decode cX12_limit 1 = .ok (.ifCond .lt 14, 3) := by decide +kernel
theorem dX12_limit_4 : decode cX12_limit 4 = .ok (.iload_n 1, 1) := by decide +kernel
theorem dX12_limit_5 : decode cX12_limit 5 = .ok (.iconst 1, 1) := by decide +kernel
theorem dX12_limit_6 : decode cX12_limit 6 = .ok (.if_icmp .gt 9, 3) := by decide +kernel
theorem dX12_limit_9 : decode cX12_limit 9 = .ok (.lload_n 2, 1) := by decide +kernel
theorem dX12_limit_10 : decode cX12_limit 10 = .ok (.lconst 0, 1) := by decide +kernel
theorem dX12_limit_11 : decode cX12_limit 11 = .ok (.lcmp, 1) := by decide +kernel
theorem dX12_limit_12 : decode cX12_limit 12 = .ok (.ifCond .ge 7, 3) := by decide +kernel
theorem dX12_limit_15 : decode cX12_limit 15 = .ok (.ldc2_w 236, 3) := by decide +kernel
theorem dX12_limit_18 : decode cX12_limit 18 = .ok (.lreturn, 1) := by decide +kernel
theorem dX12_limit_19 : decode cX12_limit 19 = .ok (.iload_n 1, 1) := by decide +kernel
theorem dX12_limit_20 : decode cX12_limit 20 = .ok (.ifCond .ne 10, 3) := by decide +kernel
theorem dX12_limit_23 : decode cX12_limit 23 = .ok (.aload_n 0, 1) := by decide +kernel
theorem dX12_limit_24 : decode cX12_limit 24 = .ok (.getfield 77, 3) := by decide +kernel
theorem dX12_limit_27 : decode cX12_limit 27 = .ok (.goto 7, 3) := by decide +kernel
theorem dX12_limit_30 : decode cX12_limit 30 = .ok (.aload_n 0, 1) := by decide +kernel
theorem dX12_limit_31 : decode cX12_limit 31 = .ok (.getfield 83, 3) := by decide +kernel
theorem dX12_limit_34 : decode cX12_limit 34 = .ok (.lstore 4, 2) := by decide +kernel
theorem dX12_limit_36 : decode cX12_limit 36 = .ok (.aload_n 0, 1) := by decide +kernel
theorem dX12_limit_37 : decode cX12_limit 37 = .ok (.iload_n 1, 1) := by decide +kernel
theorem dX12_limit_38 : decode cX12_limit 38 = .ok (.ifCond .ne 7, 3) := by decide +kernel
theorem dX12_limit_41 : decode cX12_limit 41 = .ok (.lload_n 2, 1) := by decide +kernel
theorem dX12_limit_42 : decode cX12_limit 42 = .ok (.goto 7, 3) := by decide +kernel
theorem dX12_limit_45 : decode cX12_limit 45 = .ok (.aload_n 0, 1) := by decide +kernel
theorem dX12_limit_46 : decode cX12_limit 46 = .ok (.getfield 77, 3) := by decide +kernel
theorem dX12_limit_49 : decode cX12_limit 49 = .ok (.putfield 77, 3) := by decide +kernel
theorem dX12_limit_52 : decode cX12_limit 52 = .ok (.aload_n 0, 1) := by decide +kernel
theorem dX12_limit_53 : decode cX12_limit 53 = .ok (.iload_n 1, 1) := by decide +kernel
theorem dX12_limit_54 : decode cX12_limit 54 = .ok (.iconst 1, 1) := by decide +kernel
theorem dX12_limit_55 : decode cX12_limit 55 = .ok (.if_icmp .ne 7, 3) := by decide +kernel
theorem dX12_limit_58 : decode cX12_limit 58 = .ok (.lload_n 2, 1) := by decide +kernel
theorem dX12_limit_59 : decode cX12_limit 59 = .ok (.goto 7, 3) := by decide +kernel
theorem dX12_limit_62 : decode cX12_limit 62 = .ok (.aload_n 0, 1) := by decide +kernel
theorem dX12_limit_63 : decode cX12_limit 63 = .ok (.getfield 83, 3) := by decide +kernel
theorem dX12_limit_66 : decode cX12_limit 66 = .ok (.putfield 83, 3) := by decide +kernel
theorem dX12_limit_69 : decode cX12_limit 69 = .ok (.lload 4, 2) := by decide +kernel
theorem dX12_limit_71 : decode cX12_limit 71 = .ok (.lreturn, 1) := by decide +kernel
theorem dX12_find_0 : decode cX12_find 0 = .ok (.aload_n 0, 1) := by decide +kernel
theorem dX12_find_1 : decode cX12_find 1 = .ok (.iload_n 1, 1) := by decide +kernel
theorem dX12_find_2 : decode cX12_find 2 = .ok (.invokevirtual 149, 3) := by decide +kernel
theorem dX12_find_5 : decode cX12_find 5 = .ok (.ifCond .ne 6, 3) := by decide +kernel
theorem dX12_find_8 : decode cX12_find 8 = .ok (.bipush (-7), 2) := by decide +kernel
theorem dX12_find_10 : decode cX12_find 10 = .ok (.ireturn, 1) := by decide +kernel
theorem dX12_find_11 : decode cX12_find 11 = .ok (.iconst 1, 1) := by decide +kernel
theorem dX12_find_12 : decode cX12_find 12 = .ok (.istore_n 2, 1) := by decide +kernel
theorem dX12_find_13 : decode cX12_find 13 = .ok (.iconst 0, 1) := by decide +kernel
theorem dX12_find_14 : decode cX12_find 14 = .ok (.istore_n 3, 1) := by decide +kernel
theorem dX12_find_15 : decode cX12_find 15 = .ok (.iload_n 3, 1) := by decide +kernel
theorem dX12_find_16 : decode cX12_find 16 = .ok (.aload_n 0, 1) := by decide +kernel
theorem dX12_find_17 : decode cX12_find 17 = .ok (.getfield 48, 3) := by decide +kernel
theorem dX12_find_20 : decode cX12_find 20 = .ok (.iload_n 1, 1) := by decide +kernel
theorem dX12_find_21 : decode cX12_find 21 = .ok (.iaload, 1) := by decide +kernel
theorem dX12_find_22 : decode cX12_find 22 = .ok (.if_icmp .ge 47, 3) := by decide +kernel
theorem dX12_find_25 : decode cX12_find 25 = .ok (.aload_n 0, 1) := by decide +kernel
theorem dX12_find_26 : decode cX12_find 26 = .ok (.iload_n 1, 1) := by decide +kernel
theorem dX12_find_27 : decode cX12_find 27 = .ok (.iload_n 3, 1) := by decide +kernel
theorem dX12_find_28 : decode cX12_find 28 = .ok (.invokevirtual 189, 3) := by decide +kernel
theorem dX12_find_31 : decode cX12_find 31 = .ok (.aload_n 0, 1) := by decide +kernel
theorem dX12_find_32 : decode cX12_find 32 = .ok (.getfield 13, 3) := by decide +kernel
theorem dX12_find_35 : decode cX12_find 35 = .ok (.iload_n 2, 1) := by decide +kernel
theorem dX12_find_36 : decode cX12_find 36 = .ok (.iaload, 1) := by decide +kernel
theorem dX12_find_37 : decode cX12_find 37 = .ok (.ifCond .ne 11, 3) := by decide +kernel
theorem dX12_find_40 : decode cX12_find 40 = .ok (.aload_n 0, 1) := by decide +kernel
theorem dX12_find_41 : decode cX12_find 41 = .ok (.iload_n 2, 1) := by decide +kernel
theorem dX12_find_42 : decode cX12_find 42 = .ok (.invokevirtual 171, 3) := by decide +kernel
theorem dX12_find_45 : decode cX12_find 45 = .ok (.goto 4, 3) := by decide +kernel
theorem dX12_find_48 : decode cX12_find 48 = .ok (.iconst (-1), 1) := by decide +kernel
theorem dX12_find_49 : decode cX12_find 49 = .ok (.istore 4, 2) := by decide +kernel
theorem dX12_find_51 : decode cX12_find 51 = .ok (.iload 4, 2) := by decide +kernel
theorem dX12_find_53 : decode cX12_find 53 = .ok (.iconst (-1), 1) := by decide +kernel
theorem dX12_find_54 : decode cX12_find 54 = .ok (.if_icmp .ne 6, 3) := by decide +kernel
theorem dX12_find_57 : decode cX12_find 57 = .ok (.bipush (-2), 2) := by decide +kernel
theorem dX12_find_59 : decode cX12_find 59 = .ok (.ireturn, 1) := by decide +kernel
theorem dX12_find_60 : decode cX12_find 60 = .ok (.iload 4, 2) := by decide +kernel
theorem dX12_find_62 : decode cX12_find 62 = .ok (.istore_n 2, 1) := by decide +kernel
theorem dX12_find_63 : decode cX12_find 63 = .ok (.iinc 3 1, 3) := by decide +kernel
theorem dX12_find_66 : decode cX12_find 66 = .ok (.goto (-51), 3) := by decide +kernel
theorem dX12_find_69 : decode cX12_find 69 = .ok (.iload_n 2, 1) := by decide +kernel
theorem dX12_find_70 : decode cX12_find 70 = .ok (.ireturn, 1) := by decide +kernel
theorem dX12_node_0 : decode cX12_node 0 = .ok (.iload_n 1, 1) := by decide +kernel
theorem dX12_node_1 : decode cX12_node 1 = .ok (.ifCond .lt 20, 3) := by decide +kernel
theorem dX12_node_4 : decode cX12_node 4 = .ok (.iload_n 1, 1) := by decide +kernel
theorem dX12_node_5 : decode cX12_node 5 = .ok (.aload_n 0, 1) := by decide +kernel
theorem dX12_node_6 : decode cX12_node 6 = .ok (.getfield 115, 3) := by decide +kernel
theorem dX12_node_9 : decode cX12_node 9 = .ok (.if_icmp .ge 12, 3) := by decide +kernel
theorem dX12_node_12 : decode cX12_node 12 = .ok (.iload_n 2, 1) := by decide +kernel
theorem dX12_node_13 : decode cX12_node 13 = .ok (.ifCond .lt 8, 3) := by decide +kernel
theorem dX12_node_16 : decode cX12_node 16 = .ok (.iload_n 2, 1) := by decide +kernel
theorem dX12_node_17 : decode cX12_node 17 = .ok (.iconst 3, 1) := by decide +kernel
theorem dX12_node_18 : decode cX12_node 18 = .ok (.if_icmp .le 6, 3) := by decide +kernel
theorem dX12_node_21 : decode cX12_node 21 = .ok (.bipush (-7), 2) := by decide +kernel
theorem dX12_node_23 : decode cX12_node 23 = .ok (.ireturn, 1) := by decide +kernel
theorem dX12_node_24 : decode cX12_node 24 = .ok (.iload_n 2, 1) := by decide +kernel
theorem dX12_node_25 : decode cX12_node 25 = .ok (.ifCond .ne 71, 3) := by decide +kernel
theorem dX12_node_28 : decode cX12_node 28 = .ok (.aload_n 0, 1) := by decide +kernel
theorem dX12_node_29 : decode cX12_node 29 = .ok (.getfield 23, 3) := by decide +kernel
theorem dX12_node_32 : decode cX12_node 32 = .ok (.iload_n 1, 1) := by decide +kernel
theorem dX12_node_33 : decode cX12_node 33 = .ok (.baload, 1) := by decide +kernel
theorem dX12_node_34 : decode cX12_node 34 = .ok (.ifCond .eq 7, 3) := by decide +kernel
theorem dX12_node_37 : decode cX12_node 37 = .ok (.iconst (-1), 1) := by decide +kernel
theorem dX12_node_38 : decode cX12_node 38 = .ok (.goto 57, 3) := by decide +kernel
theorem dX12_node_41 : decode cX12_node 41 = .ok (.aload_n 0, 1) := by decide +kernel
theorem dX12_node_42 : decode cX12_node 42 = .ok (.getfield 13, 3) := by decide +kernel
theorem dX12_node_45 : decode cX12_node 45 = .ok (.iload_n 1, 1) := by decide +kernel
theorem dX12_node_46 : decode cX12_node 46 = .ok (.iaload, 1) := by decide +kernel
theorem dX12_node_47 : decode cX12_node 47 = .ok (.ifCond .ne 20, 3) := by decide +kernel
theorem dX12_node_50 : decode cX12_node 50 = .ok (.aload_n 0, 1) := by decide +kernel
theorem dX12_node_51 : decode cX12_node 51 = .ok (.getfield 16, 3) := by decide +kernel
theorem dX12_node_54 : decode cX12_node 54 = .ok (.iload_n 1, 1) := by decide +kernel
theorem dX12_node_55 : decode cX12_node 55 = .ok (.baload, 1) := by decide +kernel
theorem dX12_node_56 : decode cX12_node 56 = .ok (.ifCond .eq 7, 3) := by decide +kernel
theorem dX12_node_59 : decode cX12_node 59 = .ok (.iconst 1, 1) := by decide +kernel
theorem dX12_node_60 : decode cX12_node 60 = .ok (.goto 35, 3) := by decide +kernel
theorem dX12_node_63 : decode cX12_node 63 = .ok (.iconst 0, 1) := by decide +kernel
theorem dX12_node_64 : decode cX12_node 64 = .ok (.goto 31, 3) := by decide +kernel
theorem dX12_node_67 : decode cX12_node 67 = .ok (.aload_n 0, 1) := by decide +kernel
theorem dX12_node_68 : decode cX12_node 68 = .ok (.getfield 13, 3) := by decide +kernel
theorem dX12_node_71 : decode cX12_node 71 = .ok (.iload_n 1, 1) := by decide +kernel
theorem dX12_node_72 : decode cX12_node 72 = .ok (.iaload, 1) := by decide +kernel
theorem dX12_node_73 : decode cX12_node 73 = .ok (.iconst 1, 1) := by decide +kernel
theorem dX12_node_74 : decode cX12_node 74 = .ok (.if_icmp .ne 7, 3) := by decide +kernel
theorem dX12_node_77 : decode cX12_node 77 = .ok (.iconst 2, 1) := by decide +kernel
theorem dX12_node_78 : decode cX12_node 78 = .ok (.goto 17, 3) := by decide +kernel
theorem dX12_node_81 : decode cX12_node 81 = .ok (.aload_n 0, 1) := by decide +kernel
theorem dX12_node_82 : decode cX12_node 82 = .ok (.getfield 20, 3) := by decide +kernel
theorem dX12_node_85 : decode cX12_node 85 = .ok (.iload_n 1, 1) := by decide +kernel
theorem dX12_node_86 : decode cX12_node 86 = .ok (.baload, 1) := by decide +kernel
theorem dX12_node_87 : decode cX12_node 87 = .ok (.ifCond .eq 7, 3) := by decide +kernel
theorem dX12_node_90 : decode cX12_node 90 = .ok (.iconst 4, 1) := by decide +kernel
theorem dX12_node_91 : decode cX12_node 91 = .ok (.goto 4, 3) := by decide +kernel
theorem dX12_node_94 : decode cX12_node 94 = .ok (.iconst 3, 1) := by decide +kernel
theorem dX12_node_95 : decode cX12_node 95 = .ok (.ireturn, 1) := by decide +kernel
theorem dX12_node_96 : decode cX12_node 96 = .ok (.iload_n 2, 1) := by decide +kernel
theorem dX12_node_97 : decode cX12_node 97 = .ok (.iconst 1, 1) := by decide +kernel
theorem dX12_node_98 : decode cX12_node 98 = .ok (.if_icmp .ne 10, 3) := by decide +kernel
theorem dX12_node_101 : decode cX12_node 101 = .ok (.aload_n 0, 1) := by decide +kernel
theorem dX12_node_102 : decode cX12_node 102 = .ok (.getfield 26, 3) := by decide +kernel
theorem dX12_node_105 : decode cX12_node 105 = .ok (.iload_n 1, 1) := by decide +kernel
theorem dX12_node_106 : decode cX12_node 106 = .ok (.iaload, 1) := by decide +kernel
theorem dX12_node_107 : decode cX12_node 107 = .ok (.ireturn, 1) := by decide +kernel
theorem dX12_node_108 : decode cX12_node 108 = .ok (.iload_n 2, 1) := by decide +kernel
theorem dX12_node_109 : decode cX12_node 109 = .ok (.iconst 3, 1) := by decide +kernel
theorem dX12_node_110 : decode cX12_node 110 = .ok (.if_icmp .ne 10, 3) := by decide +kernel
theorem dX12_node_113 : decode cX12_node 113 = .ok (.aload_n 0, 1) := by decide +kernel
theorem dX12_node_114 : decode cX12_node 114 = .ok (.getfield 32, 3) := by decide +kernel
theorem dX12_node_117 : decode cX12_node 117 = .ok (.iload_n 1, 1) := by decide +kernel
theorem dX12_node_118 : decode cX12_node 118 = .ok (.iaload, 1) := by decide +kernel
theorem dX12_node_119 : decode cX12_node 119 = .ok (.ireturn, 1) := by decide +kernel
theorem dX12_node_120 : decode cX12_node 120 = .ok (.aload_n 0, 1) := by decide +kernel
theorem dX12_node_121 : decode cX12_node 121 = .ok (.getfield 23, 3) := by decide +kernel
theorem dX12_node_124 : decode cX12_node 124 = .ok (.iload_n 1, 1) := by decide +kernel
theorem dX12_node_125 : decode cX12_node 125 = .ok (.baload, 1) := by decide +kernel
theorem dX12_node_126 : decode cX12_node 126 = .ok (.ifCond .eq 5, 3) := by decide +kernel
theorem dX12_node_129 : decode cX12_node 129 = .ok (.iconst (-1), 1) := by decide +kernel
theorem dX12_node_130 : decode cX12_node 130 = .ok (.ireturn, 1) := by decide +kernel
theorem dX12_node_131 : decode cX12_node 131 = .ok (.aload_n 0, 1) := by decide +kernel
theorem dX12_node_132 : decode cX12_node 132 = .ok (.getfield 13, 3) := by decide +kernel
theorem dX12_node_135 : decode cX12_node 135 = .ok (.iload_n 1, 1) := by decide +kernel
theorem dX12_node_136 : decode cX12_node 136 = .ok (.iaload, 1) := by decide +kernel
theorem dX12_node_137 : decode cX12_node 137 = .ok (.ifCond .eq 10, 3) := by decide +kernel
theorem dX12_node_140 : decode cX12_node 140 = .ok (.aload_n 0, 1) := by decide +kernel
theorem dX12_node_141 : decode cX12_node 141 = .ok (.getfield 29, 3) := by decide +kernel
theorem dX12_node_144 : decode cX12_node 144 = .ok (.iload_n 1, 1) := by decide +kernel
theorem dX12_node_145 : decode cX12_node 145 = .ok (.iaload, 1) := by decide +kernel
theorem dX12_node_146 : decode cX12_node 146 = .ok (.ireturn, 1) := by decide +kernel
theorem dX12_node_147 : decode cX12_node 147 = .ok (.iconst 0, 1) := by decide +kernel
theorem dX12_node_148 : decode cX12_node 148 = .ok (.istore_n 3, 1) := by decide +kernel
theorem dX12_node_149 : decode cX12_node 149 = .ok (.iconst 1, 1) := by decide +kernel
theorem dX12_node_150 : decode cX12_node 150 = .ok (.istore 4, 2) := by decide +kernel
theorem dX12_node_152 : decode cX12_node 152 = .ok (.iload 4, 2) := by decide +kernel
theorem dX12_node_154 : decode cX12_node 154 = .ok (.aload_n 0, 1) := by decide +kernel
theorem dX12_node_155 : decode cX12_node 155 = .ok (.getfield 115, 3) := by decide +kernel
theorem dX12_node_158 : decode cX12_node 158 = .ok (.if_icmp .ge 38, 3) := by decide +kernel
theorem dX12_node_161 : decode cX12_node 161 = .ok (.iload_n 3, 1) := by decide +kernel
theorem dX12_node_162 : decode cX12_node 162 = .ok (.aload_n 0, 1) := by decide +kernel
theorem dX12_node_163 : decode cX12_node 163 = .ok (.getfield 23, 3) := by decide +kernel
theorem dX12_node_166 : decode cX12_node 166 = .ok (.iload 4, 2) := by decide +kernel
theorem dX12_node_168 : decode cX12_node 168 = .ok (.baload, 1) := by decide +kernel
theorem dX12_node_169 : decode cX12_node 169 = .ok (.ifCond .ne 18, 3) := by decide +kernel
theorem dX12_node_172 : decode cX12_node 172 = .ok (.aload_n 0, 1) := by decide +kernel
theorem dX12_node_173 : decode cX12_node 173 = .ok (.getfield 26, 3) := by decide +kernel
theorem dX12_node_176 : decode cX12_node 176 = .ok (.iload 4, 2) := by decide +kernel
theorem dX12_node_178 : decode cX12_node 178 = .ok (.iaload, 1) := by decide +kernel
theorem dX12_node_179 : decode cX12_node 179 = .ok (.iload_n 1, 1) := by decide +kernel
theorem dX12_node_180 : decode cX12_node 180 = .ok (.if_icmp .ne 7, 3) := by decide +kernel
theorem dX12_node_183 : decode cX12_node 183 = .ok (.iconst 1, 1) := by decide +kernel
theorem dX12_node_184 : decode cX12_node 184 = .ok (.goto 4, 3) := by decide +kernel
theorem dX12_node_187 : decode cX12_node 187 = .ok (.iconst 0, 1) := by decide +kernel
theorem dX12_node_188 : decode cX12_node 188 = .ok (.iadd, 1) := by decide +kernel
theorem dX12_node_189 : decode cX12_node 189 = .ok (.istore_n 3, 1) := by decide +kernel
theorem dX12_node_190 : decode cX12_node 190 = .ok (.iinc 4 1, 3) := by decide +kernel
theorem dX12_node_193 : decode cX12_node 193 = .ok (.goto (-41), 3) := by decide +kernel
theorem dX12_node_196 : decode cX12_node 196 = .ok (.iload_n 3, 1) := by decide +kernel
theorem dX12_node_197 : decode cX12_node 197 = .ok (.ireturn, 1) := by decide +kernel
theorem dX12_name_0 : decode cX12_name 0 = .ok (.iload_n 1, 1) := by decide +kernel
theorem dX12_name_1 : decode cX12_name 1 = .ok (.ifCond .lt 39, 3) := by decide +kernel
theorem dX12_name_4 : decode cX12_name 4 = .ok (.iload_n 1, 1) := by decide +kernel
theorem dX12_name_5 : decode cX12_name 5 = .ok (.aload_n 0, 1) := by decide +kernel
theorem dX12_name_6 : decode cX12_name 6 = .ok (.getfield 115, 3) := by decide +kernel
theorem dX12_name_9 : decode cX12_name 9 = .ok (.if_icmp .ge 31, 3) := by decide +kernel
theorem dX12_name_12 : decode cX12_name 12 = .ok (.iload_n 2, 1) := by decide +kernel
theorem dX12_name_13 : decode cX12_name 13 = .ok (.ifCond .lt 27, 3) := by decide +kernel
theorem dX12_name_16 : decode cX12_name 16 = .ok (.iload_n 2, 1) := by decide +kernel
theorem dX12_name_17 : decode cX12_name 17 = .ok (.aload_n 0, 1) := by decide +kernel
theorem dX12_name_18 : decode cX12_name 18 = .ok (.getfield 32, 3) := by decide +kernel
theorem dX12_name_21 : decode cX12_name 21 = .ok (.iload_n 1, 1) := by decide +kernel
theorem dX12_name_22 : decode cX12_name 22 = .ok (.iaload, 1) := by decide +kernel
theorem dX12_name_23 : decode cX12_name 23 = .ok (.if_icmp .ge 17, 3) := by decide +kernel
theorem dX12_name_26 : decode cX12_name 26 = .ok (.aload_n 0, 1) := by decide +kernel
theorem dX12_name_27 : decode cX12_name 27 = .ok (.getfield 35, 3) := by decide +kernel
theorem dX12_name_30 : decode cX12_name 30 = .ok (.bipush 16, 2) := by decide +kernel
theorem dX12_name_32 : decode cX12_name 32 = .ok (.iload_n 1, 1) := by decide +kernel
theorem dX12_name_33 : decode cX12_name 33 = .ok (.imul, 1) := by decide +kernel
theorem dX12_name_34 : decode cX12_name 34 = .ok (.iload_n 2, 1) := by decide +kernel
theorem dX12_name_35 : decode cX12_name 35 = .ok (.iadd, 1) := by decide +kernel
theorem dX12_name_36 : decode cX12_name 36 = .ok (.iaload, 1) := by decide +kernel
theorem dX12_name_37 : decode cX12_name 37 = .ok (.goto 4, 3) := by decide +kernel
theorem dX12_name_40 : decode cX12_name 40 = .ok (.iconst (-1), 1) := by decide +kernel
theorem dX12_name_41 : decode cX12_name 41 = .ok (.ireturn, 1) := by decide +kernel
theorem dX12_body_0 : decode cX12_body 0 = .ok (.iload_n 1, 1) := by decide +kernel
theorem dX12_body_1 : decode cX12_body 1 = .ok (.ifCond .lt 20, 3) := by decide +kernel
theorem dX12_body_4 : decode cX12_body 4 = .ok (.iload_n 1, 1) := by decide +kernel
theorem dX12_body_5 : decode cX12_body 5 = .ok (.aload_n 0, 1) := by decide +kernel
theorem dX12_body_6 : decode cX12_body 6 = .ok (.getfield 112, 3) := by decide +kernel
theorem dX12_body_9 : decode cX12_body 9 = .ok (.if_icmp .ge 12, 3) := by decide +kernel
theorem dX12_body_12 : decode cX12_body 12 = .ok (.iload_n 2, 1) := by decide +kernel
theorem dX12_body_13 : decode cX12_body 13 = .ok (.ifCond .lt 8, 3) := by decide +kernel
theorem dX12_body_16 : decode cX12_body 16 = .ok (.iload_n 2, 1) := by decide +kernel
theorem dX12_body_17 : decode cX12_body 17 = .ok (.iconst 2, 1) := by decide +kernel
theorem dX12_body_18 : decode cX12_body 18 = .ok (.if_icmp .le 7, 3) := by decide +kernel
theorem dX12_body_21 : decode cX12_body 21 = .ok (.ldc2_w 236, 3) := by decide +kernel
theorem dX12_body_24 : decode cX12_body 24 = .ok (.lreturn, 1) := by decide +kernel
theorem dX12_body_25 : decode cX12_body 25 = .ok (.iload_n 2, 1) := by decide +kernel
theorem dX12_body_26 : decode cX12_body 26 = .ok (.iconst 2, 1) := by decide +kernel
theorem dX12_body_27 : decode cX12_body 27 = .ok (.if_icmp .ge 24, 3) := by decide +kernel
theorem dX12_body_30 : decode cX12_body 30 = .ok (.iload_n 2, 1) := by decide +kernel
theorem dX12_body_31 : decode cX12_body 31 = .ok (.ifCond .ne 12, 3) := by decide +kernel
theorem dX12_body_34 : decode cX12_body 34 = .ok (.aload_n 0, 1) := by decide +kernel
theorem dX12_body_35 : decode cX12_body 35 = .ok (.getfield 41, 3) := by decide +kernel
theorem dX12_body_38 : decode cX12_body 38 = .ok (.iload_n 1, 1) := by decide +kernel
theorem dX12_body_39 : decode cX12_body 39 = .ok (.laload, 1) := by decide +kernel
theorem dX12_body_40 : decode cX12_body 40 = .ok (.goto 10, 3) := by decide +kernel
theorem dX12_body_43 : decode cX12_body 43 = .ok (.aload_n 0, 1) := by decide +kernel
theorem dX12_body_44 : decode cX12_body 44 = .ok (.getfield 45, 3) := by decide +kernel
theorem dX12_body_47 : decode cX12_body 47 = .ok (.iload_n 1, 1) := by decide +kernel
theorem dX12_body_48 : decode cX12_body 48 = .ok (.iaload, 1) := by decide +kernel
theorem dX12_body_49 : decode cX12_body 49 = .ok (.i2l, 1) := by decide +kernel
theorem dX12_body_50 : decode cX12_body 50 = .ok (.lreturn, 1) := by decide +kernel
theorem dX12_body_51 : decode cX12_body 51 = .ok (.lconst 0, 1) := by decide +kernel
theorem dX12_body_52 : decode cX12_body 52 = .ok (.lstore_n 3, 1) := by decide +kernel
theorem dX12_body_53 : decode cX12_body 53 = .ok (.iconst 0, 1) := by decide +kernel
theorem dX12_body_54 : decode cX12_body 54 = .ok (.istore 5, 2) := by decide +kernel
theorem dX12_body_56 : decode cX12_body 56 = .ok (.iload 5, 2) := by decide +kernel
theorem dX12_body_58 : decode cX12_body 58 = .ok (.aload_n 0, 1) := by decide +kernel
theorem dX12_body_59 : decode cX12_body 59 = .ok (.getfield 115, 3) := by decide +kernel
theorem dX12_body_62 : decode cX12_body 62 = .ok (.if_icmp .ge 49, 3) := by decide +kernel
theorem dX12_body_65 : decode cX12_body 65 = .ok (.lload_n 3, 1) := by decide +kernel
theorem dX12_body_66 : decode cX12_body 66 = .ok (.aload_n 0, 1) := by decide +kernel
theorem dX12_body_67 : decode cX12_body 67 = .ok (.getfield 23, 3) := by decide +kernel
theorem dX12_body_70 : decode cX12_body 70 = .ok (.iload 5, 2) := by decide +kernel
theorem dX12_body_72 : decode cX12_body 72 = .ok (.baload, 1) := by decide +kernel
theorem dX12_body_73 : decode cX12_body 73 = .ok (.ifCond .ne 29, 3) := by decide +kernel
theorem dX12_body_76 : decode cX12_body 76 = .ok (.aload_n 0, 1) := by decide +kernel
theorem dX12_body_77 : decode cX12_body 77 = .ok (.getfield 13, 3) := by decide +kernel
theorem dX12_body_80 : decode cX12_body 80 = .ok (.iload 5, 2) := by decide +kernel
theorem dX12_body_82 : decode cX12_body 82 = .ok (.iaload, 1) := by decide +kernel
theorem dX12_body_83 : decode cX12_body 83 = .ok (.iconst 1, 1) := by decide +kernel
theorem dX12_body_84 : decode cX12_body 84 = .ok (.if_icmp .ne 18, 3) := by decide +kernel
theorem dX12_body_87 : decode cX12_body 87 = .ok (.aload_n 0, 1) := by decide +kernel
theorem dX12_body_88 : decode cX12_body 88 = .ok (.getfield 29, 3) := by decide +kernel
theorem dX12_body_91 : decode cX12_body 91 = .ok (.iload 5, 2) := by decide +kernel
theorem dX12_body_93 : decode cX12_body 93 = .ok (.iaload, 1) := by decide +kernel
theorem dX12_body_94 : decode cX12_body 94 = .ok (.iload_n 1, 1) := by decide +kernel
theorem dX12_body_95 : decode cX12_body 95 = .ok (.if_icmp .ne 7, 3) := by decide +kernel
theorem dX12_body_98 : decode cX12_body 98 = .ok (.lconst 1, 1) := by decide +kernel
theorem dX12_body_99 : decode cX12_body 99 = .ok (.goto 4, 3) := by decide +kernel
theorem dX12_body_102 : decode cX12_body 102 = .ok (.lconst 0, 1) := by decide +kernel
theorem dX12_body_103 : decode cX12_body 103 = .ok (.ladd, 1) := by decide +kernel
theorem dX12_body_104 : decode cX12_body 104 = .ok (.lstore_n 3, 1) := by decide +kernel
theorem dX12_body_105 : decode cX12_body 105 = .ok (.iinc 5 1, 3) := by decide +kernel
theorem dX12_body_108 : decode cX12_body 108 = .ok (.goto (-52), 3) := by decide +kernel
theorem dX12_body_111 : decode cX12_body 111 = .ok (.lload_n 3, 1) := by decide +kernel
theorem dX12_body_112 : decode cX12_body 112 = .ok (.lreturn, 1) := by decide +kernel
theorem dX12_inside_0 : decode cX12_inside 0 = .ok (.aload_n 0, 1) := by decide +kernel
theorem dX12_inside_1 : decode cX12_inside 1 = .ok (.getfield 26, 3) := by decide +kernel
theorem dX12_inside_4 : decode cX12_inside 4 = .ok (.iconst 2, 1) := by decide +kernel
theorem dX12_inside_5 : decode cX12_inside 5 = .ok (.iaload, 1) := by decide +kernel
theorem dX12_inside_6 : decode cX12_inside 6 = .ok (.ifCond .ne 62, 3) := by decide +kernel
theorem dX12_inside_9 : decode cX12_inside 9 = .ok (.aload_n 0, 1) := by decide +kernel
theorem dX12_inside_10 : decode cX12_inside 10 = .ok (.getfield 16, 3) := by decide +kernel
theorem dX12_inside_13 : decode cX12_inside 13 = .ok (.iconst 2, 1) := by decide +kernel
theorem dX12_inside_14 : decode cX12_inside 14 = .ok (.baload, 1) := by decide +kernel
theorem dX12_inside_15 : decode cX12_inside 15 = .ok (.ifCond .ne 53, 3) := by decide +kernel
theorem dX12_inside_18 : decode cX12_inside 18 = .ok (.aload_n 0, 1) := by decide +kernel
theorem dX12_inside_19 : decode cX12_inside 19 = .ok (.getfield 16, 3) := by decide +kernel
theorem dX12_inside_22 : decode cX12_inside 22 = .ok (.iconst 0, 1) := by decide +kernel
theorem dX12_inside_23 : decode cX12_inside 23 = .ok (.baload, 1) := by decide +kernel
theorem dX12_inside_24 : decode cX12_inside 24 = .ok (.ifCond .ne 44, 3) := by decide +kernel
theorem dX12_inside_27 : decode cX12_inside 27 = .ok (.aload_n 0, 1) := by decide +kernel
theorem dX12_inside_28 : decode cX12_inside 28 = .ok (.getfield 23, 3) := by decide +kernel
theorem dX12_inside_31 : decode cX12_inside 31 = .ok (.iconst 3, 1) := by decide +kernel
theorem dX12_inside_32 : decode cX12_inside 32 = .ok (.baload, 1) := by decide +kernel
theorem dX12_inside_33 : decode cX12_inside 33 = .ok (.ifCond .ne 35, 3) := by decide +kernel
theorem dX12_inside_36 : decode cX12_inside 36 = .ok (.aload_n 0, 1) := by decide +kernel
theorem dX12_inside_37 : decode cX12_inside 37 = .ok (.getfield 26, 3) := by decide +kernel
theorem dX12_inside_40 : decode cX12_inside 40 = .ok (.iconst 3, 1) := by decide +kernel
theorem dX12_inside_41 : decode cX12_inside 41 = .ok (.iaload, 1) := by decide +kernel
theorem dX12_inside_42 : decode cX12_inside 42 = .ok (.iconst 2, 1) := by decide +kernel
theorem dX12_inside_43 : decode cX12_inside 43 = .ok (.if_icmp .ne 25, 3) := by decide +kernel
theorem dX12_inside_46 : decode cX12_inside 46 = .ok (.aload_n 0, 1) := by decide +kernel
theorem dX12_inside_47 : decode cX12_inside 47 = .ok (.getfield 29, 3) := by decide +kernel
theorem dX12_inside_50 : decode cX12_inside 50 = .ok (.iconst 3, 1) := by decide +kernel
theorem dX12_inside_51 : decode cX12_inside 51 = .ok (.iaload, 1) := by decide +kernel
theorem dX12_inside_52 : decode cX12_inside 52 = .ok (.ifCond .ne 16, 3) := by decide +kernel
theorem dX12_inside_55 : decode cX12_inside 55 = .ok (.aload_n 0, 1) := by decide +kernel
theorem dX12_inside_56 : decode cX12_inside 56 = .ok (.getfield 26, 3) := by decide +kernel
theorem dX12_inside_59 : decode cX12_inside 59 = .ok (.iconst 1, 1) := by decide +kernel
theorem dX12_inside_60 : decode cX12_inside 60 = .ok (.iaload, 1) := by decide +kernel
theorem dX12_inside_61 : decode cX12_inside 61 = .ok (.ifCond .ne 7, 3) := by decide +kernel
theorem dX12_inside_64 : decode cX12_inside 64 = .ok (.iconst 1, 1) := by decide +kernel
theorem dX12_inside_65 : decode cX12_inside 65 = .ok (.goto 4, 3) := by decide +kernel
theorem dX12_inside_68 : decode cX12_inside 68 = .ok (.iconst 0, 1) := by decide +kernel
theorem dX12_inside_69 : decode cX12_inside 69 = .ok (.istore_n 1, 1) := by decide +kernel
theorem dX12_inside_70 : decode cX12_inside 70 = .ok (.iconst 4, 1) := by decide +kernel
theorem dX12_inside_71 : decode cX12_inside 71 = .ok (.istore_n 2, 1) := by decide +kernel
theorem dX12_inside_72 : decode cX12_inside 72 = .ok (.iload_n 2, 1) := by decide +kernel
theorem dX12_inside_73 : decode cX12_inside 73 = .ok (.aload_n 0, 1) := by decide +kernel
theorem dX12_inside_74 : decode cX12_inside 74 = .ok (.getfield 115, 3) := by decide +kernel
theorem dX12_inside_77 : decode cX12_inside 77 = .ok (.if_icmp .ge 34, 3) := by decide +kernel
theorem dX12_inside_80 : decode cX12_inside 80 = .ok (.iload_n 1, 1) := by decide +kernel
theorem dX12_inside_81 : decode cX12_inside 81 = .ok (.aload_n 0, 1) := by decide +kernel
theorem dX12_inside_82 : decode cX12_inside 82 = .ok (.getfield 23, 3) := by decide +kernel
theorem dX12_inside_85 : decode cX12_inside 85 = .ok (.iload_n 2, 1) := by decide +kernel
theorem dX12_inside_86 : decode cX12_inside 86 = .ok (.baload, 1) := by decide +kernel
theorem dX12_inside_87 : decode cX12_inside 87 = .ok (.ifCond .ne 11, 3) := by decide +kernel
theorem dX12_inside_90 : decode cX12_inside 90 = .ok (.aload_n 0, 1) := by decide +kernel
theorem dX12_inside_91 : decode cX12_inside 91 = .ok (.iload_n 2, 1) := by decide +kernel
theorem dX12_inside_92 : decode cX12_inside 92 = .ok (.invokevirtual 165, 3) := by decide +kernel
theorem dX12_inside_95 : decode cX12_inside 95 = .ok (.ifCond .eq 7, 3) := by decide +kernel
theorem dX12_inside_98 : decode cX12_inside 98 = .ok (.iconst 1, 1) := by decide +kernel
theorem dX12_inside_99 : decode cX12_inside 99 = .ok (.goto 4, 3) := by decide +kernel
theorem dX12_inside_102 : decode cX12_inside 102 = .ok (.iconst 0, 1) := by decide +kernel
theorem dX12_inside_103 : decode cX12_inside 103 = .ok (.iand, 1) := by decide +kernel
theorem dX12_inside_104 : decode cX12_inside 104 = .ok (.istore_n 1, 1) := by decide +kernel
theorem dX12_inside_105 : decode cX12_inside 105 = .ok (.iinc 2 1, 3) := by decide +kernel
theorem dX12_inside_108 : decode cX12_inside 108 = .ok (.goto (-36), 3) := by decide +kernel
theorem dX12_inside_111 : decode cX12_inside 111 = .ok (.iload_n 1, 1) := by decide +kernel
theorem dX12_inside_112 : decode cX12_inside 112 = .ok (.ireturn, 1) := by decide +kernel
theorem dX12_told_0 : decode cX12_told 0 = .ok (.iload_n 1, 1) := by decide +kernel
theorem dX12_told_1 : decode cX12_told 1 = .ok (.ifCond .lt 9, 3) := by decide +kernel
theorem dX12_told_4 : decode cX12_told 4 = .ok (.iload_n 1, 1) := by decide +kernel
theorem dX12_told_5 : decode cX12_told 5 = .ok (.bipush 7, 2) := by decide +kernel
theorem dX12_told_7 : decode cX12_told 7 = .ok (.if_icmp .le 6, 3) := by decide +kernel
theorem dX12_told_10 : decode cX12_told 10 = .ok (.bipush (-7), 2) := by decide +kernel
theorem dX12_told_12 : decode cX12_told 12 = .ok (.ireturn, 1) := by decide +kernel
theorem dX12_told_13 : decode cX12_told 13 = .ok (.iload_n 1, 1) := by decide +kernel
theorem dX12_told_14 : decode cX12_told 14 = .ok (.ifCond .ne 10, 3) := by decide +kernel
theorem dX12_told_17 : decode cX12_told 17 = .ok (.aload_n 0, 1) := by decide +kernel
theorem dX12_told_18 : decode cX12_told 18 = .ok (.getfield 115, 3) := by decide +kernel
theorem dX12_told_21 : decode cX12_told 21 = .ok (.goto 80, 3) := by decide +kernel
theorem dX12_told_24 : decode cX12_told 24 = .ok (.iload_n 1, 1) := by decide +kernel
theorem dX12_told_25 : decode cX12_told 25 = .ok (.iconst 1, 1) := by decide +kernel
theorem dX12_told_26 : decode cX12_told 26 = .ok (.if_icmp .ne 10, 3) := by decide +kernel
theorem dX12_told_29 : decode cX12_told 29 = .ok (.aload_n 0, 1) := by decide +kernel
theorem dX12_told_30 : decode cX12_told 30 = .ok (.getfield 112, 3) := by decide +kernel
theorem dX12_told_33 : decode cX12_told 33 = .ok (.goto 68, 3) := by decide +kernel
theorem dX12_told_36 : decode cX12_told 36 = .ok (.iload_n 1, 1) := by decide +kernel
theorem dX12_told_37 : decode cX12_told 37 = .ok (.iconst 2, 1) := by decide +kernel
theorem dX12_told_38 : decode cX12_told 38 = .ok (.if_icmp .ne 10, 3) := by decide +kernel
theorem dX12_told_41 : decode cX12_told 41 = .ok (.aload_n 0, 1) := by decide +kernel
theorem dX12_told_42 : decode cX12_told 42 = .ok (.getfield 146, 3) := by decide +kernel
theorem dX12_told_45 : decode cX12_told 45 = .ok (.goto 56, 3) := by decide +kernel
theorem dX12_told_48 : decode cX12_told 48 = .ok (.iload_n 1, 1) := by decide +kernel
theorem dX12_told_49 : decode cX12_told 49 = .ok (.iconst 3, 1) := by decide +kernel
theorem dX12_told_50 : decode cX12_told 50 = .ok (.if_icmp .ne 10, 3) := by decide +kernel
theorem dX12_told_53 : decode cX12_told 53 = .ok (.aload_n 0, 1) := by decide +kernel
theorem dX12_told_54 : decode cX12_told 54 = .ok (.getfield 152, 3) := by decide +kernel
theorem dX12_told_57 : decode cX12_told 57 = .ok (.goto 44, 3) := by decide +kernel
theorem dX12_told_60 : decode cX12_told 60 = .ok (.iload_n 1, 1) := by decide +kernel
theorem dX12_told_61 : decode cX12_told 61 = .ok (.iconst 4, 1) := by decide +kernel
theorem dX12_told_62 : decode cX12_told 62 = .ok (.if_icmp .ne 10, 3) := by decide +kernel
theorem dX12_told_65 : decode cX12_told 65 = .ok (.aload_n 0, 1) := by decide +kernel
theorem dX12_told_66 : decode cX12_told 66 = .ok (.getfield 183, 3) := by decide +kernel
theorem dX12_told_69 : decode cX12_told 69 = .ok (.goto 32, 3) := by decide +kernel
theorem dX12_told_72 : decode cX12_told 72 = .ok (.iload_n 1, 1) := by decide +kernel
theorem dX12_told_73 : decode cX12_told 73 = .ok (.iconst 5, 1) := by decide +kernel
theorem dX12_told_74 : decode cX12_told 74 = .ok (.if_icmp .ne 10, 3) := by decide +kernel
theorem dX12_told_77 : decode cX12_told 77 = .ok (.aload_n 0, 1) := by decide +kernel
theorem dX12_told_78 : decode cX12_told 78 = .ok (.getfield 217, 3) := by decide +kernel
theorem dX12_told_81 : decode cX12_told 81 = .ok (.goto 20, 3) := by decide +kernel
theorem dX12_told_84 : decode cX12_told 84 = .ok (.iload_n 1, 1) := by decide +kernel
theorem dX12_told_85 : decode cX12_told 85 = .ok (.bipush 6, 2) := by decide +kernel
theorem dX12_told_87 : decode cX12_told 87 = .ok (.if_icmp .ne 10, 3) := by decide +kernel
theorem dX12_told_90 : decode cX12_told 90 = .ok (.aload_n 0, 1) := by decide +kernel
theorem dX12_told_91 : decode cX12_told 91 = .ok (.getfield 203, 3) := by decide +kernel
theorem dX12_told_94 : decode cX12_told 94 = .ok (.goto 7, 3) := by decide +kernel
theorem dX12_told_97 : decode cX12_told 97 = .ok (.aload_n 0, 1) := by decide +kernel
theorem dX12_told_98 : decode cX12_told 98 = .ok (.getfield 227, 3) := by decide +kernel
theorem dX12_told_101 : decode cX12_told 101 = .ok (.ireturn, 1) := by decide +kernel
theorem dJ11_isValidCodePoint_9a6ad_0 : decode cJ11_isValidCodePoint_9a6ad 0 = .ok (.iload_n 0, 1) := by decide +kernel
theorem dJ11_isValidCodePoint_9a6ad_1 : decode cJ11_isValidCodePoint_9a6ad 1 = .ok (.bipush 16, 2) := by decide +kernel
theorem dJ11_isValidCodePoint_9a6ad_3 : decode cJ11_isValidCodePoint_9a6ad 3 = .ok (.iushr, 1) := by decide +kernel
theorem dJ11_isValidCodePoint_9a6ad_4 : decode cJ11_isValidCodePoint_9a6ad 4 = .ok (.istore_n 1, 1) := by decide +kernel
theorem dJ11_isValidCodePoint_9a6ad_5 : decode cJ11_isValidCodePoint_9a6ad 5 = .ok (.iload_n 1, 1) := by decide +kernel
theorem dJ11_isValidCodePoint_9a6ad_6 : decode cJ11_isValidCodePoint_9a6ad 6 = .ok (.bipush 17, 2) := by decide +kernel
theorem dJ11_isValidCodePoint_9a6ad_8 : decode cJ11_isValidCodePoint_9a6ad 8 = .ok (.if_icmp .ge 7, 3) := by decide +kernel
theorem dJ11_isValidCodePoint_9a6ad_11 : decode cJ11_isValidCodePoint_9a6ad 11 = .ok (.iconst 1, 1) := by decide +kernel
theorem dJ11_isValidCodePoint_9a6ad_12 : decode cJ11_isValidCodePoint_9a6ad 12 = .ok (.goto 4, 3) := by decide +kernel
theorem dJ11_isValidCodePoint_9a6ad_15 : decode cJ11_isValidCodePoint_9a6ad 15 = .ok (.iconst 0, 1) := by decide +kernel
theorem dJ11_isValidCodePoint_9a6ad_16 : decode cJ11_isValidCodePoint_9a6ad 16 = .ok (.ireturn, 1) := by decide +kernel
theorem dJ11_highSurrogate_5068e_0 : decode cJ11_highSurrogate_5068e 0 = .ok (.iload_n 0, 1) := by decide +kernel
theorem dJ11_highSurrogate_5068e_1 : decode cJ11_highSurrogate_5068e 1 = .ok (.bipush 10, 2) := by decide +kernel
theorem dJ11_highSurrogate_5068e_3 : decode cJ11_highSurrogate_5068e 3 = .ok (.iushr, 1) := by decide +kernel
theorem dJ11_highSurrogate_5068e_4 : decode cJ11_highSurrogate_5068e 4 = .ok (.ldc 110, 2) := by decide +kernel
theorem dJ11_highSurrogate_5068e_6 : decode cJ11_highSurrogate_5068e 6 = .ok (.iadd, 1) := by decide +kernel
theorem dJ11_highSurrogate_5068e_7 : decode cJ11_highSurrogate_5068e 7 = .ok (.i2c, 1) := by decide +kernel
theorem dJ11_highSurrogate_5068e_8 : decode cJ11_highSurrogate_5068e 8 = .ok (.ireturn, 1) := by decide +kernel
theorem dJ11_lowSurrogate_5068e_0 : decode cJ11_lowSurrogate_5068e 0 = .ok (.iload_n 0, 1) := by decide +kernel
theorem dJ11_lowSurrogate_5068e_1 : decode cJ11_lowSurrogate_5068e 1 = .ok (.sipush 1023, 3) := by decide +kernel
theorem dJ11_lowSurrogate_5068e_4 : decode cJ11_lowSurrogate_5068e 4 = .ok (.iand, 1) := by decide +kernel
theorem dJ11_lowSurrogate_5068e_5 : decode cJ11_lowSurrogate_5068e 5 = .ok (.ldc 76, 2) := by decide +kernel
theorem dJ11_lowSurrogate_5068e_7 : decode cJ11_lowSurrogate_5068e 7 = .ok (.iadd, 1) := by decide +kernel
theorem dJ11_lowSurrogate_5068e_8 : decode cJ11_lowSurrogate_5068e 8 = .ok (.i2c, 1) := by decide +kernel
theorem dJ11_lowSurrogate_5068e_9 : decode cJ11_lowSurrogate_5068e 9 = .ok (.ireturn, 1) := by decide +kernel
theorem dJ9_max_7cf53_0 : decode cJ9_max_7cf53 0 = .ok (.iload_n 0, 1) := by decide +kernel
theorem dJ9_max_7cf53_1 : decode cJ9_max_7cf53 1 = .ok (.iload_n 1, 1) := by decide +kernel
theorem dJ9_max_7cf53_2 : decode cJ9_max_7cf53 2 = .ok (.if_icmp .lt 7, 3) := by decide +kernel
theorem dJ9_max_7cf53_5 : decode cJ9_max_7cf53 5 = .ok (.iload_n 0, 1) := by decide +kernel
theorem dJ9_max_7cf53_6 : decode cJ9_max_7cf53 6 = .ok (.goto 4, 3) := by decide +kernel
theorem dJ9_max_7cf53_9 : decode cJ9_max_7cf53 9 = .ok (.iload_n 1, 1) := by decide +kernel
theorem dJ9_max_7cf53_10 : decode cJ9_max_7cf53 10 = .ok (.ireturn, 1) := by decide +kernel
theorem dJ9_min_7cf53_0 : decode cJ9_min_7cf53 0 = .ok (.iload_n 0, 1) := by decide +kernel
theorem dJ9_min_7cf53_1 : decode cJ9_min_7cf53 1 = .ok (.iload_n 1, 1) := by decide +kernel
theorem dJ9_min_7cf53_2 : decode cJ9_min_7cf53 2 = .ok (.if_icmp .gt 7, 3) := by decide +kernel
theorem dJ9_min_7cf53_5 : decode cJ9_min_7cf53 5 = .ok (.iload_n 0, 1) := by decide +kernel
theorem dJ9_min_7cf53_6 : decode cJ9_min_7cf53 6 = .ok (.goto 4, 3) := by decide +kernel
theorem dJ9_min_7cf53_9 : decode cJ9_min_7cf53 9 = .ok (.iload_n 1, 1) := by decide +kernel
theorem dJ9_min_7cf53_10 : decode cJ9_min_7cf53 10 = .ok (.ireturn, 1) := by decide +kernel
theorem dJ0_length_8abf5_0 : decode cJ0_length_8abf5 0 = .ok (.aload_n 0, 1) := by decide +kernel
theorem dJ0_length_8abf5_1 : decode cJ0_length_8abf5 1 = .ok (.getfield 9, 3) := by decide +kernel
theorem dJ0_length_8abf5_4 : decode cJ0_length_8abf5 4 = .ok (.arraylength, 1) := by decide +kernel
theorem dJ0_length_8abf5_5 : decode cJ0_length_8abf5 5 = .ok (.aload_n 0, 1) := by decide +kernel
theorem dJ0_length_8abf5_6 : decode cJ0_length_8abf5 6 = .ok (.invokevirtual 335, 3) := by decide +kernel
theorem dJ0_length_8abf5_9 : decode cJ0_length_8abf5 9 = .ok (.ishr, 1) := by decide +kernel
theorem dJ0_length_8abf5_10 : decode cJ0_length_8abf5 10 = .ok (.ireturn, 1) := by decide +kernel
theorem dJ0_charAt_5068e_0 : decode cJ0_charAt_5068e 0 = .ok (.aload_n 0, 1) := by decide +kernel
theorem dJ0_charAt_5068e_1 : decode cJ0_charAt_5068e 1 = .ok (.invokevirtual 492, 3) := by decide +kernel
theorem dJ0_charAt_5068e_4 : decode cJ0_charAt_5068e 4 = .ok (.ifCond .eq 12, 3) := by decide +kernel
theorem dJ0_charAt_5068e_7 : decode cJ0_charAt_5068e 7 = .ok (.aload_n 0, 1) := by decide +kernel
theorem dJ0_charAt_5068e_8 : decode cJ0_charAt_5068e 8 = .ok (.getfield 9, 3) := by decide +kernel
theorem dJ0_charAt_5068e_11 : decode cJ0_charAt_5068e 11 = .ok (.iload_n 1, 1) := by decide +kernel
theorem dJ0_charAt_5068e_12 : decode cJ0_charAt_5068e 12 = .ok (.invokestatic 495, 3) := by decide +kernel
theorem dJ0_charAt_5068e_15 : decode cJ0_charAt_5068e 15 = .ok (.ireturn, 1) := by decide +kernel
theorem dJ0_charAt_5068e_16 : decode cJ0_charAt_5068e 16 = .ok (.aload_n 0, 1) := by decide +kernel
theorem dJ0_charAt_5068e_17 : decode cJ0_charAt_5068e 17 = .ok (.getfield 9, 3) := by decide +kernel
theorem dJ0_charAt_5068e_20 : decode cJ0_charAt_5068e 20 = .ok (.iload_n 1, 1) := by decide +kernel
theorem dJ0_charAt_5068e_21 : decode cJ0_charAt_5068e 21 = .ok (.invokestatic 498, 3) := by decide +kernel
theorem dJ0_charAt_5068e_24 : decode cJ0_charAt_5068e 24 = .ok (.ireturn, 1) := by decide +kernel
theorem dJ0_indexOf_0f7a4_0 : decode cJ0_indexOf_0f7a4 0 = .ok (.aload_n 0, 1) := by decide +kernel
theorem dJ0_indexOf_0f7a4_1 : decode cJ0_indexOf_0f7a4 1 = .ok (.iload_n 1, 1) := by decide +kernel
theorem dJ0_indexOf_0f7a4_2 : decode cJ0_indexOf_0f7a4 2 = .ok (.iconst 0, 1) := by decide +kernel
theorem dJ0_indexOf_0f7a4_3 : decode cJ0_indexOf_0f7a4 3 = .ok (.invokevirtual 633, 3) := by decide +kernel
theorem dJ0_indexOf_0f7a4_6 : decode cJ0_indexOf_0f7a4 6 = .ok (.ireturn, 1) := by decide +kernel
theorem dJ0_indexOf_7cf53_0 : decode cJ0_indexOf_7cf53 0 = .ok (.aload_n 0, 1) := by decide +kernel
theorem dJ0_indexOf_7cf53_1 : decode cJ0_indexOf_7cf53 1 = .ok (.invokevirtual 492, 3) := by decide +kernel
theorem dJ0_indexOf_7cf53_4 : decode cJ0_indexOf_7cf53 4 = .ok (.ifCond .eq 19, 3) := by decide +kernel
theorem dJ0_indexOf_7cf53_7 : decode cJ0_indexOf_7cf53 7 = .ok (.aload_n 0, 1) := by decide +kernel
theorem dJ0_indexOf_7cf53_8 : decode cJ0_indexOf_7cf53 8 = .ok (.getfield 9, 3) := by decide +kernel
theorem dJ0_indexOf_7cf53_11 : decode cJ0_indexOf_7cf53 11 = .ok (.iload_n 1, 1) := by decide +kernel
theorem dJ0_indexOf_7cf53_12 : decode cJ0_indexOf_7cf53 12 = .ok (.iload_n 2, 1) := by decide +kernel
theorem dJ0_indexOf_7cf53_13 : decode cJ0_indexOf_7cf53 13 = .ok (.aload_n 0, 1) := by decide +kernel
theorem dJ0_indexOf_7cf53_14 : decode cJ0_indexOf_7cf53 14 = .ok (.invokevirtual 505, 3) := by decide +kernel
theorem dJ0_indexOf_7cf53_17 : decode cJ0_indexOf_7cf53 17 = .ok (.invokestatic 637, 3) := by decide +kernel
theorem dJ0_indexOf_7cf53_20 : decode cJ0_indexOf_7cf53 20 = .ok (.goto 16, 3) := by decide +kernel
theorem dJ0_indexOf_7cf53_23 : decode cJ0_indexOf_7cf53 23 = .ok (.aload_n 0, 1) := by decide +kernel
theorem dJ0_indexOf_7cf53_24 : decode cJ0_indexOf_7cf53 24 = .ok (.getfield 9, 3) := by decide +kernel
theorem dJ0_indexOf_7cf53_27 : decode cJ0_indexOf_7cf53 27 = .ok (.iload_n 1, 1) := by decide +kernel
theorem dJ0_indexOf_7cf53_28 : decode cJ0_indexOf_7cf53 28 = .ok (.iload_n 2, 1) := by decide +kernel
theorem dJ0_indexOf_7cf53_29 : decode cJ0_indexOf_7cf53 29 = .ok (.aload_n 0, 1) := by decide +kernel
theorem dJ0_indexOf_7cf53_30 : decode cJ0_indexOf_7cf53 30 = .ok (.invokevirtual 505, 3) := by decide +kernel
theorem dJ0_indexOf_7cf53_33 : decode cJ0_indexOf_7cf53 33 = .ok (.invokestatic 640, 3) := by decide +kernel
theorem dJ0_indexOf_7cf53_36 : decode cJ0_indexOf_7cf53 36 = .ok (.ireturn, 1) := by decide +kernel
theorem dJ0_coder_7d493_0 : decode cJ0_coder_7d493 0 = .ok (.getstatic 38, 3) := by decide +kernel
theorem dJ0_coder_7d493_3 : decode cJ0_coder_7d493 3 = .ok (.ifCond .eq 10, 3) := by decide +kernel
theorem dJ0_coder_7d493_6 : decode cJ0_coder_7d493 6 = .ok (.aload_n 0, 1) := by decide +kernel
theorem dJ0_coder_7d493_7 : decode cJ0_coder_7d493 7 = .ok (.getfield 15, 3) := by decide +kernel
theorem dJ0_coder_7d493_10 : decode cJ0_coder_7d493 10 = .ok (.goto 4, 3) := by decide +kernel
theorem dJ0_coder_7d493_13 : decode cJ0_coder_7d493 13 = .ok (.iconst 1, 1) := by decide +kernel
theorem dJ0_coder_7d493_14 : decode cJ0_coder_7d493 14 = .ok (.ireturn, 1) := by decide +kernel
theorem dJ0_isLatin1_aae02_0 : decode cJ0_isLatin1_aae02 0 = .ok (.getstatic 38, 3) := by decide +kernel
theorem dJ0_isLatin1_aae02_3 : decode cJ0_isLatin1_aae02 3 = .ok (.ifCond .eq 14, 3) := by decide +kernel
theorem dJ0_isLatin1_aae02_6 : decode cJ0_isLatin1_aae02 6 = .ok (.aload_n 0, 1) := by decide +kernel
theorem dJ0_isLatin1_aae02_7 : decode cJ0_isLatin1_aae02 7 = .ok (.getfield 15, 3) := by decide +kernel
theorem dJ0_isLatin1_aae02_10 : decode cJ0_isLatin1_aae02 10 = .ok (.ifCond .ne 7, 3) := by decide +kernel
theorem dJ0_isLatin1_aae02_13 : decode cJ0_isLatin1_aae02 13 = .ok (.iconst 1, 1) := by decide +kernel
theorem dJ0_isLatin1_aae02_14 : decode cJ0_isLatin1_aae02 14 = .ok (.goto 4, 3) := by decide +kernel
theorem dJ0_isLatin1_aae02_17 : decode cJ0_isLatin1_aae02 17 = .ok (.iconst 0, 1) := by decide +kernel
theorem dJ0_isLatin1_aae02_18 : decode cJ0_isLatin1_aae02 18 = .ok (.ireturn, 1) := by decide +kernel
theorem dJ0_checkIndex_df160_0 : decode cJ0_checkIndex_df160 0 = .ok (.iload_n 0, 1) := by decide +kernel
theorem dJ0_checkIndex_df160_1 : decode cJ0_checkIndex_df160 1 = .ok (.iload_n 1, 1) := by decide +kernel
theorem dJ0_checkIndex_df160_2 : decode cJ0_checkIndex_df160 2 = .ok (.getstatic 1053, 3) := by decide +kernel
theorem dJ0_checkIndex_df160_5 : decode cJ0_checkIndex_df160 5 = .ok (.invokestatic 1059, 3) := by decide +kernel
theorem dJ0_checkIndex_df160_8 : decode cJ0_checkIndex_df160 8 = .ok (.pop, 1) := by decide +kernel
theorem dJ0_checkIndex_df160_9 : decode cJ0_checkIndex_df160 9 = .ok (.return_, 1) := by decide +kernel
theorem dJ0_checkBoundsBeginEnd_23922_0 : decode cJ0_checkBoundsBeginEnd_23922 0 = .ok (.iload_n 0, 1) := by decide +kernel
theorem dJ0_checkBoundsBeginEnd_23922_1 : decode cJ0_checkBoundsBeginEnd_23922 1 = .ok (.iload_n 1, 1) := by decide +kernel
theorem dJ0_checkBoundsBeginEnd_23922_2 : decode cJ0_checkBoundsBeginEnd_23922 2 = .ok (.iload_n 2, 1) := by decide +kernel
theorem dJ0_checkBoundsBeginEnd_23922_3 : decode cJ0_checkBoundsBeginEnd_23922 3 = .ok (.getstatic 1053, 3) := by decide +kernel
theorem dJ0_checkBoundsBeginEnd_23922_6 : decode cJ0_checkBoundsBeginEnd_23922 6 = .ok (.invokestatic 1062, 3) := by decide +kernel
theorem dJ0_checkBoundsBeginEnd_23922_9 : decode cJ0_checkBoundsBeginEnd_23922 9 = .ok (.pop, 1) := by decide +kernel
theorem dJ0_checkBoundsBeginEnd_23922_10 : decode cJ0_checkBoundsBeginEnd_23922 10 = .ok (.return_, 1) := by decide +kernel
theorem dJ1_charAt_3b067_0 : decode cJ1_charAt_3b067 0 = .ok (.iload_n 1, 1) := by decide +kernel
theorem dJ1_charAt_3b067_1 : decode cJ1_charAt_3b067 1 = .ok (.aload_n 0, 1) := by decide +kernel
theorem dJ1_charAt_3b067_2 : decode cJ1_charAt_3b067 2 = .ok (.arraylength, 1) := by decide +kernel
theorem dJ1_charAt_3b067_3 : decode cJ1_charAt_3b067 3 = .ok (.invokestatic 9, 3) := by decide +kernel
theorem dJ1_charAt_3b067_6 : decode cJ1_charAt_3b067 6 = .ok (.aload_n 0, 1) := by decide +kernel
theorem dJ1_charAt_3b067_7 : decode cJ1_charAt_3b067 7 = .ok (.iload_n 1, 1) := by decide +kernel
theorem dJ1_charAt_3b067_8 : decode cJ1_charAt_3b067 8 = .ok (.baload, 1) := by decide +kernel
theorem dJ1_charAt_3b067_9 : decode cJ1_charAt_3b067 9 = .ok (.sipush 255, 3) := by decide +kernel
theorem dJ1_charAt_3b067_12 : decode cJ1_charAt_3b067 12 = .ok (.iand, 1) := by decide +kernel
theorem dJ1_charAt_3b067_13 : decode cJ1_charAt_3b067 13 = .ok (.i2c, 1) := by decide +kernel
theorem dJ1_charAt_3b067_14 : decode cJ1_charAt_3b067 14 = .ok (.ireturn, 1) := by decide +kernel
theorem dJ1_canEncode_9a6ad_0 : decode cJ1_canEncode_9a6ad 0 = .ok (.iload_n 0, 1) := by decide +kernel
theorem dJ1_canEncode_9a6ad_1 : decode cJ1_canEncode_9a6ad 1 = .ok (.ifCond .lt 14, 3) := by decide +kernel
theorem dJ1_canEncode_9a6ad_4 : decode cJ1_canEncode_9a6ad 4 = .ok (.iload_n 0, 1) := by decide +kernel
theorem dJ1_canEncode_9a6ad_5 : decode cJ1_canEncode_9a6ad 5 = .ok (.sipush 255, 3) := by decide +kernel
theorem dJ1_canEncode_9a6ad_8 : decode cJ1_canEncode_9a6ad 8 = .ok (.if_icmp .gt 7, 3) := by decide +kernel
theorem dJ1_canEncode_9a6ad_11 : decode cJ1_canEncode_9a6ad 11 = .ok (.iconst 1, 1) := by decide +kernel
theorem dJ1_canEncode_9a6ad_12 : decode cJ1_canEncode_9a6ad 12 = .ok (.goto 4, 3) := by decide +kernel
theorem dJ1_canEncode_9a6ad_15 : decode cJ1_canEncode_9a6ad 15 = .ok (.iconst 0, 1) := by decide +kernel
theorem dJ1_canEncode_9a6ad_16 : decode cJ1_canEncode_9a6ad 16 = .ok (.ireturn, 1) := by decide +kernel
theorem dJ1_indexOf_4cfef_0 : decode cJ1_indexOf_4cfef 0 = .ok (.iload_n 1, 1) := by decide +kernel
theorem dJ1_indexOf_4cfef_1 : decode cJ1_indexOf_4cfef 1 = .ok (.invokestatic 88, 3) := by decide +kernel
theorem dJ1_indexOf_4cfef_4 : decode cJ1_indexOf_4cfef 4 = .ok (.ifCond .ne 5, 3) := by decide +kernel
theorem dJ1_indexOf_4cfef_7 : decode cJ1_indexOf_4cfef 7 = .ok (.iconst (-1), 1) := by decide +kernel
theorem dJ1_indexOf_4cfef_8 : decode cJ1_indexOf_4cfef 8 = .ok (.ireturn, 1) := by decide +kernel
theorem dJ1_indexOf_4cfef_9 : decode cJ1_indexOf_4cfef 9 = .ok (.iload_n 2, 1) := by decide +kernel
theorem dJ1_indexOf_4cfef_10 : decode cJ1_indexOf_4cfef 10 = .ok (.iconst 0, 1) := by decide +kernel
theorem dJ1_indexOf_4cfef_11 : decode cJ1_indexOf_4cfef 11 = .ok (.invokestatic 92, 3) := by decide +kernel
theorem dJ1_indexOf_4cfef_14 : decode cJ1_indexOf_4cfef 14 = .ok (.istore_n 2, 1) := by decide +kernel
theorem dJ1_indexOf_4cfef_15 : decode cJ1_indexOf_4cfef 15 = .ok (.iload_n 3, 1) := by decide +kernel
theorem dJ1_indexOf_4cfef_16 : decode cJ1_indexOf_4cfef 16 = .ok (.aload_n 0, 1) := by decide +kernel
theorem dJ1_indexOf_4cfef_17 : decode cJ1_indexOf_4cfef 17 = .ok (.arraylength, 1) := by decide +kernel
theorem dJ1_indexOf_4cfef_18 : decode cJ1_indexOf_4cfef 18 = .ok (.invokestatic 38, 3) := by decide +kernel
theorem dJ1_indexOf_4cfef_21 : decode cJ1_indexOf_4cfef 21 = .ok (.istore_n 3, 1) := by decide +kernel
theorem dJ1_indexOf_4cfef_22 : decode cJ1_indexOf_4cfef 22 = .ok (.iload_n 2, 1) := by decide +kernel
theorem dJ1_indexOf_4cfef_23 : decode cJ1_indexOf_4cfef 23 = .ok (.iload_n 3, 1) := by decide +kernel
theorem dJ1_indexOf_4cfef_24 : decode cJ1_indexOf_4cfef 24 = .ok (.if_icmp .lt 5, 3) := by decide +kernel
theorem dJ1_indexOf_4cfef_27 : decode cJ1_indexOf_4cfef 27 = .ok (.iconst (-1), 1) := by decide +kernel
theorem dJ1_indexOf_4cfef_28 : decode cJ1_indexOf_4cfef 28 = .ok (.ireturn, 1) := by decide +kernel
theorem dJ1_indexOf_4cfef_29 : decode cJ1_indexOf_4cfef 29 = .ok (.aload_n 0, 1) := by decide +kernel
theorem dJ1_indexOf_4cfef_30 : decode cJ1_indexOf_4cfef 30 = .ok (.iload_n 1, 1) := by decide +kernel
theorem dJ1_indexOf_4cfef_31 : decode cJ1_indexOf_4cfef 31 = .ok (.iload_n 2, 1) := by decide +kernel
theorem dJ1_indexOf_4cfef_32 : decode cJ1_indexOf_4cfef 32 = .ok (.iload_n 3, 1) := by decide +kernel
theorem dJ1_indexOf_4cfef_33 : decode cJ1_indexOf_4cfef 33 = .ok (.invokestatic 95, 3) := by decide +kernel
theorem dJ1_indexOf_4cfef_36 : decode cJ1_indexOf_4cfef 36 = .ok (.ireturn, 1) := by decide +kernel
theorem dJ1_indexOfChar_4cfef_0 : decode cJ1_indexOfChar_4cfef 0 = .ok (.iload_n 1, 1) := by decide +kernel
theorem dJ1_indexOfChar_4cfef_1 : decode cJ1_indexOfChar_4cfef 1 = .ok (.i2b, 1) := by decide +kernel
theorem dJ1_indexOfChar_4cfef_2 : decode cJ1_indexOfChar_4cfef 2 = .ok (.istore 4, 2) := by decide +kernel
theorem dJ1_indexOfChar_4cfef_4 : decode cJ1_indexOfChar_4cfef 4 = .ok (.iload_n 2, 1) := by decide +kernel
theorem dJ1_indexOfChar_4cfef_5 : decode cJ1_indexOfChar_4cfef 5 = .ok (.istore 5, 2) := by decide +kernel
theorem dJ1_indexOfChar_4cfef_7 : decode cJ1_indexOfChar_4cfef 7 = .ok (.iload 5, 2) := by decide +kernel
theorem dJ1_indexOfChar_4cfef_9 : decode cJ1_indexOfChar_4cfef 9 = .ok (.iload_n 3, 1) := by decide +kernel
theorem dJ1_indexOfChar_4cfef_10 : decode cJ1_indexOfChar_4cfef 10 = .ok (.if_icmp .ge 21, 3) := by decide +kernel
theorem dJ1_indexOfChar_4cfef_13 : decode cJ1_indexOfChar_4cfef 13 = .ok (.aload_n 0, 1) := by decide +kernel
theorem dJ1_indexOfChar_4cfef_14 : decode cJ1_indexOfChar_4cfef 14 = .ok (.iload 5, 2) := by decide +kernel
theorem dJ1_indexOfChar_4cfef_16 : decode cJ1_indexOfChar_4cfef 16 = .ok (.baload, 1) := by decide +kernel
theorem dJ1_indexOfChar_4cfef_17 : decode cJ1_indexOfChar_4cfef 17 = .ok (.iload 4, 2) := by decide +kernel
theorem dJ1_indexOfChar_4cfef_19 : decode cJ1_indexOfChar_4cfef 19 = .ok (.if_icmp .ne 6, 3) := by decide +kernel
theorem dJ1_indexOfChar_4cfef_22 : decode cJ1_indexOfChar_4cfef 22 = .ok (.iload 5, 2) := by decide +kernel
theorem dJ1_indexOfChar_4cfef_24 : decode cJ1_indexOfChar_4cfef 24 = .ok (.ireturn, 1) := by decide +kernel
theorem dJ1_indexOfChar_4cfef_25 : decode cJ1_indexOfChar_4cfef 25 = .ok (.iinc 5 1, 3) := by decide +kernel
theorem dJ1_indexOfChar_4cfef_28 : decode cJ1_indexOfChar_4cfef 28 = .ok (.goto (-21), 3) := by decide +kernel
theorem dJ1_indexOfChar_4cfef_31 : decode cJ1_indexOfChar_4cfef 31 = .ok (.iconst (-1), 1) := by decide +kernel
theorem dJ1_indexOfChar_4cfef_32 : decode cJ1_indexOfChar_4cfef 32 = .ok (.ireturn, 1) := by decide +kernel
theorem dJ2_getChar_3b067_0 : decode cJ2_getChar_3b067 0 = .ok (.getstatic 44, 3) := by decide +kernel
theorem dJ2_getChar_3b067_3 : decode cJ2_getChar_3b067 3 = .ok (.ifCond .ne 25, 3) := by decide +kernel
theorem dJ2_getChar_3b067_6 : decode cJ2_getChar_3b067 6 = .ok (.iload_n 1, 1) := by decide +kernel
theorem dJ2_getChar_3b067_7 : decode cJ2_getChar_3b067 7 = .ok (.ifCond .lt 11, 3) := by decide +kernel
theorem dJ2_getChar_3b067_10 : decode cJ2_getChar_3b067 10 = .ok (.iload_n 1, 1) := by decide +kernel
theorem dJ2_getChar_3b067_11 : decode cJ2_getChar_3b067 11 = .ok (.aload_n 0, 1) := by decide +kernel
theorem dJ2_getChar_3b067_12 : decode cJ2_getChar_3b067 12 = .ok (.invokestatic 48, 3) := by decide +kernel
theorem dJ2_getChar_3b067_15 : decode cJ2_getChar_3b067 15 = .ok (.if_icmp .lt 13, 3) := by decide +kernel
theorem dJ2_getChar_3b067_18 : decode cJ2_getChar_3b067 18 = .ok (.new 52, 3) := by decide +kernel
theorem dJ2_getChar_3b067_21 : decode cJ2_getChar_3b067 21 = .ok (.dup, 1) := by decide +kernel
theorem dJ2_getChar_3b067_22 : decode cJ2_getChar_3b067 22 = .ok (.ldc 54, 2) := by decide +kernel
theorem dJ2_getChar_3b067_24 : decode cJ2_getChar_3b067 24 = .ok (.invokespecial 56, 3) := by decide +kernel
theorem dJ2_getChar_3b067_27 : decode cJ2_getChar_3b067 27 = .ok (.athrow, 1) := by decide +kernel
theorem dJ2_getChar_3b067_28 : decode cJ2_getChar_3b067 28 = .ok (.iload_n 1, 1) := by decide +kernel
theorem dJ2_getChar_3b067_29 : decode cJ2_getChar_3b067 29 = .ok (.iconst 1, 1) := by decide +kernel
theorem dJ2_getChar_3b067_30 : decode cJ2_getChar_3b067 30 = .ok (.ishl, 1) := by decide +kernel
theorem dJ2_getChar_3b067_31 : decode cJ2_getChar_3b067 31 = .ok (.istore_n 1, 1) := by decide +kernel
theorem dJ2_getChar_3b067_32 : decode cJ2_getChar_3b067 32 = .ok (.aload_n 0, 1) := by decide +kernel
theorem dJ2_getChar_3b067_33 : decode cJ2_getChar_3b067 33 = .ok (.iload_n 1, 1) := by decide +kernel
theorem dJ2_getChar_3b067_34 : decode cJ2_getChar_3b067 34 = .ok (.iinc 1 1, 3) := by decide +kernel
theorem dJ2_getChar_3b067_37 : decode cJ2_getChar_3b067 37 = .ok (.baload, 1) := by decide +kernel
theorem dJ2_getChar_3b067_38 : decode cJ2_getChar_3b067 38 = .ok (.sipush 255, 3) := by decide +kernel
theorem dJ2_getChar_3b067_41 : decode cJ2_getChar_3b067 41 = .ok (.iand, 1) := by decide +kernel
theorem dJ2_getChar_3b067_42 : decode cJ2_getChar_3b067 42 = .ok (.getstatic 59, 3) := by decide +kernel
theorem dJ2_getChar_3b067_45 : decode cJ2_getChar_3b067 45 = .ok (.ishl, 1) := by decide +kernel
theorem dJ2_getChar_3b067_46 : decode cJ2_getChar_3b067 46 = .ok (.aload_n 0, 1) := by decide +kernel
theorem dJ2_getChar_3b067_47 : decode cJ2_getChar_3b067 47 = .ok (.iload_n 1, 1) := by decide +kernel
theorem dJ2_getChar_3b067_48 : decode cJ2_getChar_3b067 48 = .ok (.baload, 1) := by decide +kernel
theorem dJ2_getChar_3b067_49 : decode cJ2_getChar_3b067 49 = .ok (.sipush 255, 3) := by decide +kernel
theorem dJ2_getChar_3b067_52 : decode cJ2_getChar_3b067 52 = .ok (.iand, 1) := by decide +kernel
theorem dJ2_getChar_3b067_53 : decode cJ2_getChar_3b067 53 = .ok (.getstatic 63, 3) := by decide +kernel
theorem dJ2_getChar_3b067_56 : decode cJ2_getChar_3b067 56 = .ok (.ishl, 1) := by decide +kernel
theorem dJ2_getChar_3b067_57 : decode cJ2_getChar_3b067 57 = .ok (.ior, 1) := by decide +kernel
theorem dJ2_getChar_3b067_58 : decode cJ2_getChar_3b067 58 = .ok (.i2c, 1) := by decide +kernel
theorem dJ2_getChar_3b067_59 : decode cJ2_getChar_3b067 59 = .ok (.ireturn, 1) := by decide +kernel
theorem dJ2_length_9d52b_0 : decode cJ2_length_9d52b 0 = .ok (.aload_n 0, 1) := by decide +kernel
theorem dJ2_length_9d52b_1 : decode cJ2_length_9d52b 1 = .ok (.arraylength, 1) := by decide +kernel
theorem dJ2_length_9d52b_2 : decode cJ2_length_9d52b 2 = .ok (.iconst 1, 1) := by decide +kernel
end
section
theorem dJ2_length_9d52b_3 : decode cJ2_length_9d52b 3 = .ok (.ishr, 1) := by decide +kernel
theorem dJ2_length_9d52b_4 : decode cJ2_length_9d52b 4 = .ok (.ireturn, 1) := by decide +kernel
theorem dJ2_indexOf_4cfef_0 : decode cJ2_indexOf_4cfef 0 = .ok (.iload_n 2, 1) := by decide +kernel
theorem dJ2_indexOf_4cfef_1 : decode cJ2_indexOf_4cfef 1 = .ok (.iconst 0, 1) := by decide +kernel
theorem dJ2_indexOf_4cfef_2 : decode cJ2_indexOf_4cfef 2 = .ok (.invokestatic 224, 3) := by decide +kernel
theorem dJ2_indexOf_4cfef_5 : decode cJ2_indexOf_4cfef 5 = .ok (.istore_n 2, 1) := by decide +kernel
theorem dJ2_indexOf_4cfef_6 : decode cJ2_indexOf_4cfef 6 = .ok (.iload_n 3, 1) := by decide +kernel
theorem dJ2_indexOf_4cfef_7 : decode cJ2_indexOf_4cfef 7 = .ok (.aload_n 0, 1) := by decide +kernel
theorem dJ2_indexOf_4cfef_8 : decode cJ2_indexOf_4cfef 8 = .ok (.arraylength, 1) := by decide +kernel
theorem dJ2_indexOf_4cfef_9 : decode cJ2_indexOf_4cfef 9 = .ok (.iconst 1, 1) := by decide +kernel
theorem dJ2_indexOf_4cfef_10 : decode cJ2_indexOf_4cfef 10 = .ok (.ishr, 1) := by decide +kernel
theorem dJ2_indexOf_4cfef_11 : decode cJ2_indexOf_4cfef 11 = .ok (.invokestatic 183, 3) := by decide +kernel
theorem dJ2_indexOf_4cfef_14 : decode cJ2_indexOf_4cfef 14 = .ok (.istore_n 3, 1) := by decide +kernel
theorem dJ2_indexOf_4cfef_15 : decode cJ2_indexOf_4cfef 15 = .ok (.iload_n 2, 1) := by decide +kernel
theorem dJ2_indexOf_4cfef_16 : decode cJ2_indexOf_4cfef 16 = .ok (.iload_n 3, 1) := by decide +kernel
theorem dJ2_indexOf_4cfef_17 : decode cJ2_indexOf_4cfef 17 = .ok (.if_icmp .lt 5, 3) := by decide +kernel
theorem dJ2_indexOf_4cfef_20 : decode cJ2_indexOf_4cfef 20 = .ok (.iconst (-1), 1) := by decide +kernel
theorem dJ2_indexOf_4cfef_21 : decode cJ2_indexOf_4cfef 21 = .ok (.ireturn, 1) := by decide +kernel
theorem dJ2_indexOf_4cfef_22 : decode cJ2_indexOf_4cfef 22 = .ok (.iload_n 1, 1) := by decide +kernel
theorem dJ2_indexOf_4cfef_23 : decode cJ2_indexOf_4cfef 23 = .ok (.ldc 227, 2) := by decide +kernel
theorem dJ2_indexOf_4cfef_25 : decode cJ2_indexOf_4cfef 25 = .ok (.if_icmp .ge 11, 3) := by decide +kernel
theorem dJ2_indexOf_4cfef_28 : decode cJ2_indexOf_4cfef 28 = .ok (.aload_n 0, 1) := by decide +kernel
theorem dJ2_indexOf_4cfef_29 : decode cJ2_indexOf_4cfef 29 = .ok (.iload_n 1, 1) := by decide +kernel
theorem dJ2_indexOf_4cfef_30 : decode cJ2_indexOf_4cfef 30 = .ok (.iload_n 2, 1) := by decide +kernel
theorem dJ2_indexOf_4cfef_31 : decode cJ2_indexOf_4cfef 31 = .ok (.iload_n 3, 1) := by decide +kernel
theorem dJ2_indexOf_4cfef_32 : decode cJ2_indexOf_4cfef 32 = .ok (.invokestatic 228, 3) := by decide +kernel
theorem dJ2_indexOf_4cfef_35 : decode cJ2_indexOf_4cfef 35 = .ok (.ireturn, 1) := by decide +kernel
theorem dJ2_indexOf_4cfef_36 : decode cJ2_indexOf_4cfef 36 = .ok (.aload_n 0, 1) := by decide +kernel
theorem dJ2_indexOf_4cfef_37 : decode cJ2_indexOf_4cfef 37 = .ok (.iload_n 1, 1) := by decide +kernel
theorem dJ2_indexOf_4cfef_38 : decode cJ2_indexOf_4cfef 38 = .ok (.iload_n 2, 1) := by decide +kernel
theorem dJ2_indexOf_4cfef_39 : decode cJ2_indexOf_4cfef 39 = .ok (.iload_n 3, 1) := by decide +kernel
theorem dJ2_indexOf_4cfef_40 : decode cJ2_indexOf_4cfef 40 = .ok (.invokestatic 232, 3) := by decide +kernel
theorem dJ2_indexOf_4cfef_43 : decode cJ2_indexOf_4cfef 43 = .ok (.ireturn, 1) := by decide +kernel
theorem dJ2_indexOfChar_4cfef_0 : decode cJ2_indexOfChar_4cfef 0 = .ok (.iload_n 2, 1) := by decide +kernel
theorem dJ2_indexOfChar_4cfef_1 : decode cJ2_indexOfChar_4cfef 1 = .ok (.iload_n 3, 1) := by decide +kernel
theorem dJ2_indexOfChar_4cfef_2 : decode cJ2_indexOfChar_4cfef 2 = .ok (.aload_n 0, 1) := by decide +kernel
theorem dJ2_indexOfChar_4cfef_3 : decode cJ2_indexOfChar_4cfef 3 = .ok (.invokestatic 96, 3) := by decide +kernel
theorem dJ2_indexOfChar_4cfef_6 : decode cJ2_indexOfChar_4cfef 6 = .ok (.aload_n 0, 1) := by decide +kernel
theorem dJ2_indexOfChar_4cfef_7 : decode cJ2_indexOfChar_4cfef 7 = .ok (.iload_n 1, 1) := by decide +kernel
theorem dJ2_indexOfChar_4cfef_8 : decode cJ2_indexOfChar_4cfef 8 = .ok (.iload_n 2, 1) := by decide +kernel
theorem dJ2_indexOfChar_4cfef_9 : decode cJ2_indexOfChar_4cfef 9 = .ok (.iload_n 3, 1) := by decide +kernel
theorem dJ2_indexOfChar_4cfef_10 : decode cJ2_indexOfChar_4cfef 10 = .ok (.invokestatic 244, 3) := by decide +kernel
theorem dJ2_indexOfChar_4cfef_13 : decode cJ2_indexOfChar_4cfef 13 = .ok (.ireturn, 1) := by decide +kernel
theorem dJ2_indexOfCharUnsafe_4cfef_0 : decode cJ2_indexOfCharUnsafe_4cfef 0 = .ok (.iload_n 2, 1) := by decide +kernel
theorem dJ2_indexOfCharUnsafe_4cfef_1 : decode cJ2_indexOfCharUnsafe_4cfef 1 = .ok (.istore 4, 2) := by decide +kernel
theorem dJ2_indexOfCharUnsafe_4cfef_3 : decode cJ2_indexOfCharUnsafe_4cfef 3 = .ok (.iload 4, 2) := by decide +kernel
theorem dJ2_indexOfCharUnsafe_4cfef_5 : decode cJ2_indexOfCharUnsafe_4cfef 5 = .ok (.iload_n 3, 1) := by decide +kernel
theorem dJ2_indexOfCharUnsafe_4cfef_6 : decode cJ2_indexOfCharUnsafe_4cfef 6 = .ok (.if_icmp .ge 22, 3) := by decide +kernel
theorem dJ2_indexOfCharUnsafe_4cfef_9 : decode cJ2_indexOfCharUnsafe_4cfef 9 = .ok (.aload_n 0, 1) := by decide +kernel
theorem dJ2_indexOfCharUnsafe_4cfef_10 : decode cJ2_indexOfCharUnsafe_4cfef 10 = .ok (.iload 4, 2) := by decide +kernel
theorem dJ2_indexOfCharUnsafe_4cfef_12 : decode cJ2_indexOfCharUnsafe_4cfef 12 = .ok (.invokestatic 71, 3) := by decide +kernel
theorem dJ2_indexOfCharUnsafe_4cfef_15 : decode cJ2_indexOfCharUnsafe_4cfef 15 = .ok (.iload_n 1, 1) := by decide +kernel
theorem dJ2_indexOfCharUnsafe_4cfef_16 : decode cJ2_indexOfCharUnsafe_4cfef 16 = .ok (.if_icmp .ne 6, 3) := by decide +kernel
theorem dJ2_indexOfCharUnsafe_4cfef_19 : decode cJ2_indexOfCharUnsafe_4cfef 19 = .ok (.iload 4, 2) := by decide +kernel
theorem dJ2_indexOfCharUnsafe_4cfef_21 : decode cJ2_indexOfCharUnsafe_4cfef 21 = .ok (.ireturn, 1) := by decide +kernel
theorem dJ2_indexOfCharUnsafe_4cfef_22 : decode cJ2_indexOfCharUnsafe_4cfef 22 = .ok (.iinc 4 1, 3) := by decide +kernel
theorem dJ2_indexOfCharUnsafe_4cfef_25 : decode cJ2_indexOfCharUnsafe_4cfef 25 = .ok (.goto (-22), 3) := by decide +kernel
theorem dJ2_indexOfCharUnsafe_4cfef_28 : decode cJ2_indexOfCharUnsafe_4cfef 28 = .ok (.iconst (-1), 1) := by decide +kernel
theorem dJ2_indexOfCharUnsafe_4cfef_29 : decode cJ2_indexOfCharUnsafe_4cfef 29 = .ok (.ireturn, 1) := by decide +kernel
theorem dJ2_indexOfSupplementary_4cfef_0 : decode cJ2_indexOfSupplementary_4cfef 0 = .ok (.iload_n 1, 1) := by decide +kernel
theorem dJ2_indexOfSupplementary_4cfef_1 : decode cJ2_indexOfSupplementary_4cfef 1 = .ok (.invokestatic 164, 3) := by decide +kernel
theorem dJ2_indexOfSupplementary_4cfef_4 : decode cJ2_indexOfSupplementary_4cfef 4 = .ok (.ifCond .eq 65, 3) := by decide +kernel
theorem dJ2_indexOfSupplementary_4cfef_7 : decode cJ2_indexOfSupplementary_4cfef 7 = .ok (.iload_n 1, 1) := by decide +kernel
theorem dJ2_indexOfSupplementary_4cfef_8 : decode cJ2_indexOfSupplementary_4cfef 8 = .ok (.invokestatic 157, 3) := by decide +kernel
theorem dJ2_indexOfSupplementary_4cfef_11 : decode cJ2_indexOfSupplementary_4cfef 11 = .ok (.istore 4, 2) := by decide +kernel
theorem dJ2_indexOfSupplementary_4cfef_13 : decode cJ2_indexOfSupplementary_4cfef 13 = .ok (.iload_n 1, 1) := by decide +kernel
theorem dJ2_indexOfSupplementary_4cfef_14 : decode cJ2_indexOfSupplementary_4cfef 14 = .ok (.invokestatic 161, 3) := by decide +kernel
theorem dJ2_indexOfSupplementary_4cfef_17 : decode cJ2_indexOfSupplementary_4cfef 17 = .ok (.istore 5, 2) := by decide +kernel
theorem dJ2_indexOfSupplementary_4cfef_19 : decode cJ2_indexOfSupplementary_4cfef 19 = .ok (.iload_n 2, 1) := by decide +kernel
theorem dJ2_indexOfSupplementary_4cfef_20 : decode cJ2_indexOfSupplementary_4cfef 20 = .ok (.iload_n 3, 1) := by decide +kernel
theorem dJ2_indexOfSupplementary_4cfef_21 : decode cJ2_indexOfSupplementary_4cfef 21 = .ok (.aload_n 0, 1) := by decide +kernel
theorem dJ2_indexOfSupplementary_4cfef_22 : decode cJ2_indexOfSupplementary_4cfef 22 = .ok (.invokestatic 96, 3) := by decide +kernel
theorem dJ2_indexOfSupplementary_4cfef_25 : decode cJ2_indexOfSupplementary_4cfef 25 = .ok (.iload_n 2, 1) := by decide +kernel
theorem dJ2_indexOfSupplementary_4cfef_26 : decode cJ2_indexOfSupplementary_4cfef 26 = .ok (.istore 6, 2) := by decide +kernel
theorem dJ2_indexOfSupplementary_4cfef_28 : decode cJ2_indexOfSupplementary_4cfef 28 = .ok (.iload 6, 2) := by decide +kernel
theorem dJ2_indexOfSupplementary_4cfef_30 : decode cJ2_indexOfSupplementary_4cfef 30 = .ok (.iload_n 3, 1) := by decide +kernel
theorem dJ2_indexOfSupplementary_4cfef_31 : decode cJ2_indexOfSupplementary_4cfef 31 = .ok (.iconst 1, 1) := by decide +kernel
theorem dJ2_indexOfSupplementary_4cfef_32 : decode cJ2_indexOfSupplementary_4cfef 32 = .ok (.isub, 1) := by decide +kernel
theorem dJ2_indexOfSupplementary_4cfef_33 : decode cJ2_indexOfSupplementary_4cfef 33 = .ok (.if_icmp .ge 36, 3) := by decide +kernel
theorem dJ2_indexOfSupplementary_4cfef_36 : decode cJ2_indexOfSupplementary_4cfef 36 = .ok (.aload_n 0, 1) := by decide +kernel
theorem dJ2_indexOfSupplementary_4cfef_37 : decode cJ2_indexOfSupplementary_4cfef 37 = .ok (.iload 6, 2) := by decide +kernel
theorem dJ2_indexOfSupplementary_4cfef_39 : decode cJ2_indexOfSupplementary_4cfef 39 = .ok (.invokestatic 71, 3) := by decide +kernel
theorem dJ2_indexOfSupplementary_4cfef_42 : decode cJ2_indexOfSupplementary_4cfef 42 = .ok (.iload 4, 2) := by decide +kernel
theorem dJ2_indexOfSupplementary_4cfef_44 : decode cJ2_indexOfSupplementary_4cfef 44 = .ok (.if_icmp .ne 19, 3) := by decide +kernel
theorem dJ2_indexOfSupplementary_4cfef_47 : decode cJ2_indexOfSupplementary_4cfef 47 = .ok (.aload_n 0, 1) := by decide +kernel
theorem dJ2_indexOfSupplementary_4cfef_48 : decode cJ2_indexOfSupplementary_4cfef 48 = .ok (.iload 6, 2) := by decide +kernel
theorem dJ2_indexOfSupplementary_4cfef_50 : decode cJ2_indexOfSupplementary_4cfef 50 = .ok (.iconst 1, 1) := by decide +kernel
theorem dJ2_indexOfSupplementary_4cfef_51 : decode cJ2_indexOfSupplementary_4cfef 51 = .ok (.iadd, 1) := by decide +kernel
theorem dJ2_indexOfSupplementary_4cfef_52 : decode cJ2_indexOfSupplementary_4cfef 52 = .ok (.invokestatic 71, 3) := by decide +kernel
theorem dJ2_indexOfSupplementary_4cfef_55 : decode cJ2_indexOfSupplementary_4cfef 55 = .ok (.iload 5, 2) := by decide +kernel
theorem dJ2_indexOfSupplementary_4cfef_57 : decode cJ2_indexOfSupplementary_4cfef 57 = .ok (.if_icmp .ne 6, 3) := by decide +kernel
theorem dJ2_indexOfSupplementary_4cfef_60 : decode cJ2_indexOfSupplementary_4cfef 60 = .ok (.iload 6, 2) := by decide +kernel
theorem dJ2_indexOfSupplementary_4cfef_62 : decode cJ2_indexOfSupplementary_4cfef 62 = .ok (.ireturn, 1) := by decide +kernel
theorem dJ2_indexOfSupplementary_4cfef_63 : decode cJ2_indexOfSupplementary_4cfef 63 = .ok (.iinc 6 1, 3) := by decide +kernel
theorem dJ2_indexOfSupplementary_4cfef_66 : decode cJ2_indexOfSupplementary_4cfef 66 = .ok (.goto (-38), 3) := by decide +kernel
theorem dJ2_indexOfSupplementary_4cfef_69 : decode cJ2_indexOfSupplementary_4cfef 69 = .ok (.iconst (-1), 1) := by decide +kernel
theorem dJ2_indexOfSupplementary_4cfef_70 : decode cJ2_indexOfSupplementary_4cfef 70 = .ok (.ireturn, 1) := by decide +kernel
theorem dJ2_charAt_3b067_0 : decode cJ2_charAt_3b067 0 = .ok (.iload_n 1, 1) := by decide +kernel
theorem dJ2_charAt_3b067_1 : decode cJ2_charAt_3b067 1 = .ok (.aload_n 0, 1) := by decide +kernel
theorem dJ2_charAt_3b067_2 : decode cJ2_charAt_3b067 2 = .ok (.invokestatic 67, 3) := by decide +kernel
theorem dJ2_charAt_3b067_5 : decode cJ2_charAt_3b067 5 = .ok (.aload_n 0, 1) := by decide +kernel
theorem dJ2_charAt_3b067_6 : decode cJ2_charAt_3b067 6 = .ok (.iload_n 1, 1) := by decide +kernel
theorem dJ2_charAt_3b067_7 : decode cJ2_charAt_3b067 7 = .ok (.invokestatic 71, 3) := by decide +kernel
theorem dJ2_charAt_3b067_10 : decode cJ2_charAt_3b067 10 = .ok (.ireturn, 1) := by decide +kernel
theorem dJ2_checkIndex_2214a_0 : decode cJ2_checkIndex_2214a 0 = .ok (.iload_n 0, 1) := by decide +kernel
theorem dJ2_checkIndex_2214a_1 : decode cJ2_checkIndex_2214a 1 = .ok (.aload_n 1, 1) := by decide +kernel
theorem dJ2_checkIndex_2214a_2 : decode cJ2_checkIndex_2214a 2 = .ok (.invokestatic 48, 3) := by decide +kernel
theorem dJ2_checkIndex_2214a_5 : decode cJ2_checkIndex_2214a 5 = .ok (.invokestatic 414, 3) := by decide +kernel
theorem dJ2_checkIndex_2214a_8 : decode cJ2_checkIndex_2214a 8 = .ok (.return_, 1) := by decide +kernel
theorem dJ2_checkBoundsBeginEnd_d044e_0 : decode cJ2_checkBoundsBeginEnd_d044e 0 = .ok (.iload_n 0, 1) := by decide +kernel
theorem dJ2_checkBoundsBeginEnd_d044e_1 : decode cJ2_checkBoundsBeginEnd_d044e 1 = .ok (.iload_n 1, 1) := by decide +kernel
theorem dJ2_checkBoundsBeginEnd_d044e_2 : decode cJ2_checkBoundsBeginEnd_d044e 2 = .ok (.aload_n 2, 1) := by decide +kernel
theorem dJ2_checkBoundsBeginEnd_d044e_3 : decode cJ2_checkBoundsBeginEnd_d044e 3 = .ok (.invokestatic 48, 3) := by decide +kernel
theorem dJ2_checkBoundsBeginEnd_d044e_6 : decode cJ2_checkBoundsBeginEnd_d044e 6 = .ok (.invokestatic 241, 3) := by decide +kernel
theorem dJ2_checkBoundsBeginEnd_d044e_9 : decode cJ2_checkBoundsBeginEnd_d044e 9 = .ok (.return_, 1) := by decide +kernel
theorem dJxa1e45_init_da8c8_0 : decode cJxa1e45_init_da8c8 0 = .ok (.aload_n 0, 1) := by decide +kernel
theorem dJxa1e45_init_da8c8_1 : decode cJxa1e45_init_da8c8 1 = .ok (.invokespecial 1, 3) := by decide +kernel
theorem dJxa1e45_init_da8c8_4 : decode cJxa1e45_init_da8c8 4 = .ok (.return_, 1) := by decide +kernel
theorem dJxc12de_init_da8c8_0 : decode cJxc12de_init_da8c8 0 = .ok (.aload_n 0, 1) := by decide +kernel
theorem dJxc12de_init_da8c8_1 : decode cJxc12de_init_da8c8 1 = .ok (.invokespecial 1, 3) := by decide +kernel
theorem dJxc12de_init_da8c8_4 : decode cJxc12de_init_da8c8 4 = .ok (.aload_n 0, 1) := by decide +kernel
theorem dJxc12de_init_da8c8_5 : decode cJxc12de_init_da8c8 5 = .ok (.iconst 0, 1) := by decide +kernel
theorem dJxc12de_init_da8c8_6 : decode cJxc12de_init_da8c8 6 = .ok (.putfield 7, 3) := by decide +kernel
theorem dJxc12de_init_da8c8_9 : decode cJxc12de_init_da8c8 9 = .ok (.return_, 1) := by decide +kernel
theorem dJx4a65c_init_da8c8_0 : decode cJx4a65c_init_da8c8 0 = .ok (.aload_n 0, 1) := by decide +kernel
theorem dJx4a65c_init_da8c8_1 : decode cJx4a65c_init_da8c8 1 = .ok (.invokespecial 1, 3) := by decide +kernel
theorem dJx4a65c_init_da8c8_4 : decode cJx4a65c_init_da8c8 4 = .ok (.aload_n 0, 1) := by decide +kernel
theorem dJx4a65c_init_da8c8_5 : decode cJx4a65c_init_da8c8 5 = .ok (.getstatic 39, 3) := by decide +kernel
theorem dJx4a65c_init_da8c8_8 : decode cJx4a65c_init_da8c8 8 = .ok (.putfield 9, 3) := by decide +kernel
theorem dJx4a65c_init_da8c8_11 : decode cJx4a65c_init_da8c8 11 = .ok (.return_, 1) := by decide +kernel
theorem dJx4a65c_grow_92f84_0 : decode cJx4a65c_grow_92f84 0 = .ok (.aload_n 0, 1) := by decide +kernel
theorem dJx4a65c_grow_92f84_1 : decode cJx4a65c_grow_92f84 1 = .ok (.getfield 9, 3) := by decide +kernel
theorem dJx4a65c_grow_92f84_4 : decode cJx4a65c_grow_92f84 4 = .ok (.arraylength, 1) := by decide +kernel
theorem dJx4a65c_grow_92f84_5 : decode cJx4a65c_grow_92f84 5 = .ok (.istore_n 2, 1) := by decide +kernel
theorem dJx4a65c_grow_92f84_6 : decode cJx4a65c_grow_92f84 6 = .ok (.iload_n 2, 1) := by decide +kernel
theorem dJx4a65c_grow_92f84_7 : decode cJx4a65c_grow_92f84 7 = .ok (.ifCond .gt 13, 3) := by decide +kernel
theorem dJx4a65c_grow_92f84_10 : decode cJx4a65c_grow_92f84 10 = .ok (.aload_n 0, 1) := by decide +kernel
theorem dJx4a65c_grow_92f84_11 : decode cJx4a65c_grow_92f84 11 = .ok (.getfield 9, 3) := by decide +kernel
theorem dJx4a65c_grow_92f84_14 : decode cJx4a65c_grow_92f84 14 = .ok (.getstatic 39, 3) := by decide +kernel
theorem dJx4a65c_grow_92f84_17 : decode cJx4a65c_grow_92f84 17 = .ok (.if_acmp .eq 28, 3) := by decide +kernel
theorem dJx4a65c_grow_92f84_20 : decode cJx4a65c_grow_92f84 20 = .ok (.iload_n 2, 1) := by decide +kernel
theorem dJx4a65c_grow_92f84_21 : decode cJx4a65c_grow_92f84 21 = .ok (.iload_n 1, 1) := by decide +kernel
theorem dJx4a65c_grow_92f84_22 : decode cJx4a65c_grow_92f84 22 = .ok (.iload_n 2, 1) := by decide +kernel
theorem dJx4a65c_grow_92f84_23 : decode cJx4a65c_grow_92f84 23 = .ok (.isub, 1) := by decide +kernel
theorem dJx4a65c_grow_92f84_24 : decode cJx4a65c_grow_92f84 24 = .ok (.iload_n 2, 1) := by decide +kernel
theorem dJx4a65c_grow_92f84_25 : decode cJx4a65c_grow_92f84 25 = .ok (.iconst 1, 1) := by decide +kernel
theorem dJx4a65c_grow_92f84_26 : decode cJx4a65c_grow_92f84 26 = .ok (.ishr, 1) := by decide +kernel
theorem dJx4a65c_grow_92f84_27 : decode cJx4a65c_grow_92f84 27 = .ok (.invokestatic 73, 3) := by decide +kernel
theorem dJx4a65c_grow_92f84_30 : decode cJx4a65c_grow_92f84 30 = .ok (.istore_n 3, 1) := by decide +kernel
theorem dJx4a65c_grow_92f84_31 : decode cJx4a65c_grow_92f84 31 = .ok (.aload_n 0, 1) := by decide +kernel
theorem dJx4a65c_grow_92f84_32 : decode cJx4a65c_grow_92f84 32 = .ok (.aload_n 0, 1) := by decide +kernel
theorem dJx4a65c_grow_92f84_33 : decode cJx4a65c_grow_92f84 33 = .ok (.getfield 9, 3) := by decide +kernel
theorem dJx4a65c_grow_92f84_36 : decode cJx4a65c_grow_92f84 36 = .ok (.iload_n 3, 1) := by decide +kernel
theorem dJx4a65c_grow_92f84_37 : decode cJx4a65c_grow_92f84 37 = .ok (.invokestatic 66, 3) := by decide +kernel
theorem dJx4a65c_grow_92f84_40 : decode cJx4a65c_grow_92f84 40 = .ok (.dup_x1, 1) := by decide +kernel
theorem dJx4a65c_grow_92f84_41 : decode cJx4a65c_grow_92f84 41 = .ok (.putfield 9, 3) := by decide +kernel
theorem dJx4a65c_grow_92f84_44 : decode cJx4a65c_grow_92f84 44 = .ok (.areturn, 1) := by decide +kernel
theorem dJx4a65c_grow_92f84_45 : decode cJx4a65c_grow_92f84 45 = .ok (.aload_n 0, 1) := by decide +kernel
theorem dJx4a65c_grow_92f84_46 : decode cJx4a65c_grow_92f84 46 = .ok (.bipush 10, 2) := by decide +kernel
theorem dJx4a65c_grow_92f84_48 : decode cJx4a65c_grow_92f84 48 = .ok (.iload_n 1, 1) := by decide +kernel
theorem dJx4a65c_grow_92f84_49 : decode cJx4a65c_grow_92f84 49 = .ok (.invokestatic 79, 3) := by decide +kernel
theorem dJx4a65c_grow_92f84_52 : decode cJx4a65c_grow_92f84 52 = .ok (.anewarray 7, 3) := by decide +kernel
theorem dJx4a65c_grow_92f84_55 : decode cJx4a65c_grow_92f84 55 = .ok (.dup_x1, 1) := by decide +kernel
theorem dJx4a65c_grow_92f84_56 : decode cJx4a65c_grow_92f84 56 = .ok (.putfield 9, 3) := by decide +kernel
theorem dJx4a65c_grow_92f84_59 : decode cJx4a65c_grow_92f84 59 = .ok (.areturn, 1) := by decide +kernel
theorem dJx4a65c_grow_d5877_0 : decode cJx4a65c_grow_d5877 0 = .ok (.aload_n 0, 1) := by decide +kernel
theorem dJx4a65c_grow_d5877_1 : decode cJx4a65c_grow_d5877 1 = .ok (.aload_n 0, 1) := by decide +kernel
theorem dJx4a65c_grow_d5877_2 : decode cJx4a65c_grow_d5877 2 = .ok (.getfield 48, 3) := by decide +kernel
theorem dJx4a65c_grow_d5877_5 : decode cJx4a65c_grow_d5877 5 = .ok (.iconst 1, 1) := by decide +kernel
theorem dJx4a65c_grow_d5877_6 : decode cJx4a65c_grow_d5877 6 = .ok (.iadd, 1) := by decide +kernel
theorem dJx4a65c_grow_d5877_7 : decode cJx4a65c_grow_d5877 7 = .ok (.invokevirtual 69, 3) := by decide +kernel
theorem dJx4a65c_grow_d5877_10 : decode cJx4a65c_grow_d5877 10 = .ok (.areturn, 1) := by decide +kernel
theorem dJx4a65c_size_8abf5_0 : decode cJx4a65c_size_8abf5 0 = .ok (.aload_n 0, 1) := by decide +kernel
theorem dJx4a65c_size_8abf5_1 : decode cJx4a65c_size_8abf5 1 = .ok (.getfield 48, 3) := by decide +kernel
theorem dJx4a65c_size_8abf5_4 : decode cJx4a65c_size_8abf5 4 = .ok (.ireturn, 1) := by decide +kernel
theorem dJx4a65c_isEmpty_aae02_0 : decode cJx4a65c_isEmpty_aae02 0 = .ok (.aload_n 0, 1) := by decide +kernel
theorem dJx4a65c_isEmpty_aae02_1 : decode cJx4a65c_isEmpty_aae02 1 = .ok (.getfield 48, 3) := by decide +kernel
theorem dJx4a65c_isEmpty_aae02_4 : decode cJx4a65c_isEmpty_aae02 4 = .ok (.ifCond .ne 7, 3) := by decide +kernel
theorem dJx4a65c_isEmpty_aae02_7 : decode cJx4a65c_isEmpty_aae02 7 = .ok (.iconst 1, 1) := by decide +kernel
theorem dJx4a65c_isEmpty_aae02_8 : decode cJx4a65c_isEmpty_aae02 8 = .ok (.goto 4, 3) := by decide +kernel
theorem dJx4a65c_isEmpty_aae02_11 : decode cJx4a65c_isEmpty_aae02 11 = .ok (.iconst 0, 1) := by decide +kernel
theorem dJx4a65c_isEmpty_aae02_12 : decode cJx4a65c_isEmpty_aae02 12 = .ok (.ireturn, 1) := by decide +kernel
theorem dJx4a65c_elementData_915e3_0 : decode cJx4a65c_elementData_915e3 0 = .ok (.aload_n 0, 1) := by decide +kernel
theorem dJx4a65c_elementData_915e3_1 : decode cJx4a65c_elementData_915e3 1 = .ok (.getfield 9, 3) := by decide +kernel
theorem dJx4a65c_elementData_915e3_4 : decode cJx4a65c_elementData_915e3 4 = .ok (.iload_n 1, 1) := by decide +kernel
theorem dJx4a65c_elementData_915e3_5 : decode cJx4a65c_elementData_915e3 5 = .ok (.aaload, 1) := by decide +kernel
theorem dJx4a65c_elementData_915e3_6 : decode cJx4a65c_elementData_915e3 6 = .ok (.areturn, 1) := by decide +kernel
theorem dJx4a65c_get_915e3_0 : decode cJx4a65c_get_915e3 0 = .ok (.iload_n 1, 1) := by decide +kernel
theorem dJx4a65c_get_915e3_1 : decode cJx4a65c_get_915e3 1 = .ok (.aload_n 0, 1) := by decide +kernel
theorem dJx4a65c_get_915e3_2 : decode cJx4a65c_get_915e3 2 = .ok (.getfield 48, 3) := by decide +kernel
theorem dJx4a65c_get_915e3_5 : decode cJx4a65c_get_915e3 5 = .ok (.invokestatic 118, 3) := by decide +kernel
theorem dJx4a65c_get_915e3_8 : decode cJx4a65c_get_915e3 8 = .ok (.pop, 1) := by decide +kernel
theorem dJx4a65c_get_915e3_9 : decode cJx4a65c_get_915e3 9 = .ok (.aload_n 0, 1) := by decide +kernel
theorem dJx4a65c_get_915e3_10 : decode cJx4a65c_get_915e3 10 = .ok (.iload_n 1, 1) := by decide +kernel
theorem dJx4a65c_get_915e3_11 : decode cJx4a65c_get_915e3 11 = .ok (.invokevirtual 123, 3) := by decide +kernel
theorem dJx4a65c_get_915e3_14 : decode cJx4a65c_get_915e3 14 = .ok (.areturn, 1) := by decide +kernel
theorem dJx4a65c_add_72be8_0 : decode cJx4a65c_add_72be8 0 = .ok (.iload_n 3, 1) := by decide +kernel
theorem dJx4a65c_add_72be8_1 : decode cJx4a65c_add_72be8 1 = .ok (.aload_n 2, 1) := by decide +kernel
theorem dJx4a65c_add_72be8_2 : decode cJx4a65c_add_72be8 2 = .ok (.arraylength, 1) := by decide +kernel
theorem dJx4a65c_add_72be8_3 : decode cJx4a65c_add_72be8 3 = .ok (.if_icmp .ne 8, 3) := by decide +kernel
theorem dJx4a65c_add_72be8_6 : decode cJx4a65c_add_72be8 6 = .ok (.aload_n 0, 1) := by decide +kernel
theorem dJx4a65c_add_72be8_7 : decode cJx4a65c_add_72be8 7 = .ok (.invokevirtual 129, 3) := by decide +kernel
theorem dJx4a65c_add_72be8_10 : decode cJx4a65c_add_72be8 10 = .ok (.astore_n 2, 1) := by decide +kernel
theorem dJx4a65c_add_72be8_11 : decode cJx4a65c_add_72be8 11 = .ok (.aload_n 2, 1) := by decide +kernel
theorem dJx4a65c_add_72be8_12 : decode cJx4a65c_add_72be8 12 = .ok (.iload_n 3, 1) := by decide +kernel
theorem dJx4a65c_add_72be8_13 : decode cJx4a65c_add_72be8 13 = .ok (.aload_n 1, 1) := by decide +kernel
theorem dJx4a65c_add_72be8_14 : decode cJx4a65c_add_72be8 14 = .ok (.aastore, 1) := by decide +kernel
theorem dJx4a65c_add_72be8_15 : decode cJx4a65c_add_72be8 15 = .ok (.aload_n 0, 1) := by decide +kernel
theorem dJx4a65c_add_72be8_16 : decode cJx4a65c_add_72be8 16 = .ok (.iload_n 3, 1) := by decide +kernel
theorem dJx4a65c_add_72be8_17 : decode cJx4a65c_add_72be8 17 = .ok (.iconst 1, 1) := by decide +kernel
theorem dJx4a65c_add_72be8_18 : decode cJx4a65c_add_72be8 18 = .ok (.iadd, 1) := by decide +kernel
theorem dJx4a65c_add_72be8_19 : decode cJx4a65c_add_72be8 19 = .ok (.putfield 48, 3) := by decide +kernel
theorem dJx4a65c_add_72be8_22 : decode cJx4a65c_add_72be8 22 = .ok (.return_, 1) := by decide +kernel
theorem dJx4a65c_add_9ea2d_0 : decode cJx4a65c_add_9ea2d 0 = .ok (.aload_n 0, 1) := by decide +kernel
theorem dJx4a65c_add_9ea2d_1 : decode cJx4a65c_add_9ea2d 1 = .ok (.dup, 1) := by decide +kernel
theorem dJx4a65c_add_9ea2d_2 : decode cJx4a65c_add_9ea2d 2 = .ok (.getfield 63, 3) := by decide +kernel
theorem dJx4a65c_add_9ea2d_5 : decode cJx4a65c_add_9ea2d 5 = .ok (.iconst 1, 1) := by decide +kernel
theorem dJx4a65c_add_9ea2d_6 : decode cJx4a65c_add_9ea2d 6 = .ok (.iadd, 1) := by decide +kernel
theorem dJx4a65c_add_9ea2d_7 : decode cJx4a65c_add_9ea2d 7 = .ok (.putfield 63, 3) := by decide +kernel
theorem dJx4a65c_add_9ea2d_10 : decode cJx4a65c_add_9ea2d 10 = .ok (.aload_n 0, 1) := by decide +kernel
theorem dJx4a65c_add_9ea2d_11 : decode cJx4a65c_add_9ea2d 11 = .ok (.aload_n 1, 1) := by decide +kernel
theorem dJx4a65c_add_9ea2d_12 : decode cJx4a65c_add_9ea2d 12 = .ok (.aload_n 0, 1) := by decide +kernel
theorem dJx4a65c_add_9ea2d_13 : decode cJx4a65c_add_9ea2d 13 = .ok (.getfield 9, 3) := by decide +kernel
theorem dJx4a65c_add_9ea2d_16 : decode cJx4a65c_add_9ea2d 16 = .ok (.aload_n 0, 1) := by decide +kernel
theorem dJx4a65c_add_9ea2d_17 : decode cJx4a65c_add_9ea2d 17 = .ok (.getfield 48, 3) := by decide +kernel
theorem dJx4a65c_add_9ea2d_20 : decode cJx4a65c_add_9ea2d 20 = .ok (.invokevirtual 131, 3) := by decide +kernel
theorem dJx4a65c_add_9ea2d_23 : decode cJx4a65c_add_9ea2d 23 = .ok (.iconst 1, 1) := by decide +kernel
theorem dJx4a65c_add_9ea2d_24 : decode cJx4a65c_add_9ea2d 24 = .ok (.ireturn, 1) := by decide +kernel
theorem dJx4a65c_remove_915e3_0 : decode cJx4a65c_remove_915e3 0 = .ok (.iload_n 1, 1) := by decide +kernel
theorem dJx4a65c_remove_915e3_1 : decode cJx4a65c_remove_915e3 1 = .ok (.aload_n 0, 1) := by decide +kernel
theorem dJx4a65c_remove_915e3_2 : decode cJx4a65c_remove_915e3 2 = .ok (.getfield 48, 3) := by decide +kernel
theorem dJx4a65c_remove_915e3_5 : decode cJx4a65c_remove_915e3 5 = .ok (.invokestatic 118, 3) := by decide +kernel
theorem dJx4a65c_remove_915e3_8 : decode cJx4a65c_remove_915e3 8 = .ok (.pop, 1) := by decide +kernel
theorem dJx4a65c_remove_915e3_9 : decode cJx4a65c_remove_915e3 9 = .ok (.aload_n 0, 1) := by decide +kernel
theorem dJx4a65c_remove_915e3_10 : decode cJx4a65c_remove_915e3 10 = .ok (.getfield 9, 3) := by decide +kernel
theorem dJx4a65c_remove_915e3_13 : decode cJx4a65c_remove_915e3 13 = .ok (.astore_n 2, 1) := by decide +kernel
theorem dJx4a65c_remove_915e3_14 : decode cJx4a65c_remove_915e3 14 = .ok (.aload_n 2, 1) := by decide +kernel
theorem dJx4a65c_remove_915e3_15 : decode cJx4a65c_remove_915e3 15 = .ok (.iload_n 1, 1) := by decide +kernel
theorem dJx4a65c_remove_915e3_16 : decode cJx4a65c_remove_915e3 16 = .ok (.aaload, 1) := by decide +kernel
theorem dJx4a65c_remove_915e3_17 : decode cJx4a65c_remove_915e3 17 = .ok (.astore_n 3, 1) := by decide +kernel
theorem dJx4a65c_remove_915e3_18 : decode cJx4a65c_remove_915e3 18 = .ok (.aload_n 0, 1) := by decide +kernel
theorem dJx4a65c_remove_915e3_19 : decode cJx4a65c_remove_915e3 19 = .ok (.aload_n 2, 1) := by decide +kernel
theorem dJx4a65c_remove_915e3_20 : decode cJx4a65c_remove_915e3 20 = .ok (.iload_n 1, 1) := by decide +kernel
theorem dJx4a65c_remove_915e3_21 : decode cJx4a65c_remove_915e3 21 = .ok (.invokevirtual 144, 3) := by decide +kernel
theorem dJx4a65c_remove_915e3_24 : decode cJx4a65c_remove_915e3 24 = .ok (.aload_n 3, 1) := by decide +kernel
theorem dJx4a65c_remove_915e3_25 : decode cJx4a65c_remove_915e3 25 = .ok (.areturn, 1) := by decide +kernel
theorem dJx4a65c_fastRemove_b59b0_0 : decode cJx4a65c_fastRemove_b59b0 0 = .ok (.aload_n 0, 1) := by decide +kernel
theorem dJx4a65c_fastRemove_b59b0_1 : decode cJx4a65c_fastRemove_b59b0 1 = .ok (.dup, 1) := by decide +kernel
theorem dJx4a65c_fastRemove_b59b0_2 : decode cJx4a65c_fastRemove_b59b0 2 = .ok (.getfield 63, 3) := by decide +kernel
theorem dJx4a65c_fastRemove_b59b0_5 : decode cJx4a65c_fastRemove_b59b0 5 = .ok (.iconst 1, 1) := by decide +kernel
theorem dJx4a65c_fastRemove_b59b0_6 : decode cJx4a65c_fastRemove_b59b0 6 = .ok (.iadd, 1) := by decide +kernel
theorem dJx4a65c_fastRemove_b59b0_7 : decode cJx4a65c_fastRemove_b59b0 7 = .ok (.putfield 63, 3) := by decide +kernel
theorem dJx4a65c_fastRemove_b59b0_10 : decode cJx4a65c_fastRemove_b59b0 10 = .ok (.aload_n 0, 1) := by decide +kernel
theorem dJx4a65c_fastRemove_b59b0_11 : decode cJx4a65c_fastRemove_b59b0 11 = .ok (.getfield 48, 3) := by decide +kernel
theorem dJx4a65c_fastRemove_b59b0_14 : decode cJx4a65c_fastRemove_b59b0 14 = .ok (.iconst 1, 1) := by decide +kernel
theorem dJx4a65c_fastRemove_b59b0_15 : decode cJx4a65c_fastRemove_b59b0 15 = .ok (.isub, 1) := by decide +kernel
theorem dJx4a65c_fastRemove_b59b0_16 : decode cJx4a65c_fastRemove_b59b0 16 = .ok (.dup, 1) := by decide +kernel
theorem dJx4a65c_fastRemove_b59b0_17 : decode cJx4a65c_fastRemove_b59b0 17 = .ok (.istore_n 3, 1) := by decide +kernel
theorem dJx4a65c_fastRemove_b59b0_18 : decode cJx4a65c_fastRemove_b59b0 18 = .ok (.iload_n 2, 1) := by decide +kernel
theorem dJx4a65c_fastRemove_b59b0_19 : decode cJx4a65c_fastRemove_b59b0 19 = .ok (.if_icmp .le 15, 3) := by decide +kernel
theorem dJx4a65c_fastRemove_b59b0_22 : decode cJx4a65c_fastRemove_b59b0 22 = .ok (.aload_n 1, 1) := by decide +kernel
theorem dJx4a65c_fastRemove_b59b0_23 : decode cJx4a65c_fastRemove_b59b0 23 = .ok (.iload_n 2, 1) := by decide +kernel
theorem dJx4a65c_fastRemove_b59b0_24 : decode cJx4a65c_fastRemove_b59b0 24 = .ok (.iconst 1, 1) := by decide +kernel
theorem dJx4a65c_fastRemove_b59b0_25 : decode cJx4a65c_fastRemove_b59b0 25 = .ok (.iadd, 1) := by decide +kernel
theorem dJx4a65c_fastRemove_b59b0_26 : decode cJx4a65c_fastRemove_b59b0 26 = .ok (.aload_n 1, 1) := by decide +kernel
theorem dJx4a65c_fastRemove_b59b0_27 : decode cJx4a65c_fastRemove_b59b0 27 = .ok (.iload_n 2, 1) := by decide +kernel
theorem dJx4a65c_fastRemove_b59b0_28 : decode cJx4a65c_fastRemove_b59b0 28 = .ok (.iload_n 3, 1) := by decide +kernel
theorem dJx4a65c_fastRemove_b59b0_29 : decode cJx4a65c_fastRemove_b59b0 29 = .ok (.iload_n 2, 1) := by decide +kernel
theorem dJx4a65c_fastRemove_b59b0_30 : decode cJx4a65c_fastRemove_b59b0 30 = .ok (.isub, 1) := by decide +kernel
theorem dJx4a65c_fastRemove_b59b0_31 : decode cJx4a65c_fastRemove_b59b0 31 = .ok (.invokestatic 112, 3) := by decide +kernel
theorem dJx4a65c_fastRemove_b59b0_34 : decode cJx4a65c_fastRemove_b59b0 34 = .ok (.aload_n 1, 1) := by decide +kernel
theorem dJx4a65c_fastRemove_b59b0_35 : decode cJx4a65c_fastRemove_b59b0 35 = .ok (.aload_n 0, 1) := by decide +kernel
theorem dJx4a65c_fastRemove_b59b0_36 : decode cJx4a65c_fastRemove_b59b0 36 = .ok (.iload_n 3, 1) := by decide +kernel
theorem dJx4a65c_fastRemove_b59b0_37 : decode cJx4a65c_fastRemove_b59b0 37 = .ok (.dup_x1, 1) := by decide +kernel
theorem dJx4a65c_fastRemove_b59b0_38 : decode cJx4a65c_fastRemove_b59b0 38 = .ok (.putfield 48, 3) := by decide +kernel
theorem dJx4a65c_fastRemove_b59b0_41 : decode cJx4a65c_fastRemove_b59b0 41 = .ok (.aconst_null, 1) := by decide +kernel
theorem dJx4a65c_fastRemove_b59b0_42 : decode cJx4a65c_fastRemove_b59b0 42 = .ok (.aastore, 1) := by decide +kernel
theorem dJx4a65c_fastRemove_b59b0_43 : decode cJx4a65c_fastRemove_b59b0 43 = .ok (.return_, 1) := by decide +kernel
theorem dJx4a65c_clear_da8c8_0 : decode cJx4a65c_clear_da8c8 0 = .ok (.aload_n 0, 1) := by decide +kernel
theorem dJx4a65c_clear_da8c8_1 : decode cJx4a65c_clear_da8c8 1 = .ok (.dup, 1) := by decide +kernel
theorem dJx4a65c_clear_da8c8_2 : decode cJx4a65c_clear_da8c8 2 = .ok (.getfield 63, 3) := by decide +kernel
theorem dJx4a65c_clear_da8c8_5 : decode cJx4a65c_clear_da8c8 5 = .ok (.iconst 1, 1) := by decide +kernel
theorem dJx4a65c_clear_da8c8_6 : decode cJx4a65c_clear_da8c8 6 = .ok (.iadd, 1) := by decide +kernel
theorem dJx4a65c_clear_da8c8_7 : decode cJx4a65c_clear_da8c8 7 = .ok (.putfield 63, 3) := by decide +kernel
theorem dJx4a65c_clear_da8c8_10 : decode cJx4a65c_clear_da8c8 10 = .ok (.aload_n 0, 1) := by decide +kernel
theorem dJx4a65c_clear_da8c8_11 : decode cJx4a65c_clear_da8c8 11 = .ok (.getfield 9, 3) := by decide +kernel
theorem dJx4a65c_clear_da8c8_14 : decode cJx4a65c_clear_da8c8 14 = .ok (.astore_n 1, 1) := by decide +kernel
theorem dJx4a65c_clear_da8c8_15 : decode cJx4a65c_clear_da8c8 15 = .ok (.aload_n 0, 1) := by decide +kernel
theorem dJx4a65c_clear_da8c8_16 : decode cJx4a65c_clear_da8c8 16 = .ok (.getfield 48, 3) := by decide +kernel
theorem dJx4a65c_clear_da8c8_19 : decode cJx4a65c_clear_da8c8 19 = .ok (.istore_n 2, 1) := by decide +kernel
theorem dJx4a65c_clear_da8c8_20 : decode cJx4a65c_clear_da8c8 20 = .ok (.aload_n 0, 1) := by decide +kernel
theorem dJx4a65c_clear_da8c8_21 : decode cJx4a65c_clear_da8c8 21 = .ok (.iconst 0, 1) := by decide +kernel
theorem dJx4a65c_clear_da8c8_22 : decode cJx4a65c_clear_da8c8 22 = .ok (.dup_x1, 1) := by decide +kernel
theorem dJx4a65c_clear_da8c8_23 : decode cJx4a65c_clear_da8c8 23 = .ok (.putfield 48, 3) := by decide +kernel
theorem dJx4a65c_clear_da8c8_26 : decode cJx4a65c_clear_da8c8 26 = .ok (.istore_n 3, 1) := by decide +kernel
theorem dJx4a65c_clear_da8c8_27 : decode cJx4a65c_clear_da8c8 27 = .ok (.iload_n 3, 1) := by decide +kernel
theorem dJx4a65c_clear_da8c8_28 : decode cJx4a65c_clear_da8c8 28 = .ok (.iload_n 2, 1) := by decide +kernel
theorem dJx4a65c_clear_da8c8_29 : decode cJx4a65c_clear_da8c8 29 = .ok (.if_icmp .ge 13, 3) := by decide +kernel
theorem dJx4a65c_clear_da8c8_32 : decode cJx4a65c_clear_da8c8 32 = .ok (.aload_n 1, 1) := by decide +kernel
theorem dJx4a65c_clear_da8c8_33 : decode cJx4a65c_clear_da8c8 33 = .ok (.iload_n 3, 1) := by decide +kernel
theorem dJx4a65c_clear_da8c8_34 : decode cJx4a65c_clear_da8c8 34 = .ok (.aconst_null, 1) := by decide +kernel
theorem dJx4a65c_clear_da8c8_35 : decode cJx4a65c_clear_da8c8 35 = .ok (.aastore, 1) := by decide +kernel
theorem dJx4a65c_clear_da8c8_36 : decode cJx4a65c_clear_da8c8 36 = .ok (.iinc 3 1, 3) := by decide +kernel
theorem dJx4a65c_clear_da8c8_39 : decode cJx4a65c_clear_da8c8 39 = .ok (.goto (-12), 3) := by decide +kernel
theorem dJx4a65c_clear_da8c8_42 : decode cJx4a65c_clear_da8c8 42 = .ok (.return_, 1) := by decide +kernel
theorem dJ7_copyOf_1904c_0 : decode cJ7_copyOf_1904c 0 = .ok (.aload_n 0, 1) := by decide +kernel
theorem dJ7_copyOf_1904c_1 : decode cJ7_copyOf_1904c 1 = .ok (.iload_n 1, 1) := by decide +kernel
theorem dJ7_copyOf_1904c_2 : decode cJ7_copyOf_1904c 2 = .ok (.aload_n 0, 1) := by decide +kernel
theorem dJ7_copyOf_1904c_3 : decode cJ7_copyOf_1904c 3 = .ok (.invokevirtual 86, 3) := by decide +kernel
theorem dJ7_copyOf_1904c_6 : decode cJ7_copyOf_1904c 6 = .ok (.invokestatic 300, 3) := by decide +kernel
theorem dJ7_copyOf_1904c_9 : decode cJ7_copyOf_1904c 9 = .ok (.areturn, 1) := by decide +kernel
theorem dJ7_copyOf_6403c_0 : decode cJ7_copyOf_6403c 0 = .ok (.aload_n 2, 1) := by decide +kernel
theorem dJ7_copyOf_6403c_1 : decode cJ7_copyOf_6403c 1 = .ok (.ldc 110, 2) := by decide +kernel
theorem dJ7_copyOf_6403c_3 : decode cJ7_copyOf_6403c 3 = .ok (.if_acmp .ne 10, 3) := by decide +kernel
theorem dJ7_copyOf_6403c_6 : decode cJ7_copyOf_6403c 6 = .ok (.iload_n 1, 1) := by decide +kernel
theorem dJ7_copyOf_6403c_7 : decode cJ7_copyOf_6403c 7 = .ok (.anewarray 2, 3) := by decide +kernel
theorem dJ7_copyOf_6403c_10 : decode cJ7_copyOf_6403c 10 = .ok (.goto 14, 3) := by decide +kernel
theorem dJ7_copyOf_6403c_13 : decode cJ7_copyOf_6403c 13 = .ok (.aload_n 2, 1) := by decide +kernel
theorem dJ7_copyOf_6403c_14 : decode cJ7_copyOf_6403c 14 = .ok (.invokevirtual 90, 3) := by decide +kernel
theorem dJ7_copyOf_6403c_17 : decode cJ7_copyOf_6403c 17 = .ok (.iload_n 1, 1) := by decide +kernel
theorem dJ7_copyOf_6403c_18 : decode cJ7_copyOf_6403c 18 = .ok (.invokestatic 95, 3) := by decide +kernel
theorem dJ7_copyOf_6403c_21 : decode cJ7_copyOf_6403c 21 = .ok (.checkcast 110, 3) := by decide +kernel
theorem dJ7_copyOf_6403c_24 : decode cJ7_copyOf_6403c 24 = .ok (.astore_n 3, 1) := by decide +kernel
theorem dJ7_copyOf_6403c_25 : decode cJ7_copyOf_6403c 25 = .ok (.aload_n 0, 1) := by decide +kernel
theorem dJ7_copyOf_6403c_26 : decode cJ7_copyOf_6403c 26 = .ok (.iconst 0, 1) := by decide +kernel
theorem dJ7_copyOf_6403c_27 : decode cJ7_copyOf_6403c 27 = .ok (.aload_n 3, 1) := by decide +kernel
theorem dJ7_copyOf_6403c_28 : decode cJ7_copyOf_6403c 28 = .ok (.iconst 0, 1) := by decide +kernel
theorem dJ7_copyOf_6403c_29 : decode cJ7_copyOf_6403c 29 = .ok (.aload_n 0, 1) := by decide +kernel
theorem dJ7_copyOf_6403c_30 : decode cJ7_copyOf_6403c 30 = .ok (.arraylength, 1) := by decide +kernel
theorem dJ7_copyOf_6403c_31 : decode cJ7_copyOf_6403c 31 = .ok (.iload_n 1, 1) := by decide +kernel
theorem dJ7_copyOf_6403c_32 : decode cJ7_copyOf_6403c 32 = .ok (.invokestatic 304, 3) := by decide +kernel
theorem dJ7_copyOf_6403c_35 : decode cJ7_copyOf_6403c 35 = .ok (.invokestatic 150, 3) := by decide +kernel
theorem dJ7_copyOf_6403c_38 : decode cJ7_copyOf_6403c 38 = .ok (.aload_n 3, 1) := by decide +kernel
theorem dJ7_copyOf_6403c_39 : decode cJ7_copyOf_6403c 39 = .ok (.areturn, 1) := by decide +kernel
theorem dJ15_checkIndex_7cf53_0 : decode cJ15_checkIndex_7cf53 0 = .ok (.iload_n 0, 1) := by decide +kernel
theorem dJ15_checkIndex_7cf53_1 : decode cJ15_checkIndex_7cf53 1 = .ok (.iload_n 1, 1) := by decide +kernel
theorem dJ15_checkIndex_7cf53_2 : decode cJ15_checkIndex_7cf53 2 = .ok (.aconst_null, 1) := by decide +kernel
theorem dJ15_checkIndex_7cf53_3 : decode cJ15_checkIndex_7cf53 3 = .ok (.invokestatic 105, 3) := by decide +kernel
theorem dJ15_checkIndex_7cf53_6 : decode cJ15_checkIndex_7cf53 6 = .ok (.ireturn, 1) := by decide +kernel
theorem dJ8_newLength_cabcc_0 : decode cJ8_newLength_cabcc 0 = .ok (.iload_n 0, 1) := by decide +kernel
theorem dJ8_newLength_cabcc_1 : decode cJ8_newLength_cabcc 1 = .ok (.iload_n 1, 1) := by decide +kernel
theorem dJ8_newLength_cabcc_2 : decode cJ8_newLength_cabcc 2 = .ok (.iload_n 2, 1) := by decide +kernel
theorem dJ8_newLength_cabcc_3 : decode cJ8_newLength_cabcc 3 = .ok (.invokestatic 194, 3) := by decide +kernel
theorem dJ8_newLength_cabcc_6 : decode cJ8_newLength_cabcc 6 = .ok (.iadd, 1) := by decide +kernel
theorem dJ8_newLength_cabcc_7 : decode cJ8_newLength_cabcc 7 = .ok (.istore_n 3, 1) := by decide +kernel
theorem dJ8_newLength_cabcc_8 : decode cJ8_newLength_cabcc 8 = .ok (.iconst 0, 1) := by decide +kernel
theorem dJ8_newLength_cabcc_9 : decode cJ8_newLength_cabcc 9 = .ok (.iload_n 3, 1) := by decide +kernel
theorem dJ8_newLength_cabcc_10 : decode cJ8_newLength_cabcc 10 = .ok (.if_icmp .ge 11, 3) := by decide +kernel
theorem dJ8_newLength_cabcc_13 : decode cJ8_newLength_cabcc 13 = .ok (.iload_n 3, 1) := by decide +kernel
theorem dJ8_newLength_cabcc_14 : decode cJ8_newLength_cabcc 14 = .ok (.ldc 200, 2) := by decide +kernel
theorem dJ8_newLength_cabcc_16 : decode cJ8_newLength_cabcc 16 = .ok (.if_icmp .gt 5, 3) := by decide +kernel
theorem dJ8_newLength_cabcc_19 : decode cJ8_newLength_cabcc 19 = .ok (.iload_n 3, 1) := by decide +kernel
theorem dJ8_newLength_cabcc_20 : decode cJ8_newLength_cabcc 20 = .ok (.ireturn, 1) := by decide +kernel
theorem dJ8_newLength_cabcc_21 : decode cJ8_newLength_cabcc 21 = .ok (.iload_n 0, 1) := by decide +kernel
theorem dJ8_newLength_cabcc_22 : decode cJ8_newLength_cabcc 22 = .ok (.iload_n 1, 1) := by decide +kernel
theorem dJ8_newLength_cabcc_23 : decode cJ8_newLength_cabcc 23 = .ok (.invokestatic 201, 3) := by decide +kernel
theorem dJ8_newLength_cabcc_26 : decode cJ8_newLength_cabcc 26 = .ok (.ireturn, 1) := by decide +kernel
theorem dJ8_hugeLength_7cf53_0 : decode cJ8_hugeLength_7cf53 0 = .ok (.iload_n 0, 1) := by decide +kernel
theorem dJ8_hugeLength_7cf53_1 : decode cJ8_hugeLength_7cf53 1 = .ok (.iload_n 1, 1) := by decide +kernel
theorem dJ8_hugeLength_7cf53_2 : decode cJ8_hugeLength_7cf53 2 = .ok (.iadd, 1) := by decide +kernel
theorem dJ8_hugeLength_7cf53_3 : decode cJ8_hugeLength_7cf53 3 = .ok (.istore_n 2, 1) := by decide +kernel
theorem dJ8_hugeLength_7cf53_4 : decode cJ8_hugeLength_7cf53 4 = .ok (.iload_n 2, 1) := by decide +kernel
theorem dJ8_hugeLength_7cf53_5 : decode cJ8_hugeLength_7cf53 5 = .ok (.ifCond .ge 44, 3) := by decide +kernel
theorem dJ8_hugeLength_7cf53_8 : decode cJ8_hugeLength_7cf53 8 = .ok (.new 204, 3) := by decide +kernel
theorem dJ8_hugeLength_7cf53_11 : decode cJ8_hugeLength_7cf53 11 = .ok (.dup, 1) := by decide +kernel
theorem dJ8_hugeLength_7cf53_12 : decode cJ8_hugeLength_7cf53 12 = .ok (.new 89, 3) := by decide +kernel
theorem dJ8_hugeLength_7cf53_15 : decode cJ8_hugeLength_7cf53 15 = .ok (.dup, 1) := by decide +kernel
theorem dJ8_hugeLength_7cf53_16 : decode cJ8_hugeLength_7cf53 16 = .ok (.invokespecial 91, 3) := by decide +kernel
theorem dJ8_hugeLength_7cf53_19 : decode cJ8_hugeLength_7cf53 19 = .ok (.ldc 206, 2) := by decide +kernel
theorem dJ8_hugeLength_7cf53_21 : decode cJ8_hugeLength_7cf53 21 = .ok (.invokevirtual 94, 3) := by decide +kernel
theorem dJ8_hugeLength_7cf53_24 : decode cJ8_hugeLength_7cf53 24 = .ok (.iload_n 0, 1) := by decide +kernel
theorem dJ8_hugeLength_7cf53_25 : decode cJ8_hugeLength_7cf53 25 = .ok (.invokevirtual 98, 3) := by decide +kernel
theorem dJ8_hugeLength_7cf53_28 : decode cJ8_hugeLength_7cf53 28 = .ok (.ldc 208, 2) := by decide +kernel
theorem dJ8_hugeLength_7cf53_30 : decode cJ8_hugeLength_7cf53 30 = .ok (.invokevirtual 94, 3) := by decide +kernel
theorem dJ8_hugeLength_7cf53_33 : decode cJ8_hugeLength_7cf53 33 = .ok (.iload_n 1, 1) := by decide +kernel
theorem dJ8_hugeLength_7cf53_34 : decode cJ8_hugeLength_7cf53 34 = .ok (.invokevirtual 98, 3) := by decide +kernel
theorem dJ8_hugeLength_7cf53_37 : decode cJ8_hugeLength_7cf53 37 = .ok (.ldc 210, 2) := by decide +kernel
theorem dJ8_hugeLength_7cf53_39 : decode cJ8_hugeLength_7cf53 39 = .ok (.invokevirtual 94, 3) := by decide +kernel
theorem dJ8_hugeLength_7cf53_42 : decode cJ8_hugeLength_7cf53 42 = .ok (.invokevirtual 101, 3) := by decide +kernel
theorem dJ8_hugeLength_7cf53_45 : decode cJ8_hugeLength_7cf53 45 = .ok (.invokespecial 212, 3) := by decide +kernel
theorem dJ8_hugeLength_7cf53_48 : decode cJ8_hugeLength_7cf53 48 = .ok (.athrow, 1) := by decide +kernel
theorem dJ8_hugeLength_7cf53_49 : decode cJ8_hugeLength_7cf53 49 = .ok (.iload_n 2, 1) := by decide +kernel
theorem dJ8_hugeLength_7cf53_50 : decode cJ8_hugeLength_7cf53 50 = .ok (.ldc 200, 2) := by decide +kernel
theorem dJ8_hugeLength_7cf53_52 : decode cJ8_hugeLength_7cf53 52 = .ok (.if_icmp .gt 6, 3) := by decide +kernel
theorem dJ8_hugeLength_7cf53_55 : decode cJ8_hugeLength_7cf53 55 = .ok (.ldc 200, 2) := by decide +kernel
theorem dJ8_hugeLength_7cf53_57 : decode cJ8_hugeLength_7cf53 57 = .ok (.ireturn, 1) := by decide +kernel
theorem dJ8_hugeLength_7cf53_58 : decode cJ8_hugeLength_7cf53 58 = .ok (.iload_n 2, 1) := by decide +kernel
theorem dJ8_hugeLength_7cf53_59 : decode cJ8_hugeLength_7cf53 59 = .ok (.ireturn, 1) := by decide +kernel
theorem dJ3_checkIndex_8e157_0 : decode cJ3_checkIndex_8e157 0 = .ok (.iload_n 0, 1) := by decide +kernel
theorem dJ3_checkIndex_8e157_1 : decode cJ3_checkIndex_8e157 1 = .ok (.ifCond .lt 8, 3) := by decide +kernel
theorem dJ3_checkIndex_8e157_4 : decode cJ3_checkIndex_8e157 4 = .ok (.iload_n 0, 1) := by decide +kernel
theorem dJ3_checkIndex_8e157_5 : decode cJ3_checkIndex_8e157 5 = .ok (.iload_n 1, 1) := by decide +kernel
theorem dJ3_checkIndex_8e157_6 : decode cJ3_checkIndex_8e157 6 = .ok (.if_icmp .lt 10, 3) := by decide +kernel
theorem dJ3_checkIndex_8e157_9 : decode cJ3_checkIndex_8e157 9 = .ok (.aload_n 2, 1) := by decide +kernel
theorem dJ3_checkIndex_8e157_10 : decode cJ3_checkIndex_8e157 10 = .ok (.iload_n 0, 1) := by decide +kernel
theorem dJ3_checkIndex_8e157_11 : decode cJ3_checkIndex_8e157 11 = .ok (.iload_n 1, 1) := by decide +kernel
theorem dJ3_checkIndex_8e157_12 : decode cJ3_checkIndex_8e157 12 = .ok (.invokestatic 95, 3) := by decide +kernel
theorem dJ3_checkIndex_8e157_15 : decode cJ3_checkIndex_8e157 15 = .ok (.athrow, 1) := by decide +kernel
theorem dJ3_checkIndex_8e157_16 : decode cJ3_checkIndex_8e157 16 = .ok (.iload_n 0, 1) := by decide +kernel
theorem dJ3_checkIndex_8e157_17 : decode cJ3_checkIndex_8e157 17 = .ok (.ireturn, 1) := by decide +kernel
theorem dJ3_checkFromToIndex_8c36e_0 : decode cJ3_checkFromToIndex_8c36e 0 = .ok (.iload_n 0, 1) := by decide +kernel
theorem dJ3_checkFromToIndex_8c36e_1 : decode cJ3_checkFromToIndex_8c36e 1 = .ok (.ifCond .lt 13, 3) := by decide +kernel
theorem dJ3_checkFromToIndex_8c36e_4 : decode cJ3_checkFromToIndex_8c36e 4 = .ok (.iload_n 0, 1) := by decide +kernel
theorem dJ3_checkFromToIndex_8c36e_5 : decode cJ3_checkFromToIndex_8c36e 5 = .ok (.iload_n 1, 1) := by decide +kernel
theorem dJ3_checkFromToIndex_8c36e_6 : decode cJ3_checkFromToIndex_8c36e 6 = .ok (.if_icmp .gt 8, 3) := by decide +kernel
theorem dJ3_checkFromToIndex_8c36e_9 : decode cJ3_checkFromToIndex_8c36e 9 = .ok (.iload_n 1, 1) := by decide +kernel
theorem dJ3_checkFromToIndex_8c36e_10 : decode cJ3_checkFromToIndex_8c36e 10 = .ok (.iload_n 2, 1) := by decide +kernel
theorem dJ3_checkFromToIndex_8c36e_11 : decode cJ3_checkFromToIndex_8c36e 11 = .ok (.if_icmp .le 11, 3) := by decide +kernel
theorem dJ3_checkFromToIndex_8c36e_14 : decode cJ3_checkFromToIndex_8c36e 14 = .ok (.aload_n 3, 1) := by decide +kernel
theorem dJ3_checkFromToIndex_8c36e_15 : decode cJ3_checkFromToIndex_8c36e 15 = .ok (.iload_n 0, 1) := by decide +kernel
theorem dJ3_checkFromToIndex_8c36e_16 : decode cJ3_checkFromToIndex_8c36e 16 = .ok (.iload_n 1, 1) := by decide +kernel
theorem dJ3_checkFromToIndex_8c36e_17 : decode cJ3_checkFromToIndex_8c36e 17 = .ok (.iload_n 2, 1) := by decide +kernel
theorem dJ3_checkFromToIndex_8c36e_18 : decode cJ3_checkFromToIndex_8c36e 18 = .ok (.invokestatic 99, 3) := by decide +kernel
theorem dJ3_checkFromToIndex_8c36e_21 : decode cJ3_checkFromToIndex_8c36e 21 = .ok (.athrow, 1) := by decide +kernel
theorem dJ3_checkFromToIndex_8c36e_22 : decode cJ3_checkFromToIndex_8c36e 22 = .ok (.iload_n 0, 1) := by decide +kernel
theorem dJ3_checkFromToIndex_8c36e_23 : decode cJ3_checkFromToIndex_8c36e 23 = .ok (.ireturn, 1) := by decide +kernel
theorem dL_cell_0 : decode cL_cell 0 = .ok (.iload_n 1, 1) := by decide +kernel
theorem dL_cell_1 : decode cL_cell 1 = .ok (.aload_n 0, 1) := by decide +kernel
theorem dL_cell_2 : decode cL_cell 2 = .ok (.arraylength, 1) := by decide +kernel
theorem dL_cell_3 : decode cL_cell 3 = .ok (.if_icmp .ge 9, 3) := by decide +kernel
theorem dL_cell_6 : decode cL_cell 6 = .ok (.aload_n 0, 1) := by decide +kernel
theorem dL_cell_7 : decode cL_cell 7 = .ok (.iload_n 1, 1) := by decide +kernel
theorem dL_cell_8 : decode cL_cell 8 = .ok (.iaload, 1) := by decide +kernel
theorem dL_cell_9 : decode cL_cell 9 = .ok (.goto 4, 3) := by decide +kernel
theorem dL_cell_12 : decode cL_cell 12 = .ok (.iconst 0, 1) := by decide +kernel
theorem dL_cell_13 : decode cL_cell 13 = .ok (.ireturn, 1) := by decide +kernel
theorem dL_law_0 : decode cL_law 0 = .ok (.new 7, 3) := by decide +kernel
theorem dL_law_3 : decode cL_law 3 = .ok (.dup, 1) := by decide +kernel
theorem dL_law_4 : decode cL_law 4 = .ok (.aload_n 0, 1) := by decide +kernel
theorem dL_law_5 : decode cL_law 5 = .ok (.iconst 0, 1) := by decide +kernel
theorem dL_law_6 : decode cL_law 6 = .ok (.invokestatic 9, 3) := by decide +kernel
theorem dL_law_9 : decode cL_law 9 = .ok (.invokespecial 15, 3) := by decide +kernel
theorem dL_law_12 : decode cL_law 12 = .ok (.astore_n 1, 1) := by decide +kernel
theorem dL_law_13 : decode cL_law 13 = .ok (.new 18, 3) := by decide +kernel
theorem dL_law_16 : decode cL_law 16 = .ok (.dup, 1) := by decide +kernel
theorem dL_law_17 : decode cL_law 17 = .ok (.aload_n 0, 1) := by decide +kernel
theorem dL_law_18 : decode cL_law 18 = .ok (.iconst 0, 1) := by decide +kernel
theorem dL_law_19 : decode cL_law 19 = .ok (.invokestatic 9, 3) := by decide +kernel
theorem dL_law_22 : decode cL_law 22 = .ok (.invokespecial 20, 3) := by decide +kernel
theorem dL_law_25 : decode cL_law 25 = .ok (.astore_n 2, 1) := by decide +kernel
theorem dL_law_26 : decode cL_law 26 = .ok (.iconst 1, 1) := by decide +kernel
theorem dL_law_27 : decode cL_law 27 = .ok (.istore_n 3, 1) := by decide +kernel
theorem dL_law_28 : decode cL_law 28 = .ok (.iload_n 3, 1) := by decide +kernel
theorem dL_law_29 : decode cL_law 29 = .ok (.aload_n 0, 1) := by decide +kernel
theorem dL_law_30 : decode cL_law 30 = .ok (.arraylength, 1) := by decide +kernel
theorem dL_law_31 : decode cL_law 31 = .ok (.bipush 6, 2) := by decide +kernel
theorem dL_law_33 : decode cL_law 33 = .ok (.isub, 1) := by decide +kernel
theorem dL_law_34 : decode cL_law 34 = .ok (.if_icmp .gt 607, 3) := by decide +kernel
theorem dL_law_37 : decode cL_law 37 = .ok (.aload_n 0, 1) := by decide +kernel
theorem dL_law_38 : decode cL_law 38 = .ok (.iload_n 3, 1) := by decide +kernel
theorem dL_law_39 : decode cL_law 39 = .ok (.iaload, 1) := by decide +kernel
theorem dL_law_40 : decode cL_law 40 = .ok (.bipush 31, 2) := by decide +kernel
theorem dL_law_42 : decode cL_law 42 = .ok (.iand, 1) := by decide +kernel
theorem dL_law_43 : decode cL_law 43 = .ok (.tableswitch 592 0 16 #[81, 104, 117, 160, 193, 206, 289, 312, 335, 348, 411, 434, 457, 490, 523, 556, 569], 81) := by decide +kernel
theorem dL_law_124 : decode cL_law 124 = .ok (.aload_n 1, 1) := by decide +kernel
theorem dL_law_125 : decode cL_law 125 = .ok (.aload_n 0, 1) := by decide +kernel
theorem dL_law_126 : decode cL_law 126 = .ok (.iload_n 3, 1) := by decide +kernel
theorem dL_law_127 : decode cL_law 127 = .ok (.iconst 1, 1) := by decide +kernel
theorem dL_law_128 : decode cL_law 128 = .ok (.iadd, 1) := by decide +kernel
theorem dL_law_129 : decode cL_law 129 = .ok (.iaload, 1) := by decide +kernel
theorem dL_law_130 : decode cL_law 130 = .ok (.invokevirtual 21, 3) := by decide +kernel
theorem dL_law_133 : decode cL_law 133 = .ok (.aload_n 2, 1) := by decide +kernel
theorem dL_law_134 : decode cL_law 134 = .ok (.aload_n 0, 1) := by decide +kernel
theorem dL_law_135 : decode cL_law 135 = .ok (.iload_n 3, 1) := by decide +kernel
theorem dL_law_136 : decode cL_law 136 = .ok (.iconst 1, 1) := by decide +kernel
theorem dL_law_137 : decode cL_law 137 = .ok (.iadd, 1) := by decide +kernel
theorem dL_law_138 : decode cL_law 138 = .ok (.iaload, 1) := by decide +kernel
theorem dL_law_139 : decode cL_law 139 = .ok (.invokevirtual 25, 3) := by decide +kernel
theorem dL_law_142 : decode cL_law 142 = .ok (.if_icmp .eq 493, 3) := by decide +kernel
theorem dL_law_145 : decode cL_law 145 = .ok (.iconst 0, 1) := by decide +kernel
theorem dL_law_146 : decode cL_law 146 = .ok (.ireturn, 1) := by decide +kernel
theorem dL_law_147 : decode cL_law 147 = .ok (.aload_n 1, 1) := by decide +kernel
theorem dL_law_148 : decode cL_law 148 = .ok (.invokevirtual 26, 3) := by decide +kernel
theorem dL_law_151 : decode cL_law 151 = .ok (.pop, 1) := by decide +kernel
theorem dL_law_152 : decode cL_law 152 = .ok (.aload_n 2, 1) := by decide +kernel
theorem dL_law_153 : decode cL_law 153 = .ok (.invokevirtual 30, 3) := by decide +kernel
theorem dL_law_156 : decode cL_law 156 = .ok (.pop, 1) := by decide +kernel
theorem dL_law_157 : decode cL_law 157 = .ok (.goto 478, 3) := by decide +kernel
theorem dL_law_160 : decode cL_law 160 = .ok (.aload_n 1, 1) := by decide +kernel
theorem dL_law_161 : decode cL_law 161 = .ok (.aload_n 0, 1) := by decide +kernel
theorem dL_law_162 : decode cL_law 162 = .ok (.iload_n 3, 1) := by decide +kernel
theorem dL_law_163 : decode cL_law 163 = .ok (.iconst 1, 1) := by decide +kernel
theorem dL_law_164 : decode cL_law 164 = .ok (.iadd, 1) := by decide +kernel
theorem dL_law_165 : decode cL_law 165 = .ok (.iaload, 1) := by decide +kernel
theorem dL_law_166 : decode cL_law 166 = .ok (.aload_n 0, 1) := by decide +kernel
theorem dL_law_167 : decode cL_law 167 = .ok (.iload_n 3, 1) := by decide +kernel
theorem dL_law_168 : decode cL_law 168 = .ok (.iconst 2, 1) := by decide +kernel
theorem dL_law_169 : decode cL_law 169 = .ok (.iadd, 1) := by decide +kernel
theorem dL_law_170 : decode cL_law 170 = .ok (.iaload, 1) := by decide +kernel
theorem dL_law_171 : decode cL_law 171 = .ok (.aload_n 0, 1) := by decide +kernel
theorem dL_law_172 : decode cL_law 172 = .ok (.iload_n 3, 1) := by decide +kernel
theorem dL_law_173 : decode cL_law 173 = .ok (.iconst 3, 1) := by decide +kernel
theorem dL_law_174 : decode cL_law 174 = .ok (.iadd, 1) := by decide +kernel
theorem dL_law_175 : decode cL_law 175 = .ok (.iaload, 1) := by decide +kernel
theorem dL_law_176 : decode cL_law 176 = .ok (.invokevirtual 31, 3) := by decide +kernel
theorem dL_law_179 : decode cL_law 179 = .ok (.pop, 1) := by decide +kernel
theorem dL_law_180 : decode cL_law 180 = .ok (.aload_n 2, 1) := by decide +kernel
theorem dL_law_181 : decode cL_law 181 = .ok (.aload_n 0, 1) := by decide +kernel
theorem dL_law_182 : decode cL_law 182 = .ok (.iload_n 3, 1) := by decide +kernel
theorem dL_law_183 : decode cL_law 183 = .ok (.iconst 1, 1) := by decide +kernel
theorem dL_law_184 : decode cL_law 184 = .ok (.iadd, 1) := by decide +kernel
theorem dL_law_185 : decode cL_law 185 = .ok (.iaload, 1) := by decide +kernel
theorem dL_law_186 : decode cL_law 186 = .ok (.aload_n 0, 1) := by decide +kernel
theorem dL_law_187 : decode cL_law 187 = .ok (.iload_n 3, 1) := by decide +kernel
theorem dL_law_188 : decode cL_law 188 = .ok (.iconst 2, 1) := by decide +kernel
theorem dL_law_189 : decode cL_law 189 = .ok (.iadd, 1) := by decide +kernel
theorem dL_law_190 : decode cL_law 190 = .ok (.iaload, 1) := by decide +kernel
theorem dL_law_191 : decode cL_law 191 = .ok (.aload_n 0, 1) := by decide +kernel
theorem dL_law_192 : decode cL_law 192 = .ok (.iload_n 3, 1) := by decide +kernel
theorem dL_law_193 : decode cL_law 193 = .ok (.iconst 3, 1) := by decide +kernel
theorem dL_law_194 : decode cL_law 194 = .ok (.iadd, 1) := by decide +kernel
theorem dL_law_195 : decode cL_law 195 = .ok (.iaload, 1) := by decide +kernel
theorem dL_law_196 : decode cL_law 196 = .ok (.invokevirtual 35, 3) := by decide +kernel
theorem dL_law_199 : decode cL_law 199 = .ok (.pop, 1) := by decide +kernel
theorem dL_law_200 : decode cL_law 200 = .ok (.goto 435, 3) := by decide +kernel
theorem dL_law_203 : decode cL_law 203 = .ok (.aload_n 1, 1) := by decide +kernel
theorem dL_law_204 : decode cL_law 204 = .ok (.aload_n 0, 1) := by decide +kernel
theorem dL_law_205 : decode cL_law 205 = .ok (.iload_n 3, 1) := by decide +kernel
theorem dL_law_206 : decode cL_law 206 = .ok (.iconst 1, 1) := by decide +kernel
theorem dL_law_207 : decode cL_law 207 = .ok (.iadd, 1) := by decide +kernel
theorem dL_law_208 : decode cL_law 208 = .ok (.iaload, 1) := by decide +kernel
theorem dL_law_209 : decode cL_law 209 = .ok (.aload_n 0, 1) := by decide +kernel
theorem dL_law_210 : decode cL_law 210 = .ok (.iload_n 3, 1) := by decide +kernel
theorem dL_law_211 : decode cL_law 211 = .ok (.iconst 2, 1) := by decide +kernel
theorem dL_law_212 : decode cL_law 212 = .ok (.iadd, 1) := by decide +kernel
theorem dL_law_213 : decode cL_law 213 = .ok (.iaload, 1) := by decide +kernel
theorem dL_law_214 : decode cL_law 214 = .ok (.invokevirtual 36, 3) := by decide +kernel
theorem dL_law_217 : decode cL_law 217 = .ok (.pop, 1) := by decide +kernel
theorem dL_law_218 : decode cL_law 218 = .ok (.aload_n 2, 1) := by decide +kernel
theorem dL_law_219 : decode cL_law 219 = .ok (.aload_n 0, 1) := by decide +kernel
theorem dL_law_220 : decode cL_law 220 = .ok (.iload_n 3, 1) := by decide +kernel
theorem dL_law_221 : decode cL_law 221 = .ok (.iconst 1, 1) := by decide +kernel
theorem dL_law_222 : decode cL_law 222 = .ok (.iadd, 1) := by decide +kernel
theorem dL_law_223 : decode cL_law 223 = .ok (.iaload, 1) := by decide +kernel
theorem dL_law_224 : decode cL_law 224 = .ok (.aload_n 0, 1) := by decide +kernel
theorem dL_law_225 : decode cL_law 225 = .ok (.iload_n 3, 1) := by decide +kernel
theorem dL_law_226 : decode cL_law 226 = .ok (.iconst 2, 1) := by decide +kernel
theorem dL_law_227 : decode cL_law 227 = .ok (.iadd, 1) := by decide +kernel
theorem dL_law_228 : decode cL_law 228 = .ok (.iaload, 1) := by decide +kernel
theorem dL_law_229 : decode cL_law 229 = .ok (.invokevirtual 40, 3) := by decide +kernel
theorem dL_law_232 : decode cL_law 232 = .ok (.pop, 1) := by decide +kernel
theorem dL_law_233 : decode cL_law 233 = .ok (.goto 402, 3) := by decide +kernel
theorem dL_law_236 : decode cL_law 236 = .ok (.aload_n 1, 1) := by decide +kernel
theorem dL_law_237 : decode cL_law 237 = .ok (.invokevirtual 41, 3) := by decide +kernel
theorem dL_law_240 : decode cL_law 240 = .ok (.pop, 1) := by decide +kernel
theorem dL_law_241 : decode cL_law 241 = .ok (.aload_n 2, 1) := by decide +kernel
theorem dL_law_242 : decode cL_law 242 = .ok (.invokevirtual 44, 3) := by decide +kernel
theorem dL_law_245 : decode cL_law 245 = .ok (.pop, 1) := by decide +kernel
theorem dL_law_246 : decode cL_law 246 = .ok (.goto 389, 3) := by decide +kernel
theorem dL_law_249 : decode cL_law 249 = .ok (.aload_n 1, 1) := by decide +kernel
theorem dL_law_250 : decode cL_law 250 = .ok (.aload_n 0, 1) := by decide +kernel
theorem dL_law_251 : decode cL_law 251 = .ok (.iload_n 3, 1) := by decide +kernel
theorem dL_law_252 : decode cL_law 252 = .ok (.iconst 1, 1) := by decide +kernel
theorem dL_law_253 : decode cL_law 253 = .ok (.iadd, 1) := by decide +kernel
theorem dL_law_254 : decode cL_law 254 = .ok (.iaload, 1) := by decide +kernel
theorem dL_law_255 : decode cL_law 255 = .ok (.aload_n 0, 1) := by decide +kernel
theorem dL_law_256 : decode cL_law 256 = .ok (.iload_n 3, 1) := by decide +kernel
theorem dL_law_257 : decode cL_law 257 = .ok (.iconst 2, 1) := by decide +kernel
theorem dL_law_258 : decode cL_law 258 = .ok (.iadd, 1) := by decide +kernel
theorem dL_law_259 : decode cL_law 259 = .ok (.iaload, 1) := by decide +kernel
theorem dL_law_260 : decode cL_law 260 = .ok (.aload_n 0, 1) := by decide +kernel
theorem dL_law_261 : decode cL_law 261 = .ok (.iload_n 3, 1) := by decide +kernel
theorem dL_law_262 : decode cL_law 262 = .ok (.iconst 3, 1) := by decide +kernel
theorem dL_law_263 : decode cL_law 263 = .ok (.iadd, 1) := by decide +kernel
theorem dL_law_264 : decode cL_law 264 = .ok (.iaload, 1) := by decide +kernel
theorem dL_law_265 : decode cL_law 265 = .ok (.aload_n 0, 1) := by decide +kernel
theorem dL_law_266 : decode cL_law 266 = .ok (.iload_n 3, 1) := by decide +kernel
theorem dL_law_267 : decode cL_law 267 = .ok (.iconst 4, 1) := by decide +kernel
theorem dL_law_268 : decode cL_law 268 = .ok (.iadd, 1) := by decide +kernel
theorem dL_law_269 : decode cL_law 269 = .ok (.iaload, 1) := by decide +kernel
theorem dL_law_270 : decode cL_law 270 = .ok (.i2l, 1) := by decide +kernel
theorem dL_law_271 : decode cL_law 271 = .ok (.bipush 32, 2) := by decide +kernel
theorem dL_law_273 : decode cL_law 273 = .ok (.lshl, 1) := by decide +kernel
theorem dL_law_274 : decode cL_law 274 = .ok (.aload_n 0, 1) := by decide +kernel
theorem dL_law_275 : decode cL_law 275 = .ok (.iload_n 3, 1) := by decide +kernel
theorem dL_law_276 : decode cL_law 276 = .ok (.iconst 5, 1) := by decide +kernel
theorem dL_law_277 : decode cL_law 277 = .ok (.iadd, 1) := by decide +kernel
theorem dL_law_278 : decode cL_law 278 = .ok (.iaload, 1) := by decide +kernel
theorem dL_law_279 : decode cL_law 279 = .ok (.i2l, 1) := by decide +kernel
theorem dL_law_280 : decode cL_law 280 = .ok (.ldc2_w 45, 3) := by decide +kernel
theorem dL_law_283 : decode cL_law 283 = .ok (.land, 1) := by decide +kernel
theorem dL_law_284 : decode cL_law 284 = .ok (.lor, 1) := by decide +kernel
theorem dL_law_285 : decode cL_law 285 = .ok (.invokevirtual 47, 3) := by decide +kernel
theorem dL_law_288 : decode cL_law 288 = .ok (.pop, 1) := by decide +kernel
theorem dL_law_289 : decode cL_law 289 = .ok (.aload_n 2, 1) := by decide +kernel
theorem dL_law_290 : decode cL_law 290 = .ok (.aload_n 0, 1) := by decide +kernel
theorem dL_law_291 : decode cL_law 291 = .ok (.iload_n 3, 1) := by decide +kernel
theorem dL_law_292 : decode cL_law 292 = .ok (.iconst 1, 1) := by decide +kernel
theorem dL_law_293 : decode cL_law 293 = .ok (.iadd, 1) := by decide +kernel
theorem dL_law_294 : decode cL_law 294 = .ok (.iaload, 1) := by decide +kernel
theorem dL_law_295 : decode cL_law 295 = .ok (.aload_n 0, 1) := by decide +kernel
theorem dL_law_296 : decode cL_law 296 = .ok (.iload_n 3, 1) := by decide +kernel
theorem dL_law_297 : decode cL_law 297 = .ok (.iconst 2, 1) := by decide +kernel
theorem dL_law_298 : decode cL_law 298 = .ok (.iadd, 1) := by decide +kernel
theorem dL_law_299 : decode cL_law 299 = .ok (.iaload, 1) := by decide +kernel
theorem dL_law_300 : decode cL_law 300 = .ok (.aload_n 0, 1) := by decide +kernel
theorem dL_law_301 : decode cL_law 301 = .ok (.iload_n 3, 1) := by decide +kernel
theorem dL_law_302 : decode cL_law 302 = .ok (.iconst 3, 1) := by decide +kernel
theorem dL_law_303 : decode cL_law 303 = .ok (.iadd, 1) := by decide +kernel
theorem dL_law_304 : decode cL_law 304 = .ok (.iaload, 1) := by decide +kernel
theorem dL_law_305 : decode cL_law 305 = .ok (.aload_n 0, 1) := by decide +kernel
theorem dL_law_306 : decode cL_law 306 = .ok (.iload_n 3, 1) := by decide +kernel
theorem dL_law_307 : decode cL_law 307 = .ok (.iconst 4, 1) := by decide +kernel
theorem dL_law_308 : decode cL_law 308 = .ok (.iadd, 1) := by decide +kernel
theorem dL_law_309 : decode cL_law 309 = .ok (.iaload, 1) := by decide +kernel
theorem dL_law_310 : decode cL_law 310 = .ok (.i2l, 1) := by decide +kernel
theorem dL_law_311 : decode cL_law 311 = .ok (.bipush 32, 2) := by decide +kernel
theorem dL_law_313 : decode cL_law 313 = .ok (.lshl, 1) := by decide +kernel
theorem dL_law_314 : decode cL_law 314 = .ok (.aload_n 0, 1) := by decide +kernel
theorem dL_law_315 : decode cL_law 315 = .ok (.iload_n 3, 1) := by decide +kernel
theorem dL_law_316 : decode cL_law 316 = .ok (.iconst 5, 1) := by decide +kernel
theorem dL_law_317 : decode cL_law 317 = .ok (.iadd, 1) := by decide +kernel
theorem dL_law_318 : decode cL_law 318 = .ok (.iaload, 1) := by decide +kernel
theorem dL_law_319 : decode cL_law 319 = .ok (.i2l, 1) := by decide +kernel
theorem dL_law_320 : decode cL_law 320 = .ok (.ldc2_w 45, 3) := by decide +kernel
theorem dL_law_323 : decode cL_law 323 = .ok (.land, 1) := by decide +kernel
theorem dL_law_324 : decode cL_law 324 = .ok (.lor, 1) := by decide +kernel
theorem dL_law_325 : decode cL_law 325 = .ok (.invokevirtual 51, 3) := by decide +kernel
theorem dL_law_328 : decode cL_law 328 = .ok (.pop, 1) := by decide +kernel
theorem dL_law_329 : decode cL_law 329 = .ok (.goto 306, 3) := by decide +kernel
theorem dL_law_332 : decode cL_law 332 = .ok (.aload_n 1, 1) := by decide +kernel
theorem dL_law_333 : decode cL_law 333 = .ok (.aload_n 0, 1) := by decide +kernel
theorem dL_law_334 : decode cL_law 334 = .ok (.iload_n 3, 1) := by decide +kernel
theorem dL_law_335 : decode cL_law 335 = .ok (.iconst 1, 1) := by decide +kernel
theorem dL_law_336 : decode cL_law 336 = .ok (.iadd, 1) := by decide +kernel
theorem dL_law_337 : decode cL_law 337 = .ok (.iaload, 1) := by decide +kernel
theorem dL_law_338 : decode cL_law 338 = .ok (.invokevirtual 52, 3) := by decide +kernel
theorem dL_law_341 : decode cL_law 341 = .ok (.pop, 1) := by decide +kernel
theorem dL_law_342 : decode cL_law 342 = .ok (.aload_n 2, 1) := by decide +kernel
theorem dL_law_343 : decode cL_law 343 = .ok (.aload_n 0, 1) := by decide +kernel
theorem dL_law_344 : decode cL_law 344 = .ok (.iload_n 3, 1) := by decide +kernel
theorem dL_law_345 : decode cL_law 345 = .ok (.iconst 1, 1) := by decide +kernel
theorem dL_law_346 : decode cL_law 346 = .ok (.iadd, 1) := by decide +kernel
theorem dL_law_347 : decode cL_law 347 = .ok (.iaload, 1) := by decide +kernel
theorem dL_law_348 : decode cL_law 348 = .ok (.invokevirtual 55, 3) := by decide +kernel
theorem dL_law_351 : decode cL_law 351 = .ok (.pop, 1) := by decide +kernel
theorem dL_law_352 : decode cL_law 352 = .ok (.goto 283, 3) := by decide +kernel
theorem dL_law_355 : decode cL_law 355 = .ok (.aload_n 1, 1) := by decide +kernel
theorem dL_law_356 : decode cL_law 356 = .ok (.aload_n 0, 1) := by decide +kernel
theorem dL_law_357 : decode cL_law 357 = .ok (.iload_n 3, 1) := by decide +kernel
theorem dL_law_358 : decode cL_law 358 = .ok (.iconst 1, 1) := by decide +kernel
theorem dL_law_359 : decode cL_law 359 = .ok (.iadd, 1) := by decide +kernel
theorem dL_law_360 : decode cL_law 360 = .ok (.iaload, 1) := by decide +kernel
theorem dL_law_361 : decode cL_law 361 = .ok (.invokevirtual 56, 3) := by decide +kernel
theorem dL_law_364 : decode cL_law 364 = .ok (.pop, 1) := by decide +kernel
theorem dL_law_365 : decode cL_law 365 = .ok (.aload_n 2, 1) := by decide +kernel
theorem dL_law_366 : decode cL_law 366 = .ok (.aload_n 0, 1) := by decide +kernel
theorem dL_law_367 : decode cL_law 367 = .ok (.iload_n 3, 1) := by decide +kernel
theorem dL_law_368 : decode cL_law 368 = .ok (.iconst 1, 1) := by decide +kernel
theorem dL_law_369 : decode cL_law 369 = .ok (.iadd, 1) := by decide +kernel
theorem dL_law_370 : decode cL_law 370 = .ok (.iaload, 1) := by decide +kernel
theorem dL_law_371 : decode cL_law 371 = .ok (.invokevirtual 59, 3) := by decide +kernel
theorem dL_law_374 : decode cL_law 374 = .ok (.pop, 1) := by decide +kernel
theorem dL_law_375 : decode cL_law 375 = .ok (.goto 260, 3) := by decide +kernel
theorem dL_law_378 : decode cL_law 378 = .ok (.aload_n 1, 1) := by decide +kernel
theorem dL_law_379 : decode cL_law 379 = .ok (.invokevirtual 60, 3) := by decide +kernel
theorem dL_law_382 : decode cL_law 382 = .ok (.pop, 1) := by decide +kernel
theorem dL_law_383 : decode cL_law 383 = .ok (.aload_n 2, 1) := by decide +kernel
theorem dL_law_384 : decode cL_law 384 = .ok (.invokevirtual 63, 3) := by decide +kernel
theorem dL_law_387 : decode cL_law 387 = .ok (.pop, 1) := by decide +kernel
theorem dL_law_388 : decode cL_law 388 = .ok (.goto 247, 3) := by decide +kernel
theorem dL_law_391 : decode cL_law 391 = .ok (.aload_n 1, 1) := by decide +kernel
theorem dL_law_392 : decode cL_law 392 = .ok (.aload_n 0, 1) := by decide +kernel
theorem dL_law_393 : decode cL_law 393 = .ok (.iload_n 3, 1) := by decide +kernel
theorem dL_law_394 : decode cL_law 394 = .ok (.iconst 1, 1) := by decide +kernel
theorem dL_law_395 : decode cL_law 395 = .ok (.iadd, 1) := by decide +kernel
theorem dL_law_396 : decode cL_law 396 = .ok (.iaload, 1) := by decide +kernel
theorem dL_law_397 : decode cL_law 397 = .ok (.aload_n 0, 1) := by decide +kernel
theorem dL_law_398 : decode cL_law 398 = .ok (.iload_n 3, 1) := by decide +kernel
theorem dL_law_399 : decode cL_law 399 = .ok (.iconst 2, 1) := by decide +kernel
theorem dL_law_400 : decode cL_law 400 = .ok (.iadd, 1) := by decide +kernel
theorem dL_law_401 : decode cL_law 401 = .ok (.iaload, 1) := by decide +kernel
theorem dL_law_402 : decode cL_law 402 = .ok (.i2l, 1) := by decide +kernel
theorem dL_law_403 : decode cL_law 403 = .ok (.bipush 32, 2) := by decide +kernel
theorem dL_law_405 : decode cL_law 405 = .ok (.lshl, 1) := by decide +kernel
theorem dL_law_406 : decode cL_law 406 = .ok (.aload_n 0, 1) := by decide +kernel
theorem dL_law_407 : decode cL_law 407 = .ok (.iload_n 3, 1) := by decide +kernel
theorem dL_law_408 : decode cL_law 408 = .ok (.iconst 3, 1) := by decide +kernel
theorem dL_law_409 : decode cL_law 409 = .ok (.iadd, 1) := by decide +kernel
theorem dL_law_410 : decode cL_law 410 = .ok (.iaload, 1) := by decide +kernel
theorem dL_law_411 : decode cL_law 411 = .ok (.i2l, 1) := by decide +kernel
theorem dL_law_412 : decode cL_law 412 = .ok (.ldc2_w 45, 3) := by decide +kernel
theorem dL_law_415 : decode cL_law 415 = .ok (.land, 1) := by decide +kernel
theorem dL_law_416 : decode cL_law 416 = .ok (.lor, 1) := by decide +kernel
theorem dL_law_417 : decode cL_law 417 = .ok (.invokevirtual 64, 3) := by decide +kernel
theorem dL_law_420 : decode cL_law 420 = .ok (.pop2, 1) := by decide +kernel
theorem dL_law_421 : decode cL_law 421 = .ok (.aload_n 2, 1) := by decide +kernel
theorem dL_law_422 : decode cL_law 422 = .ok (.aload_n 0, 1) := by decide +kernel
theorem dL_law_423 : decode cL_law 423 = .ok (.iload_n 3, 1) := by decide +kernel
theorem dL_law_424 : decode cL_law 424 = .ok (.iconst 1, 1) := by decide +kernel
theorem dL_law_425 : decode cL_law 425 = .ok (.iadd, 1) := by decide +kernel
theorem dL_law_426 : decode cL_law 426 = .ok (.iaload, 1) := by decide +kernel
theorem dL_law_427 : decode cL_law 427 = .ok (.aload_n 0, 1) := by decide +kernel
theorem dL_law_428 : decode cL_law 428 = .ok (.iload_n 3, 1) := by decide +kernel
theorem dL_law_429 : decode cL_law 429 = .ok (.iconst 2, 1) := by decide +kernel
theorem dL_law_430 : decode cL_law 430 = .ok (.iadd, 1) := by decide +kernel
theorem dL_law_431 : decode cL_law 431 = .ok (.iaload, 1) := by decide +kernel
theorem dL_law_432 : decode cL_law 432 = .ok (.i2l, 1) := by decide +kernel
theorem dL_law_433 : decode cL_law 433 = .ok (.bipush 32, 2) := by decide +kernel
theorem dL_law_435 : decode cL_law 435 = .ok (.lshl, 1) := by decide +kernel
theorem dL_law_436 : decode cL_law 436 = .ok (.aload_n 0, 1) := by decide +kernel
theorem dL_law_437 : decode cL_law 437 = .ok (.iload_n 3, 1) := by decide +kernel
theorem dL_law_438 : decode cL_law 438 = .ok (.iconst 3, 1) := by decide +kernel
theorem dL_law_439 : decode cL_law 439 = .ok (.iadd, 1) := by decide +kernel
theorem dL_law_440 : decode cL_law 440 = .ok (.iaload, 1) := by decide +kernel
theorem dL_law_441 : decode cL_law 441 = .ok (.i2l, 1) := by decide +kernel
theorem dL_law_442 : decode cL_law 442 = .ok (.ldc2_w 45, 3) := by decide +kernel
theorem dL_law_445 : decode cL_law 445 = .ok (.land, 1) := by decide +kernel
theorem dL_law_446 : decode cL_law 446 = .ok (.lor, 1) := by decide +kernel
theorem dL_law_447 : decode cL_law 447 = .ok (.invokevirtual 68, 3) := by decide +kernel
theorem dL_law_450 : decode cL_law 450 = .ok (.pop2, 1) := by decide +kernel
theorem dL_law_451 : decode cL_law 451 = .ok (.goto 184, 3) := by decide +kernel
theorem dL_law_454 : decode cL_law 454 = .ok (.aload_n 1, 1) := by decide +kernel
theorem dL_law_455 : decode cL_law 455 = .ok (.aload_n 0, 1) := by decide +kernel
theorem dL_law_456 : decode cL_law 456 = .ok (.iload_n 3, 1) := by decide +kernel
theorem dL_law_457 : decode cL_law 457 = .ok (.iconst 1, 1) := by decide +kernel
theorem dL_law_458 : decode cL_law 458 = .ok (.iadd, 1) := by decide +kernel
theorem dL_law_459 : decode cL_law 459 = .ok (.iaload, 1) := by decide +kernel
theorem dL_law_460 : decode cL_law 460 = .ok (.invokevirtual 69, 3) := by decide +kernel
theorem dL_law_463 : decode cL_law 463 = .ok (.pop, 1) := by decide +kernel
theorem dL_law_464 : decode cL_law 464 = .ok (.aload_n 2, 1) := by decide +kernel
theorem dL_law_465 : decode cL_law 465 = .ok (.aload_n 0, 1) := by decide +kernel
theorem dL_law_466 : decode cL_law 466 = .ok (.iload_n 3, 1) := by decide +kernel
theorem dL_law_467 : decode cL_law 467 = .ok (.iconst 1, 1) := by decide +kernel
theorem dL_law_468 : decode cL_law 468 = .ok (.iadd, 1) := by decide +kernel
theorem dL_law_469 : decode cL_law 469 = .ok (.iaload, 1) := by decide +kernel
theorem dL_law_470 : decode cL_law 470 = .ok (.invokevirtual 72, 3) := by decide +kernel
theorem dL_law_473 : decode cL_law 473 = .ok (.pop, 1) := by decide +kernel
theorem dL_law_474 : decode cL_law 474 = .ok (.goto 161, 3) := by decide +kernel
theorem dL_law_477 : decode cL_law 477 = .ok (.aload_n 1, 1) := by decide +kernel
theorem dL_law_478 : decode cL_law 478 = .ok (.aload_n 0, 1) := by decide +kernel
theorem dL_law_479 : decode cL_law 479 = .ok (.iload_n 3, 1) := by decide +kernel
theorem dL_law_480 : decode cL_law 480 = .ok (.iconst 1, 1) := by decide +kernel
theorem dL_law_481 : decode cL_law 481 = .ok (.iadd, 1) := by decide +kernel
theorem dL_law_482 : decode cL_law 482 = .ok (.iaload, 1) := by decide +kernel
theorem dL_law_483 : decode cL_law 483 = .ok (.invokevirtual 73, 3) := by decide +kernel
theorem dL_law_486 : decode cL_law 486 = .ok (.pop, 1) := by decide +kernel
theorem dL_law_487 : decode cL_law 487 = .ok (.aload_n 2, 1) := by decide +kernel
theorem dL_law_488 : decode cL_law 488 = .ok (.aload_n 0, 1) := by decide +kernel
theorem dL_law_489 : decode cL_law 489 = .ok (.iload_n 3, 1) := by decide +kernel
theorem dL_law_490 : decode cL_law 490 = .ok (.iconst 1, 1) := by decide +kernel
theorem dL_law_491 : decode cL_law 491 = .ok (.iadd, 1) := by decide +kernel
theorem dL_law_492 : decode cL_law 492 = .ok (.iaload, 1) := by decide +kernel
theorem dL_law_493 : decode cL_law 493 = .ok (.invokevirtual 76, 3) := by decide +kernel
theorem dL_law_496 : decode cL_law 496 = .ok (.pop, 1) := by decide +kernel
theorem dL_law_497 : decode cL_law 497 = .ok (.goto 138, 3) := by decide +kernel
theorem dL_law_500 : decode cL_law 500 = .ok (.aload_n 1, 1) := by decide +kernel
theorem dL_law_501 : decode cL_law 501 = .ok (.aload_n 0, 1) := by decide +kernel
theorem dL_law_502 : decode cL_law 502 = .ok (.iload_n 3, 1) := by decide +kernel
theorem dL_law_503 : decode cL_law 503 = .ok (.iconst 1, 1) := by decide +kernel
theorem dL_law_504 : decode cL_law 504 = .ok (.iadd, 1) := by decide +kernel
theorem dL_law_505 : decode cL_law 505 = .ok (.iaload, 1) := by decide +kernel
theorem dL_law_506 : decode cL_law 506 = .ok (.aload_n 0, 1) := by decide +kernel
theorem dL_law_507 : decode cL_law 507 = .ok (.iload_n 3, 1) := by decide +kernel
theorem dL_law_508 : decode cL_law 508 = .ok (.iconst 2, 1) := by decide +kernel
theorem dL_law_509 : decode cL_law 509 = .ok (.iadd, 1) := by decide +kernel
theorem dL_law_510 : decode cL_law 510 = .ok (.iaload, 1) := by decide +kernel
theorem dL_law_511 : decode cL_law 511 = .ok (.invokevirtual 77, 3) := by decide +kernel
theorem dL_law_514 : decode cL_law 514 = .ok (.pop, 1) := by decide +kernel
theorem dL_law_515 : decode cL_law 515 = .ok (.aload_n 2, 1) := by decide +kernel
theorem dL_law_516 : decode cL_law 516 = .ok (.aload_n 0, 1) := by decide +kernel
theorem dL_law_517 : decode cL_law 517 = .ok (.iload_n 3, 1) := by decide +kernel
theorem dL_law_518 : decode cL_law 518 = .ok (.iconst 1, 1) := by decide +kernel
theorem dL_law_519 : decode cL_law 519 = .ok (.iadd, 1) := by decide +kernel
theorem dL_law_520 : decode cL_law 520 = .ok (.iaload, 1) := by decide +kernel
theorem dL_law_521 : decode cL_law 521 = .ok (.aload_n 0, 1) := by decide +kernel
theorem dL_law_522 : decode cL_law 522 = .ok (.iload_n 3, 1) := by decide +kernel
theorem dL_law_523 : decode cL_law 523 = .ok (.iconst 2, 1) := by decide +kernel
theorem dL_law_524 : decode cL_law 524 = .ok (.iadd, 1) := by decide +kernel
theorem dL_law_525 : decode cL_law 525 = .ok (.iaload, 1) := by decide +kernel
theorem dL_law_526 : decode cL_law 526 = .ok (.invokevirtual 80, 3) := by decide +kernel
theorem dL_law_529 : decode cL_law 529 = .ok (.pop, 1) := by decide +kernel
theorem dL_law_530 : decode cL_law 530 = .ok (.goto 105, 3) := by decide +kernel
theorem dL_law_533 : decode cL_law 533 = .ok (.aload_n 1, 1) := by decide +kernel
theorem dL_law_534 : decode cL_law 534 = .ok (.aload_n 0, 1) := by decide +kernel
theorem dL_law_535 : decode cL_law 535 = .ok (.iload_n 3, 1) := by decide +kernel
theorem dL_law_536 : decode cL_law 536 = .ok (.iconst 1, 1) := by decide +kernel
theorem dL_law_537 : decode cL_law 537 = .ok (.iadd, 1) := by decide +kernel
theorem dL_law_538 : decode cL_law 538 = .ok (.iaload, 1) := by decide +kernel
theorem dL_law_539 : decode cL_law 539 = .ok (.aload_n 0, 1) := by decide +kernel
theorem dL_law_540 : decode cL_law 540 = .ok (.iload_n 3, 1) := by decide +kernel
theorem dL_law_541 : decode cL_law 541 = .ok (.iconst 2, 1) := by decide +kernel
theorem dL_law_542 : decode cL_law 542 = .ok (.iadd, 1) := by decide +kernel
theorem dL_law_543 : decode cL_law 543 = .ok (.iaload, 1) := by decide +kernel
theorem dL_law_544 : decode cL_law 544 = .ok (.invokevirtual 81, 3) := by decide +kernel
theorem dL_law_547 : decode cL_law 547 = .ok (.pop, 1) := by decide +kernel
theorem dL_law_548 : decode cL_law 548 = .ok (.aload_n 2, 1) := by decide +kernel
theorem dL_law_549 : decode cL_law 549 = .ok (.aload_n 0, 1) := by decide +kernel
theorem dL_law_550 : decode cL_law 550 = .ok (.iload_n 3, 1) := by decide +kernel
theorem dL_law_551 : decode cL_law 551 = .ok (.iconst 1, 1) := by decide +kernel
theorem dL_law_552 : decode cL_law 552 = .ok (.iadd, 1) := by decide +kernel
theorem dL_law_553 : decode cL_law 553 = .ok (.iaload, 1) := by decide +kernel
theorem dL_law_554 : decode cL_law 554 = .ok (.aload_n 0, 1) := by decide +kernel
theorem dL_law_555 : decode cL_law 555 = .ok (.iload_n 3, 1) := by decide +kernel
theorem dL_law_556 : decode cL_law 556 = .ok (.iconst 2, 1) := by decide +kernel
theorem dL_law_557 : decode cL_law 557 = .ok (.iadd, 1) := by decide +kernel
theorem dL_law_558 : decode cL_law 558 = .ok (.iaload, 1) := by decide +kernel
theorem dL_law_559 : decode cL_law 559 = .ok (.invokevirtual 84, 3) := by decide +kernel
theorem dL_law_562 : decode cL_law 562 = .ok (.pop, 1) := by decide +kernel
theorem dL_law_563 : decode cL_law 563 = .ok (.goto 72, 3) := by decide +kernel
theorem dL_law_566 : decode cL_law 566 = .ok (.aload_n 1, 1) := by decide +kernel
theorem dL_law_567 : decode cL_law 567 = .ok (.aload_n 0, 1) := by decide +kernel
theorem dL_law_568 : decode cL_law 568 = .ok (.iload_n 3, 1) := by decide +kernel
theorem dL_law_569 : decode cL_law 569 = .ok (.iconst 1, 1) := by decide +kernel
theorem dL_law_570 : decode cL_law 570 = .ok (.iadd, 1) := by decide +kernel
theorem dL_law_571 : decode cL_law 571 = .ok (.iaload, 1) := by decide +kernel
theorem dL_law_572 : decode cL_law 572 = .ok (.aload_n 0, 1) := by decide +kernel
theorem dL_law_573 : decode cL_law 573 = .ok (.iload_n 3, 1) := by decide +kernel
theorem dL_law_574 : decode cL_law 574 = .ok (.iconst 2, 1) := by decide +kernel
theorem dL_law_575 : decode cL_law 575 = .ok (.iadd, 1) := by decide +kernel
theorem dL_law_576 : decode cL_law 576 = .ok (.iaload, 1) := by decide +kernel
theorem dL_law_577 : decode cL_law 577 = .ok (.invokevirtual 85, 3) := by decide +kernel
theorem dL_law_580 : decode cL_law 580 = .ok (.pop2, 1) := by decide +kernel
theorem dL_law_581 : decode cL_law 581 = .ok (.aload_n 2, 1) := by decide +kernel
theorem dL_law_582 : decode cL_law 582 = .ok (.aload_n 0, 1) := by decide +kernel
theorem dL_law_583 : decode cL_law 583 = .ok (.iload_n 3, 1) := by decide +kernel
theorem dL_law_584 : decode cL_law 584 = .ok (.iconst 1, 1) := by decide +kernel
theorem dL_law_585 : decode cL_law 585 = .ok (.iadd, 1) := by decide +kernel
theorem dL_law_586 : decode cL_law 586 = .ok (.iaload, 1) := by decide +kernel
theorem dL_law_587 : decode cL_law 587 = .ok (.aload_n 0, 1) := by decide +kernel
theorem dL_law_588 : decode cL_law 588 = .ok (.iload_n 3, 1) := by decide +kernel
theorem dL_law_589 : decode cL_law 589 = .ok (.iconst 2, 1) := by decide +kernel
theorem dL_law_590 : decode cL_law 590 = .ok (.iadd, 1) := by decide +kernel
theorem dL_law_591 : decode cL_law 591 = .ok (.iaload, 1) := by decide +kernel
theorem dL_law_592 : decode cL_law 592 = .ok (.invokevirtual 89, 3) := by decide +kernel
theorem dL_law_595 : decode cL_law 595 = .ok (.pop2, 1) := by decide +kernel
theorem dL_law_596 : decode cL_law 596 = .ok (.goto 39, 3) := by decide +kernel
theorem dL_law_599 : decode cL_law 599 = .ok (.aload_n 1, 1) := by decide +kernel
theorem dL_law_600 : decode cL_law 600 = .ok (.invokevirtual 90, 3) := by decide +kernel
theorem dL_law_603 : decode cL_law 603 = .ok (.pop, 1) := by decide +kernel
theorem dL_law_604 : decode cL_law 604 = .ok (.aload_n 2, 1) := by decide +kernel
theorem dL_law_605 : decode cL_law 605 = .ok (.invokevirtual 94, 3) := by decide +kernel
theorem dL_law_608 : decode cL_law 608 = .ok (.pop, 1) := by decide +kernel
theorem dL_law_609 : decode cL_law 609 = .ok (.goto 26, 3) := by decide +kernel
theorem dL_law_612 : decode cL_law 612 = .ok (.aload_n 1, 1) := by decide +kernel
theorem dL_law_613 : decode cL_law 613 = .ok (.aload_n 0, 1) := by decide +kernel
theorem dL_law_614 : decode cL_law 614 = .ok (.iload_n 3, 1) := by decide +kernel
theorem dL_law_615 : decode cL_law 615 = .ok (.iconst 1, 1) := by decide +kernel
theorem dL_law_616 : decode cL_law 616 = .ok (.iadd, 1) := by decide +kernel
theorem dL_law_617 : decode cL_law 617 = .ok (.iaload, 1) := by decide +kernel
theorem dL_law_618 : decode cL_law 618 = .ok (.invokevirtual 95, 3) := by decide +kernel
theorem dL_law_621 : decode cL_law 621 = .ok (.pop, 1) := by decide +kernel
theorem dL_law_622 : decode cL_law 622 = .ok (.aload_n 2, 1) := by decide +kernel
theorem dL_law_623 : decode cL_law 623 = .ok (.aload_n 0, 1) := by decide +kernel
theorem dL_law_624 : decode cL_law 624 = .ok (.iload_n 3, 1) := by decide +kernel
theorem dL_law_625 : decode cL_law 625 = .ok (.iconst 1, 1) := by decide +kernel
theorem dL_law_626 : decode cL_law 626 = .ok (.iadd, 1) := by decide +kernel
theorem dL_law_627 : decode cL_law 627 = .ok (.iaload, 1) := by decide +kernel
theorem dL_law_628 : decode cL_law 628 = .ok (.invokevirtual 98, 3) := by decide +kernel
theorem dL_law_631 : decode cL_law 631 = .ok (.pop, 1) := by decide +kernel
theorem dL_law_632 : decode cL_law 632 = .ok (.goto 3, 3) := by decide +kernel
theorem dL_law_635 : decode cL_law 635 = .ok (.iinc 3 6, 3) := by decide +kernel
theorem dL_law_638 : decode cL_law 638 = .ok (.goto (-610), 3) := by decide +kernel
theorem dL_law_641 : decode cL_law 641 = .ok (.iconst 1, 1) := by decide +kernel
theorem dL_law_642 : decode cL_law 642 = .ok (.ireturn, 1) := by decide +kernel
end
section
/-! MEMORY: what the new cells hold, by fields (key, address) and by arrays (address, place); kinds by address -/
/-- next address; kind; length; int, long, reference fields; int, long, reference elements -/
def sp_M : Type := Nat × (Nat → Nat) × (Nat → Nat) × (Nat → Nat → Int32) × (Nat → Nat → Int64) × (Nat → Nat → Option Nat) × (Nat → Nat → Int32) × (Nat → Nat → Int64) × (Nat → Nat → Option Nat)
def sp_M.nx (m : sp_M) : Nat := m.1
def sp_M.ty (m : sp_M) : Nat → Nat := m.2.1
def sp_M.ln (m : sp_M) : Nat → Nat := m.2.2.1
def sp_M.fI (m : sp_M) : Nat → Nat → Int32 := m.2.2.2.1
def sp_M.fL (m : sp_M) : Nat → Nat → Int64 := m.2.2.2.2.1
def sp_M.fR (m : sp_M) : Nat → Nat → Option Nat := m.2.2.2.2.2.1
def sp_M.aI (m : sp_M) : Nat → Nat → Int32 := m.2.2.2.2.2.2.1
def sp_M.aL (m : sp_M) : Nat → Nat → Int64 := m.2.2.2.2.2.2.2.1
def sp_M.aR (m : sp_M) : Nat → Nat → Option Nat := m.2.2.2.2.2.2.2.2
def sp_u1 {α : Type} (f : Nat → α) (a : Nat) (v : α) : Nat → α := fun b => if b = a then v else f b
def sp_u2 {α : Type} (f : Nat → Nat → α) (k a : Nat) (v : α) : Nat → Nat → α := fun j b => if j = k ∧ b = a then v else f j b
/-- writes -/
def sp_M.pI (m : sp_M) (k a : Nat) (v : Int32) : sp_M := (m.nx, m.ty, m.ln, sp_u2 m.fI k a v, m.fL, m.fR, m.aI, m.aL, m.aR)
def sp_M.pL (m : sp_M) (k a : Nat) (v : Int64) : sp_M := (m.nx, m.ty, m.ln, m.fI, sp_u2 m.fL k a v, m.fR, m.aI, m.aL, m.aR)
def sp_M.pR (m : sp_M) (k a : Nat) (v : Option Nat) : sp_M := (m.nx, m.ty, m.ln, m.fI, m.fL, sp_u2 m.fR k a v, m.aI, m.aL, m.aR)
def sp_M.sI (m : sp_M) (a j : Nat) (v : Int32) : sp_M := (m.nx, m.ty, m.ln, m.fI, m.fL, m.fR, sp_u2 m.aI a j v, m.aL, m.aR)
def sp_M.sL (m : sp_M) (a j : Nat) (v : Int64) : sp_M := (m.nx, m.ty, m.ln, m.fI, m.fL, m.fR, m.aI, sp_u2 m.aL a j v, m.aR)
def sp_M.sR (m : sp_M) (a j : Nat) (v : Option Nat) : sp_M := (m.nx, m.ty, m.ln, m.fI, m.fL, m.fR, m.aI, m.aL, sp_u2 m.aR a j v)
/-- a new object of class number c: all its fields 0; a new array -/
def sp_M.newO (m : sp_M) (c : Nat) : sp_M := (m.nx + 1, sp_u1 m.ty m.nx (c + 1), m.ln, fun k b => if b = m.nx then 0 else m.fI k b, fun k b => if b = m.nx then 0 else m.fL k b, fun k b => if b = m.nx then none else m.fR k b, m.aI, m.aL, m.aR)
def sp_M.newA (m : sp_M) (t n : Nat) : sp_M := (m.nx + 1, sp_u1 m.ty m.nx t, sp_u1 m.ln m.nx n, m.fI, m.fL, m.fR, fun b j => if b = m.nx then 0 else m.aI b j, fun b j => if b = m.nx then 0 else m.aL b j, fun b j => if b = m.nx then none else m.aR b j)
theorem sp_pI_nx (m : sp_M) (k a : Nat) (v : Int32) : (m.pI k a v).nx = m.nx := rfl
theorem sp_pI_ty (m : sp_M) (k a : Nat) (v : Int32) : (m.pI k a v).ty = m.ty := rfl
theorem sp_pI_ln (m : sp_M) (k a : Nat) (v : Int32) : (m.pI k a v).ln = m.ln := rfl
theorem sp_pI_fI (m : sp_M) (k a : Nat) (v : Int32) (j b : Nat) : (m.pI k a v).fI j b = if j = k ∧ b = a then v else m.fI j b := rfl
theorem sp_pI_fL (m : sp_M) (k a : Nat) (v : Int32) : (m.pI k a v).fL = m.fL := rfl
theorem sp_pI_fR (m : sp_M) (k a : Nat) (v : Int32) : (m.pI k a v).fR = m.fR := rfl
theorem sp_pI_aI (m : sp_M) (k a : Nat) (v : Int32) : (m.pI k a v).aI = m.aI := rfl
theorem sp_pI_aL (m : sp_M) (k a : Nat) (v : Int32) : (m.pI k a v).aL = m.aL := rfl
theorem sp_pI_aR (m : sp_M) (k a : Nat) (v : Int32) : (m.pI k a v).aR = m.aR := rfl
theorem sp_pL_nx (m : sp_M) (k a : Nat) (v : Int64) : (m.pL k a v).nx = m.nx := rfl
theorem sp_pL_ty (m : sp_M) (k a : Nat) (v : Int64) : (m.pL k a v).ty = m.ty := rfl
theorem sp_pL_ln (m : sp_M) (k a : Nat) (v : Int64) : (m.pL k a v).ln = m.ln := rfl
theorem sp_pL_fI (m : sp_M) (k a : Nat) (v : Int64) : (m.pL k a v).fI = m.fI := rfl
theorem sp_pL_fL (m : sp_M) (k a : Nat) (v : Int64) (j b : Nat) : (m.pL k a v).fL j b = if j = k ∧ b = a then v else m.fL j b := rfl
theorem sp_pL_fR (m : sp_M) (k a : Nat) (v : Int64) : (m.pL k a v).fR = m.fR := rfl
theorem sp_pL_aI (m : sp_M) (k a : Nat) (v : Int64) : (m.pL k a v).aI = m.aI := rfl
theorem sp_pL_aL (m : sp_M) (k a : Nat) (v : Int64) : (m.pL k a v).aL = m.aL := rfl
theorem sp_pL_aR (m : sp_M) (k a : Nat) (v : Int64) : (m.pL k a v).aR = m.aR := rfl
theorem sp_pR_nx (m : sp_M) (k a : Nat) (v : Option Nat) : (m.pR k a v).nx = m.nx := rfl
theorem sp_pR_ty (m : sp_M) (k a : Nat) (v : Option Nat) : (m.pR k a v).ty = m.ty := rfl
theorem sp_pR_ln (m : sp_M) (k a : Nat) (v : Option Nat) : (m.pR k a v).ln = m.ln := rfl
theorem sp_pR_fI (m : sp_M) (k a : Nat) (v : Option Nat) : (m.pR k a v).fI = m.fI := rfl
theorem sp_pR_fL (m : sp_M) (k a : Nat) (v : Option Nat) : (m.pR k a v).fL = m.fL := rfl
theorem sp_pR_fR (m : sp_M) (k a : Nat) (v : Option Nat) (j b : Nat) : (m.pR k a v).fR j b = if j = k ∧ b = a then v else m.fR j b := rfl
theorem sp_pR_aI (m : sp_M) (k a : Nat) (v : Option Nat) : (m.pR k a v).aI = m.aI := rfl
theorem sp_pR_aL (m : sp_M) (k a : Nat) (v : Option Nat) : (m.pR k a v).aL = m.aL := rfl
theorem sp_pR_aR (m : sp_M) (k a : Nat) (v : Option Nat) : (m.pR k a v).aR = m.aR := rfl
theorem sp_sI_nx (m : sp_M) (k a : Nat) (v : Int32) : (m.sI k a v).nx = m.nx := rfl
theorem sp_sI_ty (m : sp_M) (k a : Nat) (v : Int32) : (m.sI k a v).ty = m.ty := rfl
theorem sp_sI_ln (m : sp_M) (k a : Nat) (v : Int32) : (m.sI k a v).ln = m.ln := rfl
theorem sp_sI_fI (m : sp_M) (k a : Nat) (v : Int32) : (m.sI k a v).fI = m.fI := rfl
theorem sp_sI_fL (m : sp_M) (k a : Nat) (v : Int32) : (m.sI k a v).fL = m.fL := rfl
theorem sp_sI_fR (m : sp_M) (k a : Nat) (v : Int32) : (m.sI k a v).fR = m.fR := rfl
theorem sp_sI_aI (m : sp_M) (k a : Nat) (v : Int32) (j b : Nat) : (m.sI k a v).aI j b = if j = k ∧ b = a then v else m.aI j b := rfl
theorem sp_sI_aL (m : sp_M) (k a : Nat) (v : Int32) : (m.sI k a v).aL = m.aL := rfl
theorem sp_sI_aR (m : sp_M) (k a : Nat) (v : Int32) : (m.sI k a v).aR = m.aR := rfl
theorem sp_sL_nx (m : sp_M) (k a : Nat) (v : Int64) : (m.sL k a v).nx = m.nx := rfl
theorem sp_sL_ty (m : sp_M) (k a : Nat) (v : Int64) : (m.sL k a v).ty = m.ty := rfl
theorem sp_sL_ln (m : sp_M) (k a : Nat) (v : Int64) : (m.sL k a v).ln = m.ln := rfl
theorem sp_sL_fI (m : sp_M) (k a : Nat) (v : Int64) : (m.sL k a v).fI = m.fI := rfl
theorem sp_sL_fL (m : sp_M) (k a : Nat) (v : Int64) : (m.sL k a v).fL = m.fL := rfl
theorem sp_sL_fR (m : sp_M) (k a : Nat) (v : Int64) : (m.sL k a v).fR = m.fR := rfl
theorem sp_sL_aI (m : sp_M) (k a : Nat) (v : Int64) : (m.sL k a v).aI = m.aI := rfl
theorem sp_sL_aL (m : sp_M) (k a : Nat) (v : Int64) (j b : Nat) : (m.sL k a v).aL j b = if j = k ∧ b = a then v else m.aL j b := rfl
theorem sp_sL_aR (m : sp_M) (k a : Nat) (v : Int64) : (m.sL k a v).aR = m.aR := rfl
theorem sp_sR_nx (m : sp_M) (k a : Nat) (v : Option Nat) : (m.sR k a v).nx = m.nx := rfl
theorem sp_sR_ty (m : sp_M) (k a : Nat) (v : Option Nat) : (m.sR k a v).ty = m.ty := rfl
theorem sp_sR_ln (m : sp_M) (k a : Nat) (v : Option Nat) : (m.sR k a v).ln = m.ln := rfl
theorem sp_sR_fI (m : sp_M) (k a : Nat) (v : Option Nat) : (m.sR k a v).fI = m.fI := rfl
theorem sp_sR_fL (m : sp_M) (k a : Nat) (v : Option Nat) : (m.sR k a v).fL = m.fL := rfl
theorem sp_sR_fR (m : sp_M) (k a : Nat) (v : Option Nat) : (m.sR k a v).fR = m.fR := rfl
theorem sp_sR_aI (m : sp_M) (k a : Nat) (v : Option Nat) : (m.sR k a v).aI = m.aI := rfl
theorem sp_sR_aL (m : sp_M) (k a : Nat) (v : Option Nat) : (m.sR k a v).aL = m.aL := rfl
theorem sp_sR_aR (m : sp_M) (k a : Nat) (v : Option Nat) (j b : Nat) : (m.sR k a v).aR j b = if j = k ∧ b = a then v else m.aR j b := rfl
theorem sp_newO_nx (m : sp_M) (c : Nat) : (m.newO c).nx = m.nx + 1 := rfl
theorem sp_newO_ty (m : sp_M) (c b : Nat) : (m.newO c).ty b = if b = m.nx then c + 1 else m.ty b := rfl
theorem sp_newO_ln (m : sp_M) (c : Nat) : (m.newO c).ln = m.ln := rfl
theorem sp_newO_aI (m : sp_M) (c : Nat) : (m.newO c).aI = m.aI := rfl
theorem sp_newO_aL (m : sp_M) (c : Nat) : (m.newO c).aL = m.aL := rfl
theorem sp_newO_aR (m : sp_M) (c : Nat) : (m.newO c).aR = m.aR := rfl
theorem sp_newO_fI (m : sp_M) (c k b : Nat) : (m.newO c).fI k b = if b = m.nx then 0 else m.fI k b := rfl
theorem sp_newO_fL (m : sp_M) (c k b : Nat) : (m.newO c).fL k b = if b = m.nx then 0 else m.fL k b := rfl
theorem sp_newO_fR (m : sp_M) (c k b : Nat) : (m.newO c).fR k b = if b = m.nx then none else m.fR k b := rfl
theorem sp_newA_nx (m : sp_M) (t n : Nat) : (m.newA t n).nx = m.nx + 1 := rfl
theorem sp_newA_ty (m : sp_M) (t n b : Nat) : (m.newA t n).ty b = if b = m.nx then t else m.ty b := rfl
theorem sp_newA_ln (m : sp_M) (t n b : Nat) : (m.newA t n).ln b = if b = m.nx then n else m.ln b := rfl
theorem sp_newA_fI (m : sp_M) (t n : Nat) : (m.newA t n).fI = m.fI := rfl
theorem sp_newA_fL (m : sp_M) (t n : Nat) : (m.newA t n).fL = m.fL := rfl
theorem sp_newA_fR (m : sp_M) (t n : Nat) : (m.newA t n).fR = m.fR := rfl
theorem sp_newA_aI (m : sp_M) (t n b j : Nat) : (m.newA t n).aI b j = if b = m.nx then 0 else m.aI b j := rfl
theorem sp_newA_aL (m : sp_M) (t n b j : Nat) : (m.newA t n).aL b j = if b = m.nx then 0 else m.aL b j := rfl
theorem sp_newA_aR (m : sp_M) (t n b j : Nat) : (m.newA t n).aR b j = if b = m.nx then none else m.aR b j := rfl
/-- the types of a class's fields: 0 an int or boolean, 1 a long, 2 a reference -/
def sp_ft : Nat → List Nat
  | 0 => [0, 2, 0]
  | 1 => [0, 1, 0]
  | 2 => [2, 0]
  | 3 => [0, 2, 2, 0, 1]
  | 4 => [2, 2]
  | 5 => [0, 2, 2, 2, 2, 0, 0, 0]
  | 6 => [2, 0]
  | 7 => [0, 0, 2, 2]
  | 8 => [0, 0, 0, 0, 0, 0]
  | 9 => [2, 2, 2, 2, 1, 1, 0, 1, 2, 0, 2, 2, 2, 0]
  | 10 => [2, 2, 2, 2, 2, 2, 2]
  | 11 => [2, 2, 2, 0, 0]
  | 12 => [2, 2, 2, 2, 2, 2, 2, 2, 0]
  | 13 => [0, 2, 0, 0, 2, 2, 2, 2, 2, 2, 2, 2, 2, 0, 0, 2, 2, 0, 2, 2, 2, 0, 2, 2, 0, 2, 2, 2, 2, 1, 1, 0, 1, 0, 2, 0, 2, 2, 0, 0, 0, 0]
  | _ => []
def sp_fv (m : sp_M) (t k a : Nat) : Value := match t with
  | 0 => .int (m.fI k a)
  | 1 => .long (m.fL k a)
  | _ => va_rf (m.fR k a)
/-- the fields of the object at a, of class c: field i has the key 64 c + i -/
def sp_fs (m : sp_M) (c a : Nat) : List Value := (sp_ft c).mapIdx (fun i t => sp_fv m t (64 * c + i) a)
/-- the array classes -/
abbrev sp_Y : Type := ClassId × ClassId × ClassId × ClassId
/-- what the cell at a is, by its kind -/
def sp_e (y : sp_Y) (m : sp_M) (a : Nat) : va_E :=
  if m.ty a = 20 then .inl (y.1, m.ln a, .inl (m.aI a))
  else if m.ty a = 21 then .inl (y.2.1, m.ln a, .inr (.inl (m.aL a)))
  else if m.ty a = 22 then .inl (y.2.2.1, m.ln a, .inl (m.aI a))
  else if m.ty a = 23 then .inl (y.2.2.2, m.ln a, .inr (.inr (.inr (.inr (m.aR a)))))
  else .inr (m.ty a - 1, sp_fs m (m.ty a - 1) a)
end
section
/-! THE HEAP AND THE MEMORY: what is known of the start, and what of the cells -/
/-- classes' numbers and slots; array classes; where the new heap begins; the old heap; kinds, lengths, ints of the old arrays; statics; the text constants' cells and their bytes' cells; the class object of Object[] -/
def sp_G : Type := va_G × sp_Y × Nat × Heap × (Nat → Nat) × (Nat → Nat) × (Nat → Nat → Int32) × List (String × String × String × Value) × (Nat → Nat) × (Nat → Nat) × Nat
def sp_G.D (G : sp_G) : va_G := G.1
def sp_G.Y (G : sp_G) : sp_Y := G.2.1
def sp_G.base (G : sp_G) : Nat := G.2.2.1
def sp_G.H0 (G : sp_G) : Heap := G.2.2.2.1
def sp_G.oty (G : sp_G) : Nat → Nat := G.2.2.2.2.1
def sp_G.oln (G : sp_G) : Nat → Nat := G.2.2.2.2.2.1
def sp_G.oI (G : sp_G) : Nat → Nat → Int32 := G.2.2.2.2.2.2.1
def sp_G.st (G : sp_G) : List (String × String × String × Value) := G.2.2.2.2.2.2.2.1
def sp_G.sk (G : sp_G) : Nat → Nat := G.2.2.2.2.2.2.2.2.1
def sp_G.sv (G : sp_G) : Nat → Nat := G.2.2.2.2.2.2.2.2.2.1
def sp_G.mi (G : sp_G) : Nat := G.2.2.2.2.2.2.2.2.2.2
abbrev sp_tys (y : sp_Y) : List (ClassId × FieldType) := [(y.1, .int), (y.2.1, .long), (y.2.2.1, .boolean), (y.2.2.2, .object "java/lang/Object")]
def sp_tyf : Nat → Nat → FieldType
  | 0 => tyJx4a65c
  | 1 => tyX0
  | 2 => tyX1
  | 3 => tyX2
  | 4 => tyX3
  | 5 => tyX4
  | 6 => tyX5
  | 7 => tyX6
  | 8 => tyX7
  | 9 => tyX8
  | 10 => tyX9
  | 11 => tyX10
  | 12 => tyX11
  | _ => tyX12
def sp_Cn (c : Nat) : String := (vwCl.getD c ("", fun _ => ("", "", "", false), 0)).1
def sp_Ct (c : Nat) : u_T := (vwCl.getD c ("", fun _ => ("", "", "", false), 0)).2.1
def sp_Cl (c : Nat) : Nat := (vwCl.getD c ("", fun _ => ("", "", "", false), 0)).2.2
theorem sp_cl_get {c : Nat} (hc : c < 14) : vwCl[c]? = some (sp_Cn c, sp_Ct c, sp_Cl c) := by
  match c, hc with
  | 0, _ => rfl
  | 1, _ => rfl
  | 2, _ => rfl
  | 3, _ => rfl
  | 4, _ => rfl
  | 5, _ => rfl
  | 6, _ => rfl
  | 7, _ => rfl
  | 8, _ => rfl
  | 9, _ => rfl
  | 10, _ => rfl
  | 11, _ => rfl
  | 12, _ => rfl
  | 13, _ => rfl
  | n + 14, h => exact absurd h (by omega)
theorem sp_cl_in : ∀ c, c < 14 → ∀ w ∈ u_ws (sp_Cn c) (sp_Ct c) (sp_Cl c), w ∈ lw_tbl := by decide +kernel
theorem sp_cl_ty : ∀ c, c < 14 → ∀ k, k < sp_Cl c → parseFieldDescriptor (sp_Ct c k).2.2.1 = some (sp_tyf c k) := by decide +kernel
theorem sp_cl_nm : ∀ c, c < 14 → ∀ a, a < sp_Cl c → ∀ b, b < sp_Cl c → a ≠ b → (sp_Ct c a).2.1 ≠ (sp_Ct c b).2.1 := by decide +kernel
theorem sp_cl_len : ∀ c, c < 14 → (sp_ft c).length = sp_Cl c := by decide +kernel
theorem sp_cl_ft : ∀ c, c < 14 → ∀ k, k < sp_Cl c → ((sp_ft c)[k]? = some 0 ∧ (sp_tyf c k = .int ∨ sp_tyf c k = .boolean)) ∨ ((sp_ft c)[k]? = some 1 ∧ sp_tyf c k = .long) ∨ ((sp_ft c)[k]? = some 2 ∧ (sp_tyf c k).isReference = true) := by decide +kernel
/-- the cells as the memory has them -/
def sp_H (G : sp_G) (m : sp_M) (H : Heap) : Prop := H.size = m.nx ∧ G.base ≤ m.nx ∧ (∀ q : Nat, q < G.base → H[q]? = G.H0[q]?) ∧ ∀ a : Nat, m.ty a ≠ 0 → (a < G.base ∧ 24 ≤ m.ty a ∧ m.ty a = G.oty a ∧ m.ln a = G.oln a ∧ ∀ j, m.aI a j = G.oI a j) ∨ (G.base ≤ a ∧ (m.ty a < 15 ∨ 20 ≤ m.ty a ∧ m.ty a < 24) ∧ va_at G.D vwCl (a, sp_e G.Y m a) H)
theorem sp_H.lt {G : sp_G} {m : sp_M} {H : Heap} (h : sp_H G m H) {a : Nat} (ha : m.ty a ≠ 0) : a < m.nx := by
  rcases h.2.2.2 a ha with h1 | h1
  · exact Nat.lt_of_lt_of_le h1.1 h.2.1
  · rw [← h.1]
    exact h1.2.2.lt
theorem sp_H.obj {G : sp_G} {m : sp_M} {H : Heap} (h : sp_H G m H) {a c : Nat} (ha : m.ty a = c + 1) (hc : c < 14) : G.base ≤ a ∧ t_OB a (G.D.1 c) (sp_Cl c) (G.D.2 c) H (vp_V (sp_fs m c a)) := by
  rcases h.2.2.2 a (by omega) with h1 | h1
  · omega
  · refine ⟨h1.1, ?_⟩
    have h2 := h1.2.2
    rw [show sp_e G.Y m a = .inr (c, sp_fs m c a) by
      unfold sp_e
      rw [if_neg (by omega), if_neg (by omega), if_neg (by omega), if_neg (by omega), ha]
      rfl] at h2
    obtain ⟨r, h3, h4⟩ := h2
    have h5 := h3.symm.trans (sp_cl_get hc)
    cases h5
    exact h4
theorem sp_fs_get {m : sp_M} {c a i t : Nat} (ht : (sp_ft c)[i]? = some t) : (sp_fs m c a)[i]? = some (sp_fv m t (64 * c + i) a) := by
  unfold sp_fs
  rw [List.getElem?_mapIdx, ht]
  rfl
theorem sp_fs_len (m : sp_M) (c a : Nat) : (sp_fs m c a).length = (sp_ft c).length := by
  unfold sp_fs
  rw [List.length_mapIdx]
/-- a cell of the memory is written: the others stay -/
theorem sp_H.upd {G : sp_G} {m m' : sp_M} {H H1 : Heap} {a : Nat} (h : sp_H G m H) (z : H1.size = H.size) (oq : ∀ q : Nat, q ≠ a → H1[q]? = H[q]?) (ha : G.base ≤ a) (h1 : m'.nx = m.nx) (h2 : m'.ty = m.ty) (h3 : m'.ln = m.ln) (h4 : ∀ b, b ≠ a → m'.aI b = m.aI b) (h5 : ∀ b, b ≠ a → sp_e G.Y m' b = sp_e G.Y m b) (he : va_at G.D vwCl (a, sp_e G.Y m' a) H1) : sp_H G m' H1 := by
  refine ⟨by rw [z, h1]; exact h.1, by rw [h1]; exact h.2.1, fun q hq => by rw [oq q (by omega)]; exact h.2.2.1 q hq, fun b hb => ?_⟩
  rw [h2] at hb
  rcases h.2.2.2 b hb with g | g
  · left
    rw [h2, h3, h4 b (by omega)]
    exact g
  · right
    refine ⟨g.1, by rw [h2]; exact g.2.1, ?_⟩
    by_cases hba : b = a
    · subst hba
      exact he
    · rw [h5 b hba]
      exact g.2.2.kept (oq b hba)
/-- a cell comes -/
theorem sp_H.new {G : sp_G} {m m' : sp_M} {H H1 : Heap} (h : sp_H G m H) (z : H1.size = H.size + 1) (oq : ∀ q : Nat, q < H.size → H1[q]? = H[q]?) (h1 : m'.nx = m.nx + 1) (h2 : ∀ b, b ≠ m.nx → m'.ty b = m.ty b) (h3 : ∀ b, b ≠ m.nx → m'.ln b = m.ln b) (h4 : ∀ b, b ≠ m.nx → m'.aI b = m.aI b) (h5 : ∀ b, b ≠ m.nx → sp_e G.Y m' b = sp_e G.Y m b) (ht : m'.ty m.nx < 15 ∨ 20 ≤ m'.ty m.nx ∧ m'.ty m.nx < 24) (he : va_at G.D vwCl (m.nx, sp_e G.Y m' m.nx) H1) : sp_H G m' H1 := by
  have hs := h.1
  have hbs := h.2.1
  refine ⟨by rw [z, h1, hs], by omega, fun q hq => by rw [oq q (by omega)]; exact h.2.2.1 q hq, fun b hb => ?_⟩
  by_cases hba : b = m.nx
  · subst hba
    exact Or.inr ⟨hbs, ht, he⟩
  · rw [h2 b hba] at hb ⊢
    rcases h.2.2.2 b hb with g | g
    · left
      rw [h3 b hba, h4 b hba]
      exact g
    · right
      refine ⟨g.1, g.2.1, ?_⟩
      rw [h5 b hba]
      exact g.2.2.kept (oq b (by have := g.2.2.lt; exact this))
theorem sp_e_pI {y : sp_Y} {m : sp_M} {k a b : Nat} {v : Int32} (hb : b ≠ a) : sp_e y (m.pI k a v) b = sp_e y m b := by
  have : ∀ c, sp_fs (m.pI k a v) c b = sp_fs m c b := fun c => by
    unfold sp_fs
    congr 1
    funext i t
    unfold sp_fv
    rw [sp_pI_fI, if_neg (by rintro ⟨-, h⟩; exact hb h)]
    rfl
  unfold sp_e
  rw [this]
  rfl
theorem sp_e_pL {y : sp_Y} {m : sp_M} {k a b : Nat} {v : Int64} (hb : b ≠ a) : sp_e y (m.pL k a v) b = sp_e y m b := by
  have : ∀ c, sp_fs (m.pL k a v) c b = sp_fs m c b := fun c => by
    unfold sp_fs
    congr 1
    funext i t
    unfold sp_fv
    rw [sp_pL_fL, if_neg (by rintro ⟨-, h⟩; exact hb h)]
    rfl
  unfold sp_e
  rw [this]
  rfl
theorem sp_e_pR {y : sp_Y} {m : sp_M} {k a b : Nat} {v : Option Nat} (hb : b ≠ a) : sp_e y (m.pR k a v) b = sp_e y m b := by
  have : ∀ c, sp_fs (m.pR k a v) c b = sp_fs m c b := fun c => by
    unfold sp_fs
    congr 1
    funext i t
    unfold sp_fv
    rw [sp_pR_fR, if_neg (by rintro ⟨-, h⟩; exact hb h)]
    rfl
  unfold sp_e
  rw [this]
  rfl
theorem sp_e_obj {y : sp_Y} {m : sp_M} {a c : Nat} (ha : m.ty a = c + 1) (hc : c < 14) : sp_e y m a = .inr (c, sp_fs m c a) := by
  unfold sp_e
  rw [if_neg (by omega), if_neg (by omega), if_neg (by omega), if_neg (by omega), ha]
  rfl
/-- the object's fields behind a write of its field i -/
theorem sp_fs_pI {m : sp_M} {c a i : Nat} {v : Int32} (ht : (sp_ft c)[i]? = some 0) : sp_fs (m.pI (64 * c + i) a v) c a = (sp_fs m c a).set i (.int v) := by
  apply List.ext_getElem?
  intro j
  rw [List.getElem?_set]
  unfold sp_fs
  rw [List.getElem?_mapIdx, List.getElem?_mapIdx, List.length_mapIdx]
  by_cases hj : i = j
  · subst hj
    rw [if_pos rfl, if_pos (List.getElem?_eq_some_iff.mp ht).1, ht]
    simp [sp_fv, sp_pI_fI]
  · rw [if_neg hj]
    cases (sp_ft c)[j]? with
    | none => rfl
    | some t =>
      simp only [Option.map_some]
      unfold sp_fv
      rw [sp_pI_fI, if_neg (by rintro ⟨h, -⟩; omega)]
      rfl
theorem sp_fs_pL {m : sp_M} {c a i : Nat} {v : Int64} (ht : (sp_ft c)[i]? = some 1) : sp_fs (m.pL (64 * c + i) a v) c a = (sp_fs m c a).set i (.long v) := by
  apply List.ext_getElem?
  intro j
  rw [List.getElem?_set]
  unfold sp_fs
  rw [List.getElem?_mapIdx, List.getElem?_mapIdx, List.length_mapIdx]
  by_cases hj : i = j
  · subst hj
    rw [if_pos rfl, if_pos (List.getElem?_eq_some_iff.mp ht).1, ht]
    simp [sp_fv, sp_pL_fL]
  · rw [if_neg hj]
    cases (sp_ft c)[j]? with
    | none => rfl
    | some t =>
      simp only [Option.map_some]
      unfold sp_fv
      rw [sp_pL_fL, if_neg (by rintro ⟨h, -⟩; omega)]
      rfl
theorem sp_fs_pR {m : sp_M} {c a i : Nat} {v : Option Nat} (ht : (sp_ft c)[i]? = some 2) : sp_fs (m.pR (64 * c + i) a v) c a = (sp_fs m c a).set i (va_rf v) := by
  apply List.ext_getElem?
  intro j
  rw [List.getElem?_set]
  unfold sp_fs
  rw [List.getElem?_mapIdx, List.getElem?_mapIdx, List.length_mapIdx]
  by_cases hj : i = j
  · subst hj
    rw [if_pos rfl, if_pos (List.getElem?_eq_some_iff.mp ht).1, ht]
    simp [sp_fv, sp_pR_fR]
  · rw [if_neg hj]
    cases (sp_ft c)[j]? with
    | none => rfl
    | some t =>
      simp only [Option.map_some]
      unfold sp_fv
      rw [sp_pR_fR, if_neg (by rintro ⟨h, -⟩; omega)]
      rfl
/-- a field of an object is written -/
theorem sp_H.fld {G : sp_G} {m m' : sp_M} {H H1 : Heap} {a c i : Nat} {v : Value} (h : sp_H G m H) (ha : m.ty a = c + 1) (hc : c < 14) (hi : i < sp_Cl c) (hap : ∀ x y, x < sp_Cl c → y < sp_Cl c → x ≠ y → (G.D.2 c) x ≠ (G.D.2 c) y) (z : H1.size = H.size) (oq : ∀ q : Nat, q ≠ a → H1[q]? = H[q]?) {cell : Cell} (h0 : H[a]? = some cell) (hs : H1[a]? = some (cell.setSlot (G.D.2 c i) v))
    (h1 : m'.nx = m.nx) (h2 : m'.ty = m.ty) (h3 : m'.ln = m.ln) (h4 : m'.aI = m.aI) (h5 : ∀ b, b ≠ a → sp_e G.Y m' b = sp_e G.Y m b) (h6 : sp_fs m' c a = (sp_fs m c a).set i v) : sp_H G m' H1 := by
  obtain ⟨hb, hO⟩ := h.obj ha hc
  refine h.upd z oq hb h1 h2 h3 (fun b _ => by rw [h4]) h5 ?_
  rw [sp_e_obj (by rw [h2]; exact ha) hc, h6]
  obtain ⟨cell', q1, q2, q3, q4⟩ := hO
  have hce := q1.symm.trans h0
  cases hce
  refine ⟨_, sp_cl_get hc, t_OB.to (V := updV (vp_V (sp_fs m c a)) i v) ⟨_, hs, q2, q3, t_set q4 hap hi v⟩ (fun j _ => vp_updV_set (by rw [sp_fs_len, sp_cl_len c hc]; exact hi) v j)⟩
end
section
/-! WHAT IS KNOWN OF THE TABLES, at every state of the run -/
def sp_wk (w : Cond) : Bool := w.onTables && (w.keeps || match w with
  | .fieldLinkNest _ _ _ _ _ _ => true
  | .castable _ _ => true
  | .declares _ => true
  | _ => false)
theorem sp_wk_warm {w : Cond} (h : sp_wk w = true) {s U : State} (hW : s.WarmedH U.vm) (hw : va_Nw w s) : va_Nw w U := by
  unfold sp_wk at h
  rw [Bool.and_eq_true, Bool.or_eq_true] at h
  obtain ⟨h1, h2⟩ := h
  rcases h2 with h2 | h2
  · exact word_at (args := #[]) (a' := #[]) hW (Or.inl (by rw [h1, h2]; rfl)) hw
  · cases w with
    | fieldLinkNest => exact va_Nw.warmF hW hw
    | castable => exact va_Nw.warmC hW hw
    | declares => exact va_Nw.warmD hW hw
    | _ => simp at h2
abbrev sp_lens : List Nat := [7, 12, 6]
abbrev sp_byts : List (List Int32) := [[58, 42, 63, 34, 60, 62, 124], [99, 111, 110, 112, 114, 110, 97, 117, 120, 110, 117, 108], [99, 111, 109, 108, 112, 116]]
/-- an old array of references -/
def sp_O (a L : Nat) (U : State) (H : Heap) : Prop := ∃ cell : Cell, H[a]? = some cell ∧ U.isArrayOf cell (.object "java/lang/Object") ∧ cell.vm ≠ .unknown ∧ cell.slots.size = L
def sp_A (G : sp_G) : Nat → Prop := fun q => G.base ≤ q
def sp_K (G : sp_G) (U : State) : Prop := va_K G.D vwCl (sp_tys G.Y) U ∧ (∀ w ∈ lw_tbl, sp_wk w = true → va_Nw w U) ∧ (∀ a, (G.oty a = 24 → va_X a (G.oln a) (G.oI a) U G.H0) ∧ (G.oty a = 25 → sp_O a (G.oln a) U G.H0)) ∧ (∀ z ∈ G.st, va_Z z.1 z.2.1 z.2.2.1 z.2.2.2 (sp_A G) U G.H0) ∧ (vk_S 3 sp_lens sp_byts G.sk G.sv (sp_A G) U G.H0 ∧ vk_R "SafePaths$Name" 60 ":*?\"<>|" (G.sk 0) U ∧ vk_R "SafePaths$Name" 71 "conprnauxnul" (G.sk 1) U ∧ vk_R "SafePaths$Name" 77 "comlpt" (G.sk 2) U) ∧ (va_AO "java/lang/Object" U ∧ (∀ args, (Cond.arrayClass .int).before args U = true) ∧ (∀ args, (Cond.arrayClass .long).before args U = true) ∧ (∀ args, (Cond.arrayClass .boolean).before args U = true)) ∧ (va_Mi "[Ljava/lang/Object;" G.mi U ∧ va_Zq "jdk/internal/util/Preconditions" "SIOOBE_FORMATTER" "Ljava/util/function/BiFunction;" (sp_A G) U G.H0 ∧ ∀ q : Nat, q < G.base → q < G.H0.size)
theorem sp_O.moved {a L : Nat} {u U : State} {H : Heap} (hvm : u.vm.Alike U.vm) (h : sp_O a L u H) : sp_O a L U H := by
  obtain ⟨cell, h1, h2, h3⟩ := h
  exact ⟨cell, h1, State.isArrayOf_alike hvm h2, h3⟩
theorem sp_K.moved {G : sp_G} {s U : State} (hW : s.WarmedH U.vm) (h : sp_K G s) : sp_K G U := by
  have hA := hW.alike
  obtain ⟨h1, h2, h3, h4, ⟨h5, h5a, h5b, h5c⟩, ⟨h6, h6a, h6b, h6c⟩, h7, h7a, h7b⟩ := h
  refine ⟨va_K.moved hA h1, fun w hw hk => sp_wk_warm hk hW (h2 w hw hk), fun a => ⟨fun z => va_X.moved hA ((h3 a).1 z), fun z => sp_O.moved hA ((h3 a).2 z)⟩, fun z hz => va_Z.moved hA (h4 z hz), ⟨vk_S.moved hA h5, h5a.warm hW, h5b.warm hW, h5c.warm hW⟩, ⟨h6.moved hA, fun args => ?_, fun args => ?_, fun args => ?_⟩, va_Mi.moved hA h7, va_Zq.moved hA h7a, h7b⟩
  · exact word_at (args := args) hW (Or.inr ⟨_, rfl⟩) (h6a args)
  · exact word_at (args := args) hW (Or.inr ⟨_, rfl⟩) (h6b args)
  · exact word_at (args := args) hW (Or.inr ⟨_, rfl⟩) (h6c args)
theorem sp_WH_rf {U U' : State} (h : U'.vm = U.vm) : U.WarmedH U'.vm := by
  rw [h]
  exact State.WarmedH.refl U
theorem sp_K.w {G : sp_G} {U : State} (h : sp_K G U) {w : Cond} (hw : w ∈ lw_tbl) (hk : sp_wk w = true) (args : Array Value) : w.before args U = true := by
  have h1 : w.onTables = true := by
    unfold sp_wk at hk
    rw [Bool.and_eq_true] at hk
    exact hk.1
  exact va_Nw.use h1 (h.2.1 w hw hk)
theorem sp_apart {G : sp_G} {s : State} (h : sp_K G s) {c : Nat} (hc : c < 14) : ∀ x y, x < sp_Cl c → y < sp_Cl c → x ≠ y → (G.D.2 c) x ≠ (G.D.2 c) y := by
  intro x y hx hy hne
  obtain ⟨hS, -⟩ := h.1.1 c _ (sp_cl_get hc)
  obtain ⟨_, _, _, fa, hia, ea⟩ := hS x hx
  obtain ⟨_, _, _, fb, hib, eb⟩ := hS y hy
  rw [← ea, ← eb]
  have hl : ∀ k, k < sp_Cl c → (Cond.lays (sp_Cn c) (sp_Ct c k).1 (sp_Ct c k).2.1 (sp_Ct c k).2.2.1).before #[] s = true ∨ (Cond.laysFinal (sp_Cn c) (sp_Ct c k).1 (sp_Ct c k).2.1 (sp_Ct c k).2.2.1).before #[] s = true := by
    intro k hk
    have hm := sp_cl_in c hc _ (u_in_lay (C := sp_Cn c) (T := sp_Ct c) hk)
    unfold u_lay at hm
    split at hm
    · exact Or.inr (h.w hm rfl #[])
    · exact Or.inl (h.w hm rfl #[])
  refine u_apart (hl x hx) (hl y hy) hia hib ?_
  rw [(State.fieldFound?_type hia (sp_cl_ty c hc x hx)).1, (State.fieldFound?_type hib (sp_cl_ty c hc y hy)).1]
  exact sp_cl_nm c hc x hx y hy hne
theorem sp_lays {G : sp_G} {s : State} (h : sp_K G s) {c k : Nat} (hc : c < 14) (hk : k < sp_Cl c) (args : Array Value) : (Cond.lays (sp_Cn c) (sp_Ct c k).1 (sp_Ct c k).2.1 (sp_Ct c k).2.2.1).before args s = true ∨ (Cond.laysFinal (sp_Cn c) (sp_Ct c k).1 (sp_Ct c k).2.1 (sp_Ct c k).2.2.1).before args s = true := by
  have hm := sp_cl_in c hc _ (u_in_lay (C := sp_Cn c) (T := sp_Ct c) hk)
  unfold u_lay at hm
  split at hm
  · exact Or.inr (h.w hm rfl args)
  · exact Or.inl (h.w hm rfl args)
theorem sp_lay1 {G : sp_G} {s : State} (h : sp_K G s) {c k : Nat} (hc : c < 14) (hk : k < sp_Cl c) (args : Array Value) (hf : (sp_Ct c k).2.2.2 = false) : (Cond.lays (sp_Cn c) (sp_Ct c k).1 (sp_Ct c k).2.1 (sp_Ct c k).2.2.1).before args s = true := by
  have hm := sp_cl_in c hc _ (u_in_lay (C := sp_Cn c) (T := sp_Ct c) hk)
  unfold u_lay at hm
  rw [if_neg (by rw [hf]; decide)] at hm
  exact h.w hm rfl args
theorem sp_layF {G : sp_G} {s : State} (h : sp_K G s) {c k : Nat} (hc : c < 14) (hk : k < sp_Cl c) (args : Array Value) (hf : (sp_Ct c k).2.2.2 = true) : (Cond.laysFinal (sp_Cn c) (sp_Ct c k).1 (sp_Ct c k).2.1 (sp_Ct c k).2.2.1).before args s = true := by
  have hm := sp_cl_in c hc _ (u_in_lay (C := sp_Cn c) (T := sp_Ct c) hk)
  unfold u_lay at hm
  rw [if_pos hf] at hm
  exact h.w hm rfl args
end
section
/-! ROWS: a walk is an abstract w k n m pc locals stack (k cells and n slots are left, m the memory) -/
abbrev sp_L : Type := List (Nat × Bool × Value)
def sp_lk : sp_L → Nat → Option Value
  | [], _ => none
  | q :: r, k => bif Nat.beq q.1 k then some q.2.2 else sp_lk r k
def sp_st (lv : sp_L) (i : Nat) : sp_L := lv.filter (fun q => !(Nat.beq q.1 i) && !(Nat.beq (q.1 + 1) i && q.2.1))
def sp_st2 (lv : sp_L) (i : Nat) : sp_L := lv.filter (fun q => !(Nat.beq q.1 i) && (!(Nat.beq q.1 (i + 1)) && !(Nat.beq (q.1 + 1) i && q.2.1)))
def sp_lv (ls : Array Slot) (nL : Nat) (lv : sp_L) : Prop := lv_has ls nL (lv.map fun q => (q.1, q.2.2)) ∧ ∀ q ∈ lv, (q.2.1 = true ↔ q.2.2.category = 2)
theorem sp_lk_mem : ∀ {lv : sp_L} {k : Nat} {v : Value}, sp_lk lv k = some v → ∃ b, (k, b, v) ∈ lv
  | [], _, _, h => by cases h
  | q :: r, k, v, h => by
    unfold sp_lk at h
    cases hb : Nat.beq q.1 k with
    | true =>
      rw [hb] at h
      cases h
      have := Nat.eq_of_beq_eq_true hb
      subst this
      exact ⟨q.2.1, List.mem_cons_self⟩
    | false =>
      rw [hb] at h
      obtain ⟨b, hm⟩ := sp_lk_mem (lv := r) h
      exact ⟨b, List.mem_cons_of_mem _ hm⟩
theorem sp_lv_at {ls : Array Slot} {nL : Nat} {lv : sp_L} {k : Nat} {v : Value} (h : sp_lv ls nL lv) (hk : sp_lk lv k = some v) : ls[k]? = some (.val v) := by
  obtain ⟨b, hm⟩ := sp_lk_mem hk
  exact h.1.2.2 (k, v) (List.mem_map.mpr ⟨_, hm, rfl⟩)
theorem sp_lv_sub {ls : Array Slot} {nL : Nat} {lv lv' : sp_L} (h : sp_lv ls nL lv) (hs : ∀ q ∈ lv', q ∈ lv) : sp_lv ls nL lv' :=
  ⟨⟨h.1.1, h.1.2.1, fun q hq => by
    obtain ⟨x, hx, rfl⟩ := List.mem_map.mp hq
    exact h.1.2.2 _ (List.mem_map.mpr ⟨x, hs x hx, rfl⟩)⟩, fun q hq => h.2 q (hs q hq)⟩
theorem sp_lv_st {ls ls' : Array Slot} {nL : Nat} {lv : sp_L} {i : Nat} {v : Value} (h : sp_lv ls nL lv) (hc : v.category = 1) (h' : lv_has ls' nL ((i, v) :: (lv.map fun q => (q.1, q.2.2)).filter (fun q => !(q.1 == i) && !(q.1 + 1 == i && q.2.category == 2)))) : sp_lv ls' nL ((i, false, v) :: sp_st lv i) := by
  refine ⟨⟨h'.1, h'.2.1, fun q hq => ?_⟩, fun q hq => ?_⟩
  · rcases List.mem_cons.mp hq with rfl | hq
    · exact h'.2.2 _ List.mem_cons_self
    · obtain ⟨x, hx, rfl⟩ := List.mem_map.mp hq
      obtain ⟨hx1, hx2⟩ := List.mem_filter.mp hx
      refine h'.2.2 _ (List.mem_cons_of_mem _ (List.mem_filter.mpr ⟨List.mem_map.mpr ⟨x, hx1, rfl⟩, ?_⟩))
      have hcat := h.2 x hx1
      simp only [Bool.and_eq_true, Bool.not_eq_true', Nat.beq_eq_true_eq, Bool.and_eq_false_iff] at hx2 ⊢
      obtain ⟨a, b⟩ := hx2
      refine ⟨?_, ?_⟩
      · simp only [beq_eq_false_iff_ne, ne_eq]
        intro z
        rw [z] at a
        simp at a
      · rcases b with b | b
        · left
          simp only [beq_eq_false_iff_ne, ne_eq]
          intro z
          rw [z] at b
          simp at b
        · right
          simp only [beq_eq_false_iff_ne, ne_eq]
          intro z
          rw [hcat.mpr z] at b
          cases b
  · rcases List.mem_cons.mp hq with rfl | hq
    · simp [hc]
    · exact h.2 q (List.mem_filter.mp hq).1
theorem sp_lv_st2 {ls ls' : Array Slot} {nL : Nat} {lv : sp_L} {i : Nat} {v : Value} (h : sp_lv ls nL lv) (hc : v.category = 2) (h' : lv_has ls' nL ((i, v) :: (lv.map fun q => (q.1, q.2.2)).filter (fun q => !(q.1 == i) && (!(q.1 == i + 1) && !(q.1 + 1 == i && q.2.category == 2))))) : sp_lv ls' nL ((i, true, v) :: sp_st2 lv i) := by
  refine ⟨⟨h'.1, h'.2.1, fun q hq => ?_⟩, fun q hq => ?_⟩
  · rcases List.mem_cons.mp hq with rfl | hq
    · exact h'.2.2 _ List.mem_cons_self
    · obtain ⟨x, hx, rfl⟩ := List.mem_map.mp hq
      obtain ⟨hx1, hx2⟩ := List.mem_filter.mp hx
      refine h'.2.2 _ (List.mem_cons_of_mem _ (List.mem_filter.mpr ⟨List.mem_map.mpr ⟨x, hx1, rfl⟩, ?_⟩))
      have hcat := h.2 x hx1
      simp only [Bool.and_eq_true, Bool.not_eq_true', Nat.beq_eq_true_eq, Bool.and_eq_false_iff] at hx2 ⊢
      obtain ⟨a, a2, b⟩ := hx2
      refine ⟨?_, ?_, ?_⟩
      · simp only [beq_eq_false_iff_ne, ne_eq]
        intro z
        rw [z] at a
        simp at a
      · simp only [beq_eq_false_iff_ne, ne_eq]
        intro z
        rw [z] at a2
        simp at a2
      · rcases b with b | b
        · left
          simp only [beq_eq_false_iff_ne, ne_eq]
          intro z
          rw [z] at b
          simp at b
        · right
          simp only [beq_eq_false_iff_ne, ne_eq]
          intro z
          rw [hcat.mpr z] at b
          cases b
  · rcases List.mem_cons.mp hq with rfl | hq
    · simp [hc]
    · exact h.2 q (List.mem_filter.mp hq).1
theorem sp_cat_rf (r : Option Nat) : (va_rf r).category = 1 := by cases r <;> rfl
/-- a method's end -/
def sp_Q (G : sp_G) (post : Option Value → sp_M → Prop) : Array Value → State → Outcome → State → Prop := fun _ _ o t => ∃ (r : Option Value) (m' : sp_M), o = .returned r ∧ sp_H G m' t.heap ∧ post r m'
def sp_w (G : sp_G) (p : Program) (l : Launch) (e : Env) (R : Room) (s : State) (mm : MethodId) (args : Array Value) (below : List Frame) (meth : Method) (c : Code) (Q : State → Prop) (nL : Nat) (k n : Nat) (m : sp_M) (pc : Nat) (lv : sp_L) (st : List Value) : Prop :=
  k ≤ R.cells → n ≤ R.slots → ∀ (H : Heap) (locs : List Loc) (ls : Array Slot), sp_H G m H → (∀ q ∈ locs, G.base ≤ q.base) → sp_lv ls nL lv → W p l e R s mm args below meth c H locs (R.cells - k) (R.slots - n) Q (F0 mm pc ls st)
abbrev sp_T : Type := Nat → Nat → sp_M → Nat → sp_L → List Value → Prop
/-- w is a walk in a method's body -/
def sp_X (l : Launch) (G : sp_G) (own : String) (cc : ByteArray) (nL : Nat) (init : Bool) (ret : Option FieldType) (R : Room) (Qo : Option (Option Value → sp_M → Prop)) (w : sp_T) : Prop :=
  ∃ (p : Program) (e : Env) (s : State) (mm : MethodId) (args : Array Value) (below : List Frame) (meth : Method) (c : Code) (Q : State → Prop),
    p.tables.exec = Jvm.exec ∧ c.code = cc ∧ c.maxLocals = nL ∧ s.vm.findClass own = some mm.cls ∧ meth.locks = false ∧ meth.sig.returnType = ret ∧ (init = true → meth.name = "<init>") ∧ sp_K G s ∧
    (∀ post, Qo = some post → Q = MQ below (sp_Q G post) args s R.cells R.slots (sp_A G)) ∧ w = sp_w G p l e R s mm args below meth c Q nL
section SPB
variable {l : Launch} {G : sp_G} {own : String} {cc : ByteArray} {nL : Nat} {init : Bool} {ret : Option FieldType} {R : Room} {Qo : Option (Option Value → sp_M → Prop)} {w : sp_T}
variable {k n : Nat} {m : sp_M} {pc : Nat} {lv : sp_L} {rest : List Value}
theorem sp_less (X : sp_X l G own cc nL init ret R Qo w) {k' n' : Nat} {st : List Value} (hk : k' ≤ k) (hn : n' ≤ n) (kk : w k' n' m pc lv st) : w k n m pc lv st := by
  obtain ⟨p, e, s, mm, args, below, meth, c, Q, hx, hb, hml, hown, hlocks, hret, hini, hK, hQ, rfl⟩ := X
  intro hk0 hn0 H locs ls hH hL hl
  exact W.widen (by omega) (by omega) (kk (by omega) (by omega) H locs ls hH hL hl)
theorem sp_iconst (X : sp_X l G own cc nL init ret R Qo w) {z : Int} {v : Int32} (hdg : decode cc pc = .ok (.iconst z, 1)) (hv : Int32.ofInt z = v) (kk : w k n m (pc + 1) lv (.int v :: rest)) : w k n m pc lv (rest) := by
  obtain ⟨p, e, s, mm, args, below, meth, c, Q, hx, hb, hml, hown, hlocks, hret, hini, hK, hQ, rfl⟩ := X
  intro hk0 hn0 H locs ls hH hL hl
  exact lv_iconst hx hb hdg hv (kk hk0 hn0 H locs ls hH hL hl)
theorem sp_bipush (X : sp_X l G own cc nL init ret R Qo w) {z : Int} {v : Int32} (hdg : decode cc pc = .ok (.bipush z, 2)) (hv : (Int8.ofInt z).toInt32 = v) (kk : w k n m (pc + 2) lv (.int v :: rest)) : w k n m pc lv (rest) := by
  obtain ⟨p, e, s, mm, args, below, meth, c, Q, hx, hb, hml, hown, hlocks, hret, hini, hK, hQ, rfl⟩ := X
  intro hk0 hn0 H locs ls hH hL hl
  exact lv_bipush hx hb hdg hv (kk hk0 hn0 H locs ls hH hL hl)
theorem sp_sipush (X : sp_X l G own cc nL init ret R Qo w) {z : Int} {v : Int32} (hdg : decode cc pc = .ok (.sipush z, 3)) (hv : (Int16.ofInt z).toInt32 = v) (kk : w k n m (pc + 3) lv (.int v :: rest)) : w k n m pc lv (rest) := by
  obtain ⟨p, e, s, mm, args, below, meth, c, Q, hx, hb, hml, hown, hlocks, hret, hini, hK, hQ, rfl⟩ := X
  intro hk0 hn0 H locs ls hH hL hl
  exact lv_sipush hx hb hdg hv (kk hk0 hn0 H locs ls hH hL hl)
theorem sp_lconst (X : sp_X l G own cc nL init ret R Qo w) {z : Fin 2} {v : Int64} (hdg : decode cc pc = .ok (.lconst z, 1)) (hv : Int64.ofNat (z : Nat) = v) (kk : w k n m (pc + 1) lv (.long v :: rest)) : w k n m pc lv (rest) := by
  obtain ⟨p, e, s, mm, args, below, meth, c, Q, hx, hb, hml, hown, hlocks, hret, hini, hK, hQ, rfl⟩ := X
  intro hk0 hn0 H locs ls hH hL hl
  exact lv_lconst hx hb hdg hv (kk hk0 hn0 H locs ls hH hL hl)
theorem sp_null (X : sp_X l G own cc nL init ret R Qo w)  (hdg : decode cc pc = .ok (.aconst_null, 1))  (kk : w k n m (pc + 1) lv (va_rf none :: rest)) : w k n m pc lv (rest) := by
  obtain ⟨p, e, s, mm, args, below, meth, c, Q, hx, hb, hml, hown, hlocks, hret, hini, hK, hQ, rfl⟩ := X
  intro hk0 hn0 H locs ls hH hL hl
  exact lv_null hx hb hdg  (kk hk0 hn0 H locs ls hH hL hl)
theorem sp_ldc (X : sp_X l G own cc nL init ret R Qo w) {index : Nat} {v : Int32} (hw : Cond.constant own index v ∈ lw_tbl) (hdg : decode cc pc = .ok (.ldc index, 2)) (kk : w k n m (pc + 2) lv (.int v :: rest)) : w k n m pc lv rest := by
  obtain ⟨p, e, s, mm, args, below, meth, c, Q, hx, hb, hml, hown, hlocks, hret, hini, hK, hQ, rfl⟩ := X
  intro hk0 hn0 H locs ls hH hL hl
  exact lv_ldc hx hb hown (hK.w hw rfl _) hdg (kk hk0 hn0 H locs ls hH hL hl)
theorem sp_ldc2 (X : sp_X l G own cc nL init ret R Qo w) {index : Nat} {v : Int64} (hw : Cond.constantLong own index v ∈ lw_tbl) (hdg : decode cc pc = .ok (.ldc2_w index, 3)) (kk : w k n m (pc + 3) lv (.long v :: rest)) : w k n m pc lv rest := by
  obtain ⟨p, e, s, mm, args, below, meth, c, Q, hx, hb, hml, hown, hlocks, hret, hini, hK, hQ, rfl⟩ := X
  intro hk0 hn0 H locs ls hH hL hl
  exact lv_ldc2 hx hb hown (hK.w hw rfl _) hdg (kk hk0 hn0 H locs ls hH hL hl)
theorem sp_iload_n (X : sp_X l G own cc nL init ret R Qo w) {z : Fin 4} {i : Nat} {x : Int32} (hdg : decode cc pc = .ok (.iload_n z, 1)) (hi : (z : Nat) = i) (hlk : sp_lk lv i = some (.int x)) (kk : w k n m (pc + 1) lv (.int x :: rest)) : w k n m pc lv rest := by
  obtain ⟨p, e, s, mm, args, below, meth, c, Q, hx, hb, hml, hown, hlocks, hret, hini, hK, hQ, rfl⟩ := X
  intro hk0 hn0 H locs ls hH hL hl
  exact lv_iload_n hx hb hdg hi (sp_lv_at hl hlk) (kk hk0 hn0 H locs ls hH hL hl)
theorem sp_iload (X : sp_X l G own cc nL init ret R Qo w) {i : Nat} {x : Int32} (hdg : decode cc pc = .ok (.iload i, 2)) (hlk : sp_lk lv i = some (.int x)) (kk : w k n m (pc + 2) lv (.int x :: rest)) : w k n m pc lv rest := by
  obtain ⟨p, e, s, mm, args, below, meth, c, Q, hx, hb, hml, hown, hlocks, hret, hini, hK, hQ, rfl⟩ := X
  intro hk0 hn0 H locs ls hH hL hl
  exact lv_iload hx hb hdg (sp_lv_at hl hlk) (kk hk0 hn0 H locs ls hH hL hl)
theorem sp_lload_n (X : sp_X l G own cc nL init ret R Qo w) {z : Fin 4} {i : Nat} {x : Int64} (hdg : decode cc pc = .ok (.lload_n z, 1)) (hi : (z : Nat) = i) (hlk : sp_lk lv i = some (.long x)) (kk : w k n m (pc + 1) lv (.long x :: rest)) : w k n m pc lv rest := by
  obtain ⟨p, e, s, mm, args, below, meth, c, Q, hx, hb, hml, hown, hlocks, hret, hini, hK, hQ, rfl⟩ := X
  intro hk0 hn0 H locs ls hH hL hl
  exact lv_lload_n hx hb hdg hi (sp_lv_at hl hlk) (kk hk0 hn0 H locs ls hH hL hl)
theorem sp_lload (X : sp_X l G own cc nL init ret R Qo w) {i : Nat} {x : Int64} (hdg : decode cc pc = .ok (.lload i, 2)) (hlk : sp_lk lv i = some (.long x)) (kk : w k n m (pc + 2) lv (.long x :: rest)) : w k n m pc lv rest := by
  obtain ⟨p, e, s, mm, args, below, meth, c, Q, hx, hb, hml, hown, hlocks, hret, hini, hK, hQ, rfl⟩ := X
  intro hk0 hn0 H locs ls hH hL hl
  exact lv_lload hx hb hdg (sp_lv_at hl hlk) (kk hk0 hn0 H locs ls hH hL hl)
theorem sp_aload_n (X : sp_X l G own cc nL init ret R Qo w) {z : Fin 4} {i : Nat} {r : Option Nat} (hdg : decode cc pc = .ok (.aload_n z, 1)) (hi : (z : Nat) = i) (hlk : sp_lk lv i = some (va_rf r)) (kk : w k n m (pc + 1) lv (va_rf r :: rest)) : w k n m pc lv rest := by
  obtain ⟨p, e, s, mm, args, below, meth, c, Q, hx, hb, hml, hown, hlocks, hret, hini, hK, hQ, rfl⟩ := X
  intro hk0 hn0 H locs ls hH hL hl
  cases r with
  | none => exact lv_aload_nN hx hb hdg hi (sp_lv_at hl hlk) (kk hk0 hn0 H locs ls hH hL hl)
  | some a => exact lv_aload_n hx hb hdg hi (sp_lv_at hl hlk) (kk hk0 hn0 H locs ls hH hL hl)
theorem sp_aload (X : sp_X l G own cc nL init ret R Qo w) {i : Nat} {r : Option Nat} (hdg : decode cc pc = .ok (.aload i, 2)) (hlk : sp_lk lv i = some (va_rf r)) (kk : w k n m (pc + 2) lv (va_rf r :: rest)) : w k n m pc lv rest := by
  obtain ⟨p, e, s, mm, args, below, meth, c, Q, hx, hb, hml, hown, hlocks, hret, hini, hK, hQ, rfl⟩ := X
  intro hk0 hn0 H locs ls hH hL hl
  cases r with
  | none => exact lv_aloadN hx hb hdg (sp_lv_at hl hlk) (kk hk0 hn0 H locs ls hH hL hl)
  | some a => exact lv_aload hx hb hdg (sp_lv_at hl hlk) (kk hk0 hn0 H locs ls hH hL hl)
theorem sp_istore_n (X : sp_X l G own cc nL init ret R Qo w) {z : Fin 4} {i : Nat} {x : Int32} {lv' : sp_L} (hdg : decode cc pc = .ok (.istore_n z, 1)) (hi : (z : Nat) = i) (hn : i < nL) (hlv : (i, false, Value.int x) :: sp_st lv i = lv') (kk : w k n m (pc + 1) lv' rest) : w k n m pc lv (.int x :: rest) := by
  obtain ⟨p, e, s, mm, args, below, meth, c, Q, hx, hb, hml, hown, hlocks, hret, hini, hK, hQ, rfl⟩ := X
  intro hk0 hn0 H locs ls hH hL hl
  exact lv_istore_n hx hb hdg hi hl.1 hn rfl (fun ls' hl' => kk hk0 hn0 H locs ls' hH hL (hlv ▸ sp_lv_st hl rfl hl'))
theorem sp_istore (X : sp_X l G own cc nL init ret R Qo w) {i : Nat} {x : Int32} {lv' : sp_L} (hdg : decode cc pc = .ok (.istore i, 2)) (hn : i < nL) (hlv : (i, false, Value.int x) :: sp_st lv i = lv') (kk : w k n m (pc + 2) lv' rest) : w k n m pc lv (.int x :: rest) := by
  obtain ⟨p, e, s, mm, args, below, meth, c, Q, hx, hb, hml, hown, hlocks, hret, hini, hK, hQ, rfl⟩ := X
  intro hk0 hn0 H locs ls hH hL hl
  exact lv_istore hx hb hdg hl.1 hn rfl (fun ls' hl' => kk hk0 hn0 H locs ls' hH hL (hlv ▸ sp_lv_st hl rfl hl'))
theorem sp_lstore_n (X : sp_X l G own cc nL init ret R Qo w) {z : Fin 4} {i : Nat} {x : Int64} {lv' : sp_L} (hdg : decode cc pc = .ok (.lstore_n z, 1)) (hi : (z : Nat) = i) (hn : i + 1 < nL) (hlv : (i, true, Value.long x) :: sp_st2 lv i = lv') (kk : w k n m (pc + 1) lv' rest) : w k n m pc lv (.long x :: rest) := by
  obtain ⟨p, e, s, mm, args, below, meth, c, Q, hx, hb, hml, hown, hlocks, hret, hini, hK, hQ, rfl⟩ := X
  intro hk0 hn0 H locs ls hH hL hl
  exact lv_lstore_n hx hb hdg hi hl.1 hn rfl (fun ls' hl' => kk hk0 hn0 H locs ls' hH hL (hlv ▸ sp_lv_st2 hl rfl hl'))
theorem sp_lstore (X : sp_X l G own cc nL init ret R Qo w) {i : Nat} {x : Int64} {lv' : sp_L} (hdg : decode cc pc = .ok (.lstore i, 2)) (hn : i + 1 < nL) (hlv : (i, true, Value.long x) :: sp_st2 lv i = lv') (kk : w k n m (pc + 2) lv' rest) : w k n m pc lv (.long x :: rest) := by
  obtain ⟨p, e, s, mm, args, below, meth, c, Q, hx, hb, hml, hown, hlocks, hret, hini, hK, hQ, rfl⟩ := X
  intro hk0 hn0 H locs ls hH hL hl
  exact lv_lstore hx hb hdg hl.1 hn rfl (fun ls' hl' => kk hk0 hn0 H locs ls' hH hL (hlv ▸ sp_lv_st2 hl rfl hl'))
theorem sp_astore_n (X : sp_X l G own cc nL init ret R Qo w) {z : Fin 4} {i : Nat} {r : Option Nat} {lv' : sp_L} (hdg : decode cc pc = .ok (.astore_n z, 1)) (hi : (z : Nat) = i) (hn : i < nL) (hlv : (i, false, va_rf r) :: sp_st lv i = lv') (kk : w k n m (pc + 1) lv' rest) : w k n m pc lv (va_rf r :: rest) := by
  obtain ⟨p, e, s, mm, args, below, meth, c, Q, hx, hb, hml, hown, hlocks, hret, hini, hK, hQ, rfl⟩ := X
  intro hk0 hn0 H locs ls hH hL hl
  cases r with
  | none => exact lv_astore_nN hx hb hdg hi hl.1 hn rfl (fun ls' hl' => kk hk0 hn0 H locs ls' hH hL (hlv ▸ sp_lv_st hl rfl hl'))
  | some a => exact lv_astore_n hx hb hdg hi hl.1 hn rfl (fun ls' hl' => kk hk0 hn0 H locs ls' hH hL (hlv ▸ sp_lv_st hl rfl hl'))
theorem sp_astore (X : sp_X l G own cc nL init ret R Qo w) {i : Nat} {r : Option Nat} {lv' : sp_L} (hdg : decode cc pc = .ok (.astore i, 2)) (hn : i < nL) (hlv : (i, false, va_rf r) :: sp_st lv i = lv') (kk : w k n m (pc + 2) lv' rest) : w k n m pc lv (va_rf r :: rest) := by
  obtain ⟨p, e, s, mm, args, below, meth, c, Q, hx, hb, hml, hown, hlocks, hret, hini, hK, hQ, rfl⟩ := X
  intro hk0 hn0 H locs ls hH hL hl
  cases r with
  | none => exact lv_astoreN hx hb hdg hl.1 hn rfl (fun ls' hl' => kk hk0 hn0 H locs ls' hH hL (hlv ▸ sp_lv_st hl rfl hl'))
  | some a => exact lv_astore hx hb hdg hl.1 hn rfl (fun ls' hl' => kk hk0 hn0 H locs ls' hH hL (hlv ▸ sp_lv_st hl rfl hl'))
theorem sp_lk_map {lv : sp_L} {i : Nat} {v : Value} (hk : sp_lk lv i = some v) : ∃ j : Nat, (lv.map fun q => (q.1, q.2.2))[j]? = some (i, v) := by
  obtain ⟨b, hm⟩ := sp_lk_mem hk
  obtain ⟨j, hj⟩ := List.getElem?_of_mem hm
  exact ⟨j, by rw [List.getElem?_map, hj]; rfl⟩
theorem sp_iinc (X : sp_X l G own cc nL init ret R Qo w) {i : Nat} {z : Int} {x v : Int32} {lv' : sp_L} (hdg : decode cc pc = .ok (.iinc i z, 3)) (hlk : sp_lk lv i = some (.int x)) (hv : x + Int32.ofInt z = v) (hn : i < nL) (hlv : (i, false, Value.int v) :: sp_st lv i = lv') (kk : w k n m (pc + 3) lv' rest) : w k n m pc lv rest := by
  obtain ⟨p, e, s, mm, args, below, meth, c, Q, hx, hb, hml, hown, hlocks, hret, hini, hK, hQ, rfl⟩ := X
  intro hk0 hn0 H locs ls hH hL hl
  obtain ⟨j, hj⟩ := sp_lk_map hlk
  exact lv_iinc hx hb hdg hl.1 hj hv hn rfl (fun ls' hl' => kk hk0 hn0 H locs ls' hH hL (hlv ▸ sp_lv_st hl rfl hl'))
theorem sp_iadd (X : sp_X l G own cc nL init ret R Qo w) {x y : Int32} (hdg : decode cc pc = .ok (.iadd, 1))  (kk : w k n m (pc + 1) lv (.int (x + y) :: rest)) : w k n m pc lv (.int y :: .int x :: rest) := by
  obtain ⟨p, e, s, mm, args, below, meth, c, Q, hx, hb, hml, hown, hlocks, hret, hini, hK, hQ, rfl⟩ := X
  intro hk0 hn0 H locs ls hH hL hl
  exact lv_iadd hx hb hdg  (kk hk0 hn0 H locs ls hH hL hl)
theorem sp_isub (X : sp_X l G own cc nL init ret R Qo w) {x y : Int32} (hdg : decode cc pc = .ok (.isub, 1))  (kk : w k n m (pc + 1) lv (.int (x - y) :: rest)) : w k n m pc lv (.int y :: .int x :: rest) := by
  obtain ⟨p, e, s, mm, args, below, meth, c, Q, hx, hb, hml, hown, hlocks, hret, hini, hK, hQ, rfl⟩ := X
  intro hk0 hn0 H locs ls hH hL hl
  exact lv_isub hx hb hdg  (kk hk0 hn0 H locs ls hH hL hl)
theorem sp_imul (X : sp_X l G own cc nL init ret R Qo w) {x y : Int32} (hdg : decode cc pc = .ok (.imul, 1))  (kk : w k n m (pc + 1) lv (.int (x * y) :: rest)) : w k n m pc lv (.int y :: .int x :: rest) := by
  obtain ⟨p, e, s, mm, args, below, meth, c, Q, hx, hb, hml, hown, hlocks, hret, hini, hK, hQ, rfl⟩ := X
  intro hk0 hn0 H locs ls hH hL hl
  exact lv_imul hx hb hdg  (kk hk0 hn0 H locs ls hH hL hl)
theorem sp_iand (X : sp_X l G own cc nL init ret R Qo w) {x y : Int32} (hdg : decode cc pc = .ok (.iand, 1))  (kk : w k n m (pc + 1) lv (.int (x &&& y) :: rest)) : w k n m pc lv (.int y :: .int x :: rest) := by
  obtain ⟨p, e, s, mm, args, below, meth, c, Q, hx, hb, hml, hown, hlocks, hret, hini, hK, hQ, rfl⟩ := X
  intro hk0 hn0 H locs ls hH hL hl
  exact lv_iand hx hb hdg  (kk hk0 hn0 H locs ls hH hL hl)
theorem sp_ior (X : sp_X l G own cc nL init ret R Qo w) {x y : Int32} (hdg : decode cc pc = .ok (.ior, 1))  (kk : w k n m (pc + 1) lv (.int (x ||| y) :: rest)) : w k n m pc lv (.int y :: .int x :: rest) := by
  obtain ⟨p, e, s, mm, args, below, meth, c, Q, hx, hb, hml, hown, hlocks, hret, hini, hK, hQ, rfl⟩ := X
  intro hk0 hn0 H locs ls hH hL hl
  exact lv_ior hx hb hdg  (kk hk0 hn0 H locs ls hH hL hl)
theorem sp_ixor (X : sp_X l G own cc nL init ret R Qo w) {x y : Int32} (hdg : decode cc pc = .ok (.ixor, 1))  (kk : w k n m (pc + 1) lv (.int (x ^^^ y) :: rest)) : w k n m pc lv (.int y :: .int x :: rest) := by
  obtain ⟨p, e, s, mm, args, below, meth, c, Q, hx, hb, hml, hown, hlocks, hret, hini, hK, hQ, rfl⟩ := X
  intro hk0 hn0 H locs ls hH hL hl
  exact lv_ixor hx hb hdg  (kk hk0 hn0 H locs ls hH hL hl)
theorem sp_ishl (X : sp_X l G own cc nL init ret R Qo w) {x y : Int32} (hdg : decode cc pc = .ok (.ishl, 1))  (kk : w k n m (pc + 1) lv (.int (x <<< (y &&& 31)) :: rest)) : w k n m pc lv (.int y :: .int x :: rest) := by
  obtain ⟨p, e, s, mm, args, below, meth, c, Q, hx, hb, hml, hown, hlocks, hret, hini, hK, hQ, rfl⟩ := X
  intro hk0 hn0 H locs ls hH hL hl
  exact lv_ishl hx hb hdg  (kk hk0 hn0 H locs ls hH hL hl)
theorem sp_ishr (X : sp_X l G own cc nL init ret R Qo w) {x y : Int32} (hdg : decode cc pc = .ok (.ishr, 1))  (kk : w k n m (pc + 1) lv (.int (x >>> (y &&& 31)) :: rest)) : w k n m pc lv (.int y :: .int x :: rest) := by
  obtain ⟨p, e, s, mm, args, below, meth, c, Q, hx, hb, hml, hown, hlocks, hret, hini, hK, hQ, rfl⟩ := X
  intro hk0 hn0 H locs ls hH hL hl
  exact lv_ishr hx hb hdg  (kk hk0 hn0 H locs ls hH hL hl)
theorem sp_ladd (X : sp_X l G own cc nL init ret R Qo w) {x y : Int64} (hdg : decode cc pc = .ok (.ladd, 1))  (kk : w k n m (pc + 1) lv (.long (x + y) :: rest)) : w k n m pc lv (.long y :: .long x :: rest) := by
  obtain ⟨p, e, s, mm, args, below, meth, c, Q, hx, hb, hml, hown, hlocks, hret, hini, hK, hQ, rfl⟩ := X
  intro hk0 hn0 H locs ls hH hL hl
  exact lv_ladd hx hb hdg  (kk hk0 hn0 H locs ls hH hL hl)
theorem sp_lsub (X : sp_X l G own cc nL init ret R Qo w) {x y : Int64} (hdg : decode cc pc = .ok (.lsub, 1))  (kk : w k n m (pc + 1) lv (.long (x - y) :: rest)) : w k n m pc lv (.long y :: .long x :: rest) := by
  obtain ⟨p, e, s, mm, args, below, meth, c, Q, hx, hb, hml, hown, hlocks, hret, hini, hK, hQ, rfl⟩ := X
  intro hk0 hn0 H locs ls hH hL hl
  exact lv_lsub hx hb hdg  (kk hk0 hn0 H locs ls hH hL hl)
theorem sp_lmul (X : sp_X l G own cc nL init ret R Qo w) {x y : Int64} (hdg : decode cc pc = .ok (.lmul, 1))  (kk : w k n m (pc + 1) lv (.long (x * y) :: rest)) : w k n m pc lv (.long y :: .long x :: rest) := by
  obtain ⟨p, e, s, mm, args, below, meth, c, Q, hx, hb, hml, hown, hlocks, hret, hini, hK, hQ, rfl⟩ := X
  intro hk0 hn0 H locs ls hH hL hl
  exact lv_lmul hx hb hdg  (kk hk0 hn0 H locs ls hH hL hl)
theorem sp_land (X : sp_X l G own cc nL init ret R Qo w) {x y : Int64} (hdg : decode cc pc = .ok (.land, 1))  (kk : w k n m (pc + 1) lv (.long (x &&& y) :: rest)) : w k n m pc lv (.long y :: .long x :: rest) := by
  obtain ⟨p, e, s, mm, args, below, meth, c, Q, hx, hb, hml, hown, hlocks, hret, hini, hK, hQ, rfl⟩ := X
  intro hk0 hn0 H locs ls hH hL hl
  exact lv_land hx hb hdg  (kk hk0 hn0 H locs ls hH hL hl)
theorem sp_lor (X : sp_X l G own cc nL init ret R Qo w) {x y : Int64} (hdg : decode cc pc = .ok (.lor, 1))  (kk : w k n m (pc + 1) lv (.long (x ||| y) :: rest)) : w k n m pc lv (.long y :: .long x :: rest) := by
  obtain ⟨p, e, s, mm, args, below, meth, c, Q, hx, hb, hml, hown, hlocks, hret, hini, hK, hQ, rfl⟩ := X
  intro hk0 hn0 H locs ls hH hL hl
  exact lv_lor hx hb hdg  (kk hk0 hn0 H locs ls hH hL hl)
theorem sp_lxor (X : sp_X l G own cc nL init ret R Qo w) {x y : Int64} (hdg : decode cc pc = .ok (.lxor, 1))  (kk : w k n m (pc + 1) lv (.long (x ^^^ y) :: rest)) : w k n m pc lv (.long y :: .long x :: rest) := by
  obtain ⟨p, e, s, mm, args, below, meth, c, Q, hx, hb, hml, hown, hlocks, hret, hini, hK, hQ, rfl⟩ := X
  intro hk0 hn0 H locs ls hH hL hl
  exact lv_lxor hx hb hdg  (kk hk0 hn0 H locs ls hH hL hl)
theorem sp_lcmp (X : sp_X l G own cc nL init ret R Qo w) {x y : Int64} (hdg : decode cc pc = .ok (.lcmp, 1)) (kk : w k n m (pc + 1) lv (.int (lg_cmp x y) :: rest)) : w k n m pc lv (.long y :: .long x :: rest) := by
  obtain ⟨p, e, s, mm, args, below, meth, c, Q, hx, hb, hml, hown, hlocks, hret, hini, hK, hQ, rfl⟩ := X
  intro hk0 hn0 H locs ls hH hL hl
  exact W.lcmp hx hb hdg (kk hk0 hn0 H locs ls hH hL hl)
theorem sp_lshl (X : sp_X l G own cc nL init ret R Qo w) {x v : Int64} {y : Int32} (hdg : decode cc pc = .ok (.lshl, 1)) (hv : x <<< (y.toInt64 &&& 63) = v) (kk : w k n m (pc + 1) lv (.long v :: rest)) : w k n m pc lv (.int y :: .long x :: rest) := by
  obtain ⟨p, e, s, mm, args, below, meth, c, Q, hx, hb, hml, hown, hlocks, hret, hini, hK, hQ, rfl⟩ := X
  intro hk0 hn0 H locs ls hH hL hl
  exact lv_lshl hx hb hdg hv (kk hk0 hn0 H locs ls hH hL hl)
theorem sp_i2l (X : sp_X l G own cc nL init ret R Qo w) {x : Int32} (hdg : decode cc pc = .ok (.i2l, 1))  (kk : w k n m (pc + 1) lv (.long x.toInt64 :: rest)) : w k n m pc lv (.int x :: rest) := by
  obtain ⟨p, e, s, mm, args, below, meth, c, Q, hx, hb, hml, hown, hlocks, hret, hini, hK, hQ, rfl⟩ := X
  intro hk0 hn0 H locs ls hH hL hl
  exact lv_i2l hx hb hdg rfl (kk hk0 hn0 H locs ls hH hL hl)
theorem sp_i2c (X : sp_X l G own cc nL init ret R Qo w) {x : Int32} (hdg : decode cc pc = .ok (.i2c, 1))  (kk : w k n m (pc + 1) lv (.int (x.toUInt32 % 65536).toInt32 :: rest)) : w k n m pc lv (.int x :: rest) := by
  obtain ⟨p, e, s, mm, args, below, meth, c, Q, hx, hb, hml, hown, hlocks, hret, hini, hK, hQ, rfl⟩ := X
  intro hk0 hn0 H locs ls hH hL hl
  exact lv_i2c hx hb hdg rfl (kk hk0 hn0 H locs ls hH hL hl)
theorem sp_i2b (X : sp_X l G own cc nL init ret R Qo w) {x : Int32} (hdg : decode cc pc = .ok (.i2b, 1))  (kk : w k n m (pc + 1) lv (.int x.toInt8.toInt32 :: rest)) : w k n m pc lv (.int x :: rest) := by
  obtain ⟨p, e, s, mm, args, below, meth, c, Q, hx, hb, hml, hown, hlocks, hret, hini, hK, hQ, rfl⟩ := X
  intro hk0 hn0 H locs ls hH hL hl
  exact lv_i2b hx hb hdg rfl (kk hk0 hn0 H locs ls hH hL hl)
theorem sp_dup (X : sp_X l G own cc nL init ret R Qo w) {va : Value} (hdg : decode cc pc = .ok (.dup, 1)) (hva : va.category = 1) (kk : w k n m (pc + 1) lv (va :: va :: rest)) : w k n m pc lv (va :: rest) := by
  obtain ⟨p, e, s, mm, args, below, meth, c, Q, hx, hb, hml, hown, hlocks, hret, hini, hK, hQ, rfl⟩ := X
  intro hk0 hn0 H locs ls hH hL hl
  exact lv_dup hx hb hdg hva (kk hk0 hn0 H locs ls hH hL hl)
theorem sp_pop (X : sp_X l G own cc nL init ret R Qo w) {va : Value} (hdg : decode cc pc = .ok (.pop, 1)) (hva : va.category = 1) (kk : w k n m (pc + 1) lv (rest)) : w k n m pc lv (va :: rest) := by
  obtain ⟨p, e, s, mm, args, below, meth, c, Q, hx, hb, hml, hown, hlocks, hret, hini, hK, hQ, rfl⟩ := X
  intro hk0 hn0 H locs ls hH hL hl
  exact lv_pop hx hb hdg hva (kk hk0 hn0 H locs ls hH hL hl)
theorem sp_pop2 (X : sp_X l G own cc nL init ret R Qo w) {va : Value} (hdg : decode cc pc = .ok (.pop2, 1)) (hva : va.category = 2) (kk : w k n m (pc + 1) lv (rest)) : w k n m pc lv (va :: rest) := by
  obtain ⟨p, e, s, mm, args, below, meth, c, Q, hx, hb, hml, hown, hlocks, hret, hini, hK, hQ, rfl⟩ := X
  intro hk0 hn0 H locs ls hH hL hl
  exact lv_pop2_2 hx hb hdg hva (kk hk0 hn0 H locs ls hH hL hl)
theorem sp_dup_x1 (X : sp_X l G own cc nL init ret R Qo w) {va vb : Value} (hdg : decode cc pc = .ok (.dup_x1, 1)) (hva : va.category = 1) (hvb : vb.category = 1) (kk : w k n m (pc + 1) lv (va :: vb :: va :: rest)) : w k n m pc lv (va :: vb :: rest) := by
  obtain ⟨p, e, s, mm, args, below, meth, c, Q, hx, hb, hml, hown, hlocks, hret, hini, hK, hQ, rfl⟩ := X
  intro hk0 hn0 H locs ls hH hL hl
  exact lv_dup_x1 hx hb hdg hva hvb (kk hk0 hn0 H locs ls hH hL hl)
theorem sp_dup_x2 (X : sp_X l G own cc nL init ret R Qo w) {va vb vd : Value} (hdg : decode cc pc = .ok (.dup_x2, 1)) (hva : va.category = 1) (hvb : vb.category = 1) (hvd : vd.category = 1) (kk : w k n m (pc + 1) lv (va :: vb :: vd :: va :: rest)) : w k n m pc lv (va :: vb :: vd :: rest) := by
  obtain ⟨p, e, s, mm, args, below, meth, c, Q, hx, hb, hml, hown, hlocks, hret, hini, hK, hQ, rfl⟩ := X
  intro hk0 hn0 H locs ls hH hL hl
  exact lv_dup_x2 hx hb hdg hva hvb hvd (kk hk0 hn0 H locs ls hH hL hl)
theorem sp_dup2_11 (X : sp_X l G own cc nL init ret R Qo w) {va vb : Value} (hdg : decode cc pc = .ok (.dup2, 1)) (hva : va.category = 1) (hvb : vb.category = 1) (kk : w k n m (pc + 1) lv (va :: vb :: va :: vb :: rest)) : w k n m pc lv (va :: vb :: rest) := by
  obtain ⟨p, e, s, mm, args, below, meth, c, Q, hx, hb, hml, hown, hlocks, hret, hini, hK, hQ, rfl⟩ := X
  intro hk0 hn0 H locs ls hH hL hl
  exact lv_dup2_11 hx hb hdg hva hvb (kk hk0 hn0 H locs ls hH hL hl)
theorem sp_if_eq (X : sp_X l G own cc nL init ret R Qo w) {x : Int32} {off : Int} {tgt : Nat} (hdg : decode cc pc = .ok (.ifCond .eq off, 3)) (ht : (pc : Int) + off = (tgt : Int)) (kt : x = 0 → w k n m tgt lv rest) (kf : ¬ x = 0 → w k n m (pc + 3) lv rest) : w k n m pc lv (.int x :: rest) := by
  obtain ⟨p, e, s, mm, args, below, meth, c, Q, hx, hb, hml, hown, hlocks, hret, hini, hK, hQ, rfl⟩ := X
  intro hk0 hn0 H locs ls hH hL hl
  exact lv_if_eq hx hb hdg ht (fun z => kt z hk0 hn0 H locs ls hH hL hl) (fun z => kf z hk0 hn0 H locs ls hH hL hl)
theorem sp_icmp_eq (X : sp_X l G own cc nL init ret R Qo w) {x y : Int32} {off : Int} {tgt : Nat} (hdg : decode cc pc = .ok (.if_icmp .eq off, 3)) (ht : (pc : Int) + off = (tgt : Int)) (kt : x = y → w k n m tgt lv rest) (kf : ¬ x = y → w k n m (pc + 3) lv rest) : w k n m pc lv (.int y :: .int x :: rest) := by
  obtain ⟨p, e, s, mm, args, below, meth, c, Q, hx, hb, hml, hown, hlocks, hret, hini, hK, hQ, rfl⟩ := X
  intro hk0 hn0 H locs ls hH hL hl
  exact lv_icmp_eq hx hb hdg ht (fun z => kt z hk0 hn0 H locs ls hH hL hl) (fun z => kf z hk0 hn0 H locs ls hH hL hl)
theorem sp_if_ne (X : sp_X l G own cc nL init ret R Qo w) {x : Int32} {off : Int} {tgt : Nat} (hdg : decode cc pc = .ok (.ifCond .ne off, 3)) (ht : (pc : Int) + off = (tgt : Int)) (kt : ¬ x = 0 → w k n m tgt lv rest) (kf : x = 0 → w k n m (pc + 3) lv rest) : w k n m pc lv (.int x :: rest) := by
  obtain ⟨p, e, s, mm, args, below, meth, c, Q, hx, hb, hml, hown, hlocks, hret, hini, hK, hQ, rfl⟩ := X
  intro hk0 hn0 H locs ls hH hL hl
  exact lv_if_ne hx hb hdg ht (fun z => kt z hk0 hn0 H locs ls hH hL hl) (fun z => kf z hk0 hn0 H locs ls hH hL hl)
theorem sp_icmp_ne (X : sp_X l G own cc nL init ret R Qo w) {x y : Int32} {off : Int} {tgt : Nat} (hdg : decode cc pc = .ok (.if_icmp .ne off, 3)) (ht : (pc : Int) + off = (tgt : Int)) (kt : ¬ x = y → w k n m tgt lv rest) (kf : x = y → w k n m (pc + 3) lv rest) : w k n m pc lv (.int y :: .int x :: rest) := by
  obtain ⟨p, e, s, mm, args, below, meth, c, Q, hx, hb, hml, hown, hlocks, hret, hini, hK, hQ, rfl⟩ := X
  intro hk0 hn0 H locs ls hH hL hl
  exact lv_icmp_ne hx hb hdg ht (fun z => kt z hk0 hn0 H locs ls hH hL hl) (fun z => kf z hk0 hn0 H locs ls hH hL hl)
theorem sp_if_lt (X : sp_X l G own cc nL init ret R Qo w) {x : Int32} {off : Int} {tgt : Nat} (hdg : decode cc pc = .ok (.ifCond .lt off, 3)) (ht : (pc : Int) + off = (tgt : Int)) (kt : x < 0 → w k n m tgt lv rest) (kf : ¬ x < 0 → w k n m (pc + 3) lv rest) : w k n m pc lv (.int x :: rest) := by
  obtain ⟨p, e, s, mm, args, below, meth, c, Q, hx, hb, hml, hown, hlocks, hret, hini, hK, hQ, rfl⟩ := X
  intro hk0 hn0 H locs ls hH hL hl
  exact lv_if_lt hx hb hdg ht (fun z => kt z hk0 hn0 H locs ls hH hL hl) (fun z => kf z hk0 hn0 H locs ls hH hL hl)
theorem sp_icmp_lt (X : sp_X l G own cc nL init ret R Qo w) {x y : Int32} {off : Int} {tgt : Nat} (hdg : decode cc pc = .ok (.if_icmp .lt off, 3)) (ht : (pc : Int) + off = (tgt : Int)) (kt : x < y → w k n m tgt lv rest) (kf : ¬ x < y → w k n m (pc + 3) lv rest) : w k n m pc lv (.int y :: .int x :: rest) := by
  obtain ⟨p, e, s, mm, args, below, meth, c, Q, hx, hb, hml, hown, hlocks, hret, hini, hK, hQ, rfl⟩ := X
  intro hk0 hn0 H locs ls hH hL hl
  exact lv_icmp_lt hx hb hdg ht (fun z => kt z hk0 hn0 H locs ls hH hL hl) (fun z => kf z hk0 hn0 H locs ls hH hL hl)
theorem sp_if_ge (X : sp_X l G own cc nL init ret R Qo w) {x : Int32} {off : Int} {tgt : Nat} (hdg : decode cc pc = .ok (.ifCond .ge off, 3)) (ht : (pc : Int) + off = (tgt : Int)) (kt : 0 ≤ x → w k n m tgt lv rest) (kf : ¬ 0 ≤ x → w k n m (pc + 3) lv rest) : w k n m pc lv (.int x :: rest) := by
  obtain ⟨p, e, s, mm, args, below, meth, c, Q, hx, hb, hml, hown, hlocks, hret, hini, hK, hQ, rfl⟩ := X
  intro hk0 hn0 H locs ls hH hL hl
  exact lv_if_ge hx hb hdg ht (fun z => kt z hk0 hn0 H locs ls hH hL hl) (fun z => kf z hk0 hn0 H locs ls hH hL hl)
theorem sp_icmp_ge (X : sp_X l G own cc nL init ret R Qo w) {x y : Int32} {off : Int} {tgt : Nat} (hdg : decode cc pc = .ok (.if_icmp .ge off, 3)) (ht : (pc : Int) + off = (tgt : Int)) (kt : y ≤ x → w k n m tgt lv rest) (kf : ¬ y ≤ x → w k n m (pc + 3) lv rest) : w k n m pc lv (.int y :: .int x :: rest) := by
  obtain ⟨p, e, s, mm, args, below, meth, c, Q, hx, hb, hml, hown, hlocks, hret, hini, hK, hQ, rfl⟩ := X
  intro hk0 hn0 H locs ls hH hL hl
  exact lv_icmp_ge hx hb hdg ht (fun z => kt z hk0 hn0 H locs ls hH hL hl) (fun z => kf z hk0 hn0 H locs ls hH hL hl)
theorem sp_if_gt (X : sp_X l G own cc nL init ret R Qo w) {x : Int32} {off : Int} {tgt : Nat} (hdg : decode cc pc = .ok (.ifCond .gt off, 3)) (ht : (pc : Int) + off = (tgt : Int)) (kt : 0 < x → w k n m tgt lv rest) (kf : ¬ 0 < x → w k n m (pc + 3) lv rest) : w k n m pc lv (.int x :: rest) := by
  obtain ⟨p, e, s, mm, args, below, meth, c, Q, hx, hb, hml, hown, hlocks, hret, hini, hK, hQ, rfl⟩ := X
  intro hk0 hn0 H locs ls hH hL hl
  exact lv_if_gt hx hb hdg ht (fun z => kt z hk0 hn0 H locs ls hH hL hl) (fun z => kf z hk0 hn0 H locs ls hH hL hl)
theorem sp_icmp_gt (X : sp_X l G own cc nL init ret R Qo w) {x y : Int32} {off : Int} {tgt : Nat} (hdg : decode cc pc = .ok (.if_icmp .gt off, 3)) (ht : (pc : Int) + off = (tgt : Int)) (kt : y < x → w k n m tgt lv rest) (kf : ¬ y < x → w k n m (pc + 3) lv rest) : w k n m pc lv (.int y :: .int x :: rest) := by
  obtain ⟨p, e, s, mm, args, below, meth, c, Q, hx, hb, hml, hown, hlocks, hret, hini, hK, hQ, rfl⟩ := X
  intro hk0 hn0 H locs ls hH hL hl
  exact lv_icmp_gt hx hb hdg ht (fun z => kt z hk0 hn0 H locs ls hH hL hl) (fun z => kf z hk0 hn0 H locs ls hH hL hl)
theorem sp_if_le (X : sp_X l G own cc nL init ret R Qo w) {x : Int32} {off : Int} {tgt : Nat} (hdg : decode cc pc = .ok (.ifCond .le off, 3)) (ht : (pc : Int) + off = (tgt : Int)) (kt : x ≤ 0 → w k n m tgt lv rest) (kf : ¬ x ≤ 0 → w k n m (pc + 3) lv rest) : w k n m pc lv (.int x :: rest) := by
  obtain ⟨p, e, s, mm, args, below, meth, c, Q, hx, hb, hml, hown, hlocks, hret, hini, hK, hQ, rfl⟩ := X
  intro hk0 hn0 H locs ls hH hL hl
  exact lv_if_le hx hb hdg ht (fun z => kt z hk0 hn0 H locs ls hH hL hl) (fun z => kf z hk0 hn0 H locs ls hH hL hl)
theorem sp_icmp_le (X : sp_X l G own cc nL init ret R Qo w) {x y : Int32} {off : Int} {tgt : Nat} (hdg : decode cc pc = .ok (.if_icmp .le off, 3)) (ht : (pc : Int) + off = (tgt : Int)) (kt : x ≤ y → w k n m tgt lv rest) (kf : ¬ x ≤ y → w k n m (pc + 3) lv rest) : w k n m pc lv (.int y :: .int x :: rest) := by
  obtain ⟨p, e, s, mm, args, below, meth, c, Q, hx, hb, hml, hown, hlocks, hret, hini, hK, hQ, rfl⟩ := X
  intro hk0 hn0 H locs ls hH hL hl
  exact lv_icmp_le hx hb hdg ht (fun z => kt z hk0 hn0 H locs ls hH hL hl) (fun z => kf z hk0 hn0 H locs ls hH hL hl)
theorem sp_goto (X : sp_X l G own cc nL init ret R Qo w) {off : Int} {tgt : Nat} (hdg : decode cc pc = .ok (.goto off, 3)) (ht : (pc : Int) + off = (tgt : Int)) (kk : w k n m tgt lv rest) : w k n m pc lv rest := by
  obtain ⟨p, e, s, mm, args, below, meth, c, Q, hx, hb, hml, hown, hlocks, hret, hini, hK, hQ, rfl⟩ := X
  intro hk0 hn0 H locs ls hH hL hl
  exact lv_goto hx hb hdg ht (kk hk0 hn0 H locs ls hH hL hl)
theorem sp_ifnonnull (X : sp_X l G own cc nL init ret R Qo w) {r : Option Nat} {off : Int} {tgt : Nat} (hdg : decode cc pc = .ok (.ifnonnull off, 3)) (ht : (pc : Int) + off = (tgt : Int)) (kt : ∀ a, r = some a → w k n m tgt lv rest) (kf : r = none → w k n m (pc + 3) lv rest) : w k n m pc lv (va_rf r :: rest) := by
  obtain ⟨p, e, s, mm, args, below, meth, c, Q, hx, hb, hml, hown, hlocks, hret, hini, hK, hQ, rfl⟩ := X
  intro hk0 hn0 H locs ls hH hL hl
  cases r with
  | none => exact lv_ifnonnullN hx hb hdg (kf rfl hk0 hn0 H locs ls hH hL hl)
  | some a => exact lv_ifnonnull hx hb hdg ht (kt a rfl hk0 hn0 H locs ls hH hL hl)
theorem sp_ifnull (X : sp_X l G own cc nL init ret R Qo w) {r : Option Nat} {off : Int} {tgt : Nat} (hdg : decode cc pc = .ok (.ifnull off, 3)) (ht : (pc : Int) + off = (tgt : Int)) (kt : r = none → w k n m tgt lv rest) (kf : ∀ a, r = some a → w k n m (pc + 3) lv rest) : w k n m pc lv (va_rf r :: rest) := by
  obtain ⟨p, e, s, mm, args, below, meth, c, Q, hx, hb, hml, hown, hlocks, hret, hini, hK, hQ, rfl⟩ := X
  intro hk0 hn0 H locs ls hH hL hl
  cases r with
  | none => exact lv_ifnullN hx hb hdg ht (kt rfl hk0 hn0 H locs ls hH hL hl)
  | some a => exact lv_ifnull hx hb hdg (kf a rfl hk0 hn0 H locs ls hH hL hl)
theorem sp_acmp_eq (X : sp_X l G own cc nL init ret R Qo w) {rx ry : Option Nat} {off : Int} {tgt : Nat} (hdg : decode cc pc = .ok (.if_acmp .eq off, 3)) (ht : (pc : Int) + off = (tgt : Int)) (kt : rx = ry → w k n m tgt lv rest) (kf : ¬ rx = ry → w k n m (pc + 3) lv rest) : w k n m pc lv (va_rf ry :: va_rf rx :: rest) := by
  obtain ⟨p, e, s, mm, args, below, meth, c, Q, hx, hb, hml, hown, hlocks, hret, hini, hK, hQ, rfl⟩ := X
  intro hk0 hn0 H locs ls hH hL hl
  exact lv_acmp_eq hx hb hdg ht (fun z => kt z hk0 hn0 H locs ls hH hL hl) (fun z => kf z hk0 hn0 H locs ls hH hL hl)
theorem sp_acmp_ne (X : sp_X l G own cc nL init ret R Qo w) {rx ry : Option Nat} {off : Int} {tgt : Nat} (hdg : decode cc pc = .ok (.if_acmp .ne off, 3)) (ht : (pc : Int) + off = (tgt : Int)) (kt : ¬ rx = ry → w k n m tgt lv rest) (kf : rx = ry → w k n m (pc + 3) lv rest) : w k n m pc lv (va_rf ry :: va_rf rx :: rest) := by
  obtain ⟨p, e, s, mm, args, below, meth, c, Q, hx, hb, hml, hown, hlocks, hret, hini, hK, hQ, rfl⟩ := X
  intro hk0 hn0 H locs ls hH hL hl
  exact lv_acmp_ne hx hb hdg ht (fun z => kt z hk0 hn0 H locs ls hH hL hl) (fun z => kf z hk0 hn0 H locs ls hH hL hl)
theorem sp_tableOut (X : sp_X l G own cc nL init ret R Qo w) {dflt lo hi : Int} {offs : Array Int} {len : Nat} {x : Int32} {tgt : Nat} (hdg : decode cc pc = .ok (.tableswitch dflt lo hi offs, len)) (h : x.toInt < lo ∨ hi < x.toInt) (ht : (pc : Int) + dflt = (tgt : Int)) (kk : w k n m tgt lv rest) : w k n m pc lv (.int x :: rest) := by
  obtain ⟨p, e, s, mm, args, below, meth, c, Q, hx, hb, hml, hown, hlocks, hret, hini, hK, hQ, rfl⟩ := X
  intro hk0 hn0 H locs ls hH hL hl
  exact lv_tableOut hx hb hdg h ht (kk hk0 hn0 H locs ls hH hL hl)
theorem sp_tableIn (X : sp_X l G own cc nL init ret R Qo w) {dflt lo hi : Int} {offs : Array Int} {len : Nat} {x : Int32} {off : Int} {tgt : Nat} (hdg : decode cc pc = .ok (.tableswitch dflt lo hi offs, len)) (h1 : ¬ x.toInt < lo) (h2 : ¬ hi < x.toInt) (ho : offs[(x.toInt - lo).toNat]? = some off) (ht : (pc : Int) + off = (tgt : Int)) (kk : w k n m tgt lv rest) : w k n m pc lv (.int x :: rest) := by
  obtain ⟨p, e, s, mm, args, below, meth, c, Q, hx, hb, hml, hown, hlocks, hret, hini, hK, hQ, rfl⟩ := X
  intro hk0 hn0 H locs ls hH hL hl
  exact lv_tableIn hx hb hdg h1 h2 ho ht (kk hk0 hn0 H locs ls hH hL hl)
theorem sp_ireturn {post : Option Value → sp_M → Prop} {ty : FieldType} (X : sp_X l G own cc nL init (some ty) R (some post) w) {v : Int32} (hdg : decode cc pc = .ok (.ireturn, 1)) (hn : narrow ty (.int v) = .int v) (hp : post (some (.int v)) m) : w k n m pc lv [.int v] := by
  obtain ⟨p, e, s, mm, args, below, meth, c, Q, hx, hb, hml, hown, hlocks, hret, hini, hK, hQ, rfl⟩ := X
  intro hk0 hn0 H locs ls hH hL hl
  rw [hQ post rfl]
  refine W.widen (k := R.cells) (n := R.slots) (by omega) (by omega) ?_
  exact W.zret hx hb hret hn (fun t ht _ => ⟨_, m, rfl, by rw [ht]; exact hH, hp⟩) hL hdg hlocks
theorem sp_lreturn {post : Option Value → sp_M → Prop} (X : sp_X l G own cc nL init (some .long) R (some post) w) {v : Int64} (hdg : decode cc pc = .ok (.lreturn, 1)) (hp : post (some (.long v)) m) : w k n m pc lv [.long v] := by
  obtain ⟨p, e, s, mm, args, below, meth, c, Q, hx, hb, hml, hown, hlocks, hret, hini, hK, hQ, rfl⟩ := X
  intro hk0 hn0 H locs ls hH hL hl
  rw [hQ post rfl]
  refine W.widen (k := R.cells) (n := R.slots) (by omega) (by omega) ?_
  exact W.lret hx hb hret (fun t ht _ => ⟨_, m, rfl, by rw [ht]; exact hH, hp⟩) hL hdg hlocks
theorem sp_return {post : Option Value → sp_M → Prop} (X : sp_X l G own cc nL init none R (some post) w) (hdg : decode cc pc = .ok (.return_, 1)) (hp : post none m) : w k n m pc lv [] := by
  obtain ⟨p, e, s, mm, args, below, meth, c, Q, hx, hb, hml, hown, hlocks, hret, hini, hK, hQ, rfl⟩ := X
  intro hk0 hn0 H locs ls hH hL hl
  rw [hQ post rfl]
  refine W.widen (k := R.cells) (n := R.slots) (by omega) (by omega) ?_
  exact W.vret hx hb hret (fun t ht _ => ⟨_, m, rfl, by rw [ht]; exact hH, hp⟩) hL hdg hlocks
theorem sp_areturn {post : Option Value → sp_M → Prop} {rt : FieldType} (X : sp_X l G own cc nL init (some rt) R (some post) w) {r : Option Nat} (hrt : (∃ n, rt = .object n) ∨ ∃ t, rt = .array t) (hdg : decode cc pc = .ok (.areturn, 1)) (hp : post (some (va_rf r)) m) : w k n m pc lv [va_rf r] := by
  obtain ⟨p, e, s, mm, args, below, meth, c, Q, hx, hb, hml, hown, hlocks, hret, hini, hK, hQ, rfl⟩ := X
  intro hk0 hn0 H locs ls hH hL hl
  rw [hQ post rfl]
  refine W.widen (k := R.cells) (n := R.slots) (by omega) (by omega) ?_
  exact W.aret hx hb hret hrt (by cases r; exact Or.inl rfl; exact Or.inr ⟨_, rfl⟩) (fun t ht _ => ⟨_, m, rfl, by rw [ht]; exact hH, hp⟩) hL hdg hlocks
end SPB
end
section
/-! ROWS OF THE HEAP -/
section SPH
variable {l : Launch} {G : sp_G} {own : String} {cc : ByteArray} {nL : Nat} {init : Bool} {ret : Option FieldType} {R : Room} {Qo : Option (Option Value → sp_M → Prop)} {w : sp_T}
variable {k n : Nat} {m : sp_M} {pc : Nat} {lv : sp_L} {rest : List Value}
/-- a link of a field: the pool's own, or a nest mate's; by the name of its own class, or of a class that has the same field -/
def sp_fl (own : String) (idx : Nat) (dc nm ds : String) : Prop := ∃ ref, (ref = dc ∨ Cond.sameField ref dc nm ds ∈ lw_tbl) ∧ (Cond.fieldLink own idx ref nm ds ∈ lw_tbl ∨ ∃ host, Cond.fieldLinkNest own idx ref nm ds host ∈ lw_tbl)
theorem sp_same {s : State} (hK : sp_K G s) {ref dc nm ds : String} (h : ref = dc ∨ Cond.sameField ref dc nm ds ∈ lw_tbl) {x : ClassId × Class × Nat × Field} (hx : s.fieldFound? dc nm ds = some x) : s.fieldFound? ref nm ds = some x := by
  rcases h with h | h
  · rw [h]
    exact hx
  · exact u_same (hK.w h rfl #[]) x hx
theorem sp_gf_core {s : State} {H : Heap} (hK : sp_K G s) (hH : sp_H G m H) {a c i t : Nat} (hty : m.ty a = c + 1) (hc : c < 14) (ht : (sp_ft c)[i]? = some t) : ∃ (cell : Cell) (cf : ClassId) (kf : Class) (fi : Nat) (f : Field), i < sp_Cl c ∧ H[a]? = some cell ∧ cell.cls = G.D.1 c ∧ cell.vm = .none ∧ s.fieldFound? (sp_Ct c i).1 (sp_Ct c i).2.1 (sp_Ct c i).2.2.1 = some (cf, kf, fi, f) ∧ f.isStatic = false ∧ f.slot = G.D.2 c i ∧ cell.slots[f.slot]? = some (sp_fv m t (64 * c + i) a) := by
  obtain ⟨hb, cell, q1, q2, q3, q4⟩ := hH.obj hty hc
  have hi : i < sp_Cl c := by
    rw [← sp_cl_len c hc]
    exact (List.getElem?_eq_some_iff.mp ht).1
  obtain ⟨hS, hfc, kC, hkC, hkind⟩ := hK.1.1 c _ (sp_cl_get hc)
  obtain ⟨cf, kf, fi, f, hf, hsl⟩ := hS i hi
  refine ⟨cell, cf, kf, fi, f, hi, q1, q2, q3, hf, (u_facts hfc hkC (sp_lays hK hc hi #[]) hf).1, hsl, ?_⟩
  rw [hsl, q4 i hi]
  simp [vp_V, sp_fs_get ht]
theorem sp_getfield (X : sp_X l G own cc nL init ret R Qo w) {r : Option Nat} {a c i t idx : Nat} {v : Value} (hr : r = some a) (hty : m.ty a = c + 1) (hc : c < 14) (ht : (sp_ft c)[i]? = some t) (hv : sp_fv m t (64 * c + i) a = v) (hl0 : sp_fl own idx (sp_Ct c i).1 (sp_Ct c i).2.1 (sp_Ct c i).2.2.1) (hdg : decode cc pc = .ok (.getfield idx, 3)) (kk : w k n m (pc + 3) lv (v :: rest)) : w k n m pc lv (va_rf r :: rest) := by
  subst hr
  subst hv

  obtain ⟨p, e, s, mm, args, below, meth, cd, Q, hx, hb, hml, hown, hlocks, hret, hini, hK, hQ, rfl⟩ := X
  intro hk0 hn0 H locs ls hH hL hl
  obtain ⟨cell, cf, kf, fi, f, hi, q1, q2, q3, hf, hst, hsl, hs⟩ := sp_gf_core hK hH hty hc ht
  obtain ⟨ref0, hs0, hl0⟩ := hl0
  have hf0 := sp_same hK hs0 hf
  rcases hl0 with h0 | ⟨host, h0⟩
  · exact W.getf hx hb hown (hK.w h0 rfl _) hf0 hst q1 (by rw [q3]; exact fun h => by cases h) hs rfl rfl hdg (kk hk0 hn0 H locs ls hH hL hl)
  · exact va_Wgetf hx hb hown (hK.w h0 rfl _) hf0 hst q1 (by rw [q3]; exact fun h => by cases h) hs rfl rfl hdg (kk hk0 hn0 H locs ls hH hL hl)
/-- a field's value fits -/
def sp_fit (ty : FieldType) (v : Value) : Prop := narrow ty v = v ∧ fits ty v = true
theorem sp_fit_rf {ty : FieldType} (h : ty.isReference = true) (r : Option Nat) : sp_fit ty (va_rf r) := by
  cases ty <;> first | (cases h; done) | (cases r <;> exact ⟨rfl, rfl⟩)
theorem sp_pf_core {s : State} {H H1 : Heap} {m' : sp_M} (hK : sp_K G s) (hH : sp_H G m H) {a c i : Nat} {v : Value} {cell : Cell} {f : Field} (hty : m.ty a = c + 1) (hc : c < 14) (hi : i < sp_Cl c) (q1 : H[a]? = some cell) (hsl : f.slot = G.D.2 c i) (e1 : H1[a]? = some (cell.setSlot f.slot v)) (e2 : H1.size = H.size) (e3 : ∀ q, q ≠ a → H1[q]? = H[q]?)
    (h1 : m'.nx = m.nx) (h2 : m'.ty = m.ty) (h3 : m'.ln = m.ln) (h4 : m'.aI = m.aI) (h5 : ∀ b, b ≠ a → sp_e G.Y m' b = sp_e G.Y m b) (h6 : sp_fs m' c a = (sp_fs m c a).set i v) : sp_H G m' H1 :=
  hH.fld hty hc hi (sp_apart hK hc) e2 e3 q1 (by rw [← hsl]; exact e1) h1 h2 h3 h4 h5 h6
theorem sp_putfield (X : sp_X l G own cc nL init ret R Qo w) {r : Option Nat} {a c i t idx : Nat} {v : Value} {m' : sp_M} (hr : r = some a) (hty : m.ty a = c + 1) (hc : c < 14) (ht : (sp_ft c)[i]? = some t) (hfin : (sp_Ct c i).2.2.2 = false ∨ (init = true ∧ (sp_Ct c i).2.2.2 = true ∧ (sp_Ct c i).1 = own)) (hfit : sp_fit (sp_tyf c i) v) (hl0 : sp_fl own idx (sp_Ct c i).1 (sp_Ct c i).2.1 (sp_Ct c i).2.2.1) (hdg : decode cc pc = .ok (.putfield idx, 3))
    (h1 : m'.nx = m.nx) (h2 : m'.ty = m.ty) (h3 : m'.ln = m.ln) (h4 : m'.aI = m.aI) (h5 : ∀ b, b ≠ a → sp_e G.Y m' b = sp_e G.Y m b) (h6 : sp_fs m' c a = (sp_fs m c a).set i v) (kk : w k n m' (pc + 3) lv rest) : w k n m pc lv (v :: va_rf r :: rest) := by
  subst hr
  obtain ⟨p, e, s, mm, args, below, meth, cd, Q, hx, hb, hml, hown, hlocks, hret, hini, hK, hQ, rfl⟩ := X
  intro hk0 hn0 H locs ls hH hL hl
  obtain ⟨cell, cf, kf, fi, f, hi, q1, q2, q3, hf, hst, hsl, hs⟩ := sp_gf_core hK hH hty hc ht
  obtain ⟨hS, hfc, kC, hkC, hkind⟩ := hK.1.1 c _ (sp_cl_get hc)
  obtain ⟨ref0, hs0, hl0⟩ := hl0
  have hf0 := sp_same hK hs0 hf
  have hlt : f.slot < cell.slots.size := (Array.getElem?_eq_some_iff.mp hs).1
  have hty2 := sp_cl_ty c hc i hi
  have hba : G.base ≤ a := (hH.obj hty hc).1
  have hLL : ∀ q ∈ locs ++ [(⟨a, f.slot⟩ : Loc)], G.base ≤ q.base := fun q hq => by
    rcases List.mem_append.mp hq with h | h
    · exact hL q h
    · rw [List.mem_singleton.mp h]
      exact hba
  rcases hfin with hfin | ⟨hin, hfin, hdc⟩
  · have h6' := u_store hfc hkC hkind (sp_lay1 hK hc hi args hfin) hf hty2 hfit.1 hfit.2
    rcases hl0 with h0 | ⟨host, h0⟩
    · refine W.putK hx hb (f := f) ⟨hown, hK.w h0 rfl _, ⟨_, _, _, hf0⟩, hst⟩ (by rw [q2]; exact h6') q1 q3 hlt rfl rfl hdg fun H' e1 e2 e3 => ?_
      exact kk hk0 hn0 H' _ ls (sp_pf_core hK hH hty hc hi q1 hsl e1 e2 e3 h1 h2 h3 h4 h5 h6) hLL hl
    · refine va_WputK hx hb (f := f) hown (hK.w h0 rfl _) hf0 hst (by rw [q2]; exact h6') q1 q3 hlt rfl rfl hdg fun H' e1 e2 e3 => ?_
      exact kk hk0 hn0 H' _ ls (sp_pf_core hK hH hty hc hi q1 hsl e1 e2 e3 h1 h2 h3 h4 h5 h6) hLL hl
  · have hlay := sp_layF hK hc hi args hfin
    have hcf : mm.cls = cf := by
      obtain ⟨_, _, c', _, _, _, -, -, hf', -, -, -, hown2, -⟩ := Cond.laysFinal_spec hlay
      have e1 : c' = cf := by have := hf.symm.trans hf'; simp at this; exact this.1.symm
      rw [hdc] at hown2
      rw [← e1]; exact Option.some.inj (hown.symm.trans hown2)
    have h6' := u_fits hfc hkC hkind (Or.inr hlay) hf hty2 hfit.1 hfit.2
    rcases hl0 with h0 | ⟨host, h0⟩
    · refine W.putFinK hx hb hown (hK.w h0 rfl _) hf0 hst hcf (hini hin) (by rw [q2]; exact h6') q1 q3 hlt rfl rfl hdg fun H' e1 e2 e3 => ?_
      exact kk hk0 hn0 H' _ ls (sp_pf_core hK hH hty hc hi q1 hsl e1 e2 e3 h1 h2 h3 h4 h5 h6) hLL hl
    · refine va_Wputf hx hb hown (hK.w h0 rfl _) hf0 hst (Or.inr ⟨hcf, hini hin⟩) q1 (by rw [q3]; exact fun h => by cases h) hlt h6'.1 (by rw [q3, q2]; exact h6'.2) rfl rfl hdg ?_
      have ha : a < H.size := (Array.getElem?_eq_some_iff.mp q1).1
      exact kk hk0 hn0 _ _ ls (sp_pf_core (H1 := H.setIfInBounds a (cell.setSlot f.slot v)) hK hH hty hc hi q1 hsl (by simp [Array.getElem?_setIfInBounds, ha]) (by simp) (fun q hq => by simp [Array.getElem?_setIfInBounds, Ne.symm hq]) h1 h2 h3 h4 h5 h6) hLL hl
theorem sp_putI (X : sp_X l G own cc nL init ret R Qo w) {r : Option Nat} {a c i idx q : Nat} {v : Int32} (hr : r = some a) (hty : m.ty a = c + 1) (hc : c < 14) (ht : (sp_ft c)[i]? = some 0) (hq : 64 * c + i = q) (hfin : (sp_Ct c i).2.2.2 = false ∨ (init = true ∧ (sp_Ct c i).2.2.2 = true ∧ (sp_Ct c i).1 = own)) (hfit : sp_fit (sp_tyf c i) (.int v)) (hl0 : sp_fl own idx (sp_Ct c i).1 (sp_Ct c i).2.1 (sp_Ct c i).2.2.1) (hdg : decode cc pc = .ok (.putfield idx, 3)) (kk : w k n (m.pI q a v) (pc + 3) lv rest) : w k n m pc lv (.int v :: va_rf r :: rest) := by
  subst hq
  exact sp_putfield (m' := m.pI (64 * c + i) a v) X hr hty hc ht hfin hfit hl0 hdg rfl rfl rfl rfl (fun b hb => sp_e_pI hb) (sp_fs_pI ht) kk
theorem sp_putL (X : sp_X l G own cc nL init ret R Qo w) {r : Option Nat} {a c i idx q : Nat} {v : Int64} (hr : r = some a) (hty : m.ty a = c + 1) (hc : c < 14) (ht : (sp_ft c)[i]? = some 1) (hq : 64 * c + i = q) (hfin : (sp_Ct c i).2.2.2 = false ∨ (init = true ∧ (sp_Ct c i).2.2.2 = true ∧ (sp_Ct c i).1 = own)) (hl0 : sp_fl own idx (sp_Ct c i).1 (sp_Ct c i).2.1 (sp_Ct c i).2.2.1) (hdg : decode cc pc = .ok (.putfield idx, 3)) (kk : w k n (m.pL q a v) (pc + 3) lv rest) : w k n m pc lv (.long v :: va_rf r :: rest) := by
  subst hq
  have hi : i < sp_Cl c := by
    rw [← sp_cl_len c hc]
    exact (List.getElem?_eq_some_iff.mp ht).1
  have hfit : sp_fit (sp_tyf c i) (.long v) := by
    rcases sp_cl_ft c hc i hi with h | h | h
    · rw [ht] at h; cases h.1
    · rw [h.2]; exact ⟨rfl, rfl⟩
    · rw [ht] at h; cases h.1
  exact sp_putfield (m' := m.pL (64 * c + i) a v) X hr hty hc ht hfin hfit hl0 hdg rfl rfl rfl rfl (fun b hb => sp_e_pL hb) (sp_fs_pL ht) kk
theorem sp_putR (X : sp_X l G own cc nL init ret R Qo w) {r v : Option Nat} {a c i idx q : Nat} (hr : r = some a) (hty : m.ty a = c + 1) (hc : c < 14) (ht : (sp_ft c)[i]? = some 2) (hq : 64 * c + i = q) (hfin : (sp_Ct c i).2.2.2 = false ∨ (init = true ∧ (sp_Ct c i).2.2.2 = true ∧ (sp_Ct c i).1 = own)) (hl0 : sp_fl own idx (sp_Ct c i).1 (sp_Ct c i).2.1 (sp_Ct c i).2.2.1) (hdg : decode cc pc = .ok (.putfield idx, 3)) (kk : w k n (m.pR q a v) (pc + 3) lv rest) : w k n m pc lv (va_rf v :: va_rf r :: rest) := by
  subst hq
  have hi : i < sp_Cl c := by
    rw [← sp_cl_len c hc]
    exact (List.getElem?_eq_some_iff.mp ht).1
  have hfit : sp_fit (sp_tyf c i) (va_rf v) := by
    rcases sp_cl_ft c hc i hi with h | h | h
    · rw [ht] at h; cases h.1
    · rw [ht] at h; cases h.1
    · exact sp_fit_rf h.2 v
  exact sp_putfield (m' := m.pR (64 * c + i) a v) X hr hty hc ht hfin hfit hl0 hdg rfl rfl rfl rfl (fun b hb => sp_e_pR hb) (sp_fs_pR ht) kk
end SPH
end
section
/-! ROWS OF ARRAYS AND NEW CELLS -/
section SPA
variable {l : Launch} {G : sp_G} {own : String} {cc : ByteArray} {nL : Nat} {init : Bool} {ret : Option FieldType} {R : Room} {Qo : Option (Option Value → sp_M → Prop)} {w : sp_T}
variable {k n : Nat} {m : sp_M} {pc : Nat} {lv : sp_L} {rest : List Value}
theorem sp_P1 {D : va_G} {cl : List vw_C} {a : Nat} {e : va_E} {H : Heap} (h : va_at D cl (a, e) H) : va_P D cl [(a, e)] H := by
  intro k q hk
  have hz : k < 1 := (List.getElem?_eq_some_iff.mp hk).1
  rw [show k = 0 by omega] at hk
  cases hk
  exact h
theorem sp_inlt {j : Int32} {N : Nat} (h : vp_in j N) : j.toNatClampNeg < N := Nat.not_le.mp fun q => h (Or.inr q)
theorem sp_cons {locs : List Loc} {b a : Nat} (i : Nat) (hL : ∀ q ∈ locs, b ≤ q.base) (ha : b ≤ a) : ∀ q ∈ locs ++ [(⟨a, i⟩ : Loc)], b ≤ q.base := fun q hq => by
  rcases List.mem_append.mp hq with h | h
  · exact hL q h
  · rw [List.mem_singleton.mp h]
    exact ha

theorem sp_H.arrI {H : Heap} (hH : sp_H G m H) {a : Nat} (ha : m.ty a = 20) : G.base ≤ a ∧ H[a]? = some (vp_cell G.Y.1 (m.ln a, .inl (m.aI a))) := by
  rcases hH.2.2.2 a (by omega) with h1 | h1
  · omega
  · refine ⟨h1.1, ?_⟩
    have h2 := h1.2.2
    rw [show sp_e G.Y m a = .inl (G.Y.1, m.ln a, .inl (m.aI a)) by
      unfold sp_e

      rw [if_pos ha]] at h2
    exact h2
theorem sp_H.arrL {H : Heap} (hH : sp_H G m H) {a : Nat} (ha : m.ty a = 21) : G.base ≤ a ∧ H[a]? = some (vp_cell G.Y.2.1 (m.ln a, .inr (.inl (m.aL a)))) := by
  rcases hH.2.2.2 a (by omega) with h1 | h1
  · omega
  · refine ⟨h1.1, ?_⟩
    have h2 := h1.2.2
    rw [show sp_e G.Y m a = .inl (G.Y.2.1, m.ln a, .inr (.inl (m.aL a))) by
      unfold sp_e
      rw [if_neg (by omega)]
      rw [if_pos ha]] at h2
    exact h2
theorem sp_H.arrZ {H : Heap} (hH : sp_H G m H) {a : Nat} (ha : m.ty a = 22) : G.base ≤ a ∧ H[a]? = some (vp_cell G.Y.2.2.1 (m.ln a, .inl (m.aI a))) := by
  rcases hH.2.2.2 a (by omega) with h1 | h1
  · omega
  · refine ⟨h1.1, ?_⟩
    have h2 := h1.2.2
    rw [show sp_e G.Y m a = .inl (G.Y.2.2.1, m.ln a, .inl (m.aI a)) by
      unfold sp_e
      rw [if_neg (by omega)]
      rw [if_neg (by omega)]
      rw [if_pos ha]] at h2
    exact h2
theorem sp_H.arrR {H : Heap} (hH : sp_H G m H) {a : Nat} (ha : m.ty a = 23) : G.base ≤ a ∧ H[a]? = some (vp_cell G.Y.2.2.2 (m.ln a, .inr (.inr (.inr (.inr (m.aR a)))))) := by
  rcases hH.2.2.2 a (by omega) with h1 | h1
  · omega
  · refine ⟨h1.1, ?_⟩
    have h2 := h1.2.2
    rw [show sp_e G.Y m a = .inl (G.Y.2.2.2, m.ln a, .inr (.inr (.inr (.inr (m.aR a))))) by
      unfold sp_e
      rw [if_neg (by omega)]
      rw [if_neg (by omega)]
      rw [if_neg (by omega)]
      rw [if_pos ha]] at h2
    exact h2
theorem sp_H.old {H : Heap} (hH : sp_H G m H) {a : Nat} (ha : 24 ≤ m.ty a) : a < G.base ∧ m.ty a = G.oty a ∧ m.ln a = G.oln a ∧ (∀ j, m.aI a j = G.oI a j) ∧ H[a]? = G.H0[a]? := by
  rcases hH.2.2.2 a (by omega) with h1 | h1
  · exact ⟨h1.1, h1.2.2.1, h1.2.2.2.1, h1.2.2.2.2, hH.2.2.1 a h1.1⟩
  · omega
theorem sp_iaload (X : sp_X l G own cc nL init ret R Qo w) {r : Option Nat} {a : Nat} {j : Int32} (hr : r = some a) (hty : m.ty a = 20 ∨ m.ty a = 24) (hin : vp_in j (m.ln a)) (hdg : decode cc pc = .ok (.iaload, 1)) (kk : w k n m (pc + 1) lv (.int (m.aI a j.toNatClampNeg) :: rest)) : w k n m pc lv (.int j :: va_rf r :: rest) := by
  subst hr
  obtain ⟨p, e, s, mm, args, below, meth, cd, Q, hx, hb, hml, hown, hlocks, hret, hini, hK, hQ, rfl⟩ := X
  intro hk0 hn0 H locs ls hH hL hl
  rcases hty with hty | hty
  · obtain ⟨hb0, hc⟩ := hH.arrI hty
    exact va_iald (D := G.D) (cl := vwCl) hx hb hK.1 (sp_P1 (e := .inl (G.Y.1, m.ln a, .inl (m.aI a))) hc) 0 0 rfl rfl hin hdg (kk hk0 hn0 H locs ls hH hL hl)
  · obtain ⟨h1, h2, h3, h4, h5⟩ := hH.old (a := a) (by omega)
    obtain ⟨scr, g1, g2, g3, g4, g5⟩ := (hK.2.2.1 a).1 (by rw [← h2]; exact hty)
    have hlt := sp_inlt hin
    have hin2 : ¬ (j < 0 ∨ scr.slots.size ≤ j.toNatClampNeg) := by
      rw [g4, ← h3]
      exact hin
    refine W.iald hx hb (by rw [h5]; exact g1) g2 g3 hin2 (g5 _ (by rw [← h3]; exact hlt)) rfl rfl hdg ?_
    rw [← h4]
    exact kk hk0 hn0 H locs ls hH hL hl
theorem sp_laload (X : sp_X l G own cc nL init ret R Qo w) {r : Option Nat} {a : Nat} {j : Int32} (hr : r = some a) (hty : m.ty a = 21) (hin : vp_in j (m.ln a)) (hdg : decode cc pc = .ok (.laload, 1)) (kk : w k n m (pc + 1) lv (.long (m.aL a j.toNatClampNeg) :: rest)) : w k n m pc lv (.int j :: va_rf r :: rest) := by
  subst hr
  obtain ⟨p, e, s, mm, args, below, meth, cd, Q, hx, hb, hml, hown, hlocks, hret, hini, hK, hQ, rfl⟩ := X
  intro hk0 hn0 H locs ls hH hL hl
  obtain ⟨hb0, hc⟩ := hH.arrL hty
  exact va_lald (D := G.D) (cl := vwCl) hx hb hK.1 (sp_P1 (e := .inl (G.Y.2.1, m.ln a, .inr (.inl (m.aL a)))) hc) 0 1 rfl rfl hin hdg (kk hk0 hn0 H locs ls hH hL hl)
theorem sp_baload (X : sp_X l G own cc nL init ret R Qo w) {r : Option Nat} {a : Nat} {j : Int32} (hr : r = some a) (hty : m.ty a = 22) (hin : vp_in j (m.ln a)) (hdg : decode cc pc = .ok (.baload, 1)) (kk : w k n m (pc + 1) lv (.int (m.aI a j.toNatClampNeg) :: rest)) : w k n m pc lv (.int j :: va_rf r :: rest) := by
  subst hr
  obtain ⟨p, e, s, mm, args, below, meth, cd, Q, hx, hb, hml, hown, hlocks, hret, hini, hK, hQ, rfl⟩ := X
  intro hk0 hn0 H locs ls hH hL hl
  obtain ⟨hb0, hc⟩ := hH.arrZ hty
  exact va_zald (D := G.D) (cl := vwCl) hx hb hK.1 (sp_P1 (e := .inl (G.Y.2.2.1, m.ln a, .inl (m.aI a))) hc) 0 2 rfl rfl hin hdg (kk hk0 hn0 H locs ls hH hL hl)
theorem sp_aaload (X : sp_X l G own cc nL init ret R Qo w) {r : Option Nat} {a : Nat} {j : Int32} (hr : r = some a) (hty : m.ty a = 23) (hin : vp_in j (m.ln a)) (hdg : decode cc pc = .ok (.aaload, 1)) (kk : w k n m (pc + 1) lv (va_rf (m.aR a j.toNatClampNeg) :: rest)) : w k n m pc lv (.int j :: va_rf r :: rest) := by
  subst hr
  obtain ⟨p, e, s, mm, args, below, meth, cd, Q, hx, hb, hml, hown, hlocks, hret, hini, hK, hQ, rfl⟩ := X
  intro hk0 hn0 H locs ls hH hL hl
  obtain ⟨hb0, hc⟩ := hH.arrR hty
  exact va_aldq (D := G.D) (cl := vwCl) hx hb hK.1 (sp_P1 (e := .inl (G.Y.2.2.2, m.ln a, .inr (.inr (.inr (.inr (m.aR a)))))) hc) 0 3 rfl rfl hin hdg (kk hk0 hn0 H locs ls hH hL hl)
theorem sp_arraylength (X : sp_X l G own cc nL init ret R Qo w) {r : Option Nat} {a : Nat} (hr : r = some a) (hty : m.ty a = 20 ∨ m.ty a = 21 ∨ m.ty a = 22 ∨ m.ty a = 23 ∨ m.ty a = 24 ∨ m.ty a = 25) (hdg : decode cc pc = .ok (.arraylength, 1)) (kk : w k n m (pc + 1) lv (.int (Int32.ofNat (m.ln a)) :: rest)) : w k n m pc lv (va_rf r :: rest) := by
  subst hr
  obtain ⟨p, e, s, mm, args, below, meth, cd, Q, hx, hb, hml, hown, hlocks, hret, hini, hK, hQ, rfl⟩ := X
  intro hk0 hn0 H locs ls hH hL hl
  rcases hty with hty | hty | hty | hty | hty | hty
  · exact va_alen (D := G.D) (cl := vwCl) hx hb hK.1 (sp_P1 (e := .inl (G.Y.1, m.ln a, .inl (m.aI a))) (hH.arrI hty).2) 0 0 rfl rfl rfl hdg (kk hk0 hn0 H locs ls hH hL hl)
  · exact va_alen (D := G.D) (cl := vwCl) hx hb hK.1 (sp_P1 (e := .inl (G.Y.2.1, m.ln a, .inr (.inl (m.aL a)))) (hH.arrL hty).2) 0 1 rfl rfl rfl hdg (kk hk0 hn0 H locs ls hH hL hl)
  · exact va_alen (D := G.D) (cl := vwCl) hx hb hK.1 (sp_P1 (e := .inl (G.Y.2.2.1, m.ln a, .inl (m.aI a))) (hH.arrZ hty).2) 0 2 rfl rfl rfl hdg (kk hk0 hn0 H locs ls hH hL hl)
  · exact va_alen (D := G.D) (cl := vwCl) hx hb hK.1 (sp_P1 (e := .inl (G.Y.2.2.2, m.ln a, .inr (.inr (.inr (.inr (m.aR a)))))) (hH.arrR hty).2) 0 3 rfl rfl rfl hdg (kk hk0 hn0 H locs ls hH hL hl)
  · obtain ⟨h1, h2, h3, h4, h5⟩ := hH.old (a := a) (by omega)
    obtain ⟨scr, g1, g2, g3, g4, g5⟩ := (hK.2.2.1 a).1 (by rw [← h2]; exact hty)
    exact W.alen hx hb (by rw [h5]; exact g1) g2 (by rw [g4, ← h3]) rfl rfl hdg (kk hk0 hn0 H locs ls hH hL hl)
  · obtain ⟨h1, h2, h3, h4, h5⟩ := hH.old (a := a) (by omega)
    obtain ⟨scr, g1, g2, g3, g4⟩ := (hK.2.2.1 a).2 (by rw [← h2]; exact hty)
    exact W.alen hx hb (by rw [h5]; exact g1) g2 (by rw [g4, ← h3]) rfl rfl hdg (kk hk0 hn0 H locs ls hH hL hl)
theorem sp_e_sI {y : sp_Y} {a b j : Nat} {v : Int32} (hb : b ≠ a) : sp_e y (m.sI a j v) b = sp_e y m b := by
  have h1 : (m.sI a j v).aI b = m.aI b := by
    funext i
    rw [sp_sI_aI, if_neg (by rintro ⟨h, -⟩; exact hb h)]
  unfold sp_e
  rw [h1]
  rfl
theorem sp_e_sL {y : sp_Y} {a b j : Nat} {v : Int64} (hb : b ≠ a) : sp_e y (m.sL a j v) b = sp_e y m b := by
  have h1 : (m.sL a j v).aL b = m.aL b := by
    funext i
    rw [sp_sL_aL, if_neg (by rintro ⟨h, -⟩; exact hb h)]
  unfold sp_e
  rw [h1]
  rfl
theorem sp_e_sR {y : sp_Y} {a b j : Nat} {v : Option Nat} (hb : b ≠ a) : sp_e y (m.sR a j v) b = sp_e y m b := by
  have h1 : (m.sR a j v).aR b = m.aR b := by
    funext i
    rw [sp_sR_aR, if_neg (by rintro ⟨h, -⟩; exact hb h)]
  unfold sp_e
  rw [h1]
  rfl
theorem sp_e_arrI {y : sp_Y} {a : Nat} (ha : m.ty a = 20) : sp_e y m a = .inl (y.1, m.ln a, .inl (m.aI a)) := by
  unfold sp_e
  rw [if_pos ha]
theorem sp_e_arrL {y : sp_Y} {a : Nat} (ha : m.ty a = 21) : sp_e y m a = .inl (y.2.1, m.ln a, .inr (.inl (m.aL a))) := by
  unfold sp_e
  rw [if_neg (by omega), if_pos ha]
theorem sp_e_arrZ {y : sp_Y} {a : Nat} (ha : m.ty a = 22) : sp_e y m a = .inl (y.2.2.1, m.ln a, .inl (m.aI a)) := by
  unfold sp_e
  rw [if_neg (by omega), if_neg (by omega), if_pos ha]
theorem sp_e_arrR {y : sp_Y} {a : Nat} (ha : m.ty a = 23) : sp_e y m a = .inl (y.2.2.2, m.ln a, .inr (.inr (.inr (.inr (m.aR a))))) := by
  unfold sp_e
  rw [if_neg (by omega), if_neg (by omega), if_neg (by omega), if_pos ha]
theorem sp_iastore (X : sp_X l G own cc nL init ret R Qo w) {r : Option Nat} {a : Nat} {j x : Int32} (hr : r = some a) (hty : m.ty a = 20) (hin : vp_in j (m.ln a)) (hdg : decode cc pc = .ok (.iastore, 1)) (kk : w k n (m.sI a j.toNatClampNeg x) (pc + 1) lv rest) : w k n m pc lv (.int x :: .int j :: va_rf r :: rest) := by
  subst hr
  obtain ⟨p, e, s, mm, args, below, meth, cd, Q, hx, hb, hml, hown, hlocks, hret, hini, hK, hQ, rfl⟩ := X
  intro hk0 hn0 H locs ls hH hL hl
  obtain ⟨hb0, hc⟩ := hH.arrI hty
  refine W.iast hx hb hc ((hK.1.2 0 _ rfl).1 _ (fun i => .int (m.aI a i))) (fun q => by cases q) (by show ¬ (j < 0 ∨ (arrV _ _ _).slots.size ≤ _); rw [arrV_size]; exact hin) rfl rfl hdg fun H1 e1 z oq => ?_
  refine kk hk0 hn0 H1 _ ls (hH.upd z oq hb0 rfl rfl rfl (fun b hb => ?_) (fun b hb => sp_e_sI hb) ?_) (sp_cons _ hL hb0) hl
  · funext i
    rw [sp_sI_aI, if_neg (by rintro ⟨h, -⟩; exact hb h)]
  · rw [sp_e_arrI (m := m.sI a j.toNatClampNeg x) hty]
    show H1[a]? = some (vp_cell _ _)
    rw [e1, vp_cell_i, vp_cell_i, arrV_store]
    congr 2
    funext q
    by_cases hq : q = j.toNatClampNeg
    · subst hq
      simp [updV, sp_sI_aI]
    · simp [updV, sp_sI_aI, hq]
theorem sp_lastore (X : sp_X l G own cc nL init ret R Qo w) {r : Option Nat} {a : Nat} {j : Int32} {x : Int64} (hr : r = some a) (hty : m.ty a = 21) (hin : vp_in j (m.ln a)) (hdg : decode cc pc = .ok (.lastore, 1)) (kk : w k n (m.sL a j.toNatClampNeg x) (pc + 1) lv rest) : w k n m pc lv (.long x :: .int j :: va_rf r :: rest) := by
  subst hr
  obtain ⟨p, e, s, mm, args, below, meth, cd, Q, hx, hb, hml, hown, hlocks, hret, hini, hK, hQ, rfl⟩ := X
  intro hk0 hn0 H locs ls hH hL hl
  obtain ⟨hb0, hc⟩ := hH.arrL hty
  refine W.last hx hb hc ((hK.1.2 1 _ rfl).1 _ (fun i => .long (m.aL a i))) (fun q => by cases q) (by show ¬ (j < 0 ∨ (arrV _ _ _).slots.size ≤ _); rw [arrV_size]; exact hin) rfl rfl hdg fun H1 e1 z oq => ?_
  refine kk hk0 hn0 H1 _ ls (hH.upd z oq hb0 rfl rfl rfl (fun b hb => rfl) (fun b hb => sp_e_sL hb) ?_) (sp_cons _ hL hb0) hl
  rw [sp_e_arrL (m := m.sL a j.toNatClampNeg x) hty]
  show H1[a]? = some (vp_cell _ _)
  rw [e1, vp_cell_l, vp_cell_l, arrV_store]
  congr 2
  funext q
  by_cases hq : q = j.toNatClampNeg
  · subst hq
    simp [updV, sp_sL_aL]
  · simp [updV, sp_sL_aL, hq]
theorem sp_bastore (X : sp_X l G own cc nL init ret R Qo w) {r : Option Nat} {a : Nat} {j x : Int32} (hr : r = some a) (hty : m.ty a = 22) (hin : vp_in j (m.ln a)) (hnar : narrow .boolean (.int x) = .int x) (hdg : decode cc pc = .ok (.bastore, 1)) (kk : w k n (m.sI a j.toNatClampNeg x) (pc + 1) lv rest) : w k n m pc lv (.int x :: .int j :: va_rf r :: rest) := by
  subst hr
  obtain ⟨p, e, s, mm, args, below, meth, cd, Q, hx, hb, hml, hown, hlocks, hret, hini, hK, hQ, rfl⟩ := X
  intro hk0 hn0 H locs ls hH hL hl
  obtain ⟨hb0, hc⟩ := hH.arrZ hty
  refine W.zast hx hb hc ((hK.1.2 2 _ rfl).1 _ (fun i => .int (m.aI a i))) (fun q => by cases q) (by show ¬ (j < 0 ∨ (arrV _ _ _).slots.size ≤ _); rw [arrV_size]; exact hin) rfl rfl hdg fun H1 e1 z oq => ?_
  refine kk hk0 hn0 H1 _ ls (hH.upd z oq hb0 rfl rfl rfl (fun b hb => ?_) (fun b hb => sp_e_sI hb) ?_) (sp_cons _ hL hb0) hl
  · funext i
    rw [sp_sI_aI, if_neg (by rintro ⟨h, -⟩; exact hb h)]
  · rw [sp_e_arrZ (m := m.sI a j.toNatClampNeg x) hty]
    show H1[a]? = some (vp_cell _ _)
    rw [e1, hnar, vp_cell_i, vp_cell_i, arrV_store]
    congr 2
    funext q
    by_cases hq : q = j.toNatClampNeg
    · subst hq
      simp [updV, sp_sI_aI]
    · simp [updV, sp_sI_aI, hq]
theorem sp_aastore (X : sp_X l G own cc nL init ret R Qo w) {r v : Option Nat} {a : Nat} {j : Int32} (hr : r = some a) (hty : m.ty a = 23) (hin : vp_in j (m.ln a)) (hv : ∀ b, v = some b → ∃ c, m.ty b = c + 1 ∧ c < 14 ∧ Cond.castable (sp_Cn c) "java/lang/Object" ∈ lw_tbl) (hdg : decode cc pc = .ok (.aastore, 1)) (kk : w k n (m.sR a j.toNatClampNeg v) (pc + 1) lv rest) : w k n m pc lv (va_rf v :: .int j :: va_rf r :: rest) := by
  subst hr
  obtain ⟨p, e, s, mm, args, below, meth, cd, Q, hx, hb, hml, hown, hlocks, hret, hini, hK, hQ, rfl⟩ := X
  intro hk0 hn0 H locs ls hH hL hl
  obtain ⟨hb0, hc⟩ := hH.arrR hty
  have hlt : j.toNatClampNeg < m.ln a := sp_inlt hin
  have h0 : ¬ j < 0 := fun q => hin (Or.inl q)
  have fin : ∀ H1 : Heap, H1[a]? = some ((vp_cell G.Y.2.2.2 (m.ln a, .inr (.inr (.inr (.inr (m.aR a)))))).setSlot j.toNatClampNeg (va_rf v)) → H1.size = H.size → (∀ q, q ≠ a → H1[q]? = H[q]?) → sp_H G (m.sR a j.toNatClampNeg v) H1 := fun H1 e1 z oq => by
    refine hH.upd z oq hb0 rfl rfl rfl (fun b hb => rfl) (fun b hb => sp_e_sR hb) ?_
    rw [sp_e_arrR (m := m.sR a j.toNatClampNeg v) hty]
    show H1[a]? = some (vp_cell _ _)
    rw [e1, vp_cell_q, vp_cell_q, arrV_store]
    congr 2
    funext q
    by_cases hq : q = j.toNatClampNeg
    · subst hq
      simp [updV, sp_sR_aR]
    · simp [updV, sp_sR_aR, hq]
  cases v with
  | none =>
    refine va_WaastN (C := "java/lang/Object") hx hb hc ((hK.1.2 3 _ rfl).1 _ (fun i => va_rf (m.aR a i))) (fun h => by cases h) (by show ¬ (j < 0 ∨ (arrV _ _ _).slots.size ≤ _); rw [arrV_size]; exact hin) rfl rfl hdg fun H1 e1 z oq => ?_
    exact kk hk0 hn0 H1 _ ls (fin H1 e1 z oq) (sp_cons _ hL hb0) hl
  | some b =>
    obtain ⟨ci, hb1, hb2, hca⟩ := hv b rfl
    obtain ⟨hb3, cellV, g1, g2, g3, -⟩ := hH.obj hb1 hb2
    have hcls := (hK.1.1 ci _ (sp_cl_get hb2)).2
    obtain ⟨kA, comp, k1, k2, k3, -⟩ := (hK.1.2 3 _ rfl).2
    obtain ⟨kE, hkE, -⟩ := Vm.findClass_spec k3
    obtain ⟨c0, t1, f1, f2, f3⟩ := Cond.castable_spec (hK.w hca rfl args)
    cases hcls.1.symm.trans f1
    cases k3.symm.trans f2
    obtain ⟨kC, hkC, -⟩ := hcls.2
    refine W.aast hx hb hc (fun q h => by cases h) (fun h => by cases h) k1 k2 rfl hkE ⟨h0, by show _ < (arrV _ _ _).slots.size; rw [arrV_size]; exact hlt⟩ g1 (fun q h => by rw [g3] at h; cases h) (by rw [g2]; exact hkC) (by rw [g2]; exact f3) rfl rfl hdg fun H1 e1 z oq => ?_
    exact kk hk0 hn0 H1 _ ls (fin H1 e1 z oq) (sp_cons _ hL hb0) hl
end SPA
end
section
/-! ROWS OF NEW CELLS, STATICS, CASTS, CALLS; A METHOD'S CONTRACT AND ITS ENTRY -/
section SPC
variable {l : Launch} {G : sp_G} {own : String} {cc : ByteArray} {nL : Nat} {init : Bool} {ret : Option FieldType} {R : Room} {Qo : Option (Option Value → sp_M → Prop)} {w : sp_T}
variable {k n : Nat} {m : sp_M} {pc : Nat} {lv : sp_L} {rest : List Value}
theorem sp_e_newO {y : sp_Y} {c b : Nat} (hb : b ≠ m.nx) : sp_e y (m.newO c) b = sp_e y m b := by
  have h1 : (m.newO c).ty b = m.ty b := by rw [sp_newO_ty, if_neg hb]
  have h2 : ∀ d, sp_fs (m.newO c) d b = sp_fs m d b := fun d => by
    unfold sp_fs
    congr 1
    funext i t
    unfold sp_fv
    rw [sp_newO_fI, sp_newO_fL, sp_newO_fR, if_neg hb, if_neg hb, if_neg hb]
  unfold sp_e
  rw [h1, h2]
  rfl
theorem sp_e_newA {y : sp_Y} {t N b : Nat} (hb : b ≠ m.nx) : sp_e y (m.newA t N) b = sp_e y m b := by
  have h1 : (m.newA t N).ty b = m.ty b := by rw [sp_newA_ty, if_neg hb]
  have h2 : (m.newA t N).ln b = m.ln b := by rw [sp_newA_ln, if_neg hb]
  have h3 : (m.newA t N).aI b = m.aI b := by funext j; rw [sp_newA_aI, if_neg hb]
  have h4 : (m.newA t N).aL b = m.aL b := by funext j; rw [sp_newA_aL, if_neg hb]
  have h5 : (m.newA t N).aR b = m.aR b := by funext j; rw [sp_newA_aR, if_neg hb]
  unfold sp_e
  rw [h1, h2, h3, h4, h5]
  rfl
theorem sp_new (X : sp_X l G own cc nL init ret R Qo w) {c idx N : Nat} (hc : c < 14) (hN : sp_Cl c = N) (hcl : Cond.classLink own idx (sp_Cn c) ∈ lw_tbl) (hin : Cond.instantiable (sp_Cn c) N ∈ lw_tbl) (hit : Cond.initialized (sp_Cn c) ∈ lw_tbl) (hk : 1 ≤ k) (hn : N ≤ n) (hdg : decode cc pc = .ok (.new idx, 3)) (kk : w (k - 1) (n - N) (m.newO c) (pc + 3) lv (va_rf (some m.nx) :: rest)) : w k n m pc lv rest := by
  subst hN
  obtain ⟨p, e, s, mm, args, below, meth, cd, Q, hx, hb, hml, hown, hlocks, hret, hini, hK, hQ, rfl⟩ := X
  intro hk0 hn0 H locs ls hH hL hl
  obtain ⟨hS, hfc, kC', hkC', hkind⟩ := hK.1.1 c _ (sp_cl_get hc)
  refine W.newcK hx hb hown (hK.w hcl rfl _) (hK.w hin rfl _) (hK.w hit rfl _) rfl hdg (by omega) (by omega) hfc hH.1 fun H1 kC hkC e1 z1 o1 => ?_
  refine W.widen (k := R.cells - (k - 1)) (n := R.slots - (n - sp_Cl c)) (by omega) (by omega) ?_
  refine kk (by omega) (by omega) H1 locs ls (hH.new (by rw [z1, hH.1]) (fun q hq => o1 q (by rw [← hH.1]; exact hq)) rfl (fun b hb => by rw [sp_newO_ty, if_neg hb]) (fun b hb => rfl) (fun b hb => rfl) (fun b hb => sp_e_newO hb) (by rw [sp_newO_ty, if_pos rfl]; omega) ?_) hL hl
  rw [sp_e_obj (c := c) (by rw [sp_newO_ty, if_pos rfl]) hc]
  refine ⟨_, sp_cl_get hc, t_OB.to (V := fun j => defaultValue (sp_tyf c j)) ?_ (fun j hj => ?_)⟩
  · exact u_born (sp_tyf c) (ws := u_ws (sp_Cn c) (sp_Ct c) (sp_Cl c)) (args := #[]) (fun w hw => by
      have hw2 := sp_cl_in c hc w hw
      refine hK.w hw2 ?_ _
      unfold u_ws at hw
      obtain ⟨i, -, rfl⟩ := List.mem_map.mp hw
      unfold u_lay
      split <;> rfl) (fun w hw => hw) ⟨hS, hfc, kC', hkC', hkind⟩ hkC e1 (sp_cl_ty c hc)
  · show defaultValue (sp_tyf c j) = vp_V (sp_fs (m.newO c) c m.nx) j
    unfold vp_V
    rw [List.getD_eq_getElem?_getD]
    rcases sp_cl_ft c hc j hj with h | h | h
    · rw [sp_fs_get h.1]
      rcases h.2 with h2 | h2 <;> rw [h2] <;> simp [sp_fv, sp_newO_fI, defaultValue]
    · rw [sp_fs_get h.1, h.2]
      simp [sp_fv, sp_newO_fL, defaultValue]
    · rw [sp_fs_get h.1]
      have h2 := h.2
      cases hty : sp_tyf c j <;> rw [hty] at h2 <;> first | (cases h2; done) | simp [sp_fv, sp_newO_fR, defaultValue, va_rf]

theorem sp_newarrI (X : sp_X l G own cc nL init ret R Qo w) {j : Int32} {N : Nat} (h0 : ¬ j < 0) (hN : j.toNatClampNeg = N) (hs : N ≤ 1000000) (hk : 1 ≤ k) (hn : N ≤ n) (hdg : decode cc pc = .ok (.newarray .int, 2)) (kk : w (k - 1) (n - N) (m.newA 20 N) (pc + 2) lv (va_rf (some m.nx) :: rest)) : w k n m pc lv (.int j :: rest) := by
  obtain ⟨p, e, s, mm, args, below, meth, cd, Q, hx, hb, hml, hown, hlocks, hret, hini, hK, hQ, rfl⟩ := X
  intro hk0 hn0 H locs ls hH hL hl
  have hcb : componentBytes (Op.newarray.typeOf .int) = 4 := rfl
  have hby : N * componentBytes (Op.newarray.typeOf .int) ≤ 536870912 := by rw [hcb]; omega
  have hwd : (Cond.arrayClass (Op.newarray.typeOf .int)).before args s = true := hK.2.2.2.2.2.1.2.1 args
  refine va_newaK (atype := .int) (N := N) (n := j) hx hb hwd rfl hdg rfl h0 hN hby (by omega) (by omega) hH.1 fun H1 cA e1 z1 o1 hAr hNm => ?_
  have hRA : s.vm.findClass ("[" ++ (FieldType.int).toString) = some G.Y.1 := (hK.1.2 0 _ rfl).2
  have hto : Op.newarray.typeOf .int = FieldType.int := rfl
  rw [hto] at hNm
  have hcA : cA = G.Y.1 := Option.some.inj (hNm.symm.trans hRA)
  subst hcA
  refine W.widen (k := R.cells - (k - 1)) (n := R.slots - (n - N)) (by omega) (by omega) ?_
  refine kk (by omega) (by omega) H1 locs ls (hH.new (by rw [z1, hH.1]) (fun q hq => o1 q (by rw [← hH.1]; exact hq)) rfl (fun b hb => by rw [sp_newA_ty, if_neg hb]) (fun b hb => by rw [sp_newA_ln, if_neg hb]) (fun b hb => by funext i; rw [sp_newA_aI, if_neg hb]) (fun b hb => sp_e_newA hb) (by rw [sp_newA_ty, if_pos rfl]; omega) ?_) hL hl
  rw [sp_e_arrI (m := m.newA 20 N) (by rw [sp_newA_ty, if_pos rfl])]
  show H1[m.nx]? = some (vp_cell _ _)
  rw [e1, vp_cell_i, sp_newA_ln, if_pos rfl]
  congr 2
  funext i
  rw [sp_newA_aI, if_pos rfl]
  rfl
theorem sp_newarrL (X : sp_X l G own cc nL init ret R Qo w) {j : Int32} {N : Nat} (h0 : ¬ j < 0) (hN : j.toNatClampNeg = N) (hs : N ≤ 1000000) (hk : 1 ≤ k) (hn : N ≤ n) (hdg : decode cc pc = .ok (.newarray .long, 2)) (kk : w (k - 1) (n - N) (m.newA 21 N) (pc + 2) lv (va_rf (some m.nx) :: rest)) : w k n m pc lv (.int j :: rest) := by
  obtain ⟨p, e, s, mm, args, below, meth, cd, Q, hx, hb, hml, hown, hlocks, hret, hini, hK, hQ, rfl⟩ := X
  intro hk0 hn0 H locs ls hH hL hl
  have hcb : componentBytes (Op.newarray.typeOf .long) = 8 := rfl
  have hby : N * componentBytes (Op.newarray.typeOf .long) ≤ 536870912 := by rw [hcb]; omega
  have hwd : (Cond.arrayClass (Op.newarray.typeOf .long)).before args s = true := hK.2.2.2.2.2.1.2.2.1 args
  refine va_newaK (atype := .long) (N := N) (n := j) hx hb hwd rfl hdg rfl h0 hN hby (by omega) (by omega) hH.1 fun H1 cA e1 z1 o1 hAr hNm => ?_
  have hRA : s.vm.findClass ("[" ++ (FieldType.long).toString) = some G.Y.2.1 := (hK.1.2 1 _ rfl).2
  have hto : Op.newarray.typeOf .long = FieldType.long := rfl
  rw [hto] at hNm
  have hcA : cA = G.Y.2.1 := Option.some.inj (hNm.symm.trans hRA)
  subst hcA
  refine W.widen (k := R.cells - (k - 1)) (n := R.slots - (n - N)) (by omega) (by omega) ?_
  refine kk (by omega) (by omega) H1 locs ls (hH.new (by rw [z1, hH.1]) (fun q hq => o1 q (by rw [← hH.1]; exact hq)) rfl (fun b hb => by rw [sp_newA_ty, if_neg hb]) (fun b hb => by rw [sp_newA_ln, if_neg hb]) (fun b hb => by funext i; rw [sp_newA_aI, if_neg hb]) (fun b hb => sp_e_newA hb) (by rw [sp_newA_ty, if_pos rfl]; omega) ?_) hL hl
  rw [sp_e_arrL (m := m.newA 21 N) (by rw [sp_newA_ty, if_pos rfl])]
  show H1[m.nx]? = some (vp_cell _ _)
  rw [e1, vp_cell_l, sp_newA_ln, if_pos rfl]
  congr 2
  funext i
  rw [sp_newA_aL, if_pos rfl]
  rfl
theorem sp_newarrZ (X : sp_X l G own cc nL init ret R Qo w) {j : Int32} {N : Nat} (h0 : ¬ j < 0) (hN : j.toNatClampNeg = N) (hs : N ≤ 1000000) (hk : 1 ≤ k) (hn : N ≤ n) (hdg : decode cc pc = .ok (.newarray .boolean, 2)) (kk : w (k - 1) (n - N) (m.newA 22 N) (pc + 2) lv (va_rf (some m.nx) :: rest)) : w k n m pc lv (.int j :: rest) := by
  obtain ⟨p, e, s, mm, args, below, meth, cd, Q, hx, hb, hml, hown, hlocks, hret, hini, hK, hQ, rfl⟩ := X
  intro hk0 hn0 H locs ls hH hL hl
  have hcb : componentBytes (Op.newarray.typeOf .boolean) = 1 := rfl
  have hby : N * componentBytes (Op.newarray.typeOf .boolean) ≤ 536870912 := by rw [hcb]; omega
  have hwd : (Cond.arrayClass (Op.newarray.typeOf .boolean)).before args s = true := hK.2.2.2.2.2.1.2.2.2 args
  refine va_newaK (atype := .boolean) (N := N) (n := j) hx hb hwd rfl hdg rfl h0 hN hby (by omega) (by omega) hH.1 fun H1 cA e1 z1 o1 hAr hNm => ?_
  have hRA : s.vm.findClass ("[" ++ (FieldType.boolean).toString) = some G.Y.2.2.1 := (hK.1.2 2 _ rfl).2
  have hto : Op.newarray.typeOf .boolean = FieldType.boolean := rfl
  rw [hto] at hNm
  have hcA : cA = G.Y.2.2.1 := Option.some.inj (hNm.symm.trans hRA)
  subst hcA
  refine W.widen (k := R.cells - (k - 1)) (n := R.slots - (n - N)) (by omega) (by omega) ?_
  refine kk (by omega) (by omega) H1 locs ls (hH.new (by rw [z1, hH.1]) (fun q hq => o1 q (by rw [← hH.1]; exact hq)) rfl (fun b hb => by rw [sp_newA_ty, if_neg hb]) (fun b hb => by rw [sp_newA_ln, if_neg hb]) (fun b hb => by funext i; rw [sp_newA_aI, if_neg hb]) (fun b hb => sp_e_newA hb) (by rw [sp_newA_ty, if_pos rfl]; omega) ?_) hL hl
  rw [sp_e_arrZ (m := m.newA 22 N) (by rw [sp_newA_ty, if_pos rfl])]
  show H1[m.nx]? = some (vp_cell _ _)
  rw [e1, vp_cell_i, sp_newA_ln, if_pos rfl]
  congr 2
  funext i
  rw [sp_newA_aI, if_pos rfl]
  rfl
theorem sp_anewarray (X : sp_X l G own cc nL init ret R Qo w) {j : Int32} {N idx : Nat} (hcl : Cond.classLink own idx "java/lang/Object" ∈ lw_tbl) (h0 : ¬ j < 0) (hN : j.toNatClampNeg = N) (hs : N ≤ 1000000) (hk : 1 ≤ k) (hn : N ≤ n) (hdg : decode cc pc = .ok (.anewarray idx, 3)) (kk : w (k - 1) (n - N) (m.newA 23 N) (pc + 3) lv (va_rf (some m.nx) :: rest)) : w k n m pc lv (.int j :: rest) := by
  subst hN
  obtain ⟨p, e, s, mm, args, below, meth, cd, Q, hx, hb, hml, hown, hlocks, hret, hini, hK, hQ, rfl⟩ := X
  intro hk0 hn0 H locs ls hH hL hl
  refine W.anew hx hb hown (hK.w hcl rfl _) (va_AO.use hK.2.2.2.2.2.1.1) rfl hdg rfl h0 (by omega) (by omega) (by omega) fun cA kA comp f1 f2 f3 f4 => ?_
  have hcA : cA = G.Y.2.2.2 := by
    obtain ⟨kA', comp', g1, g2, g3, g4⟩ := (hK.1.2 3 _ rfl).2
    exact Option.some.inj (f1.symm.trans g4)
  subst hcA
  have hz := hH.1
  refine W.widen (k := R.cells - (k - 1)) (n := R.slots - (n - j.toNatClampNeg)) (by omega) (by omega) ?_
  rw [hz]
  generalize hH1 : H.push ({ cls := G.Y.2.2.2, slots := Array.replicate j.toNatClampNeg .null, vm := .none } : Cell) = H1
  have z1 : H1.size = H.size + 1 := by rw [← hH1, Array.size_push]
  have e1 : H1[m.nx]? = some (arrV G.Y.2.2.2 j.toNatClampNeg (fun _ => .null)) := by rw [← hH1, ← hz, Array.getElem?_push_size, ← arrV_new]
  have o1 : ∀ q : Nat, q < H.size → H1[q]? = H[q]? := fun q hq => by rw [← hH1, Array.getElem?_push, if_neg (Nat.ne_of_lt hq)]
  refine kk (by omega) (by omega) H1 locs ls (hH.new z1 o1 rfl (fun b hb => by rw [sp_newA_ty, if_neg hb]) (fun b hb => by rw [sp_newA_ln, if_neg hb]) (fun b hb => by funext i; rw [sp_newA_aI, if_neg hb]) (fun b hb => sp_e_newA hb) (by rw [sp_newA_ty, if_pos rfl]; omega) ?_) hL hl
  rw [sp_e_arrR (m := m.newA 23 j.toNatClampNeg) (by rw [sp_newA_ty, if_pos rfl])]
  show H1[m.nx]? = some (vp_cell _ _)
  rw [e1, vp_cell_q, sp_newA_ln, if_pos rfl]
  congr 2
  funext i
  rw [sp_newA_aR, if_pos rfl]
  rfl
theorem sp_getstatic (X : sp_X l G own cc nL init ret R Qo w) {C nm ds : String} {idx : Nat} {v : Value} (hz : (C, nm, ds, v) ∈ G.st) (hl0 : Cond.fieldLink own idx C nm ds ∈ lw_tbl ∨ ∃ host, Cond.fieldLinkNest own idx C nm ds host ∈ lw_tbl) (hdg : decode cc pc = .ok (.getstatic idx, 3)) (kk : w k n m (pc + 3) lv (v :: rest)) : w k n m pc lv rest := by
  obtain ⟨p, e, s, mm, args, below, meth, cd, Q, hx, hb, hml, hown, hlocks, hret, hini, hK, hQ, rfl⟩ := X
  intro hk0 hn0 H locs ls hH hL hl
  have hZ := hK.2.2.2.1 _ hz
  obtain ⟨cf, kf, fi, f, a, cell, h1, h2, h3, h4, h5, h6, h7, h8⟩ := hZ
  have hlt : a < G.base := Nat.not_le.mp h8
  have hc : H[a]? = some cell := by rw [hH.2.2.1 a hlt]; exact h5
  rcases hl0 with h0 | ⟨host, h0⟩
  · exact W.gets hx hb hown (hK.w h0 rfl _) h1 h2 h3 h4 hc (fun e => by rw [e] at h6; cases h6) h7 rfl hdg (kk hk0 hn0 H locs ls hH hL hl)
  · exact va_WgetsN hx hb hown (hK.w h0 rfl _) h1 h2 h3 h4 hc (fun e => by rw [e] at h6; cases h6) h7 rfl hdg (kk hk0 hn0 H locs ls hH hL hl)
theorem sp_recv {s : State} {H : Heap} (hK : sp_K G s) (hH : sp_H G m H) {a c : Nat} (hty : m.ty a = c + 1) (hc : c < 14) : ∃ cell : Cell, H[a]? = some cell ∧ cell.vm.isStatics = false ∧ s.vm.findClass (sp_Cn c) = some cell.cls := by
  obtain ⟨hb, cell, q1, q2, q3, q4⟩ := hH.obj hty hc
  exact ⟨cell, q1, by rw [q3]; rfl, by rw [q2]; exact (hK.1.1 c _ (sp_cl_get hc)).2.1⟩
theorem sp_checkcast (X : sp_X l G own cc nL init ret R Qo w) {r : Option Nat} {a c idx : Nat} (hr : r = some a) (hty : m.ty a = c + 1) (hc : c < 14) (hcl : Cond.classLink own idx (sp_Cn c) ∈ lw_tbl) (hdg : decode cc pc = .ok (.checkcast idx, 3)) (kk : w k n m (pc + 3) lv (va_rf r :: rest)) : w k n m pc lv (va_rf r :: rest) := by
  subst hr
  obtain ⟨p, e, s, mm, args, below, meth, cd, Q, hx, hb, hml, hown, hlocks, hret, hini, hK, hQ, rfl⟩ := X
  intro hk0 hn0 H locs ls hH hL hl
  exact va_castS (cC := G.D.1 c) hx hb hown (hK.w hcl rfl _) (hK.1.1 c _ (sp_cl_get hc)).2 (sp_recv hK hH hty hc) hdg (kk hk0 hn0 H locs ls hH hL hl)
theorem sp_objInit (X : sp_X l G own cc nL init ret R Qo w) {r : Option Nat} {a idx : Nat} (hr : r = some a) (hcl : Cond.methodLink own idx Lib.objectInit ∈ lw_tbl) (h1 : Cond.instanceMethod Lib.objectInit ∈ lw_tbl) (h2 : Cond.code Lib.objectInit ⟨#[0xb1]⟩ 1 none ∈ lw_tbl) (hf : 1 ≤ R.frames) (hlo : (rest.map fun v => v.category).sum + 12 ≤ R.locals) (hdg : decode cc pc = .ok (.invokespecial idx, 3)) (kk : w k n m (pc + 3) lv rest) : w k n m pc lv (va_rf r :: rest) := by
  subst hr
  obtain ⟨p, e, s, mm, args, below, meth, cd, Q, hx, hb, hml, hown, hlocks, hret, hini, hK, hQ, rfl⟩ := X
  intro hk0 hn0 H locs ls hH hL hl
  refine W.objInit hx hb hown (hK.w hcl rfl _) (hK.w h1 rfl _) (hK.w h2 rfl _) rfl (by rw [hml]; exact hl.1.1) rfl hdg hf ?_ (kk hk0 hn0 H locs ls hH hL hl)
  show 2 * 0 + _ + 12 ≤ _
  omega
/-- a method: its name, its code, its locals, what it returns; frames and locals' words below it -/
abbrev sp_Me : Type := MethodName × ByteArray × Nat × Option FieldType × Nat × Nat
/-- a method's contract: from arguments av and a memory m, with mc cells and ms slots left -/
def sp_C (l : Launch) (G : sp_G) (Y : sp_Me) (mc ms : Nat) (av : List Value) (m : sp_M) (post : Option Value → sp_M → Prop) : Prop := Met l Y.1 [Cond.code Y.1 Y.2.1 Y.2.2.1 Y.2.2.2.1] ({ frames := Y.2.2.2.2.1, cells := mc, slots := ms, locals := Y.2.2.2.2.2 }) (va_Pc av (fun U => sp_K G U ∧ sp_H G m U.heap)) (sp_Q G post) mc ms (sp_A G)
def sp_args : Nat → List Value → sp_L
  | _, [] => []
  | i, v :: r => (i, Nat.beq v.category 2, v) :: sp_args (if v.category = 2 then i + 2 else i + 1) r
theorem sp_args_map : ∀ (av : List Value) (i : Nat), (sp_args i av).map (fun q => (q.1, q.2.2)) = lv_args i av
  | [], _ => rfl
  | v :: r, i => by
    show (i, v) :: (sp_args (if v.category = 2 then i + 2 else i + 1) r).map (fun q => (q.1, q.2.2)) = lv_args i (v :: r)
    rw [sp_args_map r, lv_args]
theorem sp_args_cat : ∀ (av : List Value) (i : Nat), ∀ q ∈ sp_args i av, (q.2.1 = true ↔ q.2.2.category = 2)
  | [], _, q, h => by cases h
  | v :: r, i, q, h => by
    rcases List.mem_cons.mp h with rfl | h
    · show Nat.beq v.category 2 = true ↔ v.category = 2
      constructor
      · exact Nat.eq_of_beq_eq_true
      · intro h; rw [h]; rfl
    · exact sp_args_cat r _ q h
theorem sp_enter {Y : sp_Me} {mc ms : Nat} {av : List Value} {post : Option Value → sp_M → Prop} {lv0 : sp_L} (own : String) (init : Bool) (hown : Y.1.cls = own) (hpl : plainName Y.1.cls = true) (hi : init = true → Y.1.name = "<init>") (hav : (lg_sl av).length ≤ Y.2.2.1) (hlv : sp_args 0 av = lv0) (body : ∀ w : sp_T, sp_X l G own Y.2.1 Y.2.2.1 init Y.2.2.2.1 ({ frames := Y.2.2.2.2.1, cells := mc, slots := ms, locals := Y.2.2.2.2.2 }) (some post) w → w mc ms m 0 lv0 []) : sp_C l G Y mc ms av m post := by
  refine Met.ofW (cc := Y.2.1) (maxL := Y.2.2.1) (ret := Y.2.2.2.1) hpl rfl ?_
  intro p e s mm args below meth c s₁ B hml hv
  obtain ⟨rfl, hK, hH⟩ := hv
  subst hown
  have hX : sp_X l G Y.1.cls Y.2.1 Y.2.2.1 init Y.2.2.2.1 ({ frames := Y.2.2.2.2.1, cells := mc, slots := ms, locals := Y.2.2.2.2.2 }) (some post) (sp_w G p l e ({ frames := Y.2.2.2.2.1, cells := mc, slots := ms, locals := Y.2.2.2.2.2 }) s mm av.toArray below meth c (MQ below (sp_Q G post) av.toArray s mc ms (sp_A G)) Y.2.2.1) :=
    ⟨p, e, s, mm, av.toArray, below, meth, c, _, B.exec, B.bytes, hml, findClass_of_methodNamed B.named, B.notSynchronized, B.returns, fun h => ((name_of_methodNamed B.named B.method).1).trans (hi h), hK, fun post' h => by cases h; rfl, rfl⟩
  have hw := body _ hX (Nat.le_refl _) (Nat.le_refl _) s.heap [] ((lg_sl av ++ List.replicate (Y.2.2.1 - (lg_sl av).length) Slot.unset).toArray) hH (fun q hq => by cases hq) (by
    subst hlv
    have := lv_entry av (n := Y.2.2.1) hav
    rw [← sp_args_map av 0] at this
    exact ⟨this, sp_args_cat av 0⟩)
  rw [lg_entry_eq]
  have e1 : ({ frames := Y.2.2.2.2.1, cells := mc, slots := ms, locals := Y.2.2.2.2.2 } : Room).cells - mc = 0 := Nat.sub_self mc
  have e2 : ({ frames := Y.2.2.2.2.1, cells := mc, slots := ms, locals := Y.2.2.2.2.2 } : Room).slots - ms = 0 := Nat.sub_self ms
  rw [e1, e2] at hw
  exact hw
/-- what the tables say of a callee -/
def sp_okB (Y : sp_Me) (np : Nat) : Prop := Cond.code Y.1 Y.2.1 Y.2.2.1 Y.2.2.2.1 ∈ lw_tbl ∧ Cond.initialized Y.1.cls ∈ lw_tbl ∧ (Y.1.cls ≠ "java/lang/invoke/MethodHandle" ∧ Y.1.cls ≠ "java/lang/invoke/VarHandle") ∧ (parseMethodDescriptor Y.1.desc).map (fun d => d.parameters.length) = some np
def sp_okV (Y : sp_Me) (np : Nat) : Prop := sp_okB Y np ∧ Cond.instanceMethod Y.1 ∈ lw_tbl ∧ Cond.selects Y.1.cls Y.1 Y.1 ∈ lw_tbl
def sp_okS (Y : sp_Me) (np : Nat) : Prop := sp_okB Y np ∧ Cond.static Y.1 ∈ lw_tbl
def sp_okI (Y : sp_Me) (np : Nat) : Prop := sp_okB Y np ∧ Y.1.name = "<init>" ∧ Cond.instanceMethod Y.1 ∈ lw_tbl
theorem sp_callB {s : State} {args : Array Value} {Y : sp_Me} {mc ms np idx : Nat} (hK : sp_K G s) (ho : sp_okB Y np) (hl : Cond.methodLink own idx Y.1 ∈ lw_tbl) (hf : Y.2.2.2.2.1 + 1 ≤ R.frames) (hlo : 8 + (Y.2.2.1 + 11) + Y.2.2.2.2.2 ≤ R.locals) : CallB R s args own idx Y.1 Y.2.1 Y.2.2.1 Y.2.2.2.1 [Cond.code Y.1 Y.2.1 Y.2.2.1 Y.2.2.2.1] ({ frames := Y.2.2.2.2.1, cells := mc, slots := ms, locals := Y.2.2.2.2.2 }) mc ms np := by
  refine ⟨rfl, rfl, hf, hlo, fun w hw a' U hW => ?_, List.mem_cons_self, hK.w ho.1 rfl _, hK.w ho.2.1 rfl _, ho.2.2.1, fun sig h => ?_, hK.w hl rfl _⟩
  · rw [List.mem_singleton.mp hw]
    exact (hK.moved hW).w ho.1 rfl _
  · have h2 := ho.2.2.2
    rw [h] at h2
    exact (Option.some.inj h2).symm
theorem sp_blind {av : List Value} : FrameBlind (va_Pc av (fun U => sp_K G U ∧ sp_H G m U.heap)) := fun a U g mk h => ⟨h.1, sp_K.moved (sp_WH_rf (U := U) (U' := U.calling g mk a) rfl) h.2.1, h.2.2⟩
theorem sp_after (X : sp_X l G own cc nL init ret R Qo w) {Y : sp_Me} {mc ms : Nat} {st0 av : List Value} {post : Option Value → sp_M → Prop} (hk : mc ≤ k) (hn : ms ≤ n) (kk : ∀ r m', post r m' → w (k - mc) (n - ms) m' (pc + 3) lv (r.toList ++ rest))
    (run : ∀ (p : Program) (e : Env) (s : State) (mm : MethodId) (args : Array Value) (below : List Frame) (meth : Method) (cd : Code) (H : Heap) (locs : List Loc) (ls : Array Slot), p.tables.exec = Jvm.exec → cd.code = cc → cd.maxLocals = nL → s.vm.findClass own = some mm.cls → sp_K G s → sp_H G m H → sp_lv ls nL lv → k ≤ R.cells → n ≤ R.slots → va_Run p l e R s mm args below meth cd H locs (R.cells - k) (R.slots - n) mc ms (F0 mm pc ls st0) rest (sp_Q G post av.toArray) (sp_A G)) : w k n m pc lv st0 := by
  obtain ⟨p, e, s, mm, args, below, meth, cd, Q, hx, hb, hml, hown, hlocks, hret, hini, hK, hQ, rfl⟩ := X
  intro hk0 hn0 H locs ls hH hL hl
  have hr := run p e s mm args below meth cd H locs ls hx hb hml hown hK hH hl hk0 hn0
  intro T hT Xs
  obtain ⟨v, st₀, t, T', L, h0, X', hL', e1, e2, ⟨r, m', hv, hH', hp⟩, st⟩ := hr T hT Xs
  cases hv
  obtain ⟨t2, a1, b1⟩ := (W.widen (k := R.cells - (k - mc)) (n := R.slots - (n - ms)) (by omega) (by omega) (kk v m' hp (by omega) (by omega) T'.heap (locs ++ L) ls (by rw [e1]; exact hH') (fun q hq => by
    rcases List.mem_append.mp hq with h | h
    · exact hL q h
    · exact hL' q h) hl)) T' rfl X'
  exact ⟨t2, st t2 a1, b1⟩
theorem sp_callV (X : sp_X l G own cc nL init ret R Qo w) {Y : sp_Me} {mc ms np idx b c : Nat} {r : Option Nat} {As st0 : List Value} {post : Option Value → sp_M → Prop} (hC : sp_C l G Y mc ms (.ref b :: As) m post) (ho : sp_okV Y np) (hr : r = some b) (hty : m.ty b = c + 1) (hc : c < 14) (hcn : sp_Cn c = Y.1.cls) (hl : Cond.methodLink own idx Y.1 ∈ lw_tbl) (hnp : As.length = np) (hst : st0 = As.reverse ++ va_rf r :: rest) (hcat : (rest.map fun v => v.category).sum ≤ 8) (hf : Y.2.2.2.2.1 + 1 ≤ R.frames) (hlo : 8 + (Y.2.2.1 + 11) + Y.2.2.2.2.2 ≤ R.locals) (hk : mc ≤ k) (hn : ms ≤ n) (hdg : decode cc pc = .ok (.invokevirtual idx, 3)) (kk : ∀ r m', post r m' → w (k - mc) (n - ms) m' (pc + 3) lv (r.toList ++ rest)) : w k n m pc lv st0 := by
  subst hr
  subst hst
  refine sp_after (av := .ref b :: As) (post := post) (Y := Y) X hk hn kk ?_
  intro p e s mm args below meth cd H locs ls hx hb hml hown hK hH hlv hk0 hn0
  refine va_runV (Ts := []) ⟨hx, hb, hml, hown, fun w hw => by cases hw⟩ hC ⟨sp_callB hK ho.1 hl hf hlo, hK.w ho.2.1 rfl _, hK.w ho.2.2 rfl _⟩ ⟨sp_blind, ?_, fun U hU hW => ⟨rfl, hK.moved hW, by rw [hU]; exact hH⟩⟩ rfl hnp hlv.1.1 rfl ?_ hdg ⟨by omega, by omega⟩
  · rw [← hcn]
    exact sp_recv hK hH hty hc
  · show 2 * 0 + _ ≤ 8
    omega
theorem sp_callS (X : sp_X l G own cc nL init ret R Qo w) {Y : sp_Me} {mc ms np idx : Nat} {As st0 : List Value} {post : Option Value → sp_M → Prop} (hC : sp_C l G Y mc ms As m post) (ho : sp_okS Y np) (hl : Cond.methodLink own idx Y.1 ∈ lw_tbl) (hnp : As.length = np) (hst : st0 = As.reverse ++ rest) (hcat : (rest.map fun v => v.category).sum ≤ 8) (hf : Y.2.2.2.2.1 + 1 ≤ R.frames) (hlo : 8 + (Y.2.2.1 + 11) + Y.2.2.2.2.2 ≤ R.locals) (hk : mc ≤ k) (hn : ms ≤ n) (hdg : decode cc pc = .ok (.invokestatic idx, 3)) (kk : ∀ r m', post r m' → w (k - mc) (n - ms) m' (pc + 3) lv (r.toList ++ rest)) : w k n m pc lv st0 := by
  subst hst
  refine sp_after (av := As) (post := post) (Y := Y) X hk hn kk ?_
  intro p e s mm args below meth cd H locs ls hx hb hml hown hK hH hlv hk0 hn0
  refine va_runS (Ts := []) ⟨hx, hb, hml, hown, fun w hw => by cases hw⟩ hC ⟨sp_callB hK ho.1 hl hf hlo, hK.w ho.2 rfl _⟩ ⟨sp_blind, fun U hU hW => ⟨rfl, hK.moved hW, by rw [hU]; exact hH⟩⟩ rfl hnp hlv.1.1 rfl ?_ hdg ⟨by omega, by omega⟩
  show 2 * 0 + _ ≤ 8
  omega
theorem sp_callI (X : sp_X l G own cc nL init ret R Qo w) {Y : sp_Me} {mc ms np idx b : Nat} {r : Option Nat} {As st0 : List Value} {post : Option Value → sp_M → Prop} (hC : sp_C l G Y mc ms (.ref b :: As) m post) (ho : sp_okI Y np) (hrt : Y.2.2.2.1 = none) (hr : r = some b) (hl : Cond.methodLink own idx Y.1 ∈ lw_tbl) (hnp : As.length = np) (hst : st0 = As.reverse ++ va_rf r :: rest) (hcat : (rest.map fun v => v.category).sum ≤ 8) (hf : Y.2.2.2.2.1 + 1 ≤ R.frames) (hlo : 8 + (Y.2.2.1 + 11) + Y.2.2.2.2.2 ≤ R.locals) (hk : mc ≤ k) (hn : ms ≤ n) (hdg : decode cc pc = .ok (.invokespecial idx, 3)) (kk : ∀ r m', post r m' → w (k - mc) (n - ms) m' (pc + 3) lv (r.toList ++ rest)) : w k n m pc lv st0 := by
  subst hr
  subst hst
  refine sp_after (av := .ref b :: As) (post := post) (Y := Y) X hk hn kk ?_
  intro p e s mm args below meth cd H locs ls hx hb hml hown hK hH hlv hk0 hn0
  have hB : CallB R s args own idx Y.1 Y.2.1 Y.2.2.1 none [Cond.code Y.1 Y.2.1 Y.2.2.1 Y.2.2.2.1] ({ frames := Y.2.2.2.2.1, cells := mc, slots := ms, locals := Y.2.2.2.2.2 }) mc ms np := by
    have h9 := sp_callB (R := R) (s := s) (args := args) (mc := mc) (ms := ms) hK ho.1 hl hf hlo
    rw [hrt] at h9 ⊢
    exact h9
  refine va_runI (Ts := []) ⟨hx, hb, hml, hown, fun w hw => by cases hw⟩ hC ⟨hB, ho.2.1, hK.w ho.2.2 rfl _⟩ ⟨sp_blind, fun U hU hW => ⟨rfl, hK.moved hW, by rw [hU]; exact hH⟩⟩ rfl hnp hlv.1.1 rfl ?_ hdg ⟨by omega, by omega⟩
  show 2 * 0 + _ ≤ 8
  omega
end SPC
end
section
/-! WORDS: methods, what the tables say of them, links -/
abbrev M_Body_init : sp_Me := (yX0_init, cX0_init, 5, (Option.none : Option Jvm.ClassFile.FieldType), 1, 14)
theorem ok_Body_init : sp_okI M_Body_init 3 := ⟨⟨List.mem_of_getElem? (i := 174) (by decide +kernel), List.mem_of_getElem? (i := 64) (by decide +kernel), ⟨by decide, by decide⟩, by decide +kernel⟩, rfl, List.mem_of_getElem? (i := 173) (by decide +kernel)⟩
abbrev M_Draft_init : sp_Me := (yX1_init, cX1_init, 1, (Option.none : Option Jvm.ClassFile.FieldType), 1, 14)
theorem ok_Draft_init : sp_okI M_Draft_init 0 := ⟨⟨List.mem_of_getElem? (i := 125) (by decide +kernel), List.mem_of_getElem? (i := 59) (by decide +kernel), ⟨by decide, by decide⟩, by decide +kernel⟩, rfl, List.mem_of_getElem? (i := 124) (by decide +kernel)⟩
abbrev M_Draft_append : sp_Me := (yX1_append, cX1_append, 2, (Option.some Jvm.ClassFile.FieldType.int), 0, 0)
theorem ok_Draft_append : sp_okV M_Draft_append 1 := ⟨⟨List.mem_of_getElem? (i := 465) (by decide +kernel), List.mem_of_getElem? (i := 59) (by decide +kernel), ⟨by decide, by decide⟩, by decide +kernel⟩, List.mem_of_getElem? (i := 463) (by decide +kernel), List.mem_of_getElem? (i := 464) (by decide +kernel)⟩
abbrev M_Draft_clear : sp_Me := (yX1_clear, cX1_clear, 1, (Option.none : Option Jvm.ClassFile.FieldType), 0, 0)
theorem ok_Draft_clear : sp_okV M_Draft_clear 0 := ⟨⟨List.mem_of_getElem? (i := 700) (by decide +kernel), List.mem_of_getElem? (i := 59) (by decide +kernel), ⟨by decide, by decide⟩, by decide +kernel⟩, List.mem_of_getElem? (i := 698) (by decide +kernel), List.mem_of_getElem? (i := 699) (by decide +kernel)⟩
abbrev M_Draft_length : sp_Me := (yX1_length, cX1_length, 1, (Option.some Jvm.ClassFile.FieldType.int), 0, 0)
theorem ok_Draft_length : sp_okV M_Draft_length 0 := ⟨⟨List.mem_of_getElem? (i := 749) (by decide +kernel), List.mem_of_getElem? (i := 59) (by decide +kernel), ⟨by decide, by decide⟩, by decide +kernel⟩, List.mem_of_getElem? (i := 747) (by decide +kernel), List.mem_of_getElem? (i := 748) (by decide +kernel)⟩
abbrev M_Draft_beginsWithDivider : sp_Me := (yX1_beginsWithDivider, cX1_beginsWithDivider, 2, (Option.some Jvm.ClassFile.FieldType.boolean), 1, 21)
theorem ok_Draft_beginsWithDivider : sp_okV M_Draft_beginsWithDivider 1 := ⟨⟨List.mem_of_getElem? (i := 502) (by decide +kernel), List.mem_of_getElem? (i := 59) (by decide +kernel), ⟨by decide, by decide⟩, by decide +kernel⟩, List.mem_of_getElem? (i := 500) (by decide +kernel), List.mem_of_getElem? (i := 501) (by decide +kernel)⟩
abbrev M_Draft_beginsWithDrive : sp_Me := (yX1_beginsWithDrive, cX1_beginsWithDrive, 2, (Option.some Jvm.ClassFile.FieldType.boolean), 0, 0)
theorem ok_Draft_beginsWithDrive : sp_okV M_Draft_beginsWithDrive 0 := ⟨⟨List.mem_of_getElem? (i := 506) (by decide +kernel), List.mem_of_getElem? (i := 59) (by decide +kernel), ⟨by decide, by decide⟩, by decide +kernel⟩, List.mem_of_getElem? (i := 504) (by decide +kernel), List.mem_of_getElem? (i := 505) (by decide +kernel)⟩
abbrev M_Draft_cut : sp_Me := (yX1_cut, cX1_cut, 5, (Option.some (Jvm.ClassFile.FieldType.object "java/util/ArrayList")), 8, 195)
theorem ok_Draft_cut : sp_okV M_Draft_cut 1 := ⟨⟨List.mem_of_getElem? (i := 473) (by decide +kernel), List.mem_of_getElem? (i := 59) (by decide +kernel), ⟨by decide, by decide⟩, by decide +kernel⟩, List.mem_of_getElem? (i := 471) (by decide +kernel), List.mem_of_getElem? (i := 472) (by decide +kernel)⟩
abbrev M_Draft_addUnlessPassedOver : sp_Me := (yX1_addUnlessPassedOver, cX1_addUnlessPassedOver, 5, (Option.none : Option Jvm.ClassFile.FieldType), 7, 171)
theorem ok_Draft_addUnlessPassedOver : sp_okV M_Draft_addUnlessPassedOver 3 := ⟨⟨List.mem_of_getElem? (i := 483) (by decide +kernel), List.mem_of_getElem? (i := 59) (by decide +kernel), ⟨by decide, by decide⟩, by decide +kernel⟩, List.mem_of_getElem? (i := 482) (by decide +kernel), List.mem_of_getElem? (i := 3) (by decide +kernel)⟩
abbrev M_Entry_init : sp_Me := (yX2_init, cX2_init, 7, (Option.none : Option Jvm.ClassFile.FieldType), 1, 14)
theorem ok_Entry_init : sp_okI M_Entry_init 5 := ⟨⟨List.mem_of_getElem? (i := 763) (by decide +kernel), List.mem_of_getElem? (i := 81) (by decide +kernel), ⟨by decide, by decide⟩, by decide +kernel⟩, rfl, List.mem_of_getElem? (i := 762) (by decide +kernel)⟩
abbrev M_Name_init : sp_Me := (yX3_init, cX3_init, 8, (Option.none : Option Jvm.ClassFile.FieldType), 1, 21)
theorem ok_Name_init : sp_okI M_Name_init 3 := ⟨⟨List.mem_of_getElem? (i := 197) (by decide +kernel), List.mem_of_getElem? (i := 66) (by decide +kernel), ⟨by decide, by decide⟩, by decide +kernel⟩, rfl, List.mem_of_getElem? (i := 196) (by decide +kernel)⟩
abbrev M_Name_smallLetter : sp_Me := (yX3_smallLetter, cX3_smallLetter, 1, (Option.some Jvm.ClassFile.FieldType.int), 0, 0)
theorem ok_Name_smallLetter : sp_okS M_Name_smallLetter 1 := ⟨⟨List.mem_of_getElem? (i := 207) (by decide +kernel), List.mem_of_getElem? (i := 66) (by decide +kernel), ⟨by decide, by decide⟩, by decide +kernel⟩, List.mem_of_getElem? (i := 206) (by decide +kernel)⟩
abbrev M_Name_length : sp_Me := (yX3_length, cX3_length, 1, (Option.some Jvm.ClassFile.FieldType.int), 0, 0)
theorem ok_Name_length : sp_okV M_Name_length 0 := ⟨⟨List.mem_of_getElem? (i := 1019) (by decide +kernel), List.mem_of_getElem? (i := 66) (by decide +kernel), ⟨by decide, by decide⟩, by decide +kernel⟩, List.mem_of_getElem? (i := 1017) (by decide +kernel), List.mem_of_getElem? (i := 1018) (by decide +kernel)⟩
abbrev M_Name_byteAt : sp_Me := (yX3_byteAt, cX3_byteAt, 2, (Option.some Jvm.ClassFile.FieldType.int), 0, 0)
theorem ok_Name_byteAt : sp_okV M_Name_byteAt 1 := ⟨⟨List.mem_of_getElem? (i := 545) (by decide +kernel), List.mem_of_getElem? (i := 66) (by decide +kernel), ⟨by decide, by decide⟩, by decide +kernel⟩, List.mem_of_getElem? (i := 543) (by decide +kernel), List.mem_of_getElem? (i := 544) (by decide +kernel)⟩
abbrev M_Name_isSameAs : sp_Me := (yX3_isSameAs, cX3_isSameAs, 2, (Option.some Jvm.ClassFile.FieldType.boolean), 1, 22)
theorem ok_Name_isSameAs : sp_okV M_Name_isSameAs 1 := ⟨⟨List.mem_of_getElem? (i := 730) (by decide +kernel), List.mem_of_getElem? (i := 66) (by decide +kernel), ⟨by decide, by decide⟩, by decide +kernel⟩, List.mem_of_getElem? (i := 728) (by decide +kernel), List.mem_of_getElem? (i := 729) (by decide +kernel)⟩
abbrev M_Name_isAlike : sp_Me := (yX3_isAlike, cX3_isAlike, 2, (Option.some Jvm.ClassFile.FieldType.boolean), 1, 22)
theorem ok_Name_isAlike : sp_okV M_Name_isAlike 1 := ⟨⟨List.mem_of_getElem? (i := 737) (by decide +kernel), List.mem_of_getElem? (i := 66) (by decide +kernel), ⟨by decide, by decide⟩, by decide +kernel⟩, List.mem_of_getElem? (i := 735) (by decide +kernel), List.mem_of_getElem? (i := 736) (by decide +kernel)⟩
abbrev M_Name_isEqual : sp_Me := (yX3_isEqual, cX3_isEqual, 3, (Option.some Jvm.ClassFile.FieldType.boolean), 0, 0)
theorem ok_Name_isEqual : sp_okS M_Name_isEqual 2 := ⟨⟨List.mem_of_getElem? (i := 733) (by decide +kernel), List.mem_of_getElem? (i := 66) (by decide +kernel), ⟨by decide, by decide⟩, by decide +kernel⟩, List.mem_of_getElem? (i := 732) (by decide +kernel)⟩
abbrev M_Name_isStay : sp_Me := (yX3_isStay, cX3_isStay, 1, (Option.some Jvm.ClassFile.FieldType.boolean), 0, 0)
theorem ok_Name_isStay : sp_okV M_Name_isStay 0 := ⟨⟨List.mem_of_getElem? (i := 489) (by decide +kernel), List.mem_of_getElem? (i := 66) (by decide +kernel), ⟨by decide, by decide⟩, by decide +kernel⟩, List.mem_of_getElem? (i := 487) (by decide +kernel), List.mem_of_getElem? (i := 488) (by decide +kernel)⟩
abbrev M_Name_isUp : sp_Me := (yX3_isUp, cX3_isUp, 1, (Option.some Jvm.ClassFile.FieldType.boolean), 0, 0)
theorem ok_Name_isUp : sp_okV M_Name_isUp 0 := ⟨⟨List.mem_of_getElem? (i := 533) (by decide +kernel), List.mem_of_getElem? (i := 66) (by decide +kernel), ⟨by decide, by decide⟩, by decide +kernel⟩, List.mem_of_getElem? (i := 531) (by decide +kernel), List.mem_of_getElem? (i := 532) (by decide +kernel)⟩
abbrev M_Name_judge : sp_Me := (yX3_judge, cX3_judge, 2, (Option.some Jvm.ClassFile.FieldType.int), 9, 201)
theorem ok_Name_judge : sp_okV M_Name_judge 1 := ⟨⟨List.mem_of_getElem? (i := 529) (by decide +kernel), List.mem_of_getElem? (i := 66) (by decide +kernel), ⟨by decide, by decide⟩, by decide +kernel⟩, List.mem_of_getElem? (i := 527) (by decide +kernel), List.mem_of_getElem? (i := 528) (by decide +kernel)⟩
abbrev M_Name_hasControlByte : sp_Me := (yX3_hasControlByte, cX3_hasControlByte, 2, (Option.some Jvm.ClassFile.FieldType.boolean), 0, 0)
theorem ok_Name_hasControlByte : sp_okV M_Name_hasControlByte 0 := ⟨⟨List.mem_of_getElem? (i := 537) (by decide +kernel), List.mem_of_getElem? (i := 66) (by decide +kernel), ⟨by decide, by decide⟩, by decide +kernel⟩, List.mem_of_getElem? (i := 536) (by decide +kernel), List.mem_of_getElem? (i := 5) (by decide +kernel)⟩
abbrev M_Name_isOfOtherSystems : sp_Me := (yX3_isOfOtherSystems, cX3_isOfOtherSystems, 2, (Option.some Jvm.ClassFile.FieldType.boolean), 8, 180)
theorem ok_Name_isOfOtherSystems : sp_okV M_Name_isOfOtherSystems 0 := ⟨⟨List.mem_of_getElem? (i := 541) (by decide +kernel), List.mem_of_getElem? (i := 66) (by decide +kernel), ⟨by decide, by decide⟩, by decide +kernel⟩, List.mem_of_getElem? (i := 540) (by decide +kernel), List.mem_of_getElem? (i := 6) (by decide +kernel)⟩
abbrev M_Name_hasMark : sp_Me := (yX3_hasMark, cX3_hasMark, 2, (Option.some Jvm.ClassFile.FieldType.boolean), 7, 159)
theorem ok_Name_hasMark : sp_okV M_Name_hasMark 0 := ⟨⟨List.mem_of_getElem? (i := 549) (by decide +kernel), List.mem_of_getElem? (i := 66) (by decide +kernel), ⟨by decide, by decide⟩, by decide +kernel⟩, List.mem_of_getElem? (i := 548) (by decide +kernel), List.mem_of_getElem? (i := 7) (by decide +kernel)⟩
abbrev M_Name_isKeptWord : sp_Me := (yX3_isKeptWord, cX3_isKeptWord, 3, (Option.some Jvm.ClassFile.FieldType.boolean), 6, 129)
theorem ok_Name_isKeptWord : sp_okV M_Name_isKeptWord 0 := ⟨⟨List.mem_of_getElem? (i := 636) (by decide +kernel), List.mem_of_getElem? (i := 66) (by decide +kernel), ⟨by decide, by decide⟩, by decide +kernel⟩, List.mem_of_getElem? (i := 635) (by decide +kernel), List.mem_of_getElem? (i := 8) (by decide +kernel)⟩
abbrev M_Name_lengthToFirstDot : sp_Me := (yX3_lengthToFirstDot, cX3_lengthToFirstDot, 2, (Option.some Jvm.ClassFile.FieldType.int), 0, 0)
theorem ok_Name_lengthToFirstDot : sp_okV M_Name_lengthToFirstDot 0 := ⟨⟨List.mem_of_getElem? (i := 640) (by decide +kernel), List.mem_of_getElem? (i := 66) (by decide +kernel), ⟨by decide, by decide⟩, by decide +kernel⟩, List.mem_of_getElem? (i := 639) (by decide +kernel), List.mem_of_getElem? (i := 9) (by decide +kernel)⟩
abbrev M_Name_beginsWithOneOf : sp_Me := (yX3_beginsWithOneOf, cX3_beginsWithOneOf, 4, (Option.some Jvm.ClassFile.FieldType.boolean), 5, 106)
theorem ok_Name_beginsWithOneOf : sp_okV M_Name_beginsWithOneOf 1 := ⟨⟨List.mem_of_getElem? (i := 645) (by decide +kernel), List.mem_of_getElem? (i := 66) (by decide +kernel), ⟨by decide, by decide⟩, by decide +kernel⟩, List.mem_of_getElem? (i := 644) (by decide +kernel), List.mem_of_getElem? (i := 10) (by decide +kernel)⟩
abbrev M_Node_init : sp_Me := (yX4_init, cX4_init, 7, (Option.none : Option Jvm.ClassFile.FieldType), 1, 14)
theorem ok_Node_init : sp_okI M_Node_init 6 := ⟨⟨List.mem_of_getElem? (i := 217) (by decide +kernel), List.mem_of_getElem? (i := 65) (by decide +kernel), ⟨by decide, by decide⟩, by decide +kernel⟩, rfl, List.mem_of_getElem? (i := 216) (by decide +kernel)⟩
abbrev M_Node_isFolder : sp_Me := (yX4_isFolder, cX4_isFolder, 1, (Option.some Jvm.ClassFile.FieldType.boolean), 0, 0)
theorem ok_Node_isFolder : sp_okV M_Node_isFolder 0 := ⟨⟨List.mem_of_getElem? (i := 848) (by decide +kernel), List.mem_of_getElem? (i := 65) (by decide +kernel), ⟨by decide, by decide⟩, by decide +kernel⟩, List.mem_of_getElem? (i := 846) (by decide +kernel), List.mem_of_getElem? (i := 847) (by decide +kernel)⟩
abbrev M_Node_up : sp_Me := (yX4_up, cX4_up, 1, (Option.some (Jvm.ClassFile.FieldType.object "SafePaths$Node")), 0, 0)
theorem ok_Node_up : sp_okV M_Node_up 0 := ⟨⟨List.mem_of_getElem? (i := 821) (by decide +kernel), List.mem_of_getElem? (i := 65) (by decide +kernel), ⟨by decide, by decide⟩, by decide +kernel⟩, List.mem_of_getElem? (i := 819) (by decide +kernel), List.mem_of_getElem? (i := 820) (by decide +kernel)⟩
abbrev M_Node_state : sp_Me := (yX4_state, cX4_state, 1, (Option.some Jvm.ClassFile.FieldType.int), 0, 0)
theorem ok_Node_state : sp_okV M_Node_state 0 := ⟨⟨List.mem_of_getElem? (i := 974) (by decide +kernel), List.mem_of_getElem? (i := 65) (by decide +kernel), ⟨by decide, by decide⟩, by decide +kernel⟩, List.mem_of_getElem? (i := 972) (by decide +kernel), List.mem_of_getElem? (i := 973) (by decide +kernel)⟩
abbrev M_Note_init : sp_Me := (yX5_init, cX5_init, 3, (Option.none : Option Jvm.ClassFile.FieldType), 1, 14)
theorem ok_Note_init : sp_okI M_Note_init 2 := ⟨⟨List.mem_of_getElem? (i := 941) (by decide +kernel), List.mem_of_getElem? (i := 82) (by decide +kernel), ⟨by decide, by decide⟩, by decide +kernel⟩, rfl, List.mem_of_getElem? (i := 940) (by decide +kernel)⟩
abbrev M_Parted_init : sp_Me := (yX6_init, cX6_init, 4, (Option.none : Option Jvm.ClassFile.FieldType), 2, 48)
theorem ok_Parted_init : sp_okI M_Parted_init 3 := ⟨⟨List.mem_of_getElem? (i := 675) (by decide +kernel), List.mem_of_getElem? (i := 80) (by decide +kernel), ⟨by decide, by decide⟩, by decide +kernel⟩, rfl, List.mem_of_getElem? (i := 674) (by decide +kernel)⟩
abbrev M_Parted_count : sp_Me := (yX6_count, cX6_count, 1, (Option.some Jvm.ClassFile.FieldType.int), 1, 20)
theorem ok_Parted_count : sp_okV M_Parted_count 0 := ⟨⟨List.mem_of_getElem? (i := 722) (by decide +kernel), List.mem_of_getElem? (i := 80) (by decide +kernel), ⟨by decide, by decide⟩, by decide +kernel⟩, List.mem_of_getElem? (i := 720) (by decide +kernel), List.mem_of_getElem? (i := 721) (by decide +kernel)⟩
abbrev M_Parted_at : sp_Me := (yX6_at, cX6_at, 2, (Option.some (Jvm.ClassFile.FieldType.object "SafePaths$Name")), 3, 64)
theorem ok_Parted_at : sp_okV M_Parted_at 1 := ⟨⟨List.mem_of_getElem? (i := 711) (by decide +kernel), List.mem_of_getElem? (i := 80) (by decide +kernel), ⟨by decide, by decide⟩, by decide +kernel⟩, List.mem_of_getElem? (i := 709) (by decide +kernel), List.mem_of_getElem? (i := 710) (by decide +kernel)⟩
abbrev M_Rules_init : sp_Me := (yX7_init, cX7_init, 2, (Option.none : Option Jvm.ClassFile.FieldType), 1, 14)
theorem ok_Rules_init : sp_okI M_Rules_init 1 := ⟨⟨List.mem_of_getElem? (i := 95) (by decide +kernel), List.mem_of_getElem? (i := 58) (by decide +kernel), ⟨by decide, by decide⟩, by decide +kernel⟩, rfl, List.mem_of_getElem? (i := 94) (by decide +kernel)⟩
abbrev M_Rules_divides : sp_Me := (yX7_divides, cX7_divides, 2, (Option.some Jvm.ClassFile.FieldType.boolean), 0, 0)
theorem ok_Rules_divides : sp_okV M_Rules_divides 1 := ⟨⟨List.mem_of_getElem? (i := 479) (by decide +kernel), List.mem_of_getElem? (i := 58) (by decide +kernel), ⟨by decide, by decide⟩, by decide +kernel⟩, List.mem_of_getElem? (i := 477) (by decide +kernel), List.mem_of_getElem? (i := 478) (by decide +kernel)⟩
abbrev M_Rules_takeAsOne : sp_Me := (yX7_takeAsOne, cX7_takeAsOne, 3, (Option.some Jvm.ClassFile.FieldType.boolean), 2, 43)
theorem ok_Rules_takeAsOne : sp_okV M_Rules_takeAsOne 2 := ⟨⟨List.mem_of_getElem? (i := 726) (by decide +kernel), List.mem_of_getElem? (i := 58) (by decide +kernel), ⟨by decide, by decide⟩, by decide +kernel⟩, List.mem_of_getElem? (i := 724) (by decide +kernel), List.mem_of_getElem? (i := 725) (by decide +kernel)⟩
abbrev M_Taking_init : sp_Me := (yX8_init, cX8_init, 4, (Option.none : Option Jvm.ClassFile.FieldType), 4, 74)
theorem ok_Taking_init : sp_okI M_Taking_init 3 := ⟨⟨List.mem_of_getElem? (i := 380) (by decide +kernel), List.mem_of_getElem? (i := 72) (by decide +kernel), ⟨by decide, by decide⟩, by decide +kernel⟩, rfl, List.mem_of_getElem? (i := 379) (by decide +kernel)⟩
abbrev M_Taking_changeNodeLimit : sp_Me := (yX8_changeNodeLimit, cX8_changeNodeLimit, 5, (Option.some Jvm.ClassFile.FieldType.long), 0, 0)
theorem ok_Taking_changeNodeLimit : sp_okV M_Taking_changeNodeLimit 1 := ⟨⟨List.mem_of_getElem? (i := 983) (by decide +kernel), List.mem_of_getElem? (i := 72) (by decide +kernel), ⟨by decide, by decide⟩, by decide +kernel⟩, List.mem_of_getElem? (i := 981) (by decide +kernel), List.mem_of_getElem? (i := 982) (by decide +kernel)⟩
abbrev M_Taking_changeSizeLimit : sp_Me := (yX8_changeSizeLimit, cX8_changeSizeLimit, 5, (Option.some Jvm.ClassFile.FieldType.long), 0, 0)
theorem ok_Taking_changeSizeLimit : sp_okV M_Taking_changeSizeLimit 1 := ⟨⟨List.mem_of_getElem? (i := 987) (by decide +kernel), List.mem_of_getElem? (i := 72) (by decide +kernel), ⟨by decide, by decide⟩, by decide +kernel⟩, List.mem_of_getElem? (i := 985) (by decide +kernel), List.mem_of_getElem? (i := 986) (by decide +kernel)⟩
abbrev M_Taking_notedCount : sp_Me := (yX8_notedCount, cX8_notedCount, 1, (Option.some Jvm.ClassFile.FieldType.int), 1, 20)
theorem ok_Taking_notedCount : sp_okV M_Taking_notedCount 0 := ⟨⟨List.mem_of_getElem? (i := 1061) (by decide +kernel), List.mem_of_getElem? (i := 72) (by decide +kernel), ⟨by decide, by decide⟩, by decide +kernel⟩, List.mem_of_getElem? (i := 1059) (by decide +kernel), List.mem_of_getElem? (i := 1060) (by decide +kernel)⟩
abbrev M_Taking_setNotedRights : sp_Me := (yX8_setNotedRights, cX8_setNotedRights, 3, (Option.none : Option Jvm.ClassFile.FieldType), 3, 64)
theorem ok_Taking_setNotedRights : sp_okV M_Taking_setNotedRights 0 := ⟨⟨List.mem_of_getElem? (i := 964) (by decide +kernel), List.mem_of_getElem? (i := 72) (by decide +kernel), ⟨by decide, by decide⟩, by decide +kernel⟩, List.mem_of_getElem? (i := 962) (by decide +kernel), List.mem_of_getElem? (i := 963) (by decide +kernel)⟩
abbrev M_Taking_judge : sp_Me := (yX8_judge, cX8_judge, 3, (Option.some Jvm.ClassFile.FieldType.int), 11, 262)
theorem ok_Taking_judge : sp_okV M_Taking_judge 1 := ⟨⟨List.mem_of_getElem? (i := 793) (by decide +kernel), List.mem_of_getElem? (i := 72) (by decide +kernel), ⟨by decide, by decide⟩, by decide +kernel⟩, List.mem_of_getElem? (i := 791) (by decide +kernel), List.mem_of_getElem? (i := 792) (by decide +kernel)⟩
abbrev M_Taking_forgetLastJudgement : sp_Me := (yX8_forgetLastJudgement, cX8_forgetLastJudgement, 1, (Option.none : Option Jvm.ClassFile.FieldType), 0, 0)
theorem ok_Taking_forgetLastJudgement : sp_okV M_Taking_forgetLastJudgement 0 := ⟨⟨List.mem_of_getElem? (i := 797) (by decide +kernel), List.mem_of_getElem? (i := 72) (by decide +kernel), ⟨by decide, by decide⟩, by decide +kernel⟩, List.mem_of_getElem? (i := 796) (by decide +kernel), List.mem_of_getElem? (i := 13) (by decide +kernel)⟩
abbrev M_Taking_judgeWay : sp_Me := (yX8_judgeWay, cX8_judgeWay, 4, (Option.some Jvm.ClassFile.FieldType.int), 6, 132)
theorem ok_Taking_judgeWay : sp_okV M_Taking_judgeWay 1 := ⟨⟨List.mem_of_getElem? (i := 801) (by decide +kernel), List.mem_of_getElem? (i := 72) (by decide +kernel), ⟨by decide, by decide⟩, by decide +kernel⟩, List.mem_of_getElem? (i := 800) (by decide +kernel), List.mem_of_getElem? (i := 14) (by decide +kernel)⟩
abbrev M_Taking_judgeWayPart : sp_Me := (yX8_judgeWayPart, cX8_judgeWayPart, 3, (Option.some Jvm.ClassFile.FieldType.int), 5, 110)
theorem ok_Taking_judgeWayPart : sp_okV M_Taking_judgeWayPart 1 := ⟨⟨List.mem_of_getElem? (i := 807) (by decide +kernel), List.mem_of_getElem? (i := 72) (by decide +kernel), ⟨by decide, by decide⟩, by decide +kernel⟩, List.mem_of_getElem? (i := 806) (by decide +kernel), List.mem_of_getElem? (i := 15) (by decide +kernel)⟩
abbrev M_Taking_nextBy : sp_Me := (yX8_nextBy, cX8_nextBy, 2, (Option.some (Jvm.ClassFile.FieldType.object "SafePaths$Node")), 4, 89)
theorem ok_Taking_nextBy : sp_okV M_Taking_nextBy 1 := ⟨⟨List.mem_of_getElem? (i := 811) (by decide +kernel), List.mem_of_getElem? (i := 72) (by decide +kernel), ⟨by decide, by decide⟩, by decide +kernel⟩, List.mem_of_getElem? (i := 810) (by decide +kernel), List.mem_of_getElem? (i := 16) (by decide +kernel)⟩
abbrev M_Taking_judgeLack : sp_Me := (yX8_judgeLack, cX8_judgeLack, 1, (Option.some Jvm.ClassFile.FieldType.int), 1, 20)
theorem ok_Taking_judgeLack : sp_okV M_Taking_judgeLack 0 := ⟨⟨List.mem_of_getElem? (i := 827) (by decide +kernel), List.mem_of_getElem? (i := 72) (by decide +kernel), ⟨by decide, by decide⟩, by decide +kernel⟩, List.mem_of_getElem? (i := 826) (by decide +kernel), List.mem_of_getElem? (i := 17) (by decide +kernel)⟩
abbrev M_Taking_isShut : sp_Me := (yX8_isShut, cX8_isShut, 1, (Option.some Jvm.ClassFile.FieldType.boolean), 0, 0)
theorem ok_Taking_isShut : sp_okV M_Taking_isShut 0 := ⟨⟨List.mem_of_getElem? (i := 831) (by decide +kernel), List.mem_of_getElem? (i := 72) (by decide +kernel), ⟨by decide, by decide⟩, by decide +kernel⟩, List.mem_of_getElem? (i := 830) (by decide +kernel), List.mem_of_getElem? (i := 18) (by decide +kernel)⟩
abbrev M_Taking_isRefusedMeeting : sp_Me := (yX8_isRefusedMeeting, cX8_isRefusedMeeting, 3, (Option.some Jvm.ClassFile.FieldType.boolean), 2, 43)
theorem ok_Taking_isRefusedMeeting : sp_okV M_Taking_isRefusedMeeting 2 := ⟨⟨List.mem_of_getElem? (i := 835) (by decide +kernel), List.mem_of_getElem? (i := 72) (by decide +kernel), ⟨by decide, by decide⟩, by decide +kernel⟩, List.mem_of_getElem? (i := 834) (by decide +kernel), List.mem_of_getElem? (i := 19) (by decide +kernel)⟩
abbrev M_Taking_judgeLast : sp_Me := (yX8_judgeLast, cX8_judgeLast, 2, (Option.some Jvm.ClassFile.FieldType.int), 5, 110)
theorem ok_Taking_judgeLast : sp_okV M_Taking_judgeLast 1 := ⟨⟨List.mem_of_getElem? (i := 840) (by decide +kernel), List.mem_of_getElem? (i := 72) (by decide +kernel), ⟨by decide, by decide⟩, by decide +kernel⟩, List.mem_of_getElem? (i := 839) (by decide +kernel), List.mem_of_getElem? (i := 20) (by decide +kernel)⟩
abbrev M_Taking_judgeKind : sp_Me := (yX8_judgeKind, cX8_judgeKind, 2, (Option.some Jvm.ClassFile.FieldType.int), 10, 241)
theorem ok_Taking_judgeKind : sp_okV M_Taking_judgeKind 1 := ⟨⟨List.mem_of_getElem? (i := 844) (by decide +kernel), List.mem_of_getElem? (i := 72) (by decide +kernel), ⟨by decide, by decide⟩, by decide +kernel⟩, List.mem_of_getElem? (i := 843) (by decide +kernel), List.mem_of_getElem? (i := 21) (by decide +kernel)⟩
abbrev M_Taking_isPlaceTaken : sp_Me := (yX8_isPlaceTaken, cX8_isPlaceTaken, 2, (Option.some Jvm.ClassFile.FieldType.boolean), 1, 20)
theorem ok_Taking_isPlaceTaken : sp_okV M_Taking_isPlaceTaken 1 := ⟨⟨List.mem_of_getElem? (i := 852) (by decide +kernel), List.mem_of_getElem? (i := 72) (by decide +kernel), ⟨by decide, by decide⟩, by decide +kernel⟩, List.mem_of_getElem? (i := 851) (by decide +kernel), List.mem_of_getElem? (i := 22) (by decide +kernel)⟩
abbrev M_Taking_judgeSharing : sp_Me := (yX8_judgeSharing, cX8_judgeSharing, 3, (Option.some Jvm.ClassFile.FieldType.int), 5, 114)
theorem ok_Taking_judgeSharing : sp_okV M_Taking_judgeSharing 1 := ⟨⟨List.mem_of_getElem? (i := 899) (by decide +kernel), List.mem_of_getElem? (i := 72) (by decide +kernel), ⟨by decide, by decide⟩, by decide +kernel⟩, List.mem_of_getElem? (i := 898) (by decide +kernel), List.mem_of_getElem? (i := 27) (by decide +kernel)⟩
abbrev M_Taking_judgeLimits : sp_Me := (yX8_judgeLimits, cX8_judgeLimits, 3, (Option.some Jvm.ClassFile.FieldType.int), 2, 40)
theorem ok_Taking_judgeLimits : sp_okV M_Taking_judgeLimits 1 := ⟨⟨List.mem_of_getElem? (i := 911) (by decide +kernel), List.mem_of_getElem? (i := 72) (by decide +kernel), ⟨by decide, by decide⟩, by decide +kernel⟩, List.mem_of_getElem? (i := 910) (by decide +kernel), List.mem_of_getElem? (i := 28) (by decide +kernel)⟩
abbrev M_Taking_carryOut : sp_Me := (yX8_carryOut, cX8_carryOut, 3, (Option.some Jvm.ClassFile.FieldType.int), 10, 240)
theorem ok_Taking_carryOut : sp_okV M_Taking_carryOut 1 := ⟨⟨List.mem_of_getElem? (i := 919) (by decide +kernel), List.mem_of_getElem? (i := 72) (by decide +kernel), ⟨by decide, by decide⟩, by decide +kernel⟩, List.mem_of_getElem? (i := 917) (by decide +kernel), List.mem_of_getElem? (i := 918) (by decide +kernel)⟩
abbrev M_Taking_bring : sp_Me := (yX8_bring, cX8_bring, 5, (Option.some (Jvm.ClassFile.FieldType.object "SafePaths$Node")), 9, 216)
theorem ok_Taking_bring : sp_okV M_Taking_bring 1 := ⟨⟨List.mem_of_getElem? (i := 923) (by decide +kernel), List.mem_of_getElem? (i := 72) (by decide +kernel), ⟨by decide, by decide⟩, by decide +kernel⟩, List.mem_of_getElem? (i := 922) (by decide +kernel), List.mem_of_getElem? (i := 29) (by decide +kernel)⟩
abbrev M_Taking_bodyFor : sp_Me := (yX8_bodyFor, cX8_bodyFor, 2, (Option.some (Jvm.ClassFile.FieldType.object "SafePaths$Body")), 8, 195)
theorem ok_Taking_bodyFor : sp_okV M_Taking_bodyFor 1 := ⟨⟨List.mem_of_getElem? (i := 931) (by decide +kernel), List.mem_of_getElem? (i := 72) (by decide +kernel), ⟨by decide, by decide⟩, by decide +kernel⟩, List.mem_of_getElem? (i := 930) (by decide +kernel), List.mem_of_getElem? (i := 30) (by decide +kernel)⟩
abbrev M_Tree_init : sp_Me := (yX9_init, cX9_init, 3, (Option.none : Option Jvm.ClassFile.FieldType), 7, 171)
theorem ok_Tree_init : sp_okI M_Tree_init 1 := ⟨⟨List.mem_of_getElem? (i := 165) (by decide +kernel), List.mem_of_getElem? (i := 63) (by decide +kernel), ⟨by decide, by decide⟩, by decide +kernel⟩, rfl, List.mem_of_getElem? (i := 164) (by decide +kernel)⟩
abbrev M_Tree_nodeCount : sp_Me := (yX9_nodeCount, cX9_nodeCount, 1, (Option.some Jvm.ClassFile.FieldType.int), 1, 20)
theorem ok_Tree_nodeCount : sp_okV M_Tree_nodeCount 0 := ⟨⟨List.mem_of_getElem? (i := 915) (by decide +kernel), List.mem_of_getElem? (i := 63) (by decide +kernel), ⟨by decide, by decide⟩, by decide +kernel⟩, List.mem_of_getElem? (i := 913) (by decide +kernel), List.mem_of_getElem? (i := 914) (by decide +kernel)⟩
abbrev M_Tree_bodyCount : sp_Me := (yX9_bodyCount, cX9_bodyCount, 1, (Option.some Jvm.ClassFile.FieldType.int), 1, 20)
theorem ok_Tree_bodyCount : sp_okV M_Tree_bodyCount 0 := ⟨⟨List.mem_of_getElem? (i := 1057) (by decide +kernel), List.mem_of_getElem? (i := 63) (by decide +kernel), ⟨by decide, by decide⟩, by decide +kernel⟩, List.mem_of_getElem? (i := 1055) (by decide +kernel), List.mem_of_getElem? (i := 1056) (by decide +kernel)⟩
abbrev M_Tree_at : sp_Me := (yX9_at, cX9_at, 2, (Option.some (Jvm.ClassFile.FieldType.object "SafePaths$Node")), 3, 64)
theorem ok_Tree_at : sp_okV M_Tree_at 1 := ⟨⟨List.mem_of_getElem? (i := 995) (by decide +kernel), List.mem_of_getElem? (i := 63) (by decide +kernel), ⟨by decide, by decide⟩, by decide +kernel⟩, List.mem_of_getElem? (i := 993) (by decide +kernel), List.mem_of_getElem? (i := 994) (by decide +kernel)⟩
abbrev M_Tree_bodyAt : sp_Me := (yX9_bodyAt, cX9_bodyAt, 2, (Option.some (Jvm.ClassFile.FieldType.object "SafePaths$Body")), 3, 64)
theorem ok_Tree_bodyAt : sp_okV M_Tree_bodyAt 1 := ⟨⟨List.mem_of_getElem? (i := 1031) (by decide +kernel), List.mem_of_getElem? (i := 63) (by decide +kernel), ⟨by decide, by decide⟩, by decide +kernel⟩, List.mem_of_getElem? (i := 1029) (by decide +kernel), List.mem_of_getElem? (i := 1030) (by decide +kernel)⟩
abbrev M_Tree_addNode : sp_Me := (yX9_addNode, cX9_addNode, 7, (Option.some (Jvm.ClassFile.FieldType.object "SafePaths$Node")), 7, 171)
theorem ok_Tree_addNode : sp_okV M_Tree_addNode 5 := ⟨⟨List.mem_of_getElem? (i := 927) (by decide +kernel), List.mem_of_getElem? (i := 63) (by decide +kernel), ⟨by decide, by decide⟩, by decide +kernel⟩, List.mem_of_getElem? (i := 925) (by decide +kernel), List.mem_of_getElem? (i := 926) (by decide +kernel)⟩
abbrev M_Tree_addBody : sp_Me := (yX9_addBody, cX9_addBody, 5, (Option.some (Jvm.ClassFile.FieldType.object "SafePaths$Body")), 7, 171)
theorem ok_Tree_addBody : sp_okV M_Tree_addBody 2 := ⟨⟨List.mem_of_getElem? (i := 935) (by decide +kernel), List.mem_of_getElem? (i := 63) (by decide +kernel), ⟨by decide, by decide⟩, by decide +kernel⟩, List.mem_of_getElem? (i := 933) (by decide +kernel), List.mem_of_getElem? (i := 934) (by decide +kernel)⟩
abbrev M_Tree_childOf : sp_Me := (yX9_childOf, cX9_childOf, 6, (Option.some (Jvm.ClassFile.FieldType.object "SafePaths$Node")), 3, 64)
theorem ok_Tree_childOf : sp_okV M_Tree_childOf 2 := ⟨⟨List.mem_of_getElem? (i := 815) (by decide +kernel), List.mem_of_getElem? (i := 63) (by decide +kernel), ⟨by decide, by decide⟩, by decide +kernel⟩, List.mem_of_getElem? (i := 813) (by decide +kernel), List.mem_of_getElem? (i := 814) (by decide +kernel)⟩
abbrev M_Tree_reach : sp_Me := (yX9_reach, cX9_reach, 6, (Option.some (Jvm.ClassFile.FieldType.object "SafePaths$Node")), 4, 89)
theorem ok_Tree_reach : sp_okV M_Tree_reach 2 := ⟨⟨List.mem_of_getElem? (i := 903) (by decide +kernel), List.mem_of_getElem? (i := 63) (by decide +kernel), ⟨by decide, by decide⟩, by decide +kernel⟩, List.mem_of_getElem? (i := 901) (by decide +kernel), List.mem_of_getElem? (i := 902) (by decide +kernel)⟩
abbrev M_Tree_isOutside : sp_Me := (yX9_isOutside, cX9_isOutside, 3, (Option.some Jvm.ClassFile.FieldType.boolean), 0, 0)
theorem ok_Tree_isOutside : sp_okV M_Tree_isOutside 1 := ⟨⟨List.mem_of_getElem? (i := 871) (by decide +kernel), List.mem_of_getElem? (i := 63) (by decide +kernel), ⟨by decide, by decide⟩, by decide +kernel⟩, List.mem_of_getElem? (i := 869) (by decide +kernel), List.mem_of_getElem? (i := 870) (by decide +kernel)⟩
abbrev M_Tree_isUntouchedOutside : sp_Me := (yX9_isUntouchedOutside, cX9_isUntouchedOutside, 1, (Option.some Jvm.ClassFile.FieldType.boolean), 1, 20)
theorem ok_Tree_isUntouchedOutside : sp_okV M_Tree_isUntouchedOutside 0 := ⟨⟨List.mem_of_getElem? (i := 1043) (by decide +kernel), List.mem_of_getElem? (i := 63) (by decide +kernel), ⟨by decide, by decide⟩, by decide +kernel⟩, List.mem_of_getElem? (i := 1041) (by decide +kernel), List.mem_of_getElem? (i := 1042) (by decide +kernel)⟩
abbrev M_Tree_isAllElseBelowRoot : sp_Me := (yX9_isAllElseBelowRoot, cX9_isAllElseBelowRoot, 2, (Option.some Jvm.ClassFile.FieldType.boolean), 3, 64)
theorem ok_Tree_isAllElseBelowRoot : sp_okV M_Tree_isAllElseBelowRoot 0 := ⟨⟨List.mem_of_getElem? (i := 1047) (by decide +kernel), List.mem_of_getElem? (i := 63) (by decide +kernel), ⟨by decide, by decide⟩, by decide +kernel⟩, List.mem_of_getElem? (i := 1045) (by decide +kernel), List.mem_of_getElem? (i := 1046) (by decide +kernel)⟩
abbrev M_Tree_contentOf : sp_Me := (yX9_contentOf, cX9_contentOf, 2, (Option.some Jvm.ClassFile.FieldType.int), 4, 88)
theorem ok_Tree_contentOf : sp_okV M_Tree_contentOf 1 := ⟨⟨List.mem_of_getElem? (i := 1011) (by decide +kernel), List.mem_of_getElem? (i := 63) (by decide +kernel), ⟨by decide, by decide⟩, by decide +kernel⟩, List.mem_of_getElem? (i := 1009) (by decide +kernel), List.mem_of_getElem? (i := 1010) (by decide +kernel)⟩
abbrev M_Tree_countIn : sp_Me := (yX9_countIn, cX9_countIn, 5, (Option.some Jvm.ClassFile.FieldType.int), 3, 64)
theorem ok_Tree_countIn : sp_okV M_Tree_countIn 1 := ⟨⟨List.mem_of_getElem? (i := 1015) (by decide +kernel), List.mem_of_getElem? (i := 63) (by decide +kernel), ⟨by decide, by decide⟩, by decide +kernel⟩, List.mem_of_getElem? (i := 1014) (by decide +kernel), List.mem_of_getElem? (i := 31) (by decide +kernel)⟩
abbrev M_Tree_countShut : sp_Me := (yX9_countShut, cX9_countShut, 3, (Option.some Jvm.ClassFile.FieldType.int), 3, 64)
theorem ok_Tree_countShut : sp_okV M_Tree_countShut 0 := ⟨⟨List.mem_of_getElem? (i := 970) (by decide +kernel), List.mem_of_getElem? (i := 63) (by decide +kernel), ⟨by decide, by decide⟩, by decide +kernel⟩, List.mem_of_getElem? (i := 968) (by decide +kernel), List.mem_of_getElem? (i := 969) (by decide +kernel)⟩
abbrev M_Tree_countFilesWith : sp_Me := (yX9_countFilesWith, cX9_countFilesWith, 5, (Option.some Jvm.ClassFile.FieldType.int), 3, 64)
theorem ok_Tree_countFilesWith : sp_okV M_Tree_countFilesWith 1 := ⟨⟨List.mem_of_getElem? (i := 1035) (by decide +kernel), List.mem_of_getElem? (i := 63) (by decide +kernel), ⟨by decide, by decide⟩, by decide +kernel⟩, List.mem_of_getElem? (i := 1033) (by decide +kernel), List.mem_of_getElem? (i := 1034) (by decide +kernel)⟩
abbrev M_Walk_init : sp_Me := (yX10_init, cX10_init, 2, (Option.none : Option Jvm.ClassFile.FieldType), 4, 74)
theorem ok_Walk_init : sp_okI M_Walk_init 1 := ⟨⟨List.mem_of_getElem? (i := 356) (by decide +kernel), List.mem_of_getElem? (i := 71) (by decide +kernel), ⟨by decide, by decide⟩, by decide +kernel⟩, rfl, List.mem_of_getElem? (i := 355) (by decide +kernel)⟩
abbrev M_Walk_goThrough : sp_Me := (yX10_goThrough, cX10_goThrough, 7, (Option.some Jvm.ClassFile.FieldType.int), 9, 215)
theorem ok_Walk_goThrough : sp_okV M_Walk_goThrough 3 := ⟨⟨List.mem_of_getElem? (i := 856) (by decide +kernel), List.mem_of_getElem? (i := 71) (by decide +kernel), ⟨by decide, by decide⟩, by decide +kernel⟩, List.mem_of_getElem? (i := 854) (by decide +kernel), List.mem_of_getElem? (i := 855) (by decide +kernel)⟩
abbrev M_Walk_begin : sp_Me := (yX10_begin, cX10_begin, 4, (Option.none : Option Jvm.ClassFile.FieldType), 7, 171)
theorem ok_Walk_begin : sp_okV M_Walk_begin 2 := ⟨⟨List.mem_of_getElem? (i := 864) (by decide +kernel), List.mem_of_getElem? (i := 71) (by decide +kernel), ⟨by decide, by decide⟩, by decide +kernel⟩, List.mem_of_getElem? (i := 863) (by decide +kernel), List.mem_of_getElem? (i := 23) (by decide +kernel)⟩
abbrev M_Walk_goUp : sp_Me := (yX10_goUp, cX10_goUp, 1, (Option.some Jvm.ClassFile.FieldType.int), 1, 20)
theorem ok_Walk_goUp : sp_okV M_Walk_goUp 0 := ⟨⟨List.mem_of_getElem? (i := 888) (by decide +kernel), List.mem_of_getElem? (i := 71) (by decide +kernel), ⟨by decide, by decide⟩, by decide +kernel⟩, List.mem_of_getElem? (i := 887) (by decide +kernel), List.mem_of_getElem? (i := 25) (by decide +kernel)⟩
abbrev M_Walk_goTo : sp_Me := (yX10_goTo, cX10_goTo, 2, (Option.some Jvm.ClassFile.FieldType.int), 8, 194)
theorem ok_Walk_goTo : sp_okV M_Walk_goTo 1 := ⟨⟨List.mem_of_getElem? (i := 894) (by decide +kernel), List.mem_of_getElem? (i := 71) (by decide +kernel), ⟨by decide, by decide⟩, by decide +kernel⟩, List.mem_of_getElem? (i := 893) (by decide +kernel), List.mem_of_getElem? (i := 26) (by decide +kernel)⟩
abbrev M_SP_init : sp_Me := (yX11_init, cX11_init, 2, (Option.none : Option Jvm.ClassFile.FieldType), 8, 193)
theorem ok_SP_init : sp_okI M_SP_init 1 := ⟨⟨List.mem_of_getElem? (i := 87) (by decide +kernel), List.mem_of_getElem? (i := 57) (by decide +kernel), ⟨by decide, by decide⟩, by decide +kernel⟩, rfl, List.mem_of_getElem? (i := 86) (by decide +kernel)⟩
abbrev M_SP_put : sp_Me := (yX11_put, cX11_put, 2, (Option.some Jvm.ClassFile.FieldType.int), 1, 21)
theorem ok_SP_put : sp_okV M_SP_put 1 := ⟨⟨List.mem_of_getElem? (i := 461) (by decide +kernel), List.mem_of_getElem? (i := 57) (by decide +kernel), ⟨by decide, by decide⟩, by decide +kernel⟩, List.mem_of_getElem? (i := 459) (by decide +kernel), List.mem_of_getElem? (i := 460) (by decide +kernel)⟩
abbrev M_SP_path : sp_Me := (yX11_path, cX11_path, 3, (Option.some Jvm.ClassFile.FieldType.int), 11, 245)
theorem ok_SP_path : sp_okV M_SP_path 0 := ⟨⟨List.mem_of_getElem? (i := 469) (by decide +kernel), List.mem_of_getElem? (i := 57) (by decide +kernel), ⟨by decide, by decide⟩, by decide +kernel⟩, List.mem_of_getElem? (i := 467) (by decide +kernel), List.mem_of_getElem? (i := 468) (by decide +kernel)⟩
abbrev M_SP_part : sp_Me := (yX11_part, cX11_part, 5, (Option.some Jvm.ClassFile.FieldType.int), 4, 85)
theorem ok_SP_part : sp_okV M_SP_part 3 := ⟨⟨List.mem_of_getElem? (i := 704) (by decide +kernel), List.mem_of_getElem? (i := 57) (by decide +kernel), ⟨by decide, by decide⟩, by decide +kernel⟩, List.mem_of_getElem? (i := 702) (by decide +kernel), List.mem_of_getElem? (i := 703) (by decide +kernel)⟩
abbrev M_SP_meets : sp_Me := (yX11_meets, cX11_meets, 6, (Option.some Jvm.ClassFile.FieldType.int), 4, 85)
theorem ok_SP_meets : sp_okV M_SP_meets 2 := ⟨⟨List.mem_of_getElem? (i := 718) (by decide +kernel), List.mem_of_getElem? (i := 57) (by decide +kernel), ⟨by decide, by decide⟩, by decide +kernel⟩, List.mem_of_getElem? (i := 716) (by decide +kernel), List.mem_of_getElem? (i := 717) (by decide +kernel)⟩
abbrev M_SP_target : sp_Me := (yX11_target, cX11_target, 2, (Option.some Jvm.ClassFile.FieldType.int), 9, 219)
theorem ok_SP_target : sp_okV M_SP_target 0 := ⟨⟨List.mem_of_getElem? (i := 741) (by decide +kernel), List.mem_of_getElem? (i := 57) (by decide +kernel), ⟨by decide, by decide⟩, by decide +kernel⟩, List.mem_of_getElem? (i := 739) (by decide +kernel), List.mem_of_getElem? (i := 740) (by decide +kernel)⟩
abbrev M_SP_entry : sp_Me := (yX11_entry, cX11_entry, 8, (Option.some Jvm.ClassFile.FieldType.int), 7, 171)
theorem ok_SP_entry : sp_okV M_SP_entry 4 := ⟨⟨List.mem_of_getElem? (i := 753) (by decide +kernel), List.mem_of_getElem? (i := 57) (by decide +kernel), ⟨by decide, by decide⟩, by decide +kernel⟩, List.mem_of_getElem? (i := 751) (by decide +kernel), List.mem_of_getElem? (i := 752) (by decide +kernel)⟩
abbrev M_SP_take : sp_Me := (yX11_take, cX11_take, 4, (Option.some Jvm.ClassFile.FieldType.int), 12, 284)
theorem ok_SP_take : sp_okV M_SP_take 1 := ⟨⟨List.mem_of_getElem? (i := 789) (by decide +kernel), List.mem_of_getElem? (i := 57) (by decide +kernel), ⟨by decide, by decide⟩, by decide +kernel⟩, List.mem_of_getElem? (i := 787) (by decide +kernel), List.mem_of_getElem? (i := 788) (by decide +kernel)⟩
abbrev M_SP_dry : sp_Me := (yX11_dry, cX11_dry, 2, (Option.some Jvm.ClassFile.FieldType.int), 12, 284)
theorem ok_SP_dry : sp_okV M_SP_dry 1 := ⟨⟨List.mem_of_getElem? (i := 956) (by decide +kernel), List.mem_of_getElem? (i := 57) (by decide +kernel), ⟨by decide, by decide⟩, by decide +kernel⟩, List.mem_of_getElem? (i := 954) (by decide +kernel), List.mem_of_getElem? (i := 955) (by decide +kernel)⟩
abbrev M_SP_finish : sp_Me := (yX11_finish, cX11_finish, 1, (Option.some Jvm.ClassFile.FieldType.int), 4, 86)
theorem ok_SP_finish : sp_okV M_SP_finish 0 := ⟨⟨List.mem_of_getElem? (i := 960) (by decide +kernel), List.mem_of_getElem? (i := 57) (by decide +kernel), ⟨by decide, by decide⟩, by decide +kernel⟩, List.mem_of_getElem? (i := 958) (by decide +kernel), List.mem_of_getElem? (i := 959) (by decide +kernel)⟩
abbrev M_SP_limit : sp_Me := (yX11_limit, cX11_limit, 4, (Option.some Jvm.ClassFile.FieldType.long), 1, 24)
theorem ok_SP_limit : sp_okV M_SP_limit 2 := ⟨⟨List.mem_of_getElem? (i := 978) (by decide +kernel), List.mem_of_getElem? (i := 57) (by decide +kernel), ⟨by decide, by decide⟩, by decide +kernel⟩, List.mem_of_getElem? (i := 976) (by decide +kernel), List.mem_of_getElem? (i := 977) (by decide +kernel)⟩
abbrev M_SP_lead : sp_Me := (yX11_lead, cX11_lead, 3, (Option.some Jvm.ClassFile.FieldType.int), 10, 241)
theorem ok_SP_lead : sp_okV M_SP_lead 1 := ⟨⟨List.mem_of_getElem? (i := 991) (by decide +kernel), List.mem_of_getElem? (i := 57) (by decide +kernel), ⟨by decide, by decide⟩, by decide +kernel⟩, List.mem_of_getElem? (i := 989) (by decide +kernel), List.mem_of_getElem? (i := 990) (by decide +kernel)⟩
abbrev M_SP_find : sp_Me := (yX11_find, cX11_find, 4, (Option.some Jvm.ClassFile.FieldType.int), 5, 114)
theorem ok_SP_find : sp_okV M_SP_find 1 := ⟨⟨List.mem_of_getElem? (i := 1001) (by decide +kernel), List.mem_of_getElem? (i := 57) (by decide +kernel), ⟨by decide, by decide⟩, by decide +kernel⟩, List.mem_of_getElem? (i := 999) (by decide +kernel), List.mem_of_getElem? (i := 1000) (by decide +kernel)⟩
abbrev M_SP_node : sp_Me := (yX11_node, cX11_node, 4, (Option.some Jvm.ClassFile.FieldType.int), 5, 109)
theorem ok_SP_node : sp_okV M_SP_node 2 := ⟨⟨List.mem_of_getElem? (i := 1006) (by decide +kernel), List.mem_of_getElem? (i := 57) (by decide +kernel), ⟨by decide, by decide⟩, by decide +kernel⟩, List.mem_of_getElem? (i := 1004) (by decide +kernel), List.mem_of_getElem? (i := 1005) (by decide +kernel)⟩
abbrev M_SP_name : sp_Me := (yX11_name, cX11_name, 4, (Option.some Jvm.ClassFile.FieldType.int), 4, 85)
theorem ok_SP_name : sp_okV M_SP_name 2 := ⟨⟨List.mem_of_getElem? (i := 1023) (by decide +kernel), List.mem_of_getElem? (i := 57) (by decide +kernel), ⟨by decide, by decide⟩, by decide +kernel⟩, List.mem_of_getElem? (i := 1021) (by decide +kernel), List.mem_of_getElem? (i := 1022) (by decide +kernel)⟩
abbrev M_SP_body : sp_Me := (yX11_body, cX11_body, 4, (Option.some Jvm.ClassFile.FieldType.long), 4, 88)
theorem ok_SP_body : sp_okV M_SP_body 2 := ⟨⟨List.mem_of_getElem? (i := 1027) (by decide +kernel), List.mem_of_getElem? (i := 57) (by decide +kernel), ⟨by decide, by decide⟩, by decide +kernel⟩, List.mem_of_getElem? (i := 1025) (by decide +kernel), List.mem_of_getElem? (i := 1026) (by decide +kernel)⟩
abbrev M_SP_inside : sp_Me := (yX11_inside, cX11_inside, 1, (Option.some Jvm.ClassFile.FieldType.boolean), 4, 85)
theorem ok_SP_inside : sp_okV M_SP_inside 0 := ⟨⟨List.mem_of_getElem? (i := 1039) (by decide +kernel), List.mem_of_getElem? (i := 57) (by decide +kernel), ⟨by decide, by decide⟩, by decide +kernel⟩, List.mem_of_getElem? (i := 1037) (by decide +kernel), List.mem_of_getElem? (i := 1038) (by decide +kernel)⟩
abbrev M_SP_told : sp_Me := (yX11_told, cX11_told, 2, (Option.some Jvm.ClassFile.FieldType.int), 2, 40)
theorem ok_SP_told : sp_okV M_SP_told 1 := ⟨⟨List.mem_of_getElem? (i := 1052) (by decide +kernel), List.mem_of_getElem? (i := 57) (by decide +kernel), ⟨by decide, by decide⟩, by decide +kernel⟩, List.mem_of_getElem? (i := 1050) (by decide +kernel), List.mem_of_getElem? (i := 1051) (by decide +kernel)⟩
abbrev M_SP_judgeAsPath : sp_Me := (yX11_judgeAsPath, cX11_judgeAsPath, 4, (Option.some Jvm.ClassFile.FieldType.int), 10, 222)
theorem ok_SP_judgeAsPath : sp_okV M_SP_judgeAsPath 1 := ⟨⟨List.mem_of_getElem? (i := 494) (by decide +kernel), List.mem_of_getElem? (i := 57) (by decide +kernel), ⟨by decide, by decide⟩, by decide +kernel⟩, List.mem_of_getElem? (i := 493) (by decide +kernel), List.mem_of_getElem? (i := 4) (by decide +kernel)⟩
abbrev M_SP_earlierOf : sp_Me := (yX11_earlierOf, cX11_earlierOf, 2, (Option.some Jvm.ClassFile.FieldType.int), 1, 21)
theorem ok_SP_earlierOf : sp_okS M_SP_earlierOf 2 := ⟨⟨List.mem_of_getElem? (i := 668) (by decide +kernel), List.mem_of_getElem? (i := 57) (by decide +kernel), ⟨by decide, by decide⟩, by decide +kernel⟩, List.mem_of_getElem? (i := 667) (by decide +kernel)⟩
abbrev M_SP_judgeAsTarget : sp_Me := (yX11_judgeAsTarget, cX11_judgeAsTarget, 1, (Option.some Jvm.ClassFile.FieldType.int), 1, 20)
theorem ok_SP_judgeAsTarget : sp_okV M_SP_judgeAsTarget 0 := ⟨⟨List.mem_of_getElem? (i := 745) (by decide +kernel), List.mem_of_getElem? (i := 57) (by decide +kernel), ⟨by decide, by decide⟩, by decide +kernel⟩, List.mem_of_getElem? (i := 744) (by decide +kernel), List.mem_of_getElem? (i := 11) (by decide +kernel)⟩
abbrev M_SP_otherOf : sp_Me := (yX11_otherOf, cX11_otherOf, 4, (Option.some (Jvm.ClassFile.FieldType.object "SafePaths$Parted")), 4, 85)
theorem ok_SP_otherOf : sp_okV M_SP_otherOf 3 := ⟨⟨List.mem_of_getElem? (i := 757) (by decide +kernel), List.mem_of_getElem? (i := 57) (by decide +kernel), ⟨by decide, by decide⟩, by decide +kernel⟩, List.mem_of_getElem? (i := 756) (by decide +kernel), List.mem_of_getElem? (i := 12) (by decide +kernel)⟩
abbrev M_SP_memberOf : sp_Me := (yX11_memberOf, cX11_memberOf, 2, (Option.some (Jvm.ClassFile.FieldType.object "SafePaths$Parted")), 3, 64)
theorem ok_SP_memberOf : sp_okS M_SP_memberOf 2 := ⟨⟨List.mem_of_getElem? (i := 707) (by decide +kernel), List.mem_of_getElem? (i := 57) (by decide +kernel), ⟨by decide, by decide⟩, by decide +kernel⟩, List.mem_of_getElem? (i := 706) (by decide +kernel)⟩
abbrev M_Mo_init : sp_Me := (yX12_init, cX12_init, 2, (Option.none : Option Jvm.ClassFile.FieldType), 1, 24)
theorem ok_Mo_init : sp_okI M_Mo_init 1 := ⟨⟨List.mem_of_getElem? (i := 1069) (by decide +kernel), List.mem_of_getElem? (i := 73) (by decide +kernel), ⟨by decide, by decide⟩, by decide +kernel⟩, rfl, List.mem_of_getElem? (i := 1068) (by decide +kernel)⟩
abbrev M_Mo_word3 : sp_Me := (yX12_word3, cX12_word3, 4, (Option.none : Option Jvm.ClassFile.FieldType), 0, 0)
theorem ok_Mo_word3 : sp_okV M_Mo_word3 3 := ⟨⟨List.mem_of_getElem? (i := 1080) (by decide +kernel), List.mem_of_getElem? (i := 73) (by decide +kernel), ⟨by decide, by decide⟩, by decide +kernel⟩, List.mem_of_getElem? (i := 1079) (by decide +kernel), List.mem_of_getElem? (i := 33) (by decide +kernel)⟩
abbrev M_Mo_add : sp_Me := (yX12_add, cX12_add, 5, (Option.some Jvm.ClassFile.FieldType.int), 0, 0)
theorem ok_Mo_add : sp_okV M_Mo_add 2 := ⟨⟨List.mem_of_getElem? (i := 1076) (by decide +kernel), List.mem_of_getElem? (i := 73) (by decide +kernel), ⟨by decide, by decide⟩, by decide +kernel⟩, List.mem_of_getElem? (i := 1075) (by decide +kernel), List.mem_of_getElem? (i := 32) (by decide +kernel)⟩
abbrev M_Mo_hasRule : sp_Me := (yX12_hasRule, cX12_hasRule, 2, (Option.some Jvm.ClassFile.FieldType.boolean), 0, 0)
theorem ok_Mo_hasRule : sp_okV M_Mo_hasRule 1 := ⟨⟨List.mem_of_getElem? (i := 1230) (by decide +kernel), List.mem_of_getElem? (i := 73) (by decide +kernel), ⟨by decide, by decide⟩, by decide +kernel⟩, List.mem_of_getElem? (i := 1229) (by decide +kernel), List.mem_of_getElem? (i := 36) (by decide +kernel)⟩
abbrev M_Mo_isParting : sp_Me := (yX12_isParting, cX12_isParting, 2, (Option.some Jvm.ClassFile.FieldType.boolean), 1, 21)
theorem ok_Mo_isParting : sp_okV M_Mo_isParting 1 := ⟨⟨List.mem_of_getElem? (i := 1226) (by decide +kernel), List.mem_of_getElem? (i := 73) (by decide +kernel), ⟨by decide, by decide⟩, by decide +kernel⟩, List.mem_of_getElem? (i := 1225) (by decide +kernel), List.mem_of_getElem? (i := 35) (by decide +kernel)⟩
abbrev M_Mo_small : sp_Me := (yX12_small, cX12_small, 1, (Option.some Jvm.ClassFile.FieldType.int), 0, 0)
theorem ok_Mo_small : sp_okS M_Mo_small 1 := ⟨⟨List.mem_of_getElem? (i := 1245) (by decide +kernel), List.mem_of_getElem? (i := 73) (by decide +kernel), ⟨by decide, by decide⟩, by decide +kernel⟩, List.mem_of_getElem? (i := 1244) (by decide +kernel)⟩
abbrev M_Mo_put : sp_Me := (yX12_put, cX12_put, 2, (Option.some Jvm.ClassFile.FieldType.int), 0, 0)
theorem ok_Mo_put : sp_okV M_Mo_put 1 := ⟨⟨List.mem_of_getElem? (i := 1214) (by decide +kernel), List.mem_of_getElem? (i := 73) (by decide +kernel), ⟨by decide, by decide⟩, by decide +kernel⟩, List.mem_of_getElem? (i := 1212) (by decide +kernel), List.mem_of_getElem? (i := 1213) (by decide +kernel)⟩
abbrev M_Mo_nextPart : sp_Me := (yX12_nextPart, cX12_nextPart, 4, (Option.some Jvm.ClassFile.FieldType.int), 2, 42)
theorem ok_Mo_nextPart : sp_okV M_Mo_nextPart 2 := ⟨⟨List.mem_of_getElem? (i := 1222) (by decide +kernel), List.mem_of_getElem? (i := 73) (by decide +kernel), ⟨by decide, by decide⟩, by decide +kernel⟩, List.mem_of_getElem? (i := 1221) (by decide +kernel), List.mem_of_getElem? (i := 34) (by decide +kernel)⟩
abbrev M_Mo_isUp : sp_Me := (yX12_isUp, cX12_isUp, 1, (Option.some Jvm.ClassFile.FieldType.boolean), 0, 0)
theorem ok_Mo_isUp : sp_okV M_Mo_isUp 0 := ⟨⟨List.mem_of_getElem? (i := 1234) (by decide +kernel), List.mem_of_getElem? (i := 73) (by decide +kernel), ⟨by decide, by decide⟩, by decide +kernel⟩, List.mem_of_getElem? (i := 1233) (by decide +kernel), List.mem_of_getElem? (i := 37) (by decide +kernel)⟩
abbrev M_Mo_isLike : sp_Me := (yX12_isLike, cX12_isLike, 5, (Option.some Jvm.ClassFile.FieldType.boolean), 1, 20)
theorem ok_Mo_isLike : sp_okV M_Mo_isLike 4 := ⟨⟨List.mem_of_getElem? (i := 1242) (by decide +kernel), List.mem_of_getElem? (i := 73) (by decide +kernel), ⟨by decide, by decide⟩, by decide +kernel⟩, List.mem_of_getElem? (i := 1241) (by decide +kernel), List.mem_of_getElem? (i := 39) (by decide +kernel)⟩
abbrev M_Mo_isBad : sp_Me := (yX12_isBad, cX12_isBad, 5, (Option.some Jvm.ClassFile.FieldType.boolean), 2, 44)
theorem ok_Mo_isBad : sp_okV M_Mo_isBad 0 := ⟨⟨List.mem_of_getElem? (i := 1238) (by decide +kernel), List.mem_of_getElem? (i := 73) (by decide +kernel), ⟨by decide, by decide⟩, by decide +kernel⟩, List.mem_of_getElem? (i := 1237) (by decide +kernel), List.mem_of_getElem? (i := 38) (by decide +kernel)⟩
abbrev M_Mo_path : sp_Me := (yX12_path, cX12_path, 10, (Option.some Jvm.ClassFile.FieldType.int), 3, 68)
theorem ok_Mo_path : sp_okV M_Mo_path 0 := ⟨⟨List.mem_of_getElem? (i := 1218) (by decide +kernel), List.mem_of_getElem? (i := 73) (by decide +kernel), ⟨by decide, by decide⟩, by decide +kernel⟩, List.mem_of_getElem? (i := 1216) (by decide +kernel), List.mem_of_getElem? (i := 1217) (by decide +kernel)⟩
abbrev M_Mo_isPath : sp_Me := (yX12_isPath, cX12_isPath, 2, (Option.some Jvm.ClassFile.FieldType.boolean), 0, 0)
theorem ok_Mo_isPath : sp_okV M_Mo_isPath 1 := ⟨⟨List.mem_of_getElem? (i := 1253) (by decide +kernel), List.mem_of_getElem? (i := 73) (by decide +kernel), ⟨by decide, by decide⟩, by decide +kernel⟩, List.mem_of_getElem? (i := 1252) (by decide +kernel), List.mem_of_getElem? (i := 40) (by decide +kernel)⟩
abbrev M_Mo_part : sp_Me := (yX12_part, cX12_part, 5, (Option.some Jvm.ClassFile.FieldType.int), 1, 21)
theorem ok_Mo_part : sp_okV M_Mo_part 3 := ⟨⟨List.mem_of_getElem? (i := 1249) (by decide +kernel), List.mem_of_getElem? (i := 73) (by decide +kernel), ⟨by decide, by decide⟩, by decide +kernel⟩, List.mem_of_getElem? (i := 1247) (by decide +kernel), List.mem_of_getElem? (i := 1248) (by decide +kernel)⟩
abbrev M_Mo_meets : sp_Me := (yX12_meets, cX12_meets, 10, (Option.some Jvm.ClassFile.FieldType.int), 1, 21)
theorem ok_Mo_meets : sp_okV M_Mo_meets 2 := ⟨⟨List.mem_of_getElem? (i := 1257) (by decide +kernel), List.mem_of_getElem? (i := 73) (by decide +kernel), ⟨by decide, by decide⟩, by decide +kernel⟩, List.mem_of_getElem? (i := 1255) (by decide +kernel), List.mem_of_getElem? (i := 1256) (by decide +kernel)⟩
abbrev M_Mo_target : sp_Me := (yX12_target, cX12_target, 3, (Option.some Jvm.ClassFile.FieldType.int), 0, 0)
theorem ok_Mo_target : sp_okV M_Mo_target 0 := ⟨⟨List.mem_of_getElem? (i := 1261) (by decide +kernel), List.mem_of_getElem? (i := 73) (by decide +kernel), ⟨by decide, by decide⟩, by decide +kernel⟩, List.mem_of_getElem? (i := 1259) (by decide +kernel), List.mem_of_getElem? (i := 1260) (by decide +kernel)⟩
abbrev M_Mo_isNamed : sp_Me := (yX12_isNamed, cX12_isNamed, 6, (Option.some Jvm.ClassFile.FieldType.boolean), 1, 20)
theorem ok_Mo_isNamed : sp_okV M_Mo_isNamed 2 := ⟨⟨List.mem_of_getElem? (i := 1289) (by decide +kernel), List.mem_of_getElem? (i := 73) (by decide +kernel), ⟨by decide, by decide⟩, by decide +kernel⟩, List.mem_of_getElem? (i := 1288) (by decide +kernel), List.mem_of_getElem? (i := 46) (by decide +kernel)⟩
abbrev M_Mo_in : sp_Me := (yX12_in, cX12_in, 4, (Option.some Jvm.ClassFile.FieldType.int), 2, 45)
theorem ok_Mo_in : sp_okV M_Mo_in 1 := ⟨⟨List.mem_of_getElem? (i := 1285) (by decide +kernel), List.mem_of_getElem? (i := 73) (by decide +kernel), ⟨by decide, by decide⟩, by decide +kernel⟩, List.mem_of_getElem? (i := 1284) (by decide +kernel), List.mem_of_getElem? (i := 45) (by decide +kernel)⟩
abbrev M_Mo_partWord : sp_Me := (yX12_partWord, cX12_partWord, 4, (Option.none : Option Jvm.ClassFile.FieldType), 0, 0)
theorem ok_Mo_partWord : sp_okV M_Mo_partWord 2 := ⟨⟨List.mem_of_getElem? (i := 1318) (by decide +kernel), List.mem_of_getElem? (i := 73) (by decide +kernel), ⟨by decide, by decide⟩, by decide +kernel⟩, List.mem_of_getElem? (i := 1317) (by decide +kernel), List.mem_of_getElem? (i := 51) (by decide +kernel)⟩
abbrev M_Mo_isInside : sp_Me := (yX12_isInside, cX12_isInside, 3, (Option.some Jvm.ClassFile.FieldType.boolean), 0, 0)
theorem ok_Mo_isInside : sp_okV M_Mo_isInside 1 := ⟨⟨List.mem_of_getElem? (i := 1277) (by decide +kernel), List.mem_of_getElem? (i := 73) (by decide +kernel), ⟨by decide, by decide⟩, by decide +kernel⟩, List.mem_of_getElem? (i := 1276) (by decide +kernel), List.mem_of_getElem? (i := 43) (by decide +kernel)⟩
abbrev M_Mo_nextWord : sp_Me := (yX12_nextWord, cX12_nextWord, 3, (Option.some Jvm.ClassFile.FieldType.boolean), 2, 42)
theorem ok_Mo_nextWord : sp_okV M_Mo_nextWord 0 := ⟨⟨List.mem_of_getElem? (i := 1281) (by decide +kernel), List.mem_of_getElem? (i := 73) (by decide +kernel), ⟨by decide, by decide⟩, by decide +kernel⟩, List.mem_of_getElem? (i := 1280) (by decide +kernel), List.mem_of_getElem? (i := 44) (by decide +kernel)⟩
abbrev M_Mo_isLeft : sp_Me := (yX12_isLeft, cX12_isLeft, 6, (Option.some Jvm.ClassFile.FieldType.boolean), 2, 42)
theorem ok_Mo_isLeft : sp_okV M_Mo_isLeft 0 := ⟨⟨List.mem_of_getElem? (i := 1293) (by decide +kernel), List.mem_of_getElem? (i := 73) (by decide +kernel), ⟨by decide, by decide⟩, by decide +kernel⟩, List.mem_of_getElem? (i := 1292) (by decide +kernel), List.mem_of_getElem? (i := 47) (by decide +kernel)⟩
abbrev M_Mo_startOf : sp_Me := (yX12_startOf, cX12_startOf, 3, (Option.some Jvm.ClassFile.FieldType.int), 2, 42)
theorem ok_Mo_startOf : sp_okV M_Mo_startOf 2 := ⟨⟨List.mem_of_getElem? (i := 1273) (by decide +kernel), List.mem_of_getElem? (i := 73) (by decide +kernel), ⟨by decide, by decide⟩, by decide +kernel⟩, List.mem_of_getElem? (i := 1272) (by decide +kernel), List.mem_of_getElem? (i := 42) (by decide +kernel)⟩
abbrev M_Mo_leads : sp_Me := (yX12_leads, cX12_leads, 8, (Option.some Jvm.ClassFile.FieldType.int), 3, 68)
theorem ok_Mo_leads : sp_okV M_Mo_leads 3 := ⟨⟨List.mem_of_getElem? (i := 1269) (by decide +kernel), List.mem_of_getElem? (i := 73) (by decide +kernel), ⟨by decide, by decide⟩, by decide +kernel⟩, List.mem_of_getElem? (i := 1268) (by decide +kernel), List.mem_of_getElem? (i := 41) (by decide +kernel)⟩
abbrev M_Mo_lead : sp_Me := (yX12_lead, cX12_lead, 2, (Option.some Jvm.ClassFile.FieldType.int), 4, 95)
theorem ok_Mo_lead : sp_okV M_Mo_lead 1 := ⟨⟨List.mem_of_getElem? (i := 1265) (by decide +kernel), List.mem_of_getElem? (i := 73) (by decide +kernel), ⟨by decide, by decide⟩, by decide +kernel⟩, List.mem_of_getElem? (i := 1263) (by decide +kernel), List.mem_of_getElem? (i := 1264) (by decide +kernel)⟩
abbrev M_Mo_entry : sp_Me := (yX12_entry, cX12_entry, 7, (Option.some Jvm.ClassFile.FieldType.int), 1, 21)
theorem ok_Mo_entry : sp_okV M_Mo_entry 4 := ⟨⟨List.mem_of_getElem? (i := 1297) (by decide +kernel), List.mem_of_getElem? (i := 73) (by decide +kernel), ⟨by decide, by decide⟩, by decide +kernel⟩, List.mem_of_getElem? (i := 1295) (by decide +kernel), List.mem_of_getElem? (i := 1296) (by decide +kernel)⟩
abbrev M_Mo_walk : sp_Me := (yX12_walk, cX12_walk, 7, (Option.some Jvm.ClassFile.FieldType.int), 3, 68)
theorem ok_Mo_walk : sp_okV M_Mo_walk 2 := ⟨⟨List.mem_of_getElem? (i := 1314) (by decide +kernel), List.mem_of_getElem? (i := 73) (by decide +kernel), ⟨by decide, by decide⟩, by decide +kernel⟩, List.mem_of_getElem? (i := 1313) (by decide +kernel), List.mem_of_getElem? (i := 50) (by decide +kernel)⟩
abbrev M_Mo_fileAt : sp_Me := (yX12_fileAt, cX12_fileAt, 3, (Option.some Jvm.ClassFile.FieldType.int), 4, 94)
theorem ok_Mo_fileAt : sp_okV M_Mo_fileAt 1 := ⟨⟨List.mem_of_getElem? (i := 1330) (by decide +kernel), List.mem_of_getElem? (i := 73) (by decide +kernel), ⟨by decide, by decide⟩, by decide +kernel⟩, List.mem_of_getElem? (i := 1329) (by decide +kernel), List.mem_of_getElem? (i := 54) (by decide +kernel)⟩
abbrev M_Mo_isThere : sp_Me := (yX12_isThere, cX12_isThere, 3, (Option.some Jvm.ClassFile.FieldType.boolean), 0, 0)
theorem ok_Mo_isThere : sp_okV M_Mo_isThere 2 := ⟨⟨List.mem_of_getElem? (i := 1326) (by decide +kernel), List.mem_of_getElem? (i := 73) (by decide +kernel), ⟨by decide, by decide⟩, by decide +kernel⟩, List.mem_of_getElem? (i := 1325) (by decide +kernel), List.mem_of_getElem? (i := 53) (by decide +kernel)⟩
abbrev M_Mo_takes : sp_Me := (yX12_takes, cX12_takes, 12, (Option.some Jvm.ClassFile.FieldType.int), 5, 116)
theorem ok_Mo_takes : sp_okV M_Mo_takes 2 := ⟨⟨List.mem_of_getElem? (i := 1310) (by decide +kernel), List.mem_of_getElem? (i := 73) (by decide +kernel), ⟨by decide, by decide⟩, by decide +kernel⟩, List.mem_of_getElem? (i := 1309) (by decide +kernel), List.mem_of_getElem? (i := 49) (by decide +kernel)⟩
abbrev M_Mo_note : sp_Me := (yX12_note, cX12_note, 4, (Option.none : Option Jvm.ClassFile.FieldType), 0, 0)
theorem ok_Mo_note : sp_okV M_Mo_note 3 := ⟨⟨List.mem_of_getElem? (i := 1322) (by decide +kernel), List.mem_of_getElem? (i := 73) (by decide +kernel), ⟨by decide, by decide⟩, by decide +kernel⟩, List.mem_of_getElem? (i := 1321) (by decide +kernel), List.mem_of_getElem? (i := 52) (by decide +kernel)⟩
abbrev M_Mo_comes : sp_Me := (yX12_comes, cX12_comes, 12, (Option.some Jvm.ClassFile.FieldType.int), 1, 24)
theorem ok_Mo_comes : sp_okV M_Mo_comes 6 := ⟨⟨List.mem_of_getElem? (i := 1334) (by decide +kernel), List.mem_of_getElem? (i := 73) (by decide +kernel), ⟨by decide, by decide⟩, by decide +kernel⟩, List.mem_of_getElem? (i := 1333) (by decide +kernel), List.mem_of_getElem? (i := 55) (by decide +kernel)⟩
abbrev M_Mo_isEntry : sp_Me := (yX12_isEntry, cX12_isEntry, 2, (Option.some Jvm.ClassFile.FieldType.boolean), 0, 0)
theorem ok_Mo_isEntry : sp_okV M_Mo_isEntry 1 := ⟨⟨List.mem_of_getElem? (i := 1306) (by decide +kernel), List.mem_of_getElem? (i := 73) (by decide +kernel), ⟨by decide, by decide⟩, by decide +kernel⟩, List.mem_of_getElem? (i := 1305) (by decide +kernel), List.mem_of_getElem? (i := 48) (by decide +kernel)⟩
abbrev M_Mo_take : sp_Me := (yX12_take, cX12_take, 2, (Option.some Jvm.ClassFile.FieldType.int), 6, 147)
theorem ok_Mo_take : sp_okV M_Mo_take 1 := ⟨⟨List.mem_of_getElem? (i := 1302) (by decide +kernel), List.mem_of_getElem? (i := 73) (by decide +kernel), ⟨by decide, by decide⟩, by decide +kernel⟩, List.mem_of_getElem? (i := 1300) (by decide +kernel), List.mem_of_getElem? (i := 1301) (by decide +kernel)⟩
abbrev M_Mo_dry : sp_Me := (yX12_dry, cX12_dry, 3, (Option.some Jvm.ClassFile.FieldType.int), 6, 147)
theorem ok_Mo_dry : sp_okV M_Mo_dry 1 := ⟨⟨List.mem_of_getElem? (i := 1338) (by decide +kernel), List.mem_of_getElem? (i := 73) (by decide +kernel), ⟨by decide, by decide⟩, by decide +kernel⟩, List.mem_of_getElem? (i := 1336) (by decide +kernel), List.mem_of_getElem? (i := 1337) (by decide +kernel)⟩
abbrev M_Mo_finish : sp_Me := (yX12_finish, cX12_finish, 3, (Option.some Jvm.ClassFile.FieldType.int), 0, 0)
theorem ok_Mo_finish : sp_okV M_Mo_finish 0 := ⟨⟨List.mem_of_getElem? (i := 1342) (by decide +kernel), List.mem_of_getElem? (i := 73) (by decide +kernel), ⟨by decide, by decide⟩, by decide +kernel⟩, List.mem_of_getElem? (i := 1340) (by decide +kernel), List.mem_of_getElem? (i := 1341) (by decide +kernel)⟩
abbrev M_Mo_limit : sp_Me := (yX12_limit, cX12_limit, 6, (Option.some Jvm.ClassFile.FieldType.long), 0, 0)
theorem ok_Mo_limit : sp_okV M_Mo_limit 2 := ⟨⟨List.mem_of_getElem? (i := 1346) (by decide +kernel), List.mem_of_getElem? (i := 73) (by decide +kernel), ⟨by decide, by decide⟩, by decide +kernel⟩, List.mem_of_getElem? (i := 1344) (by decide +kernel), List.mem_of_getElem? (i := 1345) (by decide +kernel)⟩
abbrev M_Mo_find : sp_Me := (yX12_find, cX12_find, 5, (Option.some Jvm.ClassFile.FieldType.int), 3, 68)
theorem ok_Mo_find : sp_okV M_Mo_find 1 := ⟨⟨List.mem_of_getElem? (i := 1351) (by decide +kernel), List.mem_of_getElem? (i := 73) (by decide +kernel), ⟨by decide, by decide⟩, by decide +kernel⟩, List.mem_of_getElem? (i := 1349) (by decide +kernel), List.mem_of_getElem? (i := 1350) (by decide +kernel)⟩
abbrev M_Mo_node : sp_Me := (yX12_node, cX12_node, 5, (Option.some Jvm.ClassFile.FieldType.int), 0, 0)
theorem ok_Mo_node : sp_okV M_Mo_node 2 := ⟨⟨List.mem_of_getElem? (i := 1355) (by decide +kernel), List.mem_of_getElem? (i := 73) (by decide +kernel), ⟨by decide, by decide⟩, by decide +kernel⟩, List.mem_of_getElem? (i := 1353) (by decide +kernel), List.mem_of_getElem? (i := 1354) (by decide +kernel)⟩
abbrev M_Mo_name : sp_Me := (yX12_name, cX12_name, 3, (Option.some Jvm.ClassFile.FieldType.int), 0, 0)
theorem ok_Mo_name : sp_okV M_Mo_name 2 := ⟨⟨List.mem_of_getElem? (i := 1359) (by decide +kernel), List.mem_of_getElem? (i := 73) (by decide +kernel), ⟨by decide, by decide⟩, by decide +kernel⟩, List.mem_of_getElem? (i := 1357) (by decide +kernel), List.mem_of_getElem? (i := 1358) (by decide +kernel)⟩
abbrev M_Mo_body : sp_Me := (yX12_body, cX12_body, 6, (Option.some Jvm.ClassFile.FieldType.long), 0, 0)
theorem ok_Mo_body : sp_okV M_Mo_body 2 := ⟨⟨List.mem_of_getElem? (i := 1363) (by decide +kernel), List.mem_of_getElem? (i := 73) (by decide +kernel), ⟨by decide, by decide⟩, by decide +kernel⟩, List.mem_of_getElem? (i := 1361) (by decide +kernel), List.mem_of_getElem? (i := 1362) (by decide +kernel)⟩
abbrev M_Mo_inside : sp_Me := (yX12_inside, cX12_inside, 3, (Option.some Jvm.ClassFile.FieldType.boolean), 1, 22)
theorem ok_Mo_inside : sp_okV M_Mo_inside 0 := ⟨⟨List.mem_of_getElem? (i := 1367) (by decide +kernel), List.mem_of_getElem? (i := 73) (by decide +kernel), ⟨by decide, by decide⟩, by decide +kernel⟩, List.mem_of_getElem? (i := 1365) (by decide +kernel), List.mem_of_getElem? (i := 1366) (by decide +kernel)⟩
abbrev M_Mo_told : sp_Me := (yX12_told, cX12_told, 2, (Option.some Jvm.ClassFile.FieldType.int), 0, 0)
theorem ok_Mo_told : sp_okV M_Mo_told 1 := ⟨⟨List.mem_of_getElem? (i := 1371) (by decide +kernel), List.mem_of_getElem? (i := 73) (by decide +kernel), ⟨by decide, by decide⟩, by decide +kernel⟩, List.mem_of_getElem? (i := 1369) (by decide +kernel), List.mem_of_getElem? (i := 1370) (by decide +kernel)⟩
abbrev M_Char_isValidCodePoint : sp_Me := (yJ11_isValidCodePoint_9a6ad, cJ11_isValidCodePoint_9a6ad, 2, (Option.some Jvm.ClassFile.FieldType.boolean), 0, 0)
theorem ok_Char_isValidCodePoint : sp_okS M_Char_isValidCodePoint 1 := ⟨⟨List.mem_of_getElem? (i := 624) (by decide +kernel), List.mem_of_getElem? (i := 79) (by decide +kernel), ⟨by decide, by decide⟩, by decide +kernel⟩, List.mem_of_getElem? (i := 623) (by decide +kernel)⟩
abbrev M_Char_highSurrogate : sp_Me := (yJ11_highSurrogate_5068e, cJ11_highSurrogate_5068e, 1, (Option.some Jvm.ClassFile.FieldType.char), 0, 0)
theorem ok_Char_highSurrogate : sp_okS M_Char_highSurrogate 1 := ⟨⟨List.mem_of_getElem? (i := 627) (by decide +kernel), List.mem_of_getElem? (i := 79) (by decide +kernel), ⟨by decide, by decide⟩, by decide +kernel⟩, List.mem_of_getElem? (i := 626) (by decide +kernel)⟩
abbrev M_Char_lowSurrogate : sp_Me := (yJ11_lowSurrogate_5068e, cJ11_lowSurrogate_5068e, 1, (Option.some Jvm.ClassFile.FieldType.char), 0, 0)
theorem ok_Char_lowSurrogate : sp_okS M_Char_lowSurrogate 1 := ⟨⟨List.mem_of_getElem? (i := 631) (by decide +kernel), List.mem_of_getElem? (i := 79) (by decide +kernel), ⟨by decide, by decide⟩, by decide +kernel⟩, List.mem_of_getElem? (i := 630) (by decide +kernel)⟩
abbrev M_Math_max : sp_Me := (yJ9_max_7cf53, cJ9_max_7cf53, 2, (Option.some Jvm.ClassFile.FieldType.int), 0, 0)
theorem ok_Math_max : sp_okS M_Math_max 2 := ⟨⟨List.mem_of_getElem? (i := 201) (by decide +kernel), List.mem_of_getElem? (i := 67) (by decide +kernel), ⟨by decide, by decide⟩, by decide +kernel⟩, List.mem_of_getElem? (i := 200) (by decide +kernel)⟩
abbrev M_Math_min : sp_Me := (yJ9_min_7cf53, cJ9_min_7cf53, 2, (Option.some Jvm.ClassFile.FieldType.int), 0, 0)
theorem ok_Math_min : sp_okS M_Math_min 2 := ⟨⟨List.mem_of_getElem? (i := 204) (by decide +kernel), List.mem_of_getElem? (i := 67) (by decide +kernel), ⟨by decide, by decide⟩, by decide +kernel⟩, List.mem_of_getElem? (i := 203) (by decide +kernel)⟩
abbrev M_String_length : sp_Me := (yJ0_length_8abf5, cJ0_length_8abf5, 1, (Option.some Jvm.ClassFile.FieldType.int), 1, 20)
theorem ok_String_length : sp_okV M_String_length 0 := ⟨⟨List.mem_of_getElem? (i := 568) (by decide +kernel), List.mem_of_getElem? (i := 76) (by decide +kernel), ⟨by decide, by decide⟩, by decide +kernel⟩, List.mem_of_getElem? (i := 566) (by decide +kernel), List.mem_of_getElem? (i := 567) (by decide +kernel)⟩
abbrev M_String_charAt : sp_Me := (yJ0_charAt_5068e, cJ0_charAt_5068e, 2, (Option.some Jvm.ClassFile.FieldType.char), 4, 85)
theorem ok_String_charAt : sp_okV M_String_charAt 1 := ⟨⟨List.mem_of_getElem? (i := 650) (by decide +kernel), List.mem_of_getElem? (i := 76) (by decide +kernel), ⟨by decide, by decide⟩, by decide +kernel⟩, List.mem_of_getElem? (i := 648) (by decide +kernel), List.mem_of_getElem? (i := 649) (by decide +kernel)⟩
abbrev M_String_indexOf1 : sp_Me := (yJ0_indexOf_0f7a4, cJ0_indexOf_0f7a4, 2, (Option.some Jvm.ClassFile.FieldType.int), 6, 138)
theorem ok_String_indexOf1 : sp_okV M_String_indexOf1 1 := ⟨⟨List.mem_of_getElem? (i := 554) (by decide +kernel), List.mem_of_getElem? (i := 76) (by decide +kernel), ⟨by decide, by decide⟩, by decide +kernel⟩, List.mem_of_getElem? (i := 552) (by decide +kernel), List.mem_of_getElem? (i := 553) (by decide +kernel)⟩
abbrev M_String_indexOf2 : sp_Me := (yJ0_indexOf_7cf53, cJ0_indexOf_7cf53, 3, (Option.some Jvm.ClassFile.FieldType.int), 5, 116)
theorem ok_String_indexOf2 : sp_okV M_String_indexOf2 2 := ⟨⟨List.mem_of_getElem? (i := 558) (by decide +kernel), List.mem_of_getElem? (i := 76) (by decide +kernel), ⟨by decide, by decide⟩, by decide +kernel⟩, List.mem_of_getElem? (i := 556) (by decide +kernel), List.mem_of_getElem? (i := 557) (by decide +kernel)⟩
abbrev M_String_coder : sp_Me := (yJ0_coder_7d493, cJ0_coder_7d493, 1, (Option.some Jvm.ClassFile.FieldType.byte), 0, 0)
theorem ok_String_coder : sp_okV M_String_coder 0 := ⟨⟨List.mem_of_getElem? (i := 572) (by decide +kernel), List.mem_of_getElem? (i := 76) (by decide +kernel), ⟨by decide, by decide⟩, by decide +kernel⟩, List.mem_of_getElem? (i := 570) (by decide +kernel), List.mem_of_getElem? (i := 571) (by decide +kernel)⟩
abbrev M_String_isLatin1 : sp_Me := (yJ0_isLatin1_aae02, cJ0_isLatin1_aae02, 1, (Option.some Jvm.ClassFile.FieldType.boolean), 0, 0)
theorem ok_String_isLatin1 : sp_okV M_String_isLatin1 0 := ⟨⟨List.mem_of_getElem? (i := 562) (by decide +kernel), List.mem_of_getElem? (i := 76) (by decide +kernel), ⟨by decide, by decide⟩, by decide +kernel⟩, List.mem_of_getElem? (i := 560) (by decide +kernel), List.mem_of_getElem? (i := 561) (by decide +kernel)⟩
abbrev M_String_checkIndex : sp_Me := (yJ0_checkIndex_df160, cJ0_checkIndex_df160, 2, (Option.none : Option Jvm.ClassFile.FieldType), 1, 22)
theorem ok_String_checkIndex : sp_okS M_String_checkIndex 2 := ⟨⟨List.mem_of_getElem? (i := 656) (by decide +kernel), List.mem_of_getElem? (i := 76) (by decide +kernel), ⟨by decide, by decide⟩, by decide +kernel⟩, List.mem_of_getElem? (i := 655) (by decide +kernel)⟩
abbrev M_String_checkBoundsBeginEnd : sp_Me := (yJ0_checkBoundsBeginEnd_23922, cJ0_checkBoundsBeginEnd_23922, 3, (Option.none : Option Jvm.ClassFile.FieldType), 1, 23)
theorem ok_String_checkBoundsBeginEnd : sp_okS M_String_checkBoundsBeginEnd 3 := ⟨⟨List.mem_of_getElem? (i := 601) (by decide +kernel), List.mem_of_getElem? (i := 76) (by decide +kernel), ⟨by decide, by decide⟩, by decide +kernel⟩, List.mem_of_getElem? (i := 600) (by decide +kernel)⟩
abbrev M_Latin1_charAt : sp_Me := (yJ1_charAt_3b067, cJ1_charAt_3b067, 2, (Option.some Jvm.ClassFile.FieldType.char), 2, 43)
theorem ok_Latin1_charAt : sp_okS M_Latin1_charAt 2 := ⟨⟨List.mem_of_getElem? (i := 653) (by decide +kernel), List.mem_of_getElem? (i := 77) (by decide +kernel), ⟨by decide, by decide⟩, by decide +kernel⟩, List.mem_of_getElem? (i := 652) (by decide +kernel)⟩
abbrev M_Latin1_canEncode : sp_Me := (yJ1_canEncode_9a6ad, cJ1_canEncode_9a6ad, 1, (Option.some Jvm.ClassFile.FieldType.boolean), 0, 0)
theorem ok_Latin1_canEncode : sp_okS M_Latin1_canEncode 1 := ⟨⟨List.mem_of_getElem? (i := 578) (by decide +kernel), List.mem_of_getElem? (i := 77) (by decide +kernel), ⟨by decide, by decide⟩, by decide +kernel⟩, List.mem_of_getElem? (i := 577) (by decide +kernel)⟩
abbrev M_Latin1_indexOf : sp_Me := (yJ1_indexOf_4cfef, cJ1_indexOf_4cfef, 4, (Option.some Jvm.ClassFile.FieldType.int), 1, 25)
theorem ok_Latin1_indexOf : sp_okS M_Latin1_indexOf 4 := ⟨⟨List.mem_of_getElem? (i := 575) (by decide +kernel), List.mem_of_getElem? (i := 77) (by decide +kernel), ⟨by decide, by decide⟩, by decide +kernel⟩, List.mem_of_getElem? (i := 574) (by decide +kernel)⟩
abbrev M_Latin1_indexOfChar : sp_Me := (yJ1_indexOfChar_4cfef, cJ1_indexOfChar_4cfef, 6, (Option.some Jvm.ClassFile.FieldType.int), 0, 0)
theorem ok_Latin1_indexOfChar : sp_okS M_Latin1_indexOfChar 4 := ⟨⟨List.mem_of_getElem? (i := 583) (by decide +kernel), List.mem_of_getElem? (i := 77) (by decide +kernel), ⟨by decide, by decide⟩, by decide +kernel⟩, List.mem_of_getElem? (i := 582) (by decide +kernel)⟩
abbrev M_UTF16_getChar : sp_Me := (yJ2_getChar_3b067, cJ2_getChar_3b067, 2, (Option.some Jvm.ClassFile.FieldType.char), 1, 20)
theorem ok_UTF16_getChar : sp_okS M_UTF16_getChar 2 := ⟨⟨List.mem_of_getElem? (i := 612) (by decide +kernel), List.mem_of_getElem? (i := 78) (by decide +kernel), ⟨by decide, by decide⟩, by decide +kernel⟩, List.mem_of_getElem? (i := 611) (by decide +kernel)⟩
abbrev M_UTF16_length : sp_Me := (yJ2_length_9d52b, cJ2_length_9d52b, 1, (Option.some Jvm.ClassFile.FieldType.int), 0, 0)
theorem ok_UTF16_length : sp_okS M_UTF16_length 1 := ⟨⟨List.mem_of_getElem? (i := 598) (by decide +kernel), List.mem_of_getElem? (i := 78) (by decide +kernel), ⟨by decide, by decide⟩, by decide +kernel⟩, List.mem_of_getElem? (i := 597) (by decide +kernel)⟩
abbrev M_UTF16_indexOf : sp_Me := (yJ2_indexOf_4cfef, cJ2_indexOf_4cfef, 4, (Option.some Jvm.ClassFile.FieldType.int), 4, 93)
theorem ok_UTF16_indexOf : sp_okS M_UTF16_indexOf 4 := ⟨⟨List.mem_of_getElem? (i := 586) (by decide +kernel), List.mem_of_getElem? (i := 78) (by decide +kernel), ⟨by decide, by decide⟩, by decide +kernel⟩, List.mem_of_getElem? (i := 585) (by decide +kernel)⟩
abbrev M_UTF16_indexOfChar : sp_Me := (yJ2_indexOfChar_4cfef, cJ2_indexOfChar_4cfef, 4, (Option.some Jvm.ClassFile.FieldType.int), 3, 67)
theorem ok_UTF16_indexOfChar : sp_okS M_UTF16_indexOfChar 4 := ⟨⟨List.mem_of_getElem? (i := 592) (by decide +kernel), List.mem_of_getElem? (i := 78) (by decide +kernel), ⟨by decide, by decide⟩, by decide +kernel⟩, List.mem_of_getElem? (i := 591) (by decide +kernel)⟩
abbrev M_UTF16_indexOfCharUnsafe : sp_Me := (yJ2_indexOfCharUnsafe_4cfef, cJ2_indexOfCharUnsafe_4cfef, 5, (Option.some Jvm.ClassFile.FieldType.int), 2, 41)
theorem ok_UTF16_indexOfCharUnsafe : sp_okS M_UTF16_indexOfCharUnsafe 4 := ⟨⟨List.mem_of_getElem? (i := 609) (by decide +kernel), List.mem_of_getElem? (i := 78) (by decide +kernel), ⟨by decide, by decide⟩, by decide +kernel⟩, List.mem_of_getElem? (i := 608) (by decide +kernel)⟩
abbrev M_UTF16_indexOfSupplementary : sp_Me := (yJ2_indexOfSupplementary_4cfef, cJ2_indexOfSupplementary_4cfef, 7, (Option.some Jvm.ClassFile.FieldType.int), 3, 67)
theorem ok_UTF16_indexOfSupplementary : sp_okS M_UTF16_indexOfSupplementary 4 := ⟨⟨List.mem_of_getElem? (i := 621) (by decide +kernel), List.mem_of_getElem? (i := 78) (by decide +kernel), ⟨by decide, by decide⟩, by decide +kernel⟩, List.mem_of_getElem? (i := 620) (by decide +kernel)⟩
abbrev M_UTF16_charAt : sp_Me := (yJ2_charAt_3b067, cJ2_charAt_3b067, 2, (Option.some Jvm.ClassFile.FieldType.char), 3, 64)
theorem ok_UTF16_charAt : sp_okS M_UTF16_charAt 2 := ⟨⟨List.mem_of_getElem? (i := 660) (by decide +kernel), List.mem_of_getElem? (i := 78) (by decide +kernel), ⟨by decide, by decide⟩, by decide +kernel⟩, List.mem_of_getElem? (i := 659) (by decide +kernel)⟩
abbrev M_UTF16_checkIndex : sp_Me := (yJ2_checkIndex_2214a, cJ2_checkIndex_2214a, 2, (Option.none : Option Jvm.ClassFile.FieldType), 2, 43)
theorem ok_UTF16_checkIndex : sp_okS M_UTF16_checkIndex 2 := ⟨⟨List.mem_of_getElem? (i := 663) (by decide +kernel), List.mem_of_getElem? (i := 78) (by decide +kernel), ⟨by decide, by decide⟩, by decide +kernel⟩, List.mem_of_getElem? (i := 662) (by decide +kernel)⟩
abbrev M_UTF16_checkBoundsBeginEnd : sp_Me := (yJ2_checkBoundsBeginEnd_d044e, cJ2_checkBoundsBeginEnd_d044e, 3, (Option.none : Option Jvm.ClassFile.FieldType), 2, 45)
theorem ok_UTF16_checkBoundsBeginEnd : sp_okS M_UTF16_checkBoundsBeginEnd 3 := ⟨⟨List.mem_of_getElem? (i := 595) (by decide +kernel), List.mem_of_getElem? (i := 78) (by decide +kernel), ⟨by decide, by decide⟩, by decide +kernel⟩, List.mem_of_getElem? (i := 594) (by decide +kernel)⟩
abbrev M_AColl_init : sp_Me := (yJxa1e45_init_da8c8, cJxa1e45_init_da8c8, 1, (Option.none : Option Jvm.ClassFile.FieldType), 1, 14)
theorem ok_AColl_init : sp_okI M_AColl_init 0 := ⟨⟨List.mem_of_getElem? (i := 145) (by decide +kernel), List.mem_of_getElem? (i := 60) (by decide +kernel), ⟨by decide, by decide⟩, by decide +kernel⟩, rfl, List.mem_of_getElem? (i := 144) (by decide +kernel)⟩
abbrev M_AList_init : sp_Me := (yJxc12de_init_da8c8, cJxc12de_init_da8c8, 1, (Option.none : Option Jvm.ClassFile.FieldType), 2, 34)
theorem ok_AList_init : sp_okI M_AList_init 0 := ⟨⟨List.mem_of_getElem? (i := 142) (by decide +kernel), List.mem_of_getElem? (i := 61) (by decide +kernel), ⟨by decide, by decide⟩, by decide +kernel⟩, rfl, List.mem_of_getElem? (i := 141) (by decide +kernel)⟩
abbrev M_List_init : sp_Me := (yJx4a65c_init_da8c8, cJx4a65c_init_da8c8, 1, (Option.none : Option Jvm.ClassFile.FieldType), 3, 54)
theorem ok_List_init : sp_okI M_List_init 0 := ⟨⟨List.mem_of_getElem? (i := 139) (by decide +kernel), List.mem_of_getElem? (i := 62) (by decide +kernel), ⟨by decide, by decide⟩, by decide +kernel⟩, rfl, List.mem_of_getElem? (i := 138) (by decide +kernel)⟩
abbrev M_List_grow2 : sp_Me := (yJx4a65c_grow_92f84, cJx4a65c_grow_92f84, 4, (Option.some (Jvm.ClassFile.FieldType.array (Jvm.ClassFile.FieldType.object "java/lang/Object"))), 3, 84)
theorem ok_List_grow2 : sp_okV M_List_grow2 1 := ⟨⟨List.mem_of_getElem? (i := 285) (by decide +kernel), List.mem_of_getElem? (i := 62) (by decide +kernel), ⟨by decide, by decide⟩, by decide +kernel⟩, List.mem_of_getElem? (i := 284) (by decide +kernel), List.mem_of_getElem? (i := 2) (by decide +kernel)⟩
abbrev M_List_grow1 : sp_Me := (yJx4a65c_grow_d5877, cJx4a65c_grow_d5877, 1, (Option.some (Jvm.ClassFile.FieldType.array (Jvm.ClassFile.FieldType.object "java/lang/Object"))), 4, 107)
theorem ok_List_grow1 : sp_okV M_List_grow1 0 := ⟨⟨List.mem_of_getElem? (i := 281) (by decide +kernel), List.mem_of_getElem? (i := 62) (by decide +kernel), ⟨by decide, by decide⟩, by decide +kernel⟩, List.mem_of_getElem? (i := 280) (by decide +kernel), List.mem_of_getElem? (i := 1) (by decide +kernel)⟩
abbrev M_List_size : sp_Me := (yJx4a65c_size_8abf5, cJx4a65c_size_8abf5, 1, (Option.some Jvm.ClassFile.FieldType.int), 0, 0)
theorem ok_List_size : sp_okV M_List_size 0 := ⟨⟨List.mem_of_getElem? (i := 510) (by decide +kernel), List.mem_of_getElem? (i := 62) (by decide +kernel), ⟨by decide, by decide⟩, by decide +kernel⟩, List.mem_of_getElem? (i := 508) (by decide +kernel), List.mem_of_getElem? (i := 509) (by decide +kernel)⟩
abbrev M_List_isEmpty : sp_Me := (yJx4a65c_isEmpty_aae02, cJx4a65c_isEmpty_aae02, 1, (Option.some Jvm.ClassFile.FieldType.boolean), 0, 0)
theorem ok_List_isEmpty : sp_okV M_List_isEmpty 0 := ⟨⟨List.mem_of_getElem? (i := 498) (by decide +kernel), List.mem_of_getElem? (i := 62) (by decide +kernel), ⟨by decide, by decide⟩, by decide +kernel⟩, List.mem_of_getElem? (i := 496) (by decide +kernel), List.mem_of_getElem? (i := 497) (by decide +kernel)⟩
abbrev M_List_elementData : sp_Me := (yJx4a65c_elementData_915e3, cJx4a65c_elementData_915e3, 2, (Option.some (Jvm.ClassFile.FieldType.object "java/lang/Object")), 0, 0)
theorem ok_List_elementData : sp_okV M_List_elementData 1 := ⟨⟨List.mem_of_getElem? (i := 524) (by decide +kernel), List.mem_of_getElem? (i := 62) (by decide +kernel), ⟨by decide, by decide⟩, by decide +kernel⟩, List.mem_of_getElem? (i := 522) (by decide +kernel), List.mem_of_getElem? (i := 523) (by decide +kernel)⟩
abbrev M_List_get : sp_Me := (yJx4a65c_get_915e3, cJx4a65c_get_915e3, 2, (Option.some (Jvm.ClassFile.FieldType.object "java/lang/Object")), 2, 43)
theorem ok_List_get : sp_okV M_List_get 1 := ⟨⟨List.mem_of_getElem? (i := 514) (by decide +kernel), List.mem_of_getElem? (i := 62) (by decide +kernel), ⟨by decide, by decide⟩, by decide +kernel⟩, List.mem_of_getElem? (i := 512) (by decide +kernel), List.mem_of_getElem? (i := 513) (by decide +kernel)⟩
abbrev M_List_add2 : sp_Me := (yJx4a65c_add_72be8, cJx4a65c_add_72be8, 4, (Option.none : Option Jvm.ClassFile.FieldType), 5, 127)
theorem ok_List_add2 : sp_okV M_List_add2 3 := ⟨⟨List.mem_of_getElem? (i := 277) (by decide +kernel), List.mem_of_getElem? (i := 62) (by decide +kernel), ⟨by decide, by decide⟩, by decide +kernel⟩, List.mem_of_getElem? (i := 276) (by decide +kernel), List.mem_of_getElem? (i := 0) (by decide +kernel)⟩
abbrev M_List_add1 : sp_Me := (yJx4a65c_add_9ea2d, cJx4a65c_add_9ea2d, 2, (Option.some Jvm.ClassFile.FieldType.boolean), 6, 150)
theorem ok_List_add1 : sp_okV M_List_add1 1 := ⟨⟨List.mem_of_getElem? (i := 273) (by decide +kernel), List.mem_of_getElem? (i := 62) (by decide +kernel), ⟨by decide, by decide⟩, by decide +kernel⟩, List.mem_of_getElem? (i := 271) (by decide +kernel), List.mem_of_getElem? (i := 272) (by decide +kernel)⟩
abbrev M_List_remove : sp_Me := (yJx4a65c_remove_915e3, cJx4a65c_remove_915e3, 4, (Option.some (Jvm.ClassFile.FieldType.object "java/lang/Object")), 2, 63)
theorem ok_List_remove : sp_okV M_List_remove 1 := ⟨⟨List.mem_of_getElem? (i := 877) (by decide +kernel), List.mem_of_getElem? (i := 62) (by decide +kernel), ⟨by decide, by decide⟩, by decide +kernel⟩, List.mem_of_getElem? (i := 875) (by decide +kernel), List.mem_of_getElem? (i := 876) (by decide +kernel)⟩
abbrev M_List_fastRemove : sp_Me := (yJx4a65c_fastRemove_b59b0, cJx4a65c_fastRemove_b59b0, 4, (Option.none : Option Jvm.ClassFile.FieldType), 1, 40)
theorem ok_List_fastRemove : sp_okV M_List_fastRemove 2 := ⟨⟨List.mem_of_getElem? (i := 881) (by decide +kernel), List.mem_of_getElem? (i := 62) (by decide +kernel), ⟨by decide, by decide⟩, by decide +kernel⟩, List.mem_of_getElem? (i := 880) (by decide +kernel), List.mem_of_getElem? (i := 24) (by decide +kernel)⟩
abbrev M_List_clear : sp_Me := (yJx4a65c_clear_da8c8, cJx4a65c_clear_da8c8, 4, (Option.none : Option Jvm.ClassFile.FieldType), 0, 0)
theorem ok_List_clear : sp_okV M_List_clear 0 := ⟨⟨List.mem_of_getElem? (i := 860) (by decide +kernel), List.mem_of_getElem? (i := 62) (by decide +kernel), ⟨by decide, by decide⟩, by decide +kernel⟩, List.mem_of_getElem? (i := 858) (by decide +kernel), List.mem_of_getElem? (i := 859) (by decide +kernel)⟩
abbrev M_Arrays_copyOf1 : sp_Me := (yJ7_copyOf_1904c, cJ7_copyOf_1904c, 2, (Option.some (Jvm.ClassFile.FieldType.array (Jvm.ClassFile.FieldType.object "java/lang/Object"))), 2, 63)
theorem ok_Arrays_copyOf1 : sp_okS M_Arrays_copyOf1 2 := ⟨⟨List.mem_of_getElem? (i := 296) (by decide +kernel), List.mem_of_getElem? (i := 69) (by decide +kernel), ⟨by decide, by decide⟩, by decide +kernel⟩, List.mem_of_getElem? (i := 295) (by decide +kernel)⟩
abbrev M_Arrays_copyOf2 : sp_Me := (yJ7_copyOf_6403c, cJ7_copyOf_6403c, 4, (Option.some (Jvm.ClassFile.FieldType.array (Jvm.ClassFile.FieldType.object "java/lang/Object"))), 1, 40)
theorem ok_Arrays_copyOf2 : sp_okS M_Arrays_copyOf2 3 := ⟨⟨List.mem_of_getElem? (i := 317) (by decide +kernel), List.mem_of_getElem? (i := 69) (by decide +kernel), ⟨by decide, by decide⟩, by decide +kernel⟩, List.mem_of_getElem? (i := 316) (by decide +kernel)⟩
abbrev M_Objects_checkIndex : sp_Me := (yJ15_checkIndex_7cf53, cJ15_checkIndex_7cf53, 2, (Option.some Jvm.ClassFile.FieldType.int), 1, 22)
theorem ok_Objects_checkIndex : sp_okS M_Objects_checkIndex 2 := ⟨⟨List.mem_of_getElem? (i := 517) (by decide +kernel), List.mem_of_getElem? (i := 74) (by decide +kernel), ⟨by decide, by decide⟩, by decide +kernel⟩, List.mem_of_getElem? (i := 516) (by decide +kernel)⟩
abbrev M_ASup_newLength : sp_Me := (yJ8_newLength_cabcc, cJ8_newLength_cabcc, 4, (Option.some Jvm.ClassFile.FieldType.int), 1, 22)
theorem ok_ASup_newLength : sp_okS M_ASup_newLength 3 := ⟨⟨List.mem_of_getElem? (i := 288) (by decide +kernel), List.mem_of_getElem? (i := 68) (by decide +kernel), ⟨by decide, by decide⟩, by decide +kernel⟩, List.mem_of_getElem? (i := 287) (by decide +kernel)⟩
abbrev M_ASup_hugeLength : sp_Me := (yJ8_hugeLength_7cf53, cJ8_hugeLength_7cf53, 3, (Option.some Jvm.ClassFile.FieldType.int), 0, 0)
theorem ok_ASup_hugeLength : sp_okS M_ASup_hugeLength 2 := ⟨⟨List.mem_of_getElem? (i := 293) (by decide +kernel), List.mem_of_getElem? (i := 68) (by decide +kernel), ⟨by decide, by decide⟩, by decide +kernel⟩, List.mem_of_getElem? (i := 292) (by decide +kernel)⟩
abbrev M_Precond_checkIndex : sp_Me := (yJ3_checkIndex_8e157, cJ3_checkIndex_8e157, 3, (Option.some Jvm.ClassFile.FieldType.int), 0, 0)
theorem ok_Precond_checkIndex : sp_okS M_Precond_checkIndex 3 := ⟨⟨List.mem_of_getElem? (i := 520) (by decide +kernel), List.mem_of_getElem? (i := 75) (by decide +kernel), ⟨by decide, by decide⟩, by decide +kernel⟩, List.mem_of_getElem? (i := 519) (by decide +kernel)⟩
abbrev M_Precond_checkFromToIndex : sp_Me := (yJ3_checkFromToIndex_8c36e, cJ3_checkFromToIndex_8c36e, 4, (Option.some Jvm.ClassFile.FieldType.int), 0, 0)
theorem ok_Precond_checkFromToIndex : sp_okS M_Precond_checkFromToIndex 4 := ⟨⟨List.mem_of_getElem? (i := 606) (by decide +kernel), List.mem_of_getElem? (i := 75) (by decide +kernel), ⟨by decide, by decide⟩, by decide +kernel⟩, List.mem_of_getElem? (i := 605) (by decide +kernel)⟩
abbrev M_Law_cell : sp_Me := (yL_cell, cL_cell, 2, (Option.some Jvm.ClassFile.FieldType.int), 0, 0)
theorem ok_Law_cell : sp_okS M_Law_cell 2 := ⟨⟨List.mem_of_getElem? (i := 1064) (by decide +kernel), List.mem_of_getElem? (i := 56) (by decide +kernel), ⟨by decide, by decide⟩, by decide +kernel⟩, List.mem_of_getElem? (i := 1063) (by decide +kernel)⟩
theorem lk_Law_15 : Cond.methodLink "SafePathsLaw" 15 M_SP_init.1 ∈ lw_tbl := List.mem_of_getElem? (i := 85) (by decide +kernel)
theorem lk_SP_1 : Cond.methodLink "SafePaths" 1 Lib.objectInit ∈ lw_tbl := List.mem_of_getElem? (i := 88) (by decide +kernel)
theorem lk_SP_9 : Cond.methodLink "SafePaths" 9 M_Rules_init.1 ∈ lw_tbl := List.mem_of_getElem? (i := 93) (by decide +kernel)
theorem lk_Rules_3 : Cond.methodLink "SafePaths$Rules" 3 Lib.objectInit ∈ lw_tbl := List.mem_of_getElem? (i := 96) (by decide +kernel)
theorem lk_SP_20 : Cond.methodLink "SafePaths" 20 M_Draft_init.1 ∈ lw_tbl := List.mem_of_getElem? (i := 123) (by decide +kernel)
theorem lk_Draft_3 : Cond.methodLink "SafePaths$Draft" 3 Lib.objectInit ∈ lw_tbl := List.mem_of_getElem? (i := 126) (by decide +kernel)
theorem lk_SP_27 : Cond.methodLink "SafePaths" 27 M_List_init.1 ∈ lw_tbl := List.mem_of_getElem? (i := 137) (by decide +kernel)
theorem lk_List_1 : Cond.methodLink "java/util/ArrayList" 1 M_AList_init.1 ∈ lw_tbl := List.mem_of_getElem? (i := 140) (by decide +kernel)
theorem lk_AList_1 : Cond.methodLink "java/util/AbstractList" 1 M_AColl_init.1 ∈ lw_tbl := List.mem_of_getElem? (i := 143) (by decide +kernel)
theorem lk_AColl_1 : Cond.methodLink "java/util/AbstractCollection" 1 Lib.objectInit ∈ lw_tbl := List.mem_of_getElem? (i := 146) (by decide +kernel)
theorem lk_SP_40 : Cond.methodLink "SafePaths" 40 M_Tree_init.1 ∈ lw_tbl := List.mem_of_getElem? (i := 163) (by decide +kernel)
theorem lk_Tree_1 : Cond.methodLink "SafePaths$Tree" 1 Lib.objectInit ∈ lw_tbl := List.mem_of_getElem? (i := 166) (by decide +kernel)
theorem lk_Tree_15 : Cond.methodLink "SafePaths$Tree" 15 M_List_init.1 ∈ lw_tbl := List.mem_of_getElem? (i := 168) (by decide +kernel)
theorem lk_Tree_27 : Cond.methodLink "SafePaths$Tree" 27 M_Body_init.1 ∈ lw_tbl := List.mem_of_getElem? (i := 172) (by decide +kernel)
theorem lk_Body_1 : Cond.methodLink "SafePaths$Body" 1 Lib.objectInit ∈ lw_tbl := List.mem_of_getElem? (i := 175) (by decide +kernel)
theorem lk_Tree_40 : Cond.methodLink "SafePaths$Tree" 40 M_Name_init.1 ∈ lw_tbl := List.mem_of_getElem? (i := 195) (by decide +kernel)
theorem lk_Name_3 : Cond.methodLink "SafePaths$Name" 3 Lib.objectInit ∈ lw_tbl := List.mem_of_getElem? (i := 198) (by decide +kernel)
theorem lk_Name_9 : Cond.methodLink "SafePaths$Name" 9 M_Math_max.1 ∈ lw_tbl := List.mem_of_getElem? (i := 199) (by decide +kernel)
theorem lk_Name_15 : Cond.methodLink "SafePaths$Name" 15 M_Math_min.1 ∈ lw_tbl := List.mem_of_getElem? (i := 202) (by decide +kernel)
theorem lk_Name_27 : Cond.methodLink "SafePaths$Name" 27 M_Name_smallLetter.1 ∈ lw_tbl := List.mem_of_getElem? (i := 205) (by decide +kernel)
theorem lk_Tree_43 : Cond.methodLink "SafePaths$Tree" 43 M_Node_init.1 ∈ lw_tbl := List.mem_of_getElem? (i := 215) (by decide +kernel)
theorem lk_Node_1 : Cond.methodLink "SafePaths$Node" 1 Lib.objectInit ∈ lw_tbl := List.mem_of_getElem? (i := 218) (by decide +kernel)
theorem lk_Tree_68 : Cond.methodLink "SafePaths$Tree" 68 M_List_add1.1 ∈ lw_tbl := List.mem_of_getElem? (i := 270) (by decide +kernel)
theorem lk_List_131 : Cond.methodLink "java/util/ArrayList" 131 M_List_add2.1 ∈ lw_tbl := List.mem_of_getElem? (i := 274) (by decide +kernel)
theorem lk_List_129 : Cond.methodLink "java/util/ArrayList" 129 M_List_grow1.1 ∈ lw_tbl := List.mem_of_getElem? (i := 278) (by decide +kernel)
theorem lk_List_69 : Cond.methodLink "java/util/ArrayList" 69 M_List_grow2.1 ∈ lw_tbl := List.mem_of_getElem? (i := 282) (by decide +kernel)
theorem lk_List_73 : Cond.methodLink "java/util/ArrayList" 73 M_ASup_newLength.1 ∈ lw_tbl := List.mem_of_getElem? (i := 286) (by decide +kernel)
theorem lk_ASup_194 : Cond.methodLink "jdk/internal/util/ArraysSupport" 194 M_Math_max.1 ∈ lw_tbl := List.mem_of_getElem? (i := 289) (by decide +kernel)
theorem lk_ASup_201 : Cond.methodLink "jdk/internal/util/ArraysSupport" 201 M_ASup_hugeLength.1 ∈ lw_tbl := List.mem_of_getElem? (i := 291) (by decide +kernel)
theorem lk_List_66 : Cond.methodLink "java/util/ArrayList" 66 M_Arrays_copyOf1.1 ∈ lw_tbl := List.mem_of_getElem? (i := 294) (by decide +kernel)
theorem lk_Arrays_300 : Cond.methodLink "java/util/Arrays" 300 M_Arrays_copyOf2.1 ∈ lw_tbl := List.mem_of_getElem? (i := 315) (by decide +kernel)
theorem lk_Arrays_304 : Cond.methodLink "java/util/Arrays" 304 M_Math_min.1 ∈ lw_tbl := List.mem_of_getElem? (i := 321) (by decide +kernel)
theorem lk_List_79 : Cond.methodLink "java/util/ArrayList" 79 M_Math_max.1 ∈ lw_tbl := List.mem_of_getElem? (i := 325) (by decide +kernel)
theorem lk_SP_49 : Cond.methodLink "SafePaths" 49 M_Walk_init.1 ∈ lw_tbl := List.mem_of_getElem? (i := 354) (by decide +kernel)
theorem lk_Walk_3 : Cond.methodLink "SafePaths$Walk" 3 Lib.objectInit ∈ lw_tbl := List.mem_of_getElem? (i := 357) (by decide +kernel)
theorem lk_Walk_17 : Cond.methodLink "SafePaths$Walk" 17 M_List_init.1 ∈ lw_tbl := List.mem_of_getElem? (i := 359) (by decide +kernel)
theorem lk_SP_58 : Cond.methodLink "SafePaths" 58 M_Taking_init.1 ∈ lw_tbl := List.mem_of_getElem? (i := 378) (by decide +kernel)
theorem lk_Taking_3 : Cond.methodLink "SafePaths$Taking" 3 Lib.objectInit ∈ lw_tbl := List.mem_of_getElem? (i := 381) (by decide +kernel)
theorem lk_Taking_25 : Cond.methodLink "SafePaths$Taking" 25 M_List_init.1 ∈ lw_tbl := List.mem_of_getElem? (i := 383) (by decide +kernel)
theorem lk_Law_21 : Cond.methodLink "SafePathsLaw" 21 M_SP_put.1 ∈ lw_tbl := List.mem_of_getElem? (i := 458) (by decide +kernel)
theorem lk_SP_69 : Cond.methodLink "SafePaths" 69 M_Draft_append.1 ∈ lw_tbl := List.mem_of_getElem? (i := 462) (by decide +kernel)
theorem lk_Law_26 : Cond.methodLink "SafePathsLaw" 26 M_SP_path.1 ∈ lw_tbl := List.mem_of_getElem? (i := 466) (by decide +kernel)
theorem lk_SP_73 : Cond.methodLink "SafePaths" 73 M_Draft_cut.1 ∈ lw_tbl := List.mem_of_getElem? (i := 470) (by decide +kernel)
theorem lk_Draft_27 : Cond.methodLink "SafePaths$Draft" 27 M_List_init.1 ∈ lw_tbl := List.mem_of_getElem? (i := 475) (by decide +kernel)
theorem lk_Draft_19 : Cond.methodLink "SafePaths$Draft" 19 M_Rules_divides.1 ∈ lw_tbl := List.mem_of_getElem? (i := 476) (by decide +kernel)
theorem lk_Draft_28 : Cond.methodLink "SafePaths$Draft" 28 M_Draft_addUnlessPassedOver.1 ∈ lw_tbl := List.mem_of_getElem? (i := 480) (by decide +kernel)
theorem lk_Draft_34 : Cond.methodLink "SafePaths$Draft" 34 M_Name_init.1 ∈ lw_tbl := List.mem_of_getElem? (i := 485) (by decide +kernel)
theorem lk_Draft_37 : Cond.methodLink "SafePaths$Draft" 37 M_Name_isStay.1 ∈ lw_tbl := List.mem_of_getElem? (i := 486) (by decide +kernel)
theorem lk_Draft_41 : Cond.methodLink "SafePaths$Draft" 41 M_List_add1.1 ∈ lw_tbl := List.mem_of_getElem? (i := 490) (by decide +kernel)
theorem lk_SP_77 : Cond.methodLink "SafePaths" 77 M_SP_judgeAsPath.1 ∈ lw_tbl := List.mem_of_getElem? (i := 491) (by decide +kernel)
theorem lk_SP_241 : Cond.methodLink "SafePaths" 241 M_List_isEmpty.1 ∈ lw_tbl := List.mem_of_getElem? (i := 495) (by decide +kernel)
theorem lk_SP_120 : Cond.methodLink "SafePaths" 120 M_Draft_beginsWithDivider.1 ∈ lw_tbl := List.mem_of_getElem? (i := 499) (by decide +kernel)
theorem lk_SP_244 : Cond.methodLink "SafePaths" 244 M_Draft_beginsWithDrive.1 ∈ lw_tbl := List.mem_of_getElem? (i := 503) (by decide +kernel)
theorem lk_SP_81 : Cond.methodLink "SafePaths" 81 M_List_size.1 ∈ lw_tbl := List.mem_of_getElem? (i := 507) (by decide +kernel)
theorem lk_SP_135 : Cond.methodLink "SafePaths" 135 M_List_get.1 ∈ lw_tbl := List.mem_of_getElem? (i := 511) (by decide +kernel)
theorem lk_List_118 : Cond.methodLink "java/util/ArrayList" 118 M_Objects_checkIndex.1 ∈ lw_tbl := List.mem_of_getElem? (i := 515) (by decide +kernel)
theorem lk_Objects_105 : Cond.methodLink "java/util/Objects" 105 M_Precond_checkIndex.1 ∈ lw_tbl := List.mem_of_getElem? (i := 518) (by decide +kernel)
theorem lk_List_123 : Cond.methodLink "java/util/ArrayList" 123 M_List_elementData.1 ∈ lw_tbl := List.mem_of_getElem? (i := 521) (by decide +kernel)
theorem lk_SP_247 : Cond.methodLink "SafePaths" 247 M_Name_judge.1 ∈ lw_tbl := List.mem_of_getElem? (i := 526) (by decide +kernel)
theorem lk_Name_35 : Cond.methodLink "SafePaths$Name" 35 M_Name_isUp.1 ∈ lw_tbl := List.mem_of_getElem? (i := 530) (by decide +kernel)
theorem lk_Name_39 : Cond.methodLink "SafePaths$Name" 39 M_Name_hasControlByte.1 ∈ lw_tbl := List.mem_of_getElem? (i := 534) (by decide +kernel)
theorem lk_Name_48 : Cond.methodLink "SafePaths$Name" 48 M_Name_isOfOtherSystems.1 ∈ lw_tbl := List.mem_of_getElem? (i := 538) (by decide +kernel)
theorem lk_Name_51 : Cond.methodLink "SafePaths$Name" 51 M_Name_byteAt.1 ∈ lw_tbl := List.mem_of_getElem? (i := 542) (by decide +kernel)
theorem lk_Name_54 : Cond.methodLink "SafePaths$Name" 54 M_Name_hasMark.1 ∈ lw_tbl := List.mem_of_getElem? (i := 546) (by decide +kernel)
theorem lk_Name_62 : Cond.methodLink "SafePaths$Name" 62 M_String_indexOf1.1 ∈ lw_tbl := List.mem_of_getElem? (i := 551) (by decide +kernel)
theorem lk_String_633 : Cond.methodLink "java/lang/String" 633 M_String_indexOf2.1 ∈ lw_tbl := List.mem_of_getElem? (i := 555) (by decide +kernel)
theorem lk_String_492 : Cond.methodLink "java/lang/String" 492 M_String_isLatin1.1 ∈ lw_tbl := List.mem_of_getElem? (i := 559) (by decide +kernel)
theorem lk_String_505 : Cond.methodLink "java/lang/String" 505 M_String_length.1 ∈ lw_tbl := List.mem_of_getElem? (i := 565) (by decide +kernel)
theorem lk_String_335 : Cond.methodLink "java/lang/String" 335 M_String_coder.1 ∈ lw_tbl := List.mem_of_getElem? (i := 569) (by decide +kernel)
theorem lk_String_637 : Cond.methodLink "java/lang/String" 637 M_Latin1_indexOf.1 ∈ lw_tbl := List.mem_of_getElem? (i := 573) (by decide +kernel)
theorem lk_Latin1_88 : Cond.methodLink "java/lang/StringLatin1" 88 M_Latin1_canEncode.1 ∈ lw_tbl := List.mem_of_getElem? (i := 576) (by decide +kernel)
theorem lk_Latin1_92 : Cond.methodLink "java/lang/StringLatin1" 92 M_Math_max.1 ∈ lw_tbl := List.mem_of_getElem? (i := 579) (by decide +kernel)
theorem lk_Latin1_38 : Cond.methodLink "java/lang/StringLatin1" 38 M_Math_min.1 ∈ lw_tbl := List.mem_of_getElem? (i := 580) (by decide +kernel)
theorem lk_Latin1_95 : Cond.methodLink "java/lang/StringLatin1" 95 M_Latin1_indexOfChar.1 ∈ lw_tbl := List.mem_of_getElem? (i := 581) (by decide +kernel)
theorem lk_String_640 : Cond.methodLink "java/lang/String" 640 M_UTF16_indexOf.1 ∈ lw_tbl := List.mem_of_getElem? (i := 584) (by decide +kernel)
theorem lk_UTF16_224 : Cond.methodLink "java/lang/StringUTF16" 224 M_Math_max.1 ∈ lw_tbl := List.mem_of_getElem? (i := 587) (by decide +kernel)
theorem lk_UTF16_183 : Cond.methodLink "java/lang/StringUTF16" 183 M_Math_min.1 ∈ lw_tbl := List.mem_of_getElem? (i := 588) (by decide +kernel)
theorem lk_UTF16_228 : Cond.methodLink "java/lang/StringUTF16" 228 M_UTF16_indexOfChar.1 ∈ lw_tbl := List.mem_of_getElem? (i := 590) (by decide +kernel)
theorem lk_UTF16_96 : Cond.methodLink "java/lang/StringUTF16" 96 M_UTF16_checkBoundsBeginEnd.1 ∈ lw_tbl := List.mem_of_getElem? (i := 593) (by decide +kernel)
theorem lk_UTF16_48 : Cond.methodLink "java/lang/StringUTF16" 48 M_UTF16_length.1 ∈ lw_tbl := List.mem_of_getElem? (i := 596) (by decide +kernel)
theorem lk_UTF16_241 : Cond.methodLink "java/lang/StringUTF16" 241 M_String_checkBoundsBeginEnd.1 ∈ lw_tbl := List.mem_of_getElem? (i := 599) (by decide +kernel)
theorem lk_String_1062 : Cond.methodLink "java/lang/String" 1062 M_Precond_checkFromToIndex.1 ∈ lw_tbl := List.mem_of_getElem? (i := 604) (by decide +kernel)
theorem lk_UTF16_244 : Cond.methodLink "java/lang/StringUTF16" 244 M_UTF16_indexOfCharUnsafe.1 ∈ lw_tbl := List.mem_of_getElem? (i := 607) (by decide +kernel)
theorem lk_UTF16_71 : Cond.methodLink "java/lang/StringUTF16" 71 M_UTF16_getChar.1 ∈ lw_tbl := List.mem_of_getElem? (i := 610) (by decide +kernel)
theorem lk_UTF16_232 : Cond.methodLink "java/lang/StringUTF16" 232 M_UTF16_indexOfSupplementary.1 ∈ lw_tbl := List.mem_of_getElem? (i := 619) (by decide +kernel)
theorem lk_UTF16_164 : Cond.methodLink "java/lang/StringUTF16" 164 M_Char_isValidCodePoint.1 ∈ lw_tbl := List.mem_of_getElem? (i := 622) (by decide +kernel)
theorem lk_UTF16_157 : Cond.methodLink "java/lang/StringUTF16" 157 M_Char_highSurrogate.1 ∈ lw_tbl := List.mem_of_getElem? (i := 625) (by decide +kernel)
theorem lk_UTF16_161 : Cond.methodLink "java/lang/StringUTF16" 161 M_Char_lowSurrogate.1 ∈ lw_tbl := List.mem_of_getElem? (i := 629) (by decide +kernel)
theorem lk_Name_57 : Cond.methodLink "SafePaths$Name" 57 M_Name_isKeptWord.1 ∈ lw_tbl := List.mem_of_getElem? (i := 633) (by decide +kernel)
theorem lk_Name_67 : Cond.methodLink "SafePaths$Name" 67 M_Name_lengthToFirstDot.1 ∈ lw_tbl := List.mem_of_getElem? (i := 637) (by decide +kernel)
theorem lk_Name_73 : Cond.methodLink "SafePaths$Name" 73 M_Name_beginsWithOneOf.1 ∈ lw_tbl := List.mem_of_getElem? (i := 642) (by decide +kernel)
theorem lk_Name_79 : Cond.methodLink "SafePaths$Name" 79 M_String_length.1 ∈ lw_tbl := List.mem_of_getElem? (i := 646) (by decide +kernel)
theorem lk_Name_82 : Cond.methodLink "SafePaths$Name" 82 M_String_charAt.1 ∈ lw_tbl := List.mem_of_getElem? (i := 647) (by decide +kernel)
theorem lk_String_495 : Cond.methodLink "java/lang/String" 495 M_Latin1_charAt.1 ∈ lw_tbl := List.mem_of_getElem? (i := 651) (by decide +kernel)
theorem lk_Latin1_9 : Cond.methodLink "java/lang/StringLatin1" 9 M_String_checkIndex.1 ∈ lw_tbl := List.mem_of_getElem? (i := 654) (by decide +kernel)
theorem lk_String_1059 : Cond.methodLink "java/lang/String" 1059 M_Precond_checkIndex.1 ∈ lw_tbl := List.mem_of_getElem? (i := 657) (by decide +kernel)
theorem lk_String_498 : Cond.methodLink "java/lang/String" 498 M_UTF16_charAt.1 ∈ lw_tbl := List.mem_of_getElem? (i := 658) (by decide +kernel)
theorem lk_UTF16_67 : Cond.methodLink "java/lang/StringUTF16" 67 M_UTF16_checkIndex.1 ∈ lw_tbl := List.mem_of_getElem? (i := 661) (by decide +kernel)
theorem lk_UTF16_414 : Cond.methodLink "java/lang/StringUTF16" 414 M_String_checkIndex.1 ∈ lw_tbl := List.mem_of_getElem? (i := 664) (by decide +kernel)
theorem lk_SP_250 : Cond.methodLink "SafePaths" 250 M_SP_earlierOf.1 ∈ lw_tbl := List.mem_of_getElem? (i := 666) (by decide +kernel)
theorem lk_SP_254 : Cond.methodLink "SafePaths" 254 M_Math_min.1 ∈ lw_tbl := List.mem_of_getElem? (i := 669) (by decide +kernel)
theorem lk_SP_259 : Cond.methodLink "SafePaths" 259 M_Math_max.1 ∈ lw_tbl := List.mem_of_getElem? (i := 670) (by decide +kernel)
theorem lk_SP_87 : Cond.methodLink "SafePaths" 87 M_Parted_init.1 ∈ lw_tbl := List.mem_of_getElem? (i := 673) (by decide +kernel)
theorem lk_Parted_1 : Cond.methodLink "SafePaths$Parted" 1 Lib.objectInit ∈ lw_tbl := List.mem_of_getElem? (i := 676) (by decide +kernel)
theorem lk_Parted_29 : Cond.methodLink "SafePaths$Parted" 29 M_Name_init.1 ∈ lw_tbl := List.mem_of_getElem? (i := 679) (by decide +kernel)
theorem lk_SP_90 : Cond.methodLink "SafePaths" 90 M_List_add1.1 ∈ lw_tbl := List.mem_of_getElem? (i := 696) (by decide +kernel)
theorem lk_SP_94 : Cond.methodLink "SafePaths" 94 M_Draft_clear.1 ∈ lw_tbl := List.mem_of_getElem? (i := 697) (by decide +kernel)
theorem lk_Law_31 : Cond.methodLink "SafePathsLaw" 31 M_SP_part.1 ∈ lw_tbl := List.mem_of_getElem? (i := 701) (by decide +kernel)
theorem lk_SP_97 : Cond.methodLink "SafePaths" 97 M_SP_memberOf.1 ∈ lw_tbl := List.mem_of_getElem? (i := 705) (by decide +kernel)
theorem lk_SP_101 : Cond.methodLink "SafePaths" 101 M_Parted_at.1 ∈ lw_tbl := List.mem_of_getElem? (i := 708) (by decide +kernel)
theorem lk_Parted_36 : Cond.methodLink "SafePaths$Parted" 36 M_List_size.1 ∈ lw_tbl := List.mem_of_getElem? (i := 712) (by decide +kernel)
theorem lk_Parted_42 : Cond.methodLink "SafePaths$Parted" 42 M_List_get.1 ∈ lw_tbl := List.mem_of_getElem? (i := 713) (by decide +kernel)
theorem lk_SP_105 : Cond.methodLink "SafePaths" 105 M_Name_byteAt.1 ∈ lw_tbl := List.mem_of_getElem? (i := 714) (by decide +kernel)
theorem lk_Law_36 : Cond.methodLink "SafePathsLaw" 36 M_SP_meets.1 ∈ lw_tbl := List.mem_of_getElem? (i := 715) (by decide +kernel)
theorem lk_SP_110 : Cond.methodLink "SafePaths" 110 M_Parted_count.1 ∈ lw_tbl := List.mem_of_getElem? (i := 719) (by decide +kernel)
theorem lk_SP_113 : Cond.methodLink "SafePaths" 113 M_Rules_takeAsOne.1 ∈ lw_tbl := List.mem_of_getElem? (i := 723) (by decide +kernel)
theorem lk_Rules_30 : Cond.methodLink "SafePaths$Rules" 30 M_Name_isSameAs.1 ∈ lw_tbl := List.mem_of_getElem? (i := 727) (by decide +kernel)
theorem lk_Name_31 : Cond.methodLink "SafePaths$Name" 31 M_Name_isEqual.1 ∈ lw_tbl := List.mem_of_getElem? (i := 731) (by decide +kernel)
theorem lk_Rules_36 : Cond.methodLink "SafePaths$Rules" 36 M_Name_isAlike.1 ∈ lw_tbl := List.mem_of_getElem? (i := 734) (by decide +kernel)
theorem lk_Law_41 : Cond.methodLink "SafePathsLaw" 41 M_SP_target.1 ∈ lw_tbl := List.mem_of_getElem? (i := 738) (by decide +kernel)
theorem lk_SP_117 : Cond.methodLink "SafePaths" 117 M_SP_judgeAsTarget.1 ∈ lw_tbl := List.mem_of_getElem? (i := 742) (by decide +kernel)
theorem lk_SP_262 : Cond.methodLink "SafePaths" 262 M_Draft_length.1 ∈ lw_tbl := List.mem_of_getElem? (i := 746) (by decide +kernel)
theorem lk_Law_47 : Cond.methodLink "SafePathsLaw" 47 M_SP_entry.1 ∈ lw_tbl := List.mem_of_getElem? (i := 750) (by decide +kernel)
theorem lk_SP_124 : Cond.methodLink "SafePaths" 124 M_SP_otherOf.1 ∈ lw_tbl := List.mem_of_getElem? (i := 754) (by decide +kernel)
theorem lk_SP_132 : Cond.methodLink "SafePaths" 132 M_Entry_init.1 ∈ lw_tbl := List.mem_of_getElem? (i := 761) (by decide +kernel)
theorem lk_Entry_1 : Cond.methodLink "SafePaths$Entry" 1 Lib.objectInit ∈ lw_tbl := List.mem_of_getElem? (i := 764) (by decide +kernel)
theorem lk_Law_52 : Cond.methodLink "SafePathsLaw" 52 M_SP_take.1 ∈ lw_tbl := List.mem_of_getElem? (i := 786) (by decide +kernel)
theorem lk_SP_139 : Cond.methodLink "SafePaths" 139 M_Taking_judge.1 ∈ lw_tbl := List.mem_of_getElem? (i := 790) (by decide +kernel)
theorem lk_Taking_94 : Cond.methodLink "SafePaths$Taking" 94 M_Taking_forgetLastJudgement.1 ∈ lw_tbl := List.mem_of_getElem? (i := 794) (by decide +kernel)
theorem lk_Taking_103 : Cond.methodLink "SafePaths$Taking" 103 M_Taking_judgeWay.1 ∈ lw_tbl := List.mem_of_getElem? (i := 798) (by decide +kernel)
theorem lk_Taking_107 : Cond.methodLink "SafePaths$Taking" 107 M_Parted_count.1 ∈ lw_tbl := List.mem_of_getElem? (i := 802) (by decide +kernel)
theorem lk_Taking_112 : Cond.methodLink "SafePaths$Taking" 112 M_Parted_at.1 ∈ lw_tbl := List.mem_of_getElem? (i := 803) (by decide +kernel)
theorem lk_Taking_127 : Cond.methodLink "SafePaths$Taking" 127 M_Taking_judgeWayPart.1 ∈ lw_tbl := List.mem_of_getElem? (i := 804) (by decide +kernel)
theorem lk_Taking_130 : Cond.methodLink "SafePaths$Taking" 130 M_Taking_nextBy.1 ∈ lw_tbl := List.mem_of_getElem? (i := 808) (by decide +kernel)
theorem lk_Taking_147 : Cond.methodLink "SafePaths$Taking" 147 M_Tree_childOf.1 ∈ lw_tbl := List.mem_of_getElem? (i := 812) (by decide +kernel)
theorem lk_Tree_72 : Cond.methodLink "SafePaths$Tree" 72 M_List_size.1 ∈ lw_tbl := List.mem_of_getElem? (i := 816) (by decide +kernel)
theorem lk_Tree_76 : Cond.methodLink "SafePaths$Tree" 76 M_List_get.1 ∈ lw_tbl := List.mem_of_getElem? (i := 817) (by decide +kernel)
theorem lk_Tree_84 : Cond.methodLink "SafePaths$Tree" 84 M_Node_up.1 ∈ lw_tbl := List.mem_of_getElem? (i := 818) (by decide +kernel)
theorem lk_Tree_92 : Cond.methodLink "SafePaths$Tree" 92 M_Name_isSameAs.1 ∈ lw_tbl := List.mem_of_getElem? (i := 822) (by decide +kernel)
theorem lk_Tree_101 : Cond.methodLink "SafePaths$Tree" 101 M_Name_isAlike.1 ∈ lw_tbl := List.mem_of_getElem? (i := 823) (by decide +kernel)
theorem lk_Taking_134 : Cond.methodLink "SafePaths$Taking" 134 M_Taking_judgeLack.1 ∈ lw_tbl := List.mem_of_getElem? (i := 824) (by decide +kernel)
theorem lk_Taking_156 : Cond.methodLink "SafePaths$Taking" 156 M_Taking_isShut.1 ∈ lw_tbl := List.mem_of_getElem? (i := 828) (by decide +kernel)
theorem lk_Taking_137 : Cond.methodLink "SafePaths$Taking" 137 M_Taking_isRefusedMeeting.1 ∈ lw_tbl := List.mem_of_getElem? (i := 832) (by decide +kernel)
theorem lk_Taking_167 : Cond.methodLink "SafePaths$Taking" 167 M_Name_isSameAs.1 ∈ lw_tbl := List.mem_of_getElem? (i := 836) (by decide +kernel)
theorem lk_Taking_116 : Cond.methodLink "SafePaths$Taking" 116 M_Taking_judgeLast.1 ∈ lw_tbl := List.mem_of_getElem? (i := 837) (by decide +kernel)
theorem lk_Taking_120 : Cond.methodLink "SafePaths$Taking" 120 M_Taking_judgeKind.1 ∈ lw_tbl := List.mem_of_getElem? (i := 841) (by decide +kernel)
theorem lk_Taking_176 : Cond.methodLink "SafePaths$Taking" 176 M_Node_isFolder.1 ∈ lw_tbl := List.mem_of_getElem? (i := 845) (by decide +kernel)
theorem lk_Taking_179 : Cond.methodLink "SafePaths$Taking" 179 M_Taking_isPlaceTaken.1 ∈ lw_tbl := List.mem_of_getElem? (i := 849) (by decide +kernel)
theorem lk_Taking_186 : Cond.methodLink "SafePaths$Taking" 186 M_Walk_goThrough.1 ∈ lw_tbl := List.mem_of_getElem? (i := 853) (by decide +kernel)
theorem lk_Walk_38 : Cond.methodLink "SafePaths$Walk" 38 M_List_clear.1 ∈ lw_tbl := List.mem_of_getElem? (i := 857) (by decide +kernel)
theorem lk_Walk_41 : Cond.methodLink "SafePaths$Walk" 41 M_Walk_begin.1 ∈ lw_tbl := List.mem_of_getElem? (i := 861) (by decide +kernel)
theorem lk_Walk_91 : Cond.methodLink "SafePaths$Walk" 91 M_Parted_count.1 ∈ lw_tbl := List.mem_of_getElem? (i := 865) (by decide +kernel)
theorem lk_Walk_94 : Cond.methodLink "SafePaths$Walk" 94 M_Parted_at.1 ∈ lw_tbl := List.mem_of_getElem? (i := 866) (by decide +kernel)
theorem lk_Walk_98 : Cond.methodLink "SafePaths$Walk" 98 M_List_add1.1 ∈ lw_tbl := List.mem_of_getElem? (i := 867) (by decide +kernel)
theorem lk_Walk_45 : Cond.methodLink "SafePaths$Walk" 45 M_Tree_isOutside.1 ∈ lw_tbl := List.mem_of_getElem? (i := 868) (by decide +kernel)
theorem lk_Walk_49 : Cond.methodLink "SafePaths$Walk" 49 M_List_isEmpty.1 ∈ lw_tbl := List.mem_of_getElem? (i := 872) (by decide +kernel)
theorem lk_Walk_58 : Cond.methodLink "SafePaths$Walk" 58 M_List_size.1 ∈ lw_tbl := List.mem_of_getElem? (i := 873) (by decide +kernel)
theorem lk_Walk_62 : Cond.methodLink "SafePaths$Walk" 62 M_List_remove.1 ∈ lw_tbl := List.mem_of_getElem? (i := 874) (by decide +kernel)
theorem lk_List_144 : Cond.methodLink "java/util/ArrayList" 144 M_List_fastRemove.1 ∈ lw_tbl := List.mem_of_getElem? (i := 878) (by decide +kernel)
theorem lk_Walk_68 : Cond.methodLink "SafePaths$Walk" 68 M_Name_isUp.1 ∈ lw_tbl := List.mem_of_getElem? (i := 884) (by decide +kernel)
theorem lk_Walk_71 : Cond.methodLink "SafePaths$Walk" 71 M_Walk_goUp.1 ∈ lw_tbl := List.mem_of_getElem? (i := 885) (by decide +kernel)
theorem lk_Walk_102 : Cond.methodLink "SafePaths$Walk" 102 M_Node_up.1 ∈ lw_tbl := List.mem_of_getElem? (i := 889) (by decide +kernel)
theorem lk_Walk_74 : Cond.methodLink "SafePaths$Walk" 74 M_Tree_childOf.1 ∈ lw_tbl := List.mem_of_getElem? (i := 890) (by decide +kernel)
theorem lk_Walk_78 : Cond.methodLink "SafePaths$Walk" 78 M_Walk_goTo.1 ∈ lw_tbl := List.mem_of_getElem? (i := 891) (by decide +kernel)
theorem lk_Walk_106 : Cond.methodLink "SafePaths$Walk" 106 M_Node_isFolder.1 ∈ lw_tbl := List.mem_of_getElem? (i := 895) (by decide +kernel)
theorem lk_Taking_195 : Cond.methodLink "SafePaths$Taking" 195 M_Taking_judgeSharing.1 ∈ lw_tbl := List.mem_of_getElem? (i := 896) (by decide +kernel)
theorem lk_Taking_198 : Cond.methodLink "SafePaths$Taking" 198 M_Tree_reach.1 ∈ lw_tbl := List.mem_of_getElem? (i := 900) (by decide +kernel)
theorem lk_Tree_104 : Cond.methodLink "SafePaths$Tree" 104 M_Parted_count.1 ∈ lw_tbl := List.mem_of_getElem? (i := 904) (by decide +kernel)
theorem lk_Tree_109 : Cond.methodLink "SafePaths$Tree" 109 M_Node_isFolder.1 ∈ lw_tbl := List.mem_of_getElem? (i := 905) (by decide +kernel)
theorem lk_Tree_113 : Cond.methodLink "SafePaths$Tree" 113 M_Parted_at.1 ∈ lw_tbl := List.mem_of_getElem? (i := 906) (by decide +kernel)
theorem lk_Tree_117 : Cond.methodLink "SafePaths$Tree" 117 M_Tree_childOf.1 ∈ lw_tbl := List.mem_of_getElem? (i := 907) (by decide +kernel)
theorem lk_Taking_124 : Cond.methodLink "SafePaths$Taking" 124 M_Taking_judgeLimits.1 ∈ lw_tbl := List.mem_of_getElem? (i := 908) (by decide +kernel)
theorem lk_Taking_204 : Cond.methodLink "SafePaths$Taking" 204 M_Tree_nodeCount.1 ∈ lw_tbl := List.mem_of_getElem? (i := 912) (by decide +kernel)
theorem lk_SP_143 : Cond.methodLink "SafePaths" 143 M_Taking_carryOut.1 ∈ lw_tbl := List.mem_of_getElem? (i := 916) (by decide +kernel)
theorem lk_Taking_207 : Cond.methodLink "SafePaths$Taking" 207 M_Taking_bring.1 ∈ lw_tbl := List.mem_of_getElem? (i := 920) (by decide +kernel)
theorem lk_Taking_224 : Cond.methodLink "SafePaths$Taking" 224 M_Tree_addNode.1 ∈ lw_tbl := List.mem_of_getElem? (i := 924) (by decide +kernel)
theorem lk_Taking_231 : Cond.methodLink "SafePaths$Taking" 231 M_Taking_bodyFor.1 ∈ lw_tbl := List.mem_of_getElem? (i := 928) (by decide +kernel)
theorem lk_Taking_235 : Cond.methodLink "SafePaths$Taking" 235 M_Tree_addBody.1 ∈ lw_tbl := List.mem_of_getElem? (i := 932) (by decide +kernel)
theorem lk_Taking_74 : Cond.methodLink "SafePaths$Taking" 74 M_List_size.1 ∈ lw_tbl := List.mem_of_getElem? (i := 936) (by decide +kernel)
theorem lk_Taking_214 : Cond.methodLink "SafePaths$Taking" 214 M_Note_init.1 ∈ lw_tbl := List.mem_of_getElem? (i := 939) (by decide +kernel)
theorem lk_Note_1 : Cond.methodLink "SafePaths$Note" 1 Lib.objectInit ∈ lw_tbl := List.mem_of_getElem? (i := 942) (by decide +kernel)
theorem lk_Taking_217 : Cond.methodLink "SafePaths$Taking" 217 M_List_add1.1 ∈ lw_tbl := List.mem_of_getElem? (i := 952) (by decide +kernel)
theorem lk_Law_56 : Cond.methodLink "SafePathsLaw" 56 M_SP_dry.1 ∈ lw_tbl := List.mem_of_getElem? (i := 953) (by decide +kernel)
theorem lk_Law_60 : Cond.methodLink "SafePathsLaw" 60 M_SP_finish.1 ∈ lw_tbl := List.mem_of_getElem? (i := 957) (by decide +kernel)
theorem lk_SP_146 : Cond.methodLink "SafePaths" 146 M_Taking_setNotedRights.1 ∈ lw_tbl := List.mem_of_getElem? (i := 961) (by decide +kernel)
theorem lk_Taking_78 : Cond.methodLink "SafePaths$Taking" 78 M_List_get.1 ∈ lw_tbl := List.mem_of_getElem? (i := 965) (by decide +kernel)
theorem lk_Taking_91 : Cond.methodLink "SafePaths$Taking" 91 M_List_clear.1 ∈ lw_tbl := List.mem_of_getElem? (i := 966) (by decide +kernel)
theorem lk_SP_149 : Cond.methodLink "SafePaths" 149 M_Tree_countShut.1 ∈ lw_tbl := List.mem_of_getElem? (i := 967) (by decide +kernel)
theorem lk_Tree_124 : Cond.methodLink "SafePaths$Tree" 124 M_Node_state.1 ∈ lw_tbl := List.mem_of_getElem? (i := 971) (by decide +kernel)
theorem lk_Law_64 : Cond.methodLink "SafePathsLaw" 64 M_SP_limit.1 ∈ lw_tbl := List.mem_of_getElem? (i := 975) (by decide +kernel)
theorem lk_SP_154 : Cond.methodLink "SafePaths" 154 M_Taking_changeNodeLimit.1 ∈ lw_tbl := List.mem_of_getElem? (i := 980) (by decide +kernel)
theorem lk_SP_158 : Cond.methodLink "SafePaths" 158 M_Taking_changeSizeLimit.1 ∈ lw_tbl := List.mem_of_getElem? (i := 984) (by decide +kernel)
theorem lk_Law_69 : Cond.methodLink "SafePathsLaw" 69 M_SP_lead.1 ∈ lw_tbl := List.mem_of_getElem? (i := 988) (by decide +kernel)
theorem lk_SP_161 : Cond.methodLink "SafePaths" 161 M_Tree_at.1 ∈ lw_tbl := List.mem_of_getElem? (i := 992) (by decide +kernel)
theorem lk_SP_180 : Cond.methodLink "SafePaths" 180 M_Node_up.1 ∈ lw_tbl := List.mem_of_getElem? (i := 996) (by decide +kernel)
theorem lk_SP_184 : Cond.methodLink "SafePaths" 184 M_Walk_goThrough.1 ∈ lw_tbl := List.mem_of_getElem? (i := 997) (by decide +kernel)
theorem lk_Law_73 : Cond.methodLink "SafePathsLaw" 73 M_SP_find.1 ∈ lw_tbl := List.mem_of_getElem? (i := 998) (by decide +kernel)
theorem lk_SP_188 : Cond.methodLink "SafePaths" 188 M_Tree_reach.1 ∈ lw_tbl := List.mem_of_getElem? (i := 1002) (by decide +kernel)
theorem lk_Law_77 : Cond.methodLink "SafePathsLaw" 77 M_SP_node.1 ∈ lw_tbl := List.mem_of_getElem? (i := 1003) (by decide +kernel)
theorem lk_SP_192 : Cond.methodLink "SafePaths" 192 M_Node_state.1 ∈ lw_tbl := List.mem_of_getElem? (i := 1007) (by decide +kernel)
theorem lk_SP_195 : Cond.methodLink "SafePaths" 195 M_Tree_contentOf.1 ∈ lw_tbl := List.mem_of_getElem? (i := 1008) (by decide +kernel)
theorem lk_Tree_145 : Cond.methodLink "SafePaths$Tree" 145 M_Tree_countIn.1 ∈ lw_tbl := List.mem_of_getElem? (i := 1012) (by decide +kernel)
theorem lk_SP_203 : Cond.methodLink "SafePaths" 203 M_Name_length.1 ∈ lw_tbl := List.mem_of_getElem? (i := 1016) (by decide +kernel)
theorem lk_Law_81 : Cond.methodLink "SafePathsLaw" 81 M_SP_name.1 ∈ lw_tbl := List.mem_of_getElem? (i := 1020) (by decide +kernel)
theorem lk_Law_85 : Cond.methodLink "SafePathsLaw" 85 M_SP_body.1 ∈ lw_tbl := List.mem_of_getElem? (i := 1024) (by decide +kernel)
theorem lk_SP_206 : Cond.methodLink "SafePaths" 206 M_Tree_bodyAt.1 ∈ lw_tbl := List.mem_of_getElem? (i := 1028) (by decide +kernel)
theorem lk_SP_218 : Cond.methodLink "SafePaths" 218 M_Tree_countFilesWith.1 ∈ lw_tbl := List.mem_of_getElem? (i := 1032) (by decide +kernel)
theorem lk_Law_90 : Cond.methodLink "SafePathsLaw" 90 M_SP_inside.1 ∈ lw_tbl := List.mem_of_getElem? (i := 1036) (by decide +kernel)
theorem lk_SP_222 : Cond.methodLink "SafePaths" 222 M_Tree_isUntouchedOutside.1 ∈ lw_tbl := List.mem_of_getElem? (i := 1040) (by decide +kernel)
theorem lk_SP_226 : Cond.methodLink "SafePaths" 226 M_Tree_isAllElseBelowRoot.1 ∈ lw_tbl := List.mem_of_getElem? (i := 1044) (by decide +kernel)
theorem lk_Tree_131 : Cond.methodLink "SafePaths$Tree" 131 M_Tree_isOutside.1 ∈ lw_tbl := List.mem_of_getElem? (i := 1048) (by decide +kernel)
theorem lk_Law_95 : Cond.methodLink "SafePathsLaw" 95 M_SP_told.1 ∈ lw_tbl := List.mem_of_getElem? (i := 1049) (by decide +kernel)
theorem lk_SP_229 : Cond.methodLink "SafePaths" 229 M_Tree_nodeCount.1 ∈ lw_tbl := List.mem_of_getElem? (i := 1053) (by decide +kernel)
theorem lk_SP_232 : Cond.methodLink "SafePaths" 232 M_Tree_bodyCount.1 ∈ lw_tbl := List.mem_of_getElem? (i := 1054) (by decide +kernel)
theorem lk_SP_238 : Cond.methodLink "SafePaths" 238 M_Taking_notedCount.1 ∈ lw_tbl := List.mem_of_getElem? (i := 1058) (by decide +kernel)
theorem lk_Law_9 : Cond.methodLink "SafePathsLaw" 9 M_Law_cell.1 ∈ lw_tbl := List.mem_of_getElem? (i := 1062) (by decide +kernel)
theorem lk_Law_20 : Cond.methodLink "SafePathsLaw" 20 M_Mo_init.1 ∈ lw_tbl := List.mem_of_getElem? (i := 1067) (by decide +kernel)
theorem lk_Mo_1 : Cond.methodLink "SafePathsModel" 1 Lib.objectInit ∈ lw_tbl := List.mem_of_getElem? (i := 1070) (by decide +kernel)
theorem lk_Mo_99 : Cond.methodLink "SafePathsModel" 99 M_Mo_add.1 ∈ lw_tbl := List.mem_of_getElem? (i := 1073) (by decide +kernel)
theorem lk_Mo_103 : Cond.methodLink "SafePathsModel" 103 M_Mo_word3.1 ∈ lw_tbl := List.mem_of_getElem? (i := 1077) (by decide +kernel)
theorem lk_Law_25 : Cond.methodLink "SafePathsLaw" 25 M_Mo_put.1 ∈ lw_tbl := List.mem_of_getElem? (i := 1211) (by decide +kernel)
theorem lk_Law_30 : Cond.methodLink "SafePathsLaw" 30 M_Mo_path.1 ∈ lw_tbl := List.mem_of_getElem? (i := 1215) (by decide +kernel)
theorem lk_Mo_136 : Cond.methodLink "SafePathsModel" 136 M_Mo_nextPart.1 ∈ lw_tbl := List.mem_of_getElem? (i := 1219) (by decide +kernel)
theorem lk_Mo_125 : Cond.methodLink "SafePathsModel" 125 M_Mo_isParting.1 ∈ lw_tbl := List.mem_of_getElem? (i := 1223) (by decide +kernel)
theorem lk_Mo_118 : Cond.methodLink "SafePathsModel" 118 M_Mo_hasRule.1 ∈ lw_tbl := List.mem_of_getElem? (i := 1227) (by decide +kernel)
theorem lk_Mo_139 : Cond.methodLink "SafePathsModel" 139 M_Mo_isUp.1 ∈ lw_tbl := List.mem_of_getElem? (i := 1231) (by decide +kernel)
theorem lk_Mo_143 : Cond.methodLink "SafePathsModel" 143 M_Mo_isBad.1 ∈ lw_tbl := List.mem_of_getElem? (i := 1235) (by decide +kernel)
theorem lk_Mo_132 : Cond.methodLink "SafePathsModel" 132 M_Mo_isLike.1 ∈ lw_tbl := List.mem_of_getElem? (i := 1239) (by decide +kernel)
theorem lk_Mo_128 : Cond.methodLink "SafePathsModel" 128 M_Mo_small.1 ∈ lw_tbl := List.mem_of_getElem? (i := 1243) (by decide +kernel)
theorem lk_Law_35 : Cond.methodLink "SafePathsLaw" 35 M_Mo_part.1 ∈ lw_tbl := List.mem_of_getElem? (i := 1246) (by decide +kernel)
theorem lk_Mo_149 : Cond.methodLink "SafePathsModel" 149 M_Mo_isPath.1 ∈ lw_tbl := List.mem_of_getElem? (i := 1250) (by decide +kernel)
theorem lk_Law_40 : Cond.methodLink "SafePathsLaw" 40 M_Mo_meets.1 ∈ lw_tbl := List.mem_of_getElem? (i := 1254) (by decide +kernel)
theorem lk_Law_44 : Cond.methodLink "SafePathsLaw" 44 M_Mo_target.1 ∈ lw_tbl := List.mem_of_getElem? (i := 1258) (by decide +kernel)
theorem lk_Law_72 : Cond.methodLink "SafePathsLaw" 72 M_Mo_lead.1 ∈ lw_tbl := List.mem_of_getElem? (i := 1262) (by decide +kernel)
theorem lk_Mo_177 : Cond.methodLink "SafePathsModel" 177 M_Mo_leads.1 ∈ lw_tbl := List.mem_of_getElem? (i := 1266) (by decide +kernel)
theorem lk_Mo_162 : Cond.methodLink "SafePathsModel" 162 M_Mo_startOf.1 ∈ lw_tbl := List.mem_of_getElem? (i := 1270) (by decide +kernel)
theorem lk_Mo_165 : Cond.methodLink "SafePathsModel" 165 M_Mo_isInside.1 ∈ lw_tbl := List.mem_of_getElem? (i := 1274) (by decide +kernel)
theorem lk_Mo_168 : Cond.methodLink "SafePathsModel" 168 M_Mo_nextWord.1 ∈ lw_tbl := List.mem_of_getElem? (i := 1278) (by decide +kernel)
theorem lk_Mo_171 : Cond.methodLink "SafePathsModel" 171 M_Mo_in.1 ∈ lw_tbl := List.mem_of_getElem? (i := 1282) (by decide +kernel)
theorem lk_Mo_155 : Cond.methodLink "SafePathsModel" 155 M_Mo_isNamed.1 ∈ lw_tbl := List.mem_of_getElem? (i := 1286) (by decide +kernel)
theorem lk_Mo_174 : Cond.methodLink "SafePathsModel" 174 M_Mo_isLeft.1 ∈ lw_tbl := List.mem_of_getElem? (i := 1290) (by decide +kernel)
theorem lk_Law_51 : Cond.methodLink "SafePathsLaw" 51 M_Mo_entry.1 ∈ lw_tbl := List.mem_of_getElem? (i := 1294) (by decide +kernel)
theorem lk_Law_55 : Cond.methodLink "SafePathsLaw" 55 M_Mo_take.1 ∈ lw_tbl := List.mem_of_getElem? (i := 1299) (by decide +kernel)
theorem lk_Mo_230 : Cond.methodLink "SafePathsModel" 230 M_Mo_isEntry.1 ∈ lw_tbl := List.mem_of_getElem? (i := 1303) (by decide +kernel)
theorem lk_Mo_233 : Cond.methodLink "SafePathsModel" 233 M_Mo_takes.1 ∈ lw_tbl := List.mem_of_getElem? (i := 1307) (by decide +kernel)
theorem lk_Mo_199 : Cond.methodLink "SafePathsModel" 199 M_Mo_walk.1 ∈ lw_tbl := List.mem_of_getElem? (i := 1311) (by decide +kernel)
theorem lk_Mo_189 : Cond.methodLink "SafePathsModel" 189 M_Mo_partWord.1 ∈ lw_tbl := List.mem_of_getElem? (i := 1315) (by decide +kernel)
theorem lk_Mo_206 : Cond.methodLink "SafePathsModel" 206 M_Mo_note.1 ∈ lw_tbl := List.mem_of_getElem? (i := 1319) (by decide +kernel)
theorem lk_Mo_210 : Cond.methodLink "SafePathsModel" 210 M_Mo_isThere.1 ∈ lw_tbl := List.mem_of_getElem? (i := 1323) (by decide +kernel)
theorem lk_Mo_214 : Cond.methodLink "SafePathsModel" 214 M_Mo_fileAt.1 ∈ lw_tbl := List.mem_of_getElem? (i := 1327) (by decide +kernel)
theorem lk_Mo_223 : Cond.methodLink "SafePathsModel" 223 M_Mo_comes.1 ∈ lw_tbl := List.mem_of_getElem? (i := 1331) (by decide +kernel)
theorem lk_Law_59 : Cond.methodLink "SafePathsLaw" 59 M_Mo_dry.1 ∈ lw_tbl := List.mem_of_getElem? (i := 1335) (by decide +kernel)
theorem lk_Law_63 : Cond.methodLink "SafePathsLaw" 63 M_Mo_finish.1 ∈ lw_tbl := List.mem_of_getElem? (i := 1339) (by decide +kernel)
theorem lk_Law_68 : Cond.methodLink "SafePathsLaw" 68 M_Mo_limit.1 ∈ lw_tbl := List.mem_of_getElem? (i := 1343) (by decide +kernel)
theorem lk_Law_76 : Cond.methodLink "SafePathsLaw" 76 M_Mo_find.1 ∈ lw_tbl := List.mem_of_getElem? (i := 1348) (by decide +kernel)
theorem lk_Law_80 : Cond.methodLink "SafePathsLaw" 80 M_Mo_node.1 ∈ lw_tbl := List.mem_of_getElem? (i := 1352) (by decide +kernel)
theorem lk_Law_84 : Cond.methodLink "SafePathsLaw" 84 M_Mo_name.1 ∈ lw_tbl := List.mem_of_getElem? (i := 1356) (by decide +kernel)
theorem lk_Law_89 : Cond.methodLink "SafePathsLaw" 89 M_Mo_body.1 ∈ lw_tbl := List.mem_of_getElem? (i := 1360) (by decide +kernel)
theorem lk_Law_94 : Cond.methodLink "SafePathsLaw" 94 M_Mo_inside.1 ∈ lw_tbl := List.mem_of_getElem? (i := 1364) (by decide +kernel)
theorem lk_Law_98 : Cond.methodLink "SafePathsLaw" 98 M_Mo_told.1 ∈ lw_tbl := List.mem_of_getElem? (i := 1368) (by decide +kernel)
theorem oi_1 : Cond.instanceMethod Lib.objectInit ∈ lw_tbl := List.mem_of_getElem? (i := 89) (by decide +kernel)
theorem oi_2 : Cond.code Lib.objectInit ⟨#[0xb1]⟩ 1 none ∈ lw_tbl := List.mem_of_getElem? (i := 90) (by decide +kernel)
theorem fl_Rules_9 : sp_fl "SafePaths$Rules" 9 (sp_Ct 8 0).1 (sp_Ct 8 0).2.1 (sp_Ct 8 0).2.2.1 := ⟨"SafePaths$Rules", Or.inl rfl, Or.inl (List.mem_of_getElem? (i := 97) (by decide +kernel))⟩
theorem fl_Rules_15 : sp_fl "SafePaths$Rules" 15 (sp_Ct 8 1).1 (sp_Ct 8 1).2.1 (sp_Ct 8 1).2.2.1 := ⟨"SafePaths$Rules", Or.inl rfl, Or.inl (List.mem_of_getElem? (i := 98) (by decide +kernel))⟩
theorem fl_Tree_96 : sp_fl "SafePaths$Tree" 96 (sp_Ct 8 1).1 (sp_Ct 8 1).2.1 (sp_Ct 8 1).2.2.1 := ⟨"SafePaths$Rules", Or.inl rfl, Or.inr ⟨"SafePaths", List.mem_of_getElem? (i := 99) (by decide +kernel)⟩⟩
theorem fl_Rules_18 : sp_fl "SafePaths$Rules" 18 (sp_Ct 8 2).1 (sp_Ct 8 2).2.1 (sp_Ct 8 2).2.2.1 := ⟨"SafePaths$Rules", Or.inl rfl, Or.inl (List.mem_of_getElem? (i := 100) (by decide +kernel))⟩
theorem fl_Taking_192 : sp_fl "SafePaths$Taking" 192 (sp_Ct 8 2).1 (sp_Ct 8 2).2.1 (sp_Ct 8 2).2.2.1 := ⟨"SafePaths$Rules", Or.inl rfl, Or.inr ⟨"SafePaths", List.mem_of_getElem? (i := 101) (by decide +kernel)⟩⟩
theorem fl_Rules_21 : sp_fl "SafePaths$Rules" 21 (sp_Ct 8 3).1 (sp_Ct 8 3).2.1 (sp_Ct 8 3).2.2.1 := ⟨"SafePaths$Rules", Or.inl rfl, Or.inl (List.mem_of_getElem? (i := 102) (by decide +kernel))⟩
theorem fl_Name_42 : sp_fl "SafePaths$Name" 42 (sp_Ct 8 3).1 (sp_Ct 8 3).2.1 (sp_Ct 8 3).2.2.1 := ⟨"SafePaths$Rules", Or.inl rfl, Or.inr ⟨"SafePaths", List.mem_of_getElem? (i := 103) (by decide +kernel)⟩⟩
theorem fl_Rules_24 : sp_fl "SafePaths$Rules" 24 (sp_Ct 8 4).1 (sp_Ct 8 4).2.1 (sp_Ct 8 4).2.2.1 := ⟨"SafePaths$Rules", Or.inl rfl, Or.inl (List.mem_of_getElem? (i := 104) (by decide +kernel))⟩
theorem fl_Taking_160 : sp_fl "SafePaths$Taking" 160 (sp_Ct 8 4).1 (sp_Ct 8 4).2.1 (sp_Ct 8 4).2.2.1 := ⟨"SafePaths$Rules", Or.inl rfl, Or.inr ⟨"SafePaths", List.mem_of_getElem? (i := 105) (by decide +kernel)⟩⟩
theorem fl_Rules_27 : sp_fl "SafePaths$Rules" 27 (sp_Ct 8 5).1 (sp_Ct 8 5).2.1 (sp_Ct 8 5).2.2.1 := ⟨"SafePaths$Rules", Or.inl rfl, Or.inl (List.mem_of_getElem? (i := 106) (by decide +kernel))⟩
theorem fl_Taking_151 : sp_fl "SafePaths$Taking" 151 (sp_Ct 8 5).1 (sp_Ct 8 5).2.1 (sp_Ct 8 5).2.2.1 := ⟨"SafePaths$Rules", Or.inl rfl, Or.inr ⟨"SafePaths", List.mem_of_getElem? (i := 107) (by decide +kernel)⟩⟩
theorem fl_Draft_9 : sp_fl "SafePaths$Draft" 9 (sp_Ct 2 0).1 (sp_Ct 2 0).2.1 (sp_Ct 2 0).2.2.1 := ⟨"SafePaths$Draft", Or.inl rfl, Or.inl (List.mem_of_getElem? (i := 127) (by decide +kernel))⟩
theorem fl_Draft_15 : sp_fl "SafePaths$Draft" 15 (sp_Ct 2 1).1 (sp_Ct 2 1).2.1 (sp_Ct 2 1).2.2.1 := ⟨"SafePaths$Draft", Or.inl rfl, Or.inl (List.mem_of_getElem? (i := 128) (by decide +kernel))⟩
theorem gs_List_39 : Cond.fieldLink "java/util/ArrayList" 39 "java/util/ArrayList" "DEFAULTCAPACITY_EMPTY_ELEMENTDATA" "[Ljava/lang/Object;" ∈ lw_tbl ∨ ∃ host, Cond.fieldLinkNest "java/util/ArrayList" 39 "java/util/ArrayList" "DEFAULTCAPACITY_EMPTY_ELEMENTDATA" "[Ljava/lang/Object;" host ∈ lw_tbl := Or.inl (List.mem_of_getElem? (i := 147) (by decide +kernel))
theorem fl_List_9 : sp_fl "java/util/ArrayList" 9 (sp_Ct 0 1).1 (sp_Ct 0 1).2.1 (sp_Ct 0 1).2.2.1 := ⟨"java/util/ArrayList", Or.inl rfl, Or.inl (List.mem_of_getElem? (i := 149) (by decide +kernel))⟩
theorem fl_List_48 : sp_fl "java/util/ArrayList" 48 (sp_Ct 0 2).1 (sp_Ct 0 2).2.1 (sp_Ct 0 2).2.2.1 := ⟨"java/util/ArrayList", Or.inl rfl, Or.inl (List.mem_of_getElem? (i := 150) (by decide +kernel))⟩
theorem fl_AList_7 : sp_fl "java/util/AbstractList" 7 (sp_Ct 0 0).1 (sp_Ct 0 0).2.1 (sp_Ct 0 0).2.2.1 := ⟨"java/util/AbstractList", Or.inl rfl, Or.inl (List.mem_of_getElem? (i := 151) (by decide +kernel))⟩
theorem fl_List_63 : sp_fl "java/util/ArrayList" 63 (sp_Ct 0 0).1 (sp_Ct 0 0).2.1 (sp_Ct 0 0).2.2.1 := ⟨"java/util/ArrayList", Or.inr (List.mem_of_getElem? (i := 153) (by decide +kernel)), Or.inl (List.mem_of_getElem? (i := 152) (by decide +kernel))⟩
theorem fl_Body_7 : sp_fl "SafePaths$Body" 7 (sp_Ct 1 0).1 (sp_Ct 1 0).2.1 (sp_Ct 1 0).2.2.1 := ⟨"SafePaths$Body", Or.inl rfl, Or.inl (List.mem_of_getElem? (i := 176) (by decide +kernel))⟩
theorem fl_Tree_139 : sp_fl "SafePaths$Tree" 139 (sp_Ct 1 0).1 (sp_Ct 1 0).2.1 (sp_Ct 1 0).2.2.1 := ⟨"SafePaths$Body", Or.inl rfl, Or.inr ⟨"SafePaths", List.mem_of_getElem? (i := 177) (by decide +kernel)⟩⟩
theorem fl_Body_13 : sp_fl "SafePaths$Body" 13 (sp_Ct 1 1).1 (sp_Ct 1 1).2.1 (sp_Ct 1 1).2.2.1 := ⟨"SafePaths$Body", Or.inl rfl, Or.inl (List.mem_of_getElem? (i := 178) (by decide +kernel))⟩
theorem fl_SP_210 : sp_fl "SafePaths" 210 (sp_Ct 1 1).1 (sp_Ct 1 1).2.1 (sp_Ct 1 1).2.2.1 := ⟨"SafePaths$Body", Or.inl rfl, Or.inr ⟨"SafePaths", List.mem_of_getElem? (i := 179) (by decide +kernel)⟩⟩
theorem fl_Body_17 : sp_fl "SafePaths$Body" 17 (sp_Ct 1 2).1 (sp_Ct 1 2).2.1 (sp_Ct 1 2).2.2.1 := ⟨"SafePaths$Body", Or.inl rfl, Or.inl (List.mem_of_getElem? (i := 180) (by decide +kernel))⟩
theorem fl_SP_215 : sp_fl "SafePaths" 215 (sp_Ct 1 2).1 (sp_Ct 1 2).2.1 (sp_Ct 1 2).2.2.1 := ⟨"SafePaths$Body", Or.inl rfl, Or.inr ⟨"SafePaths", List.mem_of_getElem? (i := 181) (by decide +kernel)⟩⟩
theorem gs_Tree_34 : Cond.fieldLink "SafePaths$Tree" 34 "SafePaths" "NO_BYTES" "[I" ∈ lw_tbl ∨ ∃ host, Cond.fieldLinkNest "SafePaths$Tree" 34 "SafePaths" "NO_BYTES" "[I" host ∈ lw_tbl := Or.inr ⟨"SafePaths", List.mem_of_getElem? (i := 193) (by decide +kernel)⟩
theorem fl_Name_18 : sp_fl "SafePaths$Name" 18 (sp_Ct 4 0).1 (sp_Ct 4 0).2.1 (sp_Ct 4 0).2.2.1 := ⟨"SafePaths$Name", Or.inl rfl, Or.inl (List.mem_of_getElem? (i := 208) (by decide +kernel))⟩
theorem fl_Name_24 : sp_fl "SafePaths$Name" 24 (sp_Ct 4 1).1 (sp_Ct 4 1).2.1 (sp_Ct 4 1).2.2.1 := ⟨"SafePaths$Name", Or.inl rfl, Or.inl (List.mem_of_getElem? (i := 209) (by decide +kernel))⟩
theorem fl_Node_7 : sp_fl "SafePaths$Node" 7 (sp_Ct 5 0).1 (sp_Ct 5 0).2.1 (sp_Ct 5 0).2.2.1 := ⟨"SafePaths$Node", Or.inl rfl, Or.inl (List.mem_of_getElem? (i := 219) (by decide +kernel))⟩
theorem fl_Walk_53 : sp_fl "SafePaths$Walk" 53 (sp_Ct 5 0).1 (sp_Ct 5 0).2.1 (sp_Ct 5 0).2.2.1 := ⟨"SafePaths$Node", Or.inl rfl, Or.inr ⟨"SafePaths", List.mem_of_getElem? (i := 220) (by decide +kernel)⟩⟩
theorem fl_Tree_127 : sp_fl "SafePaths$Tree" 127 (sp_Ct 5 0).1 (sp_Ct 5 0).2.1 (sp_Ct 5 0).2.2.1 := ⟨"SafePaths$Node", Or.inl rfl, Or.inr ⟨"SafePaths", List.mem_of_getElem? (i := 221) (by decide +kernel)⟩⟩
theorem fl_SP_174 : sp_fl "SafePaths" 174 (sp_Ct 5 0).1 (sp_Ct 5 0).2.1 (sp_Ct 5 0).2.2.1 := ⟨"SafePaths$Node", Or.inl rfl, Or.inr ⟨"SafePaths", List.mem_of_getElem? (i := 222) (by decide +kernel)⟩⟩
theorem fl_Taking_221 : sp_fl "SafePaths$Taking" 221 (sp_Ct 5 0).1 (sp_Ct 5 0).2.1 (sp_Ct 5 0).2.2.1 := ⟨"SafePaths$Node", Or.inl rfl, Or.inr ⟨"SafePaths", List.mem_of_getElem? (i := 223) (by decide +kernel)⟩⟩
theorem fl_Node_13 : sp_fl "SafePaths$Node" 13 (sp_Ct 5 1).1 (sp_Ct 5 1).2.1 (sp_Ct 5 1).2.2.1 := ⟨"SafePaths$Node", Or.inl rfl, Or.inl (List.mem_of_getElem? (i := 224) (by decide +kernel))⟩
theorem fl_Tree_121 : sp_fl "SafePaths$Tree" 121 (sp_Ct 5 1).1 (sp_Ct 5 1).2.1 (sp_Ct 5 1).2.2.1 := ⟨"SafePaths$Node", Or.inl rfl, Or.inr ⟨"SafePaths", List.mem_of_getElem? (i := 225) (by decide +kernel)⟩⟩
theorem fl_Node_17 : sp_fl "SafePaths$Node" 17 (sp_Ct 5 2).1 (sp_Ct 5 2).2.1 (sp_Ct 5 2).2.2.1 := ⟨"SafePaths$Node", Or.inl rfl, Or.inl (List.mem_of_getElem? (i := 226) (by decide +kernel))⟩
theorem fl_Tree_88 : sp_fl "SafePaths$Tree" 88 (sp_Ct 5 2).1 (sp_Ct 5 2).2.1 (sp_Ct 5 2).2.2.1 := ⟨"SafePaths$Node", Or.inl rfl, Or.inr ⟨"SafePaths", List.mem_of_getElem? (i := 227) (by decide +kernel)⟩⟩
theorem fl_Taking_163 : sp_fl "SafePaths$Taking" 163 (sp_Ct 5 2).1 (sp_Ct 5 2).2.1 (sp_Ct 5 2).2.2.1 := ⟨"SafePaths$Node", Or.inl rfl, Or.inr ⟨"SafePaths", List.mem_of_getElem? (i := 228) (by decide +kernel)⟩⟩
theorem fl_SP_199 : sp_fl "SafePaths" 199 (sp_Ct 5 2).1 (sp_Ct 5 2).2.1 (sp_Ct 5 2).2.2.1 := ⟨"SafePaths$Node", Or.inl rfl, Or.inr ⟨"SafePaths", List.mem_of_getElem? (i := 229) (by decide +kernel)⟩⟩
theorem fl_Node_21 : sp_fl "SafePaths$Node" 21 (sp_Ct 5 3).1 (sp_Ct 5 3).2.1 (sp_Ct 5 3).2.2.1 := ⟨"SafePaths$Node", Or.inl rfl, Or.inl (List.mem_of_getElem? (i := 230) (by decide +kernel))⟩
theorem fl_Taking_144 : sp_fl "SafePaths$Taking" 144 (sp_Ct 5 3).1 (sp_Ct 5 3).2.1 (sp_Ct 5 3).2.2.1 := ⟨"SafePaths$Node", Or.inl rfl, Or.inr ⟨"SafePaths", List.mem_of_getElem? (i := 231) (by decide +kernel)⟩⟩
theorem fl_Tree_135 : sp_fl "SafePaths$Tree" 135 (sp_Ct 5 3).1 (sp_Ct 5 3).2.1 (sp_Ct 5 3).2.2.1 := ⟨"SafePaths$Node", Or.inl rfl, Or.inr ⟨"SafePaths", List.mem_of_getElem? (i := 232) (by decide +kernel)⟩⟩
theorem fl_Node_25 : sp_fl "SafePaths$Node" 25 (sp_Ct 5 4).1 (sp_Ct 5 4).2.1 (sp_Ct 5 4).2.2.1 := ⟨"SafePaths$Node", Or.inl rfl, Or.inl (List.mem_of_getElem? (i := 233) (by decide +kernel))⟩
theorem fl_Walk_109 : sp_fl "SafePaths$Walk" 109 (sp_Ct 5 4).1 (sp_Ct 5 4).2.1 (sp_Ct 5 4).2.2.1 := ⟨"SafePaths$Node", Or.inl rfl, Or.inr ⟨"SafePaths", List.mem_of_getElem? (i := 234) (by decide +kernel)⟩⟩
theorem fl_Taking_141 : sp_fl "SafePaths$Taking" 141 (sp_Ct 5 4).1 (sp_Ct 5 4).2.1 (sp_Ct 5 4).2.2.1 := ⟨"SafePaths$Node", Or.inl rfl, Or.inr ⟨"SafePaths", List.mem_of_getElem? (i := 235) (by decide +kernel)⟩⟩
theorem fl_SP_170 : sp_fl "SafePaths" 170 (sp_Ct 5 4).1 (sp_Ct 5 4).2.1 (sp_Ct 5 4).2.2.1 := ⟨"SafePaths$Node", Or.inl rfl, Or.inr ⟨"SafePaths", List.mem_of_getElem? (i := 236) (by decide +kernel)⟩⟩
theorem fl_Tree_140 : sp_fl "SafePaths$Tree" 140 (sp_Ct 5 4).1 (sp_Ct 5 4).2.1 (sp_Ct 5 4).2.2.1 := ⟨"SafePaths$Node", Or.inl rfl, Or.inr ⟨"SafePaths", List.mem_of_getElem? (i := 237) (by decide +kernel)⟩⟩
theorem fl_Node_29 : sp_fl "SafePaths$Node" 29 (sp_Ct 5 5).1 (sp_Ct 5 5).2.1 (sp_Ct 5 5).2.2.1 := ⟨"SafePaths$Node", Or.inl rfl, Or.inl (List.mem_of_getElem? (i := 238) (by decide +kernel))⟩
theorem fl_Walk_113 : sp_fl "SafePaths$Walk" 113 (sp_Ct 5 5).1 (sp_Ct 5 5).2.1 (sp_Ct 5 5).2.2.1 := ⟨"SafePaths$Node", Or.inl rfl, Or.inr ⟨"SafePaths", List.mem_of_getElem? (i := 239) (by decide +kernel)⟩⟩
theorem fl_SP_177 : sp_fl "SafePaths" 177 (sp_Ct 5 5).1 (sp_Ct 5 5).2.1 (sp_Ct 5 5).2.2.1 := ⟨"SafePaths$Node", Or.inl rfl, Or.inr ⟨"SafePaths", List.mem_of_getElem? (i := 240) (by decide +kernel)⟩⟩
theorem fl_Node_33 : sp_fl "SafePaths$Node" 33 (sp_Ct 5 6).1 (sp_Ct 5 6).2.1 (sp_Ct 5 6).2.2.1 := ⟨"SafePaths$Node", Or.inl rfl, Or.inl (List.mem_of_getElem? (i := 241) (by decide +kernel))⟩
theorem fl_Taking_88 : sp_fl "SafePaths$Taking" 88 (sp_Ct 5 6).1 (sp_Ct 5 6).2.1 (sp_Ct 5 6).2.2.1 := ⟨"SafePaths$Node", Or.inl rfl, Or.inr ⟨"SafePaths", List.mem_of_getElem? (i := 242) (by decide +kernel)⟩⟩
theorem fl_Node_36 : sp_fl "SafePaths$Node" 36 (sp_Ct 5 7).1 (sp_Ct 5 7).2.1 (sp_Ct 5 7).2.2.1 := ⟨"SafePaths$Node", Or.inl rfl, Or.inl (List.mem_of_getElem? (i := 243) (by decide +kernel))⟩
theorem fl_Tree_80 : sp_fl "SafePaths$Tree" 80 (sp_Ct 5 7).1 (sp_Ct 5 7).2.1 (sp_Ct 5 7).2.2.1 := ⟨"SafePaths$Node", Or.inl rfl, Or.inr ⟨"SafePaths", List.mem_of_getElem? (i := 244) (by decide +kernel)⟩⟩
theorem fl_SP_164 : sp_fl "SafePaths" 164 (sp_Ct 5 7).1 (sp_Ct 5 7).2.1 (sp_Ct 5 7).2.2.1 := ⟨"SafePaths$Node", Or.inl rfl, Or.inr ⟨"SafePaths", List.mem_of_getElem? (i := 245) (by decide +kernel)⟩⟩
theorem fl_Taking_228 : sp_fl "SafePaths$Taking" 228 (sp_Ct 5 7).1 (sp_Ct 5 7).2.1 (sp_Ct 5 7).2.2.1 := ⟨"SafePaths$Node", Or.inl rfl, Or.inr ⟨"SafePaths", List.mem_of_getElem? (i := 246) (by decide +kernel)⟩⟩
theorem gs_Tree_50 : Cond.fieldLink "SafePaths$Tree" 50 "SafePaths" "OUT" "[I" ∈ lw_tbl ∨ ∃ host, Cond.fieldLinkNest "SafePaths$Tree" 50 "SafePaths" "OUT" "[I" host ∈ lw_tbl := Or.inr ⟨"SafePaths", List.mem_of_getElem? (i := 264) (by decide +kernel)⟩
theorem gs_Tree_56 : Cond.fieldLink "SafePaths$Tree" 56 "SafePaths" "HOME" "[I" ∈ lw_tbl ∨ ∃ host, Cond.fieldLinkNest "SafePaths$Tree" 56 "SafePaths" "HOME" "[I" host ∈ lw_tbl := Or.inr ⟨"SafePaths", List.mem_of_getElem? (i := 266) (by decide +kernel)⟩
theorem gs_Tree_62 : Cond.fieldLink "SafePaths$Tree" 62 "SafePaths" "KEY" "[I" ∈ lw_tbl ∨ ∃ host, Cond.fieldLinkNest "SafePaths$Tree" 62 "SafePaths" "KEY" "[I" host ∈ lw_tbl := Or.inr ⟨"SafePaths", List.mem_of_getElem? (i := 268) (by decide +kernel)⟩
theorem fl_Tree_7 : sp_fl "SafePaths$Tree" 7 (sp_Ct 10 0).1 (sp_Ct 10 0).2.1 (sp_Ct 10 0).2.2.1 := ⟨"SafePaths$Tree", Or.inl rfl, Or.inl (List.mem_of_getElem? (i := 327) (by decide +kernel))⟩
theorem fl_Tree_16 : sp_fl "SafePaths$Tree" 16 (sp_Ct 10 1).1 (sp_Ct 10 1).2.1 (sp_Ct 10 1).2.2.1 := ⟨"SafePaths$Tree", Or.inl rfl, Or.inl (List.mem_of_getElem? (i := 328) (by decide +kernel))⟩
theorem fl_Tree_20 : sp_fl "SafePaths$Tree" 20 (sp_Ct 10 2).1 (sp_Ct 10 2).2.1 (sp_Ct 10 2).2.2.1 := ⟨"SafePaths$Tree", Or.inl rfl, Or.inl (List.mem_of_getElem? (i := 329) (by decide +kernel))⟩
theorem fl_Tree_46 : sp_fl "SafePaths$Tree" 46 (sp_Ct 10 3).1 (sp_Ct 10 3).2.1 (sp_Ct 10 3).2.2.1 := ⟨"SafePaths$Tree", Or.inl rfl, Or.inl (List.mem_of_getElem? (i := 330) (by decide +kernel))⟩
theorem fl_Walk_88 : sp_fl "SafePaths$Walk" 88 (sp_Ct 10 3).1 (sp_Ct 10 3).2.1 (sp_Ct 10 3).2.2.1 := ⟨"SafePaths$Tree", Or.inl rfl, Or.inr ⟨"SafePaths", List.mem_of_getElem? (i := 331) (by decide +kernel)⟩⟩
theorem fl_Walk_22 : sp_fl "SafePaths$Walk" 22 (sp_Ct 10 4).1 (sp_Ct 10 4).2.1 (sp_Ct 10 4).2.2.1 := ⟨"SafePaths$Tree", Or.inl rfl, Or.inr ⟨"SafePaths", List.mem_of_getElem? (i := 332) (by decide +kernel)⟩⟩
theorem fl_Taking_48 : sp_fl "SafePaths$Taking" 48 (sp_Ct 10 4).1 (sp_Ct 10 4).2.1 (sp_Ct 10 4).2.2.1 := ⟨"SafePaths$Tree", Or.inl rfl, Or.inr ⟨"SafePaths", List.mem_of_getElem? (i := 333) (by decide +kernel)⟩⟩
theorem fl_Tree_53 : sp_fl "SafePaths$Tree" 53 (sp_Ct 10 4).1 (sp_Ct 10 4).2.1 (sp_Ct 10 4).2.2.1 := ⟨"SafePaths$Tree", Or.inl rfl, Or.inl (List.mem_of_getElem? (i := 334) (by decide +kernel))⟩
theorem fl_Tree_59 : sp_fl "SafePaths$Tree" 59 (sp_Ct 10 5).1 (sp_Ct 10 5).2.1 (sp_Ct 10 5).2.2.1 := ⟨"SafePaths$Tree", Or.inl rfl, Or.inl (List.mem_of_getElem? (i := 335) (by decide +kernel))⟩
theorem fl_Tree_65 : sp_fl "SafePaths$Tree" 65 (sp_Ct 10 6).1 (sp_Ct 10 6).2.1 (sp_Ct 10 6).2.2.1 := ⟨"SafePaths$Tree", Or.inl rfl, Or.inl (List.mem_of_getElem? (i := 336) (by decide +kernel))⟩
theorem fl_Walk_9 : sp_fl "SafePaths$Walk" 9 (sp_Ct 11 0).1 (sp_Ct 11 0).2.1 (sp_Ct 11 0).2.2.1 := ⟨"SafePaths$Walk", Or.inl rfl, Or.inl (List.mem_of_getElem? (i := 360) (by decide +kernel))⟩
theorem fl_Walk_18 : sp_fl "SafePaths$Walk" 18 (sp_Ct 11 1).1 (sp_Ct 11 1).2.1 (sp_Ct 11 1).2.2.1 := ⟨"SafePaths$Walk", Or.inl rfl, Or.inl (List.mem_of_getElem? (i := 361) (by decide +kernel))⟩
theorem fl_Walk_28 : sp_fl "SafePaths$Walk" 28 (sp_Ct 11 2).1 (sp_Ct 11 2).2.1 (sp_Ct 11 2).2.2.1 := ⟨"SafePaths$Walk", Or.inl rfl, Or.inl (List.mem_of_getElem? (i := 362) (by decide +kernel))⟩
theorem fl_Walk_31 : sp_fl "SafePaths$Walk" 31 (sp_Ct 11 3).1 (sp_Ct 11 3).2.1 (sp_Ct 11 3).2.2.1 := ⟨"SafePaths$Walk", Or.inl rfl, Or.inl (List.mem_of_getElem? (i := 363) (by decide +kernel))⟩
theorem fl_Walk_35 : sp_fl "SafePaths$Walk" 35 (sp_Ct 11 4).1 (sp_Ct 11 4).2.1 (sp_Ct 11 4).2.2.1 := ⟨"SafePaths$Walk", Or.inl rfl, Or.inl (List.mem_of_getElem? (i := 364) (by decide +kernel))⟩
theorem fl_Taking_9 : sp_fl "SafePaths$Taking" 9 (sp_Ct 9 0).1 (sp_Ct 9 0).2.1 (sp_Ct 9 0).2.2.1 := ⟨"SafePaths$Taking", Or.inl rfl, Or.inl (List.mem_of_getElem? (i := 386) (by decide +kernel))⟩
theorem fl_Taking_15 : sp_fl "SafePaths$Taking" 15 (sp_Ct 9 1).1 (sp_Ct 9 1).2.1 (sp_Ct 9 1).2.2.1 := ⟨"SafePaths$Taking", Or.inl rfl, Or.inl (List.mem_of_getElem? (i := 387) (by decide +kernel))⟩
theorem fl_Taking_19 : sp_fl "SafePaths$Taking" 19 (sp_Ct 9 2).1 (sp_Ct 9 2).2.1 (sp_Ct 9 2).2.2.1 := ⟨"SafePaths$Taking", Or.inl rfl, Or.inl (List.mem_of_getElem? (i := 388) (by decide +kernel))⟩
theorem fl_Taking_26 : sp_fl "SafePaths$Taking" 26 (sp_Ct 9 3).1 (sp_Ct 9 3).2.1 (sp_Ct 9 3).2.2.1 := ⟨"SafePaths$Taking", Or.inl rfl, Or.inl (List.mem_of_getElem? (i := 389) (by decide +kernel))⟩
theorem fl_Taking_32 : sp_fl "SafePaths$Taking" 32 (sp_Ct 9 4).1 (sp_Ct 9 4).2.1 (sp_Ct 9 4).2.2.1 := ⟨"SafePaths$Taking", Or.inl rfl, Or.inl (List.mem_of_getElem? (i := 390) (by decide +kernel))⟩
theorem fl_Taking_38 : sp_fl "SafePaths$Taking" 38 (sp_Ct 9 5).1 (sp_Ct 9 5).2.1 (sp_Ct 9 5).2.2.1 := ⟨"SafePaths$Taking", Or.inl rfl, Or.inl (List.mem_of_getElem? (i := 391) (by decide +kernel))⟩
theorem fl_Taking_41 : sp_fl "SafePaths$Taking" 41 (sp_Ct 9 6).1 (sp_Ct 9 6).2.1 (sp_Ct 9 6).2.2.1 := ⟨"SafePaths$Taking", Or.inl rfl, Or.inl (List.mem_of_getElem? (i := 392) (by decide +kernel))⟩
theorem fl_SP_235 : sp_fl "SafePaths" 235 (sp_Ct 9 6).1 (sp_Ct 9 6).2.1 (sp_Ct 9 6).2.2.1 := ⟨"SafePaths$Taking", Or.inl rfl, Or.inr ⟨"SafePaths", List.mem_of_getElem? (i := 393) (by decide +kernel)⟩⟩
theorem fl_Taking_45 : sp_fl "SafePaths$Taking" 45 (sp_Ct 9 7).1 (sp_Ct 9 7).2.1 (sp_Ct 9 7).2.2.1 := ⟨"SafePaths$Taking", Or.inl rfl, Or.inl (List.mem_of_getElem? (i := 394) (by decide +kernel))⟩
theorem fl_Taking_54 : sp_fl "SafePaths$Taking" 54 (sp_Ct 9 8).1 (sp_Ct 9 8).2.1 (sp_Ct 9 8).2.2.1 := ⟨"SafePaths$Taking", Or.inl rfl, Or.inl (List.mem_of_getElem? (i := 395) (by decide +kernel))⟩
theorem fl_Taking_57 : sp_fl "SafePaths$Taking" 57 (sp_Ct 9 9).1 (sp_Ct 9 9).2.1 (sp_Ct 9 9).2.2.1 := ⟨"SafePaths$Taking", Or.inl rfl, Or.inl (List.mem_of_getElem? (i := 396) (by decide +kernel))⟩
theorem fl_Taking_60 : sp_fl "SafePaths$Taking" 60 (sp_Ct 9 10).1 (sp_Ct 9 10).2.1 (sp_Ct 9 10).2.2.1 := ⟨"SafePaths$Taking", Or.inl rfl, Or.inl (List.mem_of_getElem? (i := 397) (by decide +kernel))⟩
theorem fl_Taking_63 : sp_fl "SafePaths$Taking" 63 (sp_Ct 9 11).1 (sp_Ct 9 11).2.1 (sp_Ct 9 11).2.2.1 := ⟨"SafePaths$Taking", Or.inl rfl, Or.inl (List.mem_of_getElem? (i := 398) (by decide +kernel))⟩
theorem fl_Taking_66 : sp_fl "SafePaths$Taking" 66 (sp_Ct 9 12).1 (sp_Ct 9 12).2.1 (sp_Ct 9 12).2.2.1 := ⟨"SafePaths$Taking", Or.inl rfl, Or.inl (List.mem_of_getElem? (i := 399) (by decide +kernel))⟩
theorem fl_Taking_70 : sp_fl "SafePaths$Taking" 70 (sp_Ct 9 13).1 (sp_Ct 9 13).2.1 (sp_Ct 9 13).2.2.1 := ⟨"SafePaths$Taking", Or.inl rfl, Or.inl (List.mem_of_getElem? (i := 400) (by decide +kernel))⟩
theorem fl_SP_12 : sp_fl "SafePaths" 12 (sp_Ct 12 0).1 (sp_Ct 12 0).2.1 (sp_Ct 12 0).2.2.1 := ⟨"SafePaths", Or.inl rfl, Or.inl (List.mem_of_getElem? (i := 430) (by decide +kernel))⟩
theorem fl_SP_21 : sp_fl "SafePaths" 21 (sp_Ct 12 1).1 (sp_Ct 12 1).2.1 (sp_Ct 12 1).2.2.1 := ⟨"SafePaths", Or.inl rfl, Or.inl (List.mem_of_getElem? (i := 431) (by decide +kernel))⟩
theorem fl_SP_28 : sp_fl "SafePaths" 28 (sp_Ct 12 2).1 (sp_Ct 12 2).2.1 (sp_Ct 12 2).2.2.1 := ⟨"SafePaths", Or.inl rfl, Or.inl (List.mem_of_getElem? (i := 432) (by decide +kernel))⟩
theorem fl_SP_32 : sp_fl "SafePaths" 32 (sp_Ct 12 3).1 (sp_Ct 12 3).2.1 (sp_Ct 12 3).2.2.1 := ⟨"SafePaths", Or.inl rfl, Or.inl (List.mem_of_getElem? (i := 433) (by decide +kernel))⟩
theorem fl_SP_35 : sp_fl "SafePaths" 35 (sp_Ct 12 4).1 (sp_Ct 12 4).2.1 (sp_Ct 12 4).2.2.1 := ⟨"SafePaths", Or.inl rfl, Or.inl (List.mem_of_getElem? (i := 434) (by decide +kernel))⟩
theorem fl_SP_43 : sp_fl "SafePaths" 43 (sp_Ct 12 5).1 (sp_Ct 12 5).2.1 (sp_Ct 12 5).2.2.1 := ⟨"SafePaths", Or.inl rfl, Or.inl (List.mem_of_getElem? (i := 435) (by decide +kernel))⟩
theorem fl_SP_52 : sp_fl "SafePaths" 52 (sp_Ct 12 6).1 (sp_Ct 12 6).2.1 (sp_Ct 12 6).2.2.1 := ⟨"SafePaths", Or.inl rfl, Or.inl (List.mem_of_getElem? (i := 436) (by decide +kernel))⟩
theorem fl_SP_61 : sp_fl "SafePaths" 61 (sp_Ct 12 7).1 (sp_Ct 12 7).2.1 (sp_Ct 12 7).2.2.1 := ⟨"SafePaths", Or.inl rfl, Or.inl (List.mem_of_getElem? (i := 437) (by decide +kernel))⟩
theorem fl_SP_65 : sp_fl "SafePaths" 65 (sp_Ct 12 8).1 (sp_Ct 12 8).2.1 (sp_Ct 12 8).2.2.1 := ⟨"SafePaths", Or.inl rfl, Or.inl (List.mem_of_getElem? (i := 438) (by decide +kernel))⟩
theorem gs_String_38 : Cond.fieldLink "java/lang/String" 38 "java/lang/String" "COMPACT_STRINGS" "Z" ∈ lw_tbl ∨ ∃ host, Cond.fieldLinkNest "java/lang/String" 38 "java/lang/String" "COMPACT_STRINGS" "Z" host ∈ lw_tbl := Or.inl (List.mem_of_getElem? (i := 563) (by decide +kernel))
theorem gs_String_1053 : Cond.fieldLink "java/lang/String" 1053 "jdk/internal/util/Preconditions" "SIOOBE_FORMATTER" "Ljava/util/function/BiFunction;" ∈ lw_tbl ∨ ∃ host, Cond.fieldLinkNest "java/lang/String" 1053 "jdk/internal/util/Preconditions" "SIOOBE_FORMATTER" "Ljava/util/function/BiFunction;" host ∈ lw_tbl := Or.inl (List.mem_of_getElem? (i := 602) (by decide +kernel))
theorem gs_UTF16_44 : Cond.fieldLink "java/lang/StringUTF16" 44 "java/lang/StringUTF16" "$assertionsDisabled" "Z" ∈ lw_tbl ∨ ∃ host, Cond.fieldLinkNest "java/lang/StringUTF16" 44 "java/lang/StringUTF16" "$assertionsDisabled" "Z" host ∈ lw_tbl := Or.inl (List.mem_of_getElem? (i := 613) (by decide +kernel))
theorem gs_UTF16_59 : Cond.fieldLink "java/lang/StringUTF16" 59 "java/lang/StringUTF16" "HI_BYTE_SHIFT" "I" ∈ lw_tbl ∨ ∃ host, Cond.fieldLinkNest "java/lang/StringUTF16" 59 "java/lang/StringUTF16" "HI_BYTE_SHIFT" "I" host ∈ lw_tbl := Or.inl (List.mem_of_getElem? (i := 615) (by decide +kernel))
theorem gs_UTF16_63 : Cond.fieldLink "java/lang/StringUTF16" 63 "java/lang/StringUTF16" "LO_BYTE_SHIFT" "I" ∈ lw_tbl ∨ ∃ host, Cond.fieldLinkNest "java/lang/StringUTF16" 63 "java/lang/StringUTF16" "LO_BYTE_SHIFT" "I" host ∈ lw_tbl := Or.inl (List.mem_of_getElem? (i := 617) (by decide +kernel))
theorem gs_Parted_23 : Cond.fieldLink "SafePaths$Parted" 23 "SafePaths" "NO_BYTES" "[I" ∈ lw_tbl ∨ ∃ host, Cond.fieldLinkNest "SafePaths$Parted" 23 "SafePaths" "NO_BYTES" "[I" host ∈ lw_tbl := Or.inr ⟨"SafePaths", List.mem_of_getElem? (i := 678) (by decide +kernel)⟩
theorem fl_Parted_7 : sp_fl "SafePaths$Parted" 7 (sp_Ct 7 0).1 (sp_Ct 7 0).2.1 (sp_Ct 7 0).2.2.1 := ⟨"SafePaths$Parted", Or.inl rfl, Or.inl (List.mem_of_getElem? (i := 680) (by decide +kernel))⟩
theorem fl_Tree_144 : sp_fl "SafePaths$Tree" 144 (sp_Ct 7 0).1 (sp_Ct 7 0).2.1 (sp_Ct 7 0).2.2.1 := ⟨"SafePaths$Parted", Or.inl rfl, Or.inr ⟨"SafePaths", List.mem_of_getElem? (i := 681) (by decide +kernel)⟩⟩
theorem fl_Parted_13 : sp_fl "SafePaths$Parted" 13 (sp_Ct 7 1).1 (sp_Ct 7 1).2.1 (sp_Ct 7 1).2.2.1 := ⟨"SafePaths$Parted", Or.inl rfl, Or.inl (List.mem_of_getElem? (i := 682) (by decide +kernel))⟩
theorem fl_Walk_82 : sp_fl "SafePaths$Walk" 82 (sp_Ct 7 1).1 (sp_Ct 7 1).2.1 (sp_Ct 7 1).2.2.1 := ⟨"SafePaths$Parted", Or.inl rfl, Or.inr ⟨"SafePaths", List.mem_of_getElem? (i := 683) (by decide +kernel)⟩⟩
theorem fl_Parted_17 : sp_fl "SafePaths$Parted" 17 (sp_Ct 7 2).1 (sp_Ct 7 2).2.1 (sp_Ct 7 2).2.2.1 := ⟨"SafePaths$Parted", Or.inl rfl, Or.inl (List.mem_of_getElem? (i := 684) (by decide +kernel))⟩
theorem fl_Parted_32 : sp_fl "SafePaths$Parted" 32 (sp_Ct 7 3).1 (sp_Ct 7 3).2.1 (sp_Ct 7 3).2.2.1 := ⟨"SafePaths$Parted", Or.inl rfl, Or.inl (List.mem_of_getElem? (i := 685) (by decide +kernel))⟩
theorem fl_Entry_7 : sp_fl "SafePaths$Entry" 7 (sp_Ct 3 0).1 (sp_Ct 3 0).2.1 (sp_Ct 3 0).2.2.1 := ⟨"SafePaths$Entry", Or.inl rfl, Or.inl (List.mem_of_getElem? (i := 765) (by decide +kernel))⟩
theorem fl_Taking_173 : sp_fl "SafePaths$Taking" 173 (sp_Ct 3 0).1 (sp_Ct 3 0).2.1 (sp_Ct 3 0).2.2.1 := ⟨"SafePaths$Entry", Or.inl rfl, Or.inr ⟨"SafePaths", List.mem_of_getElem? (i := 766) (by decide +kernel)⟩⟩
theorem fl_Entry_13 : sp_fl "SafePaths$Entry" 13 (sp_Ct 3 1).1 (sp_Ct 3 1).2.1 (sp_Ct 3 1).2.2.1 := ⟨"SafePaths$Entry", Or.inl rfl, Or.inl (List.mem_of_getElem? (i := 767) (by decide +kernel))⟩
theorem fl_Taking_97 : sp_fl "SafePaths$Taking" 97 (sp_Ct 3 1).1 (sp_Ct 3 1).2.1 (sp_Ct 3 1).2.2.1 := ⟨"SafePaths$Entry", Or.inl rfl, Or.inr ⟨"SafePaths", List.mem_of_getElem? (i := 768) (by decide +kernel)⟩⟩
theorem fl_Entry_17 : sp_fl "SafePaths$Entry" 17 (sp_Ct 3 2).1 (sp_Ct 3 2).2.1 (sp_Ct 3 2).2.2.1 := ⟨"SafePaths$Entry", Or.inl rfl, Or.inl (List.mem_of_getElem? (i := 769) (by decide +kernel))⟩
theorem fl_Taking_183 : sp_fl "SafePaths$Taking" 183 (sp_Ct 3 2).1 (sp_Ct 3 2).2.1 (sp_Ct 3 2).2.2.1 := ⟨"SafePaths$Entry", Or.inl rfl, Or.inr ⟨"SafePaths", List.mem_of_getElem? (i := 770) (by decide +kernel)⟩⟩
theorem fl_Entry_20 : sp_fl "SafePaths$Entry" 20 (sp_Ct 3 3).1 (sp_Ct 3 3).2.1 (sp_Ct 3 3).2.2.1 := ⟨"SafePaths$Entry", Or.inl rfl, Or.inl (List.mem_of_getElem? (i := 771) (by decide +kernel))⟩
theorem fl_Taking_211 : sp_fl "SafePaths$Taking" 211 (sp_Ct 3 3).1 (sp_Ct 3 3).2.1 (sp_Ct 3 3).2.2.1 := ⟨"SafePaths$Entry", Or.inl rfl, Or.inr ⟨"SafePaths", List.mem_of_getElem? (i := 772) (by decide +kernel)⟩⟩
theorem fl_Entry_23 : sp_fl "SafePaths$Entry" 23 (sp_Ct 3 4).1 (sp_Ct 3 4).2.1 (sp_Ct 3 4).2.2.1 := ⟨"SafePaths$Entry", Or.inl rfl, Or.inl (List.mem_of_getElem? (i := 773) (by decide +kernel))⟩
theorem fl_Taking_202 : sp_fl "SafePaths$Taking" 202 (sp_Ct 3 4).1 (sp_Ct 3 4).2.1 (sp_Ct 3 4).2.2.1 := ⟨"SafePaths$Entry", Or.inl rfl, Or.inr ⟨"SafePaths", List.mem_of_getElem? (i := 774) (by decide +kernel)⟩⟩
theorem fl_Note_7 : sp_fl "SafePaths$Note" 7 (sp_Ct 6 0).1 (sp_Ct 6 0).2.1 (sp_Ct 6 0).2.2.1 := ⟨"SafePaths$Note", Or.inl rfl, Or.inl (List.mem_of_getElem? (i := 943) (by decide +kernel))⟩
theorem fl_Taking_84 : sp_fl "SafePaths$Taking" 84 (sp_Ct 6 0).1 (sp_Ct 6 0).2.1 (sp_Ct 6 0).2.2.1 := ⟨"SafePaths$Note", Or.inl rfl, Or.inr ⟨"SafePaths", List.mem_of_getElem? (i := 944) (by decide +kernel)⟩⟩
theorem fl_Note_13 : sp_fl "SafePaths$Note" 13 (sp_Ct 6 1).1 (sp_Ct 6 1).2.1 (sp_Ct 6 1).2.2.1 := ⟨"SafePaths$Note", Or.inl rfl, Or.inl (List.mem_of_getElem? (i := 945) (by decide +kernel))⟩
theorem fl_Taking_85 : sp_fl "SafePaths$Taking" 85 (sp_Ct 6 1).1 (sp_Ct 6 1).2.1 (sp_Ct 6 1).2.2.1 := ⟨"SafePaths$Note", Or.inl rfl, Or.inr ⟨"SafePaths", List.mem_of_getElem? (i := 946) (by decide +kernel)⟩⟩
theorem fl_Mo_95 : sp_fl "SafePathsModel" 95 (sp_Ct 13 0).1 (sp_Ct 13 0).2.1 (sp_Ct 13 0).2.2.1 := ⟨"SafePathsModel", Or.inl rfl, Or.inl (List.mem_of_getElem? (i := 1082) (by decide +kernel))⟩
theorem fl_Mo_7 : sp_fl "SafePathsModel" 7 (sp_Ct 13 1).1 (sp_Ct 13 1).2.1 (sp_Ct 13 1).2.2.1 := ⟨"SafePathsModel", Or.inl rfl, Or.inl (List.mem_of_getElem? (i := 1083) (by decide +kernel))⟩
theorem fl_Mo_122 : sp_fl "SafePathsModel" 122 (sp_Ct 13 2).1 (sp_Ct 13 2).2.1 (sp_Ct 13 2).2.2.1 := ⟨"SafePathsModel", Or.inl rfl, Or.inl (List.mem_of_getElem? (i := 1084) (by decide +kernel))⟩
theorem fl_Mo_115 : sp_fl "SafePathsModel" 115 (sp_Ct 13 3).1 (sp_Ct 13 3).2.1 (sp_Ct 13 3).2.2.1 := ⟨"SafePathsModel", Or.inl rfl, Or.inl (List.mem_of_getElem? (i := 1085) (by decide +kernel))⟩
theorem fl_Mo_13 : sp_fl "SafePathsModel" 13 (sp_Ct 13 4).1 (sp_Ct 13 4).2.1 (sp_Ct 13 4).2.2.1 := ⟨"SafePathsModel", Or.inl rfl, Or.inl (List.mem_of_getElem? (i := 1086) (by decide +kernel))⟩
theorem fl_Mo_16 : sp_fl "SafePathsModel" 16 (sp_Ct 13 5).1 (sp_Ct 13 5).2.1 (sp_Ct 13 5).2.2.1 := ⟨"SafePathsModel", Or.inl rfl, Or.inl (List.mem_of_getElem? (i := 1087) (by decide +kernel))⟩
theorem fl_Mo_20 : sp_fl "SafePathsModel" 20 (sp_Ct 13 6).1 (sp_Ct 13 6).2.1 (sp_Ct 13 6).2.2.1 := ⟨"SafePathsModel", Or.inl rfl, Or.inl (List.mem_of_getElem? (i := 1088) (by decide +kernel))⟩
theorem fl_Mo_23 : sp_fl "SafePathsModel" 23 (sp_Ct 13 7).1 (sp_Ct 13 7).2.1 (sp_Ct 13 7).2.2.1 := ⟨"SafePathsModel", Or.inl rfl, Or.inl (List.mem_of_getElem? (i := 1089) (by decide +kernel))⟩
theorem fl_Mo_26 : sp_fl "SafePathsModel" 26 (sp_Ct 13 8).1 (sp_Ct 13 8).2.1 (sp_Ct 13 8).2.2.1 := ⟨"SafePathsModel", Or.inl rfl, Or.inl (List.mem_of_getElem? (i := 1090) (by decide +kernel))⟩
theorem fl_Mo_29 : sp_fl "SafePathsModel" 29 (sp_Ct 13 9).1 (sp_Ct 13 9).2.1 (sp_Ct 13 9).2.2.1 := ⟨"SafePathsModel", Or.inl rfl, Or.inl (List.mem_of_getElem? (i := 1091) (by decide +kernel))⟩
theorem fl_Mo_32 : sp_fl "SafePathsModel" 32 (sp_Ct 13 10).1 (sp_Ct 13 10).2.1 (sp_Ct 13 10).2.2.1 := ⟨"SafePathsModel", Or.inl rfl, Or.inl (List.mem_of_getElem? (i := 1092) (by decide +kernel))⟩
theorem fl_Mo_35 : sp_fl "SafePathsModel" 35 (sp_Ct 13 11).1 (sp_Ct 13 11).2.1 (sp_Ct 13 11).2.2.1 := ⟨"SafePathsModel", Or.inl rfl, Or.inl (List.mem_of_getElem? (i := 1093) (by decide +kernel))⟩
theorem fl_Mo_38 : sp_fl "SafePathsModel" 38 (sp_Ct 13 12).1 (sp_Ct 13 12).2.1 (sp_Ct 13 12).2.2.1 := ⟨"SafePathsModel", Or.inl rfl, Or.inl (List.mem_of_getElem? (i := 1094) (by decide +kernel))⟩
theorem fl_Mo_227 : sp_fl "SafePathsModel" 227 (sp_Ct 13 13).1 (sp_Ct 13 13).2.1 (sp_Ct 13 13).2.2.1 := ⟨"SafePathsModel", Or.inl rfl, Or.inl (List.mem_of_getElem? (i := 1095) (by decide +kernel))⟩
theorem fl_Mo_112 : sp_fl "SafePathsModel" 112 (sp_Ct 13 14).1 (sp_Ct 13 14).2.1 (sp_Ct 13 14).2.2.1 := ⟨"SafePathsModel", Or.inl rfl, Or.inl (List.mem_of_getElem? (i := 1096) (by decide +kernel))⟩
theorem fl_Mo_41 : sp_fl "SafePathsModel" 41 (sp_Ct 13 15).1 (sp_Ct 13 15).2.1 (sp_Ct 13 15).2.2.1 := ⟨"SafePathsModel", Or.inl rfl, Or.inl (List.mem_of_getElem? (i := 1097) (by decide +kernel))⟩
theorem fl_Mo_45 : sp_fl "SafePathsModel" 45 (sp_Ct 13 16).1 (sp_Ct 13 16).2.1 (sp_Ct 13 16).2.2.1 := ⟨"SafePathsModel", Or.inl rfl, Or.inl (List.mem_of_getElem? (i := 1098) (by decide +kernel))⟩
theorem fl_Mo_146 : sp_fl "SafePathsModel" 146 (sp_Ct 13 17).1 (sp_Ct 13 17).2.1 (sp_Ct 13 17).2.2.1 := ⟨"SafePathsModel", Or.inl rfl, Or.inl (List.mem_of_getElem? (i := 1099) (by decide +kernel))⟩
theorem fl_Mo_48 : sp_fl "SafePathsModel" 48 (sp_Ct 13 18).1 (sp_Ct 13 18).2.1 (sp_Ct 13 18).2.2.1 := ⟨"SafePathsModel", Or.inl rfl, Or.inl (List.mem_of_getElem? (i := 1100) (by decide +kernel))⟩
theorem fl_Mo_51 : sp_fl "SafePathsModel" 51 (sp_Ct 13 19).1 (sp_Ct 13 19).2.1 (sp_Ct 13 19).2.2.1 := ⟨"SafePathsModel", Or.inl rfl, Or.inl (List.mem_of_getElem? (i := 1101) (by decide +kernel))⟩
theorem fl_Mo_54 : sp_fl "SafePathsModel" 54 (sp_Ct 13 20).1 (sp_Ct 13 20).2.1 (sp_Ct 13 20).2.2.1 := ⟨"SafePathsModel", Or.inl rfl, Or.inl (List.mem_of_getElem? (i := 1102) (by decide +kernel))⟩
theorem fl_Mo_152 : sp_fl "SafePathsModel" 152 (sp_Ct 13 21).1 (sp_Ct 13 21).2.1 (sp_Ct 13 21).2.2.1 := ⟨"SafePathsModel", Or.inl rfl, Or.inl (List.mem_of_getElem? (i := 1103) (by decide +kernel))⟩
theorem fl_Mo_57 : sp_fl "SafePathsModel" 57 (sp_Ct 13 22).1 (sp_Ct 13 22).2.1 (sp_Ct 13 22).2.2.1 := ⟨"SafePathsModel", Or.inl rfl, Or.inl (List.mem_of_getElem? (i := 1104) (by decide +kernel))⟩
theorem fl_Mo_60 : sp_fl "SafePathsModel" 60 (sp_Ct 13 23).1 (sp_Ct 13 23).2.1 (sp_Ct 13 23).2.2.1 := ⟨"SafePathsModel", Or.inl rfl, Or.inl (List.mem_of_getElem? (i := 1105) (by decide +kernel))⟩
theorem fl_Mo_183 : sp_fl "SafePathsModel" 183 (sp_Ct 13 24).1 (sp_Ct 13 24).2.1 (sp_Ct 13 24).2.2.1 := ⟨"SafePathsModel", Or.inl rfl, Or.inl (List.mem_of_getElem? (i := 1106) (by decide +kernel))⟩
theorem fl_Mo_63 : sp_fl "SafePathsModel" 63 (sp_Ct 13 25).1 (sp_Ct 13 25).2.1 (sp_Ct 13 25).2.2.1 := ⟨"SafePathsModel", Or.inl rfl, Or.inl (List.mem_of_getElem? (i := 1107) (by decide +kernel))⟩
theorem fl_Mo_66 : sp_fl "SafePathsModel" 66 (sp_Ct 13 26).1 (sp_Ct 13 26).2.1 (sp_Ct 13 26).2.2.1 := ⟨"SafePathsModel", Or.inl rfl, Or.inl (List.mem_of_getElem? (i := 1108) (by decide +kernel))⟩
theorem fl_Mo_69 : sp_fl "SafePathsModel" 69 (sp_Ct 13 27).1 (sp_Ct 13 27).2.1 (sp_Ct 13 27).2.2.1 := ⟨"SafePathsModel", Or.inl rfl, Or.inl (List.mem_of_getElem? (i := 1109) (by decide +kernel))⟩
theorem fl_Mo_72 : sp_fl "SafePathsModel" 72 (sp_Ct 13 28).1 (sp_Ct 13 28).2.1 (sp_Ct 13 28).2.2.1 := ⟨"SafePathsModel", Or.inl rfl, Or.inl (List.mem_of_getElem? (i := 1110) (by decide +kernel))⟩
theorem fl_Mo_77 : sp_fl "SafePathsModel" 77 (sp_Ct 13 29).1 (sp_Ct 13 29).2.1 (sp_Ct 13 29).2.2.1 := ⟨"SafePathsModel", Or.inl rfl, Or.inl (List.mem_of_getElem? (i := 1111) (by decide +kernel))⟩
theorem fl_Mo_83 : sp_fl "SafePathsModel" 83 (sp_Ct 13 30).1 (sp_Ct 13 30).2.1 (sp_Ct 13 30).2.2.1 := ⟨"SafePathsModel", Or.inl rfl, Or.inl (List.mem_of_getElem? (i := 1112) (by decide +kernel))⟩
theorem fl_Mo_217 : sp_fl "SafePathsModel" 217 (sp_Ct 13 31).1 (sp_Ct 13 31).2.1 (sp_Ct 13 31).2.2.1 := ⟨"SafePathsModel", Or.inl rfl, Or.inl (List.mem_of_getElem? (i := 1113) (by decide +kernel))⟩
theorem fl_Mo_220 : sp_fl "SafePathsModel" 220 (sp_Ct 13 32).1 (sp_Ct 13 32).2.1 (sp_Ct 13 32).2.2.1 := ⟨"SafePathsModel", Or.inl rfl, Or.inl (List.mem_of_getElem? (i := 1114) (by decide +kernel))⟩
theorem fl_Mo_203 : sp_fl "SafePathsModel" 203 (sp_Ct 13 33).1 (sp_Ct 13 33).2.1 (sp_Ct 13 33).2.2.1 := ⟨"SafePathsModel", Or.inl rfl, Or.inl (List.mem_of_getElem? (i := 1115) (by decide +kernel))⟩
theorem fl_Mo_86 : sp_fl "SafePathsModel" 86 (sp_Ct 13 34).1 (sp_Ct 13 34).2.1 (sp_Ct 13 34).2.2.1 := ⟨"SafePathsModel", Or.inl rfl, Or.inl (List.mem_of_getElem? (i := 1116) (by decide +kernel))⟩
theorem fl_Mo_107 : sp_fl "SafePathsModel" 107 (sp_Ct 13 35).1 (sp_Ct 13 35).2.1 (sp_Ct 13 35).2.2.1 := ⟨"SafePathsModel", Or.inl rfl, Or.inl (List.mem_of_getElem? (i := 1117) (by decide +kernel))⟩
theorem fl_Mo_89 : sp_fl "SafePathsModel" 89 (sp_Ct 13 36).1 (sp_Ct 13 36).2.1 (sp_Ct 13 36).2.2.1 := ⟨"SafePathsModel", Or.inl rfl, Or.inl (List.mem_of_getElem? (i := 1118) (by decide +kernel))⟩
theorem fl_Mo_92 : sp_fl "SafePathsModel" 92 (sp_Ct 13 37).1 (sp_Ct 13 37).2.1 (sp_Ct 13 37).2.2.1 := ⟨"SafePathsModel", Or.inl rfl, Or.inl (List.mem_of_getElem? (i := 1119) (by decide +kernel))⟩
theorem fl_Mo_159 : sp_fl "SafePathsModel" 159 (sp_Ct 13 38).1 (sp_Ct 13 38).2.1 (sp_Ct 13 38).2.2.1 := ⟨"SafePathsModel", Or.inl rfl, Or.inl (List.mem_of_getElem? (i := 1120) (by decide +kernel))⟩
theorem fl_Mo_196 : sp_fl "SafePathsModel" 196 (sp_Ct 13 39).1 (sp_Ct 13 39).2.1 (sp_Ct 13 39).2.2.1 := ⟨"SafePathsModel", Or.inl rfl, Or.inl (List.mem_of_getElem? (i := 1121) (by decide +kernel))⟩
theorem fl_Mo_186 : sp_fl "SafePathsModel" 186 (sp_Ct 13 40).1 (sp_Ct 13 40).2.1 (sp_Ct 13 40).2.2.1 := ⟨"SafePathsModel", Or.inl rfl, Or.inl (List.mem_of_getElem? (i := 1122) (by decide +kernel))⟩
theorem fl_Mo_193 : sp_fl "SafePathsModel" 193 (sp_Ct 13 41).1 (sp_Ct 13 41).2.1 (sp_Ct 13 41).2.2.1 := ⟨"SafePathsModel", Or.inl rfl, Or.inl (List.mem_of_getElem? (i := 1123) (by decide +kernel))⟩
theorem gs_String_15 : Cond.fieldLink "java/lang/String" 15 "java/lang/String" "coder" "B" ∈ lw_tbl ∨ ∃ host, Cond.fieldLinkNest "java/lang/String" 15 "java/lang/String" "coder" "B" host ∈ lw_tbl := Or.inl (List.mem_of_getElem? (i := 1396) (by decide +kernel))
theorem gs_String_9 : Cond.fieldLink "java/lang/String" 9 "java/lang/String" "value" "[B" ∈ lw_tbl ∨ ∃ host, Cond.fieldLinkNest "java/lang/String" 9 "java/lang/String" "value" "[B" host ∈ lw_tbl := Or.inl (List.mem_of_getElem? (i := 1397) (by decide +kernel))
theorem cl_Law_7 : Cond.classLink "SafePathsLaw" 7 (sp_Cn 12) ∈ lw_tbl := List.mem_of_getElem? (i := 83) (by decide +kernel)
theorem cl_SP_7 : Cond.classLink "SafePaths" 7 (sp_Cn 8) ∈ lw_tbl := List.mem_of_getElem? (i := 91) (by decide +kernel)
theorem cl_SP_18 : Cond.classLink "SafePaths" 18 (sp_Cn 2) ∈ lw_tbl := List.mem_of_getElem? (i := 121) (by decide +kernel)
theorem cl_SP_25 : Cond.classLink "SafePaths" 25 (sp_Cn 0) ∈ lw_tbl := List.mem_of_getElem? (i := 135) (by decide +kernel)
theorem cl_SP_38 : Cond.classLink "SafePaths" 38 (sp_Cn 10) ∈ lw_tbl := List.mem_of_getElem? (i := 161) (by decide +kernel)
theorem cl_Tree_13 : Cond.classLink "SafePaths$Tree" 13 (sp_Cn 0) ∈ lw_tbl := List.mem_of_getElem? (i := 167) (by decide +kernel)
theorem cl_Tree_23 : Cond.classLink "SafePaths$Tree" 23 (sp_Cn 1) ∈ lw_tbl := List.mem_of_getElem? (i := 169) (by decide +kernel)
theorem cl_Tree_30 : Cond.classLink "SafePaths$Tree" 30 (sp_Cn 5) ∈ lw_tbl := List.mem_of_getElem? (i := 189) (by decide +kernel)
theorem cl_Tree_32 : Cond.classLink "SafePaths$Tree" 32 (sp_Cn 4) ∈ lw_tbl := List.mem_of_getElem? (i := 191) (by decide +kernel)
theorem cl_Arrays_110 : Cond.classLink "java/util/Arrays" 110 "[Ljava/lang/Object;" ∈ lw_tbl := List.mem_of_getElem? (i := 318) (by decide +kernel)
theorem cl_Arrays_2 : Cond.classLink "java/util/Arrays" 2 "java/lang/Object" ∈ lw_tbl := List.mem_of_getElem? (i := 320) (by decide +kernel)
theorem cl_List_7 : Cond.classLink "java/util/ArrayList" 7 "java/lang/Object" ∈ lw_tbl := List.mem_of_getElem? (i := 326) (by decide +kernel)
theorem cl_SP_47 : Cond.classLink "SafePaths" 47 (sp_Cn 11) ∈ lw_tbl := List.mem_of_getElem? (i := 352) (by decide +kernel)
theorem cl_Walk_15 : Cond.classLink "SafePaths$Walk" 15 (sp_Cn 0) ∈ lw_tbl := List.mem_of_getElem? (i := 358) (by decide +kernel)
theorem cl_SP_56 : Cond.classLink "SafePaths" 56 (sp_Cn 9) ∈ lw_tbl := List.mem_of_getElem? (i := 376) (by decide +kernel)
theorem cl_Taking_23 : Cond.classLink "SafePaths$Taking" 23 (sp_Cn 0) ∈ lw_tbl := List.mem_of_getElem? (i := 382) (by decide +kernel)
theorem cl_Draft_25 : Cond.classLink "SafePaths$Draft" 25 (sp_Cn 0) ∈ lw_tbl := List.mem_of_getElem? (i := 474) (by decide +kernel)
theorem cl_Draft_32 : Cond.classLink "SafePaths$Draft" 32 (sp_Cn 4) ∈ lw_tbl := List.mem_of_getElem? (i := 484) (by decide +kernel)
theorem cl_SP_106 : Cond.classLink "SafePaths" 106 (sp_Cn 4) ∈ lw_tbl := List.mem_of_getElem? (i := 525) (by decide +kernel)
theorem cl_SP_85 : Cond.classLink "SafePaths" 85 (sp_Cn 7) ∈ lw_tbl := List.mem_of_getElem? (i := 671) (by decide +kernel)
theorem cl_Parted_21 : Cond.classLink "SafePaths$Parted" 21 (sp_Cn 4) ∈ lw_tbl := List.mem_of_getElem? (i := 677) (by decide +kernel)
theorem cl_SP_130 : Cond.classLink "SafePaths" 130 (sp_Cn 3) ∈ lw_tbl := List.mem_of_getElem? (i := 759) (by decide +kernel)
theorem cl_Walk_66 : Cond.classLink "SafePaths$Walk" 66 (sp_Cn 4) ∈ lw_tbl := List.mem_of_getElem? (i := 883) (by decide +kernel)
theorem cl_Taking_82 : Cond.classLink "SafePaths$Taking" 82 (sp_Cn 6) ∈ lw_tbl := List.mem_of_getElem? (i := 937) (by decide +kernel)
theorem cl_Law_18 : Cond.classLink "SafePathsLaw" 18 (sp_Cn 13) ∈ lw_tbl := List.mem_of_getElem? (i := 1065) (by decide +kernel)
theorem in_0 : Cond.instantiable (sp_Cn 0) 3 ∈ lw_tbl := List.mem_of_getElem? (i := 136) (by decide +kernel)
theorem it_0 : Cond.initialized (sp_Cn 0) ∈ lw_tbl := List.mem_of_getElem? (i := 62) (by decide +kernel)
theorem in_1 : Cond.instantiable (sp_Cn 1) 3 ∈ lw_tbl := List.mem_of_getElem? (i := 170) (by decide +kernel)
theorem it_1 : Cond.initialized (sp_Cn 1) ∈ lw_tbl := List.mem_of_getElem? (i := 64) (by decide +kernel)
theorem ca_1 : Cond.castable (sp_Cn 1) "java/lang/Object" ∈ lw_tbl := List.mem_of_getElem? (i := 1386) (by decide +kernel)
theorem in_2 : Cond.instantiable (sp_Cn 2) 2 ∈ lw_tbl := List.mem_of_getElem? (i := 122) (by decide +kernel)
theorem it_2 : Cond.initialized (sp_Cn 2) ∈ lw_tbl := List.mem_of_getElem? (i := 59) (by decide +kernel)
theorem ca_2 : Cond.castable (sp_Cn 2) "java/lang/Object" ∈ lw_tbl := List.mem_of_getElem? (i := 1384) (by decide +kernel)
theorem in_3 : Cond.instantiable (sp_Cn 3) 5 ∈ lw_tbl := List.mem_of_getElem? (i := 760) (by decide +kernel)
theorem it_3 : Cond.initialized (sp_Cn 3) ∈ lw_tbl := List.mem_of_getElem? (i := 81) (by decide +kernel)
theorem ca_3 : Cond.castable (sp_Cn 3) "java/lang/Object" ∈ lw_tbl := List.mem_of_getElem? (i := 1393) (by decide +kernel)
theorem in_4 : Cond.instantiable (sp_Cn 4) 2 ∈ lw_tbl := List.mem_of_getElem? (i := 192) (by decide +kernel)
theorem it_4 : Cond.initialized (sp_Cn 4) ∈ lw_tbl := List.mem_of_getElem? (i := 66) (by decide +kernel)
theorem ca_4 : Cond.castable (sp_Cn 4) "java/lang/Object" ∈ lw_tbl := List.mem_of_getElem? (i := 1388) (by decide +kernel)
theorem in_5 : Cond.instantiable (sp_Cn 5) 8 ∈ lw_tbl := List.mem_of_getElem? (i := 190) (by decide +kernel)
theorem it_5 : Cond.initialized (sp_Cn 5) ∈ lw_tbl := List.mem_of_getElem? (i := 65) (by decide +kernel)
theorem ca_5 : Cond.castable (sp_Cn 5) "java/lang/Object" ∈ lw_tbl := List.mem_of_getElem? (i := 1387) (by decide +kernel)
theorem in_6 : Cond.instantiable (sp_Cn 6) 2 ∈ lw_tbl := List.mem_of_getElem? (i := 938) (by decide +kernel)
theorem it_6 : Cond.initialized (sp_Cn 6) ∈ lw_tbl := List.mem_of_getElem? (i := 82) (by decide +kernel)
theorem ca_6 : Cond.castable (sp_Cn 6) "java/lang/Object" ∈ lw_tbl := List.mem_of_getElem? (i := 1394) (by decide +kernel)
theorem in_7 : Cond.instantiable (sp_Cn 7) 4 ∈ lw_tbl := List.mem_of_getElem? (i := 672) (by decide +kernel)
theorem it_7 : Cond.initialized (sp_Cn 7) ∈ lw_tbl := List.mem_of_getElem? (i := 80) (by decide +kernel)
theorem ca_7 : Cond.castable (sp_Cn 7) "java/lang/Object" ∈ lw_tbl := List.mem_of_getElem? (i := 1392) (by decide +kernel)
theorem in_8 : Cond.instantiable (sp_Cn 8) 6 ∈ lw_tbl := List.mem_of_getElem? (i := 92) (by decide +kernel)
theorem it_8 : Cond.initialized (sp_Cn 8) ∈ lw_tbl := List.mem_of_getElem? (i := 58) (by decide +kernel)
theorem ca_8 : Cond.castable (sp_Cn 8) "java/lang/Object" ∈ lw_tbl := List.mem_of_getElem? (i := 1383) (by decide +kernel)
theorem in_9 : Cond.instantiable (sp_Cn 9) 14 ∈ lw_tbl := List.mem_of_getElem? (i := 377) (by decide +kernel)
theorem it_9 : Cond.initialized (sp_Cn 9) ∈ lw_tbl := List.mem_of_getElem? (i := 72) (by decide +kernel)
theorem ca_9 : Cond.castable (sp_Cn 9) "java/lang/Object" ∈ lw_tbl := List.mem_of_getElem? (i := 1390) (by decide +kernel)
theorem in_10 : Cond.instantiable (sp_Cn 10) 7 ∈ lw_tbl := List.mem_of_getElem? (i := 162) (by decide +kernel)
theorem it_10 : Cond.initialized (sp_Cn 10) ∈ lw_tbl := List.mem_of_getElem? (i := 63) (by decide +kernel)
theorem ca_10 : Cond.castable (sp_Cn 10) "java/lang/Object" ∈ lw_tbl := List.mem_of_getElem? (i := 1385) (by decide +kernel)
theorem in_11 : Cond.instantiable (sp_Cn 11) 5 ∈ lw_tbl := List.mem_of_getElem? (i := 353) (by decide +kernel)
theorem it_11 : Cond.initialized (sp_Cn 11) ∈ lw_tbl := List.mem_of_getElem? (i := 71) (by decide +kernel)
theorem ca_11 : Cond.castable (sp_Cn 11) "java/lang/Object" ∈ lw_tbl := List.mem_of_getElem? (i := 1389) (by decide +kernel)
theorem in_12 : Cond.instantiable (sp_Cn 12) 9 ∈ lw_tbl := List.mem_of_getElem? (i := 84) (by decide +kernel)
theorem it_12 : Cond.initialized (sp_Cn 12) ∈ lw_tbl := List.mem_of_getElem? (i := 57) (by decide +kernel)
theorem ca_12 : Cond.castable (sp_Cn 12) "java/lang/Object" ∈ lw_tbl := List.mem_of_getElem? (i := 1382) (by decide +kernel)
theorem in_13 : Cond.instantiable (sp_Cn 13) 42 ∈ lw_tbl := List.mem_of_getElem? (i := 1066) (by decide +kernel)
theorem it_13 : Cond.initialized (sp_Cn 13) ∈ lw_tbl := List.mem_of_getElem? (i := 73) (by decide +kernel)
theorem ca_13 : Cond.castable (sp_Cn 13) "java/lang/Object" ∈ lw_tbl := List.mem_of_getElem? (i := 1391) (by decide +kernel)
theorem kl_Tree_25 : Cond.constantLong "SafePaths$Tree" 25 (8 : Int64) ∈ lw_tbl := List.mem_of_getElem? (i := 171) (by decide +kernel)
theorem kl_Taking_30 : Cond.constantLong "SafePaths$Taking" 30 (1000000 : Int64) ∈ lw_tbl := List.mem_of_getElem? (i := 384) (by decide +kernel)
theorem kl_Taking_36 : Cond.constantLong "SafePaths$Taking" 36 (4611686018427387904 : Int64) ∈ lw_tbl := List.mem_of_getElem? (i := 385) (by decide +kernel)
theorem kl_SP_128 : Cond.constantLong "SafePaths" 128 (1099511627776 : Int64) ∈ lw_tbl := List.mem_of_getElem? (i := 758) (by decide +kernel)
theorem kl_SP_152 : Cond.constantLong "SafePaths" 152 (-7 : Int64) ∈ lw_tbl := List.mem_of_getElem? (i := 979) (by decide +kernel)
theorem kl_Mo_75 : Cond.constantLong "SafePathsModel" 75 (1000000 : Int64) ∈ lw_tbl := List.mem_of_getElem? (i := 1071) (by decide +kernel)
theorem kl_Mo_81 : Cond.constantLong "SafePathsModel" 81 (4611686018427387904 : Int64) ∈ lw_tbl := List.mem_of_getElem? (i := 1072) (by decide +kernel)
theorem kl_Mo_110 : Cond.constantLong "SafePathsModel" 110 (8 : Int64) ∈ lw_tbl := List.mem_of_getElem? (i := 1081) (by decide +kernel)
theorem kl_Mo_181 : Cond.constantLong "SafePathsModel" 181 (1099511627776 : Int64) ∈ lw_tbl := List.mem_of_getElem? (i := 1298) (by decide +kernel)
theorem kl_Mo_236 : Cond.constantLong "SafePathsModel" 236 (-7 : Int64) ∈ lw_tbl := List.mem_of_getElem? (i := 1347) (by decide +kernel)
theorem kl_Law_45 : Cond.constantLong "SafePathsLaw" 45 (4294967295 : Int64) ∈ lw_tbl := List.mem_of_getElem? (i := 1372) (by decide +kernel)
theorem ki_ASup_200 : Cond.constant "jdk/internal/util/ArraysSupport" 200 (2147483639 : Int32) ∈ lw_tbl := List.mem_of_getElem? (i := 290) (by decide +kernel)
theorem ki_UTF16_227 : Cond.constant "java/lang/StringUTF16" 227 (65536 : Int32) ∈ lw_tbl := List.mem_of_getElem? (i := 589) (by decide +kernel)
theorem ki_Char_110 : Cond.constant "java/lang/Character" 110 (55232 : Int32) ∈ lw_tbl := List.mem_of_getElem? (i := 628) (by decide +kernel)
theorem ki_Char_76 : Cond.constant "java/lang/Character" 76 (56320 : Int32) ∈ lw_tbl := List.mem_of_getElem? (i := 632) (by decide +kernel)
end
section
def sp_oI (P : Int32 → sp_M → Prop) : Option Value → sp_M → Prop := fun r m' => ∃ v, r = some (.int v) ∧ P v m'
def sp_oL (P : Int64 → sp_M → Prop) : Option Value → sp_M → Prop := fun r m' => ∃ v, r = some (.long v) ∧ P v m'
def sp_oR (P : Option Nat → sp_M → Prop) : Option Value → sp_M → Prop := fun r m' => ∃ v, r = some (va_rf v) ∧ P v m'
def sp_oV (P : sp_M → Prop) : Option Value → sp_M → Prop := fun r m' => r = none ∧ P m'
theorem sp_kI {w : sp_T} {k n pc : Nat} {lv : sp_L} {rest : List Value} {P : Int32 → sp_M → Prop} (h : ∀ v m', P v m' → w k n m' pc lv (.int v :: rest)) : ∀ r m', sp_oI P r m' → w k n m' pc lv (r.toList ++ rest) := by
  rintro r m' ⟨v, rfl, hp⟩
  exact h v m' hp
theorem sp_kL {w : sp_T} {k n pc : Nat} {lv : sp_L} {rest : List Value} {P : Int64 → sp_M → Prop} (h : ∀ v m', P v m' → w k n m' pc lv (.long v :: rest)) : ∀ r m', sp_oL P r m' → w k n m' pc lv (r.toList ++ rest) := by
  rintro r m' ⟨v, rfl, hp⟩
  exact h v m' hp
theorem sp_kR {w : sp_T} {k n pc : Nat} {lv : sp_L} {rest : List Value} {P : Option Nat → sp_M → Prop} (h : ∀ v m', P v m' → w k n m' pc lv (va_rf v :: rest)) : ∀ r m', sp_oR P r m' → w k n m' pc lv (r.toList ++ rest) := by
  rintro r m' ⟨v, rfl, hp⟩
  exact h v m' hp
theorem sp_kV {w : sp_T} {k n pc : Nat} {lv : sp_L} {rest : List Value} {P : sp_M → Prop} (h : ∀ m', P m' → w k n m' pc lv rest) : ∀ r m', sp_oV P r m' → w k n m' pc lv (r.toList ++ rest) := by
  rintro r m' ⟨rfl, hp⟩
  exact h m' hp
/-- every cell lies below the next address -/
def sp_wf (m : sp_M) : Prop := ∀ a, m.ty a ≠ 0 → a < m.nx
theorem sp_fresh {l : Launch} {G : sp_G} {own : String} {cc : ByteArray} {nL : Nat} {init : Bool} {ret : Option FieldType} {R : Room} {Qo : Option (Option Value → sp_M → Prop)} {w : sp_T} {k n : Nat} {m : sp_M} {pc : Nat} {lv : sp_L} {st : List Value} (X : sp_X l G own cc nL init ret R Qo w) (kk : sp_wf m → G.base ≤ m.nx → w k n m pc lv st) : w k n m pc lv st := by
  obtain ⟨p, e, s, mm, args, below, meth, cd, Q, hx, hb, hml, hown, hlocks, hret, hini, hK, hQ, rfl⟩ := X
  intro hk0 hn0 H locs ls hH hL hl
  exact kk (fun a ha => hH.lt ha) hH.2.1 hk0 hn0 H locs ls hH hL hl
end
section

theorem sp_cat_i (x : Int32) : (Value.int x).category = 1 := rfl
theorem sp_cat_l (x : Int64) : (Value.long x).category = 2 := rfl
theorem sp_beq12 : Nat.beq 1 2 = false := rfl
theorem sp_beq22 : Nat.beq 2 2 = true := rfl
section SPP
variable {l : Launch} {G : sp_G} {own : String} {cc : ByteArray} {nL : Nat} {init : Bool} {ret : Option FieldType} {R : Room} {Qo : Option (Option Value → sp_M → Prop)} {w : sp_T}
variable {k n : Nat} {m : sp_M} {pc : Nat} {lv : sp_L} {st : List Value}
theorem sp_pick (X : sp_X l G own cc nL init ret R Qo w) (is : List Nat) {lv' : sp_L} (hs : is.filterMap (fun i => lv[i]?) = lv') (kk : w k n m pc lv' st) : w k n m pc lv st := by
  obtain ⟨p, e, s, mm, args, below, meth, cd, Q, hx, hb, hml, hown, hlocks, hret, hini, hK, hQ, rfl⟩ := X
  intro hk0 hn0 H locs ls hH hL hl
  refine kk hk0 hn0 H locs ls hH hL (sp_lv_sub hl fun q hq => ?_)
  subst hs
  obtain ⟨i, -, hi⟩ := List.mem_filterMap.mp hq
  exact List.mem_of_getElem? hi
theorem sp_enterF {Y : sp_Me} {mc ms : Nat} {av : List Value} {post : Option Value → sp_M → Prop} {lv0 : sp_L} (own : String) (init : Bool) (hown : Y.1.cls = own) (hpl : plainFor Y.1 = true) (hi : init = true → Y.1.name = "<init>") (hav : (lg_sl av).length ≤ Y.2.2.1) (hlv : sp_args 0 av = lv0) (body : ∀ w : sp_T, sp_X l G own Y.2.1 Y.2.2.1 init Y.2.2.2.1 ({ frames := Y.2.2.2.2.1, cells := mc, slots := ms, locals := Y.2.2.2.2.2 }) (some post) w → w mc ms m 0 lv0 []) : sp_C l G Y mc ms av m post := by
  refine va_MetF (cc := Y.2.1) (maxL := Y.2.2.1) (ret := Y.2.2.2.1) hpl rfl ?_
  intro p e s mm args below meth c s₁ B hml hv
  obtain ⟨rfl, hK, hH⟩ := hv
  subst hown
  have hX : sp_X l G Y.1.cls Y.2.1 Y.2.2.1 init Y.2.2.2.1 ({ frames := Y.2.2.2.2.1, cells := mc, slots := ms, locals := Y.2.2.2.2.2 }) (some post) (sp_w G p l e ({ frames := Y.2.2.2.2.1, cells := mc, slots := ms, locals := Y.2.2.2.2.2 }) s mm av.toArray below meth c (MQ below (sp_Q G post) av.toArray s mc ms (sp_A G)) Y.2.2.1) :=
    ⟨p, e, s, mm, av.toArray, below, meth, c, _, B.exec, B.bytes, hml, findClass_of_methodNamed B.named, B.notSynchronized, B.returns, fun h => ((name_of_methodNamed B.named B.method).1).trans (hi h), hK, fun post' h => by cases h; rfl, rfl⟩
  have hw := body _ hX (Nat.le_refl _) (Nat.le_refl _) s.heap [] ((lg_sl av ++ List.replicate (Y.2.2.1 - (lg_sl av).length) Slot.unset).toArray) hH (fun q hq => by cases hq) (by
    subst hlv
    have := lv_entry av (n := Y.2.2.1) hav
    rw [← sp_args_map av 0] at this
    exact ⟨this, sp_args_cat av 0⟩)
  rw [lg_entry_eq]
  have e1 : ({ frames := Y.2.2.2.2.1, cells := mc, slots := ms, locals := Y.2.2.2.2.2 } : Room).cells - mc = 0 := Nat.sub_self mc
  have e2 : ({ frames := Y.2.2.2.2.1, cells := mc, slots := ms, locals := Y.2.2.2.2.2 } : Room).slots - ms = 0 := Nat.sub_self ms
  rw [e1, e2] at hw
  exact hw
end SPP
set_option maxRecDepth 20000 in
theorem c_Math_max (l : Launch) (G : sp_G) (m : sp_M) {x y : Int32} : sp_C l G M_Math_max 0 0 [.int x, .int y] m (sp_oI fun v m' => v = (if x < y then y else x) ∧ m' = m) := by
  refine sp_enterF (lv0 := [(0, false, .int x), (1, false, .int y)]) "java/lang/Math" false rfl (by decide +kernel) (fun h => by cases h) (Nat.le_of_ble_eq_true rfl) rfl ?_
  intro w X
  refine sp_iload_n X (pc := 0) (x := x) dJ9_max_7cf53_0 rfl rfl ?_
  refine sp_iload_n X (pc := 1) (x := y) dJ9_max_7cf53_1 rfl rfl ?_
  refine sp_icmp_lt X (pc := 2) (tgt := 9) dJ9_max_7cf53_2 (by decide) (fun hb2 => ?_) (fun hb2 => ?_)
  · refine sp_iload_n X (pc := 9) (x := y) dJ9_max_7cf53_9 rfl rfl ?_
    refine sp_ireturn X (pc := 10) dJ9_max_7cf53_10 rfl ⟨_, rfl, ?_⟩
    first | exact ⟨rfl, rfl⟩ | rfl | (refine ⟨?_, rfl⟩; first | (rw [if_pos (by assumption)]; done) | (rw [if_neg (by assumption)]; done) | (split <;> simp_all; done))
  · refine sp_iload_n X (pc := 5) (x := x) dJ9_max_7cf53_5 rfl rfl ?_
    refine sp_goto X (pc := 6) (tgt := 10) dJ9_max_7cf53_6 (by decide) ?_
    refine sp_ireturn X (pc := 10) dJ9_max_7cf53_10 rfl ⟨_, rfl, ?_⟩
    first | exact ⟨rfl, rfl⟩ | rfl | (refine ⟨?_, rfl⟩; first | (rw [if_pos (by assumption)]; done) | (rw [if_neg (by assumption)]; done) | (split <;> simp_all; done))
set_option maxRecDepth 20000 in
theorem c_Math_min (l : Launch) (G : sp_G) (m : sp_M) {x y : Int32} : sp_C l G M_Math_min 0 0 [.int x, .int y] m (sp_oI fun v m' => v = (if y < x then y else x) ∧ m' = m) := by
  refine sp_enterF (lv0 := [(0, false, .int x), (1, false, .int y)]) "java/lang/Math" false rfl (by decide +kernel) (fun h => by cases h) (Nat.le_of_ble_eq_true rfl) rfl ?_
  intro w X
  refine sp_iload_n X (pc := 0) (x := x) dJ9_min_7cf53_0 rfl rfl ?_
  refine sp_iload_n X (pc := 1) (x := y) dJ9_min_7cf53_1 rfl rfl ?_
  refine sp_icmp_gt X (pc := 2) (tgt := 9) dJ9_min_7cf53_2 (by decide) (fun hb2 => ?_) (fun hb2 => ?_)
  · refine sp_iload_n X (pc := 9) (x := y) dJ9_min_7cf53_9 rfl rfl ?_
    refine sp_ireturn X (pc := 10) dJ9_min_7cf53_10 rfl ⟨_, rfl, ?_⟩
    first | exact ⟨rfl, rfl⟩ | rfl | (refine ⟨?_, rfl⟩; first | (rw [if_pos (by assumption)]; done) | (rw [if_neg (by assumption)]; done) | (split <;> simp_all; done))
  · refine sp_iload_n X (pc := 5) (x := x) dJ9_min_7cf53_5 rfl rfl ?_
    refine sp_goto X (pc := 6) (tgt := 10) dJ9_min_7cf53_6 (by decide) ?_
    refine sp_ireturn X (pc := 10) dJ9_min_7cf53_10 rfl ⟨_, rfl, ?_⟩
    first | exact ⟨rfl, rfl⟩ | rfl | (refine ⟨?_, rfl⟩; first | (rw [if_pos (by assumption)]; done) | (rw [if_neg (by assumption)]; done) | (split <;> simp_all; done))
set_option maxRecDepth 20000 in
theorem c_List_size (l : Launch) (G : sp_G) (m : sp_M) {o : Nat} (ho : m.ty o = 1) : sp_C l G M_List_size 0 0 [.ref o] m (sp_oI fun v m' => v = m.fI 2 o ∧ m' = m) := by
  refine sp_enter (lv0 := [(0, false, va_rf (some o))]) "java/util/ArrayList" false rfl (by decide) (fun h => by cases h) (Nat.le_of_ble_eq_true rfl) rfl ?_
  intro w X
  refine sp_aload_n X (pc := 0) (r := some o) dJx4a65c_size_8abf5_0 rfl rfl ?_
  refine sp_getfield X (pc := 1) (c := 0) (i := 2) (t := 0) (a := o) (v := .int (m.fI 2 o)) rfl (by first | assumption | omega) (by decide) rfl rfl fl_List_48 dJx4a65c_size_8abf5_1 ?_
  refine sp_ireturn X (pc := 4) dJx4a65c_size_8abf5_4 rfl ⟨_, rfl, ?_⟩
  first | exact ⟨rfl, rfl⟩ | rfl | (refine ⟨?_, rfl⟩; first | (rw [if_pos (by assumption)]; done) | (rw [if_neg (by assumption)]; done) | (split <;> simp_all; done))
set_option maxRecDepth 20000 in
theorem c_List_isEmpty (l : Launch) (G : sp_G) (m : sp_M) {o : Nat} (ho : m.ty o = 1) : sp_C l G M_List_isEmpty 0 0 [.ref o] m (sp_oI fun v m' => v = (if m.fI 2 o = 0 then 1 else 0) ∧ m' = m) := by
  refine sp_enter (lv0 := [(0, false, va_rf (some o))]) "java/util/ArrayList" false rfl (by decide) (fun h => by cases h) (Nat.le_of_ble_eq_true rfl) rfl ?_
  intro w X
  refine sp_aload_n X (pc := 0) (r := some o) dJx4a65c_isEmpty_aae02_0 rfl rfl ?_
  refine sp_getfield X (pc := 1) (c := 0) (i := 2) (t := 0) (a := o) (v := .int (m.fI 2 o)) rfl (by first | assumption | omega) (by decide) rfl rfl fl_List_48 dJx4a65c_isEmpty_aae02_1 ?_
  refine sp_if_ne X (pc := 4) (tgt := 11) dJx4a65c_isEmpty_aae02_4 (by decide) (fun hb4 => ?_) (fun hb4 => ?_)
  · refine sp_iconst X (pc := 11) (v := 0) dJx4a65c_isEmpty_aae02_11 (by decide) ?_
    refine sp_ireturn X (pc := 12) dJx4a65c_isEmpty_aae02_12 rfl ⟨_, rfl, ?_⟩
    first | exact ⟨rfl, rfl⟩ | rfl | (refine ⟨?_, rfl⟩; first | (rw [if_pos (by assumption)]; done) | (rw [if_neg (by assumption)]; done) | (split <;> simp_all; done))
  · refine sp_iconst X (pc := 7) (v := 1) dJx4a65c_isEmpty_aae02_7 (by decide) ?_
    refine sp_goto X (pc := 8) (tgt := 12) dJx4a65c_isEmpty_aae02_8 (by decide) ?_
    refine sp_ireturn X (pc := 12) dJx4a65c_isEmpty_aae02_12 rfl ⟨_, rfl, ?_⟩
    first | exact ⟨rfl, rfl⟩ | rfl | (refine ⟨?_, rfl⟩; first | (rw [if_pos (by assumption)]; done) | (rw [if_neg (by assumption)]; done) | (split <;> simp_all; done))
set_option maxRecDepth 20000 in
theorem c_AColl_init (l : Launch) (G : sp_G) (m : sp_M) (o : Nat) : sp_C l G M_AColl_init 0 0 [.ref o] m (sp_oV fun m' => m' = m) := by
  refine sp_enter (lv0 := [(0, false, va_rf (some o))]) "java/util/AbstractCollection" true rfl (by decide) (fun _ => rfl) (Nat.le_of_ble_eq_true rfl) rfl ?_
  intro w X
  refine sp_aload_n X (pc := 0) (r := some o) dJxa1e45_init_da8c8_0 rfl rfl ?_
  refine sp_objInit X (pc := 1) (a := o) rfl lk_AColl_1 oi_1 oi_2 (Nat.le_of_ble_eq_true rfl) (Nat.le_of_ble_eq_true rfl) dJxa1e45_init_da8c8_1 ?_
  refine sp_return X (pc := 4) dJxa1e45_init_da8c8_4 ⟨rfl, ?_⟩
  first | exact ⟨rfl, rfl⟩ | rfl | (refine ⟨?_, rfl⟩; first | (rw [if_pos (by assumption)]; done) | (rw [if_neg (by assumption)]; done) | (split <;> simp_all; done))
set_option maxRecDepth 20000 in
theorem c_AList_init (l : Launch) (G : sp_G) (m : sp_M) {o : Nat} (ho : m.ty o = 1) : sp_C l G M_AList_init 0 0 [.ref o] m (sp_oV fun m' => m' = m.pI 0 o 0) := by
  refine sp_enter (lv0 := [(0, false, va_rf (some o))]) "java/util/AbstractList" true rfl (by decide) (fun _ => rfl) (Nat.le_of_ble_eq_true rfl) rfl ?_
  intro w X
  refine sp_aload_n X (pc := 0) (r := some o) dJxc12de_init_da8c8_0 rfl rfl ?_
  refine sp_callI X (pc := 1) (mc := 0) (ms := 0) (b := o) (r := some o) (As := []) (rest := []) (c_AColl_init l G _ _) ok_AColl_init rfl rfl lk_AList_1 rfl rfl (Nat.zero_le _) (Nat.le_of_ble_eq_true rfl) (Nat.le_of_ble_eq_true rfl) (Nat.zero_le _) (Nat.zero_le _) dJxc12de_init_da8c8_1 (sp_kV fun m1 hp1 => ?_)
  replace hp1 := (hp1).symm; subst hp1
  refine sp_aload_n X (pc := 4) (r := some o) dJxc12de_init_da8c8_4 rfl rfl ?_
  refine sp_iconst X (pc := 5) (v := 0) dJxc12de_init_da8c8_5 (by decide) ?_
  refine sp_putI X (pc := 6) (c := 0) (i := 0) (q := 0) (a := o) rfl (by first | assumption | omega) (by decide) rfl rfl (Or.inl rfl) ⟨rfl, rfl⟩ fl_AList_7 dJxc12de_init_da8c8_6 ?_
  refine sp_return X (pc := 9) dJxc12de_init_da8c8_9 ⟨rfl, ?_⟩
  first | exact ⟨rfl, rfl⟩ | rfl | (refine ⟨?_, rfl⟩; first | (rw [if_pos (by assumption)]; done) | (rw [if_neg (by assumption)]; done) | (split <;> simp_all; done))
set_option maxRecDepth 20000 in
theorem c_Node_isFolder (l : Launch) (G : sp_G) (m : sp_M) {o : Nat} (ho : m.ty o = 6) : sp_C l G M_Node_isFolder 0 0 [.ref o] m (sp_oI fun v m' => v = (if m.fR 323 o = none ∧ m.fR 324 o = none then 1 else 0) ∧ m' = m) := by
  refine sp_enter (lv0 := [(0, false, va_rf (some o))]) "SafePaths$Node" false rfl (by decide) (fun h => by cases h) (Nat.le_of_ble_eq_true rfl) rfl ?_
  intro w X
  refine sp_aload_n X (pc := 0) (r := some o) dX4_isFolder_0 rfl rfl ?_
  refine sp_getfield X (pc := 1) (c := 5) (i := 3) (t := 2) (a := o) (v := va_rf (m.fR 323 o)) rfl (by first | assumption | omega) (by decide) rfl rfl fl_Node_21 dX4_isFolder_1 ?_
  refine sp_ifnonnull X (pc := 4) (tgt := 18) dX4_isFolder_4 (by decide) (fun ra4 hb4 => ?_) (fun hb4 => ?_)
  · refine sp_iconst X (pc := 18) (v := 0) dX4_isFolder_18 (by decide) ?_
    refine sp_ireturn X (pc := 19) dX4_isFolder_19 rfl ⟨_, rfl, ?_⟩
    first | exact ⟨rfl, rfl⟩ | rfl | (refine ⟨?_, rfl⟩; first | (rw [if_pos (by assumption)]; done) | (rw [if_neg (by assumption)]; done) | (split <;> simp_all; done))
  · refine sp_aload_n X (pc := 7) (r := some o) dX4_isFolder_7 rfl rfl ?_
    refine sp_getfield X (pc := 8) (c := 5) (i := 4) (t := 2) (a := o) (v := va_rf (m.fR 324 o)) rfl (by first | assumption | omega) (by decide) rfl rfl fl_Node_25 dX4_isFolder_8 ?_
    refine sp_ifnonnull X (pc := 11) (tgt := 18) dX4_isFolder_11 (by decide) (fun ra11 hb11 => ?_) (fun hb11 => ?_)
    · refine sp_iconst X (pc := 18) (v := 0) dX4_isFolder_18 (by decide) ?_
      refine sp_ireturn X (pc := 19) dX4_isFolder_19 rfl ⟨_, rfl, ?_⟩
      first | exact ⟨rfl, rfl⟩ | rfl | (refine ⟨?_, rfl⟩; first | (rw [if_pos (by assumption)]; done) | (rw [if_neg (by assumption)]; done) | (split <;> simp_all; done))
    · refine sp_iconst X (pc := 14) (v := 1) dX4_isFolder_14 (by decide) ?_
      refine sp_goto X (pc := 15) (tgt := 19) dX4_isFolder_15 (by decide) ?_
      refine sp_ireturn X (pc := 19) dX4_isFolder_19 rfl ⟨_, rfl, ?_⟩
      first | exact ⟨rfl, rfl⟩ | rfl | (refine ⟨?_, rfl⟩; first | (rw [if_pos (by assumption)]; done) | (rw [if_neg (by assumption)]; done) | (split <;> simp_all; done))
set_option maxRecDepth 20000 in
theorem c_Node_up (l : Launch) (G : sp_G) (m : sp_M) {o : Nat} (ho : m.ty o = 6) : sp_C l G M_Node_up 0 0 [.ref o] m (sp_oR fun v m' => v = (if m.fR 321 o = none then some o else m.fR 321 o) ∧ m' = m) := by
  refine sp_enter (lv0 := [(0, false, va_rf (some o))]) "SafePaths$Node" false rfl (by decide) (fun h => by cases h) (Nat.le_of_ble_eq_true rfl) rfl ?_
  intro w X
  refine sp_aload_n X (pc := 0) (r := some o) dX4_up_0 rfl rfl ?_
  refine sp_getfield X (pc := 1) (c := 5) (i := 1) (t := 2) (a := o) (v := va_rf (m.fR 321 o)) rfl (by first | assumption | omega) (by decide) rfl rfl fl_Node_13 dX4_up_1 ?_
  refine sp_ifnonnull X (pc := 4) (tgt := 11) dX4_up_4 (by decide) (fun ra4 hb4 => ?_) (fun hb4 => ?_)
  · refine sp_aload_n X (pc := 11) (r := some o) dX4_up_11 rfl rfl ?_
    refine sp_getfield X (pc := 12) (c := 5) (i := 1) (t := 2) (a := o) (v := va_rf (some ra4)) rfl (by first | assumption | omega) (by decide) rfl (congrArg va_rf hb4) fl_Node_13 dX4_up_12 ?_
    refine sp_areturn X (pc := 15) (by first | exact Or.inl ⟨_, rfl⟩ | exact Or.inr ⟨_, rfl⟩) dX4_up_15 ⟨_, rfl, ?_⟩
    first | exact ⟨rfl, rfl⟩ | rfl | (refine ⟨?_, rfl⟩; first | (rw [if_pos (by assumption)]; done) | (rw [if_neg (by assumption)]; done) | (split <;> simp_all; done))
  · refine sp_aload_n X (pc := 7) (r := some o) dX4_up_7 rfl rfl ?_
    refine sp_goto X (pc := 8) (tgt := 15) dX4_up_8 (by decide) ?_
    refine sp_areturn X (pc := 15) (by first | exact Or.inl ⟨_, rfl⟩ | exact Or.inr ⟨_, rfl⟩) dX4_up_15 ⟨_, rfl, ?_⟩
    first | exact ⟨rfl, rfl⟩ | rfl | (refine ⟨?_, rfl⟩; first | (rw [if_pos (by assumption)]; done) | (rw [if_neg (by assumption)]; done) | (split <;> simp_all; done))
end
section

/-- a reference array's elements are written all at once -/
def sp_M.wR (m : sp_M) (a : Nat) (f : Nat → Option Nat) : sp_M := (m.nx, m.ty, m.ln, m.fI, m.fL, m.fR, m.aI, m.aL, fun b j => if b = a then f j else m.aR b j)
/-- a ghost: the number beside an object's address (the machine has none) -/
def sp_M.gh (m : sp_M) (a v : Nat) : sp_M := (m.nx, m.ty, fun b => if b = a then v else m.ln b, m.fI, m.fL, m.fR, m.aI, m.aL, m.aR)
theorem sp_wR_aR (m : sp_M) (a : Nat) (f : Nat → Option Nat) (b j : Nat) : (m.wR a f).aR b j = if b = a then f j else m.aR b j := rfl
theorem sp_gh_ln (m : sp_M) (a v b : Nat) : (m.gh a v).ln b = if b = a then v else m.ln b := rfl
theorem ac_1 : Cond.native arraycopyName ∈ lw_tbl := List.mem_of_getElem? (i := 324) (by decide +kernel)
theorem ac_2 : Cond.static arraycopyName ∈ lw_tbl := List.mem_of_getElem? (i := 323) (by decide +kernel)
theorem ac_3 : Cond.initialized "java/lang/System" ∈ lw_tbl := List.mem_of_getElem? (i := 70) (by decide +kernel)
theorem ac_4 : Cond.methodLink "java/util/Arrays" 150 arraycopyName ∈ lw_tbl := List.mem_of_getElem? (i := 322) (by decide +kernel)
theorem gc_1 : Cond.methodLink "java/util/Arrays" 86 ⟨"java/lang/Object", "getClass", "()Ljava/lang/Class;"⟩ ∈ lw_tbl := List.mem_of_getElem? (i := 297) (by decide +kernel)
theorem gc_2 : Cond.declares ⟨"java/lang/Object", "getClass", "()Ljava/lang/Class;"⟩ ∈ lw_tbl := List.mem_of_getElem? (i := 1381) (by decide +kernel)
theorem gc_3 : Cond.instanceMethod ⟨"java/lang/Object", "getClass", "()Ljava/lang/Class;"⟩ ∈ lw_tbl := List.mem_of_getElem? (i := 298) (by decide +kernel)
theorem gc_4 : Cond.native ⟨"java/lang/Object", "getClass", "()Ljava/lang/Class;"⟩ ∈ lw_tbl := List.mem_of_getElem? (i := 314) (by decide +kernel)
theorem gc_5 : Cond.selects "[Ljava/lang/Object;" ⟨"java/lang/Object", "getClass", "()Ljava/lang/Class;"⟩ ⟨"java/lang/Object", "getClass", "()Ljava/lang/Class;"⟩ ∈ lw_tbl := List.mem_of_getElem? (i := 1380) (by decide +kernel)
section SPL
variable {l : Launch} {G : sp_G} {own : String} {cc : ByteArray} {nL : Nat} {init : Bool} {ret : Option FieldType} {R : Room} {Qo : Option (Option Value → sp_M → Prop)} {w : sp_T}
variable {k n : Nat} {m : sp_M} {pc : Nat} {lv : sp_L} {rest st : List Value}
theorem sp_e_gh {y : sp_Y} {a v b : Nat} (ha : m.ty a < 15) : sp_e y (m.gh a v) b = sp_e y m b := by
  by_cases hb : b = a
  · subst hb
    unfold sp_e
    rw [if_neg (by show ¬ m.ty b = 20; omega), if_neg (by show ¬ m.ty b = 21; omega), if_neg (by show ¬ m.ty b = 22; omega), if_neg (by show ¬ m.ty b = 23; omega), if_neg (by omega), if_neg (by omega), if_neg (by omega), if_neg (by omega)]
    rfl
  · unfold sp_e
    rw [sp_gh_ln, if_neg hb]
    rfl
theorem sp_ghost (X : sp_X l G own cc nL init ret R Qo w) (a v : Nat) (ha : m.ty a < 15) (ha0 : m.ty a ≠ 0) (kk : w k n (m.gh a v) pc lv st) : w k n m pc lv st := by
  obtain ⟨p, e, s, mm, args, below, meth, cd, Q, hx, hb, hml, hown, hlocks, hret, hini, hK, hQ, rfl⟩ := X
  intro hk0 hn0 H locs ls hH hL hl
  refine kk hk0 hn0 H locs ls ⟨hH.1, hH.2.1, hH.2.2.1, fun b hb => ?_⟩ hL hl
  rcases hH.2.2.2 b hb with g | g
  · left
    refine ⟨g.1, g.2.1, g.2.2.1, ?_, g.2.2.2.2⟩
    rw [sp_gh_ln, if_neg]
    · exact g.2.2.2.1
    · intro hba
      subst hba
      have := g.2.1
      omega
  · right
    refine ⟨g.1, g.2.1, ?_⟩
    rw [sp_e_gh ha]
    exact g.2.2
theorem sp_ldcM (X : sp_X l G own cc nL init ret R Qo w) {idx : Nat} (hcl : Cond.classLink own idx "[Ljava/lang/Object;" ∈ lw_tbl) (hdg : decode cc pc = .ok (.ldc idx, 2)) (kk : w k n m (pc + 2) lv (va_rf (some G.mi) :: rest)) : w k n m pc lv rest := by
  obtain ⟨p, e, s, mm, args, below, meth, cd, Q, hx, hb, hml, hown, hlocks, hret, hini, hK, hQ, rfl⟩ := X
  intro hk0 hn0 H locs ls hH hL hl
  exact va_ldcM hx hb hown (hK.w hcl rfl _) hK.2.2.2.2.2.2.1 hdg (kk hk0 hn0 H locs ls hH hL hl)
theorem sp_getC (X : sp_X l G "java/util/Arrays" cc nL init ret R Qo w) {r : Option Nat} {a : Nat} (hr : r = some a) (hty : m.ty a = 23) (hf : 1 ≤ R.frames) (hlo : (rest.map fun v => v.category).sum + 14 ≤ R.locals) (hdg : decode cc pc = .ok (.invokevirtual 86, 3)) (kk : w k n m (pc + 3) lv (va_rf (some G.mi) :: rest)) : w k n m pc lv (va_rf r :: rest) := by
  subst hr
  obtain ⟨p, e, s, mm, args, below, meth, cd, Q, hx, hb, hml, hown, hlocks, hret, hini, hK, hQ, rfl⟩ := X
  intro hk0 hn0 H locs ls hH hL hl
  refine va_getC hx hb (by rw [hml]; exact hl.1.1.symm) hown (hK.w gc_1 rfl _) (hK.w gc_2 rfl _) (hK.w gc_5 rfl _) (hK.w gc_3 rfl _) (hK.w gc_4 rfl _) hK.2.2.2.2.2.2.1 ?_ hf hlo hdg (kk hk0 hn0 H locs ls hH hL hl)
  refine ⟨_, (hH.arrR hty).2, rfl, ?_⟩
  obtain ⟨kA, comp, g1, g2, g3, g4⟩ := (hK.1.2 3 _ rfl).2
  exact g4
theorem sp_acopy (X : sp_X l G "java/util/Arrays" cc nL init ret R Qo w) {r0 r1 : Option Nat} {a0 a : Nat} {sp dp z : Int32} (hr0 : r0 = some a0) (hr1 : r1 = some a) (hty0 : m.ty a0 = 23) (hty1 : m.ty a = 23) (hne : a ≠ a0) (h1 : ¬ sp < 0) (h2 : ¬ dp < 0) (h3 : ¬ z < 0) (h4 : sp.toNatClampNeg + z.toNatClampNeg ≤ m.ln a0) (h5 : dp.toNatClampNeg + z.toNatClampNeg ≤ m.ln a)
    (hel : ∀ i : Nat, i < z.toNatClampNeg → ∀ y : Nat, m.aR a0 (sp.toNatClampNeg + i) = some y → ∃ c, m.ty y = c + 1 ∧ c < 14 ∧ Cond.castable (sp_Cn c) "java/lang/Object" ∈ lw_tbl) (hf : 1 ≤ R.frames) (hlo : (rest.map fun v => v.category).sum + (nativeFrameWords "java/lang/System" "arraycopy" 5 + 11) ≤ R.locals) (hdg : decode cc pc = .ok (.invokestatic 150, 3))
    (kk : w k n (m.wR a (va_cpy (m.aR a0) (m.aR a) sp.toNatClampNeg dp.toNatClampNeg z.toNatClampNeg)) (pc + 3) lv rest) : w k n m pc lv (.int z :: .int dp :: va_rf r1 :: .int sp :: va_rf r0 :: rest) := by
  subst hr0
  subst hr1
  obtain ⟨p, e, s, mm, args, below, meth, cd, Q, hx, hb, hml, hown, hlocks, hret, hini, hK, hQ, rfl⟩ := X
  intro hk0 hn0 H locs ls hH hL hl
  have nn : ∀ z : Int32, ¬ z < 0 → z.toInt = (z.toNatClampNeg : Int) := by
    intro z hz
    have hz0 : (0 : Int) ≤ z.toInt := by
      have := Int32.not_lt.mp hz
      simpa using Int32.le_iff_toInt_le.mp this
    show z.toInt = ((z.toInt.toNat : Nat) : Int)
    omega
  obtain ⟨hb0, hc0⟩ := hH.arrR hty0
  obtain ⟨hb1, hc1⟩ := hH.arrR hty1
  intro T hT X
  obtain ⟨-, k0, hkk0, cm0, hkkk0⟩ := (hK.1.2 3 _ rfl).1 (m.ln a0) (fun j => va_rf (m.aR a0 j))
  obtain ⟨-, k1, hkk1, cm1, hkkk1⟩ := (hK.1.2 3 _ rfl).1 (m.ln a) (fun j => va_rf (m.aR a j))
  obtain ⟨vm', X', step⟩ := X.arraycopy hx hown (hK.w ac_4 rfl _) (hK.w ac_1 rfl _) (hK.w ac_2 rfl _) (hK.w ac_3 rfl _) (src := a0) (dst := a) (cs := vp_cell G.Y.2.2.2 (m.ln a0, .inr (.inr (.inr (.inr (m.aR a0)))))) (cd := vp_cell G.Y.2.2.2 (m.ln a, .inr (.inr (.inr (.inr (m.aR a)))))) (srcPos := sp) (destPos := dp) (n := z) (by rw [hT]; exact hc0) (by rw [hT]; exact hc1)
    (fun _ h => by cases h) (fun _ h => by cases h) (fun h => by cases h) (fun h => by cases h) hkk0 hkk1 hkkk0 hkkk1 rfl h1 h2 h3
    (by rw [nn sp h1, nn z h3]; show ¬ _ > ((arrV _ (m.ln a0) (fun j => va_rf (m.aR a0 j))).slots.size : Int); rw [arrV_size]; omega)
    (by rw [nn dp h2, nn z h3]; show ¬ _ > ((arrV _ (m.ln a) (fun j => va_rf (m.aR a j))).slots.size : Int); rw [arrV_size]; omega)
    (fun vm₁ hal i hi => by
      have e : (vp_cell G.Y.2.2.2 (m.ln a0, .inr (.inr (.inr (.inr (m.aR a0)))))).slots.getD (sp.toNatClampNeg + i) .null = va_rf (m.aR a0 (sp.toNatClampNeg + i)) := by
        show (arrV _ (m.ln a0) (fun j => va_rf (m.aR a0 j))).slots.getD _ _ = _
        rw [Array.getD_eq_getD_getElem?, arrV_read _ _ (by omega)]
        rfl
      rw [e]
      cases hy : m.aR a0 (sp.toNatClampNeg + i) with
      | none => exact ⟨rfl, trivial⟩
      | some y =>
        obtain ⟨ci, hb1', hb2, hca⟩ := hel i hi y hy
        obtain ⟨hb3, cellV, g1, g2, g3, -⟩ := hH.obj hb1' hb2
        have hcls := (hK.1.1 ci _ (sp_cl_get hb2)).2
        obtain ⟨c0, t1, f1, f2, f3⟩ := Cond.castable_spec (hK.w hca rfl args)
        cases hcls.1.symm.trans f1
        obtain ⟨kC, hkC, -⟩ := hcls.2
        obtain ⟨kA, comp, r1, r2, r3, -⟩ := (hK.1.2 3 _ rfl).2
        cases hkk1.symm.trans r1
        cases hkkk1.symm.trans r2
        cases r3.symm.trans f2
        obtain ⟨kE, hkE, -⟩ := Vm.findClass_spec r3
        obtain ⟨kC', hkC', -⟩ := hal.2.2 _ _ hkC
        obtain ⟨kE', hkE', -⟩ := hal.2.2 _ _ hkE
        refine ⟨rfl, cellV, (show T.heap[y]? = some cellV by rw [hT]; exact g1), (fun q h => by rw [g3] at h; cases h), ⟨kC', by rw [g2]; exact hkC'⟩, ?_, ?_⟩
        · exact ⟨kE', hkE'⟩
        · show vm₁.assignable _ _ = true
          rw [hal.assignable, g2]
          exact f3)
    (g := F0 mm pc ls (.int z :: .int dp :: .ref a :: .int sp :: .ref a0 :: rest)) rfl (by rw [hml]; exact hl.1.1) (rest := rest) rfl (by rw [hb]; exact hdg) hf (by show 2 * 0 + _ + _ ≤ _; omega)
  have e1 : copied (vp_cell G.Y.2.2.2 (m.ln a0, .inr (.inr (.inr (.inr (m.aR a0)))))) (vp_cell G.Y.2.2.2 (m.ln a, .inr (.inr (.inr (.inr (m.aR a)))))) sp dp z = vp_cell G.Y.2.2.2 (m.ln a, .inr (.inr (.inr (.inr (va_cpy (m.aR a0) (m.aR a) sp.toNatClampNeg dp.toNatClampNeg z.toNatClampNeg))))) := by
    rw [vp_cell_q, vp_cell_q, vp_cell_q]
    exact va_copied (fun z => va_rf z) _ _ (m.aR a0) (m.aR a) h4
  rw [e1] at X' step
  have hl9 : a < H.size := (Array.getElem?_eq_some_iff.mp hc1).1
  generalize hnew : vp_cell G.Y.2.2.2 (m.ln a, .inr (.inr (.inr (.inr (va_cpy (m.aR a0) (m.aR a) sp.toNatClampNeg dp.toNatClampNeg z.toNatClampNeg))))) = cnew at X' step
  have hheap : ((T.setVm vm').setCell a cnew).heap = H.setIfInBounds a cnew := by rw [← hT]; rfl
  have oq : ∀ q : Nat, q ≠ a → (H.setIfInBounds a cnew)[q]? = H[q]? := fun q hq => by simp [Array.getElem?_setIfInBounds, Ne.symm hq]
  obtain ⟨t, a1, b1⟩ := kk hk0 hn0 (H.setIfInBounds a cnew) _ ls (hH.upd (a := a) (by simp) oq hb1 rfl rfl rfl (fun b hb => rfl) (fun b hb => by
      have h9 : (m.wR a (va_cpy (m.aR a0) (m.aR a) sp.toNatClampNeg dp.toNatClampNeg z.toNatClampNeg)).aR b = m.aR b := by
        funext j
        rw [sp_wR_aR, if_neg hb]
      unfold sp_e
      rw [h9]
      rfl) (by
      rw [sp_e_arrR (m := m.wR a (va_cpy (m.aR a0) (m.aR a) sp.toNatClampNeg dp.toNatClampNeg z.toNatClampNeg)) hty1]
      show (H.setIfInBounds a cnew)[a]? = some (vp_cell _ _)
      rw [← hnew]
      simp only [Array.getElem?_setIfInBounds, if_true, hl9]
      congr 3
      have h9 : (m.wR a (va_cpy (m.aR a0) (m.aR a) sp.toNatClampNeg dp.toNatClampNeg z.toNatClampNeg)).aR a = va_cpy (m.aR a0) (m.aR a) sp.toNatClampNeg dp.toNatClampNeg z.toNatClampNeg := by
        funext j
        rw [sp_wR_aR, if_pos rfl]
      rw [h9])) (fun q hq => by
      rcases List.mem_append.mp hq with h | h
      · exact hL q h
      · obtain ⟨z, -, hz⟩ := List.mem_map.mp h
        rw [← hz]
        exact hb1) hl _ hheap X'
  exact ⟨t, step t a1, b1⟩
end SPL
end
section

/-- the statics that are read -/
def sp_GS (G : sp_G) : Prop := ("java/util/ArrayList", "DEFAULTCAPACITY_EMPTY_ELEMENTDATA", "[Ljava/lang/Object;", Value.ref (G.sk 3)) ∈ G.st ∧ ("SafePaths", "NO_BYTES", "[I", Value.ref (G.sk 4)) ∈ G.st ∧ ("SafePaths", "OUT", "[I", Value.ref (G.sk 5)) ∈ G.st ∧ ("SafePaths", "HOME", "[I", Value.ref (G.sk 6)) ∈ G.st ∧ ("SafePaths", "KEY", "[I", Value.ref (G.sk 7)) ∈ G.st ∧ ("java/lang/String", "COMPACT_STRINGS", "Z", Value.int 1) ∈ G.st
/-- a list at o: its row ed, its size s -/
def sp_li (G : sp_G) (m : sp_M) (o ed s : Nat) : Prop := m.ty o = 1 ∧ m.fR 1 o = some ed ∧ m.fI 2 o = nI s ∧ s ≤ m.ln ed ∧ m.ln ed ≤ 100000 ∧ ((m.ty ed = 23 ∧ 0 < m.ln ed) ∨ (m.ty ed = 25 ∧ ed = G.sk 3 ∧ m.ln ed = 0))
def sp_cap (c : Nat) : Nat := if c = 0 then 10 else c + max 1 (c / 2)
/-- an object that may lie in a list -/
def sp_ob (m : sp_M) (y : Nat) : Prop := ∃ c, m.ty y = c + 1 ∧ c < 14 ∧ Cond.castable (sp_Cn c) "java/lang/Object" ∈ lw_tbl
theorem sp_li.row {G : sp_G} {m : sp_M} {o ed s : Nat} (h : sp_li G m o ed s) (hs : 0 < s) : m.ty ed = 23 := by
  obtain ⟨-, -, -, h1, -, h2⟩ := h
  rcases h2 with h2 | h2
  · exact h2.1
  · omega
theorem sp_C_mono {l : Launch} {G : sp_G} {Y : sp_Me} {mc ms : Nat} {av : List Value} {m : sp_M} {post post' : Option Value → sp_M → Prop} (h : ∀ r m', post r m' → post' r m') (hC : sp_C l G Y mc ms av m post) : sp_C l G Y mc ms av m post' := by
  intro p e ha hc hk s mm args below hf hpre hP hT
  obtain ⟨k, o, h1, h2, h3, ⟨r, m', hr, hH, hp⟩, h5⟩ := hC p e ha hc hk s mm args below hf hpre hP hT
  exact ⟨k, o, h1, h2, h3, ⟨r, m', hr, hH, h r m' hp⟩, h5⟩
theorem sp_nI1 : (1 : Int32) = nI 1 := by decide +kernel
set_option maxRecDepth 20000 in
theorem c_Precond_checkIndex (l : Launch) (G : sp_G) (m : sp_M) {x y : Int32} {r : Option Nat} (h0 : ¬ x < 0) (h1 : x < y) : sp_C l G M_Precond_checkIndex 0 0 [.int x, .int y, va_rf r] m (sp_oI fun v m' => v = x ∧ m' = m) := by
  refine sp_enterF (lv0 := [(0, false, .int x), (1, false, .int y), (2, false, va_rf r)]) "jdk/internal/util/Preconditions" false rfl (by decide +kernel) (fun h => by cases h) (by simp [lg_sl, sp_cat_rf, sp_cat_i, sp_cat_l]) (by simp [sp_args, sp_cat_rf, sp_cat_i, sp_cat_l, sp_beq12, sp_beq22]; done) ?_
  intro w X
  refine sp_iload_n X (pc := 0) (x := x) dJ3_checkIndex_8e157_0 rfl rfl ?_
  refine sp_if_lt X (pc := 1) (tgt := 9) dJ3_checkIndex_8e157_1 (by decide) (fun hb1 => ?_) (fun hb1 => ?_)
  · exact absurd hb1 h0 --stop
  · refine sp_iload_n X (pc := 4) (x := x) dJ3_checkIndex_8e157_4 rfl rfl ?_
    refine sp_iload_n X (pc := 5) (x := y) dJ3_checkIndex_8e157_5 rfl rfl ?_
    refine sp_icmp_lt X (pc := 6) (tgt := 16) dJ3_checkIndex_8e157_6 (by decide) (fun hb6 => ?_) (fun hb6 => ?_)
    · refine sp_iload_n X (pc := 16) (x := x) dJ3_checkIndex_8e157_16 rfl rfl ?_
      refine sp_ireturn X (pc := 17) dJ3_checkIndex_8e157_17 rfl ⟨_, rfl, ?_⟩
      first | exact ⟨rfl, rfl⟩ | rfl | (refine ⟨?_, rfl⟩; first | (rw [if_pos (by assumption)]; done) | (rw [if_neg (by assumption)]; done) | (split <;> simp_all; done))
    · exact absurd h1 hb6 --stop
set_option maxRecDepth 20000 in
theorem c_Objects_checkIndex (l : Launch) (G : sp_G) (m : sp_M) {x y : Int32} (h0 : ¬ x < 0) (h1 : x < y) : sp_C l G M_Objects_checkIndex 0 0 [.int x, .int y] m (sp_oI fun v m' => v = x ∧ m' = m) := by
  refine sp_enterF (lv0 := [(0, false, .int x), (1, false, .int y)]) "java/util/Objects" false rfl (by decide +kernel) (fun h => by cases h) (Nat.le_of_ble_eq_true rfl) rfl ?_
  intro w X
  refine sp_iload_n X (pc := 0) (x := x) dJ15_checkIndex_7cf53_0 rfl rfl ?_
  refine sp_iload_n X (pc := 1) (x := y) dJ15_checkIndex_7cf53_1 rfl rfl ?_
  refine sp_null X (pc := 2) dJ15_checkIndex_7cf53_2 ?_
  refine sp_callS X (pc := 3) (mc := 0) (ms := 0) (As := [.int x, .int y, va_rf none]) (rest := []) (c_Precond_checkIndex l G _ (by assumption) (by assumption)) ok_Precond_checkIndex lk_Objects_105 rfl rfl (Nat.zero_le _) (Nat.le_of_ble_eq_true rfl) (Nat.le_of_ble_eq_true rfl) (Nat.zero_le _) (Nat.zero_le _) dJ15_checkIndex_7cf53_3 (sp_kI fun v3 m3 hp3 => ?_)
  obtain ⟨hp3v, hp3⟩ := hp3; replace hp3 := (hp3).symm; subst hp3; replace hp3v := (hp3v).symm; subst hp3v
  refine sp_ireturn X (pc := 6) dJ15_checkIndex_7cf53_6 rfl ⟨_, rfl, ?_⟩
  first | exact ⟨rfl, rfl⟩ | rfl | (refine ⟨?_, rfl⟩; first | (rw [if_pos (by assumption)]; done) | (rw [if_neg (by assumption)]; done) | (split <;> simp_all; done))
set_option maxRecDepth 20000 in
theorem c_List_elementData (l : Launch) (G : sp_G) (m : sp_M) {o ed : Nat} {i : Int32} (ho : m.ty o = 1) (he : m.fR 1 o = some ed) (hed : m.ty ed = 23) (hin : vp_in i (m.ln ed)) : sp_C l G M_List_elementData 0 0 [.ref o, .int i] m (sp_oR fun v m' => v = m.aR ed i.toNatClampNeg ∧ m' = m) := by
  refine sp_enter (lv0 := [(0, false, va_rf (some o)), (1, false, .int i)]) "java/util/ArrayList" false rfl (by decide) (fun h => by cases h) (Nat.le_of_ble_eq_true rfl) rfl ?_
  intro w X
  refine sp_aload_n X (pc := 0) (r := some o) dJx4a65c_elementData_915e3_0 rfl rfl ?_
  refine sp_getfield X (pc := 1) (c := 0) (i := 1) (t := 2) (a := o) (v := va_rf (some ed)) rfl (by first | assumption | omega) (by decide) rfl (congrArg va_rf he) fl_List_9 dJx4a65c_elementData_915e3_1 ?_
  refine sp_iload_n X (pc := 4) (x := i) dJx4a65c_elementData_915e3_4 rfl rfl ?_
  refine sp_aaload X (pc := 5) (a := ed) rfl (by first | assumption | omega) (by first | assumption) dJx4a65c_elementData_915e3_5 ?_
  refine sp_areturn X (pc := 6) (by first | exact Or.inl ⟨_, rfl⟩ | exact Or.inr ⟨_, rfl⟩) dJx4a65c_elementData_915e3_6 ⟨_, rfl, ?_⟩
  first | exact ⟨rfl, rfl⟩ | rfl | (refine ⟨?_, rfl⟩; first | (rw [if_pos (by assumption)]; done) | (rw [if_neg (by assumption)]; done) | (split <;> simp_all; done))
set_option maxRecDepth 20000 in
theorem c_List_get (l : Launch) (G : sp_G) (m : sp_M) {o ed s j : Nat} (h : sp_li G m o ed s) (hj : j < s) : sp_C l G M_List_get 0 0 [.ref o, .int (nI j)] m (sp_oR fun v m' => v = m.aR ed j ∧ m' = m) := by
  refine sp_enter (lv0 := [(0, false, va_rf (some o)), (1, false, .int (nI j))]) "java/util/ArrayList" false rfl (by decide) (fun h => by cases h) (Nat.le_of_ble_eq_true rfl) rfl ?_
  intro w X
  have hed := h.row (by omega)
  obtain ⟨ho, he, hs, hsl, hln, -⟩ := h
  refine sp_iload_n X (pc := 0) (x := nI j) dJx4a65c_get_915e3_0 rfl rfl ?_
  refine sp_aload_n X (pc := 1) (r := some o) dJx4a65c_get_915e3_1 rfl rfl ?_
  refine sp_getfield X (pc := 2) (c := 0) (i := 2) (t := 0) (a := o) (v := .int (m.fI 2 o)) rfl (by first | assumption | omega) (by decide) rfl rfl fl_List_48 dJx4a65c_get_915e3_2 ?_
  refine sp_callS X (pc := 5) (mc := 0) (ms := 0) (As := [.int (nI j), .int (m.fI 2 o)]) (rest := []) (c_Objects_checkIndex l G _ (nI_pos (by omega)) (by rw [hs]; exact nI_lt hj (by omega))) ok_Objects_checkIndex lk_List_118 rfl rfl (Nat.zero_le _) (Nat.le_of_ble_eq_true rfl) (Nat.le_of_ble_eq_true rfl) (Nat.zero_le _) (Nat.zero_le _) dJx4a65c_get_915e3_5 (sp_kI fun v5 m5 hp5 => ?_)
  obtain ⟨hp5v, hp5⟩ := hp5; replace hp5 := (hp5).symm; subst hp5; replace hp5v := (hp5v).symm; subst hp5v
  refine sp_pop X (pc := 8) dJx4a65c_get_915e3_8 rfl ?_
  refine sp_aload_n X (pc := 9) (r := some o) dJx4a65c_get_915e3_9 rfl rfl ?_
  refine sp_iload_n X (pc := 10) (x := nI j) dJx4a65c_get_915e3_10 rfl rfl ?_
  refine sp_callV X (pc := 11) (mc := 0) (ms := 0) (b := o) (c := 0) (r := some o) (As := [.int (nI j)]) (rest := []) (c_List_elementData l G _ ho he hed (vp_in_nI (by omega) (by omega))) ok_List_elementData rfl (by first | assumption | omega) (by decide) rfl lk_List_123 rfl rfl (Nat.zero_le _) (Nat.le_of_ble_eq_true rfl) (Nat.le_of_ble_eq_true rfl) (Nat.zero_le _) (Nat.zero_le _) dJx4a65c_get_915e3_11 (sp_kR fun v11 m11 hp11 => ?_)
  obtain ⟨hp11v, hp11⟩ := hp11; replace hp11 := (hp11).symm; subst hp11; replace hp11v := (hp11v).symm; subst hp11v
  refine sp_areturn X (pc := 14) (by first | exact Or.inl ⟨_, rfl⟩ | exact Or.inr ⟨_, rfl⟩) dJx4a65c_get_915e3_14 ⟨_, rfl, ?_⟩
  exact ⟨by rw [nI_clamp (by omega)], rfl⟩
set_option maxRecDepth 20000 in
theorem c_ASup_newLength (l : Launch) (G : sp_G) (m : sp_M) {a b : Nat} (hab : a + max 1 b ≤ 200000) : sp_C l G M_ASup_newLength 0 0 [.int (nI a), .int (nI 1), .int (nI b)] m (sp_oI fun v m' => v = nI (a + max 1 b) ∧ m' = m) := by
  refine sp_enter (lv0 := [(0, false, .int (nI a)), (1, false, .int (nI 1)), (2, false, .int (nI b))]) "jdk/internal/util/ArraysSupport" false rfl (by decide) (fun h => by cases h) (Nat.le_of_ble_eq_true rfl) rfl ?_
  intro w X
  refine sp_iload_n X (pc := 0) (x := nI a) dJ8_newLength_cabcc_0 rfl rfl ?_
  refine sp_iload_n X (pc := 1) (x := nI 1) dJ8_newLength_cabcc_1 rfl rfl ?_
  refine sp_iload_n X (pc := 2) (x := nI b) dJ8_newLength_cabcc_2 rfl rfl ?_
  refine sp_callS X (pc := 3) (mc := 0) (ms := 0) (As := [.int (nI 1), .int (nI b)]) (rest := [.int (nI a)]) (c_Math_max l G _) ok_Math_max lk_ASup_194 rfl rfl (by simp [sp_cat_rf, sp_cat_i, sp_cat_l]) (Nat.le_of_ble_eq_true rfl) (Nat.le_of_ble_eq_true rfl) (Nat.zero_le _) (Nat.zero_le _) dJ8_newLength_cabcc_3 (sp_kI fun v3 m3 hp3 => ?_)
  obtain ⟨hp3v, hp3⟩ := hp3; replace hp3 := (hp3).symm; subst hp3; replace hp3v := (hp3v).symm; subst hp3v
  rw [show (if nI 1 < nI b then nI b else nI 1) = nI (max 1 b) by
    by_cases hq : 1 < b
    · rw [if_pos (nI_lt hq (by omega)), Nat.max_eq_right (by omega)]
    · rw [if_neg (nI_nlt (by omega) (by omega)), Nat.max_eq_left (by omega)]]
  refine sp_iadd X (pc := 6) dJ8_newLength_cabcc_6 ?_
  rw [show ((nI a) + (nI (max 1 b))) = nI (a + max 1 b) from nI_add _ _]
  refine sp_istore_n X (pc := 7) (lv' := [(3, false, .int (nI (a + max 1 b))), (0, false, .int (nI a)), (1, false, .int (nI 1)), (2, false, .int (nI b))]) dJ8_newLength_cabcc_7 rfl (by decide) rfl ?_
  refine sp_iconst X (pc := 8) (v := 0) dJ8_newLength_cabcc_8 (by decide) ?_
  refine sp_iload_n X (pc := 9) (x := nI (a + max 1 b)) dJ8_newLength_cabcc_9 rfl rfl ?_
  refine sp_icmp_ge X (pc := 10) (tgt := 21) dJ8_newLength_cabcc_10 (by decide) (fun hb10 => ?_) (fun hb10 => ?_)
  · exact absurd hb10 (nI_nle (by omega) (by omega)) --stop
  · refine sp_iload_n X (pc := 13) (x := nI (a + max 1 b)) dJ8_newLength_cabcc_13 rfl rfl ?_
    refine sp_ldc X (pc := 14) (v := 2147483639) ki_ASup_200 dJ8_newLength_cabcc_14 ?_
    refine sp_icmp_gt X (pc := 16) (tgt := 21) dJ8_newLength_cabcc_16 (by decide) (fun hb16 => ?_) (fun hb16 => ?_)
    · exact absurd hb16 (by rw [show (2147483639 : Int32) = nI 2147483639 by decide +kernel]; exact nI_nlt (by omega) (by omega)) --stop
    · refine sp_iload_n X (pc := 19) (x := nI (a + max 1 b)) dJ8_newLength_cabcc_19 rfl rfl ?_
      refine sp_ireturn X (pc := 20) dJ8_newLength_cabcc_20 rfl ⟨_, rfl, ?_⟩
      first | exact ⟨rfl, rfl⟩ | rfl | (refine ⟨?_, rfl⟩; first | (rw [if_pos (by assumption)]; done) | (rw [if_neg (by assumption)]; done) | (split <;> simp_all; done))
set_option maxRecDepth 20000 in
theorem c_Arrays_copyOf2 (l : Launch) (G : sp_G) (m : sp_M) {ed c : Nat} (hed : m.ty ed = 23) (hc : c ≤ 200000) (hlc : m.ln ed ≤ c) (hel : ∀ j, j < m.ln ed → ∀ y, m.aR ed j = some y → sp_ob m y) : sp_C l G M_Arrays_copyOf2 1 c [.ref ed, .int (nI c), .ref G.mi] m (sp_oR fun v m' => v = some m.nx ∧ m' = (m.newA 23 c).wR m.nx (fun j => if j < m.ln ed then m.aR ed j else none)) := by
  refine sp_enterF (lv0 := [(0, false, va_rf (some ed)), (1, false, .int (nI c)), (2, false, va_rf (some G.mi))]) "java/util/Arrays" false rfl (by decide +kernel) (fun h => by cases h) (Nat.le_of_ble_eq_true rfl) rfl ?_
  intro w X
  refine sp_fresh X (fun hwf hbs => ?_)
  have hne : ed ≠ m.nx := by have := hwf ed (by omega); omega
  refine sp_aload_n X (pc := 0) (r := some G.mi) dJ7_copyOf_6403c_0 rfl rfl ?_
  refine sp_ldcM X (pc := 1) cl_Arrays_110 dJ7_copyOf_6403c_1 ?_
  refine sp_acmp_ne X (pc := 3) (tgt := 13) dJ7_copyOf_6403c_3 (by decide) (fun hb3 => ?_) (fun hb3 => ?_)
  · exact absurd rfl hb3 --stop
  · refine sp_iload_n X (pc := 6) (x := nI c) dJ7_copyOf_6403c_6 rfl rfl ?_
    refine sp_anewarray X (pc := 7) (N := c) cl_Arrays_2 (nI_pos (by omega)) (nI_clamp (by omega)) (by omega) (Nat.le_refl _) (Nat.le_refl _) dJ7_copyOf_6403c_7 ?_
    refine sp_goto X (pc := 10) (tgt := 24) dJ7_copyOf_6403c_10 (by decide) ?_
    refine sp_astore_n X (pc := 24) (lv' := [(3, false, va_rf (some m.nx)), (0, false, va_rf (some ed)), (1, false, .int (nI c)), (2, false, va_rf (some G.mi))]) dJ7_copyOf_6403c_24 rfl (by decide) rfl ?_
    refine sp_aload_n X (pc := 25) (r := some ed) dJ7_copyOf_6403c_25 rfl rfl ?_
    refine sp_iconst X (pc := 26) (v := 0) dJ7_copyOf_6403c_26 (by decide) ?_
    refine sp_aload_n X (pc := 27) (r := some m.nx) dJ7_copyOf_6403c_27 rfl rfl ?_
    refine sp_iconst X (pc := 28) (v := 0) dJ7_copyOf_6403c_28 (by decide) ?_
    refine sp_aload_n X (pc := 29) (r := some ed) dJ7_copyOf_6403c_29 rfl rfl ?_
    refine sp_arraylength X (pc := 30) (a := ed) rfl (by right; right; right; left; rw [sp_newA_ty, if_neg hne]; exact hed) dJ7_copyOf_6403c_30 ?_
    rw [show (Int32.ofNat ((m.newA 23 c).ln ed)) = nI (m.ln ed) from (by rw [sp_newA_ln, if_neg hne]; rfl)]
    refine sp_iload_n X (pc := 31) (x := nI c) dJ7_copyOf_6403c_31 rfl rfl ?_
    refine sp_callS X (pc := 32) (mc := 0) (ms := 0) (As := [.int (nI (m.ln ed)), .int (nI c)]) (rest := [.int 0, va_rf (some m.nx), .int 0, va_rf (some ed)]) (c_Math_min l G _) ok_Math_min lk_Arrays_304 rfl rfl (by simp [sp_cat_rf, sp_cat_i, sp_cat_l]) (Nat.le_of_ble_eq_true rfl) (Nat.le_of_ble_eq_true rfl) (Nat.zero_le _) (Nat.zero_le _) dJ7_copyOf_6403c_32 (sp_kI fun v32 m32 hp32 => ?_)
    obtain ⟨hp32v, hp32⟩ := hp32; replace hp32 := (hp32).symm; subst hp32; replace hp32v := (hp32v).symm; subst hp32v
    rw [if_neg (nI_nlt (by omega) (by omega))]
    refine sp_acopy X (pc := 35) (a0 := ed) (a := m.nx) rfl rfl (by rw [sp_newA_ty, if_neg hne]; exact hed) (by rw [sp_newA_ty, if_pos rfl]) (Ne.symm hne) (by decide) (by decide) (nI_pos (by omega)) (by rw [nI_clamp (by omega), sp_newA_ln, if_neg hne]; show 0 + _ ≤ _; omega) (by rw [nI_clamp (by omega), sp_newA_ln, if_pos rfl]; show 0 + _ ≤ _; omega) ?_ (Nat.le_of_ble_eq_true rfl) (Nat.le_of_ble_eq_true rfl) dJ7_copyOf_6403c_35 ?_
    · intro i hi y hy
      rw [nI_clamp (by omega)] at hi
      rw [sp_newA_aR, if_neg hne] at hy
      obtain ⟨c9, q1, q2, q3⟩ := hel i hi y (by rw [show (0 : Int32).toNatClampNeg + i = i by show 0 + i = i; omega] at hy; exact hy)
      refine ⟨c9, ?_, q2, q3⟩
      rw [sp_newA_ty, if_neg]
      · exact q1
      · have := hwf y (by omega)
        omega
    generalize hmz : (sp_M.wR (m.newA 23 c) m.nx _) = mz
    refine sp_aload_n X (pc := 38) (r := some m.nx) dJ7_copyOf_6403c_38 rfl rfl ?_
    refine sp_areturn X (pc := 39) (by first | exact Or.inl ⟨_, rfl⟩ | exact Or.inr ⟨_, rfl⟩) dJ7_copyOf_6403c_39 ⟨_, rfl, ?_⟩
    refine ⟨rfl, ?_⟩
    rw [← hmz]
    congr 1
    funext j
    rw [nI_clamp (by omega)]
    show (if (0 ≤ j ∧ j < 0 + m.ln ed) then (m.newA 23 c).aR ed (0 + (j - 0)) else (m.newA 23 c).aR m.nx j) = _
    rw [sp_newA_aR, sp_newA_aR, if_neg hne, if_pos rfl]
    by_cases hj : j < m.ln ed
    · rw [if_pos ⟨by omega, by omega⟩, if_pos hj, show 0 + (j - 0) = j by omega]
    · rw [if_neg (by omega), if_neg hj]
set_option maxRecDepth 20000 in
theorem c_Arrays_copyOf1 (l : Launch) (G : sp_G) (m : sp_M) {ed c : Nat} (hed : m.ty ed = 23) (hc : c ≤ 200000) (hlc : m.ln ed ≤ c) (hel : ∀ j, j < m.ln ed → ∀ y, m.aR ed j = some y → sp_ob m y) : sp_C l G M_Arrays_copyOf1 1 c [.ref ed, .int (nI c)] m (sp_oR fun v m' => v = some m.nx ∧ m' = (m.newA 23 c).wR m.nx (fun j => if j < m.ln ed then m.aR ed j else none)) := by
  refine sp_enterF (lv0 := [(0, false, va_rf (some ed)), (1, false, .int (nI c))]) "java/util/Arrays" false rfl (by decide +kernel) (fun h => by cases h) (Nat.le_of_ble_eq_true rfl) rfl ?_
  intro w X
  refine sp_aload_n X (pc := 0) (r := some ed) dJ7_copyOf_1904c_0 rfl rfl ?_
  refine sp_iload_n X (pc := 1) (x := nI c) dJ7_copyOf_1904c_1 rfl rfl ?_
  refine sp_aload_n X (pc := 2) (r := some ed) dJ7_copyOf_1904c_2 rfl rfl ?_
  refine sp_getC X (pc := 3) rfl hed (Nat.le_of_ble_eq_true rfl) (by simp [sp_cat_rf, sp_cat_i]) dJ7_copyOf_1904c_3 ?_
  refine sp_callS X (pc := 6) (mc := 1) (ms := c) (As := [va_rf (some ed), .int (nI c), va_rf (some G.mi)]) (rest := []) (c_Arrays_copyOf2 l G _ hed hc hlc hel) ok_Arrays_copyOf2 lk_Arrays_300 rfl rfl (Nat.zero_le _) (Nat.le_of_ble_eq_true rfl) (Nat.le_of_ble_eq_true rfl) (Nat.le_refl _) (Nat.le_refl _) dJ7_copyOf_1904c_6 (sp_kR fun v6 m6 hp6 => ?_)
  refine sp_areturn X (pc := 9) (by first | exact Or.inl ⟨_, rfl⟩ | exact Or.inr ⟨_, rfl⟩) dJ7_copyOf_1904c_9 ⟨_, rfl, ?_⟩
  exact hp6
end
section

/-- memories with the same parts are the same -/
theorem sp_M_ext {m m' : sp_M} (h1 : m.nx = m'.nx) (h2 : m.ty = m'.ty) (h3 : m.ln = m'.ln) (h4 : m.fI = m'.fI) (h5 : m.fL = m'.fL) (h6 : m.fR = m'.fR) (h7 : m.aI = m'.aI) (h8 : m.aL = m'.aL) (h9 : m.aR = m'.aR) : m = m' := by
  obtain ⟨a1, a2, a3, a4, a5, a6, a7, a8, a9⟩ := m
  obtain ⟨b1, b2, b3, b4, b5, b6, b7, b8, b9⟩ := m'
  simp only [sp_M.nx, sp_M.ty, sp_M.ln, sp_M.fI, sp_M.fL, sp_M.fR, sp_M.aI, sp_M.aL, sp_M.aR] at h1 h2 h3 h4 h5 h6 h7 h8 h9
  subst h1 h2 h3 h4 h5 h6 h7 h8 h9
  rfl
theorem sp_wR_none (m : sp_M) (c : Nat) (f : Nat → Option Nat) (hf : ∀ j, f j = none) : (m.newA 23 c).wR m.nx f = m.newA 23 c := by
  refine sp_M_ext rfl rfl rfl rfl rfl rfl rfl rfl ?_
  funext b j
  rw [sp_wR_aR, sp_newA_aR, hf]
  split <;> rfl
theorem sp_wR_sR (m : sp_M) (a i : Nat) (f : Nat → Option Nat) (v : Option Nat) : (m.wR a f).sR a i v = m.wR a (fun j => if j = i then v else f j) := by
  refine sp_M_ext rfl rfl rfl rfl rfl rfl rfl rfl ?_
  funext b j
  rw [sp_sR_aR, sp_wR_aR, sp_wR_aR]
  by_cases hb : b = a
  · subst hb
    by_cases hj : j = i
    · simp [hj]
    · simp [hj]
  · simp [hb]
theorem sp_wR_id (m : sp_M) (a : Nat) (f : Nat → Option Nat) (hf : ∀ j, f j = m.aR a j) : m.wR a f = m := by
  refine sp_M_ext rfl rfl rfl rfl rfl rfl rfl rfl ?_
  funext b j
  rw [sp_wR_aR]
  split
  · rename_i h
    rw [h, hf]
  · rfl
set_option maxRecDepth 20000 in
theorem c_List_grow2 (l : Launch) (G : sp_G) (m : sp_M) {o ed s : Nat} (hG : sp_GS G) (h : sp_li G m o ed s) (hs : s = m.ln ed) (hs6 : s ≤ 60000) (hel : ∀ j, j < m.ln ed → ∀ y, m.aR ed j = some y → sp_ob m y) : sp_C l G M_List_grow2 1 (sp_cap s) [.ref o, .int (nI (s + 1))] m (sp_oR fun v m' => v = some m.nx ∧ m' = ((m.newA 23 (sp_cap s)).wR m.nx (fun j => if j < s then m.aR ed j else none)).pR 1 o (some m.nx)) := by
  refine sp_enter (lv0 := [(0, false, va_rf (some o)), (1, false, .int (nI (s + 1)))]) "java/util/ArrayList" false rfl (by decide) (fun h => by cases h) (Nat.le_of_ble_eq_true rfl) rfl ?_
  intro w X
  refine sp_fresh X (fun hwf hbs => ?_)
  obtain ⟨ho, he, hsz, hsl, hln, hk⟩ := h
  have hco : 20 ≤ m.ty ed := by omega
  have hne : ed ≠ m.nx := by have := hwf ed (by omega); omega
  have hon : o ≠ m.nx := by have := hwf o (by omega); omega
  have hcap : sp_cap s ≤ 200000 ∧ s ≤ sp_cap s ∧ 1 ≤ sp_cap s := by
    unfold sp_cap
    split
    · omega
    · have : s / 2 ≤ s := Nat.div_le_self s 2
      omega
  refine sp_aload_n X (pc := 0) (r := some o) dJx4a65c_grow_92f84_0 rfl rfl ?_
  refine sp_getfield X (pc := 1) (c := 0) (i := 1) (t := 2) (a := o) (v := va_rf (some ed)) rfl (by first | assumption | omega) (by decide) rfl (congrArg va_rf he) fl_List_9 dJx4a65c_grow_92f84_1 ?_
  refine sp_arraylength X (pc := 4) (a := ed) rfl (by omega) dJx4a65c_grow_92f84_4 ?_
  rw [show (Int32.ofNat (m.ln ed)) = nI s from (by rw [← hs]; rfl)]
  refine sp_istore_n X (pc := 5) (lv' := [(2, false, .int (nI s)), (0, false, va_rf (some o)), (1, false, .int (nI (s + 1)))]) dJx4a65c_grow_92f84_5 rfl (by decide) rfl ?_
  refine sp_iload_n X (pc := 6) (x := nI s) dJx4a65c_grow_92f84_6 rfl rfl ?_
  refine sp_if_gt X (pc := 7) (tgt := 20) dJx4a65c_grow_92f84_7 (by decide) (fun hb7 => ?_) (fun hb7 => ?_)
  · have hpos : 0 < s := by
      rcases Nat.eq_zero_or_pos s with h0 | h0
      · rw [h0] at hb7
        exact absurd hb7 (by decide)
      · exact h0
    refine sp_iload_n X (pc := 20) (x := nI s) dJx4a65c_grow_92f84_20 rfl rfl ?_
    refine sp_iload_n X (pc := 21) (x := nI (s + 1)) dJx4a65c_grow_92f84_21 rfl rfl ?_
    refine sp_iload_n X (pc := 22) (x := nI s) dJx4a65c_grow_92f84_22 rfl rfl ?_
    refine sp_isub X (pc := 23) dJx4a65c_grow_92f84_23 ?_
    rw [show ((nI (s + 1)) - (nI s)) = nI 1 from (by rw [pk_sub (by omega)]; congr 1; omega)]
    refine sp_iload_n X (pc := 24) (x := nI s) dJx4a65c_grow_92f84_24 rfl rfl ?_
    refine sp_iconst X (pc := 25) (v := 1) dJx4a65c_grow_92f84_25 (by decide) ?_
    refine sp_ishr X (pc := 26) dJx4a65c_grow_92f84_26 ?_
    rw [show ((nI s) >>> (1 &&& 31)) = nI (s / 2) from (by rw [pk_shrN (by omega) _ 1 (by decide)])]
    refine sp_callS X (pc := 27) (mc := 0) (ms := 0) (As := [.int (nI s), .int (nI 1), .int (nI (s / 2))]) (rest := []) (c_ASup_newLength l G _ (by have : s / 2 ≤ s := Nat.div_le_self s 2; omega)) ok_ASup_newLength lk_List_73 rfl rfl (Nat.zero_le _) (Nat.le_of_ble_eq_true rfl) (Nat.le_of_ble_eq_true rfl) (Nat.zero_le _) (Nat.zero_le _) dJx4a65c_grow_92f84_27 (sp_kI fun v27 m27 hp27 => ?_)
    obtain ⟨hp27v, hp27⟩ := hp27; replace hp27 := (hp27).symm; subst hp27; replace hp27v := (hp27v).symm; subst hp27v
    rw [show s + max 1 (s / 2) = sp_cap s by unfold sp_cap; rw [if_neg (by omega)]]
    refine sp_istore_n X (pc := 30) (lv' := [(3, false, .int (nI (sp_cap s))), (2, false, .int (nI s)), (0, false, va_rf (some o)), (1, false, .int (nI (s + 1)))]) dJx4a65c_grow_92f84_30 rfl (by decide) rfl ?_
    refine sp_aload_n X (pc := 31) (r := some o) dJx4a65c_grow_92f84_31 rfl rfl ?_
    refine sp_aload_n X (pc := 32) (r := some o) dJx4a65c_grow_92f84_32 rfl rfl ?_
    refine sp_getfield X (pc := 33) (c := 0) (i := 1) (t := 2) (a := o) (v := va_rf (some ed)) rfl (by first | assumption | omega) (by decide) rfl (congrArg va_rf he) fl_List_9 dJx4a65c_grow_92f84_33 ?_
    refine sp_iload_n X (pc := 36) (x := nI (sp_cap s)) dJx4a65c_grow_92f84_36 rfl rfl ?_
    refine sp_callS X (pc := 37) (mc := 1) (ms := sp_cap s) (As := [va_rf (some ed), .int (nI (sp_cap s))]) (rest := [va_rf (some o)]) (c_Arrays_copyOf1 l G _ (ed := ed) (c := sp_cap s) (by omega) (by omega) (by omega) hel) ok_Arrays_copyOf1 lk_List_66 rfl rfl (by simp [sp_cat_rf, sp_cat_i, sp_cat_l]) (Nat.le_of_ble_eq_true rfl) (Nat.le_of_ble_eq_true rfl) (Nat.le_refl _) (Nat.le_refl _) dJx4a65c_grow_92f84_37 (sp_kR fun v37 m37 hp37 => ?_)
    obtain ⟨hp37v, hp37⟩ := hp37; subst hp37v; subst hp37
    rw [← hs]
    refine sp_dup_x1 X (pc := 40) dJx4a65c_grow_92f84_40 (sp_cat_rf _) (sp_cat_rf _) ?_
    refine sp_putR X (pc := 41) (c := 0) (i := 1) (q := 1) (a := o) rfl (by show (m.newA 23 (sp_cap s)).ty o = _; rw [sp_newA_ty, if_neg hon]; exact ho) (by decide) rfl rfl (Or.inl rfl)  fl_List_9 dJx4a65c_grow_92f84_41 ?_
    refine sp_areturn X (pc := 44) (by first | exact Or.inl ⟨_, rfl⟩ | exact Or.inr ⟨_, rfl⟩) dJx4a65c_grow_92f84_44 ⟨_, rfl, ?_⟩
    exact ⟨rfl, rfl⟩
  · have hz : s = 0 := by
      rcases Nat.eq_zero_or_pos s with h0 | h0
      · exact h0
      · exact absurd (show (0 : Int32) < nI s from nI_lt h0 (by omega)) hb7
    refine sp_aload_n X (pc := 10) (r := some o) dJx4a65c_grow_92f84_10 rfl rfl ?_
    refine sp_getfield X (pc := 11) (c := 0) (i := 1) (t := 2) (a := o) (v := va_rf (some ed)) rfl (by first | assumption | omega) (by decide) rfl (congrArg va_rf he) fl_List_9 dJx4a65c_grow_92f84_11 ?_
    refine sp_getstatic X (pc := 14) (v := va_rf (some (G.sk 3))) hG.1 gs_List_39 dJx4a65c_grow_92f84_14 ?_
    refine sp_acmp_eq X (pc := 17) (tgt := 45) dJx4a65c_grow_92f84_17 (by decide) (fun hb17 => ?_) (fun hb17 => ?_)
    · have hcase : s = 0 := hz
      refine sp_aload_n X (pc := 45) (r := some o) dJx4a65c_grow_92f84_45 rfl rfl ?_
      refine sp_bipush X (pc := 46) (v := 10) dJx4a65c_grow_92f84_46 (by decide) ?_
      refine sp_iload_n X (pc := 48) (x := nI (s + 1)) dJx4a65c_grow_92f84_48 rfl rfl ?_
      refine sp_callS X (pc := 49) (mc := 0) (ms := 0) (As := [.int 10, .int (nI (s + 1))]) (rest := [va_rf (some o)]) (c_Math_max l G _) ok_Math_max lk_List_79 rfl rfl (by simp [sp_cat_rf, sp_cat_i, sp_cat_l]) (Nat.le_of_ble_eq_true rfl) (Nat.le_of_ble_eq_true rfl) (Nat.zero_le _) (Nat.zero_le _) dJx4a65c_grow_92f84_49 (sp_kI fun v49 m49 hp49 => ?_)
      obtain ⟨hp49v, hp49⟩ := hp49; replace hp49 := (hp49).symm; subst hp49; replace hp49v := (hp49v).symm; subst hp49v
      rw [show (if (10 : Int32) < nI (s + 1) then nI (s + 1) else 10) = nI 10 by rw [hcase]; decide +kernel]
      refine sp_anewarray X (pc := 52) (N := sp_cap s) cl_List_7 (by decide +kernel) (by rw [hcase]; decide +kernel) (by omega) (Nat.le_refl _) (Nat.le_refl _) dJx4a65c_grow_92f84_52 ?_
      refine sp_dup_x1 X (pc := 55) dJx4a65c_grow_92f84_55 (sp_cat_rf _) (sp_cat_rf _) ?_
      refine sp_putR X (pc := 56) (c := 0) (i := 1) (q := 1) (a := o) rfl (by rw [sp_newA_ty, if_neg hon]; exact ho) (by decide) rfl rfl (Or.inl rfl)  fl_List_9 dJx4a65c_grow_92f84_56 ?_
      refine sp_areturn X (pc := 59) (by first | exact Or.inl ⟨_, rfl⟩ | exact Or.inr ⟨_, rfl⟩) dJx4a65c_grow_92f84_59 ⟨_, rfl, ?_⟩
      refine ⟨rfl, ?_⟩
      rw [sp_wR_none]
      intro j
      rw [if_neg (by omega)]
    · exfalso
      rcases hk with hk | hk
      · omega
      · exact hb17 (by rw [hk.2.1]) --stop
set_option maxRecDepth 20000 in
theorem c_List_grow1 (l : Launch) (G : sp_G) (m : sp_M) {o ed s : Nat} (hG : sp_GS G) (h : sp_li G m o ed s) (hs : s = m.ln ed) (hs6 : s ≤ 60000) (hel : ∀ j, j < m.ln ed → ∀ y, m.aR ed j = some y → sp_ob m y) : sp_C l G M_List_grow1 1 (sp_cap s) [.ref o] m (sp_oR fun v m' => v = some m.nx ∧ m' = ((m.newA 23 (sp_cap s)).wR m.nx (fun j => if j < s then m.aR ed j else none)).pR 1 o (some m.nx)) := by
  refine sp_enter (lv0 := [(0, false, va_rf (some o))]) "java/util/ArrayList" false rfl (by decide) (fun h => by cases h) (Nat.le_of_ble_eq_true rfl) rfl ?_
  intro w X
  have ho := h.1
  have hsz := h.2.2.1
  refine sp_aload_n X (pc := 0) (r := some o) dJx4a65c_grow_d5877_0 rfl rfl ?_
  refine sp_aload_n X (pc := 1) (r := some o) dJx4a65c_grow_d5877_1 rfl rfl ?_
  refine sp_getfield X (pc := 2) (c := 0) (i := 2) (t := 0) (a := o) (v := .int (m.fI 2 o)) rfl (by first | assumption | omega) (by decide) rfl rfl fl_List_48 dJx4a65c_grow_d5877_2 ?_
  refine sp_iconst X (pc := 5) (v := 1) dJx4a65c_grow_d5877_5 (by decide) ?_
  refine sp_iadd X (pc := 6) dJx4a65c_grow_d5877_6 ?_
  rw [show ((m.fI 2 o) + 1) = nI (s + 1) from (by rw [hsz]; exact nI_1 s)]
  refine sp_callV X (pc := 7) (mc := 1) (ms := sp_cap s) (b := o) (c := 0) (r := some o) (As := [.int (nI (s + 1))]) (rest := []) (c_List_grow2 l G _ hG h hs hs6 hel) ok_List_grow2 rfl (by first | assumption | omega) (by decide) rfl lk_List_69 rfl rfl (Nat.zero_le _) (Nat.le_of_ble_eq_true rfl) (Nat.le_of_ble_eq_true rfl) (Nat.le_refl _) (Nat.le_refl _) dJx4a65c_grow_d5877_7 (sp_kR fun v7 m7 hp7 => ?_)
  refine sp_areturn X (pc := 10) (by first | exact Or.inl ⟨_, rfl⟩ | exact Or.inr ⟨_, rfl⟩) dJx4a65c_grow_d5877_10 ⟨_, rfl, ?_⟩
  exact hp7
set_option maxRecDepth 20000 in
theorem c_List_add2_n (l : Launch) (G : sp_G) (m : sp_M) {o ed s b : Nat} (ho : m.ty o = 1) (hed : m.ty ed = 23) (hs : s < m.ln ed) (hln : m.ln ed ≤ 100000) (hb : sp_ob m b) : sp_C l G M_List_add2 0 0 [.ref o, .ref b, .ref ed, .int (nI s)] m (sp_oV fun m' => m' = (m.sR ed s (some b)).pI 2 o (nI (s + 1))) := by
  refine sp_enter (lv0 := [(0, false, va_rf (some o)), (1, false, va_rf (some b)), (2, false, va_rf (some ed)), (3, false, .int (nI s))]) "java/util/ArrayList" false rfl (by decide) (fun h => by cases h) (Nat.le_of_ble_eq_true rfl) rfl ?_
  intro w X
  refine sp_iload_n X (pc := 0) (x := nI s) dJx4a65c_add_72be8_0 rfl rfl ?_
  refine sp_aload_n X (pc := 1) (r := some ed) dJx4a65c_add_72be8_1 rfl rfl ?_
  refine sp_arraylength X (pc := 2) (a := ed) rfl (by omega) dJx4a65c_add_72be8_2 ?_
  rw [show (Int32.ofNat (m.ln ed)) = nI (m.ln ed) from rfl]
  refine sp_icmp_ne X (pc := 3) (tgt := 11) dJx4a65c_add_72be8_3 (by decide) (fun hb3 => ?_) (fun hb3 => ?_)
  · refine sp_aload_n X (pc := 11) (r := some ed) dJx4a65c_add_72be8_11 rfl rfl ?_
    refine sp_iload_n X (pc := 12) (x := nI s) dJx4a65c_add_72be8_12 rfl rfl ?_
    refine sp_aload_n X (pc := 13) (r := some b) dJx4a65c_add_72be8_13 rfl rfl ?_
    refine sp_aastore X (pc := 14) (a := ed) rfl (by first | assumption | omega) (vp_in_nI hs (by omega)) (fun z hz => by cases hz; exact hb) dJx4a65c_add_72be8_14 ?_
    rw [show (nI s).toNatClampNeg = s from nI_clamp (by omega)]
    refine sp_aload_n X (pc := 15) (r := some o) dJx4a65c_add_72be8_15 rfl rfl ?_
    refine sp_iload_n X (pc := 16) (x := nI s) dJx4a65c_add_72be8_16 rfl rfl ?_
    refine sp_iconst X (pc := 17) (v := 1) dJx4a65c_add_72be8_17 (by decide) ?_
    refine sp_iadd X (pc := 18) dJx4a65c_add_72be8_18 ?_
    rw [show ((nI s) + 1) = nI (s + 1) from nI_1 s]
    refine sp_putI X (pc := 19) (c := 0) (i := 2) (q := 2) (a := o) rfl (by first | assumption | omega) (by decide) rfl rfl (Or.inl rfl) ⟨rfl, rfl⟩ fl_List_48 dJx4a65c_add_72be8_19 ?_
    refine sp_return X (pc := 22) dJx4a65c_add_72be8_22 ⟨rfl, ?_⟩
    first | exact ⟨rfl, rfl⟩ | rfl | (refine ⟨?_, rfl⟩; first | (rw [if_pos (by assumption)]; done) | (rw [if_neg (by assumption)]; done) | (split <;> simp_all; done))
  · exact absurd ((nI_eq (by omega) (by omega)).mp hb3) (by omega) --stop
set_option maxRecDepth 20000 in
theorem c_List_add2_g (l : Launch) (G : sp_G) (m : sp_M) {o ed s b : Nat} (hG : sp_GS G) (h : sp_li G m o ed s) (hs : s = m.ln ed) (hs6 : s ≤ 60000) (hel : ∀ j, j < m.ln ed → ∀ y, m.aR ed j = some y → sp_ob m y) (hb : sp_ob m b) : sp_C l G M_List_add2 1 (sp_cap s) [.ref o, .ref b, .ref ed, .int (nI s)] m (sp_oV fun m' => m' = ((((m.newA 23 (sp_cap s)).wR m.nx (fun j => if j < s then m.aR ed j else none)).pR 1 o (some m.nx)).sR m.nx s (some b)).pI 2 o (nI (s + 1))) := by
  refine sp_enter (lv0 := [(0, false, va_rf (some o)), (1, false, va_rf (some b)), (2, false, va_rf (some ed)), (3, false, .int (nI s))]) "java/util/ArrayList" false rfl (by decide) (fun h => by cases h) (Nat.le_of_ble_eq_true rfl) rfl ?_
  intro w X
  refine sp_fresh X (fun hwf hbs => ?_)
  have hk := h.2.2.2.2.2
  have ho := h.1
  have hon : o ≠ m.nx := by have := hwf o (by omega); omega
  have hcap : s < sp_cap s ∧ sp_cap s ≤ 200000 := by
    unfold sp_cap
    split
    · omega
    · have : s / 2 ≤ s := Nat.div_le_self s 2
      omega
  refine sp_iload_n X (pc := 0) (x := nI s) dJx4a65c_add_72be8_0 rfl rfl ?_
  refine sp_aload_n X (pc := 1) (r := some ed) dJx4a65c_add_72be8_1 rfl rfl ?_
  refine sp_arraylength X (pc := 2) (a := ed) rfl (by omega) dJx4a65c_add_72be8_2 ?_
  rw [show (Int32.ofNat (m.ln ed)) = nI s from (by rw [← hs]; rfl)]
  refine sp_icmp_ne X (pc := 3) (tgt := 11) dJx4a65c_add_72be8_3 (by decide) (fun hb3 => ?_) (fun hb3 => ?_)
  · exact absurd rfl hb3 --stop
  · refine sp_aload_n X (pc := 6) (r := some o) dJx4a65c_add_72be8_6 rfl rfl ?_
    refine sp_callV X (pc := 7) (mc := 1) (ms := sp_cap s) (b := o) (c := 0) (r := some o) (As := []) (rest := []) (c_List_grow1 l G _ hG h hs hs6 hel) ok_List_grow1 rfl (by first | assumption | omega) (by decide) rfl lk_List_129 rfl rfl (Nat.zero_le _) (Nat.le_of_ble_eq_true rfl) (Nat.le_of_ble_eq_true rfl) (Nat.le_refl _) (Nat.le_refl _) dJx4a65c_add_72be8_7 (sp_kR fun v7 m7 hp7 => ?_)
    obtain ⟨hp7v, hp7⟩ := hp7; subst hp7v; subst hp7
    refine sp_astore_n X (pc := 10) (lv' := [(2, false, va_rf (some m.nx)), (0, false, va_rf (some o)), (1, false, va_rf (some b)), (3, false, .int (nI s))]) dJx4a65c_add_72be8_10 rfl (by decide) rfl ?_
    refine sp_aload_n X (pc := 11) (r := some m.nx) dJx4a65c_add_72be8_11 rfl rfl ?_
    refine sp_iload_n X (pc := 12) (x := nI s) dJx4a65c_add_72be8_12 rfl rfl ?_
    refine sp_aload_n X (pc := 13) (r := some b) dJx4a65c_add_72be8_13 rfl rfl ?_
    refine sp_aastore X (pc := 14) (a := m.nx) rfl (by show (m.newA 23 (sp_cap s)).ty m.nx = _; rw [sp_newA_ty, if_pos rfl]) (by show vp_in _ ((m.newA 23 (sp_cap s)).ln m.nx); rw [sp_newA_ln, if_pos rfl]; exact vp_in_nI hcap.1 (by omega)) (fun z hz => by
  cases hz
  obtain ⟨c9, q1, q2, q3⟩ := hb
  refine ⟨c9, ?_, q2, q3⟩
  show (m.newA 23 (sp_cap s)).ty b = _
  rw [sp_newA_ty, if_neg]
  · exact q1
  · have := hwf b (by omega)
    omega) dJx4a65c_add_72be8_14 ?_
    rw [show (nI s).toNatClampNeg = s from nI_clamp (by omega)]
    refine sp_aload_n X (pc := 15) (r := some o) dJx4a65c_add_72be8_15 rfl rfl ?_
    refine sp_iload_n X (pc := 16) (x := nI s) dJx4a65c_add_72be8_16 rfl rfl ?_
    refine sp_iconst X (pc := 17) (v := 1) dJx4a65c_add_72be8_17 (by decide) ?_
    refine sp_iadd X (pc := 18) dJx4a65c_add_72be8_18 ?_
    rw [show ((nI s) + 1) = nI (s + 1) from nI_1 s]
    refine sp_putI X (pc := 19) (c := 0) (i := 2) (q := 2) (a := o) rfl (by show (m.newA 23 (sp_cap s)).ty o = _; rw [sp_newA_ty, if_neg hon]; exact ho) (by decide) rfl rfl (Or.inl rfl) ⟨rfl, rfl⟩ fl_List_48 dJx4a65c_add_72be8_19 ?_
    refine sp_return X (pc := 22) dJx4a65c_add_72be8_22 ⟨rfl, ?_⟩
    first | exact ⟨rfl, rfl⟩ | rfl | (refine ⟨?_, rfl⟩; first | (rw [if_pos (by assumption)]; done) | (rw [if_neg (by assumption)]; done) | (split <;> simp_all; done))
end
section

theorem sp_li.md {G : sp_G} {m : sp_M} {o ed s : Nat} (h : sp_li G m o ed s) (v : Int32) : sp_li G (m.pI 0 o v) o ed s :=
  ⟨h.1, h.2.1, by rw [sp_pI_fI, if_neg (by simp)]; exact h.2.2.1, h.2.2.2.1, h.2.2.2.2.1, h.2.2.2.2.2⟩
/-- behind add(b) to the list o: row ed, size s -/
def sp_ad (G : sp_G) (m : sp_M) (o ed s b : Nat) (m' : sp_M) : Prop := ∃ ed', sp_li G m' o ed' (s + 1) ∧ (∀ j, j < s → m'.aR ed' j = m.aR ed j) ∧ m'.aR ed' s = some b ∧ ((s < m.ln ed ∧ ed' = ed ∧ m'.nx = m.nx ∧ m'.ty = m.ty ∧ m'.ln = m.ln) ∨ (¬ s < m.ln ed ∧ ed' = m.nx ∧ m'.nx = m.nx + 1 ∧ m'.ty = sp_u1 m.ty m.nx 23 ∧ m'.ln = sp_u1 m.ln m.nx (sp_cap (m.ln ed)))) ∧ (∀ k a, ¬ (k = 1 ∧ a = o) → m'.fR k a = m.fR k a) ∧ (∀ k a, ¬ (k = 0 ∧ a = o) → ¬ (k = 2 ∧ a = o) → m'.fI k a = m.fI k a) ∧ m'.fL = m.fL ∧ (∀ a, a ≠ m.nx → m'.aI a = m.aI a ∧ m'.aL a = m.aL a) ∧ (∀ a, a ≠ ed → a ≠ m.nx → m'.aR a = m.aR a)
set_option maxRecDepth 20000 in
theorem c_List_add1_n (l : Launch) (G : sp_G) (m : sp_M) {o ed s b : Nat} (h : sp_li G m o ed s) (hs : s < m.ln ed) (hb : sp_ob m b) : sp_C l G M_List_add1 0 0 [.ref o, .ref b] m (sp_oI fun v m' => v = 1 ∧ m' = ((m.pI 0 o (m.fI 0 o + 1)).sR ed s (some b)).pI 2 o (nI (s + 1))) := by
  refine sp_enter (lv0 := [(0, false, va_rf (some o)), (1, false, va_rf (some b))]) "java/util/ArrayList" false rfl (by decide) (fun h => by cases h) (Nat.le_of_ble_eq_true rfl) rfl ?_
  intro w X
  have ho := h.1
  have he := h.2.1
  have hed : m.ty ed = 23 := by
    have := h.2.2.2.2.2
    omega
  refine sp_aload_n X (pc := 0) (r := some o) dJx4a65c_add_9ea2d_0 rfl rfl ?_
  refine sp_dup X (pc := 1) dJx4a65c_add_9ea2d_1 (sp_cat_rf _) ?_
  refine sp_getfield X (pc := 2) (c := 0) (i := 0) (t := 0) (a := o) (v := .int (m.fI 0 o)) rfl (by first | assumption | omega) (by decide) rfl rfl fl_List_63 dJx4a65c_add_9ea2d_2 ?_
  refine sp_iconst X (pc := 5) (v := 1) dJx4a65c_add_9ea2d_5 (by decide) ?_
  refine sp_iadd X (pc := 6) dJx4a65c_add_9ea2d_6 ?_
  refine sp_putI X (pc := 7) (c := 0) (i := 0) (q := 0) (a := o) rfl (by first | assumption | omega) (by decide) rfl rfl (Or.inl rfl) ⟨rfl, rfl⟩ fl_List_63 dJx4a65c_add_9ea2d_7 ?_
  refine sp_aload_n X (pc := 10) (r := some o) dJx4a65c_add_9ea2d_10 rfl rfl ?_
  refine sp_aload_n X (pc := 11) (r := some b) dJx4a65c_add_9ea2d_11 rfl rfl ?_
  refine sp_aload_n X (pc := 12) (r := some o) dJx4a65c_add_9ea2d_12 rfl rfl ?_
  refine sp_getfield X (pc := 13) (c := 0) (i := 1) (t := 2) (a := o) (v := va_rf (some ed)) rfl (by first | assumption | omega) (by decide) rfl (congrArg va_rf he) fl_List_9 dJx4a65c_add_9ea2d_13 ?_
  refine sp_aload_n X (pc := 16) (r := some o) dJx4a65c_add_9ea2d_16 rfl rfl ?_
  refine sp_getfield X (pc := 17) (c := 0) (i := 2) (t := 0) (a := o) (v := .int (nI s)) rfl (by first | assumption | omega) (by decide) rfl (congrArg Value.int h.2.2.1) fl_List_48 dJx4a65c_add_9ea2d_17 ?_
  refine sp_callV X (pc := 20) (mc := 0) (ms := 0) (b := o) (c := 0) (r := some o) (As := [va_rf (some b), va_rf (some ed), .int (nI s)]) (rest := []) (c_List_add2_n l G _ (o := o) (ed := ed) (s := s) (b := b) ho hed hs h.2.2.2.2.1 hb) ok_List_add2 rfl (by first | assumption | omega) (by decide) rfl lk_List_131 rfl rfl (Nat.zero_le _) (Nat.le_of_ble_eq_true rfl) (Nat.le_of_ble_eq_true rfl) (Nat.zero_le _) (Nat.zero_le _) dJx4a65c_add_9ea2d_20 (sp_kV fun m20 hp20 => ?_)
  subst hp20
  refine sp_iconst X (pc := 23) (v := 1) dJx4a65c_add_9ea2d_23 (by decide) ?_
  refine sp_ireturn X (pc := 24) dJx4a65c_add_9ea2d_24 rfl ⟨_, rfl, ?_⟩
  exact ⟨rfl, rfl⟩
set_option maxRecDepth 20000 in
theorem c_List_add1_g (l : Launch) (G : sp_G) (m : sp_M) {o ed s b : Nat} (hG : sp_GS G) (h : sp_li G m o ed s) (hs : s = m.ln ed) (hs6 : s ≤ 60000) (hel : ∀ j, j < m.ln ed → ∀ y, m.aR ed j = some y → sp_ob m y) (hb : sp_ob m b) : sp_C l G M_List_add1 1 (sp_cap s) [.ref o, .ref b] m (sp_oI fun v m' => v = 1 ∧ m' = (((((m.pI 0 o (m.fI 0 o + 1)).newA 23 (sp_cap s)).wR m.nx (fun j => if j < s then m.aR ed j else none)).pR 1 o (some m.nx)).sR m.nx s (some b)).pI 2 o (nI (s + 1))) := by
  refine sp_enter (lv0 := [(0, false, va_rf (some o)), (1, false, va_rf (some b))]) "java/util/ArrayList" false rfl (by decide) (fun h => by cases h) (Nat.le_of_ble_eq_true rfl) rfl ?_
  intro w X
  have ho := h.1
  have he := h.2.1
  refine sp_aload_n X (pc := 0) (r := some o) dJx4a65c_add_9ea2d_0 rfl rfl ?_
  refine sp_dup X (pc := 1) dJx4a65c_add_9ea2d_1 (sp_cat_rf _) ?_
  refine sp_getfield X (pc := 2) (c := 0) (i := 0) (t := 0) (a := o) (v := .int (m.fI 0 o)) rfl (by first | assumption | omega) (by decide) rfl rfl fl_List_63 dJx4a65c_add_9ea2d_2 ?_
  refine sp_iconst X (pc := 5) (v := 1) dJx4a65c_add_9ea2d_5 (by decide) ?_
  refine sp_iadd X (pc := 6) dJx4a65c_add_9ea2d_6 ?_
  refine sp_putI X (pc := 7) (c := 0) (i := 0) (q := 0) (a := o) rfl (by first | assumption | omega) (by decide) rfl rfl (Or.inl rfl) ⟨rfl, rfl⟩ fl_List_63 dJx4a65c_add_9ea2d_7 ?_
  refine sp_aload_n X (pc := 10) (r := some o) dJx4a65c_add_9ea2d_10 rfl rfl ?_
  refine sp_aload_n X (pc := 11) (r := some b) dJx4a65c_add_9ea2d_11 rfl rfl ?_
  refine sp_aload_n X (pc := 12) (r := some o) dJx4a65c_add_9ea2d_12 rfl rfl ?_
  refine sp_getfield X (pc := 13) (c := 0) (i := 1) (t := 2) (a := o) (v := va_rf (some ed)) rfl (by first | assumption | omega) (by decide) rfl (congrArg va_rf he) fl_List_9 dJx4a65c_add_9ea2d_13 ?_
  refine sp_aload_n X (pc := 16) (r := some o) dJx4a65c_add_9ea2d_16 rfl rfl ?_
  refine sp_getfield X (pc := 17) (c := 0) (i := 2) (t := 0) (a := o) (v := .int (nI s)) rfl (by first | assumption | omega) (by decide) rfl (congrArg Value.int h.2.2.1) fl_List_48 dJx4a65c_add_9ea2d_17 ?_
  refine sp_callV X (pc := 20) (mc := 1) (ms := sp_cap s) (b := o) (c := 0) (r := some o) (As := [va_rf (some b), va_rf (some ed), .int (nI s)]) (rest := []) (c_List_add2_g l G _ (o := o) (ed := ed) (s := s) (b := b) hG (h.md _) hs hs6 hel hb) ok_List_add2 rfl (by first | assumption | omega) (by decide) rfl lk_List_131 rfl rfl (Nat.zero_le _) (Nat.le_of_ble_eq_true rfl) (Nat.le_of_ble_eq_true rfl) (Nat.le_refl _) (Nat.le_refl _) dJx4a65c_add_9ea2d_20 (sp_kV fun m20 hp20 => ?_)
  subst hp20
  refine sp_iconst X (pc := 23) (v := 1) dJx4a65c_add_9ea2d_23 (by decide) ?_
  refine sp_ireturn X (pc := 24) dJx4a65c_add_9ea2d_24 rfl ⟨_, rfl, ?_⟩
  exact ⟨rfl, rfl⟩

theorem sp_cap_gt (c : Nat) : c < sp_cap c := by
  unfold sp_cap
  split
  · omega
  · omega
theorem sp_cap_le (c : Nat) : sp_cap c ≤ 2 * c + 10 := by
  unfold sp_cap
  split
  · omega
  · have : c / 2 ≤ c := Nat.div_le_self c 2
    omega
/-- add: the room that it takes is known ahead -/
theorem c_List_add1 (l : Launch) (G : sp_G) (m : sp_M) {o ed s b : Nat} (hG : sp_GS G) (h : sp_li G m o ed s) (hwf : sp_wf m) (hs6 : m.ln ed ≤ 40000) (hel : ∀ j, j < s → ∀ y, m.aR ed j = some y → sp_ob m y) (hb : sp_ob m b) : sp_C l G M_List_add1 (if s < m.ln ed then 0 else 1) (if s < m.ln ed then 0 else sp_cap (m.ln ed)) [.ref o, .ref b] m (sp_oI fun v m' => v = 1 ∧ sp_ad G m o ed s b m') := by
  have hon : o ≠ m.nx := by have := hwf o (by rw [h.1]; decide); omega
  have hedn : ed ≠ m.nx := by
    have := hwf ed (by have := h.2.2.2.2.2; omega)
    omega
  by_cases hs : s < m.ln ed
  · rw [if_pos hs, if_pos hs]
    refine sp_C_mono ?_ (c_List_add1_n l G m h hs hb)
    rintro r m' ⟨v, rfl, rfl, rfl⟩
    refine ⟨_, rfl, rfl, ed, ?_, ?_, ?_, Or.inl ⟨hs, rfl, rfl, rfl, rfl⟩, ?_, ?_, rfl, ?_, ?_⟩
    · exact ⟨h.1, h.2.1, by rw [sp_pI_fI, if_pos ⟨rfl, rfl⟩], by show s + 1 ≤ m.ln ed; omega, h.2.2.2.2.1, h.2.2.2.2.2⟩
    · intro j hj
      show (if ed = ed ∧ j = s then some b else m.aR ed j) = _
      rw [if_neg (by omega)]
    · show (if ed = ed ∧ s = s then some b else m.aR ed s) = _
      rw [if_pos ⟨rfl, rfl⟩]
    · intro k a _
      rfl
    · intro k a h1 h2
      rw [sp_pI_fI, if_neg h2]
      show (m.pI 0 o (m.fI 0 o + 1)).fI k a = _
      rw [sp_pI_fI, if_neg h1]
    · intro a ha
      exact ⟨rfl, rfl⟩
    · intro a h1 h2
      funext j
      show (if a = ed ∧ j = s then some b else m.aR a j) = _
      rw [if_neg (by omega)]
  · rw [if_neg hs, if_neg hs]
    have hse : s = m.ln ed := by have := h.2.2.2.1; omega
    have hcap := sp_cap_gt (m.ln ed)
    have hcap2 := sp_cap_le (m.ln ed)
    have hC := c_List_add1_g l G m hG h hse (by omega) (fun j hj => hel j (by omega)) hb
    rw [hse] at hC
    refine sp_C_mono ?_ hC
    rintro r m' ⟨v, rfl, rfl, rfl⟩
    rw [hse]
    refine ⟨_, rfl, rfl, m.nx, ?_, ?_, ?_, Or.inr ⟨by omega, rfl, rfl, rfl, rfl⟩, ?_, ?_, rfl, ?_, ?_⟩
    · refine ⟨?_, ?_, ?_, ?_, ?_, ?_⟩
      · show (m.newA 23 (sp_cap (m.ln ed))).ty o = _
        rw [sp_newA_ty, if_neg hon]
        exact h.1
      · show (sp_u2 _ 1 o (some m.nx)) 1 o = _
        unfold sp_u2
        rw [if_pos ⟨rfl, rfl⟩]
      · rw [sp_pI_fI, if_pos ⟨rfl, rfl⟩]
      · show _ ≤ (m.newA 23 (sp_cap (m.ln ed))).ln m.nx
        rw [sp_newA_ln, if_pos rfl]
        omega
      · show (m.newA 23 (sp_cap (m.ln ed))).ln m.nx ≤ _
        rw [sp_newA_ln, if_pos rfl]
        omega
      · left
        refine ⟨?_, ?_⟩
        · show (m.newA 23 (sp_cap (m.ln ed))).ty m.nx = _
          rw [sp_newA_ty, if_pos rfl]
        · show 0 < (m.newA 23 (sp_cap (m.ln ed))).ln m.nx
          rw [sp_newA_ln, if_pos rfl]
          omega
    · intro j hj
      show (if m.nx = m.nx ∧ j = m.ln ed then some b else if m.nx = m.nx then (if j < m.ln ed then m.aR ed j else none) else (m.newA 23 (sp_cap (m.ln ed))).aR m.nx j) = _
      rw [if_neg (by omega), if_pos rfl, if_pos hj]
    · show (if m.nx = m.nx ∧ m.ln ed = m.ln ed then some b else _) = _
      rw [if_pos ⟨rfl, rfl⟩]
    · intro k a h1
      show (sp_u2 m.fR 1 o (some m.nx)) k a = _
      unfold sp_u2
      rw [if_neg h1]
    · intro k a h1 h2
      rw [sp_pI_fI, if_neg h2]
      show (m.pI 0 o (m.fI 0 o + 1)).fI k a = _
      rw [sp_pI_fI, if_neg h1]
    · intro a ha
      refine ⟨?_, ?_⟩
      · funext j
        show (if a = m.nx then 0 else m.aI a j) = _
        rw [if_neg ha]
      · funext j
        show (if a = m.nx then 0 else m.aL a j) = _
        rw [if_neg ha]
    · intro a h1 h2
      funext j
      show (if a = m.nx ∧ j = m.ln ed then some b else if a = m.nx then (if j < m.ln ed then m.aR ed j else none) else if a = m.nx then none else m.aR a j) = _
      rw [if_neg (by omega), if_neg h2, if_neg h2]
set_option maxRecDepth 20000 in
theorem c_List_init (l : Launch) (G : sp_G) (m : sp_M) {o : Nat} (hG : sp_GS G) (ho : m.ty o = 1) : sp_C l G M_List_init 0 0 [.ref o] m (sp_oV fun m' => m' = (m.pI 0 o 0).pR 1 o (some (G.sk 3))) := by
  refine sp_enter (lv0 := [(0, false, va_rf (some o))]) "java/util/ArrayList" true rfl (by decide) (fun _ => rfl) (Nat.le_of_ble_eq_true rfl) rfl ?_
  intro w X
  refine sp_aload_n X (pc := 0) (r := some o) dJx4a65c_init_da8c8_0 rfl rfl ?_
  refine sp_callI X (pc := 1) (mc := 0) (ms := 0) (b := o) (r := some o) (As := []) (rest := []) (c_AList_init l G _ ho) ok_AList_init rfl rfl lk_List_1 rfl rfl (Nat.zero_le _) (Nat.le_of_ble_eq_true rfl) (Nat.le_of_ble_eq_true rfl) (Nat.zero_le _) (Nat.zero_le _) dJx4a65c_init_da8c8_1 (sp_kV fun m1 hp1 => ?_)
  subst hp1
  refine sp_aload_n X (pc := 4) (r := some o) dJx4a65c_init_da8c8_4 rfl rfl ?_
  refine sp_getstatic X (pc := 5) (v := va_rf (some (G.sk 3))) hG.1 gs_List_39 dJx4a65c_init_da8c8_5 ?_
  refine sp_putR X (pc := 8) (c := 0) (i := 1) (q := 1) (a := o) rfl (by first | assumption | omega) (by decide) rfl rfl (Or.inl rfl)  fl_List_9 dJx4a65c_init_da8c8_8 ?_
  refine sp_return X (pc := 11) dJx4a65c_init_da8c8_11 ⟨rfl, ?_⟩
  first | exact ⟨rfl, rfl⟩ | rfl | (refine ⟨?_, rfl⟩; first | (rw [if_pos (by assumption)]; done) | (rw [if_neg (by assumption)]; done) | (split <;> simp_all; done))
set_option maxRecDepth 20000 in
theorem c_List_fastRemove (l : Launch) (G : sp_G) (m : sp_M) {o ed j : Nat} (h : sp_li G m o ed (j + 1)) : sp_C l G M_List_fastRemove 0 0 [.ref o, .ref ed, .int (nI j)] m (sp_oV fun m' => m' = ((m.pI 0 o (m.fI 0 o + 1)).pI 2 o (nI j)).sR ed j none) := by
  refine sp_enter (lv0 := [(0, false, va_rf (some o)), (1, false, va_rf (some ed)), (2, false, .int (nI j))]) "java/util/ArrayList" false rfl (by decide) (fun h => by cases h) (Nat.le_of_ble_eq_true rfl) rfl ?_
  intro w X
  have hed := h.row (by omega)
  obtain ⟨ho, he, hs, hsl, hln, -⟩ := h
  refine sp_aload_n X (pc := 0) (r := some o) dJx4a65c_fastRemove_b59b0_0 rfl rfl ?_
  refine sp_dup X (pc := 1) dJx4a65c_fastRemove_b59b0_1 (sp_cat_rf _) ?_
  refine sp_getfield X (pc := 2) (c := 0) (i := 0) (t := 0) (a := o) (v := .int (m.fI 0 o)) rfl (by first | assumption | omega) (by decide) rfl rfl fl_List_63 dJx4a65c_fastRemove_b59b0_2 ?_
  refine sp_iconst X (pc := 5) (v := 1) dJx4a65c_fastRemove_b59b0_5 (by decide) ?_
  refine sp_iadd X (pc := 6) dJx4a65c_fastRemove_b59b0_6 ?_
  refine sp_putI X (pc := 7) (c := 0) (i := 0) (q := 0) (a := o) rfl (by first | assumption | omega) (by decide) rfl rfl (Or.inl rfl) ⟨rfl, rfl⟩ fl_List_63 dJx4a65c_fastRemove_b59b0_7 ?_
  refine sp_aload_n X (pc := 10) (r := some o) dJx4a65c_fastRemove_b59b0_10 rfl rfl ?_
  refine sp_getfield X (pc := 11) (c := 0) (i := 2) (t := 0) (a := o) (v := .int (nI (j + 1))) rfl (by first | assumption | omega) (by decide) rfl (congrArg Value.int hs) fl_List_48 dJx4a65c_fastRemove_b59b0_11 ?_
  refine sp_iconst X (pc := 14) (v := 1) dJx4a65c_fastRemove_b59b0_14 (by decide) ?_
  refine sp_isub X (pc := 15) dJx4a65c_fastRemove_b59b0_15 ?_
  rw [show ((nI (j + 1)) - 1) = nI j from (nI_pred j)]
  refine sp_dup X (pc := 16) dJx4a65c_fastRemove_b59b0_16 rfl ?_
  refine sp_istore_n X (pc := 17) (lv' := [(3, false, .int (nI j)), (0, false, va_rf (some o)), (1, false, va_rf (some ed)), (2, false, .int (nI j))]) dJx4a65c_fastRemove_b59b0_17 rfl (by decide) rfl ?_
  refine sp_iload_n X (pc := 18) (x := nI j) dJx4a65c_fastRemove_b59b0_18 rfl rfl ?_
  refine sp_icmp_le X (pc := 19) (tgt := 34) dJx4a65c_fastRemove_b59b0_19 (by decide) (fun hb19 => ?_) (fun hb19 => ?_)
  · refine sp_aload_n X (pc := 34) (r := some ed) dJx4a65c_fastRemove_b59b0_34 rfl rfl ?_
    refine sp_aload_n X (pc := 35) (r := some o) dJx4a65c_fastRemove_b59b0_35 rfl rfl ?_
    refine sp_iload_n X (pc := 36) (x := nI j) dJx4a65c_fastRemove_b59b0_36 rfl rfl ?_
    refine sp_dup_x1 X (pc := 37) dJx4a65c_fastRemove_b59b0_37 rfl (sp_cat_rf _) ?_
    refine sp_putI X (pc := 38) (c := 0) (i := 2) (q := 2) (a := o) rfl (by first | assumption | omega) (by decide) rfl rfl (Or.inl rfl) ⟨rfl, rfl⟩ fl_List_48 dJx4a65c_fastRemove_b59b0_38 ?_
    refine sp_null X (pc := 41) dJx4a65c_fastRemove_b59b0_41 ?_
    refine sp_aastore X (pc := 42) (a := ed) rfl (by first | assumption | omega) (vp_in_nI (by show j < m.ln ed; omega) (by show m.ln ed < _; omega)) (fun z hz => by cases hz) dJx4a65c_fastRemove_b59b0_42 ?_
    rw [show (nI j).toNatClampNeg = j from nI_clamp (by omega)]
    refine sp_return X (pc := 43) dJx4a65c_fastRemove_b59b0_43 ⟨rfl, ?_⟩
    first | exact ⟨rfl, rfl⟩ | rfl | (refine ⟨?_, rfl⟩; first | (rw [if_pos (by assumption)]; done) | (rw [if_neg (by assumption)]; done) | (split <;> simp_all; done))
  · exact absurd (nI_le (Nat.le_refl _) (by omega)) hb19 --stop
set_option maxRecDepth 20000 in
theorem c_List_remove (l : Launch) (G : sp_G) (m : sp_M) {o ed j : Nat} (h : sp_li G m o ed (j + 1)) : sp_C l G M_List_remove 0 0 [.ref o, .int (nI j)] m (sp_oR fun v m' => v = m.aR ed j ∧ m' = ((m.pI 0 o (m.fI 0 o + 1)).pI 2 o (nI j)).sR ed j none) := by
  refine sp_enter (lv0 := [(0, false, va_rf (some o)), (1, false, .int (nI j))]) "java/util/ArrayList" false rfl (by decide) (fun h => by cases h) (Nat.le_of_ble_eq_true rfl) rfl ?_
  intro w X
  have h9 := h
  have hed := h.row (by omega)
  obtain ⟨ho, he, hs, hsl, hln, -⟩ := h
  refine sp_iload_n X (pc := 0) (x := nI j) dJx4a65c_remove_915e3_0 rfl rfl ?_
  refine sp_aload_n X (pc := 1) (r := some o) dJx4a65c_remove_915e3_1 rfl rfl ?_
  refine sp_getfield X (pc := 2) (c := 0) (i := 2) (t := 0) (a := o) (v := .int (nI (j + 1))) rfl (by first | assumption | omega) (by decide) rfl (congrArg Value.int hs) fl_List_48 dJx4a65c_remove_915e3_2 ?_
  refine sp_callS X (pc := 5) (mc := 0) (ms := 0) (As := [.int (nI j), .int (nI (j + 1))]) (rest := []) (c_Objects_checkIndex l G _ (nI_pos (by omega)) (nI_lt (by omega) (by omega))) ok_Objects_checkIndex lk_List_118 rfl rfl (Nat.zero_le _) (Nat.le_of_ble_eq_true rfl) (Nat.le_of_ble_eq_true rfl) (Nat.zero_le _) (Nat.zero_le _) dJx4a65c_remove_915e3_5 (sp_kI fun v5 m5 hp5 => ?_)
  obtain ⟨hp5v, hp5⟩ := hp5; replace hp5 := (hp5).symm; subst hp5; replace hp5v := (hp5v).symm; subst hp5v
  refine sp_pop X (pc := 8) dJx4a65c_remove_915e3_8 rfl ?_
  refine sp_aload_n X (pc := 9) (r := some o) dJx4a65c_remove_915e3_9 rfl rfl ?_
  refine sp_getfield X (pc := 10) (c := 0) (i := 1) (t := 2) (a := o) (v := va_rf (some ed)) rfl (by first | assumption | omega) (by decide) rfl (congrArg va_rf he) fl_List_9 dJx4a65c_remove_915e3_10 ?_
  refine sp_astore_n X (pc := 13) (lv' := [(2, false, va_rf (some ed)), (0, false, va_rf (some o)), (1, false, .int (nI j))]) dJx4a65c_remove_915e3_13 rfl (by decide) rfl ?_
  refine sp_aload_n X (pc := 14) (r := (some ed)) dJx4a65c_remove_915e3_14 rfl rfl ?_
  refine sp_iload_n X (pc := 15) (x := nI j) dJx4a65c_remove_915e3_15 rfl rfl ?_
  refine sp_aaload X (pc := 16) (a := ed) rfl (by first | assumption | omega) (vp_in_nI (by omega) (by omega)) dJx4a65c_remove_915e3_16 ?_
  rw [show (m.aR ed (nI j).toNatClampNeg) = m.aR ed j from (by rw [nI_clamp (by omega)])]
  refine sp_astore_n X (pc := 17) (lv' := [(3, false, va_rf (m.aR ed j)), (2, false, va_rf (some ed)), (0, false, va_rf (some o)), (1, false, .int (nI j))]) dJx4a65c_remove_915e3_17 rfl (by decide) rfl ?_
  refine sp_aload_n X (pc := 18) (r := some o) dJx4a65c_remove_915e3_18 rfl rfl ?_
  refine sp_aload_n X (pc := 19) (r := (some ed)) dJx4a65c_remove_915e3_19 rfl rfl ?_
  refine sp_iload_n X (pc := 20) (x := nI j) dJx4a65c_remove_915e3_20 rfl rfl ?_
  refine sp_callV X (pc := 21) (mc := 0) (ms := 0) (b := o) (c := 0) (r := some o) (As := [va_rf (some ed), .int (nI j)]) (rest := []) (c_List_fastRemove l G _ h9) ok_List_fastRemove rfl (by first | assumption | omega) (by decide) rfl lk_List_144 rfl rfl (Nat.zero_le _) (Nat.le_of_ble_eq_true rfl) (Nat.le_of_ble_eq_true rfl) (Nat.zero_le _) (Nat.zero_le _) dJx4a65c_remove_915e3_21 (sp_kV fun m21 hp21 => ?_)
  subst hp21
  refine sp_aload_n X (pc := 24) (r := m.aR ed j) dJx4a65c_remove_915e3_24 rfl rfl ?_
  refine sp_areturn X (pc := 25) (by first | exact Or.inl ⟨_, rfl⟩ | exact Or.inr ⟨_, rfl⟩) dJx4a65c_remove_915e3_25 ⟨_, rfl, ?_⟩
  exact ⟨rfl, rfl⟩
set_option maxRecDepth 20000 in
theorem c_List_clear (l : Launch) (G : sp_G) (m : sp_M) {o ed s : Nat} (h : sp_li G m o ed s) : sp_C l G M_List_clear 0 0 [.ref o] m (sp_oV fun m' => m' = ((m.pI 0 o (m.fI 0 o + 1)).pI 2 o 0).wR ed (fun j => if j < s then none else m.aR ed j)) := by
  refine sp_enter (lv0 := [(0, false, va_rf (some o))]) "java/util/ArrayList" false rfl (by decide) (fun h => by cases h) (Nat.le_of_ble_eq_true rfl) rfl ?_
  intro w X
  obtain ⟨ho, he, hs, hsl, hln, hk⟩ := h
  generalize hm1 : (m.pI 0 o (m.fI 0 o + 1)).pI 2 o 0 = m1
  have hty : m1.ty = m.ty := by rw [← hm1]; rfl
  have hl1 : m1.ln = m.ln := by rw [← hm1]; rfl
  have haR : m1.aR = m.aR := by rw [← hm1]; rfl
  refine sp_aload_n X (pc := 0) (r := some o) dJx4a65c_clear_da8c8_0 rfl rfl ?_
  refine sp_dup X (pc := 1) dJx4a65c_clear_da8c8_1 (sp_cat_rf _) ?_
  refine sp_getfield X (pc := 2) (c := 0) (i := 0) (t := 0) (a := o) (v := .int (m.fI 0 o)) rfl (by first | assumption | omega) (by decide) rfl rfl fl_List_63 dJx4a65c_clear_da8c8_2 ?_
  refine sp_iconst X (pc := 5) (v := 1) dJx4a65c_clear_da8c8_5 (by decide) ?_
  refine sp_iadd X (pc := 6) dJx4a65c_clear_da8c8_6 ?_
  refine sp_putI X (pc := 7) (c := 0) (i := 0) (q := 0) (a := o) rfl (by first | assumption | omega) (by decide) rfl rfl (Or.inl rfl) ⟨rfl, rfl⟩ fl_List_63 dJx4a65c_clear_da8c8_7 ?_
  refine sp_aload_n X (pc := 10) (r := some o) dJx4a65c_clear_da8c8_10 rfl rfl ?_
  refine sp_getfield X (pc := 11) (c := 0) (i := 1) (t := 2) (a := o) (v := va_rf (some ed)) rfl (by first | assumption | omega) (by decide) rfl (congrArg va_rf he) fl_List_9 dJx4a65c_clear_da8c8_11 ?_
  refine sp_astore_n X (pc := 14) (lv' := [(1, false, va_rf (some ed)), (0, false, va_rf (some o))]) dJx4a65c_clear_da8c8_14 rfl (by decide) rfl ?_
  refine sp_aload_n X (pc := 15) (r := some o) dJx4a65c_clear_da8c8_15 rfl rfl ?_
  refine sp_getfield X (pc := 16) (c := 0) (i := 2) (t := 0) (a := o) (v := .int (nI s)) rfl (by first | assumption | omega) (by decide) rfl (congrArg Value.int hs) fl_List_48 dJx4a65c_clear_da8c8_16 ?_
  refine sp_istore_n X (pc := 19) (lv' := [(2, false, .int (nI s)), (1, false, va_rf (some ed)), (0, false, va_rf (some o))]) dJx4a65c_clear_da8c8_19 rfl (by decide) rfl ?_
  refine sp_aload_n X (pc := 20) (r := some o) dJx4a65c_clear_da8c8_20 rfl rfl ?_
  refine sp_iconst X (pc := 21) (v := 0) dJx4a65c_clear_da8c8_21 (by decide) ?_
  refine sp_dup_x1 X (pc := 22) dJx4a65c_clear_da8c8_22 rfl (sp_cat_rf _) ?_
  refine sp_putI X (pc := 23) (c := 0) (i := 2) (q := 2) (a := o) rfl (by first | assumption | omega) (by decide) rfl rfl (Or.inl rfl) ⟨rfl, rfl⟩ fl_List_48 dJx4a65c_clear_da8c8_23 ?_
  rw [hm1]
  refine sp_istore_n X (pc := 26) (lv' := [(3, false, .int 0), (2, false, .int (nI s)), (1, false, va_rf (some ed)), (0, false, va_rf (some o))]) dJx4a65c_clear_da8c8_26 rfl (by decide) rfl ?_
  have loop27 : ∀ (d : Nat) (i : Nat), i ≤ s → s - i = d → w 0 0 (m1.wR ed (fun j => if j < i then none else m.aR ed j)) 27 [(0, false, va_rf (some o)), (1, false, va_rf (some ed)), (2, false, .int (nI s)), (3, false, .int (nI i))] [] := by
    intro d
    induction d using Nat.strongRecOn with
    | ind d ih =>
      intro i hi0 hd
      refine sp_iload_n X (pc := 27) (x := nI i) dJx4a65c_clear_da8c8_27 rfl rfl ?_
      refine sp_iload_n X (pc := 28) (x := nI s) dJx4a65c_clear_da8c8_28 rfl rfl ?_
      refine sp_icmp_ge X (pc := 29) (tgt := 42) dJx4a65c_clear_da8c8_29 (by decide) (fun hb29 => ?_) (fun hb29 => ?_)
      · have hi : i = s := by have := Nat.lt_or_ge i s; rcases this with q | q; exact absurd hb29 (nI_ge q (by omega)); omega
        refine sp_return X (pc := 42) dJx4a65c_clear_da8c8_42 ⟨rfl, ?_⟩
        rw [hi, hm1]
      · have hi : i < s := Nat.lt_of_not_le fun q => hb29 (nI_le q (by omega))
        refine sp_aload_n X (pc := 32) (r := some ed) dJx4a65c_clear_da8c8_32 rfl rfl ?_
        refine sp_iload_n X (pc := 33) (x := nI i) dJx4a65c_clear_da8c8_33 rfl rfl ?_
        refine sp_null X (pc := 34) dJx4a65c_clear_da8c8_34 ?_
        refine sp_aastore X (pc := 35) (a := ed) rfl (by show m1.ty ed = 23; rw [hty]; omega) (vp_in_nI (by show i < m1.ln ed; rw [hl1]; omega) (by show m1.ln ed < _; rw [hl1]; omega)) (fun z hz => by cases hz) dJx4a65c_clear_da8c8_35 ?_
        rw [show (nI i).toNatClampNeg = i from nI_clamp (by omega)]
        refine sp_iinc X (pc := 36) (v := nI (i + 1)) (lv' := [(3, false, .int (nI (i + 1))), (0, false, va_rf (some o)), (1, false, va_rf (some ed)), (2, false, .int (nI s))]) dJx4a65c_clear_da8c8_36 rfl (nI_1 i) (by decide) rfl ?_
        refine sp_goto X (pc := 39) (tgt := 27) dJx4a65c_clear_da8c8_39 (by decide) ?_
        refine sp_pick X [1, 2, 3, 0] (lv' := [(0, false, va_rf (some o)), (1, false, va_rf (some ed)), (2, false, .int (nI s)), (3, false, .int (nI (i + 1)))]) rfl ?_
        rw [sp_wR_sR]
        have hz := ih (s - (i + 1)) (by omega) (i + 1) (by omega) rfl
        rw [show (fun j => if j < i + 1 then none else m.aR ed j) = (fun j => if j = i then none else if j < i then none else m.aR ed j) by
          funext j
          by_cases q : j = i
          · rw [if_pos q, if_pos (by omega)]
          · rw [if_neg q]
            by_cases q2 : j < i
            · rw [if_pos q2, if_pos (by omega)]
            · rw [if_neg q2, if_neg (by omega)]] at hz
        exact hz
  refine sp_pick X [3, 2, 1, 0] (lv' := [(0, false, va_rf (some o)), (1, false, va_rf (some ed)), (2, false, .int (nI s)), (3, false, .int 0)]) rfl ?_
  have hz := loop27 _ 0 (Nat.zero_le _) rfl
  rw [sp_wR_id m1 ed _ (fun j => by rw [if_neg (by omega), haR])] at hz
  exact hz
end
section
theorem sp_zz : True := trivial
end
