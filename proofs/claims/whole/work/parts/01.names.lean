-- ===== PART A: goes FIRST, ahead of the names: the tables' words, and 'selects' of the private methods out of them =====
/-- a private method of a class that the tables say can be made, by its rows of tables_1 -/
def lw_okq (q : MethodName × Nat) : Prop := (q.1.cls ≠ "java/lang/invoke/MethodHandle" ∧ q.1.cls ≠ "java/lang/invoke/VarHandle") ∧ Cond.instantiable q.1.cls q.2 ∈ tables_1 ∧ Cond.privateMethod q.1 ∈ tables_1 ∧ Cond.instanceMethod q.1 ∈ tables_1
theorem lw_p0 : lw_okq (⟨"LateMirror$Reader", "nextToken", "()V"⟩, 19) := ⟨⟨by decide +kernel, by decide +kernel⟩, List.mem_of_getElem? (i := 32) (by decide +kernel), List.mem_of_getElem? (i := 500) (by decide +kernel), List.mem_of_getElem? (i := 501) (by decide +kernel)⟩
theorem lw_p1 : lw_okq (⟨"LateMirror$Reader", "readWord", "()V"⟩, 19) := ⟨⟨by decide +kernel, by decide +kernel⟩, List.mem_of_getElem? (i := 32) (by decide +kernel), List.mem_of_getElem? (i := 507) (by decide +kernel), List.mem_of_getElem? (i := 508) (by decide +kernel)⟩
theorem lw_p2 : lw_okq (⟨"LateMirror$Reader", "readDigits", "()V"⟩, 19) := ⟨⟨by decide +kernel, by decide +kernel⟩, List.mem_of_getElem? (i := 32) (by decide +kernel), List.mem_of_getElem? (i := 514) (by decide +kernel), List.mem_of_getElem? (i := 515) (by decide +kernel)⟩
theorem lw_p3 : lw_okq (⟨"LateMirror$Reader", "isWord", "(Ljava/lang/String;)Z"⟩, 19) := ⟨⟨by decide +kernel, by decide +kernel⟩, List.mem_of_getElem? (i := 32) (by decide +kernel), List.mem_of_getElem? (i := 607) (by decide +kernel), List.mem_of_getElem? (i := 608) (by decide +kernel)⟩
theorem lw_p4 : lw_okq (⟨"LateMirror$Reader", "readDeep", "()Z"⟩, 19) := ⟨⟨by decide +kernel, by decide +kernel⟩, List.mem_of_getElem? (i := 32) (by decide +kernel), List.mem_of_getElem? (i := 632) (by decide +kernel), List.mem_of_getElem? (i := 633) (by decide +kernel)⟩
theorem lw_p5 : lw_okq (⟨"LateMirror$Reader", "faultHere", "(I)Z"⟩, 19) := ⟨⟨by decide +kernel, by decide +kernel⟩, List.mem_of_getElem? (i := 32) (by decide +kernel), List.mem_of_getElem? (i := 636) (by decide +kernel), List.mem_of_getElem? (i := 637) (by decide +kernel)⟩
theorem lw_p6 : lw_okq (⟨"LateMirror$Reader", "isNumberIn", "(II)Z"⟩, 19) := ⟨⟨by decide +kernel, by decide +kernel⟩, List.mem_of_getElem? (i := 32) (by decide +kernel), List.mem_of_getElem? (i := 640) (by decide +kernel), List.mem_of_getElem? (i := 641) (by decide +kernel)⟩
theorem lw_p7 : lw_okq (⟨"LateMirror$Reader", "refuse", "()Z"⟩, 19) := ⟨⟨by decide +kernel, by decide +kernel⟩, List.mem_of_getElem? (i := 32) (by decide +kernel), List.mem_of_getElem? (i := 644) (by decide +kernel), List.mem_of_getElem? (i := 645) (by decide +kernel)⟩
theorem lw_p8 : lw_okq (⟨"LateMirror$Reader", "readPerson", "()Z"⟩, 19) := ⟨⟨by decide +kernel, by decide +kernel⟩, List.mem_of_getElem? (i := 32) (by decide +kernel), List.mem_of_getElem? (i := 649) (by decide +kernel), List.mem_of_getElem? (i := 650) (by decide +kernel)⟩
theorem lw_p9 : lw_okq (⟨"LateMirror$Reader", "readThing", "()Z"⟩, 19) := ⟨⟨by decide +kernel, by decide +kernel⟩, List.mem_of_getElem? (i := 32) (by decide +kernel), List.mem_of_getElem? (i := 659) (by decide +kernel), List.mem_of_getElem? (i := 660) (by decide +kernel)⟩
theorem lw_p10 : lw_okq (⟨"LateMirror$Reader", "readRule", "()Z"⟩, 19) := ⟨⟨by decide +kernel, by decide +kernel⟩, List.mem_of_getElem? (i := 32) (by decide +kernel), List.mem_of_getElem? (i := 669) (by decide +kernel), List.mem_of_getElem? (i := 670) (by decide +kernel)⟩
theorem lw_p11 : lw_okq (⟨"LateMirror$Reader", "passSign", "(C)Z"⟩, 19) := ⟨⟨by decide +kernel, by decide +kernel⟩, List.mem_of_getElem? (i := 32) (by decide +kernel), List.mem_of_getElem? (i := 673) (by decide +kernel), List.mem_of_getElem? (i := 674) (by decide +kernel)⟩
theorem lw_p12 : lw_okq (⟨"LateMirror$Reader", "isSign", "(C)Z"⟩, 19) := ⟨⟨by decide +kernel, by decide +kernel⟩, List.mem_of_getElem? (i := 32) (by decide +kernel), List.mem_of_getElem? (i := 677) (by decide +kernel), List.mem_of_getElem? (i := 678) (by decide +kernel)⟩
theorem lw_p13 : lw_okq (⟨"LateMirror$Reader", "readTruth", "()Z"⟩, 19) := ⟨⟨by decide +kernel, by decide +kernel⟩, List.mem_of_getElem? (i := 32) (by decide +kernel), List.mem_of_getElem? (i := 681) (by decide +kernel), List.mem_of_getElem? (i := 682) (by decide +kernel)⟩
theorem lw_p14 : lw_okq (⟨"LateMirror$Reader", "startUnit", "()V"⟩, 19) := ⟨⟨by decide +kernel, by decide +kernel⟩, List.mem_of_getElem? (i := 32) (by decide +kernel), List.mem_of_getElem? (i := 685) (by decide +kernel), List.mem_of_getElem? (i := 686) (by decide +kernel)⟩
theorem lw_p15 : lw_okq (⟨"LateMirror$Reader", "isUnitWhole", "()Z"⟩, 19) := ⟨⟨by decide +kernel, by decide +kernel⟩, List.mem_of_getElem? (i := 32) (by decide +kernel), List.mem_of_getElem? (i := 690) (by decide +kernel), List.mem_of_getElem? (i := 691) (by decide +kernel)⟩
def lw_privs_1 : List (MethodName × Nat) := [(⟨"LateMirror$Reader", "nextToken", "()V"⟩, 19), (⟨"LateMirror$Reader", "readWord", "()V"⟩, 19), (⟨"LateMirror$Reader", "readDigits", "()V"⟩, 19), (⟨"LateMirror$Reader", "isWord", "(Ljava/lang/String;)Z"⟩, 19), (⟨"LateMirror$Reader", "readDeep", "()Z"⟩, 19), (⟨"LateMirror$Reader", "faultHere", "(I)Z"⟩, 19), (⟨"LateMirror$Reader", "isNumberIn", "(II)Z"⟩, 19), (⟨"LateMirror$Reader", "refuse", "()Z"⟩, 19), (⟨"LateMirror$Reader", "readPerson", "()Z"⟩, 19), (⟨"LateMirror$Reader", "readThing", "()Z"⟩, 19), (⟨"LateMirror$Reader", "readRule", "()Z"⟩, 19), (⟨"LateMirror$Reader", "passSign", "(C)Z"⟩, 19), (⟨"LateMirror$Reader", "isSign", "(C)Z"⟩, 19), (⟨"LateMirror$Reader", "readTruth", "()Z"⟩, 19), (⟨"LateMirror$Reader", "startUnit", "()V"⟩, 19), (⟨"LateMirror$Reader", "isUnitWhole", "()Z"⟩, 19)]
theorem lw_r1 : ∀ q ∈ lw_privs_1, lw_okq q := List.forall_mem_cons.mpr ⟨lw_p0, List.forall_mem_cons.mpr ⟨lw_p1, List.forall_mem_cons.mpr ⟨lw_p2, List.forall_mem_cons.mpr ⟨lw_p3, List.forall_mem_cons.mpr ⟨lw_p4, List.forall_mem_cons.mpr ⟨lw_p5, List.forall_mem_cons.mpr ⟨lw_p6, List.forall_mem_cons.mpr ⟨lw_p7, List.forall_mem_cons.mpr ⟨lw_p8, List.forall_mem_cons.mpr ⟨lw_p9, List.forall_mem_cons.mpr ⟨lw_p10, List.forall_mem_cons.mpr ⟨lw_p11, List.forall_mem_cons.mpr ⟨lw_p12, List.forall_mem_cons.mpr ⟨lw_p13, List.forall_mem_cons.mpr ⟨lw_p14, List.forall_mem_cons.mpr ⟨lw_p15, fun _ h => absurd h List.not_mem_nil⟩⟩⟩⟩⟩⟩⟩⟩⟩⟩⟩⟩⟩⟩⟩⟩
theorem lw_p16 : lw_okq (⟨"LateMirror$Reader", "release", "(I)V"⟩, 19) := ⟨⟨by decide +kernel, by decide +kernel⟩, List.mem_of_getElem? (i := 32) (by decide +kernel), List.mem_of_getElem? (i := 694) (by decide +kernel), List.mem_of_getElem? (i := 695) (by decide +kernel)⟩
theorem lw_p17 : lw_okq (⟨"LateMirror$Reader", "settleTop", "()V"⟩, 19) := ⟨⟨by decide +kernel, by decide +kernel⟩, List.mem_of_getElem? (i := 32) (by decide +kernel), List.mem_of_getElem? (i := 698) (by decide +kernel), List.mem_of_getElem? (i := 699) (by decide +kernel)⟩
theorem lw_p18 : lw_okq (⟨"LateMirror$Reader", "readOperand", "()Z"⟩, 19) := ⟨⟨by decide +kernel, by decide +kernel⟩, List.mem_of_getElem? (i := 32) (by decide +kernel), List.mem_of_getElem? (i := 706) (by decide +kernel), List.mem_of_getElem? (i := 707) (by decide +kernel)⟩
theorem lw_p19 : lw_okq (⟨"LateMirror$Reader", "goWithin", "(I)Z"⟩, 19) := ⟨⟨by decide +kernel, by decide +kernel⟩, List.mem_of_getElem? (i := 32) (by decide +kernel), List.mem_of_getElem? (i := 710) (by decide +kernel), List.mem_of_getElem? (i := 711) (by decide +kernel)⟩
theorem lw_p20 : lw_okq (⟨"LateMirror$Reader", "hold", "(I)V"⟩, 19) := ⟨⟨by decide +kernel, by decide +kernel⟩, List.mem_of_getElem? (i := 32) (by decide +kernel), List.mem_of_getElem? (i := 714) (by decide +kernel), List.mem_of_getElem? (i := 715) (by decide +kernel)⟩
theorem lw_p21 : lw_okq (⟨"LateMirror$Reader", "nameOfWord", "()I"⟩, 19) := ⟨⟨by decide +kernel, by decide +kernel⟩, List.mem_of_getElem? (i := 32) (by decide +kernel), List.mem_of_getElem? (i := 719) (by decide +kernel), List.mem_of_getElem? (i := 720) (by decide +kernel)⟩
theorem lw_p22 : lw_okq (⟨"LateMirror$Reader", "readSumSign", "()Z"⟩, 19) := ⟨⟨by decide +kernel, by decide +kernel⟩, List.mem_of_getElem? (i := 32) (by decide +kernel), List.mem_of_getElem? (i := 728) (by decide +kernel), List.mem_of_getElem? (i := 729) (by decide +kernel)⟩
theorem lw_p23 : lw_okq (⟨"LateMirror$Reader", "signOfByte", "()I"⟩, 19) := ⟨⟨by decide +kernel, by decide +kernel⟩, List.mem_of_getElem? (i := 32) (by decide +kernel), List.mem_of_getElem? (i := 732) (by decide +kernel), List.mem_of_getElem? (i := 733) (by decide +kernel)⟩
theorem lw_p24 : lw_okq (⟨"LateMirror$Reader", "join", "(I)V"⟩, 19) := ⟨⟨by decide +kernel, by decide +kernel⟩, List.mem_of_getElem? (i := 32) (by decide +kernel), List.mem_of_getElem? (i := 736) (by decide +kernel), List.mem_of_getElem? (i := 737) (by decide +kernel)⟩
theorem lw_p25 : lw_okq (⟨"LateMirror$Reader", "readTruthSign", "()Z"⟩, 19) := ⟨⟨by decide +kernel, by decide +kernel⟩, List.mem_of_getElem? (i := 32) (by decide +kernel), List.mem_of_getElem? (i := 743) (by decide +kernel), List.mem_of_getElem? (i := 744) (by decide +kernel)⟩
theorem lw_p26 : lw_okq (⟨"LateMirror$Reader", "doingOfWord", "()I"⟩, 19) := ⟨⟨by decide +kernel, by decide +kernel⟩, List.mem_of_getElem? (i := 32) (by decide +kernel), List.mem_of_getElem? (i := 749) (by decide +kernel), List.mem_of_getElem? (i := 750) (by decide +kernel)⟩
theorem lw_p27 : lw_okq (⟨"LateMirror$Reader", "readMiss", "()Z"⟩, 19) := ⟨⟨by decide +kernel, by decide +kernel⟩, List.mem_of_getElem? (i := 32) (by decide +kernel), List.mem_of_getElem? (i := 767) (by decide +kernel), List.mem_of_getElem? (i := 768) (by decide +kernel)⟩
theorem lw_p28 : lw_okq (⟨"LateMirror", "isPerson", "(I)Z"⟩, 13) := ⟨⟨by decide +kernel, by decide +kernel⟩, List.mem_of_getElem? (i := 24) (by decide +kernel), List.mem_of_getElem? (i := 795) (by decide +kernel), List.mem_of_getElem? (i := 796) (by decide +kernel)⟩
theorem lw_p29 : lw_okq (⟨"LateMirror", "isThing", "(I)Z"⟩, 13) := ⟨⟨by decide +kernel, by decide +kernel⟩, List.mem_of_getElem? (i := 24) (by decide +kernel), List.mem_of_getElem? (i := 815) (by decide +kernel), List.mem_of_getElem? (i := 816) (by decide +kernel)⟩
theorem lw_p30 : lw_okq (⟨"LateMirror$Stage", "chosen", "([IIIII)I"⟩, 8) := ⟨⟨by decide +kernel, by decide +kernel⟩, List.mem_of_getElem? (i := 181) (by decide +kernel), List.mem_of_getElem? (i := 862) (by decide +kernel), List.mem_of_getElem? (i := 863) (by decide +kernel)⟩
theorem lw_p31 : lw_okq (⟨"LateMirror$Stage", "holds", "([III)I"⟩, 8) := ⟨⟨by decide +kernel, by decide +kernel⟩, List.mem_of_getElem? (i := 181) (by decide +kernel), List.mem_of_getElem? (i := 866) (by decide +kernel), List.mem_of_getElem? (i := 867) (by decide +kernel)⟩
def lw_privs_2 : List (MethodName × Nat) := [(⟨"LateMirror$Reader", "release", "(I)V"⟩, 19), (⟨"LateMirror$Reader", "settleTop", "()V"⟩, 19), (⟨"LateMirror$Reader", "readOperand", "()Z"⟩, 19), (⟨"LateMirror$Reader", "goWithin", "(I)Z"⟩, 19), (⟨"LateMirror$Reader", "hold", "(I)V"⟩, 19), (⟨"LateMirror$Reader", "nameOfWord", "()I"⟩, 19), (⟨"LateMirror$Reader", "readSumSign", "()Z"⟩, 19), (⟨"LateMirror$Reader", "signOfByte", "()I"⟩, 19), (⟨"LateMirror$Reader", "join", "(I)V"⟩, 19), (⟨"LateMirror$Reader", "readTruthSign", "()Z"⟩, 19), (⟨"LateMirror$Reader", "doingOfWord", "()I"⟩, 19), (⟨"LateMirror$Reader", "readMiss", "()Z"⟩, 19), (⟨"LateMirror", "isPerson", "(I)Z"⟩, 13), (⟨"LateMirror", "isThing", "(I)Z"⟩, 13), (⟨"LateMirror$Stage", "chosen", "([IIIII)I"⟩, 8), (⟨"LateMirror$Stage", "holds", "([III)I"⟩, 8)]
theorem lw_r2 : ∀ q ∈ lw_privs_2, lw_okq q := List.forall_mem_cons.mpr ⟨lw_p16, List.forall_mem_cons.mpr ⟨lw_p17, List.forall_mem_cons.mpr ⟨lw_p18, List.forall_mem_cons.mpr ⟨lw_p19, List.forall_mem_cons.mpr ⟨lw_p20, List.forall_mem_cons.mpr ⟨lw_p21, List.forall_mem_cons.mpr ⟨lw_p22, List.forall_mem_cons.mpr ⟨lw_p23, List.forall_mem_cons.mpr ⟨lw_p24, List.forall_mem_cons.mpr ⟨lw_p25, List.forall_mem_cons.mpr ⟨lw_p26, List.forall_mem_cons.mpr ⟨lw_p27, List.forall_mem_cons.mpr ⟨lw_p28, List.forall_mem_cons.mpr ⟨lw_p29, List.forall_mem_cons.mpr ⟨lw_p30, List.forall_mem_cons.mpr ⟨lw_p31, fun _ h => absurd h List.not_mem_nil⟩⟩⟩⟩⟩⟩⟩⟩⟩⟩⟩⟩⟩⟩⟩⟩
theorem lw_p32 : lw_okq (⟨"LateMirror$Stage", "isTrue", "(I)Z"⟩, 8) := ⟨⟨by decide +kernel, by decide +kernel⟩, List.mem_of_getElem? (i := 181) (by decide +kernel), List.mem_of_getElem? (i := 870) (by decide +kernel), List.mem_of_getElem? (i := 871) (by decide +kernel)⟩
theorem lw_p33 : lw_okq (⟨"LateMirror$Stage", "act", "([III)I"⟩, 8) := ⟨⟨by decide +kernel, by decide +kernel⟩, List.mem_of_getElem? (i := 181) (by decide +kernel), List.mem_of_getElem? (i := 907) (by decide +kernel), List.mem_of_getElem? (i := 908) (by decide +kernel)⟩
theorem lw_p34 : lw_okq (⟨"LateMirror$Stage", "carry", "([III)V"⟩, 8) := ⟨⟨by decide +kernel, by decide +kernel⟩, List.mem_of_getElem? (i := 181) (by decide +kernel), List.mem_of_getElem? (i := 912) (by decide +kernel), List.mem_of_getElem? (i := 913) (by decide +kernel)⟩
theorem lw_p35 : lw_okq (⟨"LateMirror$Stage", "passThings", "([I)I"⟩, 8) := ⟨⟨by decide +kernel, by decide +kernel⟩, List.mem_of_getElem? (i := 181) (by decide +kernel), List.mem_of_getElem? (i := 916) (by decide +kernel), List.mem_of_getElem? (i := 917) (by decide +kernel)⟩
theorem lw_p36 : lw_okq (⟨"LateMirror$Stage", "passWithFirst", "([IIII)I"⟩, 8) := ⟨⟨by decide +kernel, by decide +kernel⟩, List.mem_of_getElem? (i := 181) (by decide +kernel), List.mem_of_getElem? (i := 920) (by decide +kernel), List.mem_of_getElem? (i := 921) (by decide +kernel)⟩
theorem lw_p37 : lw_okq (⟨"LateMirror", "tryHours", "(I)V"⟩, 13) := ⟨⟨by decide +kernel, by decide +kernel⟩, List.mem_of_getElem? (i := 24) (by decide +kernel), List.mem_of_getElem? (i := 949) (by decide +kernel), List.mem_of_getElem? (i := 950) (by decide +kernel)⟩
theorem lw_p38 : lw_okq (⟨"LateMirror$Stage", "noteFailures", "([I)V"⟩, 8) := ⟨⟨by decide +kernel, by decide +kernel⟩, List.mem_of_getElem? (i := 181) (by decide +kernel), List.mem_of_getElem? (i := 970) (by decide +kernel), List.mem_of_getElem? (i := 971) (by decide +kernel)⟩
theorem lw_p39 : lw_okq (⟨"LateMirror", "hoursRefusal", "(II)I"⟩, 13) := ⟨⟨by decide +kernel, by decide +kernel⟩, List.mem_of_getElem? (i := 24) (by decide +kernel), List.mem_of_getElem? (i := 999) (by decide +kernel), List.mem_of_getElem? (i := 1000) (by decide +kernel)⟩
theorem lw_p40 : lw_okq (⟨"LateMirror", "isPlace", "(I)Z"⟩, 13) := ⟨⟨by decide +kernel, by decide +kernel⟩, List.mem_of_getElem? (i := 24) (by decide +kernel), List.mem_of_getElem? (i := 1021) (by decide +kernel), List.mem_of_getElem? (i := 1022) (by decide +kernel)⟩
theorem lw_p41 : lw_okq (⟨"LateMirror", "isCell", "(J)Z"⟩, 13) := ⟨⟨by decide +kernel, by decide +kernel⟩, List.mem_of_getElem? (i := 24) (by decide +kernel), List.mem_of_getElem? (i := 1025) (by decide +kernel), List.mem_of_getElem? (i := 1026) (by decide +kernel)⟩
theorem lw_p42 : lw_okq (⟨"LateMirror$Seeker", "isSought", "([II)Z"⟩, 10) := ⟨⟨by decide +kernel, by decide +kernel⟩, List.mem_of_getElem? (i := 256) (by decide +kernel), List.mem_of_getElem? (i := 1034) (by decide +kernel), List.mem_of_getElem? (i := 1035) (by decide +kernel)⟩
theorem lw_p43 : lw_okq (⟨"LateMirror$Seeker", "isFoundBehind", "(II)Z"⟩, 10) := ⟨⟨by decide +kernel, by decide +kernel⟩, List.mem_of_getElem? (i := 256) (by decide +kernel), List.mem_of_getElem? (i := 1038) (by decide +kernel), List.mem_of_getElem? (i := 1039) (by decide +kernel)⟩
theorem lw_p44 : lw_okq (⟨"LateMirror$Seeker", "cellsFrom", "(II)I"⟩, 10) := ⟨⟨by decide +kernel, by decide +kernel⟩, List.mem_of_getElem? (i := 256) (by decide +kernel), List.mem_of_getElem? (i := 1061) (by decide +kernel), List.mem_of_getElem? (i := 1062) (by decide +kernel)⟩
theorem lw_p45 : lw_okq (⟨"LateMirror", "seenRefusal", "(I)I"⟩, 13) := ⟨⟨by decide +kernel, by decide +kernel⟩, List.mem_of_getElem? (i := 24) (by decide +kernel), List.mem_of_getElem? (i := 1075) (by decide +kernel), List.mem_of_getElem? (i := 1076) (by decide +kernel)⟩
theorem lw_p46 : lw_okq (⟨"LateMirror$Laws", "learnFor", "(I)V"⟩, 12) := ⟨⟨by decide +kernel, by decide +kernel⟩, List.mem_of_getElem? (i := 346) (by decide +kernel), List.mem_of_getElem? (i := 1087) (by decide +kernel), List.mem_of_getElem? (i := 1088) (by decide +kernel)⟩
theorem lw_p47 : lw_okq (⟨"LateMirror$Laws", "doingAt", "(II)I"⟩, 12) := ⟨⟨by decide +kernel, by decide +kernel⟩, List.mem_of_getElem? (i := 346) (by decide +kernel), List.mem_of_getElem? (i := 1091) (by decide +kernel), List.mem_of_getElem? (i := 1092) (by decide +kernel)⟩
def lw_privs_3 : List (MethodName × Nat) := [(⟨"LateMirror$Stage", "isTrue", "(I)Z"⟩, 8), (⟨"LateMirror$Stage", "act", "([III)I"⟩, 8), (⟨"LateMirror$Stage", "carry", "([III)V"⟩, 8), (⟨"LateMirror$Stage", "passThings", "([I)I"⟩, 8), (⟨"LateMirror$Stage", "passWithFirst", "([IIII)I"⟩, 8), (⟨"LateMirror", "tryHours", "(I)V"⟩, 13), (⟨"LateMirror$Stage", "noteFailures", "([I)V"⟩, 8), (⟨"LateMirror", "hoursRefusal", "(II)I"⟩, 13), (⟨"LateMirror", "isPlace", "(I)Z"⟩, 13), (⟨"LateMirror", "isCell", "(J)Z"⟩, 13), (⟨"LateMirror$Seeker", "isSought", "([II)Z"⟩, 10), (⟨"LateMirror$Seeker", "isFoundBehind", "(II)Z"⟩, 10), (⟨"LateMirror$Seeker", "cellsFrom", "(II)I"⟩, 10), (⟨"LateMirror", "seenRefusal", "(I)I"⟩, 13), (⟨"LateMirror$Laws", "learnFor", "(I)V"⟩, 12), (⟨"LateMirror$Laws", "doingAt", "(II)I"⟩, 12)]
theorem lw_r3 : ∀ q ∈ lw_privs_3, lw_okq q := List.forall_mem_cons.mpr ⟨lw_p32, List.forall_mem_cons.mpr ⟨lw_p33, List.forall_mem_cons.mpr ⟨lw_p34, List.forall_mem_cons.mpr ⟨lw_p35, List.forall_mem_cons.mpr ⟨lw_p36, List.forall_mem_cons.mpr ⟨lw_p37, List.forall_mem_cons.mpr ⟨lw_p38, List.forall_mem_cons.mpr ⟨lw_p39, List.forall_mem_cons.mpr ⟨lw_p40, List.forall_mem_cons.mpr ⟨lw_p41, List.forall_mem_cons.mpr ⟨lw_p42, List.forall_mem_cons.mpr ⟨lw_p43, List.forall_mem_cons.mpr ⟨lw_p44, List.forall_mem_cons.mpr ⟨lw_p45, List.forall_mem_cons.mpr ⟨lw_p46, List.forall_mem_cons.mpr ⟨lw_p47, fun _ h => absurd h List.not_mem_nil⟩⟩⟩⟩⟩⟩⟩⟩⟩⟩⟩⟩⟩⟩⟩⟩
theorem lw_p48 : lw_okq (⟨"LateMirror$Laws", "openLaws", "(I)I"⟩, 12) := ⟨⟨by decide +kernel, by decide +kernel⟩, List.mem_of_getElem? (i := 346) (by decide +kernel), List.mem_of_getElem? (i := 1100) (by decide +kernel), List.mem_of_getElem? (i := 1101) (by decide +kernel)⟩
theorem lw_p49 : lw_okq (⟨"LateMirror$Laws", "mostLeftTogether", "(I)I"⟩, 12) := ⟨⟨by decide +kernel, by decide +kernel⟩, List.mem_of_getElem? (i := 346) (by decide +kernel), List.mem_of_getElem? (i := 1134) (by decide +kernel), List.mem_of_getElem? (i := 1135) (by decide +kernel)⟩
theorem lw_p50 : lw_okq (⟨"LateMirror$Laws", "partLaws", "(I)V"⟩, 12) := ⟨⟨by decide +kernel, by decide +kernel⟩, List.mem_of_getElem? (i := 346) (by decide +kernel), List.mem_of_getElem? (i := 1138) (by decide +kernel), List.mem_of_getElem? (i := 1139) (by decide +kernel)⟩
theorem lw_p51 : lw_okq (⟨"LateMirror$Laws", "keyOf", "(I)I"⟩, 12) := ⟨⟨by decide +kernel, by decide +kernel⟩, List.mem_of_getElem? (i := 346) (by decide +kernel), List.mem_of_getElem? (i := 1142) (by decide +kernel), List.mem_of_getElem? (i := 1143) (by decide +kernel)⟩
theorem lw_p52 : lw_okq (⟨"LateMirror$Laws", "addPart", "(II)V"⟩, 12) := ⟨⟨by decide +kernel, by decide +kernel⟩, List.mem_of_getElem? (i := 346) (by decide +kernel), List.mem_of_getElem? (i := 1146) (by decide +kernel), List.mem_of_getElem? (i := 1147) (by decide +kernel)⟩
theorem lw_p53 : lw_okq (⟨"LateMirror", "meantRefusal", "(II)I"⟩, 13) := ⟨⟨by decide +kernel, by decide +kernel⟩, List.mem_of_getElem? (i := 24) (by decide +kernel), List.mem_of_getElem? (i := 1155) (by decide +kernel), List.mem_of_getElem? (i := 1156) (by decide +kernel)⟩
theorem lw_p54 : lw_okq (⟨"LateMirror$Guess", "findFrom", "(II)V"⟩, 13) := ⟨⟨by decide +kernel, by decide +kernel⟩, List.mem_of_getElem? (i := 296) (by decide +kernel), List.mem_of_getElem? (i := 1173) (by decide +kernel), List.mem_of_getElem? (i := 1174) (by decide +kernel)⟩
theorem lw_p55 : lw_okq (⟨"LateMirror$Guess", "takeAllFrom", "(II)V"⟩, 13) := ⟨⟨by decide +kernel, by decide +kernel⟩, List.mem_of_getElem? (i := 296) (by decide +kernel), List.mem_of_getElem? (i := 1177) (by decide +kernel), List.mem_of_getElem? (i := 1178) (by decide +kernel)⟩
theorem lw_p56 : lw_okq (⟨"LateMirror$Guess", "findLast", "(II)V"⟩, 13) := ⟨⟨by decide +kernel, by decide +kernel⟩, List.mem_of_getElem? (i := 296) (by decide +kernel), List.mem_of_getElem? (i := 1182) (by decide +kernel), List.mem_of_getElem? (i := 1183) (by decide +kernel)⟩
theorem lw_p57 : lw_okq (⟨"LateMirror$Guess", "spreadWeights", "(I)V"⟩, 13) := ⟨⟨by decide +kernel, by decide +kernel⟩, List.mem_of_getElem? (i := 296) (by decide +kernel), List.mem_of_getElem? (i := 1208) (by decide +kernel), List.mem_of_getElem? (i := 1209) (by decide +kernel)⟩
theorem lw_p58 : lw_okq (⟨"LateMirror$Game", "leastWinning", "(II)I"⟩, 4) := ⟨⟨by decide +kernel, by decide +kernel⟩, List.mem_of_getElem? (i := 393) (by decide +kernel), List.mem_of_getElem? (i := 1226) (by decide +kernel), List.mem_of_getElem? (i := 1227) (by decide +kernel)⟩
theorem lw_p59 : lw_okq (⟨"LateMirror$Game", "isWinning", "(III)Z"⟩, 4) := ⟨⟨by decide +kernel, by decide +kernel⟩, List.mem_of_getElem? (i := 393) (by decide +kernel), List.mem_of_getElem? (i := 1230) (by decide +kernel), List.mem_of_getElem? (i := 1231) (by decide +kernel)⟩
theorem lw_p60 : lw_okq (⟨"LateMirror", "areTwoPeople", "(II)Z"⟩, 13) := ⟨⟨by decide +kernel, by decide +kernel⟩, List.mem_of_getElem? (i := 24) (by decide +kernel), List.mem_of_getElem? (i := 1257) (by decide +kernel), List.mem_of_getElem? (i := 1258) (by decide +kernel)⟩
theorem lw_p61 : lw_okq (⟨"LateMirrorModel", "next", "()V"⟩, 51) := ⟨⟨by decide +kernel, by decide +kernel⟩, List.mem_of_getElem? (i := 1348) (by decide +kernel), List.mem_of_getElem? (i := 1524) (by decide +kernel), List.mem_of_getElem? (i := 1525) (by decide +kernel)⟩
theorem lw_p62 : lw_okq (⟨"LateMirrorModel", "see", "(I)I"⟩, 51) := ⟨⟨by decide +kernel, by decide +kernel⟩, List.mem_of_getElem? (i := 1348) (by decide +kernel), List.mem_of_getElem? (i := 1528) (by decide +kernel), List.mem_of_getElem? (i := 1529) (by decide +kernel)⟩
theorem lw_p63 : lw_okq (⟨"LateMirrorModel", "keyAt", "()I"⟩, 51) := ⟨⟨by decide +kernel, by decide +kernel⟩, List.mem_of_getElem? (i := 1348) (by decide +kernel), List.mem_of_getElem? (i := 1535) (by decide +kernel), List.mem_of_getElem? (i := 1536) (by decide +kernel)⟩
def lw_privs_4 : List (MethodName × Nat) := [(⟨"LateMirror$Laws", "openLaws", "(I)I"⟩, 12), (⟨"LateMirror$Laws", "mostLeftTogether", "(I)I"⟩, 12), (⟨"LateMirror$Laws", "partLaws", "(I)V"⟩, 12), (⟨"LateMirror$Laws", "keyOf", "(I)I"⟩, 12), (⟨"LateMirror$Laws", "addPart", "(II)V"⟩, 12), (⟨"LateMirror", "meantRefusal", "(II)I"⟩, 13), (⟨"LateMirror$Guess", "findFrom", "(II)V"⟩, 13), (⟨"LateMirror$Guess", "takeAllFrom", "(II)V"⟩, 13), (⟨"LateMirror$Guess", "findLast", "(II)V"⟩, 13), (⟨"LateMirror$Guess", "spreadWeights", "(I)V"⟩, 13), (⟨"LateMirror$Game", "leastWinning", "(II)I"⟩, 4), (⟨"LateMirror$Game", "isWinning", "(III)Z"⟩, 4), (⟨"LateMirror", "areTwoPeople", "(II)Z"⟩, 13), (⟨"LateMirrorModel", "next", "()V"⟩, 51), (⟨"LateMirrorModel", "see", "(I)I"⟩, 51), (⟨"LateMirrorModel", "keyAt", "()I"⟩, 51)]
theorem lw_r4 : ∀ q ∈ lw_privs_4, lw_okq q := List.forall_mem_cons.mpr ⟨lw_p48, List.forall_mem_cons.mpr ⟨lw_p49, List.forall_mem_cons.mpr ⟨lw_p50, List.forall_mem_cons.mpr ⟨lw_p51, List.forall_mem_cons.mpr ⟨lw_p52, List.forall_mem_cons.mpr ⟨lw_p53, List.forall_mem_cons.mpr ⟨lw_p54, List.forall_mem_cons.mpr ⟨lw_p55, List.forall_mem_cons.mpr ⟨lw_p56, List.forall_mem_cons.mpr ⟨lw_p57, List.forall_mem_cons.mpr ⟨lw_p58, List.forall_mem_cons.mpr ⟨lw_p59, List.forall_mem_cons.mpr ⟨lw_p60, List.forall_mem_cons.mpr ⟨lw_p61, List.forall_mem_cons.mpr ⟨lw_p62, List.forall_mem_cons.mpr ⟨lw_p63, fun _ h => absurd h List.not_mem_nil⟩⟩⟩⟩⟩⟩⟩⟩⟩⟩⟩⟩⟩⟩⟩⟩
theorem lw_p64 : lw_okq (⟨"LateMirrorModel", "is", "(I)Z"⟩, 51) := ⟨⟨by decide +kernel, by decide +kernel⟩, List.mem_of_getElem? (i := 1348) (by decide +kernel), List.mem_of_getElem? (i := 1546) (by decide +kernel), List.mem_of_getElem? (i := 1547) (by decide +kernel)⟩
theorem lw_p65 : lw_okq (⟨"LateMirrorModel", "takes", "(II)I"⟩, 51) := ⟨⟨by decide +kernel, by decide +kernel⟩, List.mem_of_getElem? (i := 1348) (by decide +kernel), List.mem_of_getElem? (i := 1550) (by decide +kernel), List.mem_of_getElem? (i := 1551) (by decide +kernel)⟩
theorem lw_p66 : lw_okq (⟨"LateMirrorModel", "fails", "(I)V"⟩, 51) := ⟨⟨by decide +kernel, by decide +kernel⟩, List.mem_of_getElem? (i := 1348) (by decide +kernel), List.mem_of_getElem? (i := 1554) (by decide +kernel), List.mem_of_getElem? (i := 1555) (by decide +kernel)⟩
theorem lw_p67 : lw_okq (⟨"LateMirrorModel", "readPerson", "()V"⟩, 51) := ⟨⟨by decide +kernel, by decide +kernel⟩, List.mem_of_getElem? (i := 1348) (by decide +kernel), List.mem_of_getElem? (i := 1558) (by decide +kernel), List.mem_of_getElem? (i := 1559) (by decide +kernel)⟩
theorem lw_p68 : lw_okq (⟨"LateMirrorModel", "eats", "(I)Z"⟩, 51) := ⟨⟨by decide +kernel, by decide +kernel⟩, List.mem_of_getElem? (i := 1348) (by decide +kernel), List.mem_of_getElem? (i := 1562) (by decide +kernel), List.mem_of_getElem? (i := 1563) (by decide +kernel)⟩
theorem lw_p69 : lw_okq (⟨"LateMirrorModel", "readThing", "()V"⟩, 51) := ⟨⟨by decide +kernel, by decide +kernel⟩, List.mem_of_getElem? (i := 1348) (by decide +kernel), List.mem_of_getElem? (i := 1566) (by decide +kernel), List.mem_of_getElem? (i := 1567) (by decide +kernel)⟩
theorem lw_p70 : lw_okq (⟨"LateMirrorModel", "readRule", "()V"⟩, 51) := ⟨⟨by decide +kernel, by decide +kernel⟩, List.mem_of_getElem? (i := 1348) (by decide +kernel), List.mem_of_getElem? (i := 1570) (by decide +kernel), List.mem_of_getElem? (i := 1571) (by decide +kernel)⟩
theorem lw_p71 : lw_okq (⟨"LateMirrorModel", "readTruth", "(I)V"⟩, 51) := ⟨⟨by decide +kernel, by decide +kernel⟩, List.mem_of_getElem? (i := 1348) (by decide +kernel), List.mem_of_getElem? (i := 1574) (by decide +kernel), List.mem_of_getElem? (i := 1575) (by decide +kernel)⟩
theorem lw_p72 : lw_okq (⟨"LateMirrorModel", "readBoth", "(I)V"⟩, 51) := ⟨⟨by decide +kernel, by decide +kernel⟩, List.mem_of_getElem? (i := 1348) (by decide +kernel), List.mem_of_getElem? (i := 1578) (by decide +kernel), List.mem_of_getElem? (i := 1579) (by decide +kernel)⟩
theorem lw_p73 : lw_okq (⟨"LateMirrorModel", "readUnit", "(I)V"⟩, 51) := ⟨⟨by decide +kernel, by decide +kernel⟩, List.mem_of_getElem? (i := 1348) (by decide +kernel), List.mem_of_getElem? (i := 1582) (by decide +kernel), List.mem_of_getElem? (i := 1583) (by decide +kernel)⟩
theorem lw_p74 : lw_okq (⟨"LateMirrorModel", "goesIn", "(I)Z"⟩, 51) := ⟨⟨by decide +kernel, by decide +kernel⟩, List.mem_of_getElem? (i := 1348) (by decide +kernel), List.mem_of_getElem? (i := 1586) (by decide +kernel), List.mem_of_getElem? (i := 1587) (by decide +kernel)⟩
theorem lw_p75 : lw_okq (⟨"LateMirrorModel", "codes", "(I)V"⟩, 51) := ⟨⟨by decide +kernel, by decide +kernel⟩, List.mem_of_getElem? (i := 1348) (by decide +kernel), List.mem_of_getElem? (i := 1590) (by decide +kernel), List.mem_of_getElem? (i := 1591) (by decide +kernel)⟩
theorem lw_p76 : lw_okq (⟨"LateMirrorModel", "readSum", "(I)V"⟩, 51) := ⟨⟨by decide +kernel, by decide +kernel⟩, List.mem_of_getElem? (i := 1348) (by decide +kernel), List.mem_of_getElem? (i := 1594) (by decide +kernel), List.mem_of_getElem? (i := 1595) (by decide +kernel)⟩
theorem lw_p77 : lw_okq (⟨"LateMirrorModel", "readTerm", "(I)V"⟩, 51) := ⟨⟨by decide +kernel, by decide +kernel⟩, List.mem_of_getElem? (i := 1348) (by decide +kernel), List.mem_of_getElem? (i := 1598) (by decide +kernel), List.mem_of_getElem? (i := 1599) (by decide +kernel)⟩
theorem lw_p78 : lw_okq (⟨"LateMirrorModel", "readAtom", "(I)V"⟩, 51) := ⟨⟨by decide +kernel, by decide +kernel⟩, List.mem_of_getElem? (i := 1348) (by decide +kernel), List.mem_of_getElem? (i := 1602) (by decide +kernel), List.mem_of_getElem? (i := 1603) (by decide +kernel)⟩
theorem lw_p79 : lw_okq (⟨"LateMirrorModel", "isPerson", "(I)Z"⟩, 51) := ⟨⟨by decide +kernel, by decide +kernel⟩, List.mem_of_getElem? (i := 1348) (by decide +kernel), List.mem_of_getElem? (i := 1617) (by decide +kernel), List.mem_of_getElem? (i := 1618) (by decide +kernel)⟩
def lw_privs_5 : List (MethodName × Nat) := [(⟨"LateMirrorModel", "is", "(I)Z"⟩, 51), (⟨"LateMirrorModel", "takes", "(II)I"⟩, 51), (⟨"LateMirrorModel", "fails", "(I)V"⟩, 51), (⟨"LateMirrorModel", "readPerson", "()V"⟩, 51), (⟨"LateMirrorModel", "eats", "(I)Z"⟩, 51), (⟨"LateMirrorModel", "readThing", "()V"⟩, 51), (⟨"LateMirrorModel", "readRule", "()V"⟩, 51), (⟨"LateMirrorModel", "readTruth", "(I)V"⟩, 51), (⟨"LateMirrorModel", "readBoth", "(I)V"⟩, 51), (⟨"LateMirrorModel", "readUnit", "(I)V"⟩, 51), (⟨"LateMirrorModel", "goesIn", "(I)Z"⟩, 51), (⟨"LateMirrorModel", "codes", "(I)V"⟩, 51), (⟨"LateMirrorModel", "readSum", "(I)V"⟩, 51), (⟨"LateMirrorModel", "readTerm", "(I)V"⟩, 51), (⟨"LateMirrorModel", "readAtom", "(I)V"⟩, 51), (⟨"LateMirrorModel", "isPerson", "(I)Z"⟩, 51)]
theorem lw_r5 : ∀ q ∈ lw_privs_5, lw_okq q := List.forall_mem_cons.mpr ⟨lw_p64, List.forall_mem_cons.mpr ⟨lw_p65, List.forall_mem_cons.mpr ⟨lw_p66, List.forall_mem_cons.mpr ⟨lw_p67, List.forall_mem_cons.mpr ⟨lw_p68, List.forall_mem_cons.mpr ⟨lw_p69, List.forall_mem_cons.mpr ⟨lw_p70, List.forall_mem_cons.mpr ⟨lw_p71, List.forall_mem_cons.mpr ⟨lw_p72, List.forall_mem_cons.mpr ⟨lw_p73, List.forall_mem_cons.mpr ⟨lw_p74, List.forall_mem_cons.mpr ⟨lw_p75, List.forall_mem_cons.mpr ⟨lw_p76, List.forall_mem_cons.mpr ⟨lw_p77, List.forall_mem_cons.mpr ⟨lw_p78, List.forall_mem_cons.mpr ⟨lw_p79, fun _ h => absurd h List.not_mem_nil⟩⟩⟩⟩⟩⟩⟩⟩⟩⟩⟩⟩⟩⟩⟩⟩
theorem lw_p80 : lw_okq (⟨"LateMirrorModel", "cellOf", "(I)I"⟩, 51) := ⟨⟨by decide +kernel, by decide +kernel⟩, List.mem_of_getElem? (i := 1348) (by decide +kernel), List.mem_of_getElem? (i := 1621) (by decide +kernel), List.mem_of_getElem? (i := 1622) (by decide +kernel)⟩
theorem lw_p81 : lw_okq (⟨"LateMirrorModel", "thingAt", "(I)I"⟩, 51) := ⟨⟨by decide +kernel, by decide +kernel⟩, List.mem_of_getElem? (i := 1348) (by decide +kernel), List.mem_of_getElem? (i := 1628) (by decide +kernel), List.mem_of_getElem? (i := 1629) (by decide +kernel)⟩
theorem lw_p82 : lw_okq (⟨"LateMirrorModel", "canDo", "(II)Z"⟩, 51) := ⟨⟨by decide +kernel, by decide +kernel⟩, List.mem_of_getElem? (i := 1348) (by decide +kernel), List.mem_of_getElem? (i := 1644) (by decide +kernel), List.mem_of_getElem? (i := 1645) (by decide +kernel)⟩
theorem lw_p83 : lw_okq (⟨"LateMirrorModel", "lyingAt", "(I)I"⟩, 51) := ⟨⟨by decide +kernel, by decide +kernel⟩, List.mem_of_getElem? (i := 1348) (by decide +kernel), List.mem_of_getElem? (i := 1648) (by decide +kernel), List.mem_of_getElem? (i := 1649) (by decide +kernel)⟩
theorem lw_p84 : lw_okq (⟨"LateMirrorModel", "keeps", "()V"⟩, 51) := ⟨⟨by decide +kernel, by decide +kernel⟩, List.mem_of_getElem? (i := 1348) (by decide +kernel), List.mem_of_getElem? (i := 1656) (by decide +kernel), List.mem_of_getElem? (i := 1657) (by decide +kernel)⟩
theorem lw_p85 : lw_okq (⟨"LateMirrorModel", "nines", "(I)I"⟩, 51) := ⟨⟨by decide +kernel, by decide +kernel⟩, List.mem_of_getElem? (i := 1348) (by decide +kernel), List.mem_of_getElem? (i := 1660) (by decide +kernel), List.mem_of_getElem? (i := 1661) (by decide +kernel)⟩
theorem lw_p86 : lw_okq (⟨"LateMirrorModel", "steps", "(I)V"⟩, 51) := ⟨⟨by decide +kernel, by decide +kernel⟩, List.mem_of_getElem? (i := 1348) (by decide +kernel), List.mem_of_getElem? (i := 1664) (by decide +kernel), List.mem_of_getElem? (i := 1665) (by decide +kernel)⟩
theorem lw_p87 : lw_okq (⟨"LateMirrorModel", "does", "(II)Z"⟩, 51) := ⟨⟨by decide +kernel, by decide +kernel⟩, List.mem_of_getElem? (i := 1348) (by decide +kernel), List.mem_of_getElem? (i := 1671) (by decide +kernel), List.mem_of_getElem? (i := 1672) (by decide +kernel)⟩
theorem lw_p88 : lw_okq (⟨"LateMirrorModel", "copyDoes", "(II)I"⟩, 51) := ⟨⟨by decide +kernel, by decide +kernel⟩, List.mem_of_getElem? (i := 1348) (by decide +kernel), List.mem_of_getElem? (i := 1675) (by decide +kernel), List.mem_of_getElem? (i := 1676) (by decide +kernel)⟩
theorem lw_p89 : lw_okq (⟨"LateMirrorModel", "holds", "(III)Z"⟩, 51) := ⟨⟨by decide +kernel, by decide +kernel⟩, List.mem_of_getElem? (i := 1348) (by decide +kernel), List.mem_of_getElem? (i := 1679) (by decide +kernel), List.mem_of_getElem? (i := 1680) (by decide +kernel)⟩
theorem lw_p90 : lw_okq (⟨"LateMirrorModel", "wordOf", "(III)I"⟩, 51) := ⟨⟨by decide +kernel, by decide +kernel⟩, List.mem_of_getElem? (i := 1348) (by decide +kernel), List.mem_of_getElem? (i := 1683) (by decide +kernel), List.mem_of_getElem? (i := 1684) (by decide +kernel)⟩
theorem lw_p91 : lw_okq (⟨"LateMirrorModel", "passes", "()V"⟩, 51) := ⟨⟨by decide +kernel, by decide +kernel⟩, List.mem_of_getElem? (i := 1348) (by decide +kernel), List.mem_of_getElem? (i := 1692) (by decide +kernel), List.mem_of_getElem? (i := 1693) (by decide +kernel)⟩
theorem lw_p92 : lw_okq (⟨"LateMirrorModel", "isAgain", "()V"⟩, 51) := ⟨⟨by decide +kernel, by decide +kernel⟩, List.mem_of_getElem? (i := 1348) (by decide +kernel), List.mem_of_getElem? (i := 1699) (by decide +kernel), List.mem_of_getElem? (i := 1700) (by decide +kernel)⟩
theorem lw_p93 : lw_okq (⟨"LateMirrorModel", "isDoings", "(J)Z"⟩, 51) := ⟨⟨by decide +kernel, by decide +kernel⟩, List.mem_of_getElem? (i := 1348) (by decide +kernel), List.mem_of_getElem? (i := 1707) (by decide +kernel), List.mem_of_getElem? (i := 1708) (by decide +kernel)⟩
theorem lw_p94 : lw_okq (⟨"LateMirrorModel", "doings", "()I"⟩, 51) := ⟨⟨by decide +kernel, by decide +kernel⟩, List.mem_of_getElem? (i := 1348) (by decide +kernel), List.mem_of_getElem? (i := 1711) (by decide +kernel), List.mem_of_getElem? (i := 1712) (by decide +kernel)⟩
theorem lw_p95 : lw_okq (⟨"LateMirrorModel", "notes", "()V"⟩, 51) := ⟨⟨by decide +kernel, by decide +kernel⟩, List.mem_of_getElem? (i := 1348) (by decide +kernel), List.mem_of_getElem? (i := 1715) (by decide +kernel), List.mem_of_getElem? (i := 1716) (by decide +kernel)⟩
def lw_privs_6 : List (MethodName × Nat) := [(⟨"LateMirrorModel", "cellOf", "(I)I"⟩, 51), (⟨"LateMirrorModel", "thingAt", "(I)I"⟩, 51), (⟨"LateMirrorModel", "canDo", "(II)Z"⟩, 51), (⟨"LateMirrorModel", "lyingAt", "(I)I"⟩, 51), (⟨"LateMirrorModel", "keeps", "()V"⟩, 51), (⟨"LateMirrorModel", "nines", "(I)I"⟩, 51), (⟨"LateMirrorModel", "steps", "(I)V"⟩, 51), (⟨"LateMirrorModel", "does", "(II)Z"⟩, 51), (⟨"LateMirrorModel", "copyDoes", "(II)I"⟩, 51), (⟨"LateMirrorModel", "holds", "(III)Z"⟩, 51), (⟨"LateMirrorModel", "wordOf", "(III)I"⟩, 51), (⟨"LateMirrorModel", "passes", "()V"⟩, 51), (⟨"LateMirrorModel", "isAgain", "()V"⟩, 51), (⟨"LateMirrorModel", "isDoings", "(J)Z"⟩, 51), (⟨"LateMirrorModel", "doings", "()I"⟩, 51), (⟨"LateMirrorModel", "notes", "()V"⟩, 51)]
theorem lw_r6 : ∀ q ∈ lw_privs_6, lw_okq q := List.forall_mem_cons.mpr ⟨lw_p80, List.forall_mem_cons.mpr ⟨lw_p81, List.forall_mem_cons.mpr ⟨lw_p82, List.forall_mem_cons.mpr ⟨lw_p83, List.forall_mem_cons.mpr ⟨lw_p84, List.forall_mem_cons.mpr ⟨lw_p85, List.forall_mem_cons.mpr ⟨lw_p86, List.forall_mem_cons.mpr ⟨lw_p87, List.forall_mem_cons.mpr ⟨lw_p88, List.forall_mem_cons.mpr ⟨lw_p89, List.forall_mem_cons.mpr ⟨lw_p90, List.forall_mem_cons.mpr ⟨lw_p91, List.forall_mem_cons.mpr ⟨lw_p92, List.forall_mem_cons.mpr ⟨lw_p93, List.forall_mem_cons.mpr ⟨lw_p94, List.forall_mem_cons.mpr ⟨lw_p95, fun _ h => absurd h List.not_mem_nil⟩⟩⟩⟩⟩⟩⟩⟩⟩⟩⟩⟩⟩⟩⟩⟩
theorem lw_p96 : lw_okq (⟨"LateMirrorModel", "noTray", "(I)I"⟩, 51) := ⟨⟨by decide +kernel, by decide +kernel⟩, List.mem_of_getElem? (i := 1348) (by decide +kernel), List.mem_of_getElem? (i := 1729) (by decide +kernel), List.mem_of_getElem? (i := 1730) (by decide +kernel)⟩
theorem lw_p97 : lw_okq (⟨"LateMirrorModel", "hours", "(I)I"⟩, 51) := ⟨⟨by decide +kernel, by decide +kernel⟩, List.mem_of_getElem? (i := 1348) (by decide +kernel), List.mem_of_getElem? (i := 1733) (by decide +kernel), List.mem_of_getElem? (i := 1734) (by decide +kernel)⟩
theorem lw_p98 : lw_okq (⟨"LateMirrorModel", "draw", "(I)I"⟩, 51) := ⟨⟨by decide +kernel, by decide +kernel⟩, List.mem_of_getElem? (i := 1348) (by decide +kernel), List.mem_of_getElem? (i := 1746) (by decide +kernel), List.mem_of_getElem? (i := 1747) (by decide +kernel)⟩
theorem lw_p99 : lw_okq (⟨"LateMirrorModel", "isPlace", "(I)Z"⟩, 51) := ⟨⟨by decide +kernel, by decide +kernel⟩, List.mem_of_getElem? (i := 1348) (by decide +kernel), List.mem_of_getElem? (i := 1765) (by decide +kernel), List.mem_of_getElem? (i := 1766) (by decide +kernel)⟩
theorem lw_p100 : lw_okq (⟨"LateMirrorModel", "seeks", "(III)I"⟩, 51) := ⟨⟨by decide +kernel, by decide +kernel⟩, List.mem_of_getElem? (i := 1348) (by decide +kernel), List.mem_of_getElem? (i := 1771) (by decide +kernel), List.mem_of_getElem? (i := 1772) (by decide +kernel)⟩
theorem lw_p101 : lw_okq (⟨"LateMirrorModel", "isThere", "(II)Z"⟩, 51) := ⟨⟨by decide +kernel, by decide +kernel⟩, List.mem_of_getElem? (i := 1348) (by decide +kernel), List.mem_of_getElem? (i := 1775) (by decide +kernel), List.mem_of_getElem? (i := 1776) (by decide +kernel)⟩
theorem lw_p102 : lw_okq (⟨"LateMirrorModel", "forgets", "()V"⟩, 51) := ⟨⟨by decide +kernel, by decide +kernel⟩, List.mem_of_getElem? (i := 1348) (by decide +kernel), List.mem_of_getElem? (i := 1779) (by decide +kernel), List.mem_of_getElem? (i := 1780) (by decide +kernel)⟩
theorem lw_p103 : lw_okq (⟨"LateMirrorModel", "meets", "(II)Z"⟩, 51) := ⟨⟨by decide +kernel, by decide +kernel⟩, List.mem_of_getElem? (i := 1348) (by decide +kernel), List.mem_of_getElem? (i := 1783) (by decide +kernel), List.mem_of_getElem? (i := 1784) (by decide +kernel)⟩
theorem lw_p104 : lw_okq (⟨"LateMirrorModel", "isThis", "(I)Z"⟩, 51) := ⟨⟨by decide +kernel, by decide +kernel⟩, List.mem_of_getElem? (i := 1348) (by decide +kernel), List.mem_of_getElem? (i := 1787) (by decide +kernel), List.mem_of_getElem? (i := 1788) (by decide +kernel)⟩
theorem lw_p105 : lw_okq (⟨"LateMirrorModel", "loads", "([II)V"⟩, 51) := ⟨⟨by decide +kernel, by decide +kernel⟩, List.mem_of_getElem? (i := 1348) (by decide +kernel), List.mem_of_getElem? (i := 1791) (by decide +kernel), List.mem_of_getElem? (i := 1792) (by decide +kernel)⟩
theorem lw_p106 : lw_okq (⟨"LateMirrorModel", "laysLevel", "(II)V"⟩, 51) := ⟨⟨by decide +kernel, by decide +kernel⟩, List.mem_of_getElem? (i := 1348) (by decide +kernel), List.mem_of_getElem? (i := 1800) (by decide +kernel), List.mem_of_getElem? (i := 1801) (by decide +kernel)⟩
theorem lw_p107 : lw_okq (⟨"LateMirrorModel", "noSeen", "(I)I"⟩, 51) := ⟨⟨by decide +kernel, by decide +kernel⟩, List.mem_of_getElem? (i := 1348) (by decide +kernel), List.mem_of_getElem? (i := 1812) (by decide +kernel), List.mem_of_getElem? (i := 1813) (by decide +kernel)⟩
theorem lw_p108 : lw_okq (⟨"LateMirrorModel", "laysFits", "(I)V"⟩, 51) := ⟨⟨by decide +kernel, by decide +kernel⟩, List.mem_of_getElem? (i := 1348) (by decide +kernel), List.mem_of_getElem? (i := 1818) (by decide +kernel), List.mem_of_getElem? (i := 1819) (by decide +kernel)⟩
theorem lw_p109 : lw_okq (⟨"LateMirrorModel", "isFit", "(II)Z"⟩, 51) := ⟨⟨by decide +kernel, by decide +kernel⟩, List.mem_of_getElem? (i := 1348) (by decide +kernel), List.mem_of_getElem? (i := 1822) (by decide +kernel), List.mem_of_getElem? (i := 1823) (by decide +kernel)⟩
theorem lw_p110 : lw_okq (⟨"LateMirrorModel", "seenTold", "(II)I"⟩, 51) := ⟨⟨by decide +kernel, by decide +kernel⟩, List.mem_of_getElem? (i := 1348) (by decide +kernel), List.mem_of_getElem? (i := 1826) (by decide +kernel), List.mem_of_getElem? (i := 1827) (by decide +kernel)⟩
theorem lw_p111 : lw_okq (⟨"LateMirrorModel", "leftBy", "(II)I"⟩, 51) := ⟨⟨by decide +kernel, by decide +kernel⟩, List.mem_of_getElem? (i := 1348) (by decide +kernel), List.mem_of_getElem? (i := 1849) (by decide +kernel), List.mem_of_getElem? (i := 1850) (by decide +kernel)⟩
def lw_privs_7 : List (MethodName × Nat) := [(⟨"LateMirrorModel", "noTray", "(I)I"⟩, 51), (⟨"LateMirrorModel", "hours", "(I)I"⟩, 51), (⟨"LateMirrorModel", "draw", "(I)I"⟩, 51), (⟨"LateMirrorModel", "isPlace", "(I)Z"⟩, 51), (⟨"LateMirrorModel", "seeks", "(III)I"⟩, 51), (⟨"LateMirrorModel", "isThere", "(II)Z"⟩, 51), (⟨"LateMirrorModel", "forgets", "()V"⟩, 51), (⟨"LateMirrorModel", "meets", "(II)Z"⟩, 51), (⟨"LateMirrorModel", "isThis", "(I)Z"⟩, 51), (⟨"LateMirrorModel", "loads", "([II)V"⟩, 51), (⟨"LateMirrorModel", "laysLevel", "(II)V"⟩, 51), (⟨"LateMirrorModel", "noSeen", "(I)I"⟩, 51), (⟨"LateMirrorModel", "laysFits", "(I)V"⟩, 51), (⟨"LateMirrorModel", "isFit", "(II)Z"⟩, 51), (⟨"LateMirrorModel", "seenTold", "(II)I"⟩, 51), (⟨"LateMirrorModel", "leftBy", "(II)I"⟩, 51)]
theorem lw_r7 : ∀ q ∈ lw_privs_7, lw_okq q := List.forall_mem_cons.mpr ⟨lw_p96, List.forall_mem_cons.mpr ⟨lw_p97, List.forall_mem_cons.mpr ⟨lw_p98, List.forall_mem_cons.mpr ⟨lw_p99, List.forall_mem_cons.mpr ⟨lw_p100, List.forall_mem_cons.mpr ⟨lw_p101, List.forall_mem_cons.mpr ⟨lw_p102, List.forall_mem_cons.mpr ⟨lw_p103, List.forall_mem_cons.mpr ⟨lw_p104, List.forall_mem_cons.mpr ⟨lw_p105, List.forall_mem_cons.mpr ⟨lw_p106, List.forall_mem_cons.mpr ⟨lw_p107, List.forall_mem_cons.mpr ⟨lw_p108, List.forall_mem_cons.mpr ⟨lw_p109, List.forall_mem_cons.mpr ⟨lw_p110, List.forall_mem_cons.mpr ⟨lw_p111, fun _ h => absurd h List.not_mem_nil⟩⟩⟩⟩⟩⟩⟩⟩⟩⟩⟩⟩⟩⟩⟩⟩
theorem lw_p112 : lw_okq (⟨"LateMirrorModel", "laysMeant", "(IIIZ)I"⟩, 51) := ⟨⟨by decide +kernel, by decide +kernel⟩, List.mem_of_getElem? (i := 1348) (by decide +kernel), List.mem_of_getElem? (i := 1857) (by decide +kernel), List.mem_of_getElem? (i := 1858) (by decide +kernel)⟩
theorem lw_p113 : lw_okq (⟨"LateMirrorModel", "goesMeant", "(IIII)V"⟩, 51) := ⟨⟨by decide +kernel, by decide +kernel⟩, List.mem_of_getElem? (i := 1348) (by decide +kernel), List.mem_of_getElem? (i := 1862) (by decide +kernel), List.mem_of_getElem? (i := 1863) (by decide +kernel)⟩
theorem lw_p114 : lw_okq (⟨"LateMirrorModel", "winOf", "(III)I"⟩, 51) := ⟨⟨by decide +kernel, by decide +kernel⟩, List.mem_of_getElem? (i := 1348) (by decide +kernel), List.mem_of_getElem? (i := 1884) (by decide +kernel), List.mem_of_getElem? (i := 1885) (by decide +kernel)⟩
theorem lw_p115 : lw_okq (⟨"LateMirrorModel", "winsBy", "(IIIII)Z"⟩, 51) := ⟨⟨by decide +kernel, by decide +kernel⟩, List.mem_of_getElem? (i := 1348) (by decide +kernel), List.mem_of_getElem? (i := 1888) (by decide +kernel), List.mem_of_getElem? (i := 1889) (by decide +kernel)⟩
theorem lw_p116 : lw_okq (⟨"LateMirrorModel", "canWin", "(IIII)Z"⟩, 51) := ⟨⟨by decide +kernel, by decide +kernel⟩, List.mem_of_getElem? (i := 1348) (by decide +kernel), List.mem_of_getElem? (i := 1892) (by decide +kernel), List.mem_of_getElem? (i := 1893) (by decide +kernel)⟩
theorem lw_p117 : lw_okq (⟨"LateMirrorModel", "owed", "(II)I"⟩, 51) := ⟨⟨by decide +kernel, by decide +kernel⟩, List.mem_of_getElem? (i := 1348) (by decide +kernel), List.mem_of_getElem? (i := 1905) (by decide +kernel), List.mem_of_getElem? (i := 1906) (by decide +kernel)⟩
theorem lw_p118 : lw_okq (⟨"LateMirrorModel", "balanceOf", "(I)I"⟩, 51) := ⟨⟨by decide +kernel, by decide +kernel⟩, List.mem_of_getElem? (i := 1348) (by decide +kernel), List.mem_of_getElem? (i := 1918) (by decide +kernel), List.mem_of_getElem? (i := 1919) (by decide +kernel)⟩
theorem lw_p119 : lw_okq (⟨"LateMirrorModel", "clears", "(III)I"⟩, 51) := ⟨⟨by decide +kernel, by decide +kernel⟩, List.mem_of_getElem? (i := 1348) (by decide +kernel), List.mem_of_getElem? (i := 1926) (by decide +kernel), List.mem_of_getElem? (i := 1927) (by decide +kernel)⟩
def lw_privs_8 : List (MethodName × Nat) := [(⟨"LateMirrorModel", "laysMeant", "(IIIZ)I"⟩, 51), (⟨"LateMirrorModel", "goesMeant", "(IIII)V"⟩, 51), (⟨"LateMirrorModel", "winOf", "(III)I"⟩, 51), (⟨"LateMirrorModel", "winsBy", "(IIIII)Z"⟩, 51), (⟨"LateMirrorModel", "canWin", "(IIII)Z"⟩, 51), (⟨"LateMirrorModel", "owed", "(II)I"⟩, 51), (⟨"LateMirrorModel", "balanceOf", "(I)I"⟩, 51), (⟨"LateMirrorModel", "clears", "(III)I"⟩, 51)]
theorem lw_r8 : ∀ q ∈ lw_privs_8, lw_okq q := List.forall_mem_cons.mpr ⟨lw_p112, List.forall_mem_cons.mpr ⟨lw_p113, List.forall_mem_cons.mpr ⟨lw_p114, List.forall_mem_cons.mpr ⟨lw_p115, List.forall_mem_cons.mpr ⟨lw_p116, List.forall_mem_cons.mpr ⟨lw_p117, List.forall_mem_cons.mpr ⟨lw_p118, List.forall_mem_cons.mpr ⟨lw_p119, fun _ h => absurd h List.not_mem_nil⟩⟩⟩⟩⟩⟩⟩⟩
def lw_privs : List (MethodName × Nat) := lw_privs_1 ++ (lw_privs_2 ++ (lw_privs_3 ++ (lw_privs_4 ++ (lw_privs_5 ++ (lw_privs_6 ++ (lw_privs_7 ++ (lw_privs_8)))))))
def lw_tbl : List Cond := k2_sels lw_privs ++ tables_1
theorem lw_privs_ok : ∀ q ∈ lw_privs, lw_okq q := by
  show ∀ q ∈ lw_privs_1 ++ (lw_privs_2 ++ (lw_privs_3 ++ (lw_privs_4 ++ (lw_privs_5 ++ (lw_privs_6 ++ (lw_privs_7 ++ (lw_privs_8))))))), lw_okq q
  exact List.forall_mem_append.mpr ⟨lw_r1, List.forall_mem_append.mpr ⟨lw_r2, List.forall_mem_append.mpr ⟨lw_r3, List.forall_mem_append.mpr ⟨lw_r4, List.forall_mem_append.mpr ⟨lw_r5, List.forall_mem_append.mpr ⟨lw_r6, List.forall_mem_append.mpr ⟨lw_r7, lw_r8⟩⟩⟩⟩⟩⟩⟩

def RX0 : String := "LateMirror$Arcade"
def TX0 : u_T := fun k => match k with
  | 0 => ("LateMirror$Arcade", "deep", "I", false)
  | 1 => ("LateMirror$Arcade", "people", "I", false)
  | 2 => ("LateMirror$Arcade", "things", "I", false)
  | 3 => ("LateMirror$Arcade", "rules", "I", false)
  | 4 => ("LateMirror$Arcade", "miss", "I", false)
  | 5 => ("LateMirror$Arcade", "lines", "I", false)
  | 6 => ("LateMirror$Arcade", "codeSize", "I", false)
  | 7 => ("LateMirror$Arcade", "cell", "[I", true)
  | 8 => ("LateMirror$Arcade", "late", "[I", true)
  | 9 => ("LateMirror$Arcade", "place", "[I", true)
  | 10 => ("LateMirror$Arcade", "ruleFor", "[I", true)
  | 11 => ("LateMirror$Arcade", "ruleFrom", "[I", true)
  | 12 => ("LateMirror$Arcade", "ruleTo", "[I", true)
  | 13 => ("LateMirror$Arcade", "ruleDoing", "[I", true)
  | _ => ("LateMirror$Arcade", "code", "[I", true)
def tyX0 : Nat → FieldType := fun k => match k with
  | 0 => .int
  | 1 => .int
  | 2 => .int
  | 3 => .int
  | 4 => .int
  | 5 => .int
  | 6 => .int
  | 7 => .array .int
  | 8 => .array .int
  | 9 => .array .int
  | 10 => .array .int
  | 11 => .array .int
  | 12 => .array .int
  | 13 => .array .int
  | _ => .array .int
abbrev wsX00 : List Cond := u_ws RX0 TX0 15
theorem nmX0 : ∀ a, a < 15 → ∀ b, b < 15 → a ≠ b → (TX0 a).2.1 ≠ (TX0 b).2.1 := by decide +kernel
theorem tyX0_ok : ∀ k, k < 15 → parseFieldDescriptor (TX0 k).2.2.1 = some (tyX0 k) := by decide +kernel
abbrev cX0_init : ByteArray := prog_2_method_1_code
def yX0_init : MethodName := ⟨RX0, "<init>", "()V"⟩
abbrev cX0_empty : ByteArray := prog_2_method_2_code
def yX0_empty : MethodName := ⟨RX0, "empty", "()V"⟩
abbrev cX0_become : ByteArray := prog_2_method_3_code
def yX0_become : MethodName := ⟨RX0, "become", "(LLateMirror$Arcade;)V"⟩
abbrev cX0_setUp : ByteArray := prog_2_method_4_code
def yX0_setUp : MethodName := ⟨RX0, "setUp", "([I)V"⟩
abbrev cX0_addPerson : ByteArray := prog_2_method_5_code
def yX0_addPerson : MethodName := ⟨RX0, "addPerson", "(II)V"⟩
abbrev cX0_addThing : ByteArray := prog_2_method_6_code
def yX0_addThing : MethodName := ⟨RX0, "addThing", "(I)V"⟩
abbrev cX0_addRule : ByteArray := prog_2_method_7_code
def yX0_addRule : MethodName := ⟨RX0, "addRule", "(III)V"⟩
abbrev cX0_addCode : ByteArray := prog_2_method_8_code
def yX0_addCode : MethodName := ⟨RX0, "addCode", "(I)V"⟩
def RX1 : String := "LateMirror$Debts"
def TX1 : u_T := fun k => match k with
  | _ => ("", "", "", false)
def tyX1 : Nat → FieldType := fun k => match k with
  | _ => .int
abbrev wsX10 : List Cond := u_ws RX1 TX1 0
theorem nmX1 : ∀ a, a < 0 → ∀ b, b < 0 → a ≠ b → (TX1 a).2.1 ≠ (TX1 b).2.1 := by decide +kernel
theorem tyX1_ok : ∀ k, k < 0 → parseFieldDescriptor (TX1 k).2.2.1 = some (tyX1 k) := by decide +kernel
abbrev cX1_owed : ByteArray := prog_3_method_2_code
def yX1_owed : MethodName := ⟨RX1, "owed", "([III)I"⟩
abbrev cX1_add : ByteArray := prog_3_method_3_code
def yX1_add : MethodName := ⟨RX1, "add", "([IIII)V"⟩
abbrev cX1_netOf : ByteArray := prog_3_method_4_code
def yX1_netOf : MethodName := ⟨RX1, "netOf", "([II)I"⟩
abbrev cX1_takeOffRings : ByteArray := prog_3_method_5_code
def yX1_takeOffRings : MethodName := ⟨RX1, "takeOffRings", "([II)I"⟩
abbrev cX1_takeOffPair : ByteArray := prog_3_method_6_code
def yX1_takeOffPair : MethodName := ⟨RX1, "takeOffPair", "([III)I"⟩
abbrev cX1_takeOffThree : ByteArray := prog_3_method_7_code
def yX1_takeOffThree : MethodName := ⟨RX1, "takeOffThree", "([III)I"⟩
abbrev cX1_fewestPayments : ByteArray := prog_3_method_8_code
def yX1_fewestPayments : MethodName := ⟨RX1, "fewestPayments", "([II)I"⟩
def RX2 : String := "LateMirror$Game"
def TX2 : u_T := fun k => match k with
  | 0 => ("LateMirror$Game", "winnings", "[J", true)
  | 1 => ("LateMirror$Game", "most", "I", false)
  | 2 => ("LateMirror$Game", "late", "I", false)
  | _ => ("LateMirror$Game", "eldest", "I", false)
def tyX2 : Nat → FieldType := fun k => match k with
  | 0 => .array .long
  | 1 => .int
  | 2 => .int
  | _ => .int
abbrev wsX20 : List Cond := u_ws RX2 TX2 4
theorem nmX2 : ∀ a, a < 4 → ∀ b, b < 4 → a ≠ b → (TX2 a).2.1 ≠ (TX2 b).2.1 := by decide +kernel
theorem tyX2_ok : ∀ k, k < 4 → parseFieldDescriptor (TX2 k).2.2.1 = some (tyX2 k) := by decide +kernel
abbrev cX2_init : ByteArray := prog_4_method_1_code
def yX2_init : MethodName := ⟨RX2, "<init>", "()V"⟩
abbrev cX2_solve : ByteArray := prog_4_method_2_code
def yX2_solve : MethodName := ⟨RX2, "solve", "(II)V"⟩
abbrev cX2_firstWinning : ByteArray := prog_4_method_3_code
def yX2_firstWinning : MethodName := ⟨RX2, "firstWinning", "(I)I"⟩
abbrev cX2_winnable : ByteArray := prog_4_method_4_code
def yX2_winnable : MethodName := ⟨RX2, "winnable", "()I"⟩
abbrev cX2_leastWinning : ByteArray := prog_4_method_5_code
def yX2_leastWinning : MethodName := ⟨RX2, "leastWinning", "(II)I"⟩
abbrev cX2_isWinning : ByteArray := prog_4_method_6_code
def yX2_isWinning : MethodName := ⟨RX2, "isWinning", "(III)Z"⟩
def RX3 : String := "LateMirror$Guess"
def TX3 : u_T := fun k => match k with
  | 0 => ("LateMirror$Guess", "found", "I", false)
  | 1 => ("LateMirror$Guess", "wantedRow", "I", false)
  | 2 => ("LateMirror$Guess", "doingsAtPlace", "I", false)
  | 3 => ("LateMirror$Guess", "stage", "LLateMirror$Stage;", true)
  | 4 => ("LateMirror$Guess", "rows", "[[I", true)
  | 5 => ("LateMirror$Guess", "cells", "[I", true)
  | 6 => ("LateMirror$Guess", "weights", "[J", true)
  | 7 => ("LateMirror$Guess", "weightsThen", "[J", true)
  | 8 => ("LateMirror$Guess", "size", "I", false)
  | 9 => ("LateMirror$Guess", "lastSeen", "I", false)
  | 10 => ("LateMirror$Guess", "person", "I", false)
  | 11 => ("LateMirror$Guess", "wanted", "I", false)
  | _ => ("LateMirror$Guess", "askedPlace", "I", false)
def tyX3 : Nat → FieldType := fun k => match k with
  | 0 => .int
  | 1 => .int
  | 2 => .int
  | 3 => .object "LateMirror$Stage"
  | 4 => .array (.array .int)
  | 5 => .array .int
  | 6 => .array .long
  | 7 => .array .long
  | 8 => .int
  | 9 => .int
  | 10 => .int
  | 11 => .int
  | _ => .int
abbrev wsX30 : List Cond := u_ws RX3 TX3 13
theorem nmX3 : ∀ a, a < 13 → ∀ b, b < 13 → a ≠ b → (TX3 a).2.1 ≠ (TX3 b).2.1 := by decide +kernel
theorem tyX3_ok : ∀ k, k < 13 → parseFieldDescriptor (TX3 k).2.2.1 = some (tyX3 k) := by decide +kernel
abbrev cX3_init : ByteArray := prog_5_method_1_code
def yX3_init : MethodName := ⟨RX3, "<init>", "(LLateMirror$Stage;)V"⟩
abbrev cX3_startCells : ByteArray := prog_5_method_2_code
def yX3_startCells : MethodName := ⟨RX3, "startCells", "()V"⟩
abbrev cX3_addCell : ByteArray := prog_5_method_3_code
def yX3_addCell : MethodName := ⟨RX3, "addCell", "(I)V"⟩
abbrev cX3_findRows : ByteArray := prog_5_method_4_code
def yX3_findRows : MethodName := ⟨RX3, "findRows", "([IIII)V"⟩
abbrev cX3_findFrom : ByteArray := prog_5_method_5_code
def yX3_findFrom : MethodName := ⟨RX3, "findFrom", "(II)V"⟩
abbrev cX3_findLast : ByteArray := prog_5_method_6_code
def yX3_findLast : MethodName := ⟨RX3, "findLast", "(II)V"⟩
abbrev cX3_takeAllFrom : ByteArray := prog_5_method_7_code
def yX3_takeAllFrom : MethodName := ⟨RX3, "takeAllFrom", "(II)V"⟩
abbrev cX3_weightOf : ByteArray := prog_5_method_8_code
def yX3_weightOf : MethodName := ⟨RX3, "weightOf", "([IILLateMirror$Trays;II)J"⟩
abbrev cX3_spreadWeights : ByteArray := prog_5_method_9_code
def yX3_spreadWeights : MethodName := ⟨RX3, "spreadWeights", "(I)V"⟩
def RX4 : String := "LateMirror$Image"
def TX4 : u_T := fun k => match k with
  | 0 => ("LateMirror$Image", "made", "Z", false)
  | 1 => ("LateMirror$Image", "told", "LLateMirror$Arcade;", true)
  | _ => ("LateMirror$Image", "row", "[I", true)
def tyX4 : Nat → FieldType := fun k => match k with
  | 0 => .boolean
  | 1 => .object "LateMirror$Arcade"
  | _ => .array .int
abbrev wsX40 : List Cond := u_ws RX4 TX4 3
theorem nmX4 : ∀ a, a < 3 → ∀ b, b < 3 → a ≠ b → (TX4 a).2.1 ≠ (TX4 b).2.1 := by decide +kernel
theorem tyX4_ok : ∀ k, k < 3 → parseFieldDescriptor (TX4 k).2.2.1 = some (tyX4 k) := by decide +kernel
abbrev cX4_init : ByteArray := prog_6_method_1_code
def yX4_init : MethodName := ⟨RX4, "<init>", "()V"⟩
abbrev cX4_keep : ByteArray := prog_6_method_2_code
def yX4_keep : MethodName := ⟨RX4, "keep", "(LLateMirror$Arcade;[I)V"⟩
def RX5 : String := "LateMirror$Laws"
def TX5 : u_T := fun k => match k with
  | 0 => ("LateMirror$Laws", "mustLeaveOut", "[I", true)
  | 1 => ("LateMirror$Laws", "bestDoing", "I", false)
  | 2 => ("LateMirror$Laws", "bestLeft", "I", false)
  | 3 => ("LateMirror$Laws", "cantLeaveOut", "[I", true)
  | 4 => ("LateMirror$Laws", "fit", "[Z", true)
  | 5 => ("LateMirror$Laws", "told", "[I", true)
  | 6 => ("LateMirror$Laws", "seen", "[I", true)
  | 7 => ("LateMirror$Laws", "expected", "[I", true)
  | 8 => ("LateMirror$Laws", "partKeys", "[I", true)
  | 9 => ("LateMirror$Laws", "partSizes", "[I", true)
  | 10 => ("LateMirror$Laws", "size", "I", false)
  | _ => ("LateMirror$Laws", "parts", "I", false)
def tyX5 : Nat → FieldType := fun k => match k with
  | 0 => .array .int
  | 1 => .int
  | 2 => .int
  | 3 => .array .int
  | 4 => .array .boolean
  | 5 => .array .int
  | 6 => .array .int
  | 7 => .array .int
  | 8 => .array .int
  | 9 => .array .int
  | 10 => .int
  | _ => .int
abbrev wsX50 : List Cond := u_ws RX5 TX5 12
theorem nmX5 : ∀ a, a < 12 → ∀ b, b < 12 → a ≠ b → (TX5 a).2.1 ≠ (TX5 b).2.1 := by decide +kernel
theorem tyX5_ok : ∀ k, k < 12 → parseFieldDescriptor (TX5 k).2.2.1 = some (tyX5 k) := by decide +kernel
abbrev cX5_init : ByteArray := prog_7_method_1_code
def yX5_init : MethodName := ⟨RX5, "<init>", "()V"⟩
abbrev cX5_learn : ByteArray := prog_7_method_2_code
def yX5_learn : MethodName := ⟨RX5, "learn", "(LLateMirror$Trays;I)V"⟩
abbrev cX5_learnFor : ByteArray := prog_7_method_3_code
def yX5_learnFor : MethodName := ⟨RX5, "learnFor", "(I)V"⟩
abbrev cX5_doingAt : ByteArray := prog_7_method_4_code
def yX5_doingAt : MethodName := ⟨RX5, "doingAt", "(II)I"⟩
abbrev cX5_openLaws : ByteArray := prog_7_method_5_code
def yX5_openLaws : MethodName := ⟨RX5, "openLaws", "(I)I"⟩
abbrev cX5_fitting : ByteArray := prog_7_method_6_code
def yX5_fitting : MethodName := ⟨RX5, "fitting", "()I"⟩
abbrev cX5_latenessOfSmallest : ByteArray := prog_7_method_7_code
def yX5_latenessOfSmallest : MethodName := ⟨RX5, "latenessOfSmallest", "()I"⟩
abbrev cX5_leftOutByAll : ByteArray := prog_7_method_8_code
def yX5_leftOutByAll : MethodName := ⟨RX5, "leftOutByAll", "()I"⟩
abbrev cX5_chooseTelling : ByteArray := prog_7_method_9_code
def yX5_chooseTelling : MethodName := ⟨RX5, "chooseTelling", "()V"⟩
abbrev cX5_mostLeftTogether : ByteArray := prog_7_method_10_code
def yX5_mostLeftTogether : MethodName := ⟨RX5, "mostLeftTogether", "(I)I"⟩
abbrev cX5_partLaws : ByteArray := prog_7_method_11_code
def yX5_partLaws : MethodName := ⟨RX5, "partLaws", "(I)V"⟩
abbrev cX5_keyOf : ByteArray := prog_7_method_12_code
def yX5_keyOf : MethodName := ⟨RX5, "keyOf", "(I)I"⟩
abbrev cX5_addPart : ByteArray := prog_7_method_13_code
def yX5_addPart : MethodName := ⟨RX5, "addPart", "(II)V"⟩
def RX6 : String := "LateMirror$Past"
def TX6 : u_T := fun k => match k with
  | 0 => ("LateMirror$Past", "kept", "I", false)
  | 1 => ("LateMirror$Past", "next", "I", false)
  | _ => ("LateMirror$Past", "rows", "[[I", true)
def tyX6 : Nat → FieldType := fun k => match k with
  | 0 => .int
  | 1 => .int
  | _ => .array (.array .int)
abbrev wsX60 : List Cond := u_ws RX6 TX6 3
theorem nmX6 : ∀ a, a < 3 → ∀ b, b < 3 → a ≠ b → (TX6 a).2.1 ≠ (TX6 b).2.1 := by decide +kernel
theorem tyX6_ok : ∀ k, k < 3 → parseFieldDescriptor (TX6 k).2.2.1 = some (tyX6 k) := by decide +kernel
abbrev cX6_init : ByteArray := prog_8_method_1_code
def yX6_init : MethodName := ⟨RX6, "<init>", "()V"⟩
abbrev cX6_forget : ByteArray := prog_8_method_2_code
def yX6_forget : MethodName := ⟨RX6, "forget", "()V"⟩
abbrev cX6_remember : ByteArray := prog_8_method_3_code
def yX6_remember : MethodName := ⟨RX6, "remember", "([I)V"⟩
abbrev cX6_goBack : ByteArray := prog_8_method_4_code
def yX6_goBack : MethodName := ⟨RX6, "goBack", "(I[I)V"⟩
def RX7 : String := "LateMirror$Reader"
def TX7 : u_T := fun k => match k with
  | 0 => ("LateMirror$Reader", "tape", "[I", true)
  | 1 => ("LateMirror$Reader", "draft", "LLateMirror$Arcade;", true)
  | 2 => ("LateMirror$Reader", "taped", "I", false)
  | 3 => ("LateMirror$Reader", "fault", "I", false)
  | 4 => ("LateMirror$Reader", "place", "I", false)
  | 5 => ("LateMirror$Reader", "length", "I", false)
  | 6 => ("LateMirror$Reader", "at", "I", false)
  | 7 => ("LateMirror$Reader", "start", "I", false)
  | 8 => ("LateMirror$Reader", "kind", "I", false)
  | 9 => ("LateMirror$Reader", "value", "I", false)
  | 10 => ("LateMirror$Reader", "pending", "[I", true)
  | 11 => ("LateMirror$Reader", "top", "I", false)
  | 12 => ("LateMirror$Reader", "within", "I", false)
  | 13 => ("LateMirror$Reader", "openSums", "I", false)
  | 14 => ("LateMirror$Reader", "openTruths", "I", false)
  | 15 => ("LateMirror$Reader", "wantsOperand", "Z", false)
  | 16 => ("LateMirror$Reader", "atUnitStart", "Z", false)
  | 17 => ("LateMirror$Reader", "compared", "Z", false)
  | _ => ("LateMirror$Reader", "bracketed", "Z", false)
def tyX7 : Nat → FieldType := fun k => match k with
  | 0 => .array .int
  | 1 => .object "LateMirror$Arcade"
  | 2 => .int
  | 3 => .int
  | 4 => .int
  | 5 => .int
  | 6 => .int
  | 7 => .int
  | 8 => .int
  | 9 => .int
  | 10 => .array .int
  | 11 => .int
  | 12 => .int
  | 13 => .int
  | 14 => .int
  | 15 => .boolean
  | 16 => .boolean
  | 17 => .boolean
  | _ => .boolean
abbrev wsX70 : List Cond := u_ws RX7 TX7 19
theorem nmX7 : ∀ a, a < 19 → ∀ b, b < 19 → a ≠ b → (TX7 a).2.1 ≠ (TX7 b).2.1 := by decide +kernel
theorem tyX7_ok : ∀ k, k < 19 → parseFieldDescriptor (TX7 k).2.2.1 = some (tyX7 k) := by decide +kernel
abbrev cX7_init : ByteArray := prog_9_method_1_code
def yX7_init : MethodName := ⟨RX7, "<init>", "()V"⟩
abbrev cX7_hasRoom : ByteArray := prog_9_method_2_code
def yX7_hasRoom : MethodName := ⟨RX7, "hasRoom", "()Z"⟩
abbrev cX7_tapeInt : ByteArray := prog_9_method_3_code
def yX7_tapeInt : MethodName := ⟨RX7, "tapeInt", "(I)V"⟩
abbrev cX7_readText : ByteArray := prog_9_method_4_code
def yX7_readText : MethodName := ⟨RX7, "readText", "(I)Z"⟩
abbrev cX7_readDeep : ByteArray := prog_9_method_5_code
def yX7_readDeep : MethodName := ⟨RX7, "readDeep", "()Z"⟩
abbrev cX7_readPerson : ByteArray := prog_9_method_6_code
def yX7_readPerson : MethodName := ⟨RX7, "readPerson", "()Z"⟩
abbrev cX7_readThing : ByteArray := prog_9_method_7_code
def yX7_readThing : MethodName := ⟨RX7, "readThing", "()Z"⟩
abbrev cX7_readMiss : ByteArray := prog_9_method_8_code
def yX7_readMiss : MethodName := ⟨RX7, "readMiss", "()Z"⟩
abbrev cX7_readRule : ByteArray := prog_9_method_9_code
def yX7_readRule : MethodName := ⟨RX7, "readRule", "()Z"⟩
abbrev cX7_readTruth : ByteArray := prog_9_method_10_code
def yX7_readTruth : MethodName := ⟨RX7, "readTruth", "()Z"⟩
abbrev cX7_startUnit : ByteArray := prog_9_method_11_code
def yX7_startUnit : MethodName := ⟨RX7, "startUnit", "()V"⟩
abbrev cX7_isUnitWhole : ByteArray := prog_9_method_12_code
def yX7_isUnitWhole : MethodName := ⟨RX7, "isUnitWhole", "()Z"⟩
abbrev cX7_readOperand : ByteArray := prog_9_method_13_code
def yX7_readOperand : MethodName := ⟨RX7, "readOperand", "()Z"⟩
abbrev cX7_goWithin : ByteArray := prog_9_method_14_code
def yX7_goWithin : MethodName := ⟨RX7, "goWithin", "(I)Z"⟩
abbrev cX7_readSumSign : ByteArray := prog_9_method_15_code
def yX7_readSumSign : MethodName := ⟨RX7, "readSumSign", "()Z"⟩
abbrev cX7_readTruthSign : ByteArray := prog_9_method_16_code
def yX7_readTruthSign : MethodName := ⟨RX7, "readTruthSign", "()Z"⟩
abbrev cX7_join : ByteArray := prog_9_method_17_code
def yX7_join : MethodName := ⟨RX7, "join", "(I)V"⟩
abbrev cX7_hold : ByteArray := prog_9_method_18_code
def yX7_hold : MethodName := ⟨RX7, "hold", "(I)V"⟩
abbrev cX7_release : ByteArray := prog_9_method_19_code
def yX7_release : MethodName := ⟨RX7, "release", "(I)V"⟩
abbrev cX7_settleTop : ByteArray := prog_9_method_20_code
def yX7_settleTop : MethodName := ⟨RX7, "settleTop", "()V"⟩
abbrev cX7_bindingOf : ByteArray := prog_9_method_21_code
def yX7_bindingOf : MethodName := ⟨RX7, "bindingOf", "(I)I"⟩
abbrev cX7_signOfByte : ByteArray := prog_9_method_22_code
def yX7_signOfByte : MethodName := ⟨RX7, "signOfByte", "()I"⟩
abbrev cX7_nameOfWord : ByteArray := prog_9_method_23_code
def yX7_nameOfWord : MethodName := ⟨RX7, "nameOfWord", "()I"⟩
abbrev cX7_doingOfWord : ByteArray := prog_9_method_24_code
def yX7_doingOfWord : MethodName := ⟨RX7, "doingOfWord", "()I"⟩
abbrev cX7_isWord : ByteArray := prog_9_method_25_code
def yX7_isWord : MethodName := ⟨RX7, "isWord", "(Ljava/lang/String;)Z"⟩
abbrev cX7_isSign : ByteArray := prog_9_method_26_code
def yX7_isSign : MethodName := ⟨RX7, "isSign", "(C)Z"⟩
abbrev cX7_passSign : ByteArray := prog_9_method_27_code
def yX7_passSign : MethodName := ⟨RX7, "passSign", "(C)Z"⟩
abbrev cX7_isNumberIn : ByteArray := prog_9_method_28_code
def yX7_isNumberIn : MethodName := ⟨RX7, "isNumberIn", "(II)Z"⟩
abbrev cX7_refuse : ByteArray := prog_9_method_29_code
def yX7_refuse : MethodName := ⟨RX7, "refuse", "()Z"⟩
abbrev cX7_faultHere : ByteArray := prog_9_method_30_code
def yX7_faultHere : MethodName := ⟨RX7, "faultHere", "(I)Z"⟩
abbrev cX7_nextToken : ByteArray := prog_9_method_31_code
def yX7_nextToken : MethodName := ⟨RX7, "nextToken", "()V"⟩
abbrev cX7_readWord : ByteArray := prog_9_method_32_code
def yX7_readWord : MethodName := ⟨RX7, "readWord", "()V"⟩
abbrev cX7_readDigits : ByteArray := prog_9_method_33_code
def yX7_readDigits : MethodName := ⟨RX7, "readDigits", "()V"⟩
abbrev cX7_isLetter : ByteArray := prog_9_method_34_code
def yX7_isLetter : MethodName := ⟨RX7, "isLetter", "(I)Z"⟩
abbrev cX7_isDigit : ByteArray := prog_9_method_35_code
def yX7_isDigit : MethodName := ⟨RX7, "isDigit", "(I)Z"⟩
abbrev cX7_isSignByte : ByteArray := prog_9_method_36_code
def yX7_isSignByte : MethodName := ⟨RX7, "isSignByte", "(I)Z"⟩
def RX8 : String := "LateMirror$Seeker"
def TX8 : u_T := fun k => match k with
  | 0 => ("LateMirror$Seeker", "timesMore", "I", false)
  | 1 => ("LateMirror$Seeker", "timesBefore", "I", false)
  | 2 => ("LateMirror$Seeker", "stage", "LLateMirror$Stage;", true)
  | 3 => ("LateMirror$Seeker", "rows", "[[I", true)
  | 4 => ("LateMirror$Seeker", "way", "[I", true)
  | 5 => ("LateMirror$Seeker", "bodies", "[J", true)
  | 6 => ("LateMirror$Seeker", "tellings", "[J", true)
  | 7 => ("LateMirror$Seeker", "person", "I", false)
  | 8 => ("LateMirror$Seeker", "thing", "I", false)
  | _ => ("LateMirror$Seeker", "place", "I", false)
def tyX8 : Nat → FieldType := fun k => match k with
  | 0 => .int
  | 1 => .int
  | 2 => .object "LateMirror$Stage"
  | 3 => .array (.array .int)
  | 4 => .array .int
  | 5 => .array .long
  | 6 => .array .long
  | 7 => .int
  | 8 => .int
  | _ => .int
abbrev wsX80 : List Cond := u_ws RX8 TX8 10
theorem nmX8 : ∀ a, a < 10 → ∀ b, b < 10 → a ≠ b → (TX8 a).2.1 ≠ (TX8 b).2.1 := by decide +kernel
theorem tyX8_ok : ∀ k, k < 10 → parseFieldDescriptor (TX8 k).2.2.1 = some (tyX8 k) := by decide +kernel
abbrev cX8_init : ByteArray := prog_10_method_1_code
def yX8_init : MethodName := ⟨RX8, "<init>", "(LLateMirror$Stage;)V"⟩
abbrev cX8_fewestSteps : ByteArray := prog_10_method_2_code
def yX8_fewestSteps : MethodName := ⟨RX8, "fewestSteps", "([IIII)I"⟩
abbrev cX8_doingOfWay : ByteArray := prog_10_method_3_code
def yX8_doingOfWay : MethodName := ⟨RX8, "doingOfWay", "(I)I"⟩
abbrev cX8_isSought : ByteArray := prog_10_method_4_code
def yX8_isSought : MethodName := ⟨RX8, "isSought", "([II)Z"⟩
abbrev cX8_isFoundBehind : ByteArray := prog_10_method_5_code
def yX8_isFoundBehind : MethodName := ⟨RX8, "isFoundBehind", "(II)Z"⟩
abbrev cX8_cellsBehind : ByteArray := prog_10_method_6_code
def yX8_cellsBehind : MethodName := ⟨RX8, "cellsBehind", "([III)I"⟩
abbrev cX8_cellsFrom : ByteArray := prog_10_method_7_code
def yX8_cellsFrom : MethodName := ⟨RX8, "cellsFrom", "(II)I"⟩
abbrev cX8_goRound : ByteArray := prog_10_method_8_code
def yX8_goRound : MethodName := ⟨RX8, "goRound", "([ILLateMirror$Trays;I)V"⟩
abbrev cX8_bodyOf : ByteArray := prog_10_method_9_code
def yX8_bodyOf : MethodName := ⟨RX8, "bodyOf", "([I)J"⟩
abbrev cX8_tellingOf : ByteArray := prog_10_method_10_code
def yX8_tellingOf : MethodName := ⟨RX8, "tellingOf", "([I)J"⟩
def RX9 : String := "LateMirror$Stage"
def TX9 : u_T := fun k => match k with
  | 0 => ("LateMirror$Stage", "live", "LLateMirror$Arcade;", true)
  | 1 => ("LateMirror$Stage", "stepsDone", "I", false)
  | 2 => ("LateMirror$Stage", "thingsPassed", "I", false)
  | 3 => ("LateMirror$Stage", "copiesFailed", "I", false)
  | 4 => ("LateMirror$Stage", "firstFailure", "I", false)
  | 5 => ("LateMirror$Stage", "firstFailing", "I", false)
  | 6 => ("LateMirror$Stage", "waiting", "[I", true)
  | _ => ("LateMirror$Stage", "named", "[I", true)
def tyX9 : Nat → FieldType := fun k => match k with
  | 0 => .object "LateMirror$Arcade"
  | 1 => .int
  | 2 => .int
  | 3 => .int
  | 4 => .int
  | 5 => .int
  | 6 => .array .int
  | _ => .array .int
abbrev wsX90 : List Cond := u_ws RX9 TX9 8
theorem nmX9 : ∀ a, a < 8 → ∀ b, b < 8 → a ≠ b → (TX9 a).2.1 ≠ (TX9 b).2.1 := by decide +kernel
theorem tyX9_ok : ∀ k, k < 8 → parseFieldDescriptor (TX9 k).2.2.1 = some (tyX9 k) := by decide +kernel
abbrev cX9_init : ByteArray := prog_11_method_1_code
def yX9_init : MethodName := ⟨RX9, "<init>", "(LLateMirror$Arcade;)V"⟩
abbrev cX9_areDoings : ByteArray := prog_11_method_2_code
def yX9_areDoings : MethodName := ⟨RX9, "areDoings", "(J)Z"⟩
abbrev cX9_advance : ByteArray := prog_11_method_3_code
def yX9_advance : MethodName := ⟨RX9, "advance", "([II)I"⟩
abbrev cX9_copyDoing : ByteArray := prog_11_method_4_code
def yX9_copyDoing : MethodName := ⟨RX9, "copyDoing", "([III)I"⟩
abbrev cX9_isStayForNow : ByteArray := prog_11_method_5_code
def yX9_isStayForNow : MethodName := ⟨RX9, "isStayForNow", "(II)Z"⟩
abbrev cX9_moved : ByteArray := prog_11_method_6_code
def yX9_moved : MethodName := ⟨RX9, "moved", "(II)I"⟩
abbrev cX9_lateDoing : ByteArray := prog_11_method_7_code
def yX9_lateDoing : MethodName := ⟨RX9, "lateDoing", "(II)I"⟩
abbrev cX9_toldBehind : ByteArray := prog_11_method_8_code
def yX9_toldBehind : MethodName := ⟨RX9, "toldBehind", "(II)I"⟩
abbrev cX9_mirrored : ByteArray := prog_11_method_9_code
def yX9_mirrored : MethodName := ⟨RX9, "mirrored", "(I)I"⟩
abbrev cX9_boredThen : ByteArray := prog_11_method_10_code
def yX9_boredThen : MethodName := ⟨RX9, "boredThen", "([III)I"⟩
abbrev cX9_handPlace : ByteArray := prog_11_method_11_code
def yX9_handPlace : MethodName := ⟨RX9, "handPlace", "(II)I"⟩
abbrev cX9_thingAt : ByteArray := prog_11_method_12_code
def yX9_thingAt : MethodName := ⟨RX9, "thingAt", "([II)I"⟩
abbrev cX9_ground : ByteArray := prog_11_method_13_code
def yX9_ground : MethodName := ⟨RX9, "ground", "([II)I"⟩
abbrev cX9_isAble : ByteArray := prog_11_method_14_code
def yX9_isAble : MethodName := ⟨RX9, "isAble", "([III)Z"⟩
abbrev cX9_act : ByteArray := prog_11_method_15_code
def yX9_act : MethodName := ⟨RX9, "act", "([III)I"⟩
abbrev cX9_carry : ByteArray := prog_11_method_16_code
def yX9_carry : MethodName := ⟨RX9, "carry", "([III)V"⟩
abbrev cX9_passThings : ByteArray := prog_11_method_17_code
def yX9_passThings : MethodName := ⟨RX9, "passThings", "([I)I"⟩
abbrev cX9_passWithFirst : ByteArray := prog_11_method_18_code
def yX9_passWithFirst : MethodName := ⟨RX9, "passWithFirst", "([IIII)I"⟩
abbrev cX9_chosen : ByteArray := prog_11_method_19_code
def yX9_chosen : MethodName := ⟨RX9, "chosen", "([IIIII)I"⟩
abbrev cX9_holds : ByteArray := prog_11_method_20_code
def yX9_holds : MethodName := ⟨RX9, "holds", "([III)I"⟩
abbrev cX9_isTrue : ByteArray := prog_11_method_21_code
def yX9_isTrue : MethodName := ⟨RX9, "isTrue", "(I)Z"⟩
abbrev cX9_joined : ByteArray := prog_11_method_22_code
def yX9_joined : MethodName := ⟨RX9, "joined", "(III)J"⟩
abbrev cX9_kept : ByteArray := prog_11_method_23_code
def yX9_kept : MethodName := ⟨RX9, "kept", "(J)I"⟩
abbrev cX9_spendHours : ByteArray := prog_11_method_24_code
def yX9_spendHours : MethodName := ⟨RX9, "spendHours", "([ILLateMirror$Trays;I)V"⟩
abbrev cX9_noteFailures : ByteArray := prog_11_method_25_code
def yX9_noteFailures : MethodName := ⟨RX9, "noteFailures", "([I)V"⟩
abbrev cX9_spendDay : ByteArray := prog_11_method_26_code
def yX9_spendDay : MethodName := ⟨RX9, "spendDay", "([III)I"⟩
def RX10 : String := "LateMirror$Trays"
def TX10 : u_T := fun k => match k with
  | 0 => ("LateMirror$Trays", "sizes", "[I", true)
  | 1 => ("LateMirror$Trays", "sorts", "[I", true)
  | _ => ("LateMirror$Trays", "rows", "[[J", true)
def tyX10 : Nat → FieldType := fun k => match k with
  | 0 => .array .int
  | 1 => .array .int
  | _ => .array (.array .long)
abbrev wsX100 : List Cond := u_ws RX10 TX10 3
theorem nmX10 : ∀ a, a < 3 → ∀ b, b < 3 → a ≠ b → (TX10 a).2.1 ≠ (TX10 b).2.1 := by decide +kernel
theorem tyX10_ok : ∀ k, k < 3 → parseFieldDescriptor (TX10 k).2.2.1 = some (tyX10 k) := by decide +kernel
abbrev cX10_init : ByteArray := prog_12_method_1_code
def yX10_init : MethodName := ⟨RX10, "<init>", "()V"⟩
abbrev cX10_isTray : ByteArray := prog_12_method_2_code
def yX10_isTray : MethodName := ⟨RX10, "isTray", "(I)Z"⟩
abbrev cX10_isMissing : ByteArray := prog_12_method_3_code
def yX10_isMissing : MethodName := ⟨RX10, "isMissing", "(I)Z"⟩
abbrev cX10_size : ByteArray := prog_12_method_4_code
def yX10_size : MethodName := ⟨RX10, "size", "(I)I"⟩
abbrev cX10_at : ByteArray := prog_12_method_5_code
def yX10_at : MethodName := ⟨RX10, "at", "(II)J"⟩
abbrev cX10_layOut : ByteArray := prog_12_method_6_code
def yX10_layOut : MethodName := ⟨RX10, "layOut", "(III)V"⟩
abbrev cX10_put : ByteArray := prog_12_method_7_code
def yX10_put : MethodName := ⟨RX10, "put", "(IIJ)J"⟩
abbrev cX10_cut : ByteArray := prog_12_method_8_code
def yX10_cut : MethodName := ⟨RX10, "cut", "(IJ)J"⟩
def RX11 : String := "LateMirror"
def TX11 : u_T := fun k => match k with
  | 0 => ("LateMirror", "reader", "LLateMirror$Reader;", true)
  | 1 => ("LateMirror", "live", "LLateMirror$Arcade;", true)
  | 2 => ("LateMirror", "stage", "LLateMirror$Stage;", true)
  | 3 => ("LateMirror", "past", "LLateMirror$Past;", true)
  | 4 => ("LateMirror", "trays", "LLateMirror$Trays;", true)
  | 5 => ("LateMirror", "seeker", "LLateMirror$Seeker;", true)
  | 6 => ("LateMirror", "guess", "LLateMirror$Guess;", true)
  | 7 => ("LateMirror", "laws", "LLateMirror$Laws;", true)
  | 8 => ("LateMirror", "game", "LLateMirror$Game;", true)
  | 9 => ("LateMirror", "firstImage", "LLateMirror$Image;", true)
  | 10 => ("LateMirror", "secondImage", "LLateMirror$Image;", true)
  | 11 => ("LateMirror", "now", "[I", true)
  | _ => ("LateMirror", "trial", "[I", true)
def tyX11 : Nat → FieldType := fun k => match k with
  | 0 => .object "LateMirror$Reader"
  | 1 => .object "LateMirror$Arcade"
  | 2 => .object "LateMirror$Stage"
  | 3 => .object "LateMirror$Past"
  | 4 => .object "LateMirror$Trays"
  | 5 => .object "LateMirror$Seeker"
  | 6 => .object "LateMirror$Guess"
  | 7 => .object "LateMirror$Laws"
  | 8 => .object "LateMirror$Game"
  | 9 => .object "LateMirror$Image"
  | 10 => .object "LateMirror$Image"
  | 11 => .array .int
  | _ => .array .int
abbrev wsX110 : List Cond := u_ws RX11 TX11 13
theorem nmX11 : ∀ a, a < 13 → ∀ b, b < 13 → a ≠ b → (TX11 a).2.1 ≠ (TX11 b).2.1 := by decide +kernel
theorem tyX11_ok : ∀ k, k < 13 → parseFieldDescriptor (TX11 k).2.2.1 = some (tyX11 k) := by decide +kernel
abbrev cX11_init : ByteArray := prog_1_method_1_code
def yX11_init : MethodName := ⟨RX11, "<init>", "()V"⟩
abbrev cX11_feed : ByteArray := prog_1_method_2_code
def yX11_feed : MethodName := ⟨RX11, "feed", "(IIIII)I"⟩
abbrev cX11_arcade : ByteArray := prog_1_method_3_code
def yX11_arcade : MethodName := ⟨RX11, "arcade", "(I)I"⟩
abbrev cX11_fault : ByteArray := prog_1_method_4_code
def yX11_fault : MethodName := ⟨RX11, "fault", "(I)I"⟩
abbrev cX11_person : ByteArray := prog_1_method_5_code
def yX11_person : MethodName := ⟨RX11, "person", "(II)I"⟩
abbrev cX11_copy : ByteArray := prog_1_method_6_code
def yX11_copy : MethodName := ⟨RX11, "copy", "(II)I"⟩
abbrev cX11_thing : ByteArray := prog_1_method_7_code
def yX11_thing : MethodName := ⟨RX11, "thing", "(I)I"⟩
abbrev cX11_can : ByteArray := prog_1_method_8_code
def yX11_can : MethodName := ⟨RX11, "can", "(II)I"⟩
abbrev cX11_would : ByteArray := prog_1_method_9_code
def yX11_would : MethodName := ⟨RX11, "would", "(II)I"⟩
abbrev cX11_step : ByteArray := prog_1_method_10_code
def yX11_step : MethodName := ⟨RX11, "step", "(I)I"⟩
abbrev cX11_undo : ByteArray := prog_1_method_11_code
def yX11_undo : MethodName := ⟨RX11, "undo", "(I)I"⟩
abbrev cX11_judge : ByteArray := prog_1_method_12_code
def yX11_judge : MethodName := ⟨RX11, "judge", "(II)I"⟩
abbrev cX11_perform : ByteArray := prog_1_method_13_code
def yX11_perform : MethodName := ⟨RX11, "perform", "(I)I"⟩
abbrev cX11_day : ByteArray := prog_1_method_14_code
def yX11_day : MethodName := ⟨RX11, "day", "(II)I"⟩
abbrev cX11_fails : ByteArray := prog_1_method_15_code
def yX11_fails : MethodName := ⟨RX11, "fails", "(II)I"⟩
abbrev cX11_round : ByteArray := prog_1_method_16_code
def yX11_round : MethodName := ⟨RX11, "round", "(II)I"⟩
abbrev cX11_soonest : ByteArray := prog_1_method_17_code
def yX11_soonest : MethodName := ⟨RX11, "soonest", "(IIII)I"⟩
abbrev cX11_states : ByteArray := prog_1_method_18_code
def yX11_states : MethodName := ⟨RX11, "states", "(II)I"⟩
abbrev cX11_reach : ByteArray := prog_1_method_19_code
def yX11_reach : MethodName := ⟨RX11, "reach", "(II)I"⟩
abbrev cX11_fits : ByteArray := prog_1_method_20_code
def yX11_fits : MethodName := ⟨RX11, "fits", "(I)I"⟩
abbrev cX11_smallest : ByteArray := prog_1_method_21_code
def yX11_smallest : MethodName := ⟨RX11, "smallest", "(II)I"⟩
abbrev cX11_sure : ByteArray := prog_1_method_22_code
def yX11_sure : MethodName := ⟨RX11, "sure", "(I)I"⟩
abbrev cX11_telling : ByteArray := prog_1_method_23_code
def yX11_telling : MethodName := ⟨RX11, "telling", "(II)I"⟩
abbrev cX11_meant : ByteArray := prog_1_method_24_code
def yX11_meant : MethodName := ⟨RX11, "meant", "(III)I"⟩
abbrev cX11_maybe : ByteArray := prog_1_method_25_code
def yX11_maybe : MethodName := ⟨RX11, "maybe", "(III)I"⟩
abbrev cX11_odds : ByteArray := prog_1_method_26_code
def yX11_odds : MethodName := ⟨RX11, "odds", "(III)J"⟩
abbrev cX11_win : ByteArray := prog_1_method_27_code
def yX11_win : MethodName := ⟨RX11, "win", "(III)I"⟩
abbrev cX11_wins : ByteArray := prog_1_method_28_code
def yX11_wins : MethodName := ⟨RX11, "wins", "(II)I"⟩
abbrev cX11_lends : ByteArray := prog_1_method_29_code
def yX11_lends : MethodName := ⟨RX11, "lends", "(III)I"⟩
abbrev cX11_owes : ByteArray := prog_1_method_30_code
def yX11_owes : MethodName := ⟨RX11, "owes", "(IIZ)I"⟩
abbrev cX11_balance : ByteArray := prog_1_method_31_code
def yX11_balance : MethodName := ⟨RX11, "balance", "(IZ)I"⟩
abbrev cX11_clear : ByteArray := prog_1_method_32_code
def yX11_clear : MethodName := ⟨RX11, "clear", "()I"⟩
abbrev cX11_payments : ByteArray := prog_1_method_33_code
def yX11_payments : MethodName := ⟨RX11, "payments", "()I"⟩
abbrev cX11_numbers : ByteArray := prog_1_method_34_code
def yX11_numbers : MethodName := ⟨RX11, "numbers", "(III)I"⟩
abbrev cX11_write : ByteArray := prog_1_method_35_code
def yX11_write : MethodName := ⟨RX11, "write", "(IIJ)J"⟩
abbrev cX11_lists : ByteArray := prog_1_method_36_code
def yX11_lists : MethodName := ⟨RX11, "lists", "(I)I"⟩
abbrev cX11_image : ByteArray := prog_1_method_37_code
def yX11_image : MethodName := ⟨RX11, "image", "(I)I"⟩
abbrev cX11_restore : ByteArray := prog_1_method_38_code
def yX11_restore : MethodName := ⟨RX11, "restore", "(I)I"⟩
abbrev cX11_count : ByteArray := prog_1_method_39_code
def yX11_count : MethodName := ⟨RX11, "count", "(I)I"⟩
abbrev cX11_isPerson : ByteArray := prog_1_method_40_code
def yX11_isPerson : MethodName := ⟨RX11, "isPerson", "(I)Z"⟩
abbrev cX11_areTwoPeople : ByteArray := prog_1_method_41_code
def yX11_areTwoPeople : MethodName := ⟨RX11, "areTwoPeople", "(II)Z"⟩
abbrev cX11_isThing : ByteArray := prog_1_method_42_code
def yX11_isThing : MethodName := ⟨RX11, "isThing", "(I)Z"⟩
abbrev cX11_isCell : ByteArray := prog_1_method_43_code
def yX11_isCell : MethodName := ⟨RX11, "isCell", "(J)Z"⟩
abbrev cX11_isPlace : ByteArray := prog_1_method_44_code
def yX11_isPlace : MethodName := ⟨RX11, "isPlace", "(I)Z"⟩
abbrev cX11_isDoing : ByteArray := prog_1_method_45_code
def yX11_isDoing : MethodName := ⟨RX11, "isDoing", "(I)Z"⟩
abbrev cX11_isFirstOrSecond : ByteArray := prog_1_method_46_code
def yX11_isFirstOrSecond : MethodName := ⟨RX11, "isFirstOrSecond", "(I)Z"⟩
abbrev cX11_isGame : ByteArray := prog_1_method_47_code
def yX11_isGame : MethodName := ⟨RX11, "isGame", "(II)Z"⟩
abbrev cX11_hoursRefusal : ByteArray := prog_1_method_48_code
def yX11_hoursRefusal : MethodName := ⟨RX11, "hoursRefusal", "(II)I"⟩
abbrev cX11_seenRefusal : ByteArray := prog_1_method_49_code
def yX11_seenRefusal : MethodName := ⟨RX11, "seenRefusal", "(I)I"⟩
abbrev cX11_meantRefusal : ByteArray := prog_1_method_50_code
def yX11_meantRefusal : MethodName := ⟨RX11, "meantRefusal", "(II)I"⟩
abbrev cX11_tryHours : ByteArray := prog_1_method_51_code
def yX11_tryHours : MethodName := ⟨RX11, "tryHours", "(I)V"⟩
abbrev cX11_copyRow : ByteArray := prog_1_method_52_code
def yX11_copyRow : MethodName := ⟨RX11, "copyRow", "([I[I)V"⟩
def RX12 : String := "LateMirrorModel"
def TX12 : u_T := fun k => match k with
  | 0 => ("LateMirrorModel", "thrown", "I", false)
  | 1 => ("LateMirrorModel", "all", "[I", true)
  | 2 => ("LateMirrorModel", "hasImage", "[Z", true)
  | 3 => ("LateMirrorModel", "tape", "[I", true)
  | 4 => ("LateMirrorModel", "fresh", "[I", true)
  | 5 => ("LateMirrorModel", "taped", "I", false)
  | 6 => ("LateMirrorModel", "at", "I", false)
  | 7 => ("LateMirrorModel", "behind", "I", false)
  | 8 => ("LateMirrorModel", "size", "I", false)
  | 9 => ("LateMirrorModel", "kind", "I", false)
  | 10 => ("LateMirrorModel", "number", "I", false)
  | 11 => ("LateMirrorModel", "wrong", "I", false)
  | 12 => ("LateMirrorModel", "wrongAt", "I", false)
  | 13 => ("LateMirrorModel", "faultKind", "I", false)
  | 14 => ("LateMirrorModel", "faultPlace", "I", false)
  | 15 => ("LateMirrorModel", "ahead", "Z", false)
  | 16 => ("LateMirrorModel", "reckoned", "[I", true)
  | 17 => ("LateMirrorModel", "lates", "[I", true)
  | 18 => ("LateMirrorModel", "couldNot", "I", false)
  | 19 => ("LateMirrorModel", "passed", "I", false)
  | 20 => ("LateMirrorModel", "was", "[I", true)
  | 21 => ("LateMirrorModel", "passedAll", "I", false)
  | 22 => ("LateMirrorModel", "couldNotAll", "I", false)
  | 23 => ("LateMirrorModel", "failedStep", "I", false)
  | 24 => ("LateMirrorModel", "failedCopy", "I", false)
  | 25 => ("LateMirrorModel", "x", "I", false)
  | 26 => ("LateMirrorModel", "rounds", "[I", true)
  | 27 => ("LateMirrorModel", "pool", "[I", true)
  | 28 => ("LateMirrorModel", "before", "[I", true)
  | 29 => ("LateMirrorModel", "cameFrom", "[I", true)
  | 30 => ("LateMirrorModel", "cameBy", "[I", true)
  | 31 => ("LateMirrorModel", "spots", "[I", true)
  | 32 => ("LateMirrorModel", "met", "I", false)
  | 33 => ("LateMirrorModel", "level", "I", false)
  | 34 => ("LateMirrorModel", "row", "[I", true)
  | 35 => ("LateMirrorModel", "fitting", "[I", true)
  | 36 => ("LateMirrorModel", "fitMany", "I", false)
  | 37 => ("LateMirrorModel", "saying", "[I", true)
  | 38 => ("LateMirrorModel", "stepsWas", "[I", true)
  | 39 => ("LateMirrorModel", "maybes", "[I", true)
  | 40 => ("LateMirrorModel", "meantMany", "I", false)
  | 41 => ("LateMirrorModel", "wanted", "I", false)
  | 42 => ("LateMirrorModel", "found", "I", false)
  | 43 => ("LateMirrorModel", "ways", "[J", true)
  | 44 => ("LateMirrorModel", "waysThen", "[J", true)
  | 45 => ("LateMirrorModel", "winning", "[I", true)
  | 46 => ("LateMirrorModel", "most", "I", false)
  | 47 => ("LateMirrorModel", "lateBy", "I", false)
  | 48 => ("LateMirrorModel", "rowSort", "[I", true)
  | 49 => ("LateMirrorModel", "rowMany", "[I", true)
  | _ => ("LateMirrorModel", "numbers", "[J", true)
def tyX12 : Nat → FieldType := fun k => match k with
  | 0 => .int
  | 1 => .array .int
  | 2 => .array .boolean
  | 3 => .array .int
  | 4 => .array .int
  | 5 => .int
  | 6 => .int
  | 7 => .int
  | 8 => .int
  | 9 => .int
  | 10 => .int
  | 11 => .int
  | 12 => .int
  | 13 => .int
  | 14 => .int
  | 15 => .boolean
  | 16 => .array .int
  | 17 => .array .int
  | 18 => .int
  | 19 => .int
  | 20 => .array .int
  | 21 => .int
  | 22 => .int
  | 23 => .int
  | 24 => .int
  | 25 => .int
  | 26 => .array .int
  | 27 => .array .int
  | 28 => .array .int
  | 29 => .array .int
  | 30 => .array .int
  | 31 => .array .int
  | 32 => .int
  | 33 => .int
  | 34 => .array .int
  | 35 => .array .int
  | 36 => .int
  | 37 => .array .int
  | 38 => .array .int
  | 39 => .array .int
  | 40 => .int
  | 41 => .int
  | 42 => .int
  | 43 => .array .long
  | 44 => .array .long
  | 45 => .array .int
  | 46 => .int
  | 47 => .int
  | 48 => .array .int
  | 49 => .array .int
  | _ => .array .long
abbrev wsX120 : List Cond := u_ws RX12 TX12 51
theorem nmX12 : ∀ a, a < 51 → ∀ b, b < 51 → a ≠ b → (TX12 a).2.1 ≠ (TX12 b).2.1 := by decide +kernel
theorem tyX12_ok : ∀ k, k < 51 → parseFieldDescriptor (TX12 k).2.2.1 = some (tyX12 k) := by decide +kernel
abbrev cX12_within : ByteArray := prog_14_method_2_code
def yX12_within : MethodName := ⟨RX12, "within", "(JJJ)Z"⟩
abbrev cX12_init : ByteArray := prog_14_method_3_code
def yX12_init : MethodName := ⟨RX12, "<init>", "()V"⟩
abbrev cX12_plain : ByteArray := prog_14_method_4_code
def yX12_plain : MethodName := ⟨RX12, "plain", "([I)V"⟩
abbrev cX12_feed : ByteArray := prog_14_method_5_code
def yX12_feed : MethodName := ⟨RX12, "feed", "(IIIII)I"⟩
abbrev cX12_see : ByteArray := prog_14_method_6_code
def yX12_see : MethodName := ⟨RX12, "see", "(I)I"⟩
abbrev cX12_isSmall : ByteArray := prog_14_method_7_code
def yX12_isSmall : MethodName := ⟨RX12, "isSmall", "(I)Z"⟩
abbrev cX12_isDigit : ByteArray := prog_14_method_8_code
def yX12_isDigit : MethodName := ⟨RX12, "isDigit", "(I)Z"⟩
abbrev cX12_keyAt : ByteArray := prog_14_method_9_code
def yX12_keyAt : MethodName := ⟨RX12, "keyAt", "()I"⟩
abbrev cX12_next : ByteArray := prog_14_method_10_code
def yX12_next : MethodName := ⟨RX12, "next", "()V"⟩
abbrev cX12_fails : ByteArray := prog_14_method_11_code
def yX12_fails : MethodName := ⟨RX12, "fails", "(I)V"⟩
abbrev cX12_is : ByteArray := prog_14_method_12_code
def yX12_is : MethodName := ⟨RX12, "is", "(I)Z"⟩
abbrev cX12_eats : ByteArray := prog_14_method_13_code
def yX12_eats : MethodName := ⟨RX12, "eats", "(I)Z"⟩
abbrev cX12_takes : ByteArray := prog_14_method_14_code
def yX12_takes : MethodName := ⟨RX12, "takes", "(II)I"⟩
abbrev cX12_isIn : ByteArray := prog_14_method_15_code
def yX12_isIn : MethodName := ⟨RX12, "isIn", "(JI)Z"⟩
abbrev cX12_readPerson : ByteArray := prog_14_method_16_code
def yX12_readPerson : MethodName := ⟨RX12, "readPerson", "()V"⟩
abbrev cX12_readThing : ByteArray := prog_14_method_17_code
def yX12_readThing : MethodName := ⟨RX12, "readThing", "()V"⟩
abbrev cX12_codes : ByteArray := prog_14_method_18_code
def yX12_codes : MethodName := ⟨RX12, "codes", "(I)V"⟩
abbrev cX12_goesIn : ByteArray := prog_14_method_19_code
def yX12_goesIn : MethodName := ⟨RX12, "goesIn", "(I)Z"⟩
abbrev cX12_readAtom : ByteArray := prog_14_method_20_code
def yX12_readAtom : MethodName := ⟨RX12, "readAtom", "(I)V"⟩
abbrev cX12_readTerm : ByteArray := prog_14_method_21_code
def yX12_readTerm : MethodName := ⟨RX12, "readTerm", "(I)V"⟩
abbrev cX12_readSum : ByteArray := prog_14_method_22_code
def yX12_readSum : MethodName := ⟨RX12, "readSum", "(I)V"⟩
abbrev cX12_readUnit : ByteArray := prog_14_method_23_code
def yX12_readUnit : MethodName := ⟨RX12, "readUnit", "(I)V"⟩
abbrev cX12_readBoth : ByteArray := prog_14_method_24_code
def yX12_readBoth : MethodName := ⟨RX12, "readBoth", "(I)V"⟩
abbrev cX12_readTruth : ByteArray := prog_14_method_25_code
def yX12_readTruth : MethodName := ⟨RX12, "readTruth", "(I)V"⟩
abbrev cX12_readRule : ByteArray := prog_14_method_26_code
def yX12_readRule : MethodName := ⟨RX12, "readRule", "()V"⟩
abbrev cX12_arcade : ByteArray := prog_14_method_27_code
def yX12_arcade : MethodName := ⟨RX12, "arcade", "(I)I"⟩
abbrev cX12_fault : ByteArray := prog_14_method_28_code
def yX12_fault : MethodName := ⟨RX12, "fault", "(I)I"⟩
abbrev cX12_isPerson : ByteArray := prog_14_method_29_code
def yX12_isPerson : MethodName := ⟨RX12, "isPerson", "(I)Z"⟩
abbrev cX12_cellOf : ByteArray := prog_14_method_30_code
def yX12_cellOf : MethodName := ⟨RX12, "cellOf", "(I)I"⟩
abbrev cX12_handOf : ByteArray := prog_14_method_31_code
def yX12_handOf : MethodName := ⟨RX12, "handOf", "(II)I"⟩
abbrev cX12_thingAt : ByteArray := prog_14_method_32_code
def yX12_thingAt : MethodName := ⟨RX12, "thingAt", "(I)I"⟩
abbrev cX12_lyingAt : ByteArray := prog_14_method_33_code
def yX12_lyingAt : MethodName := ⟨RX12, "lyingAt", "(I)I"⟩
abbrev cX12_person : ByteArray := prog_14_method_34_code
def yX12_person : MethodName := ⟨RX12, "person", "(II)I"⟩
abbrev cX12_copy : ByteArray := prog_14_method_35_code
def yX12_copy : MethodName := ⟨RX12, "copy", "(II)I"⟩
abbrev cX12_thing : ByteArray := prog_14_method_36_code
def yX12_thing : MethodName := ⟨RX12, "thing", "(I)I"⟩
abbrev cX12_canDo : ByteArray := prog_14_method_37_code
def yX12_canDo : MethodName := ⟨RX12, "canDo", "(II)Z"⟩
abbrev cX12_does : ByteArray := prog_14_method_38_code
def yX12_does : MethodName := ⟨RX12, "does", "(II)Z"⟩
abbrev cX12_can : ByteArray := prog_14_method_39_code
def yX12_can : MethodName := ⟨RX12, "can", "(II)I"⟩
abbrev cX12_between : ByteArray := prog_14_method_40_code
def yX12_between : MethodName := ⟨RX12, "between", "(III)I"⟩
abbrev cX12_wordOf : ByteArray := prog_14_method_41_code
def yX12_wordOf : MethodName := ⟨RX12, "wordOf", "(III)I"⟩
abbrev cX12_holds : ByteArray := prog_14_method_42_code
def yX12_holds : MethodName := ⟨RX12, "holds", "(III)Z"⟩
abbrev cX12_turned : ByteArray := prog_14_method_43_code
def yX12_turned : MethodName := ⟨RX12, "turned", "(I)I"⟩
abbrev cX12_copyDoes : ByteArray := prog_14_method_44_code
def yX12_copyDoes : MethodName := ⟨RX12, "copyDoes", "(II)I"⟩
abbrev cX12_passes : ByteArray := prog_14_method_45_code
def yX12_passes : MethodName := ⟨RX12, "passes", "()V"⟩
abbrev cX12_steps : ByteArray := prog_14_method_46_code
def yX12_steps : MethodName := ⟨RX12, "steps", "(I)V"⟩
abbrev cX12_keeps : ByteArray := prog_14_method_47_code
def yX12_keeps : MethodName := ⟨RX12, "keeps", "()V"⟩
abbrev cX12_isAgain : ByteArray := prog_14_method_48_code
def yX12_isAgain : MethodName := ⟨RX12, "isAgain", "()V"⟩
abbrev cX12_notes : ByteArray := prog_14_method_49_code
def yX12_notes : MethodName := ⟨RX12, "notes", "()V"⟩
abbrev cX12_doings : ByteArray := prog_14_method_50_code
def yX12_doings : MethodName := ⟨RX12, "doings", "()I"⟩
abbrev cX12_nines : ByteArray := prog_14_method_51_code
def yX12_nines : MethodName := ⟨RX12, "nines", "(I)I"⟩
abbrev cX12_isDoings : ByteArray := prog_14_method_52_code
def yX12_isDoings : MethodName := ⟨RX12, "isDoings", "(J)Z"⟩
abbrev cX12_would : ByteArray := prog_14_method_53_code
def yX12_would : MethodName := ⟨RX12, "would", "(II)I"⟩
abbrev cX12_step : ByteArray := prog_14_method_54_code
def yX12_step : MethodName := ⟨RX12, "step", "(I)I"⟩
abbrev cX12_undo : ByteArray := prog_14_method_55_code
def yX12_undo : MethodName := ⟨RX12, "undo", "(I)I"⟩
abbrev cX12_hours : ByteArray := prog_14_method_56_code
def yX12_hours : MethodName := ⟨RX12, "hours", "(I)I"⟩
abbrev cX12_noTray : ByteArray := prog_14_method_57_code
def yX12_noTray : MethodName := ⟨RX12, "noTray", "(I)I"⟩
abbrev cX12_judge : ByteArray := prog_14_method_58_code
def yX12_judge : MethodName := ⟨RX12, "judge", "(II)I"⟩
abbrev cX12_perform : ByteArray := prog_14_method_59_code
def yX12_perform : MethodName := ⟨RX12, "perform", "(I)I"⟩
abbrev cX12_draw : ByteArray := prog_14_method_60_code
def yX12_draw : MethodName := ⟨RX12, "draw", "(I)I"⟩
abbrev cX12_day : ByteArray := prog_14_method_61_code
def yX12_day : MethodName := ⟨RX12, "day", "(II)I"⟩
abbrev cX12_fails_ : ByteArray := prog_14_method_62_code
def yX12_fails_ : MethodName := ⟨RX12, "fails", "(II)I"⟩
abbrev cX12_round : ByteArray := prog_14_method_63_code
def yX12_round : MethodName := ⟨RX12, "round", "(II)I"⟩
abbrev cX12_forgets : ByteArray := prog_14_method_64_code
def yX12_forgets : MethodName := ⟨RX12, "forgets", "()V"⟩
abbrev cX12_loads : ByteArray := prog_14_method_65_code
def yX12_loads : MethodName := ⟨RX12, "loads", "([II)V"⟩
abbrev cX12_isThis : ByteArray := prog_14_method_66_code
def yX12_isThis : MethodName := ⟨RX12, "isThis", "(I)Z"⟩
abbrev cX12_meets : ByteArray := prog_14_method_67_code
def yX12_meets : MethodName := ⟨RX12, "meets", "(II)Z"⟩
abbrev cX12_isThere : ByteArray := prog_14_method_68_code
def yX12_isThere : MethodName := ⟨RX12, "isThere", "(II)Z"⟩
abbrev cX12_seeks : ByteArray := prog_14_method_69_code
def yX12_seeks : MethodName := ⟨RX12, "seeks", "(III)I"⟩
abbrev cX12_isPlace : ByteArray := prog_14_method_70_code
def yX12_isPlace : MethodName := ⟨RX12, "isPlace", "(I)Z"⟩
abbrev cX12_soonest : ByteArray := prog_14_method_71_code
def yX12_soonest : MethodName := ⟨RX12, "soonest", "(IIII)I"⟩
abbrev cX12_laysLevel : ByteArray := prog_14_method_72_code
def yX12_laysLevel : MethodName := ⟨RX12, "laysLevel", "(II)V"⟩
abbrev cX12_states : ByteArray := prog_14_method_73_code
def yX12_states : MethodName := ⟨RX12, "states", "(II)I"⟩
abbrev cX12_reach : ByteArray := prog_14_method_74_code
def yX12_reach : MethodName := ⟨RX12, "reach", "(II)I"⟩
abbrev cX12_noSeen : ByteArray := prog_14_method_75_code
def yX12_noSeen : MethodName := ⟨RX12, "noSeen", "(I)I"⟩
abbrev cX12_seenTold : ByteArray := prog_14_method_76_code
def yX12_seenTold : MethodName := ⟨RX12, "seenTold", "(II)I"⟩
abbrev cX12_byLaw : ByteArray := prog_14_method_77_code
def yX12_byLaw : MethodName := ⟨RX12, "byLaw", "(II)I"⟩
abbrev cX12_isFit : ByteArray := prog_14_method_78_code
def yX12_isFit : MethodName := ⟨RX12, "isFit", "(II)Z"⟩
abbrev cX12_laysFits : ByteArray := prog_14_method_79_code
def yX12_laysFits : MethodName := ⟨RX12, "laysFits", "(I)V"⟩
abbrev cX12_fits : ByteArray := prog_14_method_80_code
def yX12_fits : MethodName := ⟨RX12, "fits", "(I)I"⟩
abbrev cX12_bitsOf : ByteArray := prog_14_method_81_code
def yX12_bitsOf : MethodName := ⟨RX12, "bitsOf", "(I)I"⟩
abbrev cX12_smallest : ByteArray := prog_14_method_82_code
def yX12_smallest : MethodName := ⟨RX12, "smallest", "(II)I"⟩
abbrev cX12_sure : ByteArray := prog_14_method_83_code
def yX12_sure : MethodName := ⟨RX12, "sure", "(I)I"⟩
abbrev cX12_leftBy : ByteArray := prog_14_method_84_code
def yX12_leftBy : MethodName := ⟨RX12, "leftBy", "(II)I"⟩
abbrev cX12_telling : ByteArray := prog_14_method_85_code
def yX12_telling : MethodName := ⟨RX12, "telling", "(II)I"⟩
abbrev cX12_goesMeant : ByteArray := prog_14_method_86_code
def yX12_goesMeant : MethodName := ⟨RX12, "goesMeant", "(IIII)V"⟩
abbrev cX12_laysMeant : ByteArray := prog_14_method_87_code
def yX12_laysMeant : MethodName := ⟨RX12, "laysMeant", "(IIIZ)I"⟩
abbrev cX12_meant : ByteArray := prog_14_method_88_code
def yX12_meant : MethodName := ⟨RX12, "meant", "(III)I"⟩
abbrev cX12_maybe : ByteArray := prog_14_method_89_code
def yX12_maybe : MethodName := ⟨RX12, "maybe", "(III)I"⟩
abbrev cX12_odds : ByteArray := prog_14_method_90_code
def yX12_odds : MethodName := ⟨RX12, "odds", "(III)J"⟩
abbrev cX12_canWin : ByteArray := prog_14_method_91_code
def yX12_canWin : MethodName := ⟨RX12, "canWin", "(IIII)Z"⟩
abbrev cX12_winsBy : ByteArray := prog_14_method_92_code
def yX12_winsBy : MethodName := ⟨RX12, "winsBy", "(IIIII)Z"⟩
abbrev cX12_winOf : ByteArray := prog_14_method_93_code
def yX12_winOf : MethodName := ⟨RX12, "winOf", "(III)I"⟩
abbrev cX12_isGame : ByteArray := prog_14_method_94_code
def yX12_isGame : MethodName := ⟨RX12, "isGame", "(II)Z"⟩
abbrev cX12_win : ByteArray := prog_14_method_95_code
def yX12_win : MethodName := ⟨RX12, "win", "(III)I"⟩
abbrev cX12_wins : ByteArray := prog_14_method_96_code
def yX12_wins : MethodName := ⟨RX12, "wins", "(II)I"⟩
abbrev cX12_owed : ByteArray := prog_14_method_97_code
def yX12_owed : MethodName := ⟨RX12, "owed", "(II)I"⟩
abbrev cX12_lends : ByteArray := prog_14_method_98_code
def yX12_lends : MethodName := ⟨RX12, "lends", "(III)I"⟩
abbrev cX12_owes : ByteArray := prog_14_method_99_code
def yX12_owes : MethodName := ⟨RX12, "owes", "(IIZ)I"⟩
abbrev cX12_balanceOf : ByteArray := prog_14_method_100_code
def yX12_balanceOf : MethodName := ⟨RX12, "balanceOf", "(I)I"⟩
abbrev cX12_balance : ByteArray := prog_14_method_101_code
def yX12_balance : MethodName := ⟨RX12, "balance", "(IZ)I"⟩
abbrev cX12_clears : ByteArray := prog_14_method_102_code
def yX12_clears : MethodName := ⟨RX12, "clears", "(III)I"⟩
abbrev cX12_clear : ByteArray := prog_14_method_103_code
def yX12_clear : MethodName := ⟨RX12, "clear", "()I"⟩
abbrev cX12_payments : ByteArray := prog_14_method_104_code
def yX12_payments : MethodName := ⟨RX12, "payments", "()I"⟩
abbrev cX12_cut : ByteArray := prog_14_method_105_code
def yX12_cut : MethodName := ⟨RX12, "cut", "(JI)J"⟩
abbrev cX12_numbers : ByteArray := prog_14_method_106_code
def yX12_numbers : MethodName := ⟨RX12, "numbers", "(III)I"⟩
abbrev cX12_write : ByteArray := prog_14_method_107_code
def yX12_write : MethodName := ⟨RX12, "write", "(IIJ)J"⟩
abbrev cX12_lists : ByteArray := prog_14_method_108_code
def yX12_lists : MethodName := ⟨RX12, "lists", "(I)I"⟩
abbrev cX12_image : ByteArray := prog_14_method_109_code
def yX12_image : MethodName := ⟨RX12, "image", "(I)I"⟩
abbrev cX12_restore : ByteArray := prog_14_method_110_code
def yX12_restore : MethodName := ⟨RX12, "restore", "(I)I"⟩
abbrev cX12_count : ByteArray := prog_14_method_111_code
def yX12_count : MethodName := ⟨RX12, "count", "(I)I"⟩
def RJ11 : String := "java/lang/Character"
def TJ11 : u_T := fun k => match k with
  | _ => ("", "", "", false)
def tyJ11 : Nat → FieldType := fun k => match k with
  | _ => .int
abbrev wsJ110 : List Cond := u_ws RJ11 TJ11 0
theorem nmJ11 : ∀ a, a < 0 → ∀ b, b < 0 → a ≠ b → (TJ11 a).2.1 ≠ (TJ11 b).2.1 := by decide +kernel
theorem tyJ11_ok : ∀ k, k < 0 → parseFieldDescriptor (TJ11 k).2.2.1 = some (tyJ11 k) := by decide +kernel
abbrev cJ11_isValidCodePoint_9a6ad : ByteArray := prog_15_method_11_code
def yJ11_isValidCodePoint_9a6ad : MethodName := ⟨RJ11, "isValidCodePoint", "(I)Z"⟩
abbrev cJ11_highSurrogate_5068e : ByteArray := prog_15_method_28_code
def yJ11_highSurrogate_5068e : MethodName := ⟨RJ11, "highSurrogate", "(I)C"⟩
abbrev cJ11_lowSurrogate_5068e : ByteArray := prog_15_method_29_code
def yJ11_lowSurrogate_5068e : MethodName := ⟨RJ11, "lowSurrogate", "(I)C"⟩
def RJ6 : String := "java/lang/Integer"
def TJ6 : u_T := fun k => match k with
  | _ => ("", "", "", false)
def tyJ6 : Nat → FieldType := fun k => match k with
  | _ => .int
abbrev wsJ60 : List Cond := u_ws RJ6 TJ6 0
theorem nmJ6 : ∀ a, a < 0 → ∀ b, b < 0 → a ≠ b → (TJ6 a).2.1 ≠ (TJ6 b).2.1 := by decide +kernel
theorem tyJ6_ok : ∀ k, k < 0 → parseFieldDescriptor (TJ6 k).2.2.1 = some (tyJ6 k) := by decide +kernel
abbrev cJ6_bitCount_0f7a4 : ByteArray := prog_16_method_49_code
def yJ6_bitCount_0f7a4 : MethodName := ⟨RJ6, "bitCount", "(I)I"⟩
def RJ13 : String := "java/lang/Long"
def TJ13 : u_T := fun k => match k with
  | _ => ("", "", "", false)
def tyJ13 : Nat → FieldType := fun k => match k with
  | _ => .int
abbrev wsJ130 : List Cond := u_ws RJ13 TJ13 0
theorem nmJ13 : ∀ a, a < 0 → ∀ b, b < 0 → a ≠ b → (TJ13 a).2.1 ≠ (TJ13 b).2.1 := by decide +kernel
theorem tyJ13_ok : ∀ k, k < 0 → parseFieldDescriptor (TJ13 k).2.2.1 = some (tyJ13 k) := by decide +kernel
abbrev cJ13_bitCount_95d88 : ByteArray := prog_17_method_50_code
def yJ13_bitCount_95d88 : MethodName := ⟨RJ13, "bitCount", "(J)I"⟩
def RJ9 : String := "java/lang/Math"
def TJ9 : u_T := fun k => match k with
  | _ => ("", "", "", false)
def tyJ9 : Nat → FieldType := fun k => match k with
  | _ => .int
abbrev wsJ90 : List Cond := u_ws RJ9 TJ9 0
theorem nmJ9 : ∀ a, a < 0 → ∀ b, b < 0 → a ≠ b → (TJ9 a).2.1 ≠ (TJ9 b).2.1 := by decide +kernel
theorem tyJ9_ok : ∀ k, k < 0 → parseFieldDescriptor (TJ9 k).2.2.1 = some (tyJ9 k) := by decide +kernel
abbrev cJ9_floorMod_7cf53 : ByteArray := prog_18_method_50_code
def yJ9_floorMod_7cf53 : MethodName := ⟨RJ9, "floorMod", "(II)I"⟩
abbrev cJ9_max_7cf53 : ByteArray := prog_18_method_65_code
def yJ9_max_7cf53 : MethodName := ⟨RJ9, "max", "(II)I"⟩
abbrev cJ9_min_7cf53 : ByteArray := prog_18_method_69_code
def yJ9_min_7cf53 : MethodName := ⟨RJ9, "min", "(II)I"⟩
def RJ0 : String := "java/lang/String"
def TJ0 : u_T := fun k => match k with
  | _ => ("", "", "", false)
def tyJ0 : Nat → FieldType := fun k => match k with
  | _ => .int
abbrev wsJ00 : List Cond := u_ws RJ0 TJ0 0
theorem nmJ0 : ∀ a, a < 0 → ∀ b, b < 0 → a ≠ b → (TJ0 a).2.1 ≠ (TJ0 b).2.1 := by decide +kernel
theorem tyJ0_ok : ∀ k, k < 0 → parseFieldDescriptor (TJ0 k).2.2.1 = some (tyJ0 k) := by decide +kernel
abbrev cJ0_length_8abf5 : ByteArray := prog_19_method_54_code
def yJ0_length_8abf5 : MethodName := ⟨RJ0, "length", "()I"⟩
abbrev cJ0_charAt_5068e : ByteArray := prog_19_method_56_code
def yJ0_charAt_5068e : MethodName := ⟨RJ0, "charAt", "(I)C"⟩
abbrev cJ0_indexOf_0f7a4 : ByteArray := prog_19_method_79_code
def yJ0_indexOf_0f7a4 : MethodName := ⟨RJ0, "indexOf", "(I)I"⟩
abbrev cJ0_indexOf_7cf53 : ByteArray := prog_19_method_80_code
def yJ0_indexOf_7cf53 : MethodName := ⟨RJ0, "indexOf", "(II)I"⟩
abbrev cJ0_coder_7d493 : ByteArray := prog_19_method_152_code
def yJ0_coder_7d493 : MethodName := ⟨RJ0, "coder", "()B"⟩
abbrev cJ0_isLatin1_aae02 : ByteArray := prog_19_method_154_code
def yJ0_isLatin1_aae02 : MethodName := ⟨RJ0, "isLatin1", "()Z"⟩
abbrev cJ0_checkIndex_df160 : ByteArray := prog_19_method_155_code
def yJ0_checkIndex_df160 : MethodName := ⟨RJ0, "checkIndex", "(II)V"⟩
abbrev cJ0_checkBoundsBeginEnd_23922 : ByteArray := prog_19_method_158_code
def yJ0_checkBoundsBeginEnd_23922 : MethodName := ⟨RJ0, "checkBoundsBeginEnd", "(III)V"⟩
def RJ1 : String := "java/lang/StringLatin1"
def TJ1 : u_T := fun k => match k with
  | _ => ("", "", "", false)
def tyJ1 : Nat → FieldType := fun k => match k with
  | _ => .int
abbrev wsJ10 : List Cond := u_ws RJ1 TJ1 0
theorem nmJ1 : ∀ a, a < 0 → ∀ b, b < 0 → a ≠ b → (TJ1 a).2.1 ≠ (TJ1 b).2.1 := by decide +kernel
theorem tyJ1_ok : ∀ k, k < 0 → parseFieldDescriptor (TJ1 k).2.2.1 = some (tyJ1 k) := by decide +kernel
abbrev cJ1_charAt_3b067 : ByteArray := prog_20_method_2_code
def yJ1_charAt_3b067 : MethodName := ⟨RJ1, "charAt", "([BI)C"⟩
abbrev cJ1_canEncode_9a6ad : ByteArray := prog_20_method_4_code
def yJ1_canEncode_9a6ad : MethodName := ⟨RJ1, "canEncode", "(I)Z"⟩
abbrev cJ1_indexOf_4cfef : ByteArray := prog_20_method_22_code
def yJ1_indexOf_4cfef : MethodName := ⟨RJ1, "indexOf", "([BIII)I"⟩
abbrev cJ1_indexOfChar_4cfef : ByteArray := prog_20_method_23_code
def yJ1_indexOfChar_4cfef : MethodName := ⟨RJ1, "indexOfChar", "([BIII)I"⟩
def RJ2 : String := "java/lang/StringUTF16"
def TJ2 : u_T := fun k => match k with
  | _ => ("", "", "", false)
def tyJ2 : Nat → FieldType := fun k => match k with
  | _ => .int
abbrev wsJ20 : List Cond := u_ws RJ2 TJ2 0
theorem nmJ2 : ∀ a, a < 0 → ∀ b, b < 0 → a ≠ b → (TJ2 a).2.1 ≠ (TJ2 b).2.1 := by decide +kernel
theorem tyJ2_ok : ∀ k, k < 0 → parseFieldDescriptor (TJ2 k).2.2.1 = some (tyJ2 k) := by decide +kernel
abbrev cJ2_getChar_3b067 : ByteArray := prog_21_method_5_code
def yJ2_getChar_3b067 : MethodName := ⟨RJ2, "getChar", "([BI)C"⟩
abbrev cJ2_length_9d52b : ByteArray := prog_21_method_6_code
def yJ2_length_9d52b : MethodName := ⟨RJ2, "length", "([B)I"⟩
abbrev cJ2_indexOf_4cfef : ByteArray := prog_21_method_40_code
def yJ2_indexOf_4cfef : MethodName := ⟨RJ2, "indexOf", "([BIII)I"⟩
abbrev cJ2_indexOfChar_4cfef : ByteArray := prog_21_method_47_code
def yJ2_indexOfChar_4cfef : MethodName := ⟨RJ2, "indexOfChar", "([BIII)I"⟩
abbrev cJ2_indexOfCharUnsafe_4cfef : ByteArray := prog_21_method_48_code
def yJ2_indexOfCharUnsafe_4cfef : MethodName := ⟨RJ2, "indexOfCharUnsafe", "([BIII)I"⟩
abbrev cJ2_indexOfSupplementary_4cfef : ByteArray := prog_21_method_49_code
def yJ2_indexOfSupplementary_4cfef : MethodName := ⟨RJ2, "indexOfSupplementary", "([BIII)I"⟩
abbrev cJ2_charAt_3b067 : ByteArray := prog_21_method_83_code
def yJ2_charAt_3b067 : MethodName := ⟨RJ2, "charAt", "([BI)C"⟩
abbrev cJ2_checkIndex_2214a : ByteArray := prog_21_method_91_code
def yJ2_checkIndex_2214a : MethodName := ⟨RJ2, "checkIndex", "(I[B)V"⟩
abbrev cJ2_checkBoundsBeginEnd_d044e : ByteArray := prog_21_method_93_code
def yJ2_checkBoundsBeginEnd_d044e : MethodName := ⟨RJ2, "checkBoundsBeginEnd", "(II[B)V"⟩
def RJ10 : String := "java/lang/System"
def TJ10 : u_T := fun k => match k with
  | _ => ("", "", "", false)
def tyJ10 : Nat → FieldType := fun k => match k with
  | _ => .int
abbrev wsJ100 : List Cond := u_ws RJ10 TJ10 0
theorem nmJ10 : ∀ a, a < 0 → ∀ b, b < 0 → a ≠ b → (TJ10 a).2.1 ≠ (TJ10 b).2.1 := by decide +kernel
theorem tyJ10_ok : ∀ k, k < 0 → parseFieldDescriptor (TJ10 k).2.2.1 = some (tyJ10 k) := by decide +kernel
def RJ3 : String := "jdk/internal/util/Preconditions"
def TJ3 : u_T := fun k => match k with
  | _ => ("", "", "", false)
def tyJ3 : Nat → FieldType := fun k => match k with
  | _ => .int
abbrev wsJ30 : List Cond := u_ws RJ3 TJ3 0
theorem nmJ3 : ∀ a, a < 0 → ∀ b, b < 0 → a ≠ b → (TJ3 a).2.1 ≠ (TJ3 b).2.1 := by decide +kernel
theorem tyJ3_ok : ∀ k, k < 0 → parseFieldDescriptor (TJ3 k).2.2.1 = some (tyJ3 k) := by decide +kernel
abbrev cJ3_checkIndex_8e157 : ByteArray := prog_23_method_11_code
def yJ3_checkIndex_8e157 : MethodName := ⟨RJ3, "checkIndex", "(IILjava/util/function/BiFunction;)I"⟩
abbrev cJ3_checkFromToIndex_8c36e : ByteArray := prog_23_method_12_code
def yJ3_checkFromToIndex_8c36e : MethodName := ⟨RJ3, "checkFromToIndex", "(IIILjava/util/function/BiFunction;)I"⟩
def R_law : String := "LateMirrorLaw"
abbrev vwCl : List vw_C := [(RX0, TX0, 15), (RX2, TX2, 4), (RX3, TX3, 13), (RX4, TX4, 3), (RX5, TX5, 12), (RX6, TX6, 3), (RX7, TX7, 19), (RX8, TX8, 10), (RX9, TX9, 8), (RX10, TX10, 3), (RX11, TX11, 13), (RX12, TX12, 51)]
