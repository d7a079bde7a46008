-- ===== PART A: goes FIRST, ahead of the names: the tables' words, and 'selects' of the private methods out of them =====
/-- a private method of a class that the tables say can be made, by its rows of tables_1 -/
def lw_okq (q : MethodName × Nat) : Prop := (q.1.cls ≠ "java/lang/invoke/MethodHandle" ∧ q.1.cls ≠ "java/lang/invoke/VarHandle") ∧ Cond.instantiable q.1.cls q.2 ∈ tables_1 ∧ Cond.privateMethod q.1 ∈ tables_1 ∧ Cond.instanceMethod q.1 ∈ tables_1
theorem lw_p0 : lw_okq (⟨"WatchSleep$Natural", "append", "(J)V"⟩, 2) := ⟨⟨by decide +kernel, by decide +kernel⟩, List.mem_of_getElem? (i := 236) (by decide +kernel), List.mem_of_getElem? (i := 274) (by decide +kernel), List.mem_of_getElem? (i := 275) (by decide +kernel)⟩
theorem lw_p1 : lw_okq (⟨"WatchSleep", "refuse", "(I)I"⟩, 9) := ⟨⟨by decide +kernel, by decide +kernel⟩, List.mem_of_getElem? (i := 20) (by decide +kernel), List.mem_of_getElem? (i := 320) (by decide +kernel), List.mem_of_getElem? (i := 321) (by decide +kernel)⟩
theorem lw_p2 : lw_okq (⟨"WatchSleep", "isPost", "(I)Z"⟩, 9) := ⟨⟨by decide +kernel, by decide +kernel⟩, List.mem_of_getElem? (i := 20) (by decide +kernel), List.mem_of_getElem? (i := 329) (by decide +kernel), List.mem_of_getElem? (i := 330) (by decide +kernel)⟩
theorem lw_p3 : lw_okq (⟨"WatchSleep$WallText", "advance", "()V"⟩, 7) := ⟨⟨by decide +kernel, by decide +kernel⟩, List.mem_of_getElem? (i := 127) (by decide +kernel), List.mem_of_getElem? (i := 360) (by decide +kernel), List.mem_of_getElem? (i := 361) (by decide +kernel)⟩
theorem lw_p4 : lw_okq (⟨"WatchSleep$WallText", "takeFigures", "()V"⟩, 7) := ⟨⟨by decide +kernel, by decide +kernel⟩, List.mem_of_getElem? (i := 127) (by decide +kernel), List.mem_of_getElem? (i := 370) (by decide +kernel), List.mem_of_getElem? (i := 371) (by decide +kernel)⟩
theorem lw_p5 : lw_okq (⟨"WatchSleep$WallText", "isWord", "(Ljava/lang/String;)Z"⟩, 7) := ⟨⟨by decide +kernel, by decide +kernel⟩, List.mem_of_getElem? (i := 127) (by decide +kernel), List.mem_of_getElem? (i := 375) (by decide +kernel), List.mem_of_getElem? (i := 376) (by decide +kernel)⟩
theorem lw_p6 : lw_okq (⟨"WatchSleep$WallText", "numberComes", "(II)Z"⟩, 7) := ⟨⟨by decide +kernel, by decide +kernel⟩, List.mem_of_getElem? (i := 127) (by decide +kernel), List.mem_of_getElem? (i := 427) (by decide +kernel), List.mem_of_getElem? (i := 428) (by decide +kernel)⟩
theorem lw_p7 : lw_okq (⟨"WatchSleep$WallText", "semicolonComes", "()Z"⟩, 7) := ⟨⟨by decide +kernel, by decide +kernel⟩, List.mem_of_getElem? (i := 127) (by decide +kernel), List.mem_of_getElem? (i := 432) (by decide +kernel), List.mem_of_getElem? (i := 433) (by decide +kernel)⟩
theorem lw_p8 : lw_okq (⟨"WatchSleep$WallText", "itemEnds", "()Z"⟩, 7) := ⟨⟨by decide +kernel, by decide +kernel⟩, List.mem_of_getElem? (i := 127) (by decide +kernel), List.mem_of_getElem? (i := 436) (by decide +kernel), List.mem_of_getElem? (i := 437) (by decide +kernel)⟩
theorem lw_p9 : lw_okq (⟨"WatchSleep$WallText", "rowOfWord", "()I"⟩, 7) := ⟨⟨by decide +kernel, by decide +kernel⟩, List.mem_of_getElem? (i := 127) (by decide +kernel), List.mem_of_getElem? (i := 440) (by decide +kernel), List.mem_of_getElem? (i := 441) (by decide +kernel)⟩
theorem lw_p10 : lw_okq (⟨"WatchSleep$Watch", "copyRows", "(LWatchSleep$Watch;)V"⟩, 14) := ⟨⟨by decide +kernel, by decide +kernel⟩, List.mem_of_getElem? (i := 28) (by decide +kernel), List.mem_of_getElem? (i := 452) (by decide +kernel), List.mem_of_getElem? (i := 453) (by decide +kernel)⟩
theorem lw_p11 : lw_okq (⟨"WatchSleep$Rule", "takeDigits", "([III)I"⟩, 9) := ⟨⟨by decide +kernel, by decide +kernel⟩, List.mem_of_getElem? (i := 166) (by decide +kernel), List.mem_of_getElem? (i := 479) (by decide +kernel), List.mem_of_getElem? (i := 480) (by decide +kernel)⟩
theorem lw_p12 : lw_okq (⟨"WatchSleep$Rule", "emit", "(I)V"⟩, 9) := ⟨⟨by decide +kernel, by decide +kernel⟩, List.mem_of_getElem? (i := 166) (by decide +kernel), List.mem_of_getElem? (i := 483) (by decide +kernel), List.mem_of_getElem? (i := 484) (by decide +kernel)⟩
theorem lw_p13 : lw_okq (⟨"WatchSleep$Rule", "takeBeginning", "(II)V"⟩, 9) := ⟨⟨by decide +kernel, by decide +kernel⟩, List.mem_of_getElem? (i := 166) (by decide +kernel), List.mem_of_getElem? (i := 487) (by decide +kernel), List.mem_of_getElem? (i := 488) (by decide +kernel)⟩
theorem lw_p14 : lw_okq (⟨"WatchSleep$Rule", "hold", "(I)V"⟩, 9) := ⟨⟨by decide +kernel, by decide +kernel⟩, List.mem_of_getElem? (i := 166) (by decide +kernel), List.mem_of_getElem? (i := 491) (by decide +kernel), List.mem_of_getElem? (i := 492) (by decide +kernel)⟩
theorem lw_p15 : lw_okq (⟨"WatchSleep$Rule", "takeBehind", "(II)V"⟩, 9) := ⟨⟨by decide +kernel, by decide +kernel⟩, List.mem_of_getElem? (i := 166) (by decide +kernel), List.mem_of_getElem? (i := 498) (by decide +kernel), List.mem_of_getElem? (i := 499) (by decide +kernel)⟩
def lw_privs_1 : List (MethodName × Nat) := [(⟨"WatchSleep$Natural", "append", "(J)V"⟩, 2), (⟨"WatchSleep", "refuse", "(I)I"⟩, 9), (⟨"WatchSleep", "isPost", "(I)Z"⟩, 9), (⟨"WatchSleep$WallText", "advance", "()V"⟩, 7), (⟨"WatchSleep$WallText", "takeFigures", "()V"⟩, 7), (⟨"WatchSleep$WallText", "isWord", "(Ljava/lang/String;)Z"⟩, 7), (⟨"WatchSleep$WallText", "numberComes", "(II)Z"⟩, 7), (⟨"WatchSleep$WallText", "semicolonComes", "()Z"⟩, 7), (⟨"WatchSleep$WallText", "itemEnds", "()Z"⟩, 7), (⟨"WatchSleep$WallText", "rowOfWord", "()I"⟩, 7), (⟨"WatchSleep$Watch", "copyRows", "(LWatchSleep$Watch;)V"⟩, 14), (⟨"WatchSleep$Rule", "takeDigits", "([III)I"⟩, 9), (⟨"WatchSleep$Rule", "emit", "(I)V"⟩, 9), (⟨"WatchSleep$Rule", "takeBeginning", "(II)V"⟩, 9), (⟨"WatchSleep$Rule", "hold", "(I)V"⟩, 9), (⟨"WatchSleep$Rule", "takeBehind", "(II)V"⟩, 9)]
theorem lw_r1 : ∀ q ∈ lw_privs_1, lw_okq q := List.forall_mem_cons.mpr ⟨lw_p0, List.forall_mem_cons.mpr ⟨lw_p1, List.forall_mem_cons.mpr ⟨lw_p2, List.forall_mem_cons.mpr ⟨lw_p3, List.forall_mem_cons.mpr ⟨lw_p4, List.forall_mem_cons.mpr ⟨lw_p5, List.forall_mem_cons.mpr ⟨lw_p6, List.forall_mem_cons.mpr ⟨lw_p7, List.forall_mem_cons.mpr ⟨lw_p8, List.forall_mem_cons.mpr ⟨lw_p9, List.forall_mem_cons.mpr ⟨lw_p10, List.forall_mem_cons.mpr ⟨lw_p11, List.forall_mem_cons.mpr ⟨lw_p12, List.forall_mem_cons.mpr ⟨lw_p13, List.forall_mem_cons.mpr ⟨lw_p14, List.forall_mem_cons.mpr ⟨lw_p15, fun _ h => absurd h List.not_mem_nil⟩⟩⟩⟩⟩⟩⟩⟩⟩⟩⟩⟩⟩⟩⟩⟩
theorem lw_p16 : lw_okq (⟨"WatchSleep$Rule", "release", "(I)V"⟩, 9) := ⟨⟨by decide +kernel, by decide +kernel⟩, List.mem_of_getElem? (i := 166) (by decide +kernel), List.mem_of_getElem? (i := 505) (by decide +kernel), List.mem_of_getElem? (i := 506) (by decide +kernel)⟩
theorem lw_p17 : lw_okq (⟨"WatchSleep$Captain", "byRule", "(LWatchSleep$Watch;I)I"⟩, 1) := ⟨⟨by decide +kernel, by decide +kernel⟩, List.mem_of_getElem? (i := 160) (by decide +kernel), List.mem_of_getElem? (i := 526) (by decide +kernel), List.mem_of_getElem? (i := 527) (by decide +kernel)⟩
theorem lw_p18 : lw_okq (⟨"WatchSleep$Natural", "trim", "()V"⟩, 2) := ⟨⟨by decide +kernel, by decide +kernel⟩, List.mem_of_getElem? (i := 236) (by decide +kernel), List.mem_of_getElem? (i := 619) (by decide +kernel), List.mem_of_getElem? (i := 620) (by decide +kernel)⟩
theorem lw_p19 : lw_okq (⟨"WatchSleep$Fraction", "cancel", "(I)V"⟩, 2) := ⟨⟨by decide +kernel, by decide +kernel⟩, List.mem_of_getElem? (i := 262) (by decide +kernel), List.mem_of_getElem? (i := 641) (by decide +kernel), List.mem_of_getElem? (i := 642) (by decide +kernel)⟩
theorem lw_p20 : lw_okq (⟨"WatchSleep$Balance", "sortWorths", "(LWatchSleep$Watch;)V"⟩, 4) := ⟨⟨by decide +kernel, by decide +kernel⟩, List.mem_of_getElem? (i := 209) (by decide +kernel), List.mem_of_getElem? (i := 665) (by decide +kernel), List.mem_of_getElem? (i := 666) (by decide +kernel)⟩
theorem lw_p21 : lw_okq (⟨"WatchSleep$Balance", "share", "(II)V"⟩, 4) := ⟨⟨by decide +kernel, by decide +kernel⟩, List.mem_of_getElem? (i := 209) (by decide +kernel), List.mem_of_getElem? (i := 669) (by decide +kernel), List.mem_of_getElem? (i := 670) (by decide +kernel)⟩
theorem lw_p22 : lw_okq (⟨"WatchSleep$Thieves", "addChances", "(IIII)V"⟩, 3) := ⟨⟨by decide +kernel, by decide +kernel⟩, List.mem_of_getElem? (i := 230) (by decide +kernel), List.mem_of_getElem? (i := 787) (by decide +kernel), List.mem_of_getElem? (i := 788) (by decide +kernel)⟩
theorem lw_p23 : lw_okq (⟨"WatchSleep", "howMany", "(I)I"⟩, 9) := ⟨⟨by decide +kernel, by decide +kernel⟩, List.mem_of_getElem? (i := 20) (by decide +kernel), List.mem_of_getElem? (i := 833) (by decide +kernel), List.mem_of_getElem? (i := 834) (by decide +kernel)⟩
theorem lw_p24 : lw_okq (⟨"WatchSleepModel", "set", "(IJ)V"⟩, 24) := ⟨⟨by decide +kernel, by decide +kernel⟩, List.mem_of_getElem? (i := 852) (by decide +kernel), List.mem_of_getElem? (i := 858) (by decide +kernel), List.mem_of_getElem? (i := 859) (by decide +kernel)⟩
theorem lw_p25 : lw_okq (⟨"WatchSleepModel", "begin", "(I)V"⟩, 24) := ⟨⟨by decide +kernel, by decide +kernel⟩, List.mem_of_getElem? (i := 852) (by decide +kernel), List.mem_of_getElem? (i := 863) (by decide +kernel), List.mem_of_getElem? (i := 864) (by decide +kernel)⟩
theorem lw_p26 : lw_okq (⟨"WatchSleepModel", "bad", "(I)I"⟩, 24) := ⟨⟨by decide +kernel, by decide +kernel⟩, List.mem_of_getElem? (i := 852) (by decide +kernel), List.mem_of_getElem? (i := 948) (by decide +kernel), List.mem_of_getElem? (i := 949) (by decide +kernel)⟩
theorem lw_p27 : lw_okq (⟨"WatchSleepModel", "watched", "()I"⟩, 24) := ⟨⟨by decide +kernel, by decide +kernel⟩, List.mem_of_getElem? (i := 852) (by decide +kernel), List.mem_of_getElem? (i := 952) (by decide +kernel), List.mem_of_getElem? (i := 953) (by decide +kernel)⟩
theorem lw_p28 : lw_okq (⟨"WatchSleepModel", "isPost", "(I)Z"⟩, 24) := ⟨⟨by decide +kernel, by decide +kernel⟩, List.mem_of_getElem? (i := 852) (by decide +kernel), List.mem_of_getElem? (i := 960) (by decide +kernel), List.mem_of_getElem? (i := 961) (by decide +kernel)⟩
theorem lw_p29 : lw_okq (⟨"WatchSleepModel", "full", "()I"⟩, 24) := ⟨⟨by decide +kernel, by decide +kernel⟩, List.mem_of_getElem? (i := 852) (by decide +kernel), List.mem_of_getElem? (i := 978) (by decide +kernel), List.mem_of_getElem? (i := 979) (by decide +kernel)⟩
theorem lw_p30 : lw_okq (⟨"WatchSleepModel", "reads", "()Z"⟩, 24) := ⟨⟨by decide +kernel, by decide +kernel⟩, List.mem_of_getElem? (i := 852) (by decide +kernel), List.mem_of_getElem? (i := 990) (by decide +kernel), List.mem_of_getElem? (i := 991) (by decide +kernel)⟩
theorem lw_p31 : lw_okq (⟨"WatchSleepModel", "ahead", "()I"⟩, 24) := ⟨⟨by decide +kernel, by decide +kernel⟩, List.mem_of_getElem? (i := 852) (by decide +kernel), List.mem_of_getElem? (i := 994) (by decide +kernel), List.mem_of_getElem? (i := 995) (by decide +kernel)⟩
def lw_privs_2 : List (MethodName × Nat) := [(⟨"WatchSleep$Rule", "release", "(I)V"⟩, 9), (⟨"WatchSleep$Captain", "byRule", "(LWatchSleep$Watch;I)I"⟩, 1), (⟨"WatchSleep$Natural", "trim", "()V"⟩, 2), (⟨"WatchSleep$Fraction", "cancel", "(I)V"⟩, 2), (⟨"WatchSleep$Balance", "sortWorths", "(LWatchSleep$Watch;)V"⟩, 4), (⟨"WatchSleep$Balance", "share", "(II)V"⟩, 4), (⟨"WatchSleep$Thieves", "addChances", "(IIII)V"⟩, 3), (⟨"WatchSleep", "howMany", "(I)I"⟩, 9), (⟨"WatchSleepModel", "set", "(IJ)V"⟩, 24), (⟨"WatchSleepModel", "begin", "(I)V"⟩, 24), (⟨"WatchSleepModel", "bad", "(I)I"⟩, 24), (⟨"WatchSleepModel", "watched", "()I"⟩, 24), (⟨"WatchSleepModel", "isPost", "(I)Z"⟩, 24), (⟨"WatchSleepModel", "full", "()I"⟩, 24), (⟨"WatchSleepModel", "reads", "()Z"⟩, 24), (⟨"WatchSleepModel", "ahead", "()I"⟩, 24)]
theorem lw_r2 : ∀ q ∈ lw_privs_2, lw_okq q := List.forall_mem_cons.mpr ⟨lw_p16, List.forall_mem_cons.mpr ⟨lw_p17, List.forall_mem_cons.mpr ⟨lw_p18, List.forall_mem_cons.mpr ⟨lw_p19, List.forall_mem_cons.mpr ⟨lw_p20, List.forall_mem_cons.mpr ⟨lw_p21, List.forall_mem_cons.mpr ⟨lw_p22, List.forall_mem_cons.mpr ⟨lw_p23, List.forall_mem_cons.mpr ⟨lw_p24, List.forall_mem_cons.mpr ⟨lw_p25, List.forall_mem_cons.mpr ⟨lw_p26, List.forall_mem_cons.mpr ⟨lw_p27, List.forall_mem_cons.mpr ⟨lw_p28, List.forall_mem_cons.mpr ⟨lw_p29, List.forall_mem_cons.mpr ⟨lw_p30, List.forall_mem_cons.mpr ⟨lw_p31, fun _ h => absurd h List.not_mem_nil⟩⟩⟩⟩⟩⟩⟩⟩⟩⟩⟩⟩⟩⟩⟩⟩
theorem lw_p32 : lw_okq (⟨"WatchSleepModel", "ruleLong", "()I"⟩, 24) := ⟨⟨by decide +kernel, by decide +kernel⟩, List.mem_of_getElem? (i := 852) (by decide +kernel), List.mem_of_getElem? (i := 998) (by decide +kernel), List.mem_of_getElem? (i := 999) (by decide +kernel)⟩
theorem lw_p33 : lw_okq (⟨"WatchSleepModel", "charAt", "(I)I"⟩, 24) := ⟨⟨by decide +kernel, by decide +kernel⟩, List.mem_of_getElem? (i := 852) (by decide +kernel), List.mem_of_getElem? (i := 1002) (by decide +kernel), List.mem_of_getElem? (i := 1003) (by decide +kernel)⟩
theorem lw_p34 : lw_okq (⟨"WatchSleepModel", "digits", "()J"⟩, 24) := ⟨⟨by decide +kernel, by decide +kernel⟩, List.mem_of_getElem? (i := 852) (by decide +kernel), List.mem_of_getElem? (i := 1011) (by decide +kernel), List.mem_of_getElem? (i := 1012) (by decide +kernel)⟩
theorem lw_p35 : lw_okq (⟨"WatchSleepModel", "stands", "(J)V"⟩, 24) := ⟨⟨by decide +kernel, by decide +kernel⟩, List.mem_of_getElem? (i := 852) (by decide +kernel), List.mem_of_getElem? (i := 1016) (by decide +kernel), List.mem_of_getElem? (i := 1017) (by decide +kernel)⟩
theorem lw_p36 : lw_okq (⟨"WatchSleepModel", "workDown", "(I)V"⟩, 24) := ⟨⟨by decide +kernel, by decide +kernel⟩, List.mem_of_getElem? (i := 852) (by decide +kernel), List.mem_of_getElem? (i := 1023) (by decide +kernel), List.mem_of_getElem? (i := 1024) (by decide +kernel)⟩
theorem lw_p37 : lw_okq (⟨"WatchSleepModel", "workOut", "()V"⟩, 24) := ⟨⟨by decide +kernel, by decide +kernel⟩, List.mem_of_getElem? (i := 852) (by decide +kernel), List.mem_of_getElem? (i := 1030) (by decide +kernel), List.mem_of_getElem? (i := 1031) (by decide +kernel)⟩
theorem lw_p38 : lw_okq (⟨"WatchSleepModel", "sleeper", "(I)I"⟩, 24) := ⟨⟨by decide +kernel, by decide +kernel⟩, List.mem_of_getElem? (i := 852) (by decide +kernel), List.mem_of_getElem? (i := 1039) (by decide +kernel), List.mem_of_getElem? (i := 1040) (by decide +kernel)⟩
theorem lw_p39 : lw_okq (⟨"WatchSleepModel", "whole", "()I"⟩, 24) := ⟨⟨by decide +kernel, by decide +kernel⟩, List.mem_of_getElem? (i := 852) (by decide +kernel), List.mem_of_getElem? (i := 1043) (by decide +kernel), List.mem_of_getElem? (i := 1044) (by decide +kernel)⟩
theorem lw_p40 : lw_okq (⟨"WatchSleepModel", "byLot", "(I)I"⟩, 24) := ⟨⟨by decide +kernel, by decide +kernel⟩, List.mem_of_getElem? (i := 852) (by decide +kernel), List.mem_of_getElem? (i := 1047) (by decide +kernel), List.mem_of_getElem? (i := 1048) (by decide +kernel)⟩
theorem lw_p41 : lw_okq (⟨"WatchSleepModel", "byRule", "(I)I"⟩, 24) := ⟨⟨by decide +kernel, by decide +kernel⟩, List.mem_of_getElem? (i := 852) (by decide +kernel), List.mem_of_getElem? (i := 1058) (by decide +kernel), List.mem_of_getElem? (i := 1059) (by decide +kernel)⟩
theorem lw_p42 : lw_okq (⟨"WatchSleepModel", "byRound", "(I)I"⟩, 24) := ⟨⟨by decide +kernel, by decide +kernel⟩, List.mem_of_getElem? (i := 852) (by decide +kernel), List.mem_of_getElem? (i := 1062) (by decide +kernel), List.mem_of_getElem? (i := 1063) (by decide +kernel)⟩
theorem lw_p43 : lw_okq (⟨"WatchSleepModel", "no", "()I"⟩, 24) := ⟨⟨by decide +kernel, by decide +kernel⟩, List.mem_of_getElem? (i := 852) (by decide +kernel), List.mem_of_getElem? (i := 1066) (by decide +kernel), List.mem_of_getElem? (i := 1067) (by decide +kernel)⟩
theorem lw_p44 : lw_okq (⟨"WatchSleepModel", "haul", "(I)I"⟩, 24) := ⟨⟨by decide +kernel, by decide +kernel⟩, List.mem_of_getElem? (i := 852) (by decide +kernel), List.mem_of_getElem? (i := 1074) (by decide +kernel), List.mem_of_getElem? (i := 1075) (by decide +kernel)⟩
theorem lw_p45 : lw_okq (⟨"WatchSleepModel", "tellSmall", "(JJ)I"⟩, 24) := ⟨⟨by decide +kernel, by decide +kernel⟩, List.mem_of_getElem? (i := 852) (by decide +kernel), List.mem_of_getElem? (i := 1078) (by decide +kernel), List.mem_of_getElem? (i := 1079) (by decide +kernel)⟩
theorem lw_p46 : lw_okq (⟨"WatchSleepModel", "tell", "(IIZ)V"⟩, 24) := ⟨⟨by decide +kernel, by decide +kernel⟩, List.mem_of_getElem? (i := 852) (by decide +kernel), List.mem_of_getElem? (i := 1082) (by decide +kernel), List.mem_of_getElem? (i := 1083) (by decide +kernel)⟩
theorem lw_p47 : lw_okq (⟨"WatchSleepModel", "findDivisor", "(II)V"⟩, 24) := ⟨⟨by decide +kernel, by decide +kernel⟩, List.mem_of_getElem? (i := 852) (by decide +kernel), List.mem_of_getElem? (i := 1086) (by decide +kernel), List.mem_of_getElem? (i := 1087) (by decide +kernel)⟩
def lw_privs_3 : List (MethodName × Nat) := [(⟨"WatchSleepModel", "ruleLong", "()I"⟩, 24), (⟨"WatchSleepModel", "charAt", "(I)I"⟩, 24), (⟨"WatchSleepModel", "digits", "()J"⟩, 24), (⟨"WatchSleepModel", "stands", "(J)V"⟩, 24), (⟨"WatchSleepModel", "workDown", "(I)V"⟩, 24), (⟨"WatchSleepModel", "workOut", "()V"⟩, 24), (⟨"WatchSleepModel", "sleeper", "(I)I"⟩, 24), (⟨"WatchSleepModel", "whole", "()I"⟩, 24), (⟨"WatchSleepModel", "byLot", "(I)I"⟩, 24), (⟨"WatchSleepModel", "byRule", "(I)I"⟩, 24), (⟨"WatchSleepModel", "byRound", "(I)I"⟩, 24), (⟨"WatchSleepModel", "no", "()I"⟩, 24), (⟨"WatchSleepModel", "haul", "(I)I"⟩, 24), (⟨"WatchSleepModel", "tellSmall", "(JJ)I"⟩, 24), (⟨"WatchSleepModel", "tell", "(IIZ)V"⟩, 24), (⟨"WatchSleepModel", "findDivisor", "(II)V"⟩, 24)]
theorem lw_r3 : ∀ q ∈ lw_privs_3, lw_okq q := List.forall_mem_cons.mpr ⟨lw_p32, List.forall_mem_cons.mpr ⟨lw_p33, List.forall_mem_cons.mpr ⟨lw_p34, List.forall_mem_cons.mpr ⟨lw_p35, List.forall_mem_cons.mpr ⟨lw_p36, List.forall_mem_cons.mpr ⟨lw_p37, List.forall_mem_cons.mpr ⟨lw_p38, List.forall_mem_cons.mpr ⟨lw_p39, List.forall_mem_cons.mpr ⟨lw_p40, List.forall_mem_cons.mpr ⟨lw_p41, List.forall_mem_cons.mpr ⟨lw_p42, List.forall_mem_cons.mpr ⟨lw_p43, List.forall_mem_cons.mpr ⟨lw_p44, List.forall_mem_cons.mpr ⟨lw_p45, List.forall_mem_cons.mpr ⟨lw_p46, List.forall_mem_cons.mpr ⟨lw_p47, fun _ h => absurd h List.not_mem_nil⟩⟩⟩⟩⟩⟩⟩⟩⟩⟩⟩⟩⟩⟩⟩⟩
theorem lw_p48 : lw_okq (⟨"WatchSleepModel", "copy", "(II)V"⟩, 24) := ⟨⟨by decide +kernel, by decide +kernel⟩, List.mem_of_getElem? (i := 852) (by decide +kernel), List.mem_of_getElem? (i := 1090) (by decide +kernel), List.mem_of_getElem? (i := 1091) (by decide +kernel)⟩
theorem lw_p49 : lw_okq (⟨"WatchSleepModel", "isEven", "(I)Z"⟩, 24) := ⟨⟨by decide +kernel, by decide +kernel⟩, List.mem_of_getElem? (i := 852) (by decide +kernel), List.mem_of_getElem? (i := 1094) (by decide +kernel), List.mem_of_getElem? (i := 1095) (by decide +kernel)⟩
theorem lw_p50 : lw_okq (⟨"WatchSleepModel", "halve", "(I)V"⟩, 24) := ⟨⟨by decide +kernel, by decide +kernel⟩, List.mem_of_getElem? (i := 852) (by decide +kernel), List.mem_of_getElem? (i := 1098) (by decide +kernel), List.mem_of_getElem? (i := 1099) (by decide +kernel)⟩
theorem lw_p51 : lw_okq (⟨"WatchSleepModel", "trim", "(I)V"⟩, 24) := ⟨⟨by decide +kernel, by decide +kernel⟩, List.mem_of_getElem? (i := 852) (by decide +kernel), List.mem_of_getElem? (i := 1102) (by decide +kernel), List.mem_of_getElem? (i := 1103) (by decide +kernel)⟩
theorem lw_p52 : lw_okq (⟨"WatchSleepModel", "compare", "(II)I"⟩, 24) := ⟨⟨by decide +kernel, by decide +kernel⟩, List.mem_of_getElem? (i := 852) (by decide +kernel), List.mem_of_getElem? (i := 1106) (by decide +kernel), List.mem_of_getElem? (i := 1107) (by decide +kernel)⟩
theorem lw_p53 : lw_okq (⟨"WatchSleepModel", "take", "(II)V"⟩, 24) := ⟨⟨by decide +kernel, by decide +kernel⟩, List.mem_of_getElem? (i := 852) (by decide +kernel), List.mem_of_getElem? (i := 1110) (by decide +kernel), List.mem_of_getElem? (i := 1111) (by decide +kernel)⟩
theorem lw_p54 : lw_okq (⟨"WatchSleepModel", "times", "(IJ)V"⟩, 24) := ⟨⟨by decide +kernel, by decide +kernel⟩, List.mem_of_getElem? (i := 852) (by decide +kernel), List.mem_of_getElem? (i := 1114) (by decide +kernel), List.mem_of_getElem? (i := 1115) (by decide +kernel)⟩
theorem lw_p55 : lw_okq (⟨"WatchSleepModel", "divide", "(I)V"⟩, 24) := ⟨⟨by decide +kernel, by decide +kernel⟩, List.mem_of_getElem? (i := 852) (by decide +kernel), List.mem_of_getElem? (i := 1118) (by decide +kernel), List.mem_of_getElem? (i := 1119) (by decide +kernel)⟩
theorem lw_p56 : lw_okq (⟨"WatchSleepModel", "addOne", "()V"⟩, 24) := ⟨⟨by decide +kernel, by decide +kernel⟩, List.mem_of_getElem? (i := 852) (by decide +kernel), List.mem_of_getElem? (i := 1122) (by decide +kernel), List.mem_of_getElem? (i := 1123) (by decide +kernel)⟩
theorem lw_p57 : lw_okq (⟨"WatchSleepModel", "bestPost", "()I"⟩, 24) := ⟨⟨by decide +kernel, by decide +kernel⟩, List.mem_of_getElem? (i := 852) (by decide +kernel), List.mem_of_getElem? (i := 1130) (by decide +kernel), List.mem_of_getElem? (i := 1131) (by decide +kernel)⟩
theorem lw_p58 : lw_okq (⟨"WatchSleepModel", "power", "(IJI)V"⟩, 24) := ⟨⟨by decide +kernel, by decide +kernel⟩, List.mem_of_getElem? (i := 852) (by decide +kernel), List.mem_of_getElem? (i := 1142) (by decide +kernel), List.mem_of_getElem? (i := 1143) (by decide +kernel)⟩
theorem lw_p59 : lw_okq (⟨"WatchSleepModel", "layBest", "(I)V"⟩, 24) := ⟨⟨by decide +kernel, by decide +kernel⟩, List.mem_of_getElem? (i := 852) (by decide +kernel), List.mem_of_getElem? (i := 1154) (by decide +kernel), List.mem_of_getElem? (i := 1155) (by decide +kernel)⟩
theorem lw_p60 : lw_okq (⟨"WatchSleepModel", "noughts", "()I"⟩, 24) := ⟨⟨by decide +kernel, by decide +kernel⟩, List.mem_of_getElem? (i := 852) (by decide +kernel), List.mem_of_getElem? (i := 1158) (by decide +kernel), List.mem_of_getElem? (i := 1159) (by decide +kernel)⟩
theorem lw_p61 : lw_okq (⟨"WatchSleepModel", "layOver", "(I)I"⟩, 24) := ⟨⟨by decide +kernel, by decide +kernel⟩, List.mem_of_getElem? (i := 852) (by decide +kernel), List.mem_of_getElem? (i := 1162) (by decide +kernel), List.mem_of_getElem? (i := 1163) (by decide +kernel)⟩
theorem lw_p62 : lw_okq (⟨"WatchSleepModel", "add", "(II)V"⟩, 24) := ⟨⟨by decide +kernel, by decide +kernel⟩, List.mem_of_getElem? (i := 852) (by decide +kernel), List.mem_of_getElem? (i := 1166) (by decide +kernel), List.mem_of_getElem? (i := 1167) (by decide +kernel)⟩
theorem lw_p63 : lw_okq (⟨"WatchSleepModel", "nextWorth", "(I)I"⟩, 24) := ⟨⟨by decide +kernel, by decide +kernel⟩, List.mem_of_getElem? (i := 852) (by decide +kernel), List.mem_of_getElem? (i := 1170) (by decide +kernel), List.mem_of_getElem? (i := 1171) (by decide +kernel)⟩
def lw_privs_4 : List (MethodName × Nat) := [(⟨"WatchSleepModel", "copy", "(II)V"⟩, 24), (⟨"WatchSleepModel", "isEven", "(I)Z"⟩, 24), (⟨"WatchSleepModel", "halve", "(I)V"⟩, 24), (⟨"WatchSleepModel", "trim", "(I)V"⟩, 24), (⟨"WatchSleepModel", "compare", "(II)I"⟩, 24), (⟨"WatchSleepModel", "take", "(II)V"⟩, 24), (⟨"WatchSleepModel", "times", "(IJ)V"⟩, 24), (⟨"WatchSleepModel", "divide", "(I)V"⟩, 24), (⟨"WatchSleepModel", "addOne", "()V"⟩, 24), (⟨"WatchSleepModel", "bestPost", "()I"⟩, 24), (⟨"WatchSleepModel", "power", "(IJI)V"⟩, 24), (⟨"WatchSleepModel", "layBest", "(I)V"⟩, 24), (⟨"WatchSleepModel", "noughts", "()I"⟩, 24), (⟨"WatchSleepModel", "layOver", "(I)I"⟩, 24), (⟨"WatchSleepModel", "add", "(II)V"⟩, 24), (⟨"WatchSleepModel", "nextWorth", "(I)I"⟩, 24)]
theorem lw_r4 : ∀ q ∈ lw_privs_4, lw_okq q := List.forall_mem_cons.mpr ⟨lw_p48, List.forall_mem_cons.mpr ⟨lw_p49, List.forall_mem_cons.mpr ⟨lw_p50, List.forall_mem_cons.mpr ⟨lw_p51, List.forall_mem_cons.mpr ⟨lw_p52, List.forall_mem_cons.mpr ⟨lw_p53, List.forall_mem_cons.mpr ⟨lw_p54, List.forall_mem_cons.mpr ⟨lw_p55, List.forall_mem_cons.mpr ⟨lw_p56, List.forall_mem_cons.mpr ⟨lw_p57, List.forall_mem_cons.mpr ⟨lw_p58, List.forall_mem_cons.mpr ⟨lw_p59, List.forall_mem_cons.mpr ⟨lw_p60, List.forall_mem_cons.mpr ⟨lw_p61, List.forall_mem_cons.mpr ⟨lw_p62, List.forall_mem_cons.mpr ⟨lw_p63, fun _ h => absurd h List.not_mem_nil⟩⟩⟩⟩⟩⟩⟩⟩⟩⟩⟩⟩⟩⟩⟩⟩
theorem lw_p64 : lw_okq (⟨"WatchSleepModel", "product", "(III)V"⟩, 24) := ⟨⟨by decide +kernel, by decide +kernel⟩, List.mem_of_getElem? (i := 852) (by decide +kernel), List.mem_of_getElem? (i := 1182) (by decide +kernel), List.mem_of_getElem? (i := 1183) (by decide +kernel)⟩
theorem lw_p65 : lw_okq (⟨"WatchSleepModel", "needs", "()I"⟩, 24) := ⟨⟨by decide +kernel, by decide +kernel⟩, List.mem_of_getElem? (i := 852) (by decide +kernel), List.mem_of_getElem? (i := 1194) (by decide +kernel), List.mem_of_getElem? (i := 1195) (by decide +kernel)⟩
theorem lw_p66 : lw_okq (⟨"WatchSleepModel", "stretches", "()I"⟩, 24) := ⟨⟨by decide +kernel, by decide +kernel⟩, List.mem_of_getElem? (i := 852) (by decide +kernel), List.mem_of_getElem? (i := 1198) (by decide +kernel), List.mem_of_getElem? (i := 1199) (by decide +kernel)⟩
theorem lw_p67 : lw_okq (⟨"WatchSleepModel", "isSeen", "(II)Z"⟩, 24) := ⟨⟨by decide +kernel, by decide +kernel⟩, List.mem_of_getElem? (i := 852) (by decide +kernel), List.mem_of_getElem? (i := 1234) (by decide +kernel), List.mem_of_getElem? (i := 1235) (by decide +kernel)⟩
theorem lw_p68 : lw_okq (⟨"WatchSleepModel", "layDoubt", "(I)V"⟩, 24) := ⟨⟨by decide +kernel, by decide +kernel⟩, List.mem_of_getElem? (i := 852) (by decide +kernel), List.mem_of_getElem? (i := 1251) (by decide +kernel), List.mem_of_getElem? (i := 1252) (by decide +kernel)⟩
theorem lw_p69 : lw_okq (⟨"WatchSleepModel", "divideBy", "(II)V"⟩, 24) := ⟨⟨by decide +kernel, by decide +kernel⟩, List.mem_of_getElem? (i := 852) (by decide +kernel), List.mem_of_getElem? (i := 1255) (by decide +kernel), List.mem_of_getElem? (i := 1256) (by decide +kernel)⟩
theorem lw_p70 : lw_okq (⟨"WatchSleepModel", "look", "(I)V"⟩, 24) := ⟨⟨by decide +kernel, by decide +kernel⟩, List.mem_of_getElem? (i := 852) (by decide +kernel), List.mem_of_getElem? (i := 1277) (by decide +kernel), List.mem_of_getElem? (i := 1278) (by decide +kernel)⟩
theorem lw_p71 : lw_okq (⟨"WatchSleepModel", "readsFirst", "()Z"⟩, 24) := ⟨⟨by decide +kernel, by decide +kernel⟩, List.mem_of_getElem? (i := 852) (by decide +kernel), List.mem_of_getElem? (i := 1286) (by decide +kernel), List.mem_of_getElem? (i := 1287) (by decide +kernel)⟩
theorem lw_p72 : lw_okq (⟨"WatchSleepModel", "isWord", "(IIIII)Z"⟩, 24) := ⟨⟨by decide +kernel, by decide +kernel⟩, List.mem_of_getElem? (i := 852) (by decide +kernel), List.mem_of_getElem? (i := 1290) (by decide +kernel), List.mem_of_getElem? (i := 1291) (by decide +kernel)⟩
theorem lw_p73 : lw_okq (⟨"WatchSleepModel", "goOn", "()V"⟩, 24) := ⟨⟨by decide +kernel, by decide +kernel⟩, List.mem_of_getElem? (i := 852) (by decide +kernel), List.mem_of_getElem? (i := 1294) (by decide +kernel), List.mem_of_getElem? (i := 1295) (by decide +kernel)⟩
theorem lw_p74 : lw_okq (⟨"WatchSleepModel", "readsNext", "()Z"⟩, 24) := ⟨⟨by decide +kernel, by decide +kernel⟩, List.mem_of_getElem? (i := 852) (by decide +kernel), List.mem_of_getElem? (i := 1298) (by decide +kernel), List.mem_of_getElem? (i := 1299) (by decide +kernel)⟩
theorem lw_p75 : lw_okq (⟨"WatchSleepModel", "counted", "(I)I"⟩, 24) := ⟨⟨by decide +kernel, by decide +kernel⟩, List.mem_of_getElem? (i := 852) (by decide +kernel), List.mem_of_getElem? (i := 1326) (by decide +kernel), List.mem_of_getElem? (i := 1327) (by decide +kernel)⟩
theorem lw_p76 : lw_okq (⟨"WatchSleepModel", "sums", "(JII)J"⟩, 24) := ⟨⟨by decide +kernel, by decide +kernel⟩, List.mem_of_getElem? (i := 852) (by decide +kernel), List.mem_of_getElem? (i := 1336) (by decide +kernel), List.mem_of_getElem? (i := 1337) (by decide +kernel)⟩
def lw_privs_5 : List (MethodName × Nat) := [(⟨"WatchSleepModel", "product", "(III)V"⟩, 24), (⟨"WatchSleepModel", "needs", "()I"⟩, 24), (⟨"WatchSleepModel", "stretches", "()I"⟩, 24), (⟨"WatchSleepModel", "isSeen", "(II)Z"⟩, 24), (⟨"WatchSleepModel", "layDoubt", "(I)V"⟩, 24), (⟨"WatchSleepModel", "divideBy", "(II)V"⟩, 24), (⟨"WatchSleepModel", "look", "(I)V"⟩, 24), (⟨"WatchSleepModel", "readsFirst", "()Z"⟩, 24), (⟨"WatchSleepModel", "isWord", "(IIIII)Z"⟩, 24), (⟨"WatchSleepModel", "goOn", "()V"⟩, 24), (⟨"WatchSleepModel", "readsNext", "()Z"⟩, 24), (⟨"WatchSleepModel", "counted", "(I)I"⟩, 24), (⟨"WatchSleepModel", "sums", "(JII)J"⟩, 24)]
theorem lw_r5 : ∀ q ∈ lw_privs_5, lw_okq q := List.forall_mem_cons.mpr ⟨lw_p64, List.forall_mem_cons.mpr ⟨lw_p65, List.forall_mem_cons.mpr ⟨lw_p66, List.forall_mem_cons.mpr ⟨lw_p67, List.forall_mem_cons.mpr ⟨lw_p68, List.forall_mem_cons.mpr ⟨lw_p69, List.forall_mem_cons.mpr ⟨lw_p70, List.forall_mem_cons.mpr ⟨lw_p71, List.forall_mem_cons.mpr ⟨lw_p72, List.forall_mem_cons.mpr ⟨lw_p73, List.forall_mem_cons.mpr ⟨lw_p74, List.forall_mem_cons.mpr ⟨lw_p75, List.forall_mem_cons.mpr ⟨lw_p76, fun _ h => absurd h List.not_mem_nil⟩⟩⟩⟩⟩⟩⟩⟩⟩⟩⟩⟩⟩
def lw_privs : List (MethodName × Nat) := lw_privs_1 ++ (lw_privs_2 ++ (lw_privs_3 ++ (lw_privs_4 ++ (lw_privs_5))))
def lw_tbl : List Cond := k2_sels lw_privs ++ tables_1
theorem lw_privs_ok : ∀ q ∈ lw_privs, lw_okq q := by
  show ∀ q ∈ lw_privs_1 ++ (lw_privs_2 ++ (lw_privs_3 ++ (lw_privs_4 ++ (lw_privs_5)))), lw_okq q
  exact List.forall_mem_append.mpr ⟨lw_r1, List.forall_mem_append.mpr ⟨lw_r2, List.forall_mem_append.mpr ⟨lw_r3, List.forall_mem_append.mpr ⟨lw_r4, lw_r5⟩⟩⟩⟩

def RX0 : String := "WatchSleep$Balance"
def TX0 : u_T := fun k => match k with
  | 0 => ("WatchSleep$Balance", "above", "J", false)
  | 1 => ("WatchSleep$Balance", "below", "J", false)
  | 2 => ("WatchSleep$Balance", "worths", "[I", true)
  | _ => ("WatchSleep$Balance", "many", "I", false)
def tyX0 : Nat → FieldType := fun k => match k with
  | 0 => .long
  | 1 => .long
  | 2 => .array .int
  | _ => .int
abbrev wsX00 : List Cond := u_ws RX0 TX0 4
theorem nmX0 : ∀ a, a < 4 → ∀ b, b < 4 → a ≠ b → (TX0 a).2.1 ≠ (TX0 b).2.1 := by decide +kernel
theorem tyX0_ok : ∀ k, k < 4 → parseFieldDescriptor (TX0 k).2.2.1 = some (tyX0 k) := by decide +kernel
abbrev cX0_init : ByteArray := prog_2_method_1_code
def yX0_init : MethodName := ⟨RX0, "<init>", "()V"⟩
abbrev cX0_solve : ByteArray := prog_2_method_2_code
def yX0_solve : MethodName := ⟨RX0, "solve", "(LWatchSleep$Watch;I)V"⟩
abbrev cX0_sortWorths : ByteArray := prog_2_method_3_code
def yX0_sortWorths : MethodName := ⟨RX0, "sortWorths", "(LWatchSleep$Watch;)V"⟩
abbrev cX0_share : ByteArray := prog_2_method_4_code
def yX0_share : MethodName := ⟨RX0, "share", "(II)V"⟩
abbrev cX0_chanceOf : ByteArray := prog_2_method_5_code
def yX0_chanceOf : MethodName := ⟨RX0, "chanceOf", "(LWatchSleep$Fraction;LWatchSleep$Watch;II)V"⟩
abbrev cX0_cheapest : ByteArray := prog_2_method_6_code
def yX0_cheapest : MethodName := ⟨RX0, "cheapest", "(LWatchSleep$Watch;I)I"⟩
abbrev cX0_isLess : ByteArray := prog_2_method_7_code
def yX0_isLess : MethodName := ⟨RX0, "isLess", "(JJJJ)Z"⟩
def RX1 : String := "WatchSleep$Captain"
def TX1 : u_T := fun k => match k with
  | _ => ("WatchSleep$Captain", "rule", "LWatchSleep$Rule;", true)
def tyX1 : Nat → FieldType := fun k => match k with
  | _ => .object "WatchSleep$Rule"
abbrev wsX10 : List Cond := u_ws RX1 TX1 1
theorem nmX1 : ∀ a, a < 1 → ∀ b, b < 1 → a ≠ b → (TX1 a).2.1 ≠ (TX1 b).2.1 := by decide +kernel
theorem tyX1_ok : ∀ k, k < 1 → parseFieldDescriptor (TX1 k).2.2.1 = some (tyX1 k) := by decide +kernel
abbrev cX1_init : ByteArray := prog_3_method_1_code
def yX1_init : MethodName := ⟨RX1, "<init>", "()V"⟩
abbrev cX1_sleeper : ByteArray := prog_3_method_2_code
def yX1_sleeper : MethodName := ⟨RX1, "sleeper", "(LWatchSleep$Watch;I)I"⟩
abbrev cX1_lantern : ByteArray := prog_3_method_3_code
def yX1_lantern : MethodName := ⟨RX1, "lantern", "(LWatchSleep$Watch;I)I"⟩
abbrev cX1_inTurn : ByteArray := prog_3_method_4_code
def yX1_inTurn : MethodName := ⟨RX1, "inTurn", "(LWatchSleep$Watch;I)I"⟩
abbrev cX1_turn : ByteArray := prog_3_method_5_code
def yX1_turn : MethodName := ⟨RX1, "turn", "(IIII)I"⟩
abbrev cX1_byLot : ByteArray := prog_3_method_6_code
def yX1_byLot : MethodName := ⟨RX1, "byLot", "(LWatchSleep$Watch;I)I"⟩
abbrev cX1_byRule : ByteArray := prog_3_method_7_code
def yX1_byRule : MethodName := ⟨RX1, "byRule", "(LWatchSleep$Watch;I)I"⟩
abbrev cX1_drawnAt : ByteArray := prog_3_method_8_code
def yX1_drawnAt : MethodName := ⟨RX1, "drawnAt", "(LWatchSleep$Watch;I)J"⟩
abbrev cX1_nextDraw : ByteArray := prog_3_method_9_code
def yX1_nextDraw : MethodName := ⟨RX1, "nextDraw", "(J)J"⟩
def RX2 : String := "WatchSleep$Fraction"
def TX2 : u_T := fun k => match k with
  | 0 => ("WatchSleep$Fraction", "above", "LWatchSleep$Natural;", true)
  | _ => ("WatchSleep$Fraction", "below", "LWatchSleep$Natural;", true)
def tyX2 : Nat → FieldType := fun k => match k with
  | 0 => .object "WatchSleep$Natural"
  | _ => .object "WatchSleep$Natural"
abbrev wsX20 : List Cond := u_ws RX2 TX2 2
theorem nmX2 : ∀ a, a < 2 → ∀ b, b < 2 → a ≠ b → (TX2 a).2.1 ≠ (TX2 b).2.1 := by decide +kernel
theorem tyX2_ok : ∀ k, k < 2 → parseFieldDescriptor (TX2 k).2.2.1 = some (tyX2 k) := by decide +kernel
abbrev cX2_init : ByteArray := prog_4_method_1_code
def yX2_init : MethodName := ⟨RX2, "<init>", "()V"⟩
abbrev cX2_set : ByteArray := prog_4_method_2_code
def yX2_set : MethodName := ⟨RX2, "set", "(JJ)V"⟩
abbrev cX2_setOverPower : ByteArray := prog_4_method_3_code
def yX2_setOverPower : MethodName := ⟨RX2, "setOverPower", "(LWatchSleep$Natural;II)V"⟩
abbrev cX2_cancel : ByteArray := prog_4_method_4_code
def yX2_cancel : MethodName := ⟨RX2, "cancel", "(I)V"⟩
abbrev cX2_commonDivisor : ByteArray := prog_4_method_5_code
def yX2_commonDivisor : MethodName := ⟨RX2, "commonDivisor", "(JJ)J"⟩
def RX3 : String := "WatchSleep$Natural"
def TX3 : u_T := fun k => match k with
  | 0 => ("WatchSleep$Natural", "limb", "[I", true)
  | _ => ("WatchSleep$Natural", "size", "I", false)
def tyX3 : Nat → FieldType := fun k => match k with
  | 0 => .array .int
  | _ => .int
abbrev wsX30 : List Cond := u_ws RX3 TX3 2
theorem nmX3 : ∀ a, a < 2 → ∀ b, b < 2 → a ≠ b → (TX3 a).2.1 ≠ (TX3 b).2.1 := by decide +kernel
theorem tyX3_ok : ∀ k, k < 2 → parseFieldDescriptor (TX3 k).2.2.1 = some (tyX3 k) := by decide +kernel
abbrev cX3_init : ByteArray := prog_5_method_1_code
def yX3_init : MethodName := ⟨RX3, "<init>", "()V"⟩
abbrev cX3_set : ByteArray := prog_5_method_2_code
def yX3_set : MethodName := ⟨RX3, "set", "(J)V"⟩
abbrev cX3_setPower : ByteArray := prog_5_method_3_code
def yX3_setPower : MethodName := ⟨RX3, "setPower", "(II)V"⟩
abbrev cX3_copy : ByteArray := prog_5_method_4_code
def yX3_copy : MethodName := ⟨RX3, "copy", "(LWatchSleep$Natural;)V"⟩
abbrev cX3_times : ByteArray := prog_5_method_5_code
def yX3_times : MethodName := ⟨RX3, "times", "(I)V"⟩
abbrev cX3_add : ByteArray := prog_5_method_6_code
def yX3_add : MethodName := ⟨RX3, "add", "(LWatchSleep$Natural;)V"⟩
abbrev cX3_divide : ByteArray := prog_5_method_7_code
def yX3_divide : MethodName := ⟨RX3, "divide", "(I)V"⟩
abbrev cX3_isMultipleOf : ByteArray := prog_5_method_8_code
def yX3_isMultipleOf : MethodName := ⟨RX3, "isMultipleOf", "(I)Z"⟩
abbrev cX3_isLess : ByteArray := prog_5_method_9_code
def yX3_isLess : MethodName := ⟨RX3, "isLess", "(LWatchSleep$Natural;)Z"⟩
abbrev cX3_append : ByteArray := prog_5_method_10_code
def yX3_append : MethodName := ⟨RX3, "append", "(J)V"⟩
abbrev cX3_trim : ByteArray := prog_5_method_11_code
def yX3_trim : MethodName := ⟨RX3, "trim", "()V"⟩
def RX4 : String := "WatchSleep$Nights"
def TX4 : u_T := fun k => match k with
  | _ => ("", "", "", false)
def tyX4 : Nat → FieldType := fun k => match k with
  | _ => .int
abbrev wsX40 : List Cond := u_ws RX4 TX4 0
theorem nmX4 : ∀ a, a < 0 → ∀ b, b < 0 → a ≠ b → (TX4 a).2.1 ≠ (TX4 b).2.1 := by decide +kernel
theorem tyX4_ok : ∀ k, k < 0 → parseFieldDescriptor (TX4 k).2.2.1 = some (tyX4 k) := by decide +kernel
abbrev cX4_idleHours : ByteArray := prog_6_method_2_code
def yX4_idleHours : MethodName := ⟨RX4, "idleHours", "(LWatchSleep$Watch;)I"⟩
abbrev cX4_sleepers : ByteArray := prog_6_method_3_code
def yX4_sleepers : MethodName := ⟨RX4, "sleepers", "(LWatchSleep$Watch;)I"⟩
abbrev cX4_ways : ByteArray := prog_6_method_4_code
def yX4_ways : MethodName := ⟨RX4, "ways", "(II)J"⟩
abbrev cX4_sleeper : ByteArray := prog_6_method_5_code
def yX4_sleeper : MethodName := ⟨RX4, "sleeper", "(LWatchSleep$Watch;JI)I"⟩
abbrev cX4_waitingSleeper : ByteArray := prog_6_method_6_code
def yX4_waitingSleeper : MethodName := ⟨RX4, "waitingSleeper", "(LWatchSleep$Watch;IJ)I"⟩
abbrev cX4_firstUnlawful : ByteArray := prog_6_method_7_code
def yX4_firstUnlawful : MethodName := ⟨RX4, "firstUnlawful", "(LWatchSleep$Watch;)I"⟩
def RX5 : String := "WatchSleep$Rule"
def TX5 : u_T := fun k => match k with
  | 0 => ("WatchSleep$Rule", "flaw", "I", false)
  | 1 => ("WatchSleep$Rule", "looksBack", "Z", false)
  | 2 => ("WatchSleep$Rule", "steps", "[I", true)
  | 3 => ("WatchSleep$Rule", "size", "I", false)
  | 4 => ("WatchSleep$Rule", "waiting", "[I", true)
  | 5 => ("WatchSleep$Rule", "waits", "I", false)
  | 6 => ("WatchSleep$Rule", "open", "I", false)
  | 7 => ("WatchSleep$Rule", "unitIsDue", "Z", false)
  | _ => ("WatchSleep$Rule", "stack", "[J", true)
def tyX5 : Nat → FieldType := fun k => match k with
  | 0 => .int
  | 1 => .boolean
  | 2 => .array .int
  | 3 => .int
  | 4 => .array .int
  | 5 => .int
  | 6 => .int
  | 7 => .boolean
  | _ => .array .long
abbrev wsX50 : List Cond := u_ws RX5 TX5 9
theorem nmX5 : ∀ a, a < 9 → ∀ b, b < 9 → a ≠ b → (TX5 a).2.1 ≠ (TX5 b).2.1 := by decide +kernel
theorem tyX5_ok : ∀ k, k < 9 → parseFieldDescriptor (TX5 k).2.2.1 = some (tyX5 k) := by decide +kernel
abbrev cX5_init : ByteArray := prog_7_method_1_code
def yX5_init : MethodName := ⟨RX5, "<init>", "()V"⟩
abbrev cX5_compile : ByteArray := prog_7_method_2_code
def yX5_compile : MethodName := ⟨RX5, "compile", "([II)V"⟩
abbrev cX5_takeDigits : ByteArray := prog_7_method_3_code
def yX5_takeDigits : MethodName := ⟨RX5, "takeDigits", "([III)I"⟩
abbrev cX5_takeBeginning : ByteArray := prog_7_method_4_code
def yX5_takeBeginning : MethodName := ⟨RX5, "takeBeginning", "(II)V"⟩
abbrev cX5_takeBehind : ByteArray := prog_7_method_5_code
def yX5_takeBehind : MethodName := ⟨RX5, "takeBehind", "(II)V"⟩
abbrev cX5_release : ByteArray := prog_7_method_6_code
def yX5_release : MethodName := ⟨RX5, "release", "(I)V"⟩
abbrev cX5_hold : ByteArray := prog_7_method_7_code
def yX5_hold : MethodName := ⟨RX5, "hold", "(I)V"⟩
abbrev cX5_emit : ByteArray := prog_7_method_8_code
def yX5_emit : MethodName := ⟨RX5, "emit", "(I)V"⟩
abbrev cX5_isDigit : ByteArray := prog_7_method_9_code
def yX5_isDigit : MethodName := ⟨RX5, "isDigit", "(I)Z"⟩
abbrev cX5_isName : ByteArray := prog_7_method_10_code
def yX5_isName : MethodName := ⟨RX5, "isName", "(I)Z"⟩
abbrev cX5_rankOf : ByteArray := prog_7_method_11_code
def yX5_rankOf : MethodName := ⟨RX5, "rankOf", "(I)I"⟩
abbrev cX5_work : ByteArray := prog_7_method_12_code
def yX5_work : MethodName := ⟨RX5, "work", "(LWatchSleep$Watch;IIJ)J"⟩
abbrev cX5_named : ByteArray := prog_7_method_13_code
def yX5_named : MethodName := ⟨RX5, "named", "(ILWatchSleep$Watch;IIJ)J"⟩
abbrev cX5_ofOne : ByteArray := prog_7_method_14_code
def yX5_ofOne : MethodName := ⟨RX5, "ofOne", "(IJ)J"⟩
abbrev cX5_ofTwo : ByteArray := prog_7_method_15_code
def yX5_ofTwo : MethodName := ⟨RX5, "ofTwo", "(IJJ)J"⟩
abbrev cX5_truth : ByteArray := prog_7_method_16_code
def yX5_truth : MethodName := ⟨RX5, "truth", "(Z)J"⟩
def RX6 : String := "WatchSleep$Sights"
def TX6 : u_T := fun k => match k with
  | _ => ("", "", "", false)
def tyX6 : Nat → FieldType := fun k => match k with
  | _ => .int
abbrev wsX60 : List Cond := u_ws RX6 TX6 0
theorem nmX6 : ∀ a, a < 0 → ∀ b, b < 0 → a ≠ b → (TX6 a).2.1 ≠ (TX6 b).2.1 := by decide +kernel
theorem tyX6_ok : ∀ k, k < 0 → parseFieldDescriptor (TX6 k).2.2.1 = some (tyX6 k) := by decide +kernel
abbrev cX6_agreeing : ByteArray := prog_8_method_2_code
def yX6_agreeing : MethodName := ⟨RX6, "agreeing", "(LWatchSleep$Watch;)I"⟩
abbrev cX6_firstAgreeing : ByteArray := prog_8_method_3_code
def yX6_firstAgreeing : MethodName := ⟨RX6, "firstAgreeing", "(LWatchSleep$Watch;)I"⟩
abbrev cX6_agrees : ByteArray := prog_8_method_4_code
def yX6_agrees : MethodName := ⟨RX6, "agrees", "(LWatchSleep$Watch;II)Z"⟩
abbrev cX6_firstHourOfOne : ByteArray := prog_8_method_5_code
def yX6_firstHourOfOne : MethodName := ⟨RX6, "firstHourOfOne", "(LWatchSleep$Watch;I)I"⟩
abbrev cX6_firstUnlike : ByteArray := prog_8_method_6_code
def yX6_firstUnlike : MethodName := ⟨RX6, "firstUnlike", "(LWatchSleep$Watch;III)I"⟩
def RX7 : String := "WatchSleep$Thieves"
def TX7 : u_T := fun k => match k with
  | 0 => ("WatchSleep$Thieves", "sum", "LWatchSleep$Natural;", true)
  | 1 => ("WatchSleep$Thieves", "term", "LWatchSleep$Natural;", true)
  | _ => ("WatchSleep$Thieves", "least", "LWatchSleep$Natural;", true)
def tyX7 : Nat → FieldType := fun k => match k with
  | 0 => .object "WatchSleep$Natural"
  | 1 => .object "WatchSleep$Natural"
  | _ => .object "WatchSleep$Natural"
abbrev wsX70 : List Cond := u_ws RX7 TX7 3
theorem nmX7 : ∀ a, a < 3 → ∀ b, b < 3 → a ≠ b → (TX7 a).2.1 ≠ (TX7 b).2.1 := by decide +kernel
theorem tyX7_ok : ∀ k, k < 3 → parseFieldDescriptor (TX7 k).2.2.1 = some (tyX7 k) := by decide +kernel
abbrev cX7_init : ByteArray := prog_9_method_1_code
def yX7_init : MethodName := ⟨RX7, "<init>", "()V"⟩
abbrev cX7_climb : ByteArray := prog_9_method_2_code
def yX7_climb : MethodName := ⟨RX7, "climb", "(LWatchSleep$Fraction;LWatchSleep$Watch;I)V"⟩
abbrev cX7_doubtOf : ByteArray := prog_9_method_3_code
def yX7_doubtOf : MethodName := ⟨RX7, "doubtOf", "(LWatchSleep$Fraction;LWatchSleep$Watch;I)V"⟩
abbrev cX7_mostDoubted : ByteArray := prog_9_method_4_code
def yX7_mostDoubted : MethodName := ⟨RX7, "mostDoubted", "(LWatchSleep$Watch;)I"⟩
abbrev cX7_addChances : ByteArray := prog_9_method_5_code
def yX7_addChances : MethodName := ⟨RX7, "addChances", "(IIII)V"⟩
def RX8 : String := "WatchSleep$WallText"
def TX8 : u_T := fun k => match k with
  | 0 => ("WatchSleep$WallText", "draft", "LWatchSleep$Watch;", true)
  | 1 => ("WatchSleep$WallText", "length", "I", false)
  | 2 => ("WatchSleep$WallText", "bytes", "[I", true)
  | 3 => ("WatchSleep$WallText", "at", "I", false)
  | 4 => ("WatchSleep$WallText", "token", "I", false)
  | 5 => ("WatchSleep$WallText", "place", "I", false)
  | _ => ("WatchSleep$WallText", "value", "I", false)
def tyX8 : Nat → FieldType := fun k => match k with
  | 0 => .object "WatchSleep$Watch"
  | 1 => .int
  | 2 => .array .int
  | 3 => .int
  | 4 => .int
  | 5 => .int
  | _ => .int
abbrev wsX80 : List Cond := u_ws RX8 TX8 7
theorem nmX8 : ∀ a, a < 7 → ∀ b, b < 7 → a ≠ b → (TX8 a).2.1 ≠ (TX8 b).2.1 := by decide +kernel
theorem tyX8_ok : ∀ k, k < 7 → parseFieldDescriptor (TX8 k).2.2.1 = some (tyX8 k) := by decide +kernel
abbrev cX8_init : ByteArray := prog_10_method_1_code
def yX8_init : MethodName := ⟨RX8, "<init>", "()V"⟩
abbrev cX8_add : ByteArray := prog_10_method_2_code
def yX8_add : MethodName := ⟨RX8, "add", "(I)V"⟩
abbrev cX8_parse : ByteArray := prog_10_method_3_code
def yX8_parse : MethodName := ⟨RX8, "parse", "()I"⟩
abbrev cX8_itemEnds : ByteArray := prog_10_method_4_code
def yX8_itemEnds : MethodName := ⟨RX8, "itemEnds", "()Z"⟩
abbrev cX8_rowOfWord : ByteArray := prog_10_method_5_code
def yX8_rowOfWord : MethodName := ⟨RX8, "rowOfWord", "()I"⟩
abbrev cX8_isWord : ByteArray := prog_10_method_6_code
def yX8_isWord : MethodName := ⟨RX8, "isWord", "(Ljava/lang/String;)Z"⟩
abbrev cX8_numberComes : ByteArray := prog_10_method_7_code
def yX8_numberComes : MethodName := ⟨RX8, "numberComes", "(II)Z"⟩
abbrev cX8_semicolonComes : ByteArray := prog_10_method_8_code
def yX8_semicolonComes : MethodName := ⟨RX8, "semicolonComes", "()Z"⟩
abbrev cX8_advance : ByteArray := prog_10_method_9_code
def yX8_advance : MethodName := ⟨RX8, "advance", "()V"⟩
abbrev cX8_takeFigures : ByteArray := prog_10_method_10_code
def yX8_takeFigures : MethodName := ⟨RX8, "takeFigures", "()V"⟩
abbrev cX8_isLetter : ByteArray := prog_10_method_11_code
def yX8_isLetter : MethodName := ⟨RX8, "isLetter", "(I)Z"⟩
abbrev cX8_isFigure : ByteArray := prog_10_method_12_code
def yX8_isFigure : MethodName := ⟨RX8, "isFigure", "(I)Z"⟩
def RX9 : String := "WatchSleep$Watch"
def TX9 : u_T := fun k => match k with
  | 0 => ("WatchSleep$Watch", "n", "I", false)
  | 1 => ("WatchSleep$Watch", "rows", "[[I", true)
  | 2 => ("WatchSleep$Watch", "kind", "I", false)
  | 3 => ("WatchSleep$Watch", "start", "I", false)
  | 4 => ("WatchSleep$Watch", "step", "I", false)
  | 5 => ("WatchSleep$Watch", "seed", "I", false)
  | 6 => ("WatchSleep$Watch", "sightHour", "[I", true)
  | 7 => ("WatchSleep$Watch", "sightPost", "[I", true)
  | 8 => ("WatchSleep$Watch", "sightAsleep", "[I", true)
  | 9 => ("WatchSleep$Watch", "sights", "I", false)
  | 10 => ("WatchSleep$Watch", "told", "[I", true)
  | 11 => ("WatchSleep$Watch", "hours", "I", false)
  | 12 => ("WatchSleep$Watch", "rule", "[I", true)
  | _ => ("WatchSleep$Watch", "signs", "I", false)
def tyX9 : Nat → FieldType := fun k => match k with
  | 0 => .int
  | 1 => .array (.array .int)
  | 2 => .int
  | 3 => .int
  | 4 => .int
  | 5 => .int
  | 6 => .array .int
  | 7 => .array .int
  | 8 => .array .int
  | 9 => .int
  | 10 => .array .int
  | 11 => .int
  | 12 => .array .int
  | _ => .int
abbrev wsX90 : List Cond := u_ws RX9 TX9 14
theorem nmX9 : ∀ a, a < 14 → ∀ b, b < 14 → a ≠ b → (TX9 a).2.1 ≠ (TX9 b).2.1 := by decide +kernel
theorem tyX9_ok : ∀ k, k < 14 → parseFieldDescriptor (TX9 k).2.2.1 = some (tyX9 k) := by decide +kernel
abbrev cX9_init : ByteArray := prog_11_method_1_code
def yX9_init : MethodName := ⟨RX9, "<init>", "()V"⟩
abbrev cX9_layOut : ByteArray := prog_11_method_2_code
def yX9_layOut : MethodName := ⟨RX9, "layOut", "(I)V"⟩
abbrev cX9_takeWall : ByteArray := prog_11_method_3_code
def yX9_takeWall : MethodName := ⟨RX9, "takeWall", "(LWatchSleep$Watch;)V"⟩
abbrev cX9_copy : ByteArray := prog_11_method_4_code
def yX9_copy : MethodName := ⟨RX9, "copy", "(LWatchSleep$Watch;)V"⟩
abbrev cX9_copyRows : ByteArray := prog_11_method_5_code
def yX9_copyRows : MethodName := ⟨RX9, "copyRows", "(LWatchSleep$Watch;)V"⟩
abbrev cX9_whole : ByteArray := prog_11_method_6_code
def yX9_whole : MethodName := ⟨RX9, "whole", "()I"⟩
abbrev cX9_weight : ByteArray := prog_11_method_7_code
def yX9_weight : MethodName := ⟨RX9, "weight", "(I)I"⟩
abbrev cX9_heaviest : ByteArray := prog_11_method_8_code
def yX9_heaviest : MethodName := ⟨RX9, "heaviest", "()I"⟩
abbrev cX9_heaviestPair : ByteArray := prog_11_method_9_code
def yX9_heaviestPair : MethodName := ⟨RX9, "heaviestPair", "()I"⟩
abbrev cX9_mix : ByteArray := prog_11_method_10_code
def yX9_mix : MethodName := ⟨RX9, "mix", "(J)J"⟩
abbrev cX9_mixAll : ByteArray := prog_11_method_11_code
def yX9_mixAll : MethodName := ⟨RX9, "mixAll", "(J[II)J"⟩
def RX10 : String := "WatchSleep"
def TX10 : u_T := fun k => match k with
  | 0 => ("WatchSleep", "watch", "LWatchSleep$Watch;", true)
  | 1 => ("WatchSleep", "images", "[LWatchSleep$Watch;", true)
  | 2 => ("WatchSleep", "kept", "[Z", true)
  | 3 => ("WatchSleep", "text", "LWatchSleep$WallText;", true)
  | 4 => ("WatchSleep", "leader", "LWatchSleep$Captain;", true)
  | 5 => ("WatchSleep", "balance", "LWatchSleep$Balance;", true)
  | 6 => ("WatchSleep", "thieves", "LWatchSleep$Thieves;", true)
  | 7 => ("WatchSleep", "fraction", "LWatchSleep$Fraction;", true)
  | _ => ("WatchSleep", "refused", "[I", true)
def tyX10 : Nat → FieldType := fun k => match k with
  | 0 => .object "WatchSleep$Watch"
  | 1 => .array (.object "WatchSleep$Watch")
  | 2 => .array .boolean
  | 3 => .object "WatchSleep$WallText"
  | 4 => .object "WatchSleep$Captain"
  | 5 => .object "WatchSleep$Balance"
  | 6 => .object "WatchSleep$Thieves"
  | 7 => .object "WatchSleep$Fraction"
  | _ => .array .int
abbrev wsX100 : List Cond := u_ws RX10 TX10 9
theorem nmX10 : ∀ a, a < 9 → ∀ b, b < 9 → a ≠ b → (TX10 a).2.1 ≠ (TX10 b).2.1 := by decide +kernel
theorem tyX10_ok : ∀ k, k < 9 → parseFieldDescriptor (TX10 k).2.2.1 = some (tyX10 k) := by decide +kernel
abbrev cX10_init : ByteArray := prog_1_method_1_code
def yX10_init : MethodName := ⟨RX10, "<init>", "()V"⟩
abbrev cX10_posts : ByteArray := prog_1_method_2_code
def yX10_posts : MethodName := ⟨RX10, "posts", "(I)I"⟩
abbrev cX10_put : ByteArray := prog_1_method_3_code
def yX10_put : MethodName := ⟨RX10, "put", "(III)I"⟩
abbrev cX10_captain : ByteArray := prog_1_method_4_code
def yX10_captain : MethodName := ⟨RX10, "captain", "(IIII)I"⟩
abbrev cX10_type : ByteArray := prog_1_method_5_code
def yX10_type : MethodName := ⟨RX10, "type", "(JI)I"⟩
abbrev cX10_clear : ByteArray := prog_1_method_6_code
def yX10_clear : MethodName := ⟨RX10, "clear", "()I"⟩
abbrev cX10_read : ByteArray := prog_1_method_7_code
def yX10_read : MethodName := ⟨RX10, "read", "()I"⟩
abbrev cX10_write : ByteArray := prog_1_method_8_code
def yX10_write : MethodName := ⟨RX10, "write", "(I)I"⟩
abbrev cX10_erase : ByteArray := prog_1_method_9_code
def yX10_erase : MethodName := ⟨RX10, "erase", "()I"⟩
abbrev cX10_fault : ByteArray := prog_1_method_10_code
def yX10_fault : MethodName := ⟨RX10, "fault", "()I"⟩
abbrev cX10_asleep : ByteArray := prog_1_method_11_code
def yX10_asleep : MethodName := ⟨RX10, "asleep", "(II)I"⟩
abbrev cX10_has : ByteArray := prog_1_method_12_code
def yX10_has : MethodName := ⟨RX10, "has", "(I)I"⟩
abbrev cX10_tries : ByteArray := prog_1_method_13_code
def yX10_tries : MethodName := ⟨RX10, "tries", "()I"⟩
abbrev cX10_two : ByteArray := prog_1_method_14_code
def yX10_two : MethodName := ⟨RX10, "two", "()I"⟩
abbrev cX10_ladder : ByteArray := prog_1_method_15_code
def yX10_ladder : MethodName := ⟨RX10, "ladder", "(I)I"⟩
abbrev cX10_knows : ByteArray := prog_1_method_16_code
def yX10_knows : MethodName := ⟨RX10, "knows", "()I"⟩
abbrev cX10_best : ByteArray := prog_1_method_17_code
def yX10_best : MethodName := ⟨RX10, "best", "(I)I"⟩
abbrev cX10_chance : ByteArray := prog_1_method_18_code
def yX10_chance : MethodName := ⟨RX10, "chance", "(II)I"⟩
abbrev cX10_duke : ByteArray := prog_1_method_19_code
def yX10_duke : MethodName := ⟨RX10, "duke", "(I)I"⟩
abbrev cX10_creak : ByteArray := prog_1_method_20_code
def yX10_creak : MethodName := ⟨RX10, "creak", "(III)I"⟩
abbrev cX10_nights : ByteArray := prog_1_method_21_code
def yX10_nights : MethodName := ⟨RX10, "nights", "()J"⟩
abbrev cX10_night : ByteArray := prog_1_method_22_code
def yX10_night : MethodName := ⟨RX10, "night", "(JI)I"⟩
abbrev cX10_tell : ByteArray := prog_1_method_23_code
def yX10_tell : MethodName := ⟨RX10, "tell", "(I)I"⟩
abbrev cX10_forget : ByteArray := prog_1_method_24_code
def yX10_forget : MethodName := ⟨RX10, "forget", "()I"⟩
abbrev cX10_judge : ByteArray := prog_1_method_25_code
def yX10_judge : MethodName := ⟨RX10, "judge", "()I"⟩
abbrev cX10_sight : ByteArray := prog_1_method_26_code
def yX10_sight : MethodName := ⟨RX10, "sight", "(III)I"⟩
abbrev cX10_blind : ByteArray := prog_1_method_27_code
def yX10_blind : MethodName := ⟨RX10, "blind", "()I"⟩
abbrev cX10_rounds : ByteArray := prog_1_method_28_code
def yX10_rounds : MethodName := ⟨RX10, "rounds", "(I)I"⟩
abbrev cX10_soon : ByteArray := prog_1_method_29_code
def yX10_soon : MethodName := ⟨RX10, "soon", "(I)I"⟩
abbrev cX10_thefts : ByteArray := prog_1_method_30_code
def yX10_thefts : MethodName := ⟨RX10, "thefts", "(III)I"⟩
abbrev cX10_doubt : ByteArray := prog_1_method_31_code
def yX10_doubt : MethodName := ⟨RX10, "doubt", "(I)I"⟩
abbrev cX10_spy : ByteArray := prog_1_method_32_code
def yX10_spy : MethodName := ⟨RX10, "spy", "()I"⟩
abbrev cX10_sign : ByteArray := prog_1_method_33_code
def yX10_sign : MethodName := ⟨RX10, "sign", "(I)I"⟩
abbrev cX10_limb : ByteArray := prog_1_method_34_code
def yX10_limb : MethodName := ⟨RX10, "limb", "(II)I"⟩
abbrev cX10_image : ByteArray := prog_1_method_35_code
def yX10_image : MethodName := ⟨RX10, "image", "(I)I"⟩
abbrev cX10_from : ByteArray := prog_1_method_36_code
def yX10_from : MethodName := ⟨RX10, "from", "(I)I"⟩
abbrev cX10_status : ByteArray := prog_1_method_37_code
def yX10_status : MethodName := ⟨RX10, "status", "(I)I"⟩
abbrev cX10_count : ByteArray := prog_1_method_38_code
def yX10_count : MethodName := ⟨RX10, "count", "(I)I"⟩
abbrev cX10_digest : ByteArray := prog_1_method_39_code
def yX10_digest : MethodName := ⟨RX10, "digest", "()J"⟩
abbrev cX10_howMany : ByteArray := prog_1_method_40_code
def yX10_howMany : MethodName := ⟨RX10, "howMany", "(I)I"⟩
abbrev cX10_isPost : ByteArray := prog_1_method_41_code
def yX10_isPost : MethodName := ⟨RX10, "isPost", "(I)Z"⟩
abbrev cX10_refuse : ByteArray := prog_1_method_42_code
def yX10_refuse : MethodName := ⟨RX10, "refuse", "(I)I"⟩
def RX11 : String := "WatchSleepModel"
def TX11 : u_T := fun k => match k with
  | 0 => ("WatchSleepModel", "now", "[I", true)
  | 1 => ("WatchSleepModel", "kept", "[I", true)
  | 2 => ("WatchSleepModel", "isKept", "[Z", true)
  | 3 => ("WatchSleepModel", "refused", "[I", true)
  | 4 => ("WatchSleepModel", "limbs", "[J", true)
  | 5 => ("WatchSleepModel", "sizes", "[I", true)
  | 6 => ("WatchSleepModel", "sign", "I", false)
  | 7 => ("WatchSleepModel", "place", "I", false)
  | 8 => ("WatchSleepModel", "fault", "I", false)
  | 9 => ("WatchSleepModel", "values", "[J", true)
  | 10 => ("WatchSleepModel", "valueMany", "I", false)
  | 11 => ("WatchSleepModel", "signs", "[I", true)
  | 12 => ("WatchSleepModel", "signMany", "I", false)
  | 13 => ("WatchSleepModel", "letters", "[J", true)
  | 14 => ("WatchSleepModel", "ruled", "J", false)
  | 15 => ("WatchSleepModel", "may", "[Z", true)
  | 16 => ("WatchSleepModel", "bytes", "[I", true)
  | 17 => ("WatchSleepModel", "bytesLong", "I", false)
  | 18 => ("WatchSleepModel", "tokenAt", "I", false)
  | 19 => ("WatchSleepModel", "tokenLong", "I", false)
  | 20 => ("WatchSleepModel", "token", "I", false)
  | 21 => ("WatchSleepModel", "value", "I", false)
  | 22 => ("WatchSleepModel", "readOf", "[I", true)
  | _ => ("WatchSleepModel", "readPosts", "I", false)
def tyX11 : Nat → FieldType := fun k => match k with
  | 0 => .array .int
  | 1 => .array .int
  | 2 => .array .boolean
  | 3 => .array .int
  | 4 => .array .long
  | 5 => .array .int
  | 6 => .int
  | 7 => .int
  | 8 => .int
  | 9 => .array .long
  | 10 => .int
  | 11 => .array .int
  | 12 => .int
  | 13 => .array .long
  | 14 => .long
  | 15 => .array .boolean
  | 16 => .array .int
  | 17 => .int
  | 18 => .int
  | 19 => .int
  | 20 => .int
  | 21 => .int
  | 22 => .array .int
  | _ => .int
abbrev wsX110 : List Cond := u_ws RX11 TX11 24
theorem nmX11 : ∀ a, a < 24 → ∀ b, b < 24 → a ≠ b → (TX11 a).2.1 ≠ (TX11 b).2.1 := by decide +kernel
theorem tyX11_ok : ∀ k, k < 24 → parseFieldDescriptor (TX11 k).2.2.1 = some (tyX11 k) := by decide +kernel
abbrev cX11_init : ByteArray := prog_13_method_1_code
def yX11_init : MethodName := ⟨RX11, "<init>", "()V"⟩
abbrev cX11_in : ByteArray := prog_13_method_3_code
def yX11_in : MethodName := ⟨RX11, "in", "(JJJ)Z"⟩
abbrev cX11_bad : ByteArray := prog_13_method_4_code
def yX11_bad : MethodName := ⟨RX11, "bad", "(I)I"⟩
abbrev cX11_no : ByteArray := prog_13_method_5_code
def yX11_no : MethodName := ⟨RX11, "no", "()I"⟩
abbrev cX11_full : ByteArray := prog_13_method_6_code
def yX11_full : MethodName := ⟨RX11, "full", "()I"⟩
abbrev cX11_set : ByteArray := prog_13_method_7_code
def yX11_set : MethodName := ⟨RX11, "set", "(IJ)V"⟩
abbrev cX11_copy : ByteArray := prog_13_method_8_code
def yX11_copy : MethodName := ⟨RX11, "copy", "(II)V"⟩
abbrev cX11_trim : ByteArray := prog_13_method_9_code
def yX11_trim : MethodName := ⟨RX11, "trim", "(I)V"⟩
abbrev cX11_times : ByteArray := prog_13_method_10_code
def yX11_times : MethodName := ⟨RX11, "times", "(IJ)V"⟩
abbrev cX11_product : ByteArray := prog_13_method_11_code
def yX11_product : MethodName := ⟨RX11, "product", "(III)V"⟩
abbrev cX11_compare : ByteArray := prog_13_method_12_code
def yX11_compare : MethodName := ⟨RX11, "compare", "(II)I"⟩
abbrev cX11_add : ByteArray := prog_13_method_13_code
def yX11_add : MethodName := ⟨RX11, "add", "(II)V"⟩
abbrev cX11_take : ByteArray := prog_13_method_14_code
def yX11_take : MethodName := ⟨RX11, "take", "(II)V"⟩
abbrev cX11_halve : ByteArray := prog_13_method_15_code
def yX11_halve : MethodName := ⟨RX11, "halve", "(I)V"⟩
abbrev cX11_isEven : ByteArray := prog_13_method_16_code
def yX11_isEven : MethodName := ⟨RX11, "isEven", "(I)Z"⟩
abbrev cX11_findDivisor : ByteArray := prog_13_method_17_code
def yX11_findDivisor : MethodName := ⟨RX11, "findDivisor", "(II)V"⟩
abbrev cX11_divide : ByteArray := prog_13_method_18_code
def yX11_divide : MethodName := ⟨RX11, "divide", "(I)V"⟩
abbrev cX11_addOne : ByteArray := prog_13_method_19_code
def yX11_addOne : MethodName := ⟨RX11, "addOne", "()V"⟩
abbrev cX11_tell : ByteArray := prog_13_method_20_code
def yX11_tell : MethodName := ⟨RX11, "tell", "(IIZ)V"⟩
abbrev cX11_begin : ByteArray := prog_13_method_22_code
def yX11_begin : MethodName := ⟨RX11, "begin", "(I)V"⟩
abbrev cX11_watched : ByteArray := prog_13_method_23_code
def yX11_watched : MethodName := ⟨RX11, "watched", "()I"⟩
abbrev cX11_isPost : ByteArray := prog_13_method_24_code
def yX11_isPost : MethodName := ⟨RX11, "isPost", "(I)Z"⟩
abbrev cX11_posts : ByteArray := prog_13_method_25_code
def yX11_posts : MethodName := ⟨RX11, "posts", "(I)I"⟩
abbrev cX11_put : ByteArray := prog_13_method_26_code
def yX11_put : MethodName := ⟨RX11, "put", "(III)I"⟩
abbrev cX11_captain : ByteArray := prog_13_method_27_code
def yX11_captain : MethodName := ⟨RX11, "captain", "(IIII)I"⟩
abbrev cX11_whole : ByteArray := prog_13_method_28_code
def yX11_whole : MethodName := ⟨RX11, "whole", "()I"⟩
abbrev cX11_write : ByteArray := prog_13_method_29_code
def yX11_write : MethodName := ⟨RX11, "write", "(I)I"⟩
abbrev cX11_erase : ByteArray := prog_13_method_30_code
def yX11_erase : MethodName := ⟨RX11, "erase", "()I"⟩
abbrev cX11_ruleLong : ByteArray := prog_13_method_31_code
def yX11_ruleLong : MethodName := ⟨RX11, "ruleLong", "()I"⟩
abbrev cX11_charAt : ByteArray := prog_13_method_32_code
def yX11_charAt : MethodName := ⟨RX11, "charAt", "(I)I"⟩
abbrev cX11_ahead : ByteArray := prog_13_method_33_code
def yX11_ahead : MethodName := ⟨RX11, "ahead", "()I"⟩
abbrev cX11_rank : ByteArray := prog_13_method_34_code
def yX11_rank : MethodName := ⟨RX11, "rank", "(I)I"⟩
abbrev cX11_workOut : ByteArray := prog_13_method_35_code
def yX11_workOut : MethodName := ⟨RX11, "workOut", "()V"⟩
abbrev cX11_workDown : ByteArray := prog_13_method_36_code
def yX11_workDown : MethodName := ⟨RX11, "workDown", "(I)V"⟩
abbrev cX11_stands : ByteArray := prog_13_method_37_code
def yX11_stands : MethodName := ⟨RX11, "stands", "(J)V"⟩
abbrev cX11_letterOf : ByteArray := prog_13_method_38_code
def yX11_letterOf : MethodName := ⟨RX11, "letterOf", "(I)I"⟩
abbrev cX11_isFigure : ByteArray := prog_13_method_39_code
def yX11_isFigure : MethodName := ⟨RX11, "isFigure", "(I)Z"⟩
abbrev cX11_digits : ByteArray := prog_13_method_40_code
def yX11_digits : MethodName := ⟨RX11, "digits", "()J"⟩
abbrev cX11_reads : ByteArray := prog_13_method_41_code
def yX11_reads : MethodName := ⟨RX11, "reads", "()Z"⟩
abbrev cX11_fault : ByteArray := prog_13_method_42_code
def yX11_fault : MethodName := ⟨RX11, "fault", "()I"⟩
abbrev cX11_stepped : ByteArray := prog_13_method_43_code
def yX11_stepped : MethodName := ⟨RX11, "stepped", "(J)J"⟩
abbrev cX11_byLot : ByteArray := prog_13_method_44_code
def yX11_byLot : MethodName := ⟨RX11, "byLot", "(I)I"⟩
abbrev cX11_byRound : ByteArray := prog_13_method_45_code
def yX11_byRound : MethodName := ⟨RX11, "byRound", "(I)I"⟩
abbrev cX11_byRule : ByteArray := prog_13_method_46_code
def yX11_byRule : MethodName := ⟨RX11, "byRule", "(I)I"⟩
abbrev cX11_sleeper : ByteArray := prog_13_method_47_code
def yX11_sleeper : MethodName := ⟨RX11, "sleeper", "(I)I"⟩
abbrev cX11_asleep : ByteArray := prog_13_method_48_code
def yX11_asleep : MethodName := ⟨RX11, "asleep", "(II)I"⟩
abbrev cX11_tellSmall : ByteArray := prog_13_method_49_code
def yX11_tellSmall : MethodName := ⟨RX11, "tellSmall", "(JJ)I"⟩
abbrev cX11_haul : ByteArray := prog_13_method_50_code
def yX11_haul : MethodName := ⟨RX11, "haul", "(I)I"⟩
abbrev cX11_has : ByteArray := prog_13_method_51_code
def yX11_has : MethodName := ⟨RX11, "has", "(I)I"⟩
abbrev cX11_bestPost : ByteArray := prog_13_method_52_code
def yX11_bestPost : MethodName := ⟨RX11, "bestPost", "()I"⟩
abbrev cX11_tries : ByteArray := prog_13_method_53_code
def yX11_tries : MethodName := ⟨RX11, "tries", "()I"⟩
abbrev cX11_two : ByteArray := prog_13_method_54_code
def yX11_two : MethodName := ⟨RX11, "two", "()I"⟩
abbrev cX11_power : ByteArray := prog_13_method_55_code
def yX11_power : MethodName := ⟨RX11, "power", "(IJI)V"⟩
abbrev cX11_ladder : ByteArray := prog_13_method_56_code
def yX11_ladder : MethodName := ⟨RX11, "ladder", "(I)I"⟩
abbrev cX11_knows : ByteArray := prog_13_method_57_code
def yX11_knows : MethodName := ⟨RX11, "knows", "()I"⟩
abbrev cX11_noughts : ByteArray := prog_13_method_58_code
def yX11_noughts : MethodName := ⟨RX11, "noughts", "()I"⟩
abbrev cX11_layOver : ByteArray := prog_13_method_59_code
def yX11_layOver : MethodName := ⟨RX11, "layOver", "(I)I"⟩
abbrev cX11_layBest : ByteArray := prog_13_method_60_code
def yX11_layBest : MethodName := ⟨RX11, "layBest", "(I)V"⟩
abbrev cX11_nextWorth : ByteArray := prog_13_method_61_code
def yX11_nextWorth : MethodName := ⟨RX11, "nextWorth", "(I)I"⟩
abbrev cX11_best : ByteArray := prog_13_method_62_code
def yX11_best : MethodName := ⟨RX11, "best", "(I)I"⟩
abbrev cX11_chance : ByteArray := prog_13_method_63_code
def yX11_chance : MethodName := ⟨RX11, "chance", "(II)I"⟩
abbrev cX11_duke : ByteArray := prog_13_method_64_code
def yX11_duke : MethodName := ⟨RX11, "duke", "(I)I"⟩
abbrev cX11_creak : ByteArray := prog_13_method_65_code
def yX11_creak : MethodName := ⟨RX11, "creak", "(III)I"⟩
abbrev cX11_needs : ByteArray := prog_13_method_66_code
def yX11_needs : MethodName := ⟨RX11, "needs", "()I"⟩
abbrev cX11_ways : ByteArray := prog_13_method_67_code
def yX11_ways : MethodName := ⟨RX11, "ways", "(II)J"⟩
abbrev cX11_stretches : ByteArray := prog_13_method_68_code
def yX11_stretches : MethodName := ⟨RX11, "stretches", "()I"⟩
abbrev cX11_nights : ByteArray := prog_13_method_69_code
def yX11_nights : MethodName := ⟨RX11, "nights", "()J"⟩
abbrev cX11_night : ByteArray := prog_13_method_70_code
def yX11_night : MethodName := ⟨RX11, "night", "(JI)I"⟩
abbrev cX11_tell_ : ByteArray := prog_13_method_71_code
def yX11_tell_ : MethodName := ⟨RX11, "tell", "(I)I"⟩
abbrev cX11_forget : ByteArray := prog_13_method_72_code
def yX11_forget : MethodName := ⟨RX11, "forget", "()I"⟩
abbrev cX11_judge : ByteArray := prog_13_method_73_code
def yX11_judge : MethodName := ⟨RX11, "judge", "()I"⟩
abbrev cX11_sight : ByteArray := prog_13_method_74_code
def yX11_sight : MethodName := ⟨RX11, "sight", "(III)I"⟩
abbrev cX11_blind : ByteArray := prog_13_method_75_code
def yX11_blind : MethodName := ⟨RX11, "blind", "()I"⟩
abbrev cX11_isSeen : ByteArray := prog_13_method_76_code
def yX11_isSeen : MethodName := ⟨RX11, "isSeen", "(II)Z"⟩
abbrev cX11_rounds : ByteArray := prog_13_method_77_code
def yX11_rounds : MethodName := ⟨RX11, "rounds", "(I)I"⟩
abbrev cX11_soon : ByteArray := prog_13_method_78_code
def yX11_soon : MethodName := ⟨RX11, "soon", "(I)I"⟩
abbrev cX11_thefts : ByteArray := prog_13_method_79_code
def yX11_thefts : MethodName := ⟨RX11, "thefts", "(III)I"⟩
abbrev cX11_layDoubt : ByteArray := prog_13_method_80_code
def yX11_layDoubt : MethodName := ⟨RX11, "layDoubt", "(I)V"⟩
abbrev cX11_divideBy : ByteArray := prog_13_method_81_code
def yX11_divideBy : MethodName := ⟨RX11, "divideBy", "(II)V"⟩
abbrev cX11_doubt : ByteArray := prog_13_method_82_code
def yX11_doubt : MethodName := ⟨RX11, "doubt", "(I)I"⟩
abbrev cX11_spy : ByteArray := prog_13_method_83_code
def yX11_spy : MethodName := ⟨RX11, "spy", "()I"⟩
abbrev cX11_type : ByteArray := prog_13_method_84_code
def yX11_type : MethodName := ⟨RX11, "type", "(JI)I"⟩
abbrev cX11_clear : ByteArray := prog_13_method_85_code
def yX11_clear : MethodName := ⟨RX11, "clear", "()I"⟩
abbrev cX11_isSmall : ByteArray := prog_13_method_86_code
def yX11_isSmall : MethodName := ⟨RX11, "isSmall", "(I)Z"⟩
abbrev cX11_look : ByteArray := prog_13_method_87_code
def yX11_look : MethodName := ⟨RX11, "look", "(I)V"⟩
abbrev cX11_goOn : ByteArray := prog_13_method_88_code
def yX11_goOn : MethodName := ⟨RX11, "goOn", "()V"⟩
abbrev cX11_isWord : ByteArray := prog_13_method_89_code
def yX11_isWord : MethodName := ⟨RX11, "isWord", "(IIIII)Z"⟩
abbrev cX11_readsFirst : ByteArray := prog_13_method_90_code
def yX11_readsFirst : MethodName := ⟨RX11, "readsFirst", "()Z"⟩
abbrev cX11_readsNext : ByteArray := prog_13_method_91_code
def yX11_readsNext : MethodName := ⟨RX11, "readsNext", "()Z"⟩
abbrev cX11_read : ByteArray := prog_13_method_92_code
def yX11_read : MethodName := ⟨RX11, "read", "()I"⟩
abbrev cX11_sign : ByteArray := prog_13_method_93_code
def yX11_sign : MethodName := ⟨RX11, "sign", "(I)I"⟩
abbrev cX11_limb : ByteArray := prog_13_method_94_code
def yX11_limb : MethodName := ⟨RX11, "limb", "(II)I"⟩
abbrev cX11_image : ByteArray := prog_13_method_95_code
def yX11_image : MethodName := ⟨RX11, "image", "(I)I"⟩
abbrev cX11_from : ByteArray := prog_13_method_96_code
def yX11_from : MethodName := ⟨RX11, "from", "(I)I"⟩
abbrev cX11_status : ByteArray := prog_13_method_97_code
def yX11_status : MethodName := ⟨RX11, "status", "(I)I"⟩
abbrev cX11_counted : ByteArray := prog_13_method_98_code
def yX11_counted : MethodName := ⟨RX11, "counted", "(I)I"⟩
abbrev cX11_count : ByteArray := prog_13_method_99_code
def yX11_count : MethodName := ⟨RX11, "count", "(I)I"⟩
abbrev cX11_sums : ByteArray := prog_13_method_100_code
def yX11_sums : MethodName := ⟨RX11, "sums", "(JII)J"⟩
abbrev cX11_digest : ByteArray := prog_13_method_101_code
def yX11_digest : MethodName := ⟨RX11, "digest", "()J"⟩
def RJ9 : String := "java/lang/Math"
def TJ9 : u_T := fun k => match k with
  | _ => ("", "", "", false)
def tyJ9 : Nat → FieldType := fun k => match k with
  | _ => .int
abbrev wsJ90 : List Cond := u_ws RJ9 TJ9 0
theorem nmJ9 : ∀ a, a < 0 → ∀ b, b < 0 → a ≠ b → (TJ9 a).2.1 ≠ (TJ9 b).2.1 := by decide +kernel
theorem tyJ9_ok : ∀ k, k < 0 → parseFieldDescriptor (TJ9 k).2.2.1 = some (tyJ9 k) := by decide +kernel
abbrev cJ9_max_7cf53 : ByteArray := prog_14_method_65_code
def yJ9_max_7cf53 : MethodName := ⟨RJ9, "max", "(II)I"⟩
def RJ0 : String := "java/lang/String"
def TJ0 : u_T := fun k => match k with
  | _ => ("", "", "", false)
def tyJ0 : Nat → FieldType := fun k => match k with
  | _ => .int
abbrev wsJ00 : List Cond := u_ws RJ0 TJ0 0
theorem nmJ0 : ∀ a, a < 0 → ∀ b, b < 0 → a ≠ b → (TJ0 a).2.1 ≠ (TJ0 b).2.1 := by decide +kernel
theorem tyJ0_ok : ∀ k, k < 0 → parseFieldDescriptor (TJ0 k).2.2.1 = some (tyJ0 k) := by decide +kernel
abbrev cJ0_length_8abf5 : ByteArray := prog_15_method_54_code
def yJ0_length_8abf5 : MethodName := ⟨RJ0, "length", "()I"⟩
abbrev cJ0_charAt_5068e : ByteArray := prog_15_method_56_code
def yJ0_charAt_5068e : MethodName := ⟨RJ0, "charAt", "(I)C"⟩
abbrev cJ0_coder_7d493 : ByteArray := prog_15_method_152_code
def yJ0_coder_7d493 : MethodName := ⟨RJ0, "coder", "()B"⟩
abbrev cJ0_isLatin1_aae02 : ByteArray := prog_15_method_154_code
def yJ0_isLatin1_aae02 : MethodName := ⟨RJ0, "isLatin1", "()Z"⟩
abbrev cJ0_checkIndex_df160 : ByteArray := prog_15_method_155_code
def yJ0_checkIndex_df160 : MethodName := ⟨RJ0, "checkIndex", "(II)V"⟩
def RJ1 : String := "java/lang/StringLatin1"
def TJ1 : u_T := fun k => match k with
  | _ => ("", "", "", false)
def tyJ1 : Nat → FieldType := fun k => match k with
  | _ => .int
abbrev wsJ10 : List Cond := u_ws RJ1 TJ1 0
theorem nmJ1 : ∀ a, a < 0 → ∀ b, b < 0 → a ≠ b → (TJ1 a).2.1 ≠ (TJ1 b).2.1 := by decide +kernel
theorem tyJ1_ok : ∀ k, k < 0 → parseFieldDescriptor (TJ1 k).2.2.1 = some (tyJ1 k) := by decide +kernel
abbrev cJ1_charAt_3b067 : ByteArray := prog_16_method_2_code
def yJ1_charAt_3b067 : MethodName := ⟨RJ1, "charAt", "([BI)C"⟩
def RJ2 : String := "java/lang/StringUTF16"
def TJ2 : u_T := fun k => match k with
  | _ => ("", "", "", false)
def tyJ2 : Nat → FieldType := fun k => match k with
  | _ => .int
abbrev wsJ20 : List Cond := u_ws RJ2 TJ2 0
theorem nmJ2 : ∀ a, a < 0 → ∀ b, b < 0 → a ≠ b → (TJ2 a).2.1 ≠ (TJ2 b).2.1 := by decide +kernel
theorem tyJ2_ok : ∀ k, k < 0 → parseFieldDescriptor (TJ2 k).2.2.1 = some (tyJ2 k) := by decide +kernel
abbrev cJ2_getChar_3b067 : ByteArray := prog_17_method_5_code
def yJ2_getChar_3b067 : MethodName := ⟨RJ2, "getChar", "([BI)C"⟩
abbrev cJ2_length_9d52b : ByteArray := prog_17_method_6_code
def yJ2_length_9d52b : MethodName := ⟨RJ2, "length", "([B)I"⟩
abbrev cJ2_charAt_3b067 : ByteArray := prog_17_method_83_code
def yJ2_charAt_3b067 : MethodName := ⟨RJ2, "charAt", "([BI)C"⟩
abbrev cJ2_checkIndex_2214a : ByteArray := prog_17_method_91_code
def yJ2_checkIndex_2214a : MethodName := ⟨RJ2, "checkIndex", "(I[B)V"⟩
def RJ10 : String := "java/lang/System"
def TJ10 : u_T := fun k => match k with
  | _ => ("", "", "", false)
def tyJ10 : Nat → FieldType := fun k => match k with
  | _ => .int
abbrev wsJ100 : List Cond := u_ws RJ10 TJ10 0
theorem nmJ10 : ∀ a, a < 0 → ∀ b, b < 0 → a ≠ b → (TJ10 a).2.1 ≠ (TJ10 b).2.1 := by decide +kernel
theorem tyJ10_ok : ∀ k, k < 0 → parseFieldDescriptor (TJ10 k).2.2.1 = some (tyJ10 k) := by decide +kernel
def RJ3 : String := "jdk/internal/util/Preconditions"
def TJ3 : u_T := fun k => match k with
  | _ => ("", "", "", false)
def tyJ3 : Nat → FieldType := fun k => match k with
  | _ => .int
abbrev wsJ30 : List Cond := u_ws RJ3 TJ3 0
theorem nmJ3 : ∀ a, a < 0 → ∀ b, b < 0 → a ≠ b → (TJ3 a).2.1 ≠ (TJ3 b).2.1 := by decide +kernel
theorem tyJ3_ok : ∀ k, k < 0 → parseFieldDescriptor (TJ3 k).2.2.1 = some (tyJ3 k) := by decide +kernel
abbrev cJ3_checkIndex_8e157 : ByteArray := prog_19_method_11_code
def yJ3_checkIndex_8e157 : MethodName := ⟨RJ3, "checkIndex", "(IILjava/util/function/BiFunction;)I"⟩
def RL : String := "WatchSleepLaw"
abbrev cL_law : ByteArray := code
def yL_law : MethodName := ⟨RL, "law", "([I)Z"⟩
