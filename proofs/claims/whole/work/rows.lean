section
-- ===== PART A: goes FIRST, ahead of the names: the tables' words, and 'selects' of the private methods out of them =====
/-- a private method of a class that the tables say can be made, by its rows of tables_1 -/
def lw_okq (q : MethodName × Nat) : Prop := (q.1.cls ≠ "java/lang/invoke/MethodHandle" ∧ q.1.cls ≠ "java/lang/invoke/VarHandle") ∧ Cond.instantiable q.1.cls q.2 ∈ tables_1 ∧ Cond.privateMethod q.1 ∈ tables_1 ∧ Cond.instanceMethod q.1 ∈ tables_1
theorem lw_p0 : lw_okq (⟨"java/lang/Throwable", "fillInStackTrace", "(I)Ljava/lang/Throwable;"⟩, 6) := ⟨⟨by decide +kernel, by decide +kernel⟩, List.mem_of_getElem? (i := 406) (by decide +kernel), List.mem_of_getElem? (i := 404) (by decide +kernel), List.mem_of_getElem? (i := 405) (by decide +kernel)⟩
theorem lw_p1 : lw_okq (⟨"KitePainter", "requireCell", "(II)V"⟩, 7) := ⟨⟨by decide +kernel, by decide +kernel⟩, List.mem_of_getElem? (i := 23) (by decide +kernel), List.mem_of_getElem? (i := 441) (by decide +kernel), List.mem_of_getElem? (i := 442) (by decide +kernel)⟩
theorem lw_p2 : lw_okq (⟨"KitePainter$SetupReader", "goOn", "()V"⟩, 13) := ⟨⟨by decide +kernel, by decide +kernel⟩, List.mem_of_getElem? (i := 169) (by decide +kernel), List.mem_of_getElem? (i := 488) (by decide +kernel), List.mem_of_getElem? (i := 489) (by decide +kernel)⟩
theorem lw_p3 : lw_okq (⟨"KitePainter$SetupReader", "isDigit", "(I)Z"⟩, 13) := ⟨⟨by decide +kernel, by decide +kernel⟩, List.mem_of_getElem? (i := 169) (by decide +kernel), List.mem_of_getElem? (i := 492) (by decide +kernel), List.mem_of_getElem? (i := 493) (by decide +kernel)⟩
theorem lw_p4 : lw_okq (⟨"KitePainter$SetupReader", "isLetter", "(I)Z"⟩, 13) := ⟨⟨by decide +kernel, by decide +kernel⟩, List.mem_of_getElem? (i := 169) (by decide +kernel), List.mem_of_getElem? (i := 496) (by decide +kernel), List.mem_of_getElem? (i := 497) (by decide +kernel)⟩
theorem lw_p5 : lw_okq (⟨"KitePainter$SetupReader", "readKite", "(LKitePainter$Sail;)V"⟩, 13) := ⟨⟨by decide +kernel, by decide +kernel⟩, List.mem_of_getElem? (i := 169) (by decide +kernel), List.mem_of_getElem? (i := 500) (by decide +kernel), List.mem_of_getElem? (i := 501) (by decide +kernel)⟩
theorem lw_p6 : lw_okq (⟨"KitePainter$SetupReader", "readWord", "(Ljava/lang/String;)V"⟩, 13) := ⟨⟨by decide +kernel, by decide +kernel⟩, List.mem_of_getElem? (i := 169) (by decide +kernel), List.mem_of_getElem? (i := 505) (by decide +kernel), List.mem_of_getElem? (i := 506) (by decide +kernel)⟩
theorem lw_p7 : lw_okq (⟨"KitePainter$SetupReader", "isWord", "(Ljava/lang/String;)Z"⟩, 13) := ⟨⟨by decide +kernel, by decide +kernel⟩, List.mem_of_getElem? (i := 169) (by decide +kernel), List.mem_of_getElem? (i := 509) (by decide +kernel), List.mem_of_getElem? (i := 510) (by decide +kernel)⟩
theorem lw_p8 : lw_okq (⟨"KitePainter$SetupReader", "fail", "(II)V"⟩, 13) := ⟨⟨by decide +kernel, by decide +kernel⟩, List.mem_of_getElem? (i := 169) (by decide +kernel), List.mem_of_getElem? (i := 561) (by decide +kernel), List.mem_of_getElem? (i := 562) (by decide +kernel)⟩
theorem lw_p9 : lw_okq (⟨"KitePainter$SetupReader", "readNumber", "(II)I"⟩, 13) := ⟨⟨by decide +kernel, by decide +kernel⟩, List.mem_of_getElem? (i := 169) (by decide +kernel), List.mem_of_getElem? (i := 565) (by decide +kernel), List.mem_of_getElem? (i := 566) (by decide +kernel)⟩
theorem lw_p10 : lw_okq (⟨"KitePainter$SetupReader", "valueUpTo", "(I)I"⟩, 13) := ⟨⟨by decide +kernel, by decide +kernel⟩, List.mem_of_getElem? (i := 169) (by decide +kernel), List.mem_of_getElem? (i := 569) (by decide +kernel), List.mem_of_getElem? (i := 570) (by decide +kernel)⟩
theorem lw_p11 : lw_okq (⟨"KitePainter$SetupReader", "digitAt", "(I)I"⟩, 13) := ⟨⟨by decide +kernel, by decide +kernel⟩, List.mem_of_getElem? (i := 169) (by decide +kernel), List.mem_of_getElem? (i := 573) (by decide +kernel), List.mem_of_getElem? (i := 574) (by decide +kernel)⟩
theorem lw_p12 : lw_okq (⟨"KitePainter$SetupReader", "readSemicolon", "()V"⟩, 13) := ⟨⟨by decide +kernel, by decide +kernel⟩, List.mem_of_getElem? (i := 169) (by decide +kernel), List.mem_of_getElem? (i := 577) (by decide +kernel), List.mem_of_getElem? (i := 578) (by decide +kernel)⟩
theorem lw_p13 : lw_okq (⟨"KitePainter$SetupReader", "readStatement", "(LKitePainter$Sail;)V"⟩, 13) := ⟨⟨by decide +kernel, by decide +kernel⟩, List.mem_of_getElem? (i := 169) (by decide +kernel), List.mem_of_getElem? (i := 582) (by decide +kernel), List.mem_of_getElem? (i := 583) (by decide +kernel)⟩
theorem lw_p14 : lw_okq (⟨"KitePainter$SetupReader", "readReach", "(LKitePainter$Sail;)V"⟩, 13) := ⟨⟨by decide +kernel, by decide +kernel⟩, List.mem_of_getElem? (i := 169) (by decide +kernel), List.mem_of_getElem? (i := 587) (by decide +kernel), List.mem_of_getElem? (i := 588) (by decide +kernel)⟩
theorem lw_p15 : lw_okq (⟨"KitePainter$SetupReader", "refuseIf", "(Z)V"⟩, 13) := ⟨⟨by decide +kernel, by decide +kernel⟩, List.mem_of_getElem? (i := 169) (by decide +kernel), List.mem_of_getElem? (i := 591) (by decide +kernel), List.mem_of_getElem? (i := 592) (by decide +kernel)⟩
def lw_privs_1 : List (MethodName × Nat) := [(⟨"java/lang/Throwable", "fillInStackTrace", "(I)Ljava/lang/Throwable;"⟩, 6), (⟨"KitePainter", "requireCell", "(II)V"⟩, 7), (⟨"KitePainter$SetupReader", "goOn", "()V"⟩, 13), (⟨"KitePainter$SetupReader", "isDigit", "(I)Z"⟩, 13), (⟨"KitePainter$SetupReader", "isLetter", "(I)Z"⟩, 13), (⟨"KitePainter$SetupReader", "readKite", "(LKitePainter$Sail;)V"⟩, 13), (⟨"KitePainter$SetupReader", "readWord", "(Ljava/lang/String;)V"⟩, 13), (⟨"KitePainter$SetupReader", "isWord", "(Ljava/lang/String;)Z"⟩, 13), (⟨"KitePainter$SetupReader", "fail", "(II)V"⟩, 13), (⟨"KitePainter$SetupReader", "readNumber", "(II)I"⟩, 13), (⟨"KitePainter$SetupReader", "valueUpTo", "(I)I"⟩, 13), (⟨"KitePainter$SetupReader", "digitAt", "(I)I"⟩, 13), (⟨"KitePainter$SetupReader", "readSemicolon", "()V"⟩, 13), (⟨"KitePainter$SetupReader", "readStatement", "(LKitePainter$Sail;)V"⟩, 13), (⟨"KitePainter$SetupReader", "readReach", "(LKitePainter$Sail;)V"⟩, 13), (⟨"KitePainter$SetupReader", "refuseIf", "(Z)V"⟩, 13)]
theorem lw_r1 : ∀ q ∈ lw_privs_1, lw_okq q := List.forall_mem_cons.mpr ⟨lw_p0, List.forall_mem_cons.mpr ⟨lw_p1, List.forall_mem_cons.mpr ⟨lw_p2, List.forall_mem_cons.mpr ⟨lw_p3, List.forall_mem_cons.mpr ⟨lw_p4, List.forall_mem_cons.mpr ⟨lw_p5, List.forall_mem_cons.mpr ⟨lw_p6, List.forall_mem_cons.mpr ⟨lw_p7, List.forall_mem_cons.mpr ⟨lw_p8, List.forall_mem_cons.mpr ⟨lw_p9, List.forall_mem_cons.mpr ⟨lw_p10, List.forall_mem_cons.mpr ⟨lw_p11, List.forall_mem_cons.mpr ⟨lw_p12, List.forall_mem_cons.mpr ⟨lw_p13, List.forall_mem_cons.mpr ⟨lw_p14, List.forall_mem_cons.mpr ⟨lw_p15, fun _ h => absurd h List.not_mem_nil⟩⟩⟩⟩⟩⟩⟩⟩⟩⟩⟩⟩⟩⟩⟩⟩
theorem lw_p16 : lw_okq (⟨"KitePainter$SetupReader", "readMix", "(LKitePainter$Sail;)V"⟩, 13) := ⟨⟨by decide +kernel, by decide +kernel⟩, List.mem_of_getElem? (i := 169) (by decide +kernel), List.mem_of_getElem? (i := 600) (by decide +kernel), List.mem_of_getElem? (i := 601) (by decide +kernel)⟩
theorem lw_p17 : lw_okq (⟨"KitePainter$SetupReader", "readSpar", "(LKitePainter$Sail;)V"⟩, 13) := ⟨⟨by decide +kernel, by decide +kernel⟩, List.mem_of_getElem? (i := 169) (by decide +kernel), List.mem_of_getElem? (i := 613) (by decide +kernel), List.mem_of_getElem? (i := 614) (by decide +kernel)⟩
theorem lw_p18 : lw_okq (⟨"KitePainter$SetupReader", "readPattern", "(LKitePainter$Sail;)V"⟩, 13) := ⟨⟨by decide +kernel, by decide +kernel⟩, List.mem_of_getElem? (i := 169) (by decide +kernel), List.mem_of_getElem? (i := 622) (by decide +kernel), List.mem_of_getElem? (i := 623) (by decide +kernel)⟩
theorem lw_p19 : lw_okq (⟨"KitePainter$SetupReader", "checkLine", "(LKitePainter$Sail;II)V"⟩, 13) := ⟨⟨by decide +kernel, by decide +kernel⟩, List.mem_of_getElem? (i := 169) (by decide +kernel), List.mem_of_getElem? (i := 626) (by decide +kernel), List.mem_of_getElem? (i := 627) (by decide +kernel)⟩
theorem lw_p20 : lw_okq (⟨"KitePainter$SetupReader", "takeLine", "(LKitePainter$Sail;II)V"⟩, 13) := ⟨⟨by decide +kernel, by decide +kernel⟩, List.mem_of_getElem? (i := 169) (by decide +kernel), List.mem_of_getElem? (i := 630) (by decide +kernel), List.mem_of_getElem? (i := 631) (by decide +kernel)⟩
theorem lw_p21 : lw_okq (⟨"KitePainter$RegionFinder", "spread", "(LKitePainter$Sail;II)V"⟩, 4) := ⟨⟨by decide +kernel, by decide +kernel⟩, List.mem_of_getElem? (i := 150) (by decide +kernel), List.mem_of_getElem? (i := 684) (by decide +kernel), List.mem_of_getElem? (i := 685) (by decide +kernel)⟩
theorem lw_p22 : lw_okq (⟨"KitePainter$RegionFinder", "visit", "(LKitePainter$Sail;III)V"⟩, 4) := ⟨⟨by decide +kernel, by decide +kernel⟩, List.mem_of_getElem? (i := 150) (by decide +kernel), List.mem_of_getElem? (i := 689) (by decide +kernel), List.mem_of_getElem? (i := 690) (by decide +kernel)⟩
theorem lw_p23 : lw_okq (⟨"KitePainter$Bleeding", "bleedOnce", "(LKitePainter$Sail;)I"⟩, 2) := ⟨⟨by decide +kernel, by decide +kernel⟩, List.mem_of_getElem? (i := 137) (by decide +kernel), List.mem_of_getElem? (i := 741) (by decide +kernel), List.mem_of_getElem? (i := 742) (by decide +kernel)⟩
theorem lw_p24 : lw_okq (⟨"KitePainter$Bleeding", "bleedInto", "(LKitePainter$Sail;II)V"⟩, 2) := ⟨⟨by decide +kernel, by decide +kernel⟩, List.mem_of_getElem? (i := 137) (by decide +kernel), List.mem_of_getElem? (i := 750) (by decide +kernel), List.mem_of_getElem? (i := 751) (by decide +kernel)⟩
theorem lw_p25 : lw_okq (⟨"KitePainter", "requirePattern", "(I)V"⟩, 7) := ⟨⟨by decide +kernel, by decide +kernel⟩, List.mem_of_getElem? (i := 23) (by decide +kernel), List.mem_of_getElem? (i := 776) (by decide +kernel), List.mem_of_getElem? (i := 777) (by decide +kernel)⟩
theorem lw_p26 : lw_okq (⟨"KitePainterModel", "fails", "(ZI)Z"⟩, 21) := ⟨⟨by decide +kernel, by decide +kernel⟩, List.mem_of_getElem? (i := 879) (by decide +kernel), List.mem_of_getElem? (i := 970) (by decide +kernel), List.mem_of_getElem? (i := 971) (by decide +kernel)⟩
theorem lw_p27 : lw_okq (⟨"KitePainterModel", "takeWord", "(Ljava/lang/String;)Z"⟩, 21) := ⟨⟨by decide +kernel, by decide +kernel⟩, List.mem_of_getElem? (i := 879) (by decide +kernel), List.mem_of_getElem? (i := 975) (by decide +kernel), List.mem_of_getElem? (i := 976) (by decide +kernel)⟩
theorem lw_p28 : lw_okq (⟨"KitePainterModel", "isGood", "()Z"⟩, 21) := ⟨⟨by decide +kernel, by decide +kernel⟩, List.mem_of_getElem? (i := 879) (by decide +kernel), List.mem_of_getElem? (i := 979) (by decide +kernel), List.mem_of_getElem? (i := 980) (by decide +kernel)⟩
theorem lw_p29 : lw_okq (⟨"KitePainterModel", "ahead", "()I"⟩, 21) := ⟨⟨by decide +kernel, by decide +kernel⟩, List.mem_of_getElem? (i := 879) (by decide +kernel), List.mem_of_getElem? (i := 983) (by decide +kernel), List.mem_of_getElem? (i := 984) (by decide +kernel)⟩
theorem lw_p30 : lw_okq (⟨"KitePainterModel", "byteAt", "(I)I"⟩, 21) := ⟨⟨by decide +kernel, by decide +kernel⟩, List.mem_of_getElem? (i := 879) (by decide +kernel), List.mem_of_getElem? (i := 987) (by decide +kernel), List.mem_of_getElem? (i := 988) (by decide +kernel)⟩
theorem lw_p31 : lw_okq (⟨"KitePainterModel", "report", "(II)V"⟩, 21) := ⟨⟨by decide +kernel, by decide +kernel⟩, List.mem_of_getElem? (i := 879) (by decide +kernel), List.mem_of_getElem? (i := 993) (by decide +kernel), List.mem_of_getElem? (i := 994) (by decide +kernel)⟩
def lw_privs_2 : List (MethodName × Nat) := [(⟨"KitePainter$SetupReader", "readMix", "(LKitePainter$Sail;)V"⟩, 13), (⟨"KitePainter$SetupReader", "readSpar", "(LKitePainter$Sail;)V"⟩, 13), (⟨"KitePainter$SetupReader", "readPattern", "(LKitePainter$Sail;)V"⟩, 13), (⟨"KitePainter$SetupReader", "checkLine", "(LKitePainter$Sail;II)V"⟩, 13), (⟨"KitePainter$SetupReader", "takeLine", "(LKitePainter$Sail;II)V"⟩, 13), (⟨"KitePainter$RegionFinder", "spread", "(LKitePainter$Sail;II)V"⟩, 4), (⟨"KitePainter$RegionFinder", "visit", "(LKitePainter$Sail;III)V"⟩, 4), (⟨"KitePainter$Bleeding", "bleedOnce", "(LKitePainter$Sail;)I"⟩, 2), (⟨"KitePainter$Bleeding", "bleedInto", "(LKitePainter$Sail;II)V"⟩, 2), (⟨"KitePainter", "requirePattern", "(I)V"⟩, 7), (⟨"KitePainterModel", "fails", "(ZI)Z"⟩, 21), (⟨"KitePainterModel", "takeWord", "(Ljava/lang/String;)Z"⟩, 21), (⟨"KitePainterModel", "isGood", "()Z"⟩, 21), (⟨"KitePainterModel", "ahead", "()I"⟩, 21), (⟨"KitePainterModel", "byteAt", "(I)I"⟩, 21), (⟨"KitePainterModel", "report", "(II)V"⟩, 21)]
theorem lw_r2 : ∀ q ∈ lw_privs_2, lw_okq q := List.forall_mem_cons.mpr ⟨lw_p16, List.forall_mem_cons.mpr ⟨lw_p17, List.forall_mem_cons.mpr ⟨lw_p18, List.forall_mem_cons.mpr ⟨lw_p19, List.forall_mem_cons.mpr ⟨lw_p20, List.forall_mem_cons.mpr ⟨lw_p21, List.forall_mem_cons.mpr ⟨lw_p22, List.forall_mem_cons.mpr ⟨lw_p23, List.forall_mem_cons.mpr ⟨lw_p24, List.forall_mem_cons.mpr ⟨lw_p25, List.forall_mem_cons.mpr ⟨lw_p26, List.forall_mem_cons.mpr ⟨lw_p27, List.forall_mem_cons.mpr ⟨lw_p28, List.forall_mem_cons.mpr ⟨lw_p29, List.forall_mem_cons.mpr ⟨lw_p30, List.forall_mem_cons.mpr ⟨lw_p31, fun _ h => absurd h List.not_mem_nil⟩⟩⟩⟩⟩⟩⟩⟩⟩⟩⟩⟩⟩⟩⟩⟩
theorem lw_p32 : lw_okq (⟨"KitePainterModel", "number", "(II)I"⟩, 21) := ⟨⟨by decide +kernel, by decide +kernel⟩, List.mem_of_getElem? (i := 879) (by decide +kernel), List.mem_of_getElem? (i := 997) (by decide +kernel), List.mem_of_getElem? (i := 998) (by decide +kernel)⟩
theorem lw_p33 : lw_okq (⟨"KitePainterModel", "expect", "(I)V"⟩, 21) := ⟨⟨by decide +kernel, by decide +kernel⟩, List.mem_of_getElem? (i := 879) (by decide +kernel), List.mem_of_getElem? (i := 1008) (by decide +kernel), List.mem_of_getElem? (i := 1009) (by decide +kernel)⟩
theorem lw_p34 : lw_okq (⟨"KitePainterModel", "statement", "()V"⟩, 21) := ⟨⟨by decide +kernel, by decide +kernel⟩, List.mem_of_getElem? (i := 879) (by decide +kernel), List.mem_of_getElem? (i := 1012) (by decide +kernel), List.mem_of_getElem? (i := 1013) (by decide +kernel)⟩
theorem lw_p35 : lw_okq (⟨"KitePainterModel", "readReach", "(I)V"⟩, 21) := ⟨⟨by decide +kernel, by decide +kernel⟩, List.mem_of_getElem? (i := 879) (by decide +kernel), List.mem_of_getElem? (i := 1017) (by decide +kernel), List.mem_of_getElem? (i := 1018) (by decide +kernel)⟩
theorem lw_p36 : lw_okq (⟨"KitePainterModel", "once", "(II)V"⟩, 21) := ⟨⟨by decide +kernel, by decide +kernel⟩, List.mem_of_getElem? (i := 879) (by decide +kernel), List.mem_of_getElem? (i := 1021) (by decide +kernel), List.mem_of_getElem? (i := 1022) (by decide +kernel)⟩
theorem lw_p37 : lw_okq (⟨"KitePainterModel", "readMix", "()V"⟩, 21) := ⟨⟨by decide +kernel, by decide +kernel⟩, List.mem_of_getElem? (i := 879) (by decide +kernel), List.mem_of_getElem? (i := 1029) (by decide +kernel), List.mem_of_getElem? (i := 1030) (by decide +kernel)⟩
theorem lw_p38 : lw_okq (⟨"KitePainterModel", "readSpar", "()V"⟩, 21) := ⟨⟨by decide +kernel, by decide +kernel⟩, List.mem_of_getElem? (i := 879) (by decide +kernel), List.mem_of_getElem? (i := 1034) (by decide +kernel), List.mem_of_getElem? (i := 1035) (by decide +kernel)⟩
theorem lw_p39 : lw_okq (⟨"KitePainterModel", "readPattern", "(I)V"⟩, 21) := ⟨⟨by decide +kernel, by decide +kernel⟩, List.mem_of_getElem? (i := 879) (by decide +kernel), List.mem_of_getElem? (i := 1045) (by decide +kernel), List.mem_of_getElem? (i := 1046) (by decide +kernel)⟩
theorem lw_p40 : lw_okq (⟨"KitePainterModel", "readLine", "(I)V"⟩, 21) := ⟨⟨by decide +kernel, by decide +kernel⟩, List.mem_of_getElem? (i := 879) (by decide +kernel), List.mem_of_getElem? (i := 1049) (by decide +kernel), List.mem_of_getElem? (i := 1050) (by decide +kernel)⟩
theorem lw_p41 : lw_okq (⟨"KitePainterModel", "remember", "()V"⟩, 21) := ⟨⟨by decide +kernel, by decide +kernel⟩, List.mem_of_getElem? (i := 879) (by decide +kernel), List.mem_of_getElem? (i := 1053) (by decide +kernel), List.mem_of_getElem? (i := 1054) (by decide +kernel)⟩
theorem lw_p42 : lw_okq (⟨"KitePainterModel", "sailCells", "()I"⟩, 21) := ⟨⟨by decide +kernel, by decide +kernel⟩, List.mem_of_getElem? (i := 879) (by decide +kernel), List.mem_of_getElem? (i := 1060) (by decide +kernel), List.mem_of_getElem? (i := 1061) (by decide +kernel)⟩
theorem lw_p43 : lw_okq (⟨"KitePainterModel", "cells", "()I"⟩, 21) := ⟨⟨by decide +kernel, by decide +kernel⟩, List.mem_of_getElem? (i := 879) (by decide +kernel), List.mem_of_getElem? (i := 1064) (by decide +kernel), List.mem_of_getElem? (i := 1065) (by decide +kernel)⟩
theorem lw_p44 : lw_okq (⟨"KitePainterModel", "isCell", "(I)Z"⟩, 21) := ⟨⟨by decide +kernel, by decide +kernel⟩, List.mem_of_getElem? (i := 879) (by decide +kernel), List.mem_of_getElem? (i := 1068) (by decide +kernel), List.mem_of_getElem? (i := 1069) (by decide +kernel)⟩
theorem lw_p45 : lw_okq (⟨"KitePainterModel", "xOf", "(I)I"⟩, 21) := ⟨⟨by decide +kernel, by decide +kernel⟩, List.mem_of_getElem? (i := 879) (by decide +kernel), List.mem_of_getElem? (i := 1072) (by decide +kernel), List.mem_of_getElem? (i := 1073) (by decide +kernel)⟩
theorem lw_p46 : lw_okq (⟨"KitePainterModel", "yOf", "(I)I"⟩, 21) := ⟨⟨by decide +kernel, by decide +kernel⟩, List.mem_of_getElem? (i := 879) (by decide +kernel), List.mem_of_getElem? (i := 1076) (by decide +kernel), List.mem_of_getElem? (i := 1077) (by decide +kernel)⟩
theorem lw_p47 : lw_okq (⟨"KitePainterModel", "isOf", "(II)Z"⟩, 21) := ⟨⟨by decide +kernel, by decide +kernel⟩, List.mem_of_getElem? (i := 879) (by decide +kernel), List.mem_of_getElem? (i := 1080) (by decide +kernel), List.mem_of_getElem? (i := 1081) (by decide +kernel)⟩
def lw_privs_3 : List (MethodName × Nat) := [(⟨"KitePainterModel", "number", "(II)I"⟩, 21), (⟨"KitePainterModel", "expect", "(I)V"⟩, 21), (⟨"KitePainterModel", "statement", "()V"⟩, 21), (⟨"KitePainterModel", "readReach", "(I)V"⟩, 21), (⟨"KitePainterModel", "once", "(II)V"⟩, 21), (⟨"KitePainterModel", "readMix", "()V"⟩, 21), (⟨"KitePainterModel", "readSpar", "()V"⟩, 21), (⟨"KitePainterModel", "readPattern", "(I)V"⟩, 21), (⟨"KitePainterModel", "readLine", "(I)V"⟩, 21), (⟨"KitePainterModel", "remember", "()V"⟩, 21), (⟨"KitePainterModel", "sailCells", "()I"⟩, 21), (⟨"KitePainterModel", "cells", "()I"⟩, 21), (⟨"KitePainterModel", "isCell", "(I)Z"⟩, 21), (⟨"KitePainterModel", "xOf", "(I)I"⟩, 21), (⟨"KitePainterModel", "yOf", "(I)I"⟩, 21), (⟨"KitePainterModel", "isOf", "(II)Z"⟩, 21)]
theorem lw_r3 : ∀ q ∈ lw_privs_3, lw_okq q := List.forall_mem_cons.mpr ⟨lw_p32, List.forall_mem_cons.mpr ⟨lw_p33, List.forall_mem_cons.mpr ⟨lw_p34, List.forall_mem_cons.mpr ⟨lw_p35, List.forall_mem_cons.mpr ⟨lw_p36, List.forall_mem_cons.mpr ⟨lw_p37, List.forall_mem_cons.mpr ⟨lw_p38, List.forall_mem_cons.mpr ⟨lw_p39, List.forall_mem_cons.mpr ⟨lw_p40, List.forall_mem_cons.mpr ⟨lw_p41, List.forall_mem_cons.mpr ⟨lw_p42, List.forall_mem_cons.mpr ⟨lw_p43, List.forall_mem_cons.mpr ⟨lw_p44, List.forall_mem_cons.mpr ⟨lw_p45, List.forall_mem_cons.mpr ⟨lw_p46, List.forall_mem_cons.mpr ⟨lw_p47, fun _ h => absurd h List.not_mem_nil⟩⟩⟩⟩⟩⟩⟩⟩⟩⟩⟩⟩⟩⟩⟩⟩
theorem lw_p48 : lw_okq (⟨"KitePainterModel", "told", "(I)I"⟩, 21) := ⟨⟨by decide +kernel, by decide +kernel⟩, List.mem_of_getElem? (i := 879) (by decide +kernel), List.mem_of_getElem? (i := 1092) (by decide +kernel), List.mem_of_getElem? (i := 1093) (by decide +kernel)⟩
theorem lw_p49 : lw_okq (⟨"KitePainterModel", "spars", "()I"⟩, 21) := ⟨⟨by decide +kernel, by decide +kernel⟩, List.mem_of_getElem? (i := 879) (by decide +kernel), List.mem_of_getElem? (i := 1096) (by decide +kernel), List.mem_of_getElem? (i := 1097) (by decide +kernel)⟩
theorem lw_p50 : lw_okq (⟨"KitePainterModel", "countOf", "(I)I"⟩, 21) := ⟨⟨by decide +kernel, by decide +kernel⟩, List.mem_of_getElem? (i := 879) (by decide +kernel), List.mem_of_getElem? (i := 1100) (by decide +kernel), List.mem_of_getElem? (i := 1101) (by decide +kernel)⟩
theorem lw_p51 : lw_okq (⟨"KitePainterModel", "wetCells", "()I"⟩, 21) := ⟨⟨by decide +kernel, by decide +kernel⟩, List.mem_of_getElem? (i := 879) (by decide +kernel), List.mem_of_getElem? (i := 1104) (by decide +kernel), List.mem_of_getElem? (i := 1105) (by decide +kernel)⟩
theorem lw_p52 : lw_okq (⟨"KitePainterModel", "weightAt", "(I)I"⟩, 21) := ⟨⟨by decide +kernel, by decide +kernel⟩, List.mem_of_getElem? (i := 879) (by decide +kernel), List.mem_of_getElem? (i := 1108) (by decide +kernel), List.mem_of_getElem? (i := 1109) (by decide +kernel)⟩
theorem lw_p53 : lw_okq (⟨"KitePainterModel", "weightOf", "(I)I"⟩, 21) := ⟨⟨by decide +kernel, by decide +kernel⟩, List.mem_of_getElem? (i := 879) (by decide +kernel), List.mem_of_getElem? (i := 1115) (by decide +kernel), List.mem_of_getElem? (i := 1116) (by decide +kernel)⟩
theorem lw_p54 : lw_okq (⟨"KitePainterModel", "colourWeight", "(I)I"⟩, 21) := ⟨⟨by decide +kernel, by decide +kernel⟩, List.mem_of_getElem? (i := 879) (by decide +kernel), List.mem_of_getElem? (i := 1119) (by decide +kernel), List.mem_of_getElem? (i := 1120) (by decide +kernel)⟩
theorem lw_p55 : lw_okq (⟨"KitePainterModel", "balance", "()I"⟩, 21) := ⟨⟨by decide +kernel, by decide +kernel⟩, List.mem_of_getElem? (i := 879) (by decide +kernel), List.mem_of_getElem? (i := 1123) (by decide +kernel), List.mem_of_getElem? (i := 1124) (by decide +kernel)⟩
theorem lw_p56 : lw_okq (⟨"KitePainterModel", "wettest", "()I"⟩, 21) := ⟨⟨by decide +kernel, by decide +kernel⟩, List.mem_of_getElem? (i := 879) (by decide +kernel), List.mem_of_getElem? (i := 1127) (by decide +kernel), List.mem_of_getElem? (i := 1128) (by decide +kernel)⟩
theorem lw_p57 : lw_okq (⟨"KitePainterModel", "noCell", "(II)Z"⟩, 21) := ⟨⟨by decide +kernel, by decide +kernel⟩, List.mem_of_getElem? (i := 879) (by decide +kernel), List.mem_of_getElem? (i := 1138) (by decide +kernel), List.mem_of_getElem? (i := 1139) (by decide +kernel)⟩
theorem lw_p58 : lw_okq (⟨"KitePainterModel", "at", "(II)I"⟩, 21) := ⟨⟨by decide +kernel, by decide +kernel⟩, List.mem_of_getElem? (i := 879) (by decide +kernel), List.mem_of_getElem? (i := 1142) (by decide +kernel), List.mem_of_getElem? (i := 1143) (by decide +kernel)⟩
theorem lw_p59 : lw_okq (⟨"KitePainterModel", "toldCell", "(II)I"⟩, 21) := ⟨⟨by decide +kernel, by decide +kernel⟩, List.mem_of_getElem? (i := 879) (by decide +kernel), List.mem_of_getElem? (i := 1146) (by decide +kernel), List.mem_of_getElem? (i := 1147) (by decide +kernel)⟩
theorem lw_p60 : lw_okq (⟨"KitePainterModel", "mirrorOf", "(I)I"⟩, 21) := ⟨⟨by decide +kernel, by decide +kernel⟩, List.mem_of_getElem? (i := 879) (by decide +kernel), List.mem_of_getElem? (i := 1150) (by decide +kernel), List.mem_of_getElem? (i := 1151) (by decide +kernel)⟩
theorem lw_p61 : lw_okq (⟨"KitePainterModel", "mixOf", "(II)I"⟩, 21) := ⟨⟨by decide +kernel, by decide +kernel⟩, List.mem_of_getElem? (i := 879) (by decide +kernel), List.mem_of_getElem? (i := 1158) (by decide +kernel), List.mem_of_getElem? (i := 1159) (by decide +kernel)⟩
theorem lw_p62 : lw_okq (⟨"KitePainterModel", "unlikeNow", "()I"⟩, 21) := ⟨⟨by decide +kernel, by decide +kernel⟩, List.mem_of_getElem? (i := 879) (by decide +kernel), List.mem_of_getElem? (i := 1170) (by decide +kernel), List.mem_of_getElem? (i := 1171) (by decide +kernel)⟩
theorem lw_p63 : lw_okq (⟨"KitePainterModel", "clearMarks", "()V"⟩, 21) := ⟨⟨by decide +kernel, by decide +kernel⟩, List.mem_of_getElem? (i := 879) (by decide +kernel), List.mem_of_getElem? (i := 1178) (by decide +kernel), List.mem_of_getElem? (i := 1179) (by decide +kernel)⟩
def lw_privs_4 : List (MethodName × Nat) := [(⟨"KitePainterModel", "told", "(I)I"⟩, 21), (⟨"KitePainterModel", "spars", "()I"⟩, 21), (⟨"KitePainterModel", "countOf", "(I)I"⟩, 21), (⟨"KitePainterModel", "wetCells", "()I"⟩, 21), (⟨"KitePainterModel", "weightAt", "(I)I"⟩, 21), (⟨"KitePainterModel", "weightOf", "(I)I"⟩, 21), (⟨"KitePainterModel", "colourWeight", "(I)I"⟩, 21), (⟨"KitePainterModel", "balance", "()I"⟩, 21), (⟨"KitePainterModel", "wettest", "()I"⟩, 21), (⟨"KitePainterModel", "noCell", "(II)Z"⟩, 21), (⟨"KitePainterModel", "at", "(II)I"⟩, 21), (⟨"KitePainterModel", "toldCell", "(II)I"⟩, 21), (⟨"KitePainterModel", "mirrorOf", "(I)I"⟩, 21), (⟨"KitePainterModel", "mixOf", "(II)I"⟩, 21), (⟨"KitePainterModel", "unlikeNow", "()I"⟩, 21), (⟨"KitePainterModel", "clearMarks", "()V"⟩, 21)]
theorem lw_r4 : ∀ q ∈ lw_privs_4, lw_okq q := List.forall_mem_cons.mpr ⟨lw_p48, List.forall_mem_cons.mpr ⟨lw_p49, List.forall_mem_cons.mpr ⟨lw_p50, List.forall_mem_cons.mpr ⟨lw_p51, List.forall_mem_cons.mpr ⟨lw_p52, List.forall_mem_cons.mpr ⟨lw_p53, List.forall_mem_cons.mpr ⟨lw_p54, List.forall_mem_cons.mpr ⟨lw_p55, List.forall_mem_cons.mpr ⟨lw_p56, List.forall_mem_cons.mpr ⟨lw_p57, List.forall_mem_cons.mpr ⟨lw_p58, List.forall_mem_cons.mpr ⟨lw_p59, List.forall_mem_cons.mpr ⟨lw_p60, List.forall_mem_cons.mpr ⟨lw_p61, List.forall_mem_cons.mpr ⟨lw_p62, List.forall_mem_cons.mpr ⟨lw_p63, fun _ h => absurd h List.not_mem_nil⟩⟩⟩⟩⟩⟩⟩⟩⟩⟩⟩⟩⟩⟩⟩⟩
theorem lw_p64 : lw_okq (⟨"KitePainterModel", "mark", "(I)I"⟩, 21) := ⟨⟨by decide +kernel, by decide +kernel⟩, List.mem_of_getElem? (i := 879) (by decide +kernel), List.mem_of_getElem? (i := 1182) (by decide +kernel), List.mem_of_getElem? (i := 1183) (by decide +kernel)⟩
theorem lw_p65 : lw_okq (⟨"KitePainterModel", "beside", "(II)I"⟩, 21) := ⟨⟨by decide +kernel, by decide +kernel⟩, List.mem_of_getElem? (i := 879) (by decide +kernel), List.mem_of_getElem? (i := 1186) (by decide +kernel), List.mem_of_getElem? (i := 1187) (by decide +kernel)⟩
theorem lw_p66 : lw_okq (⟨"KitePainterModel", "toldBleeds", "(I)I"⟩, 21) := ⟨⟨by decide +kernel, by decide +kernel⟩, List.mem_of_getElem? (i := 879) (by decide +kernel), List.mem_of_getElem? (i := 1198) (by decide +kernel), List.mem_of_getElem? (i := 1199) (by decide +kernel)⟩
theorem lw_p67 : lw_okq (⟨"KitePainterModel", "source", "(I)I"⟩, 21) := ⟨⟨by decide +kernel, by decide +kernel⟩, List.mem_of_getElem? (i := 879) (by decide +kernel), List.mem_of_getElem? (i := 1202) (by decide +kernel), List.mem_of_getElem? (i := 1203) (by decide +kernel)⟩
theorem lw_p68 : lw_okq (⟨"KitePainterModel", "tick", "()I"⟩, 21) := ⟨⟨by decide +kernel, by decide +kernel⟩, List.mem_of_getElem? (i := 879) (by decide +kernel), List.mem_of_getElem? (i := 1210) (by decide +kernel), List.mem_of_getElem? (i := 1211) (by decide +kernel)⟩
theorem lw_p69 : lw_okq (⟨"KitePainterModel", "noPattern", "(I)Z"⟩, 21) := ⟨⟨by decide +kernel, by decide +kernel⟩, List.mem_of_getElem? (i := 879) (by decide +kernel), List.mem_of_getElem? (i := 1226) (by decide +kernel), List.mem_of_getElem? (i := 1227) (by decide +kernel)⟩
theorem lw_p70 : lw_okq (⟨"KitePainterModel", "painted", "(I)I"⟩, 21) := ⟨⟨by decide +kernel, by decide +kernel⟩, List.mem_of_getElem? (i := 879) (by decide +kernel), List.mem_of_getElem? (i := 1230) (by decide +kernel), List.mem_of_getElem? (i := 1231) (by decide +kernel)⟩
theorem lw_p71 : lw_okq (⟨"KitePainterModel", "ofPattern", "(II)I"⟩, 21) := ⟨⟨by decide +kernel, by decide +kernel⟩, List.mem_of_getElem? (i := 879) (by decide +kernel), List.mem_of_getElem? (i := 1234) (by decide +kernel), List.mem_of_getElem? (i := 1235) (by decide +kernel)⟩
theorem lw_p72 : lw_okq (⟨"KitePainterModel", "digitAt", "(III)I"⟩, 21) := ⟨⟨by decide +kernel, by decide +kernel⟩, List.mem_of_getElem? (i := 879) (by decide +kernel), List.mem_of_getElem? (i := 1238) (by decide +kernel), List.mem_of_getElem? (i := 1239) (by decide +kernel)⟩
theorem lw_p73 : lw_okq (⟨"KitePainterModel", "putBoth", "(IIIZ)V"⟩, 21) := ⟨⟨by decide +kernel, by decide +kernel⟩, List.mem_of_getElem? (i := 879) (by decide +kernel), List.mem_of_getElem? (i := 1254) (by decide +kernel), List.mem_of_getElem? (i := 1255) (by decide +kernel)⟩
theorem lw_p74 : lw_okq (⟨"KitePainterModel", "put", "(III)V"⟩, 21) := ⟨⟨by decide +kernel, by decide +kernel⟩, List.mem_of_getElem? (i := 879) (by decide +kernel), List.mem_of_getElem? (i := 1258) (by decide +kernel), List.mem_of_getElem? (i := 1259) (by decide +kernel)⟩
def lw_privs_5 : List (MethodName × Nat) := [(⟨"KitePainterModel", "mark", "(I)I"⟩, 21), (⟨"KitePainterModel", "beside", "(II)I"⟩, 21), (⟨"KitePainterModel", "toldBleeds", "(I)I"⟩, 21), (⟨"KitePainterModel", "source", "(I)I"⟩, 21), (⟨"KitePainterModel", "tick", "()I"⟩, 21), (⟨"KitePainterModel", "noPattern", "(I)Z"⟩, 21), (⟨"KitePainterModel", "painted", "(I)I"⟩, 21), (⟨"KitePainterModel", "ofPattern", "(II)I"⟩, 21), (⟨"KitePainterModel", "digitAt", "(III)I"⟩, 21), (⟨"KitePainterModel", "putBoth", "(IIIZ)V"⟩, 21), (⟨"KitePainterModel", "put", "(III)V"⟩, 21)]
theorem lw_r5 : ∀ q ∈ lw_privs_5, lw_okq q := List.forall_mem_cons.mpr ⟨lw_p64, List.forall_mem_cons.mpr ⟨lw_p65, List.forall_mem_cons.mpr ⟨lw_p66, List.forall_mem_cons.mpr ⟨lw_p67, List.forall_mem_cons.mpr ⟨lw_p68, List.forall_mem_cons.mpr ⟨lw_p69, List.forall_mem_cons.mpr ⟨lw_p70, List.forall_mem_cons.mpr ⟨lw_p71, List.forall_mem_cons.mpr ⟨lw_p72, List.forall_mem_cons.mpr ⟨lw_p73, List.forall_mem_cons.mpr ⟨lw_p74, fun _ h => absurd h List.not_mem_nil⟩⟩⟩⟩⟩⟩⟩⟩⟩⟩⟩
def lw_privs : List (MethodName × Nat) := lw_privs_1 ++ (lw_privs_2 ++ (lw_privs_3 ++ (lw_privs_4 ++ (lw_privs_5))))
def lw_tbl : List Cond := k2_sels lw_privs ++ tables_1
theorem lw_privs_ok : ∀ q ∈ lw_privs, lw_okq q := by
  show ∀ q ∈ lw_privs_1 ++ (lw_privs_2 ++ (lw_privs_3 ++ (lw_privs_4 ++ (lw_privs_5)))), lw_okq q
  exact List.forall_mem_append.mpr ⟨lw_r1, List.forall_mem_append.mpr ⟨lw_r2, List.forall_mem_append.mpr ⟨lw_r3, List.forall_mem_append.mpr ⟨lw_r4, lw_r5⟩⟩⟩⟩
/-- the streams that the claim lets the run draw from -/
abbrev lw_cs : List Choice := [Jvm.Choice.named "NaN.bits"]
theorem lw_bits : nanBits ∈ lw_cs := by first | decide | exact List.mem_cons_self | simp [lw_cs, nanBits]
/-! ===== BEGIN words of one list among another's, by their places ===== -/
theorem goodIn_r {big : List Cond} (ws : List Cond) (ps : List Nat) (hp : ws = ps.filterMap (fun i => big[i]?)) (h : ws.all goodWord = true) : GoodIn big ws := by
  intro w hw
  have h1 := List.all_eq_true.mp h w hw
  rw [hp] at hw
  obtain ⟨i, -, hi⟩ := List.mem_filterMap.mp hw
  have hm : w ∈ big := by first | exact List.mem_of_getElem? hi | exact List.getElem?_mem hi
  exact ⟨hm, good_of_word h1⟩
theorem goodIn_app {big a b : List Cond} (ha : GoodIn big a) (hb : GoodIn big b) : GoodIn big (a ++ b) := fun w h => (List.mem_append.mp h).elim (ha w) (hb w)
theorem goodIn_ca {big a b : List Cond} {c : Cond} (ha : GoodIn big (c :: a)) (hb : GoodIn big b) : GoodIn big (c :: (a ++ b)) := fun w h => (List.mem_cons.mp h).elim (fun e => ha w (List.mem_cons.mpr (Or.inl e))) (fun h => (List.mem_append.mp h).elim (fun h => ha w (List.mem_cons.mpr (Or.inr h))) (hb w))
theorem goodIn_sub {big ws : List Cond} (hm : ∀ w ∈ ws, w ∈ big) (h : ws.all goodWord = true) : GoodIn big ws := fun w hw => ⟨hm w hw, good_of_word (List.all_eq_true.mp h w hw)⟩
/-! ===== END ===== -/

/-! ===== BEGIN new T[n][m]: the outer array a place, the inner ones among the pooled ===== -/
/-- f, but v at every address of l -/
def vr_up {α : Type} (f : Nat → α) (l : List Nat) (v : α) : Nat → α := fun a => if a ∈ l then v else f a
theorem vr_up_in {α : Type} {f : Nat → α} {l : List Nat} {v : α} {a : Nat} (h : a ∈ l) : vr_up f l v a = v := if_pos h
theorem vr_up_ne {α : Type} {f : Nat → α} {l : List Nat} {v : α} {a : Nat} (h : a ∉ l) : vr_up f l v a = f a := if_neg h
theorem vr_rows {L l : List Nat} {f : Nat → va_E} {e : va_E} (h : ∀ a, a ∈ l → a ∉ L) : va_pl L f ++ l.map (fun a => (a, e)) = va_pl (L ++ l) (vr_up f l e) := by
  unfold va_pl
  rw [List.map_append]
  congr 1
  · apply List.map_congr_left
    intro a ha
    rw [vr_up_ne (fun q => h a q ha)]
  · apply List.map_congr_left
    intro a ha
    rw [vr_up_in ha]
theorem vr_lay {X rows : va_W} {x : Nat × va_E} {pl : va_W} {D : va_G} {cl : List vw_C} {H : Heap} (hP : va_P D cl (((X ++ pl) ++ [x]) ++ rows) H) : va_P D cl ((X ++ [x]) ++ (pl ++ rows)) H := by
  rw [List.append_assoc (X ++ pl)] at hP
  have h := va_P.swap hP
  rw [← List.append_assoc X] at h
  have h2 := va_P.swap h
  rw [List.append_assoc (X ++ [x])] at h2
  exact h2
theorem vr_layD {X rows : va_W} {x : Nat × va_E} {pl : va_W} {A : Nat → Prop} (hD : va_D A (((X ++ pl) ++ [x]) ++ rows)) : va_D A ((X ++ [x]) ++ (pl ++ rows)) := by
  rw [List.append_assoc (X ++ pl)] at hD
  have h := va_D.swap hD
  rw [← List.append_assoc X] at h
  have h2 := va_D.swap h
  rw [List.append_assoc (X ++ [x])] at h2
  exact h2
theorem vr_outer (c : ClassId) (N h0 : Nat) : ∀ i : Nat, Jvm.Free.Multi.outerC c N h0 i = arrV c N (fun j => va_rf (if j < i then some (h0 + 1 + j) else none))
  | 0 => by
    show ({ cls := c, slots := Array.replicate N .null, vm := .none } : Cell) = _
    rw [arrV_new]
    refine congrArg (arrV c N) (funext fun j => ?_)
    simp [va_rf]
  | i + 1 => by
    show (Jvm.Free.Multi.outerC c N h0 i).setSlot i (.ref (h0 + 1 + i)) = _
    rw [vr_outer c N h0 i, arrV_store]
    refine congrArg (arrV c N) (funext fun j => ?_)
    by_cases e : j = i
    · subst e
      simp [updV, va_rf]
    · by_cases h : j < i
      · simp [updV, e, h, Nat.lt_succ_of_lt h]
      · simp [updV, e, h, show ¬ j < i + 1 by omega]
def va_AOA (ty : FieldType) (U : State) : Prop := (Cond.arrayOver (.array ty)).before #[] U = true
theorem va_AOA.use {ty : FieldType} {A : Array Value} {U : State} (h : va_AOA ty U) : (Cond.arrayOver (.array ty)).before A U = true := h
section VGM
variable {p : Program} {l : Launch} {e : Env} {R : Room} {s : State} {m : MethodId} {args : Array Value} {below : List Frame} {meth : Method} {c : Code} {H : Heap} {locs : List Loc} {cells slots : Nat} {Q : State → Prop}
variable {cc : ByteArray} {pc : Nat} {ls : Array Slot} {rest : List Value} {D : va_G} {cl : List vw_C} {A : Nat → Prop} {a : Nat} {tys : List (ClassId × FieldType)} {ws : va_W} {H0 : Heap}
theorem va_mna {X : va_W} {L : List Nat} {f : Nat → va_E} {cc : ByteArray} (hexec : p.tables.exec = Jvm.exec) (hb : c.code = cc) {own : String} {index : Nat} {ty : FieldType} {cy : ClassId} (hown : s.vm.findClass own = some m.cls) (hclink : (Cond.classLink own index ("[" ++ (FieldType.array ty).toString)).before args s = true) (hover : va_AOA ty s) (harr : (Cond.arrayClass ty).before args s = true) (hcy : s.vm.findClass (FieldType.array ty).toString = some cy)
    (hK : va_K D cl tys s) (hP : va_P D cl (X ++ va_pl L f) H) (hD : va_D A (X ++ va_pl L f)) (hS : va_S A H0 H locs) (hA : ∀ q, H0.size ≤ q → A q) {n k : Int32} {N' K' : Nat} {z : vp_A} (hn : ¬ n < 0) (hk : ¬ k < 0) (hN : n.toNatClampNeg = N') (hM : k.toNatClampNeg = K')
    (hb1 : N' * 4 ≤ 536870912) (hb2 : K' * componentBytes ty ≤ 536870912) (hb3 : K' ≤ 536870912) (hdf : fits ty (defaultValue ty) = true) (hdd : (defaultValue ty).isDefault = true) (hcells : cells + (1 + N') ≤ R.cells) (hslots : slots + (N' + N' * K') ≤ R.slots) (hz : ∀ c : ClassId, Jvm.Free.Multi.innerC c K' (defaultValue ty) = vp_cell c z) (hdg : decode cc pc = .ok (.multianewarray index 2, 4))
    (kk : ∀ (q : Nat) (r : Nat → Nat) (cA : ClassId) (H1 : Heap), (∀ i j : Nat, i < N' → j < N' → r i = r j → i = j) → (∀ i : Nat, i < N' → r i ∉ L) → va_K D cl (tys ++ [(cA, .array ty)]) s →
      va_P D cl ((X ++ [(q, .inl (cA, N', .inr (.inr (.inr (.inr (fun i => if i < N' then some (r i) else none))))))]) ++ va_pl (L ++ (List.range N').map r) (vr_up f ((List.range N').map r) (.inl (cy, z)))) H1 → va_D A ((X ++ [(q, .inl (cA, N', .inr (.inr (.inr (.inr (fun i => if i < N' then some (r i) else none))))))]) ++ va_pl (L ++ (List.range N').map r) (vr_up f ((List.range N').map r) (.inl (cy, z)))) → va_S A H0 H1 locs →
      W p l e R s m args below meth c H1 locs (cells + 1 + N') (slots + N' + N' * K') Q (F0 m (pc + 4) ls (.ref q :: rest))) : W p l e R s m args below meth c H locs cells slots Q (F0 m pc ls (.int k :: .int n :: rest)) := by
  subst hN
  subst hM
  intro T hT Xs
  obtain ⟨vm₁, cA, comp, -, fA, fC, hO, -, X', step⟩ := Xs.multianewarray2F hexec hown hclink (va_AOA.use hover) harr (g := F0 m pc ls (.int k :: .int n :: rest)) rfl (by rw [hb]; exact hdg) rfl hn hk hb1 hb2 hb3 hdf hdd hcells hslots
  have ec : some cy = some comp := hcy.symm.trans fC
  cases ec
  generalize hF : Jvm.Free.Multi.fill (T.setVm vm₁) cA cy n.toNatClampNeg k.toNatClampNeg (defaultValue ty) n.toNatClampNeg = F at X' step
  have hTh : (T.setVm vm₁).heap = H := hT
  obtain ⟨f1, f2, -, -⟩ := Jvm.Free.Multi.fill_facts (T.setVm vm₁) cA cy n.toNatClampNeg k.toNatClampNeg (defaultValue ty) n.toNatClampNeg
  rw [hF, hTh] at f1 f2
  have hold : ∀ x : Nat, x < H.size → F.heap[x]? = H[x]? := fun x hx => by
    have := Jvm.Free.Multi.fill_old (T.setVm vm₁) cA cy n.toNatClampNeg k.toNatClampNeg (defaultValue ty) (a := x) (by rw [hTh]; exact hx) n.toNatClampNeg
    rw [hF, hTh] at this
    exact this
  have hrow : ∀ j : Nat, j < n.toNatClampNeg → F.heap[H.size + 1 + j]? = some (vp_cell cy z) := fun j hj => by
    have := Jvm.Free.Multi.fill_inner (T.setVm vm₁) cA cy n.toNatClampNeg k.toNatClampNeg (defaultValue ty) n.toNatClampNeg j hj
    rw [hF, hTh, hz] at this
    exact this
  have hout : Jvm.Free.Multi.outerC cA n.toNatClampNeg H.size n.toNatClampNeg = vp_cell cA (n.toNatClampNeg, .inr (.inr (.inr (.inr (fun i => if i < n.toNatClampNeg then some (H.size + 1 + i) else none))))) := by
    rw [vp_cell_q]
    exact vr_outer cA n.toNatClampNeg H.size n.toNatClampNeg
  rw [hout] at f2
  have hlt : ∀ a, a ∈ L → a < H.size := fun a ha => by
    obtain ⟨k9, hk9⟩ := va_pl_get (X := X) (f := f) ha
    exact (hP k9 _ hk9).lt
  have hnl : ∀ i : Nat, i < n.toNatClampNeg → H.size + 1 + i ∉ L := fun i _ h => by
    have := hlt _ h
    omega
  have hnm : ∀ a, a ∈ (List.range n.toNatClampNeg).map (fun i => H.size + 1 + i) → a ∉ L := fun a ha h => by
    obtain ⟨i, -, rfl⟩ := List.mem_map.mp ha
    have := hlt _ h
    omega
  have hP0 : va_P D cl (X ++ va_pl L f) F.heap := hP.kept (fun k9 x hx => hold x.1 ((hP k9 x hx).lt))
  have hP1 : va_P D cl ((X ++ va_pl L f) ++ [(H.size, .inl (cA, n.toNatClampNeg, .inr (.inr (.inr (.inr (fun i => if i < n.toNatClampNeg then some (H.size + 1 + i) else none))))))]) F.heap := hP0.app (fun k9 x hx => by
    have h0 : k9 < 1 := (List.getElem?_eq_some_iff.mp hx).1
    rw [show k9 = 0 by omega] at hx
    cases hx
    exact f2)
  have hP2 : va_P D cl (((X ++ va_pl L f) ++ [(H.size, .inl (cA, n.toNatClampNeg, .inr (.inr (.inr (.inr (fun i => if i < n.toNatClampNeg then some (H.size + 1 + i) else none))))))]) ++ ((List.range n.toNatClampNeg).map (fun i => H.size + 1 + i)).map (fun a => (a, .inl (cy, z)))) F.heap := hP1.app (fun k9 x hx => by
    obtain ⟨a, ha, rfl⟩ := List.mem_map.mp (List.mem_of_getElem? hx)
    obtain ⟨i, hi, rfl⟩ := List.mem_map.mp ha
    exact hrow i (List.mem_range.mp hi))
  have hD2 : va_D A (((X ++ va_pl L f) ++ [(H.size, .inl (cA, n.toNatClampNeg, .inr (.inr (.inr (.inr (fun i => if i < n.toNatClampNeg then some (H.size + 1 + i) else none))))))]) ++ ((List.range n.toNatClampNeg).map (fun i => H.size + 1 + i)).map (fun a => (a, .inl (cy, z)))) := by
    have hD1 := hD.push (e := .inl (cA, n.toNatClampNeg, .inr (.inr (.inr (.inr (fun i => if i < n.toNatClampNeg then some (H.size + 1 + i) else none)))))) hP rfl (hA _ hS.1)
    generalize hW1 : (X ++ va_pl L f) ++ [(H.size, .inl (cA, n.toNatClampNeg, .inr (.inr (.inr (.inr (fun i => if i < n.toNatClampNeg then some (H.size + 1 + i) else none))))))] = W1 at hD1 hP1 ⊢
    have hle : ∀ (k9 : Nat) (x : Nat × va_E), W1[k9]? = some x → x.1 ≤ H.size := fun k9 x hx => by
      rw [← hW1] at hx
      by_cases hl : k9 < (X ++ va_pl L f).length
      · rw [List.getElem?_append_left hl] at hx
        exact Nat.le_of_lt ((hP k9 x hx).lt)
      · rw [List.getElem?_append_right (by omega)] at hx
        have h0 : k9 - (X ++ va_pl L f).length < 1 := (List.getElem?_eq_some_iff.mp hx).1
        rw [show k9 - (X ++ va_pl L f).length = 0 by omega] at hx
        cases hx
        exact Nat.le_refl _
    have hr : ∀ (k9 : Nat) (x : Nat × va_E), (((List.range n.toNatClampNeg).map (fun i => H.size + 1 + i)).map (fun a => ((a, .inl (cy, z)) : Nat × va_E)))[k9]? = some x → x.1 = H.size + 1 + k9 := fun k9 x hx => by
      rw [List.getElem?_map, List.getElem?_map] at hx
      by_cases h9 : k9 < n.toNatClampNeg
      · rw [List.getElem?_range h9] at hx
        cases hx
        rfl
      · have hn0 : (List.range n.toNatClampNeg)[k9]? = none := List.getElem?_eq_none (by rw [List.length_range]; omega)
        rw [hn0] at hx
        cases hx
    refine ⟨fun i j x y hi hj hxy => ?_, fun k9 x hx => ?_⟩
    · by_cases h1 : i < W1.length <;> by_cases h2 : j < W1.length
      · rw [List.getElem?_append_left h1] at hi
        rw [List.getElem?_append_left h2] at hj
        exact hD1.1 i j x y hi hj hxy
      · rw [List.getElem?_append_left h1] at hi
        rw [List.getElem?_append_right (by omega)] at hj
        have := hle _ _ hi
        have := hr _ _ hj
        omega
      · rw [List.getElem?_append_right (by omega)] at hi
        rw [List.getElem?_append_left h2] at hj
        have := hle _ _ hj
        have := hr _ _ hi
        omega
      · rw [List.getElem?_append_right (by omega)] at hi hj
        have := hr _ _ hi
        have := hr _ _ hj
        omega
    · by_cases h1 : k9 < W1.length
      · rw [List.getElem?_append_left h1] at hx
        exact hD1.2 k9 x hx
      · rw [List.getElem?_append_right (by omega)] at hx
        have := hr _ _ hx
        exact hA _ (by have := hS.1; omega)
  have hAr : ArrOfT s cA (.array ty) := fun N9 z9 => by
    obtain ⟨-, k9, hk9, cm9, hkk9⟩ := (hO 0 0 0).1
    exact ⟨(fun q hq => by cases hq), k9, hk9, cm9, hkk9⟩
  have hK2 : va_K D cl (tys ++ [(cA, .array ty)]) s := ⟨hK.1, fun k9 x hx => by
    by_cases hl : k9 < tys.length
    · rw [List.getElem?_append_left hl] at hx
      exact hK.2 k9 x hx
    · rw [List.getElem?_append_right (by omega)] at hx
      have h0 : k9 - tys.length < 1 := (List.getElem?_eq_some_iff.mp hx).1
      rw [show k9 - tys.length = 0 by omega] at hx
      cases hx
      exact ⟨hAr, fA⟩⟩
  obtain ⟨t, a1, b1⟩ := kk H.size (fun i => H.size + 1 + i) cA F.heap (fun i j _ _ h => by have h9 : H.size + 1 + i = H.size + 1 + j := h; omega) hnl hK2 (by rw [← vr_rows hnm]; exact vr_lay hP2) (by rw [← vr_rows hnm]; exact vr_layD hD2) ⟨by rw [f1]; have := hS.1; omega, fun x h1 h2 => (hold x (Nat.lt_of_lt_of_le h1 hS.1)).trans (hS.2.1 x h1 h2), hS.2.2⟩ F rfl X'
  refine ⟨t, step t ?_, b1⟩
  have e : T.heap.size = H.size := by rw [hT]
  rw [e]
  exact a1
end VGM
/-! ===== END ===== -/

/-! ===== BEGIN exceptions that leave a method, and their catching by the caller (launches without stack traces) ===== -/
section VXA
/-! The laws vx_back, vx_callV, vx_callS, vx_callSW, vx_throw0, vx_throwS follow proofs of the library, with one case more: JvmDerived/Free/Laws.lean (Back.of_free), Shelf42/LK1.lean (callV, callS), Shelf/KitTraced.lean (throwNew0V, throwNewS). -/
/-- where a method has thrown q: the class by its name, the cell, what was written, the world -/
def vx_T (XC : String → State → State → Prop) (st : State) (q : Addr) (t : State) (mc ms : Nat) (free : Addr → Prop) : Prop :=
  ∃ (E : String) (ce : Cell) (L : List Loc), XC E st t ∧ t.heap[q]? = some ce ∧ ce.vm = .none ∧ st.vm.findClass E = some ce.cls ∧ st.WarmedH t.vm ∧ st.sameButNew ({ t with vm := st.vm } : State) L mc ms ∧ ∀ z ∈ L, free z.base
def vx_Q (Qc : Array Value → State → Outcome → State → Prop) (XC : String → State → State → Prop) (mc ms : Nat) (free : Addr → Prop) : Array Value → State → Outcome → State → Prop := fun a st o t =>
  (Qc a st o t ∧ ∃ L, FrameEnd st o t L mc ms ∧ ∀ q ∈ L, free q.base) ∨ ∃ q, o = .threw q ∧ vx_T XC st q t mc ms free
/-- a callee that returns or throws -/
def vx_Met (l : Launch) (y : MethodName) (ws : List Cond) (rm : Room) (Pc : Array Value → State → Prop) (Qc : Array Value → State → Outcome → State → Prop) (XC : String → State → State → Prop) (mc ms : Nat) (free : Addr → Prop) : Prop :=
  MetFree l y (headSpec ws rm) Pc (fun _ _ _ _ _ => True) (vx_Q Qc XC mc ms free)
def vx_Post (XC : String → State → State → Prop) (mc ms : Nat) (free : Addr → Prop) : Pt → Array Value → Addr → Pt → Prop := fun A a q B =>
  ∃ (g : JFrame) (mk : MethodId) (t : State) (L : List Loc) (E : String) (ce : Cell), B.U.heap = t.heap ∧ B.U.vm = t.vm ∧ XC E (A.U.calling g mk a) t ∧ t.heap[q]? = some ce ∧ ce.vm = .none ∧ A.U.vm.findClass E = some ce.cls ∧ B.locs = A.locs ++ L ∧ (∀ z ∈ L, free z.base) ∧ B.cells = A.cells + mc ∧ B.slots = A.slots + ms
def vx_Back (l : Launch) (R : Room) (p : Program) (e : Env) (below : List Frame) (s : State) (sargs : Array Value) (y : MethodName) (len W9 : Nat)
    (Pre : Pt → Array Value → Prop) (Post : Pt → Array Value → Option Value → Pt → Prop) (PostX : Pt → Array Value → Addr → Pt → Prop) : Prop :=
  ∀ (m : MethodId) (meth : Method) (c : Code) (A : Pt) (g : JFrame) (ig : Instr) (mk : MethodId) (a : Array Value),
    Stand p l e R s m sargs below meth c A.U A.locs A.cells A.slots → g.method = m → g.locals.size = c.maxLocals → decode c.code g.pc = .ok (ig, len) →
    2 * g.monitorRoom + (g.stack.map fun v => v.category).sum ≤ W9 → A.U.methodNamed? y = some mk → Pre A a →
    (∃ (v : Option Value) (B : Pt), Stand p l e R s m sargs below meth c B.U B.locs B.cells B.slots ∧ Post A a v B ∧
      Steps p.tables e below (doInvoke e (A.U.setTop g) [] mk a).1 (B.U.setTop { g with pc := g.pc + len, stack := v.toList ++ g.stack })) ∨
    (∃ (q : Addr) (B : Pt), Stand p l e R s m sargs below meth c B.U B.locs B.cells B.slots ∧ PostX A a q B ∧
      Steps p.tables e below (doInvoke e (A.U.setTop g) [] mk a).1 ((B.U.setTop g).pushFrame (.throwing q)))
section Payer
variable {l : Launch} {R : Room} {p : Program} {e : Env} {below : List Frame} {s : State} {sargs : Array Value} {y : MethodName} {len W9 : Nat}
theorem vx_back {ws : List Cond} {rm : Room} {Pc : Array Value → State → Prop} {Qc : Array Value → State → Outcome → State → Prop} {XC : String → State → State → Prop} {mc ms : Nat} {free : Addr → Prop} {bytes : ByteArray} {maxL : Nat} {ret : Option FieldType}
    (hM : vx_Met l y ws rm Pc Qc XC mc ms free) (hblind : FrameBlind Pc) (hrc : rm.cells = mc) (hrs : rm.slots = ms)
    (hframes : rm.frames + 1 ≤ R.frames) (hlocals : W9 + (maxL + 11) + rm.locals ≤ R.locals)
    (hws : ∀ w ∈ ws, ∀ a' U, s.WarmedH U.vm → w.before a' U = true) (hcode : Cond.code y bytes maxL ret ∈ ws) (hinit : ∀ a' U, s.WarmedH U.vm → (Cond.initialized y.cls).before a' U = true) :
    vx_Back l R p e below s sargs y len W9 (PreOf R mc ms Pc) (PostOf Qc mc ms free) (vx_Post XC mc ms free) := by
  intro m meth c A g ig mk a X hg hsize hdg hW hn hp
  have h1 : (headSpec ws rm).pre.before a A.U = true := atoms_intro fun w hw => hws w hw _ _ X.warmed
  have h2 : (Cond.code y bytes maxL ret).before a A.U = true := hws _ hcode _ _ X.warmed
  have h3 : (Cond.initialized y.cls).before a A.U = true := hinit _ _ X.warmed
  have h4 : A.cells + (headSpec ws rm).room.cells ≤ R.cells := by rw [show (headSpec ws rm).room.cells = mc from hrc]; exact hp.1
  have h5 : A.slots + (headSpec ws rm).room.slots ≤ R.slots := by rw [show (headSpec ws rm).room.slots = ms from hrs]; exact hp.2.1
  have hPc : Pc a (A.U.calling g mk a) := hblind _ _ _ _ hp.2.2
  obtain ⟨U, Ls, c0, s0⟩ := A
  dsimp only [Pt.U, Pt.locs, Pt.cells, Pt.slots] at h1 h2 h3 h4 h5 X hn hPc ⊢
  obtain ⟨methY, cY, hmY, hcY, -, hlY, -, -, -, -⟩ := Cond.code_spec hn h2
  obtain ⟨kY, hkY, -⟩ := className_of_methodNamed hn
  have hinitY : kY.init = .initialized := Cond.initialized_spec (findClass_of_methodNamed hn) hkY h3
  have h : At U g.method c below := by rw [hg]; exact X.here
  have hlocals9 : W9 + (maxL + 11) + (headSpec ws rm).room.locals ≤ R.locals := hlocals
  have happ : (headSpec ws rm).appliesLoose y e.platform (U.calling g mk a) = true :=
    Spec.appliesLoose_calling (g := g) h hdg hn hkY hinitY
      (X.room_calling (g := g) (R' := (headSpec ws rm).room) hsize hmY hcY hframes (by rw [hlY]; omega) h4 h5) h1
  obtain ⟨mid, hmid⟩ := h.above
  have hfr : (U.setTop g).frames = (.java g :: mid) ++ below := by rw [State.frames_setTop' g h.top, hmid]; rfl
  obtain ⟨o, s₂, hsteps, -, hend, hq⟩ := Steps.callFree hM p X.admits X.cas X.clock (acts := []) hfr happ hPc trivial
  have hq' : vx_Q Qc XC mc ms free a (U.calling g mk a) o s₂ := hq
  rw [State.frames_setTop' g h.top] at hend
  obtain ⟨g₀, hg0⟩ := Option.isSome_iff_exists.mp h.top
  obtain ⟨r, hr⟩ := State.topJava?_eq_some.mp hg0
  have hr' : (({ U with heap := s₂.heap, slotsUsed := s₂.slotsUsed } : State).setVm s₂.vm).frames = .java g₀ :: r := hr
  rcases hq' with ⟨hqc, L, hfe, hL⟩ | ⟨q, rfl, E, ce, L, hx, hce, hcv, hcl, hW₂, hsm, hL⟩
  · obtain ⟨⟨v, rfl⟩, hW₂, e2, q2, q3, q4, q5, q6⟩ := id hfe
    have e3 : s₂ = ({ (U.calling g mk a).setFrames s₂.frames with heap := s₂.heap, slotsUsed := s₂.slotsUsed } : State).setVm s₂.vm := by
      have : s₂ = ({ s₂ with vm := (U.calling g mk a).vm } : State).setVm s₂.vm := rfl
      rw [e2] at this
      exact this
    obtain ⟨c₂, i₂, len₂, hc₂, hd₂, hf₂⟩ := hend
    have hW' : U.WarmedH s₂.vm := hW₂
    have hcc : c₂ = c := by
      have h1 : s₂.code? g.method = U.code? g.method := by
        rw [State.code?_eq, State.code?_eq, hW'.alike.method?]
      exact Option.some.inj (hc₂.symm.trans (h1.trans h.code))
    subst hcc
    have hlen : len₂ = len := by rw [hdg] at hd₂; cases hd₂; rfl
    subst hlen
    have hs₂ : s₂ = (({ U with heap := s₂.heap, slotsUsed := s₂.slotsUsed } : State).setVm s₂.vm).setTop { g with pc := g.pc + len₂, stack := v.toList ++ g.stack } := by
      refine e3.trans ?_
      rw [hf₂, State.calling_eq h.top, State.setFrames_setFrames, State.setTop_of_frames _ hr', hr]
      rfl
    have hsame : U.sameButNew ({ U with heap := s₂.heap, slotsUsed := s₂.slotsUsed } : State) L mc ms := by
      refine ⟨?_, q2, q3, q4, q5, q6⟩
      obtain ⟨t, ht, -⟩ := State.frames_cons hr
      show ({ U with heap := s₂.heap, slotsUsed := s₂.slotsUsed } : State) = { U.setFrames U.frames with heap := s₂.heap, slotsUsed := s₂.slotsUsed }
      rw [State.setFrames_self ht]
    subst hg
    refine Or.inl ⟨v, ⟨(({ U with heap := s₂.heap, slotsUsed := s₂.slotsUsed } : State).setVm s₂.vm), Ls ++ L, c0 + mc, s0 + ms⟩,
      ⟨X.admits, X.cas, X.clock, X.frames, X.room, X.hears, X.method, X.code, (X.here.setHeapUsed s₂.heap s₂.slotsUsed).setVm hW'.alike, X.tail, State.WarmedH.trans X.warmed hW', X.limits, X.bytes, X.same.trans (hsame.setVm s.vm)⟩,
      ⟨g, mk, s₂, L, rfl, rfl, hqc, rfl, hL, rfl, rfl⟩, ?_⟩
    show Steps p.tables e below _ ((({ U with heap := s₂.heap, slotsUsed := s₂.slotsUsed } : State).setVm s₂.vm).setTop { g with pc := g.pc + len₂, stack := v.toList ++ g.stack })
    rw [← hs₂]
    exact hsteps
  · obtain ⟨e2, q2, q3, q4, q5, q6⟩ := id hsm
    have e3 : s₂ = ({ (U.calling g mk a).setFrames s₂.frames with heap := s₂.heap, slotsUsed := s₂.slotsUsed } : State).setVm s₂.vm := by
      have : s₂ = ({ s₂ with vm := (U.calling g mk a).vm } : State).setVm s₂.vm := rfl
      rw [e2] at this
      exact this
    have hf₂ : s₂.frames = .throwing q :: .java g :: U.frames.tail := hend
    have hW' : U.WarmedH s₂.vm := hW₂
    have hs₂ : s₂ = ((({ U with heap := s₂.heap, slotsUsed := s₂.slotsUsed } : State).setVm s₂.vm).setTop g).pushFrame (.throwing q) := by
      refine e3.trans ?_
      rw [hf₂, State.calling_eq h.top, State.setFrames_setFrames, State.pushFrame, State.frames_setTop _ hr', State.setTop_of_frames _ hr', State.setFrames_setFrames, hr]
      rfl
    have hsame : U.sameButNew ({ U with heap := s₂.heap, slotsUsed := s₂.slotsUsed } : State) L mc ms := by
      refine ⟨?_, q2, q3, q4, q5, q6⟩
      obtain ⟨t, ht, -⟩ := State.frames_cons hr
      show ({ U with heap := s₂.heap, slotsUsed := s₂.slotsUsed } : State) = { U.setFrames U.frames with heap := s₂.heap, slotsUsed := s₂.slotsUsed }
      rw [State.setFrames_self ht]
    subst hg
    refine Or.inr ⟨q, ⟨(({ U with heap := s₂.heap, slotsUsed := s₂.slotsUsed } : State).setVm s₂.vm), Ls ++ L, c0 + mc, s0 + ms⟩,
      ⟨X.admits, X.cas, X.clock, X.frames, X.room, X.hears, X.method, X.code, (X.here.setHeapUsed s₂.heap s₂.slotsUsed).setVm hW'.alike, X.tail, State.WarmedH.trans X.warmed hW', X.limits, X.bytes, X.same.trans (hsame.setVm s.vm)⟩,
      ⟨g, mk, s₂, L, E, ce, rfl, rfl, hx, hce, hcv, hcl, rfl, hL, rfl, rfl⟩, ?_⟩
    show Steps p.tables e below _ (((({ U with heap := s₂.heap, slotsUsed := s₂.slotsUsed } : State).setVm s₂.vm).setTop g).pushFrame (.throwing q))
    rw [← hs₂]
    exact hsteps
end Payer
section Calls
variable {p : Program} {l : Launch} {e : Env} {R : Room} {s : State} {m : MethodId} {args : Array Value} {below : List Frame} {meth : Method} {c : Code} {T : State} {locs : List Loc} {cells slots : Nat}
theorem vx_callV (X : Stand p l e R s m args below meth c T locs cells slots) (hexec : p.tables.exec = Jvm.exec) {own C : String} {index : Nat} {y : MethodName} {bytes : ByteArray} {maxL : Nat} {ret : Option FieldType}
    (hown : s.vm.findClass own = some m.cls) (hlink : (Cond.methodLink own index y).before args s = true) (hinst : (Cond.instanceMethod y).before args s = true) (hsel : (Cond.selects C y y).before args s = true)
    (hcode : (Cond.code y bytes maxL ret).before args s = true) (hy : y.cls ≠ "java/lang/invoke/MethodHandle" ∧ y.cls ≠ "java/lang/invoke/VarHandle")
    {W9 : Nat} {Pre : Pt → Array Value → Prop} {Post : Pt → Array Value → Option Value → Pt → Prop} {PostX : Pt → Array Value → Addr → Pt → Prop} (hK : vx_Back l R p e below s args y 3 W9 Pre Post PostX)
    {b : Addr} {cellB : Cell} (hcell : T.heap[b]? = some cellB) (hobj : cellB.vm.isStatics = false) (hcls : s.vm.findClass C = some cellB.cls)
    {g : JFrame} (hg : g.method = m) (hsize : g.locals.size = c.maxLocals) {argsL rest : List Value} (hlen : ∀ sig, parseMethodDescriptor y.desc = some sig → argsL.length = sig.parameters.length)
    (hstack : g.stack = argsL.reverse ++ .ref b :: rest) (hW : 2 * g.monitorRoom + (rest.map fun v => v.category).sum ≤ W9) (hdg : decode c.code g.pc = .ok (.invokevirtual index, 3))
    (hpre : ∀ vm₁, s.WarmedH vm₁ → Pre ⟨T.setVm vm₁, locs, cells, slots⟩ (Value.ref b :: argsL).toArray) :
    (∃ (v : Option Value) (vm₁ : Vm) (B : Pt), s.WarmedH vm₁ ∧ Stand p l e R s m args below meth c B.U B.locs B.cells B.slots ∧ Post ⟨T.setVm vm₁, locs, cells, slots⟩ (Value.ref b :: argsL).toArray v B ∧
      ∀ target, Steps p.tables e below (B.U.setTop { g with pc := g.pc + 3, stack := v.toList ++ rest }) target → Steps p.tables e below (T.setTop g) target) ∨
    (∃ (q : Addr) (vm₁ : Vm) (B : Pt), s.WarmedH vm₁ ∧ Stand p l e R s m args below meth c B.U B.locs B.cells B.slots ∧ PostX ⟨T.setVm vm₁, locs, cells, slots⟩ (Value.ref b :: argsL).toArray q B ∧
      Steps p.tables e below (T.setTop g) ((B.U.setTop { g with stack := rest }).pushFrame (.throwing q))) := by
  obtain ⟨mk, methM, hnamed, hmethM, hstM, habM⟩ := Cond.instanceMethod_spec hinst
  obtain ⟨methM', cM, hmethM', -, -, -, -, -, -, hsigM⟩ := Cond.code_spec hnamed hcode
  cases hmethM.symm.trans hmethM'
  obtain ⟨c2, r2, m2, q1, q2, q3, q4, kP, hkP, hkPi⟩ := Cond.selects_spec hsel
  cases hcls.symm.trans q1
  cases (State.methodFound?_of_named hnamed hy).symm.trans q2
  cases hnamed.symm.trans q3
  have hselP : selectMethod e.platform s.vm cellB.cls mk = .method mk := by rw [Launch.admits_selectMethod X.admits]; exact q4
  obtain ⟨vm₁, X₁, hstep₁⟩ := X.invokevirtual hexec hown hlink hnamed hmethM hstM hkP hkPi hy (a := b) (cell := cellB) hcell
    (fun z h => by rw [h] at hobj; cases hobj) hselP hmethM habM hkP hkPi (g := g) hg (argsL := argsL) (rest := rest) (hlen _ hsigM) hstack hdg
  rcases hK m meth c ⟨T.setVm vm₁, locs, cells, slots⟩ { g with stack := rest } (.invokevirtual index) mk (Value.ref b :: argsL).toArray X₁ hg hsize hdg hW (X₁.named hnamed) (hpre vm₁ X₁.warmed) with ⟨v, B, X', hpost, hsteps⟩ | ⟨q, B, X', hpost, hsteps⟩
  · exact Or.inl ⟨v, vm₁, B, X₁.warmed, X', hpost, fun target h => hstep₁ _ fun acts => by rw [doInvoke_state]; exact hsteps.trans h⟩
  · exact Or.inr ⟨q, vm₁, B, X₁.warmed, X', hpost, hstep₁ _ fun acts => by rw [doInvoke_state]; exact hsteps⟩
theorem vx_callS (X : Stand p l e R s m args below meth c T locs cells slots) (hexec : p.tables.exec = Jvm.exec) {own : String} {index : Nat} {y : MethodName} {bytes : ByteArray} {maxL : Nat} {ret : Option FieldType}
    (hown : s.vm.findClass own = some m.cls) (hlink : (Cond.methodLink own index y).before args s = true) (hstat : (Cond.static y).before args s = true) (hinit : (Cond.initialized y.cls).before args s = true)
    (hcode : (Cond.code y bytes maxL ret).before args s = true) (hy : y.cls ≠ "java/lang/invoke/MethodHandle" ∧ y.cls ≠ "java/lang/invoke/VarHandle")
    {W9 : Nat} {Pre : Pt → Array Value → Prop} {Post : Pt → Array Value → Option Value → Pt → Prop} {PostX : Pt → Array Value → Addr → Pt → Prop} (hK : vx_Back l R p e below s args y 3 W9 Pre Post PostX)
    {g : JFrame} (hg : g.method = m) (hsize : g.locals.size = c.maxLocals) {argsL rest : List Value} (hlen : ∀ sig, parseMethodDescriptor y.desc = some sig → argsL.length = sig.parameters.length)
    (hstack : g.stack = argsL.reverse ++ rest) (hW : 2 * g.monitorRoom + (rest.map fun v => v.category).sum ≤ W9) (hdg : decode c.code g.pc = .ok (.invokestatic index, 3))
    (hpre : ∀ vm₁, s.WarmedH vm₁ → Pre ⟨T.setVm vm₁, locs, cells, slots⟩ argsL.toArray) :
    (∃ (v : Option Value) (vm₁ : Vm) (B : Pt), s.WarmedH vm₁ ∧ Stand p l e R s m args below meth c B.U B.locs B.cells B.slots ∧ Post ⟨T.setVm vm₁, locs, cells, slots⟩ argsL.toArray v B ∧
      ∀ target, Steps p.tables e below (B.U.setTop { g with pc := g.pc + 3, stack := v.toList ++ rest }) target → Steps p.tables e below (T.setTop g) target) ∨
    (∃ (q : Addr) (vm₁ : Vm) (B : Pt), s.WarmedH vm₁ ∧ Stand p l e R s m args below meth c B.U B.locs B.cells B.slots ∧ PostX ⟨T.setVm vm₁, locs, cells, slots⟩ argsL.toArray q B ∧
      Steps p.tables e below (T.setTop g) ((B.U.setTop { g with stack := rest }).pushFrame (.throwing q))) := by
  obtain ⟨mk, hnamed⟩ := Cond.code_named hcode
  obtain ⟨methM, cM, hmethM, -, -, -, -, -, -, hsigM⟩ := Cond.code_spec hnamed hcode
  have hstatic : methM.isStatic = true := Cond.static_spec hnamed hmethM hstat
  obtain ⟨kP, hkP, -⟩ := className_of_methodNamed hnamed
  have hinitP : kP.init = .initialized := Cond.initialized_spec (findClass_of_methodNamed hnamed) hkP hinit
  obtain ⟨vm₁, X₁, hstep₁⟩ := X.invokestatic hexec hown hlink hnamed hmethM hstatic hkP hinitP hy (g := g) hg (argsL := argsL) (rest := rest) (hlen _ hsigM) hstack hdg
  rcases hK m meth c ⟨T.setVm vm₁, locs, cells, slots⟩ { g with stack := rest } (.invokestatic index) mk argsL.toArray X₁ hg hsize hdg hW (X₁.named hnamed) (hpre vm₁ X₁.warmed) with ⟨v, B, X', hpost, hsteps⟩ | ⟨q, B, X', hpost, hsteps⟩
  · exact Or.inl ⟨v, vm₁, B, X₁.warmed, X', hpost, fun target h => hstep₁ _ fun acts => by rw [doInvoke_state]; exact hsteps.trans h⟩
  · exact Or.inr ⟨q, vm₁, B, X₁.warmed, X', hpost, hstep₁ _ fun acts => by rw [doInvoke_state]; exact hsteps⟩
end Calls
theorem vx_cls {s : State} {T : State} {vm₁ : Vm} {E : String} {k : ClassId} (hW : s.WarmedH vm₁) (h : (T.setVm vm₁).vm.findClass E = some k) : s.vm.findClass E = some k := by
  have h1 : vm₁.findClass E = some k := h
  rw [hW.alike.findClass] at h1
  exact h1
/-- the method's frame g, with q thrown over it -/
def vx_W (p : Program) (l : Launch) (e : Env) (R : Room) (s : State) (m : MethodId) (args : Array Value) (below : List Frame) (meth : Method) (c : Code) (H : Heap) (locs : List Loc) (cells slots : Nat) (Q : State → Prop) (g : JFrame) (q : Addr) : Prop :=
  ∀ T : State, T.heap = H → Stand p l e R s m args below meth c T locs cells slots → ∃ t, Steps p.tables e below ((T.setTop g).pushFrame (.throwing q)) t ∧ Q t
def vx_Run (p : Program) (l : Launch) (e : Env) (R : Room) (s : State) (m : MethodId) (args : Array Value) (below : List Frame) (meth : Method) (c : Code) (H : Heap) (locs : List Loc) (cells slots mc ms : Nat) (g : JFrame) (rest : List Value) (Qa : State → Outcome → State → Prop) (XC : String → State → State → Prop) (free : Addr → Prop) : Prop :=
  ∀ T : State, T.heap = H → Stand p l e R s m args below meth c T locs cells slots →
    (∃ (v : Option Value) (st₀ t T' : State) (L : List Loc), st₀.heap = H ∧ Stand p l e R s m args below meth c T' (locs ++ L) (cells + mc) (slots + ms) ∧ (∀ q ∈ L, free q.base) ∧ T'.heap = t.heap ∧ T'.vm = t.vm ∧ Qa st₀ (.returned v) t ∧
      Goes p e below T g T' { g with pc := g.pc + 3, stack := v.toList ++ rest }) ∨
    (∃ (q : Addr) (st₀ t T' : State) (L : List Loc) (E : String) (ce : Cell), st₀.heap = H ∧ Stand p l e R s m args below meth c T' (locs ++ L) (cells + mc) (slots + ms) ∧ (∀ z ∈ L, free z.base) ∧ T'.heap = t.heap ∧ T'.vm = t.vm ∧ XC E st₀ t ∧ t.heap[q]? = some ce ∧ ce.vm = .none ∧ s.vm.findClass E = some ce.cls ∧
      Steps p.tables e below (T.setTop g) ((T'.setTop { g with stack := rest }).pushFrame (.throwing q)))
def vx_X {S : Type} (px : S → Prop) (B : String → S → State → Prop) (A : Nat → Prop) : String → State → State → Prop := fun E st t => ∃ u : S, px u ∧ B E u t ∧ va_F A st t
section Runs
variable {p : Program} {l : Launch} {e : Env} {R : Room} {s : State} {m : MethodId} {args : Array Value} {below : List Frame} {meth : Method} {c : Code} {H : Heap} {locs : List Loc} {cells slots : Nat}
variable {y : MethodName} {bytes cc : ByteArray} {maxL nL mc ms n index : Nat} {ret : Option FieldType} {ws : List Cond} {rm : Room} {Pc : Array Value → State → Prop} {Qc : Array Value → State → Outcome → State → Prop} {XC : String → State → State → Prop} {free : Addr → Prop} {Ts : List Cond} {own C : String} {b : Addr} {As rest : List Value} {g : JFrame}
theorem vx_callBack (cb : CallB R s args own index y bytes maxL ret ws rm mc ms n) (hM : vx_Met l y ws rm Pc Qc XC mc ms free) (hbl : FrameBlind Pc) : vx_Back l R p e below s args y 3 8 (PreOf R mc ms Pc) (PostOf Qc mc ms free) (vx_Post XC mc ms free) := by
  obtain ⟨hrc, hrs, hfr, hlo, hws, hcw, -, hini, -⟩ := cb
  exact vx_back (bytes := bytes) (maxL := maxL) (ret := ret) hM hbl hrc hrs hfr hlo hws hcw (fun a' U hW => word_at hW (Or.inl (by first | rfl | simp [Cond.onTables, Cond.keeps, Cond.steady])) hini)
theorem vx_runV (S : CallFix p m c cc nL s args Ts own) (hM : vx_Met l y ws rm Pc Qc XC mc ms free) (cw : CallW R s args own C index y bytes maxL ret ws rm mc ms n) (hp : PreV s H C b Pc As)
    (hg : g.method = m) (hn : As.length = n) (hsize : g.locals.size = nL) (hstack : g.stack = As.reverse ++ .ref b :: rest) (hW : 2 * g.monitorRoom + (rest.map fun v => v.category).sum ≤ 8) (hdg : decode cc g.pc = .ok (.invokevirtual index, 3)) (hf : cells + mc ≤ R.cells ∧ slots + ms ≤ R.slots) :
    vx_Run p l e R s m args below meth c H locs cells slots mc ms g rest (Qc (Value.ref b :: As).toArray) XC free := by
  have hK : vx_Back l R p e below s args y 3 8 (PreOf R mc ms Pc) (PostOf Qc mc ms free) (vx_Post XC mc ms free) := vx_callBack cw.1 hM hp.1
  obtain ⟨⟨-, -, -, -, -, -, hcode, -, hy, hlen, hl⟩, hin, hse⟩ := cw
  obtain ⟨hx, hb, hml, ho, -⟩ := S
  obtain ⟨-, ⟨cellB, hcB, hoB, hclB⟩, hPc⟩ := hp
  intro T hT X
  rcases vx_callV X hx (C := C) (bytes := bytes) (maxL := maxL) (ret := ret) ho hl hin hse hcode hy hK (by rw [hT]; exact hcB) hoB hclB hg (hsize.trans hml.symm) (argsL := As) (rest := rest) (fun sig h => hn.trans (hlen sig h)) hstack hW (by rw [hb]; exact hdg)
    (fun vm₁ hW₁ => ⟨hf.1, hf.2, hPc (T.setVm vm₁) hT hW₁⟩) with ⟨v, vm₁, ⟨U', l2, c2, s2⟩, hW₁, X', ⟨g', mk, t, L, e1, e2, hq, h1, hL, h2, h3⟩, st⟩ | ⟨q, vm₁, ⟨U', l2, c2, s2⟩, hW₁, X', ⟨g', mk, t, L, E, ce, e1, e2, hq, hce, hcv, hcl, h1, hL, h2, h3⟩, st⟩
  · dsimp only [Pt.U, Pt.locs, Pt.cells, Pt.slots] at X' e1 e2 h1 h2 h3 st
    subst h1; subst h2; subst h3
    exact Or.inl ⟨v, (T.setVm vm₁).calling g' mk (Value.ref b :: As).toArray, t, U', L, hT, X', hL, e1, e2, hq, st⟩
  · dsimp only [Pt.U, Pt.locs, Pt.cells, Pt.slots] at X' e1 e2 h1 h2 h3 st hcl
    subst h1; subst h2; subst h3
    exact Or.inr ⟨q, (T.setVm vm₁).calling g' mk (Value.ref b :: As).toArray, t, U', L, E, ce, hT, X', hL, e1, e2, hq, hce, hcv, vx_cls hW₁ hcl, st⟩
theorem vx_runS (S : CallFix p m c cc nL s args Ts own) (hM : vx_Met l y ws rm Pc Qc XC mc ms free) (cw : CallB R s args own index y bytes maxL ret ws rm mc ms n ∧ (Cond.static y).before args s = true) (hp : PreS s H Pc As)
    (hg : g.method = m) (hn : As.length = n) (hsize : g.locals.size = nL) (hstack : g.stack = As.reverse ++ rest) (hW : 2 * g.monitorRoom + (rest.map fun v => v.category).sum ≤ 8) (hdg : decode cc g.pc = .ok (.invokestatic index, 3)) (hf : cells + mc ≤ R.cells ∧ slots + ms ≤ R.slots) :
    vx_Run p l e R s m args below meth c H locs cells slots mc ms g rest (Qc As.toArray) XC free := by
  have hK : vx_Back l R p e below s args y 3 8 (PreOf R mc ms Pc) (PostOf Qc mc ms free) (vx_Post XC mc ms free) := vx_callBack cw.1 hM hp.1
  obtain ⟨⟨-, -, -, -, -, -, hcode, hini, hy, hlen, hl⟩, hstt⟩ := cw
  obtain ⟨hx, hb, hml, ho, -⟩ := S
  intro T hT X
  rcases vx_callS X hx (bytes := bytes) (maxL := maxL) (ret := ret) ho hl hstt hini hcode hy hK hg (hsize.trans hml.symm) (argsL := As) (rest := rest) (fun sig h => hn.trans (hlen sig h)) hstack hW (by rw [hb]; exact hdg)
    (fun vm₁ hW₁ => ⟨hf.1, hf.2, hp.2 (T.setVm vm₁) hT hW₁⟩) with ⟨v, vm₁, ⟨U', l2, c2, s2⟩, hW₁, X', ⟨g', mk, t, L, e1, e2, hq, h1, hL, h2, h3⟩, st⟩ | ⟨q, vm₁, ⟨U', l2, c2, s2⟩, hW₁, X', ⟨g', mk, t, L, E, ce, e1, e2, hq, hce, hcv, hcl, h1, hL, h2, h3⟩, st⟩
  · dsimp only [Pt.U, Pt.locs, Pt.cells, Pt.slots] at X' e1 e2 h1 h2 h3 st
    subst h1; subst h2; subst h3
    exact Or.inl ⟨v, (T.setVm vm₁).calling g' mk As.toArray, t, U', L, hT, X', hL, e1, e2, hq, st⟩
  · dsimp only [Pt.U, Pt.locs, Pt.cells, Pt.slots] at X' e1 e2 h1 h2 h3 st hcl
    subst h1; subst h2; subst h3
    exact Or.inr ⟨q, (T.setVm vm₁).calling g' mk As.toArray, t, U', L, E, ce, hT, X', hL, e1, e2, hq, hce, hcv, vx_cls hW₁ hcl, st⟩
end Runs
section Rows
variable {p : Program} {l : Launch} {e : Env} {R : Room} {s : State} {m : MethodId} {args : Array Value} {below : List Frame} {meth : Method} {c : Code} {H : Heap} {locs : List Loc} {cells slots : Nat} {Q : State → Prop}
variable {mc ms : Nat} {free : Addr → Prop} {A0 A1 : Nat → Prop} {H0 : Heap} {a : Array Value} {pc : Nat} {ls : Array Slot} {st0 rest : List Value}
theorem vx_keep {st₀ t T' : State} {L : List Loc} (h0 : st₀.heap = H) (e1 : T'.heap = t.heap) (hS : va_S A0 H0 H locs) (hA : ∀ q, q < H.size → A1 q → A0 q) (hf : ∀ q, free q → A0 q) (hL : ∀ q ∈ L, free q.base) (hF : va_F A1 st₀ t) :
    H.size ≤ T'.heap.size ∧ (∀ q : Nat, q < H.size → ¬ A1 q → T'.heap[q]? = H[q]?) ∧ va_S A0 H0 T'.heap (locs ++ L) := by
  obtain ⟨hz, hk⟩ := hF
  rw [h0] at hz hk
  exact ⟨by rw [e1]; exact hz, fun q h1 h2 => by rw [e1]; exact hk q h1 h2,
    ⟨Nat.le_trans hS.1 (by rw [e1]; exact hz), fun q h1 h2 => by rw [e1, hk q (Nat.lt_of_lt_of_le h1 hS.1) (fun z => h2 (hA q (Nat.lt_of_lt_of_le h1 hS.1) z))]; exact hS.2.1 q h1 h2, fun q hq => by
      rcases List.mem_append.mp hq with h | h
      · exact hS.2.2 q h
      · exact hf _ (hL q h)⟩⟩
theorem vx_calli {S SX : Type} {post : Int32 → S → Prop} {px : SX → Prop} {B : S → State → Prop} {BX : String → SX → State → Prop} {AX : Nat → Prop} (hr : vx_Run p l e R s m args below meth c H locs cells slots mc ms (F0 m pc ls st0) rest (va_Qi post B A1 a) (vx_X px BX AX) free) (hS : va_S A0 H0 H locs) (hA : ∀ q, q < H.size → A1 q → A0 q) (hf : ∀ q, free q → A0 q) (hAX : ∀ q, q < H.size → AX q → A0 q)
    (kx : ∀ (E : String) (ce : Cell) (q9 : Addr) (u : SX) (t : State) (H1 : Heap) (locs1 : List Loc), t.heap = H1 → s.vm.Alike t.vm → px u → BX E u t → H.size ≤ H1.size → (∀ q : Nat, q < H.size → ¬ AX q → H1[q]? = H[q]?) → va_S A0 H0 H1 locs1 → H1[q9]? = some ce → ce.vm = .none → s.vm.findClass E = some ce.cls → vx_W p l e R s m args below meth c H1 locs1 (cells + mc) (slots + ms) Q (F0 m pc ls rest) q9)
    (kk : ∀ (r : Int32) (u : S) (t : State) (H1 : Heap) (locs1 : List Loc), t.heap = H1 → s.vm.Alike t.vm → post r u → B u t → H.size ≤ H1.size → (∀ q : Nat, q < H.size → ¬ A1 q → H1[q]? = H[q]?) → va_S A0 H0 H1 locs1 → W p l e R s m args below meth c H1 locs1 (cells + mc) (slots + ms) Q (F0 m (pc + 3) ls (.int r :: rest))) : W p l e R s m args below meth c H locs cells slots Q (F0 m pc ls st0) := by
  intro T hT X
  rcases hr T hT X with ⟨v, st₀, t, T', L, h0, X', hL, e1, e2, ⟨⟨r, u, hv, hp, hb⟩, hF⟩, st⟩ | ⟨q, st₀, t, T', L, E, ce, h0, X', hL, e1, e2, ⟨u, hp, hb, hF⟩, hce, hcv, hcl, st⟩
  · cases hv
    obtain ⟨k1, k2, k3⟩ := vx_keep h0 e1 hS hA hf hL hF
    obtain ⟨t2, a1, b1⟩ := kk r u t T'.heap (locs ++ L) e1.symm (by rw [← e2]; exact X'.warmed.alike) hp hb k1 k2 k3 T' rfl X'
    exact ⟨t2, st t2 a1, b1⟩
  · obtain ⟨k1, k2, k3⟩ := vx_keep h0 e1 hS hAX hf hL hF
    obtain ⟨t2, a1, b1⟩ := kx E ce q u t T'.heap (locs ++ L) e1.symm (by rw [← e2]; exact X'.warmed.alike) hp hb k1 k2 k3 (by rw [e1]; exact hce) hcv hcl T' rfl X'
    exact ⟨t2, st.trans a1, b1⟩
theorem vx_calll {S SX : Type} {post : Int64 → S → Prop} {px : SX → Prop} {B : S → State → Prop} {BX : String → SX → State → Prop} {AX : Nat → Prop} (hr : vx_Run p l e R s m args below meth c H locs cells slots mc ms (F0 m pc ls st0) rest (va_Ql post B A1 a) (vx_X px BX AX) free) (hS : va_S A0 H0 H locs) (hA : ∀ q, q < H.size → A1 q → A0 q) (hf : ∀ q, free q → A0 q) (hAX : ∀ q, q < H.size → AX q → A0 q)
    (kx : ∀ (E : String) (ce : Cell) (q9 : Addr) (u : SX) (t : State) (H1 : Heap) (locs1 : List Loc), t.heap = H1 → s.vm.Alike t.vm → px u → BX E u t → H.size ≤ H1.size → (∀ q : Nat, q < H.size → ¬ AX q → H1[q]? = H[q]?) → va_S A0 H0 H1 locs1 → H1[q9]? = some ce → ce.vm = .none → s.vm.findClass E = some ce.cls → vx_W p l e R s m args below meth c H1 locs1 (cells + mc) (slots + ms) Q (F0 m pc ls rest) q9)
    (kk : ∀ (r : Int64) (u : S) (t : State) (H1 : Heap) (locs1 : List Loc), t.heap = H1 → s.vm.Alike t.vm → post r u → B u t → H.size ≤ H1.size → (∀ q : Nat, q < H.size → ¬ A1 q → H1[q]? = H[q]?) → va_S A0 H0 H1 locs1 → W p l e R s m args below meth c H1 locs1 (cells + mc) (slots + ms) Q (F0 m (pc + 3) ls (.long r :: rest))) : W p l e R s m args below meth c H locs cells slots Q (F0 m pc ls st0) := by
  intro T hT X
  rcases hr T hT X with ⟨v, st₀, t, T', L, h0, X', hL, e1, e2, ⟨⟨r, u, hv, hp, hb⟩, hF⟩, st⟩ | ⟨q, st₀, t, T', L, E, ce, h0, X', hL, e1, e2, ⟨u, hp, hb, hF⟩, hce, hcv, hcl, st⟩
  · cases hv
    obtain ⟨k1, k2, k3⟩ := vx_keep h0 e1 hS hA hf hL hF
    obtain ⟨t2, a1, b1⟩ := kk r u t T'.heap (locs ++ L) e1.symm (by rw [← e2]; exact X'.warmed.alike) hp hb k1 k2 k3 T' rfl X'
    exact ⟨t2, st t2 a1, b1⟩
  · obtain ⟨k1, k2, k3⟩ := vx_keep h0 e1 hS hAX hf hL hF
    obtain ⟨t2, a1, b1⟩ := kx E ce q u t T'.heap (locs ++ L) e1.symm (by rw [← e2]; exact X'.warmed.alike) hp hb k1 k2 k3 (by rw [e1]; exact hce) hcv hcl T' rfl X'
    exact ⟨t2, st.trans a1, b1⟩
theorem vx_callf {S SX : Type} {post : UInt32 → S → Prop} {px : SX → Prop} {B : S → State → Prop} {BX : String → SX → State → Prop} {AX : Nat → Prop} (hr : vx_Run p l e R s m args below meth c H locs cells slots mc ms (F0 m pc ls st0) rest (va_Qf post B A1 a) (vx_X px BX AX) free) (hS : va_S A0 H0 H locs) (hA : ∀ q, q < H.size → A1 q → A0 q) (hf : ∀ q, free q → A0 q) (hAX : ∀ q, q < H.size → AX q → A0 q)
    (kx : ∀ (E : String) (ce : Cell) (q9 : Addr) (u : SX) (t : State) (H1 : Heap) (locs1 : List Loc), t.heap = H1 → s.vm.Alike t.vm → px u → BX E u t → H.size ≤ H1.size → (∀ q : Nat, q < H.size → ¬ AX q → H1[q]? = H[q]?) → va_S A0 H0 H1 locs1 → H1[q9]? = some ce → ce.vm = .none → s.vm.findClass E = some ce.cls → vx_W p l e R s m args below meth c H1 locs1 (cells + mc) (slots + ms) Q (F0 m pc ls rest) q9)
    (kk : ∀ (r : UInt32) (u : S) (t : State) (H1 : Heap) (locs1 : List Loc), t.heap = H1 → s.vm.Alike t.vm → post r u → B u t → H.size ≤ H1.size → (∀ q : Nat, q < H.size → ¬ A1 q → H1[q]? = H[q]?) → va_S A0 H0 H1 locs1 → W p l e R s m args below meth c H1 locs1 (cells + mc) (slots + ms) Q (F0 m (pc + 3) ls (.float r :: rest))) : W p l e R s m args below meth c H locs cells slots Q (F0 m pc ls st0) := by
  intro T hT X
  rcases hr T hT X with ⟨v, st₀, t, T', L, h0, X', hL, e1, e2, ⟨⟨r, u, hv, hp, hb⟩, hF⟩, st⟩ | ⟨q, st₀, t, T', L, E, ce, h0, X', hL, e1, e2, ⟨u, hp, hb, hF⟩, hce, hcv, hcl, st⟩
  · cases hv
    obtain ⟨k1, k2, k3⟩ := vx_keep h0 e1 hS hA hf hL hF
    obtain ⟨t2, a1, b1⟩ := kk r u t T'.heap (locs ++ L) e1.symm (by rw [← e2]; exact X'.warmed.alike) hp hb k1 k2 k3 T' rfl X'
    exact ⟨t2, st t2 a1, b1⟩
  · obtain ⟨k1, k2, k3⟩ := vx_keep h0 e1 hS hAX hf hL hF
    obtain ⟨t2, a1, b1⟩ := kx E ce q u t T'.heap (locs ++ L) e1.symm (by rw [← e2]; exact X'.warmed.alike) hp hb k1 k2 k3 (by rw [e1]; exact hce) hcv hcl T' rfl X'
    exact ⟨t2, st.trans a1, b1⟩
theorem vx_calld {S SX : Type} {post : UInt64 → S → Prop} {px : SX → Prop} {B : S → State → Prop} {BX : String → SX → State → Prop} {AX : Nat → Prop} (hr : vx_Run p l e R s m args below meth c H locs cells slots mc ms (F0 m pc ls st0) rest (va_Qd post B A1 a) (vx_X px BX AX) free) (hS : va_S A0 H0 H locs) (hA : ∀ q, q < H.size → A1 q → A0 q) (hf : ∀ q, free q → A0 q) (hAX : ∀ q, q < H.size → AX q → A0 q)
    (kx : ∀ (E : String) (ce : Cell) (q9 : Addr) (u : SX) (t : State) (H1 : Heap) (locs1 : List Loc), t.heap = H1 → s.vm.Alike t.vm → px u → BX E u t → H.size ≤ H1.size → (∀ q : Nat, q < H.size → ¬ AX q → H1[q]? = H[q]?) → va_S A0 H0 H1 locs1 → H1[q9]? = some ce → ce.vm = .none → s.vm.findClass E = some ce.cls → vx_W p l e R s m args below meth c H1 locs1 (cells + mc) (slots + ms) Q (F0 m pc ls rest) q9)
    (kk : ∀ (r : UInt64) (u : S) (t : State) (H1 : Heap) (locs1 : List Loc), t.heap = H1 → s.vm.Alike t.vm → post r u → B u t → H.size ≤ H1.size → (∀ q : Nat, q < H.size → ¬ A1 q → H1[q]? = H[q]?) → va_S A0 H0 H1 locs1 → W p l e R s m args below meth c H1 locs1 (cells + mc) (slots + ms) Q (F0 m (pc + 3) ls (.double r :: rest))) : W p l e R s m args below meth c H locs cells slots Q (F0 m pc ls st0) := by
  intro T hT X
  rcases hr T hT X with ⟨v, st₀, t, T', L, h0, X', hL, e1, e2, ⟨⟨r, u, hv, hp, hb⟩, hF⟩, st⟩ | ⟨q, st₀, t, T', L, E, ce, h0, X', hL, e1, e2, ⟨u, hp, hb, hF⟩, hce, hcv, hcl, st⟩
  · cases hv
    obtain ⟨k1, k2, k3⟩ := vx_keep h0 e1 hS hA hf hL hF
    obtain ⟨t2, a1, b1⟩ := kk r u t T'.heap (locs ++ L) e1.symm (by rw [← e2]; exact X'.warmed.alike) hp hb k1 k2 k3 T' rfl X'
    exact ⟨t2, st t2 a1, b1⟩
  · obtain ⟨k1, k2, k3⟩ := vx_keep h0 e1 hS hAX hf hL hF
    obtain ⟨t2, a1, b1⟩ := kx E ce q u t T'.heap (locs ++ L) e1.symm (by rw [← e2]; exact X'.warmed.alike) hp hb k1 k2 k3 (by rw [e1]; exact hce) hcv hcl T' rfl X'
    exact ⟨t2, st.trans a1, b1⟩
theorem vx_callv {S SX : Type} {post : S → Prop} {px : SX → Prop} {B : S → State → Prop} {BX : String → SX → State → Prop} {AX : Nat → Prop} (hr : vx_Run p l e R s m args below meth c H locs cells slots mc ms (F0 m pc ls st0) rest (va_Qv post B A1 a) (vx_X px BX AX) free) (hS : va_S A0 H0 H locs) (hA : ∀ q, q < H.size → A1 q → A0 q) (hf : ∀ q, free q → A0 q) (hAX : ∀ q, q < H.size → AX q → A0 q)
    (kx : ∀ (E : String) (ce : Cell) (q9 : Addr) (u : SX) (t : State) (H1 : Heap) (locs1 : List Loc), t.heap = H1 → s.vm.Alike t.vm → px u → BX E u t → H.size ≤ H1.size → (∀ q : Nat, q < H.size → ¬ AX q → H1[q]? = H[q]?) → va_S A0 H0 H1 locs1 → H1[q9]? = some ce → ce.vm = .none → s.vm.findClass E = some ce.cls → vx_W p l e R s m args below meth c H1 locs1 (cells + mc) (slots + ms) Q (F0 m pc ls rest) q9)
    (kk : ∀ (u : S) (t : State) (H1 : Heap) (locs1 : List Loc), t.heap = H1 → s.vm.Alike t.vm → post u → B u t → H.size ≤ H1.size → (∀ q : Nat, q < H.size → ¬ A1 q → H1[q]? = H[q]?) → va_S A0 H0 H1 locs1 → W p l e R s m args below meth c H1 locs1 (cells + mc) (slots + ms) Q (F0 m (pc + 3) ls (rest))) : W p l e R s m args below meth c H locs cells slots Q (F0 m pc ls st0) := by
  intro T hT X
  rcases hr T hT X with ⟨v, st₀, t, T', L, h0, X', hL, e1, e2, ⟨⟨u, hv, hp, hb⟩, hF⟩, st⟩ | ⟨q, st₀, t, T', L, E, ce, h0, X', hL, e1, e2, ⟨u, hp, hb, hF⟩, hce, hcv, hcl, st⟩
  · cases hv
    obtain ⟨k1, k2, k3⟩ := vx_keep h0 e1 hS hA hf hL hF
    obtain ⟨t2, a1, b1⟩ := kk u t T'.heap (locs ++ L) e1.symm (by rw [← e2]; exact X'.warmed.alike) hp hb k1 k2 k3 T' rfl X'
    exact ⟨t2, st t2 a1, b1⟩
  · obtain ⟨k1, k2, k3⟩ := vx_keep h0 e1 hS hAX hf hL hF
    obtain ⟨t2, a1, b1⟩ := kx E ce q u t T'.heap (locs ++ L) e1.symm (by rw [← e2]; exact X'.warmed.alike) hp hb k1 k2 k3 (by rw [e1]; exact hce) hcv hcl T' rfl X'
    exact ⟨t2, st.trans a1, b1⟩
/-- caught by the row x of this method's table; the rows ahead don't take it -/
theorem vx_catch {own name : String} {E : String} {ce : Cell} {q : Addr} (hown : s.vm.findClass own = some m.cls) (pre : List ExceptionTableEntry) (x : ExceptionTableEntry) (suf : List ExceptionTableEntry) (hsplit : c.exceptionTable.toList = pre ++ x :: suf)
    (hpass : ∀ z ∈ pre, covers z pc = false ∨ (z.catchType ≠ 0 ∧ ∃ nm : String, (Cond.classLink own z.catchType nm).before args s = true ∧ va_Nc E nm s)) (hx : covers x pc = true) (h0 : x.catchType ≠ 0)
    (hlink : (Cond.classLink own x.catchType name).before args s = true) (hcast : (Cond.castable E name).before args s = true) (hcell : H[q]? = some ce) (hv : ce.vm = .none) (hcl : s.vm.findClass E = some ce.cls)
    (kk : W p l e R s m args below meth c H locs cells slots Q (F0 m x.handlerPc ls [.ref q])) : vx_W p l e R s m args below meth c H locs cells slots Q (F0 m pc ls rest) q := by
  intro T hT X
  have hpl : e.platform.magicAccessors = ({} : Platform).magicAccessors := by rw [X.admits.platform]
  obtain ⟨c3, c4, hc3, hc4, hasg⟩ := Cond.castable_spec hcast
  cases Option.some.inj (hc3.symm.trans hcl)
  obtain ⟨c5, hc5, hcl5⟩ := Cond.classLink_spec hown hlink e.platform hpl
  cases Option.some.inj (hc4.symm.trans hc5)
  obtain ⟨vm', X', st⟩ := X.thenCaughtThrough q (g := F0 m pc ls rest) rfl (Steps.refl _) (by rw [hT]; exact hcell) (by rw [hv]; rfl) (by obtain ⟨k9, h9, -⟩ := Vm.findClass_spec hcl; exact ⟨k9, h9⟩) pre x suf hsplit
    (fun z hz => by
      rcases hpass z hz with h | ⟨hz0, nm, hl1, hn1⟩
      · exact Or.inl h
      · obtain ⟨c6, hc6, hcl6⟩ := Cond.classLink_spec hown hl1 e.platform hpl
        obtain ⟨a8, b8, h1, h2, h3⟩ := hn1
        cases Option.some.inj (h1.symm.trans hcl)
        cases Option.some.inj (h2.symm.trans hc6)
        exact Or.inr ⟨hz0, _, hcl6, h3⟩) hx (Or.inr ⟨h0, c4, hcl5, hasg⟩)
  obtain ⟨t, a1, b1⟩ := kk (T.setVm vm') hT X'
  exact ⟨t, st.trans a1, b1⟩
end Rows
section Ends
variable {p : Program} {l : Launch} {e : Env} {R : Room} {s : State} {m : MethodId} {args : Array Value} {below : List Frame} {meth : Method} {c : Code} {H : Heap} {locs : List Loc} {cells slots : Nat} {Q : State → Prop}
variable {mc ms : Nat} {free : Addr → Prop} {A0 A1 : Nat → Prop} {H0 : Heap} {a : Array Value} {ls : Array Slot} {st0 rest : List Value}
variable {Qc : Array Value → State → Outcome → State → Prop} {XC : String → State → State → Prop}
/-- what a body that may throw owes at its end -/
def vx_MQ (below : List Frame) (Qc : Array Value → State → Outcome → State → Prop) (XC : String → State → State → Prop) (a : Array Value) (s : State) (mc ms : Nat) (free : Addr → Prop) : State → Prop := fun t =>
  ∃ o, t.status = .running ∧ Ended t below o ∧ vx_Q Qc XC mc ms free a s o t
theorem vx_ret {g : JFrame} {mc ms : Nat} (k : W p l e R s m args below meth c H locs cells slots (MQ below Qc args s mc ms free) g) : W p l e R s m args below meth c H locs cells slots (vx_MQ below Qc XC args s mc ms free) g := by
  intro T hT X
  obtain ⟨t, a1, o, b1, b2, b3, b4⟩ := k T hT X
  exact ⟨t, a1, o, b1, b2, Or.inl ⟨b3, b4⟩⟩
/-- not caught here: it goes on to the caller -/
theorem vx_widen {g : JFrame} {q : Addr} {k n : Nat} (h1 : cells ≤ k) (h2 : slots ≤ n) (kk : vx_W p l e R s m args below meth c H locs k n Q g q) : vx_W p l e R s m args below meth c H locs cells slots Q g q := fun T hT X => kk T hT (stand_widen X h1 h2)
theorem vx_out {pc : Nat} {E : String} {ce : Cell} {q : Addr} {mc ms : Nat} (hout : ∀ x ∈ c.exceptionTable.toList, covers x pc = false) (hlocks : meth.locks = false) (hcell : H[q]? = some ce) (hv : ce.vm = .none) (hcl : s.vm.findClass E = some ce.cls)
    (hx : ∀ t : State, t.heap = H → s.vm.Alike t.vm → XC E s t) (hf : ∀ z ∈ locs, free z.base) (hc : cells ≤ mc) (hs : slots ≤ ms) :
    vx_W p l e R s m args below meth c H locs cells slots (vx_MQ below Qc XC args s mc ms free) (F0 m pc ls rest) q := by
  intro T hT X
  obtain ⟨st1, hrun, hend, hW, hsm⟩ := X.leaveThrown q (g := F0 m pc ls rest) rfl rfl rfl hout hlocks
  have hcell9 : (T.setFrames (.throwing q :: below)).heap[q]? = some ce := by
    show T.heap[q]? = some ce
    rw [hT]; exact hcell
  exact ⟨_, st1, .threw q, hrun, hend, Or.inr ⟨q, rfl, E, ce, locs, hx _ hT hW.alike, hcell9, hv, hcl, hW, hsm.mono hc hs, hf⟩⟩
theorem vx_frame {U : State} {k n : Nat} (h : s.sameButNew ({ U with vm := s.vm } : State) locs k n) : s.heap.size ≤ U.heap.size ∧ ∀ q : Nat, q < s.heap.size → (∀ z ∈ locs, z.base ≠ q) → U.heap[q]? = s.heap[q]? := by
  obtain ⟨-, h2, -, -, -, h6⟩ := h
  refine ⟨h2, fun q hq hz => ?_⟩
  obtain ⟨c9, e1, e2, e3, e4⟩ := h6 q _ (Array.getElem?_eq_getElem hq)
  have hs : c9.slots = (s.heap[q]).slots := Array.ext_getElem? fun i => e4 i fun hm => hz _ hm rfl
  have h9 : c9 = s.heap[q] := by
    rw [hs] at e2
    exact e2
  have e5 : U.heap[q]? = some c9 := e1
  rw [e5, h9, Array.getElem?_eq_getElem hq]
/-- the words of a throw but the four that speak of the heap -/
def vx_no (w : Cond) : Bool := decide (w ≠ .isRef (.static Bundle.tN "UNASSIGNED_STACK" Bundle.steD)) && decide (w ≠ .isRef (.static Bundle.tN "SUPPRESSED_SENTINEL" Bundle.listD)) && decide (w ≠ .laysStatic Bundle.tN "UNASSIGNED_STACK" Bundle.steD) && decide (w ≠ .laysStatic Bundle.tN "SUPPRESSED_SENTINEL" Bundle.listD)
def vx_at0 (own : String) (ic : Nat) (X : String) (names : List String) : List Cond := (Bundle.ownAtoms0 own ic X names).filter vx_no
def vx_atS (own : String) (ic : Nat) (X : String) (names : List String) : List Cond := (Bundle.ownAtoms own ic X names).filter vx_no
/-- a word that the tables alone decide, or a good one -/
def vx_ot (w : Cond) : Bool := w.onTables || goodWord w
theorem vx_ot_at {args a' : Array Value} {s U : State} {w : Cond} (hW : s.WarmedH U.vm) (hvm : s.vm = U.vm) (hg : vx_ot w = true) (h : w.before args s = true) : w.before a' U = true := by
  simp only [vx_ot, Bool.or_eq_true] at hg
  rcases hg with hg | hg
  · exact va_tabs hg hvm h
  · exact word_at hW (good_of_word hg) h
/-- a list's words: the good ones out of the method's own list, the others by premises of their own -/
theorem vx_hat {args : Array Value} {s : State} {L B : List Cond} (h1 : ∀ w ∈ L.filter goodWord, w.before args s = true) (h2 : ∀ w ∈ L.filter (fun w => !goodWord w), w ∈ B) (h3 : ∀ w ∈ B, w.before args s = true) : ∀ w ∈ L, w.before args s = true := by
  intro w hw
  by_cases g : goodWord w = true
  · exact h1 w (List.mem_filter.mpr ⟨hw, g⟩)
  · refine h3 w (h2 w (List.mem_filter.mpr ⟨hw, ?_⟩))
    show (!goodWord w) = true
    cases hgw : goodWord w
    · rfl
    · exact absurd hgw g
theorem vx_c {args : Array Value} {s : State} {w : Cond} {B : List Cond} (h : w.before args s = true) (t : ∀ w ∈ B, w.before args s = true) : ∀ w' ∈ w :: B, w'.before args s = true := fun w' h' => (List.mem_cons.mp h').elim (fun e => by rw [e]; exact h) (t w')
theorem vx_n {args : Array Value} {s : State} : ∀ w ∈ ([] : List Cond), w.before args s = true := fun _ h => nomatch h
theorem vx_own {args : Array Value} {s : State} {L : List Cond} (h1 : ∀ w ∈ L.filter vx_no, w.before args s = true)
    (hU : (Cond.isRef (.static Bundle.tN "UNASSIGNED_STACK" Bundle.steD)).before args s = true) (hN : (Cond.isRef (.static Bundle.tN "SUPPRESSED_SENTINEL" Bundle.listD)).before args s = true)
    (lU : (Cond.laysStatic Bundle.tN "UNASSIGNED_STACK" Bundle.steD).before args s = true) (lN : (Cond.laysStatic Bundle.tN "SUPPRESSED_SENTINEL" Bundle.listD).before args s = true) : ∀ w ∈ L, w.before args s = true := by
  intro w hw
  by_cases e1 : w = .isRef (.static Bundle.tN "UNASSIGNED_STACK" Bundle.steD)
  · rw [e1]; exact hU
  · by_cases e2 : w = .isRef (.static Bundle.tN "SUPPRESSED_SENTINEL" Bundle.listD)
    · rw [e2]; exact hN
    · by_cases e3 : w = .laysStatic Bundle.tN "UNASSIGNED_STACK" Bundle.steD
      · rw [e3]; exact lU
      · by_cases e4 : w = .laysStatic Bundle.tN "SUPPRESSED_SENTINEL" Bundle.listD
        · rw [e4]; exact lN
        · exact h1 w (List.mem_filter.mpr ⟨hw, by unfold vx_no; rw [decide_eq_true e1, decide_eq_true e2, decide_eq_true e3, decide_eq_true e4]; rfl⟩)
/-- where a static field lies, its class's statics cell in H -/
def vx_L (C n d : String) (A : Nat → Prop) (U : State) (H : Heap) : Prop := ∃ (c : ClassId) (k : Class) (i : Nat) (f : Field) (a : Nat) (cell : Cell), U.vm.findClass C = some c ∧ U.fieldFound? C n d = some (c, k, i, f) ∧ f.isStatic = true ∧ k.statics = some a ∧ H[a]? = some cell ∧ cell.vm.isStatics = true ∧ cell.cls = c ∧ f.slot < cell.slots.size ∧ k.staticTypes[f.slot]? = some f.type ∧ ¬ A a
theorem vx_L.moved {C n d : String} {A : Nat → Prop} {u U : State} {H : Heap} (hvm : u.vm.Alike U.vm) (h : vx_L C n d A u H) : vx_L C n d A U H := by
  obtain ⟨c, k, i, f, a, cell, h1, h2, h3, h4, h5, h6, h7, h8, h9, h10⟩ := h
  obtain ⟨k', hi', he⟩ := State.fieldFound?_setVm hvm h2
  exact ⟨c, k', i, f, a, cell, by rw [hvm.findClass]; exact h1, hi', h3, by rw [he]; exact h4, h5, h6, h7, h8, by rw [he]; exact h9, h10⟩
theorem vx_L.kept {C n d : String} {A : Nat → Prop} {U : State} {H H1 : Heap} (h : vx_L C n d A U H) (hq : ∀ a : Nat, a < H.size → ¬ A a → H1[a]? = H[a]?) : vx_L C n d A U H1 := by
  obtain ⟨c, k, i, f, a, cell, h1, h2, h3, h4, h5, h6, h7, h8, h9, h10⟩ := h
  exact ⟨c, k, i, f, a, cell, h1, h2, h3, h4, by rw [hq a (Array.getElem?_eq_some_iff.mp h5).1 h10]; exact h5, h6, h7, h8, h9, h10⟩
theorem vx_L.narrow {C n d : String} {A B : Nat → Prop} {U : State} {H : Heap} (h : vx_L C n d A U H) (hAB : ∀ q, B q → A q) : vx_L C n d B U H := by
  obtain ⟨c, k, i, f, a, cell, h1, h2, h3, h4, h5, h6, h7, h8, h9, h10⟩ := h
  exact ⟨c, k, i, f, a, cell, h1, h2, h3, h4, h5, h6, h7, h8, h9, fun z => h10 (hAB _ z)⟩
theorem vx_L.word {C n d : String} {A : Nat → Prop} {s : State} {args : Array Value} (h : vx_L C n d A s s.heap) : (Cond.laysStatic C n d).before args s = true := by
  obtain ⟨c, k, i, f, a, cell, h1, h2, h3, h4, h5, h6, h7, h8, h9, -⟩ := h
  show (Cond.laysStatic C n d).holds args s none s [] = true
  exact Cond.laysStatic_of h1 h2 h3 h4 h5 h6 h7 h8 h9
/-- .. and what it holds: null or some reference -/
def vx_Zq (C n d : String) (A : Nat → Prop) (U : State) (H : Heap) : Prop := va_Zq C n d A U H ∧ vx_L C n d A U H
theorem vx_Zq.moved {C n d : String} {A : Nat → Prop} {u U : State} {H : Heap} (hvm : u.vm.Alike U.vm) (h : vx_Zq C n d A u H) : vx_Zq C n d A U H := ⟨va_Zq.moved hvm h.1, vx_L.moved hvm h.2⟩
theorem vx_Zq.kept {C n d : String} {A : Nat → Prop} {U : State} {H H1 : Heap} (h : vx_Zq C n d A U H) (hq : ∀ a : Nat, a < H.size → ¬ A a → H1[a]? = H[a]?) : vx_Zq C n d A U H1 := ⟨va_Zq.kept h.1 hq, vx_L.kept h.2 hq⟩
theorem vx_Zq.narrow {C n d : String} {A B : Nat → Prop} {U : State} {H : Heap} (h : vx_Zq C n d A U H) (hAB : ∀ q, B q → A q) : vx_Zq C n d B U H := ⟨va_Zq.narrow h.1 hAB, vx_L.narrow h.2 hAB⟩
theorem vx_Zqof {args : Array Value} {s : State} {C n d : String} {A : Nat → Prop} (hl : (Cond.laysStatic C n d).before args s = true) (hini : (Cond.initialized C).before args s = true) (h : (Cond.isRef (.static C n d)).before args s = true) (hA : ∀ a : Nat, a < s.heap.size → ¬ A a) : vx_Zq C n d A s s.heap := by
  refine ⟨va_Zqof hl hini h hA, ?_⟩
  obtain ⟨c, k, i, f, a, cell, h1, h2, h3, h4, h5, h6, h7, h8, h9⟩ := Cond.laysStatic_spec hl
  exact ⟨c, k, i, f, a, cell, h1, h2, h3, h4, h5, h6, h7, h8, h9, hA a (Array.getElem?_eq_some_iff.mp h5).1⟩
theorem vx_isRef {C n d : String} {v : Value} {A : Nat → Prop} {s : State} {args : Array Value} (h : va_Z C n d v A s s.heap) (hv : v.isRef = true) : (Cond.isRef (.static C n d)).before args s = true := by
  obtain ⟨cf, kf, fi, f, a, cell, h1, h2, h3, h4, h5, h6, h7, -⟩ := h
  have he : (Term.static C n d).eval args s none [] s = some v := by
    simp [Term.eval, State.fieldNamed?, h1, h2, h4, h5, h6, h7]
  simp only [Cond.before, Cond.holds, Cond.value, he]
  cases v <;> simp_all [Value.isRef]
theorem vx_isRefq {C n d : String} {A : Nat → Prop} {s : State} {args : Array Value} (h : va_Zq C n d A s s.heap) : (Cond.isRef (.static C n d)).before args s = true := by
  rcases h with h | ⟨t, h⟩
  · exact vx_isRef h rfl
  · exact vx_isRef h rfl
/-- the same frame, seen from here: as if the method were called anew in this heap -/
theorem vx_rebase {T : State} (X : Stand p l e R s m args below meth c T locs cells slots) {R' : Room} (hf : R'.frames ≤ R.frames) (hl : R'.locals ≤ R.locals) (hc : cells + R'.cells ≤ R.cells) (hs : slots + R'.slots ≤ R.slots) :
    Stand p l e R' ((T.setVm s.vm).setFrames (.invoking m args :: below)) m args below meth c T [] 0 0 := by
  have htop : (T.setVm s.vm).topJava?.isSome := X.here.top
  have hF : ((T.setVm s.vm).setFrames (.invoking m args :: below)).frames = .invoking m args :: below := State.frames_setFrames _ (State.cur_lt_of_top htop)
  obtain ⟨g₀, hg0⟩ := Option.isSome_iff_exists.mp htop
  obtain ⟨r, hr⟩ := State.topJava?_eq_some.mp hg0
  have hl9 : e.platform.stackLimits (T.setVm s.vm).me = e.platform.stackLimits s.me := X.limits
  have hb9 : (T.setVm s.vm).me.stackBytes = s.me.stackBytes := X.bytes
  refine ⟨X.admits, X.cas, X.clock, hF, ?_, X.hears, X.method, X.code, X.here, X.tail, X.warmed, ?_, ?_, ?_⟩
  · have h := X.room
    have hU : ((T.setVm s.vm).setFrames (.invoking m args :: below)).localsInUse = s.localsInUse := by
      rw [State.localsInUse_invoking hF (meth := meth) (c := c) X.method X.code, State.localsInUse_invoking X.frames X.method X.code]
    simp only [State.hasRoom, Bool.and_eq_true, decide_eq_true_eq] at h ⊢
    obtain ⟨⟨⟨⟨h1, h2, h3, h4, h5, h6⟩, h7⟩, h8⟩, h9⟩ := h
    rw [X.frames, List.length_cons] at h2 h3
    have q1 := X.heapSize
    have q2 := X.used
    simp only [hF, hU, List.length_cons, State.stackLimits_setFrames, State.stackBytes_setFrames, hl9, hb9]
    refine ⟨⟨⟨⟨by omega, by omega, by omega, by omega, by omega, h6⟩, ?_⟩, ?_⟩, X.book⟩
    · show T.heap.size + R'.cells ≤ e.platform.maxCells
      omega
    · show T.slotsUsed + R'.slots ≤ e.platform.maxSlots
      omega
  · rw [State.stackLimits_setFrames]; rfl
  · rw [State.stackBytes_setFrames]; rfl
  · refine ⟨?_, Nat.le_refl _, Nat.le_refl _, ?_, ?_, fun a c9 h9 => ⟨c9, h9, rfl, rfl, fun _ _ => rfl⟩⟩
    · obtain ⟨t, ht, -⟩ := State.frames_cons hr
      show T.setVm s.vm = { ((T.setVm s.vm).setFrames (.invoking m args :: below)).setFrames (T.setVm s.vm).frames with heap := T.heap, slotsUsed := T.slotsUsed }
      rw [State.setFrames_setFrames, State.setFrames_self ht]
      rfl
    · show T.slotsUsed = T.slotsUsed + ((T.heap.toList.drop T.heap.size).map (·.slots.size)).sum
      rw [List.drop_eq_nil_of_le (Nat.le_of_eq Array.length_toList)]
      rfl
    · show ((T.heap.toList.drop T.heap.size).map (·.slots.size)).sum ≤ 0
      rw [List.drop_eq_nil_of_le (Nat.le_of_eq Array.length_toList)]
      exact Nat.le_refl _
/-- 'throw new E()': new; dup; invokespecial; athrow -/
theorem vx_throw0 {cc : ByteArray} {pc : Nat} (hexec : p.tables.exec = Jvm.exec) (hb : c.code = cc) (hl : l.stackTraces = false) {own cls : String} {names : List String} {ik ic mc ms : Nat} {A : Nat → Prop}
    (hown : s.vm.findClass own = some m.cls) (hcls : Bundle.fit cls = true) (hnames : ∀ n ∈ names, Bundle.fit n = true)
    (hk : (Cond.classLink own ik cls).before args s = true) (hini : (Cond.initialized cls).before args s = true) (hat : ∀ w ∈ vx_at0 own ic cls names, w.before args s = true)
    (hgood : ∀ w ∈ Cond.classLink own ik cls :: Cond.initialized cls :: vx_at0 own ic cls names, vx_ot w = true)
    (hU : vx_Zq Bundle.tN "UNASSIGNED_STACK" Bundle.steD A s s.heap) (hN : vx_Zq Bundle.tN "SUPPRESSED_SENTINEL" Bundle.listD A s s.heap) (hS : va_S A s.heap H locs) (hsize : ls.size = c.maxLocals)
    (d0 : decode cc pc = .ok (.new ik, 3)) (d3 : decode cc (pc + 3) = .ok (.dup, 1)) (d4 : decode cc (pc + 4) = .ok (.invokespecial ic, 3)) (d7 : decode cc (pc + 7) = .ok (.athrow, 1))
    (hout : ∀ x ∈ c.exceptionTable.toList, covers x (pc + 7) = false)
    (hRframes : names.length + 3 < R.frames) (hRlocals : (rest.map fun v => v.category).sum + (13 * (names.length + 1) + 42) ≤ R.locals) (hRcells : cells + 1 ≤ R.cells) (hRslots : slots + 6 ≤ R.slots) (hlocks : meth.locks = false)
    (hx : ∀ t : State, s.vm.Alike t.vm → H.size ≤ t.heap.size → (∀ q : Nat, q < H.size → t.heap[q]? = H[q]?) → XC cls s t)
    (hf : ∀ z ∈ locs, free z.base) (hc : cells + 1 ≤ mc) (hs : slots + 6 ≤ ms) :
    W p l e R s m args below meth c H locs cells slots (vx_MQ below Qc XC args s mc ms free) (F0 m pc ls rest) := by
  intro T hT X
  have htr : e.platform.stackTraces = false := (show e.platform.stackTraces = l.stackTraces by rw [X.admits.platform]).trans hl
  have Y := vx_rebase X (R' := { frames := R.frames, locals := R.locals, cells := 1, slots := 6 }) (Nat.le_refl _) (Nat.le_refl _) hRcells hRslots
  obtain ⟨s', hA⟩ : ∃ z, z = (T.setVm s.vm).setFrames (.invoking m args :: below) := ⟨_, rfl⟩
  rw [← hA] at Y
  have hvm : s'.vm = s.vm := by rw [hA]; rfl
  have hhp : s'.heap = H := by rw [hA]; exact hT
  have hW0 : s.WarmedH s'.vm := by rw [hvm]; exact State.WarmedH.refl s
  have hat' : ∀ w ∈ vx_at0 own ic cls names, w.before args s' = true := fun w hw => vx_ot_at hW0 hvm.symm (hgood w (List.mem_cons_of_mem _ (List.mem_cons_of_mem _ hw))) (hat w hw)
  have hk' : (Cond.classLink own ik cls).before args s' = true := vx_ot_at hW0 hvm.symm (hgood _ List.mem_cons_self) hk
  have hini' : (Cond.initialized cls).before args s' = true := vx_ot_at hW0 hvm.symm (hgood _ (List.mem_cons_of_mem _ List.mem_cons_self)) hini
  have hU' : vx_Zq Bundle.tN "UNASSIGNED_STACK" Bundle.steD A s' s'.heap := by rw [hhp]; exact vx_Zq.moved hW0.alike (hU.kept hS.2.1)
  have hN' : vx_Zq Bundle.tN "SUPPRESSED_SENTINEL" Bundle.listD A s' s'.heap := by rw [hhp]; exact vx_Zq.moved hW0.alike (hN.kept hS.2.1)
  have h : ∀ w ∈ Bundle.ownAtoms0 own ic cls names, w.before args s' = true := vx_own hat' (vx_isRefq hU'.1) (vx_isRefq hN'.1) hU'.2.word hN'.2.word
  have hown' : s'.vm.findClass own = some m.cls := by rw [hvm]; exact hown
  have hins : (Cond.instantiable cls 6).before args s' = true := h _ (by simp [Bundle.ownAtoms0])
  obtain ⟨vm₁, cX, kX, hfX, hkX, -, -, X₁, st1⟩ := Y.newCold hexec (own := own) (C := cls) (index := ik) (n := 6) hown' hk' hins hini'
    (g := F0 m pc ls rest) rfl (by rw [hb]; exact d0) (Nat.le_refl _) (Nat.le_refl _)
  generalize hT1 : (T.setVm vm₁).pushCell { cls := cX, slots := kX.instanceTypes.map defaultValue, vm := .none } = T1 at X₁ st1
  have hcat : (Value.ref T.heap.size).category = 1 := rfl
  have hcellA : T1.heap[T.heap.size]? = some (freshCell cX kX) := by rw [← hT1]; exact State.heap_pushCell_size _ _
  have d3' : decode c.code (pc + 3) = .ok (.dup, 1) := by rw [hb]; exact d3
  obtain ⟨U, hsteps, hrun, hend, hW, hsame, ce, hce, hO⟩ := X₁.ctorThrow0 hexec htr (own := own) (cls := cls) (names := names) (ic := ic) hown' hcls hnames h (fun x hx => nomatch hx) hfX hkX hcellA (by rw [hhp, hT]; exact Nat.le_refl _)
    (g := { method := m, pc := pc + 4, locals := ls, stack := .ref T.heap.size :: .ref T.heap.size :: rest, locked := none }) rfl hsize rfl rfl (rest := rest) rfl
    (by rw [hb]; exact d4) (by rw [hb]; exact d7) hout hRframes (by simp only [List.map_cons, List.sum_cons, hcat]; omega) hlocks
  obtain ⟨f1, f2⟩ := vx_frame hsame
  rw [hhp] at f1 f2
  have hWs : s.WarmedH U.vm := State.WarmedH.trans hW0 hW
  have hcl : s.vm.findClass cls = some ce.cls := by
    have h9 := hO.cls
    rw [hvm] at h9
    exact h9
  have hall : s.sameButNew ({ U with vm := s.vm } : State) locs mc ms := by
    subst hA
    obtain ⟨e1, e2⟩ := hsame
    rw [State.setFrames_setFrames] at e1
    have h2 : (T.setVm s.vm).sameButNew ({ U with vm := s.vm } : State) [] (0 + 1) (0 + 6) := ⟨e1, e2⟩
    have h3 := X.same.trans h2
    rw [List.append_nil] at h3
    exact h3.mono hc hs
  refine ⟨U, ?_, .threw T.heap.size, hrun, hend, Or.inr ⟨T.heap.size, rfl, cls, ce, locs, hx U hWs.alike f1 (fun q hq => f2 q hq (fun z hz => nomatch hz)), hce, hO.vm, hcl, hWs, hall, hf⟩⟩
  refine st1 _ ?_
  show Steps p.tables e below (T1.setTop { method := m, pc := pc + 3, locals := ls, stack := .ref T.heap.size :: rest, locked := none }) _
  jvm_step X₁.here [X₁.here.top, hexec, d3', Value.category]
  exact hsteps
/-- 'throw new E("text")': new; dup; ldc; invokespecial; athrow -/
theorem vx_throwS {cc : ByteArray} {pc : Nat} (hexec : p.tables.exec = Jvm.exec) (hb : c.code = cc) (hl : l.stackTraces = false) {own cls text : String} {names : List String} {ik is ic mc ms sa : Nat} {A : Nat → Prop}
    (hown : s.vm.findClass own = some m.cls) (hcls : Bundle.fit cls = true) (hnames : ∀ n ∈ names, Bundle.fit n = true)
    (hk : (Cond.classLink own ik cls).before args s = true) (hini : (Cond.initialized cls).before args s = true) (hstr : vk_R own is text sa s) (hat : ∀ w ∈ vx_atS own ic cls names, w.before args s = true)
    (hgood : ∀ w ∈ Cond.classLink own ik cls :: Cond.initialized cls :: vx_atS own ic cls names, vx_ot w = true)
    (hU : vx_Zq Bundle.tN "UNASSIGNED_STACK" Bundle.steD A s s.heap) (hN : vx_Zq Bundle.tN "SUPPRESSED_SENTINEL" Bundle.listD A s s.heap) (hS : va_S A s.heap H locs) (hsize : ls.size = c.maxLocals)
    (d0 : decode cc pc = .ok (.new ik, 3)) (d3 : decode cc (pc + 3) = .ok (.dup, 1)) (d4 : decode cc (pc + 4) = .ok (.ldc is, 2)) (d6 : decode cc (pc + 6) = .ok (.invokespecial ic, 3)) (d9 : decode cc (pc + 9) = .ok (.athrow, 1))
    (hout : ∀ x ∈ c.exceptionTable.toList, covers x (pc + 9) = false)
    (hRframes : names.length + 3 < R.frames) (hRlocals : (rest.map fun v => v.category).sum + (13 * (names.length + 1) + 43) ≤ R.locals) (hRcells : cells + 1 ≤ R.cells) (hRslots : slots + 6 ≤ R.slots) (hlocks : meth.locks = false)
    (hx : ∀ t : State, s.vm.Alike t.vm → H.size ≤ t.heap.size → (∀ q : Nat, q < H.size → t.heap[q]? = H[q]?) → XC cls s t)
    (hf : ∀ z ∈ locs, free z.base) (hc : cells + 1 ≤ mc) (hs : slots + 6 ≤ ms) :
    W p l e R s m args below meth c H locs cells slots (vx_MQ below Qc XC args s mc ms free) (F0 m pc ls rest) := by
  intro T hT X
  have htr : e.platform.stackTraces = false := (show e.platform.stackTraces = l.stackTraces by rw [X.admits.platform]).trans hl
  have Y := vx_rebase X (R' := { frames := R.frames, locals := R.locals, cells := 1, slots := 6 }) (Nat.le_refl _) (Nat.le_refl _) hRcells hRslots
  obtain ⟨s', hA⟩ : ∃ z, z = (T.setVm s.vm).setFrames (.invoking m args :: below) := ⟨_, rfl⟩
  rw [← hA] at Y
  have hvm : s'.vm = s.vm := by rw [hA]; rfl
  have hhp : s'.heap = H := by rw [hA]; exact hT
  have hW0 : s.WarmedH s'.vm := by rw [hvm]; exact State.WarmedH.refl s
  have hat' : ∀ w ∈ vx_atS own ic cls names, w.before args s' = true := fun w hw => vx_ot_at hW0 hvm.symm (hgood w (List.mem_cons_of_mem _ (List.mem_cons_of_mem _ hw))) (hat w hw)
  have hk' : (Cond.classLink own ik cls).before args s' = true := vx_ot_at hW0 hvm.symm (hgood _ List.mem_cons_self) hk
  have hini' : (Cond.initialized cls).before args s' = true := vx_ot_at hW0 hvm.symm (hgood _ (List.mem_cons_of_mem _ List.mem_cons_self)) hini
  have hU' : vx_Zq Bundle.tN "UNASSIGNED_STACK" Bundle.steD A s' s'.heap := by rw [hhp]; exact vx_Zq.moved hW0.alike (hU.kept hS.2.1)
  have hN' : vx_Zq Bundle.tN "SUPPRESSED_SENTINEL" Bundle.listD A s' s'.heap := by rw [hhp]; exact vx_Zq.moved hW0.alike (hN.kept hS.2.1)
  have h : ∀ w ∈ Bundle.ownAtoms own ic cls names, w.before args s' = true := vx_own hat' (vx_isRefq hU'.1) (vx_isRefq hN'.1) hU'.2.word hN'.2.word
  have hown' : s'.vm.findClass own = some m.cls := by rw [hvm]; exact hown
  have hins : (Cond.instantiable cls 6).before args s' = true := h _ (by simp [Bundle.ownAtoms])
  obtain ⟨vm₁, cX, kX, hfX, hkX, -, -, X₁, st1⟩ := Y.newCold hexec (own := own) (C := cls) (index := ik) (n := 6) hown' hk' hins hini'
    (g := F0 m pc ls rest) rfl (by rw [hb]; exact d0) (Nat.le_refl _) (Nat.le_refl _)
  generalize hT1 : (T.setVm vm₁).pushCell { cls := cX, slots := kX.instanceTypes.map defaultValue, vm := .none } = T1 at X₁ st1
  have hcat : (Value.ref T.heap.size).category = 1 := rfl
  have hcellA : T1.heap[T.heap.size]? = some (freshCell cX kX) := by rw [← hT1]; exact State.heap_pushCell_size _ _
  have d3' : decode c.code (pc + 3) = .ok (.dup, 1) := by rw [hb]; exact d3
  have d4' : decode c.code (pc + 4) = .ok (.ldc is, 2) := by rw [hb]; exact d4
  have hstr' : vk_R own is text sa s' := vk_R.warm hW0 hstr
  obtain ⟨U, hsteps, hrun, hend, hW, hsame, ce, hce, hO⟩ := X₁.ctorThrowS hexec htr (own := own) (cls := cls) (names := names) (ic := ic) hown' hcls hnames h (fun x hx => nomatch hx) hfX hkX hcellA (by rw [hhp, hT]; exact Nat.le_refl _) (msg := .ref sa) rfl
    (g := { method := m, pc := pc + 6, locals := ls, stack := .ref sa :: .ref T.heap.size :: .ref T.heap.size :: rest, locked := none }) rfl hsize rfl rfl (rest := rest) rfl
    (by rw [hb]; exact d6) (by rw [hb]; exact d9) hout hRframes (by simp only [List.map_cons, List.sum_cons, hcat]; omega) hlocks
  obtain ⟨f1, f2⟩ := vx_frame hsame
  rw [hhp] at f1 f2
  have hWs : s.WarmedH U.vm := State.WarmedH.trans hW0 hW
  have hcl : s.vm.findClass cls = some ce.cls := by
    have h9 := hO.cls
    rw [hvm] at h9
    exact h9
  have hall : s.sameButNew ({ U with vm := s.vm } : State) locs mc ms := by
    subst hA
    obtain ⟨e1, e2⟩ := hsame
    rw [State.setFrames_setFrames] at e1
    have h2 : (T.setVm s.vm).sameButNew ({ U with vm := s.vm } : State) [] (0 + 1) (0 + 6) := ⟨e1, e2⟩
    have h3 := X.same.trans h2
    rw [List.append_nil] at h3
    exact h3.mono hc hs
  refine ⟨U, ?_, .threw T.heap.size, hrun, hend, Or.inr ⟨T.heap.size, rfl, cls, ce, locs, hx U hWs.alike f1 (fun q hq => f2 q hq (fun z hz => nomatch hz)), hce, hO.vm, hcl, hWs, hall, hf⟩⟩
  refine st1 _ ?_
  show Steps p.tables e below (T1.setTop { method := m, pc := pc + 3, locals := ls, stack := .ref T.heap.size :: rest, locked := none }) _
  jvm_step X₁.here [X₁.here.top, hexec, d3', Value.category]
  exact X₁.ldcString hexec (own := own) (text := text) (index := is) (a := sa) hown' hstr'.1 hstr'.2
    (g := { method := m, pc := pc + 4, locals := ls, stack := .ref T.heap.size :: .ref T.heap.size :: rest, locked := none }) rfl d4' _ hsteps
/-- 'throw new E("text")', the text by a wide index -/
theorem vx_throwSW {cc : ByteArray} {pc : Nat} (hexec : p.tables.exec = Jvm.exec) (hb : c.code = cc) (hl : l.stackTraces = false) {own cls text : String} {names : List String} {ik is ic mc ms sa : Nat} {A : Nat → Prop}
    (hown : s.vm.findClass own = some m.cls) (hcls : Bundle.fit cls = true) (hnames : ∀ n ∈ names, Bundle.fit n = true)
    (hk : (Cond.classLink own ik cls).before args s = true) (hini : (Cond.initialized cls).before args s = true) (hstr : vk_R own is text sa s) (hat : ∀ w ∈ vx_atS own ic cls names, w.before args s = true)
    (hgood : ∀ w ∈ Cond.classLink own ik cls :: Cond.initialized cls :: vx_atS own ic cls names, vx_ot w = true)
    (hU : vx_Zq Bundle.tN "UNASSIGNED_STACK" Bundle.steD A s s.heap) (hN : vx_Zq Bundle.tN "SUPPRESSED_SENTINEL" Bundle.listD A s s.heap) (hS : va_S A s.heap H locs) (hsize : ls.size = c.maxLocals)
    (d0 : decode cc pc = .ok (.new ik, 3)) (d3 : decode cc (pc + 3) = .ok (.dup, 1)) (d4 : decode cc (pc + 4) = .ok (.ldc_w is, 3)) (d7 : decode cc (pc + 7) = .ok (.invokespecial ic, 3)) (d10 : decode cc (pc + 10) = .ok (.athrow, 1))
    (hout : ∀ x ∈ c.exceptionTable.toList, covers x (pc + 10) = false)
    (hRframes : names.length + 3 < R.frames) (hRlocals : (rest.map fun v => v.category).sum + (13 * (names.length + 1) + 43) ≤ R.locals) (hRcells : cells + 1 ≤ R.cells) (hRslots : slots + 6 ≤ R.slots) (hlocks : meth.locks = false)
    (hx : ∀ t : State, s.vm.Alike t.vm → H.size ≤ t.heap.size → (∀ q : Nat, q < H.size → t.heap[q]? = H[q]?) → XC cls s t)
    (hf : ∀ z ∈ locs, free z.base) (hc : cells + 1 ≤ mc) (hs : slots + 6 ≤ ms) :
    W p l e R s m args below meth c H locs cells slots (vx_MQ below Qc XC args s mc ms free) (F0 m pc ls rest) := by
  intro T hT X
  have htr : e.platform.stackTraces = false := (show e.platform.stackTraces = l.stackTraces by rw [X.admits.platform]).trans hl
  have Y := vx_rebase X (R' := { frames := R.frames, locals := R.locals, cells := 1, slots := 6 }) (Nat.le_refl _) (Nat.le_refl _) hRcells hRslots
  obtain ⟨s', hA⟩ : ∃ z, z = (T.setVm s.vm).setFrames (.invoking m args :: below) := ⟨_, rfl⟩
  rw [← hA] at Y
  have hvm : s'.vm = s.vm := by rw [hA]; rfl
  have hhp : s'.heap = H := by rw [hA]; exact hT
  have hW0 : s.WarmedH s'.vm := by rw [hvm]; exact State.WarmedH.refl s
  have hat' : ∀ w ∈ vx_atS own ic cls names, w.before args s' = true := fun w hw => vx_ot_at hW0 hvm.symm (hgood w (List.mem_cons_of_mem _ (List.mem_cons_of_mem _ hw))) (hat w hw)
  have hk' : (Cond.classLink own ik cls).before args s' = true := vx_ot_at hW0 hvm.symm (hgood _ List.mem_cons_self) hk
  have hini' : (Cond.initialized cls).before args s' = true := vx_ot_at hW0 hvm.symm (hgood _ (List.mem_cons_of_mem _ List.mem_cons_self)) hini
  have hU' : vx_Zq Bundle.tN "UNASSIGNED_STACK" Bundle.steD A s' s'.heap := by rw [hhp]; exact vx_Zq.moved hW0.alike (hU.kept hS.2.1)
  have hN' : vx_Zq Bundle.tN "SUPPRESSED_SENTINEL" Bundle.listD A s' s'.heap := by rw [hhp]; exact vx_Zq.moved hW0.alike (hN.kept hS.2.1)
  have h : ∀ w ∈ Bundle.ownAtoms own ic cls names, w.before args s' = true := vx_own hat' (vx_isRefq hU'.1) (vx_isRefq hN'.1) hU'.2.word hN'.2.word
  have hown' : s'.vm.findClass own = some m.cls := by rw [hvm]; exact hown
  have hins : (Cond.instantiable cls 6).before args s' = true := h _ (by simp [Bundle.ownAtoms])
  obtain ⟨vm₁, cX, kX, hfX, hkX, -, -, X₁, st1⟩ := Y.newCold hexec (own := own) (C := cls) (index := ik) (n := 6) hown' hk' hins hini'
    (g := F0 m pc ls rest) rfl (by rw [hb]; exact d0) (Nat.le_refl _) (Nat.le_refl _)
  generalize hT1 : (T.setVm vm₁).pushCell { cls := cX, slots := kX.instanceTypes.map defaultValue, vm := .none } = T1 at X₁ st1
  have hcat : (Value.ref T.heap.size).category = 1 := rfl
  have hcellA : T1.heap[T.heap.size]? = some (freshCell cX kX) := by rw [← hT1]; exact State.heap_pushCell_size _ _
  have d3' : decode c.code (pc + 3) = .ok (.dup, 1) := by rw [hb]; exact d3
  have d4' : decode c.code (pc + 4) = .ok (.ldc_w is, 3) := by rw [hb]; exact d4
  have hstr' : vk_R own is text sa s' := vk_R.warm hW0 hstr
  obtain ⟨U, hsteps, hrun, hend, hW, hsame, ce, hce, hO⟩ := X₁.ctorThrowS hexec htr (own := own) (cls := cls) (names := names) (ic := ic) hown' hcls hnames h (fun x hx => nomatch hx) hfX hkX hcellA (by rw [hhp, hT]; exact Nat.le_refl _) (msg := .ref sa) rfl
    (g := { method := m, pc := pc + 7, locals := ls, stack := .ref sa :: .ref T.heap.size :: .ref T.heap.size :: rest, locked := none }) rfl hsize rfl rfl (rest := rest) rfl
    (by rw [hb]; exact d7) (by rw [hb]; exact d10) hout hRframes (by simp only [List.map_cons, List.sum_cons, hcat]; omega) hlocks
  obtain ⟨f1, f2⟩ := vx_frame hsame
  rw [hhp] at f1 f2
  have hWs : s.WarmedH U.vm := State.WarmedH.trans hW0 hW
  have hcl : s.vm.findClass cls = some ce.cls := by
    have h9 := hO.cls
    rw [hvm] at h9
    exact h9
  have hall : s.sameButNew ({ U with vm := s.vm } : State) locs mc ms := by
    subst hA
    obtain ⟨e1, e2⟩ := hsame
    rw [State.setFrames_setFrames] at e1
    have h2 : (T.setVm s.vm).sameButNew ({ U with vm := s.vm } : State) [] (0 + 1) (0 + 6) := ⟨e1, e2⟩
    have h3 := X.same.trans h2
    rw [List.append_nil] at h3
    exact h3.mono hc hs
  refine ⟨U, ?_, .threw T.heap.size, hrun, hend, Or.inr ⟨T.heap.size, rfl, cls, ce, locs, hx U hWs.alike f1 (fun q hq => f2 q hq (fun z hz => nomatch hz)), hce, hO.vm, hcl, hWs, hall, hf⟩⟩
  refine st1 _ ?_
  show Steps p.tables e below (T1.setTop { method := m, pc := pc + 3, locals := ls, stack := .ref T.heap.size :: rest, locked := none }) _
  jvm_step X₁.here [X₁.here.top, hexec, d3', Value.category]
  exact X₁.ldcStringW hexec (own := own) (text := text) (index := is) (a := sa) hown' hstr'.1 hstr'.2
    (g := { method := m, pc := pc + 4, locals := ls, stack := .ref T.heap.size :: .ref T.heap.size :: rest, locked := none }) rfl d4' _ hsteps
end Ends
section Bodies
variable {l : Launch}
theorem vx_ofW {y : MethodName} {ws ws' : List Cond} {rm : Room} {Pc : Array Value → State → Prop} {Qc : Array Value → State → Outcome → State → Prop} {XC : String → State → State → Prop} {mc ms : Nat} {free : Addr → Prop} {cc : ByteArray} {maxL : Nat} {ret : Option FieldType}
    (hy : plainName y.cls = true) (hw : ws = Cond.code y cc maxL ret :: ws')
    (body : ∀ p e s m args below meth c s₁, BodyLoose p l y (headSpec ws rm) cc maxL ret e s m args below meth c s₁ → c.maxLocals = maxL → (∀ x ∈ c.exceptionTable.toList, False) → Pc args s →
      W p l e (headSpec ws rm).room s m args below meth c s.heap [] 0 0 (vx_MQ below Qc XC args s mc ms free) (entryFrame m args maxL)) : vx_Met l y ws rm Pc Qc XC mc ms free := by
  refine MetFree.of_bodyS (code := cc) (maxLocals := maxL) (ret := ret) hy ?_ ?_
  · intro args s m h hn
    obtain ⟨meth, c, h1, h2, h3, h4, h5, h6, -, -⟩ := Cond.code_spec hn (atoms_spec (ws := ws) h _ (by rw [hw]; exact List.mem_cons_self))
    exact ⟨meth, c, h1, h2, h3, h4, h5, h6⟩
  · intro p e s m args below meth c s₁ B hml hP _
    have hh0 : s₁.heap = s.heap := by rw [B.state]; rfl
    have ht : ∀ x ∈ c.exceptionTable.toList, False := by
      obtain ⟨meth9, c9, h1, h2, -, -, -, -, h7, -⟩ := Cond.code_spec B.named (atoms_spec (ws := ws) B.pre _ (by rw [hw]; exact List.mem_cons_self))
      cases Option.some.inj (h1.symm.trans B.method)
      cases Option.some.inj (h2.symm.trans (Stand.of_body B).code)
      intro x hx
      rw [Array.isEmpty_iff.mp h7] at hx
      cases hx
    obtain ⟨t, a1, o, b1, b2, b3⟩ := body p e s m args below meth c s₁ B hml ht hP s₁ hh0 (Stand.of_body B)
    exact ⟨t, o, a1, b1, b2, b3⟩
/-- the table of a body with handlers -/
theorem vx_table {p : Program} {x y : MethodName} {S : Spec} {cc bytes : ByteArray} {maxL maxL' : Nat} {ret ret' : Option FieldType} {e : Env} {s s₁ : State} {m : MethodId} {args : Array Value} {below : List Frame} {meth : Method} {c : Code} {hh : List (Nat × Nat × Nat × Nat)}
    (B : BodyLoose p l y S cc maxL ret e s m args below meth c s₁) (h : (Cond.codeWith y bytes maxL' ret' hh).before args s = true) : c.exceptionTable.toList = tableOf hh := by
  obtain ⟨m9, meth9, c9, hn9, h1, h2, -, -, h6, -⟩ := Cond.codeWith_spec h
  cases Option.some.inj (hn9.symm.trans B.named)
  cases Option.some.inj (h1.symm.trans B.method)
  cases Option.some.inj (h2.symm.trans (Stand.of_body B).code)
  rw [← h6, table_eq]
end Bodies
end VXA
/-! ===== END ===== -/
/-! ===== BEGIN a static call of a method with an exception table ===== -/
section VXS
variable {p : Program} {l : Launch} {e : Env} {R : Room} {s : State} {m : MethodId} {args : Array Value} {below : List Frame} {meth : Method} {c : Code} {T : State} {H : Heap} {locs : List Loc} {cells slots : Nat}
abbrev vx_CSW (R : Room) (s : State) (args : Array Value) (own : String) (index : Nat) (y : MethodName) (bytes : ByteArray) (maxL : Nat) (ret : Option FieldType) (hh : List (Nat × Nat × Nat × Nat)) (ws : List Cond) (rm : Room) (mc ms n : Nat) : Prop :=
  (rm.cells = mc ∧ rm.slots = ms ∧ rm.frames + 1 ≤ R.frames ∧ 8 + (maxL + 11) + rm.locals ≤ R.locals ∧ (∀ w ∈ ws, ∀ (a' : Array Value) (U : State), s.WarmedH U.vm → w.before a' U = true) ∧ Cond.codeWith y bytes maxL ret hh ∈ ws) ∧
  (Cond.codeWith y bytes maxL ret hh).before args s = true ∧ (Cond.initialized y.cls).before args s = true ∧ (y.cls ≠ "java/lang/invoke/MethodHandle" ∧ y.cls ≠ "java/lang/invoke/VarHandle") ∧
  (∀ sig, parseMethodDescriptor y.desc = some sig → n = sig.parameters.length) ∧ (Cond.methodLink own index y).before args s = true ∧ (Cond.static y).before args s = true
theorem vx_cwSW {own : String} {index maxL mc ms : Nat} {y : MethodName} {bytes : ByteArray} {ret : Option FieldType} {hh : List (Nat × Nat × Nat × Nat)} {Ts ws ws' : List Cond} {rm : Room} (n : Nat) (ht : ∀ w ∈ Ts, w.before args s = true) (hT : GoodIn Ts (va_wsS own index y ws)) (hw : ws = Cond.codeWith y bytes maxL ret hh :: ws') (hrc : rm.cells = mc) (hrs : rm.slots = ms)
    (hd : y.cls ≠ "java/lang/invoke/MethodHandle" ∧ y.cls ≠ "java/lang/invoke/VarHandle" ∧ (parseMethodDescriptor y.desc).map (fun d => d.parameters.length) = some n) (hR : rm.frames + 1 ≤ R.frames ∧ 8 + (maxL + 11) + rm.locals ≤ R.locals) :
    vx_CSW R s args own index y bytes maxL ret hh ws rm mc ms n := by
  have ok : ∀ w ∈ va_wsS own index y ws, w.before args s = true := fun w h => ht w (hT w h).1
  have hG : GoodIn Ts ws := fun w h => hT w (by unfold va_wsS; exact List.mem_append_right _ h)
  have hc : Cond.codeWith y bytes maxL ret hh ∈ ws := by rw [hw]; exact List.mem_cons_self
  refine ⟨⟨hrc, hrs, hR.1, hR.2, pay_in ht hG, hc⟩, ht _ (hG _ hc).1, ok _ (by simp [va_wsS]), ⟨hd.1, hd.2.1⟩, fun sig h => ?_, ok _ (by simp [va_wsS]), ok _ (by simp [va_wsS])⟩
  have h2 := hd.2.2
  rw [h] at h2
  exact (Option.some.inj h2).symm
theorem vx_callSW (X : Stand p l e R s m args below meth c T locs cells slots) (hexec : p.tables.exec = Jvm.exec) {own : String} {index : Nat} {y : MethodName} {bytes : ByteArray} {maxL : Nat} {ret : Option FieldType} {hh : List (Nat × Nat × Nat × Nat)}
    (hown : s.vm.findClass own = some m.cls) (hlink : (Cond.methodLink own index y).before args s = true) (hstat : (Cond.static y).before args s = true) (hinit : (Cond.initialized y.cls).before args s = true)
    (hcode : (Cond.codeWith y bytes maxL ret hh).before args s = true) (hy : y.cls ≠ "java/lang/invoke/MethodHandle" ∧ y.cls ≠ "java/lang/invoke/VarHandle")
    {W9 : Nat} {Pre : Pt → Array Value → Prop} {Post : Pt → Array Value → Option Value → Pt → Prop} (hK : Back l R p e below s args y 3 W9 Pre Post)
    {g : JFrame} (hg : g.method = m) (hsize : g.locals.size = c.maxLocals) {argsL rest : List Value} (hlen : ∀ sig, parseMethodDescriptor y.desc = some sig → argsL.length = sig.parameters.length)
    (hstack : g.stack = argsL.reverse ++ rest) (hW : 2 * g.monitorRoom + (rest.map fun v => v.category).sum ≤ W9) (hdg : decode c.code g.pc = .ok (.invokestatic index, 3))
    (hpre : ∀ vm₁, s.WarmedH vm₁ → Pre ⟨T.setVm vm₁, locs, cells, slots⟩ argsL.toArray) :
    ∃ (v : Option Value) (vm₁ : Vm) (B : Pt), s.WarmedH vm₁ ∧ Stand p l e R s m args below meth c B.U B.locs B.cells B.slots ∧ Post ⟨T.setVm vm₁, locs, cells, slots⟩ argsL.toArray v B ∧
      ∀ target, Steps p.tables e below (B.U.setTop { g with pc := g.pc + 3, stack := v.toList ++ rest }) target → Steps p.tables e below (T.setTop g) target := by
  obtain ⟨mk, methM, cM, hnamed, hmethM, -, -, -, -, -, -, hsigM⟩ := Cond.codeWith_spec hcode
  have hstatic : methM.isStatic = true := Cond.static_spec hnamed hmethM hstat
  obtain ⟨kP, hkP, -⟩ := className_of_methodNamed hnamed
  have hinitP : kP.init = .initialized := Cond.initialized_spec (findClass_of_methodNamed hnamed) hkP hinit
  obtain ⟨vm₁, X₁, hstep₁⟩ := X.invokestatic hexec hown hlink hnamed hmethM hstatic hkP hinitP hy (g := g) hg (argsL := argsL) (rest := rest) (hlen _ hsigM) hstack hdg
  obtain ⟨v, B, X', hpost, hsteps⟩ := hK m meth c ⟨T.setVm vm₁, locs, cells, slots⟩ { g with stack := rest } (.invokestatic index) mk argsL.toArray X₁ hg hsize hdg hW (X₁.named hnamed) (hpre vm₁ X₁.warmed)
  exact ⟨v, vm₁, B, X₁.warmed, X', hpost, fun target h => hstep₁ _ fun acts => by rw [doInvoke_state]; exact hsteps.trans h⟩
theorem vx_runSW {y : MethodName} {bytes cc : ByteArray} {maxL nL mc ms n index : Nat} {ret : Option FieldType} {hh : List (Nat × Nat × Nat × Nat)} {ws : List Cond} {rm : Room} {Pc : Array Value → State → Prop} {Qc : Array Value → State → Outcome → State → Prop} {free : Addr → Prop} {Ts : List Cond} {own : String} {As rest : List Value} {g : JFrame}
    (S : CallFix p m c cc nL s args Ts own) (hM : Met l y ws rm Pc Qc mc ms free) (cw : vx_CSW R s args own index y bytes maxL ret hh ws rm mc ms n) (hp : PreS s H Pc As)
    (hg : g.method = m) (hn : As.length = n) (hsize : g.locals.size = nL) (hstack : g.stack = As.reverse ++ rest) (hW : 2 * g.monitorRoom + (rest.map fun v => v.category).sum ≤ 8) (hdg : decode cc g.pc = .ok (.invokestatic index, 3)) (hf : cells + mc ≤ R.cells ∧ slots + ms ≤ R.slots) :
    va_Run p l e R s m args below meth c H locs cells slots mc ms g rest (Qc As.toArray) (free) := by
  obtain ⟨⟨hrc, hrs, hfr, hlo, hws, hcw⟩, hcode, hini, hy, hlen, hl, hstt⟩ := cw
  have hK : Back l R p e below s args y 3 8 (PreOf R mc ms Pc) (PostOf Qc mc ms free) := va_backW (hh := hh) (bytes := bytes) (maxL := maxL) (ret := ret) hM hp.1 hrc hrs hfr hlo hws hcw (fun a' U hW => word_at hW (Or.inl (by first | rfl | simp [Cond.onTables, Cond.keeps, Cond.steady])) hini)
  obtain ⟨hx, hb, hml, ho, -⟩ := S
  intro T hT X
  obtain ⟨v, vm₁, ⟨U', l2, c2, s2⟩, hW₁, X', ⟨g', mk, t, L, e1, e2, hq, h1, hL, h2, h3⟩, st⟩ := vx_callSW X hx (hh := hh) (bytes := bytes) (maxL := maxL) (ret := ret) ho hl hstt hini hcode hy hK hg (hsize.trans hml.symm) (argsL := As) (rest := rest) (fun sig h => hn.trans (hlen sig h)) hstack hW (by rw [hb]; exact hdg)
    (fun vm₁ hW₁ => ⟨hf.1, hf.2, hp.2 (T.setVm vm₁) hT hW₁⟩)
  dsimp only [Pt.U, Pt.locs, Pt.cells, Pt.slots] at X' e1 e2 h1 h2 h3 st
  subst h1; subst h2; subst h3
  exact ⟨v, (T.setVm vm₁).calling g' mk As.toArray, t, U', L, hT, X', hL, e1, e2, hq, st⟩
/-- not caught here, past rows that name other classes: it goes on to the caller -/
theorem vx_outP {p : Program} {l : Launch} {e : Env} {R : Room} {s : State} {m : MethodId} {args : Array Value} {below : List Frame} {meth : Method} {c : Code} {H : Heap} {locs : List Loc} {cells slots : Nat} {free : Addr → Prop} {ls : Array Slot} {rest : List Value} {Qc : Array Value → State → Outcome → State → Prop} {XC : String → State → State → Prop}
    {pc : Nat} {own E : String} {ce : Cell} {q : Addr} {mc ms : Nat} (hown : s.vm.findClass own = some m.cls) (hlocks : meth.locks = false)
    (hpass : ∀ z ∈ c.exceptionTable.toList, covers z pc = false ∨ (z.catchType ≠ 0 ∧ ∃ nm : String, (Cond.classLink own z.catchType nm).before args s = true ∧ va_Nc E nm s)) (hcell : H[q]? = some ce) (hv : ce.vm = .none) (hcl : s.vm.findClass E = some ce.cls)
    (hx : ∀ t : State, t.heap = H → s.vm.Alike t.vm → XC E s t) (hf : ∀ z ∈ locs, free z.base) (hc : cells ≤ mc) (hs : slots ≤ ms) :
    vx_W p l e R s m args below meth c H locs cells slots (vx_MQ below Qc XC args s mc ms free) (F0 m pc ls rest) q := by
  intro T hT X
  have hpl : e.platform.magicAccessors = ({} : Platform).magicAccessors := by rw [X.admits.platform]
  obtain ⟨vm', hW', X', st⟩ := X.outThrough hlocks q (g := F0 m pc ls rest) rfl rfl rfl (cell := ce) (by rw [hT]; exact hcell) (by rw [hv]; rfl)
    (by obtain ⟨k9, h9, -⟩ := Vm.findClass_spec hcl; exact ⟨k9, h9⟩) (fun z hz => by
      rcases hpass z hz with h | ⟨hz0, nm, hl1, hn1⟩
      · exact Or.inl h
      · obtain ⟨c6, hc6, hcl6⟩ := Cond.classLink_spec hown hl1 e.platform hpl
        obtain ⟨a8, b8, h1, h2, h3⟩ := hn1
        cases Option.some.inj (h1.symm.trans hcl)
        cases Option.some.inj (h2.symm.trans hc6)
        exact Or.inr ⟨hz0, _, hcl6, h3⟩)
  obtain ⟨g₀, hfr⟩ := X'.frames_eq
  have hcell9 : ((T.setVm vm').setFrames (.throwing q :: below)).heap[q]? = some ce := by
    show T.heap[q]? = some ce
    rw [hT]; exact hcell
  have hend : Ended ((T.setVm vm').setFrames (.throwing q :: below)) below (.threw q) := State.frames_setFrames _ (State.cur_lt_of_frames hfr)
  refine ⟨(T.setVm vm').setFrames (.throwing q :: below), ?_, .threw q, X'.here.running, hend, Or.inr ⟨q, rfl, E, ce, locs, hx _ hT (X'.ends _).1.alike, hcell9, hv, hcl, (X'.ends _).1, (X'.ends _).2.mono hc hs, hf⟩⟩
  rw [X.pushThrowing_eq]
  exact st
/-- a thing of a world lies in the heap -/
theorem vx_lt {D : va_G} {cl : List vw_C} {ws : va_W} {H1 : Heap} (h : va_P D cl ws H1) {k : Nat} {q : Nat × va_E} (hk : ws[k]? = some q) : q.1 < H1.size := (h k q hk).lt
end VXS
/-! ===== END ===== -/
/-! ===== BEGIN methods with a table of their own: called by a name, returning or throwing ===== -/
section VXH
/-! vx_backW, vx_callVX, vx_callSX, vx_callVW, vx_runVW, vx_runVX, vx_runSX, vx_ofWH follow the same proofs as their sisters above (Free/Laws.lean, Shelf42/LK1.lean); vx_outP calls Shelf42/NT130.lean (outThrough). -/
section
variable {l : Launch} {R : Room} {p : Program} {e : Env} {below : List Frame} {s : State} {sargs : Array Value} {y : MethodName} {len W9 : Nat}
theorem vx_backW {ws : List Cond} {rm : Room} {Pc : Array Value → State → Prop} {Qc : Array Value → State → Outcome → State → Prop} {XC : String → State → State → Prop} {mc ms : Nat} {free : Addr → Prop} {bytes : ByteArray} {maxL : Nat} {ret : Option FieldType} {hh : List (Nat × Nat × Nat × Nat)}
    (hM : vx_Met l y ws rm Pc Qc XC mc ms free) (hblind : FrameBlind Pc) (hrc : rm.cells = mc) (hrs : rm.slots = ms)
    (hframes : rm.frames + 1 ≤ R.frames) (hlocals : W9 + (maxL + 11) + rm.locals ≤ R.locals)
    (hws : ∀ w ∈ ws, ∀ a' U, s.WarmedH U.vm → w.before a' U = true) (hcode : Cond.codeWith y bytes maxL ret hh ∈ ws) (hinit : ∀ a' U, s.WarmedH U.vm → (Cond.initialized y.cls).before a' U = true) :
    vx_Back l R p e below s sargs y len W9 (PreOf R mc ms Pc) (PostOf Qc mc ms free) (vx_Post XC mc ms free) := by
  intro m meth c A g ig mk a X hg hsize hdg hW hn hp
  have h1 : (headSpec ws rm).pre.before a A.U = true := atoms_intro fun w hw => hws w hw _ _ X.warmed
  have h2 : (Cond.codeWith y bytes maxL ret hh).before a A.U = true := hws _ hcode _ _ X.warmed
  have h3 : (Cond.initialized y.cls).before a A.U = true := hinit _ _ X.warmed
  have h4 : A.cells + (headSpec ws rm).room.cells ≤ R.cells := by rw [show (headSpec ws rm).room.cells = mc from hrc]; exact hp.1
  have h5 : A.slots + (headSpec ws rm).room.slots ≤ R.slots := by rw [show (headSpec ws rm).room.slots = ms from hrs]; exact hp.2.1
  have hPc : Pc a (A.U.calling g mk a) := hblind _ _ _ _ hp.2.2
  obtain ⟨U, Ls, c0, s0⟩ := A
  dsimp only [Pt.U, Pt.locs, Pt.cells, Pt.slots] at h1 h2 h3 h4 h5 X hn hPc ⊢
  obtain ⟨m9, methY, cY, hn9, hmY, hcY, -, hlY, -⟩ := Cond.codeWith_spec h2
  cases Option.some.inj (hn9.symm.trans hn)
  obtain ⟨kY, hkY, -⟩ := className_of_methodNamed hn
  have hinitY : kY.init = .initialized := Cond.initialized_spec (findClass_of_methodNamed hn) hkY h3
  have h : At U g.method c below := by rw [hg]; exact X.here
  have hlocals9 : W9 + (maxL + 11) + (headSpec ws rm).room.locals ≤ R.locals := hlocals
  have happ : (headSpec ws rm).appliesLoose y e.platform (U.calling g mk a) = true :=
    Spec.appliesLoose_calling (g := g) h hdg hn hkY hinitY
      (X.room_calling (g := g) (R' := (headSpec ws rm).room) hsize hmY hcY hframes (by rw [hlY]; omega) h4 h5) h1
  obtain ⟨mid, hmid⟩ := h.above
  have hfr : (U.setTop g).frames = (.java g :: mid) ++ below := by rw [State.frames_setTop' g h.top, hmid]; rfl
  obtain ⟨o, s₂, hsteps, -, hend, hq⟩ := Steps.callFree hM p X.admits X.cas X.clock (acts := []) hfr happ hPc trivial
  have hq' : vx_Q Qc XC mc ms free a (U.calling g mk a) o s₂ := hq
  rw [State.frames_setTop' g h.top] at hend
  obtain ⟨g₀, hg0⟩ := Option.isSome_iff_exists.mp h.top
  obtain ⟨r, hr⟩ := State.topJava?_eq_some.mp hg0
  have hr' : (({ U with heap := s₂.heap, slotsUsed := s₂.slotsUsed } : State).setVm s₂.vm).frames = .java g₀ :: r := hr
  rcases hq' with ⟨hqc, L, hfe, hL⟩ | ⟨q, rfl, E, ce, L, hx, hce, hcv, hcl, hW₂, hsm, hL⟩
  · obtain ⟨⟨v, rfl⟩, hW₂, e2, q2, q3, q4, q5, q6⟩ := id hfe
    have e3 : s₂ = ({ (U.calling g mk a).setFrames s₂.frames with heap := s₂.heap, slotsUsed := s₂.slotsUsed } : State).setVm s₂.vm := by
      have : s₂ = ({ s₂ with vm := (U.calling g mk a).vm } : State).setVm s₂.vm := rfl
      rw [e2] at this
      exact this
    obtain ⟨c₂, i₂, len₂, hc₂, hd₂, hf₂⟩ := hend
    have hW' : U.WarmedH s₂.vm := hW₂
    have hcc : c₂ = c := by
      have h1 : s₂.code? g.method = U.code? g.method := by
        rw [State.code?_eq, State.code?_eq, hW'.alike.method?]
      exact Option.some.inj (hc₂.symm.trans (h1.trans h.code))
    subst hcc
    have hlen : len₂ = len := by rw [hdg] at hd₂; cases hd₂; rfl
    subst hlen
    have hs₂ : s₂ = (({ U with heap := s₂.heap, slotsUsed := s₂.slotsUsed } : State).setVm s₂.vm).setTop { g with pc := g.pc + len₂, stack := v.toList ++ g.stack } := by
      refine e3.trans ?_
      rw [hf₂, State.calling_eq h.top, State.setFrames_setFrames, State.setTop_of_frames _ hr', hr]
      rfl
    have hsame : U.sameButNew ({ U with heap := s₂.heap, slotsUsed := s₂.slotsUsed } : State) L mc ms := by
      refine ⟨?_, q2, q3, q4, q5, q6⟩
      obtain ⟨t, ht, -⟩ := State.frames_cons hr
      show ({ U with heap := s₂.heap, slotsUsed := s₂.slotsUsed } : State) = { U.setFrames U.frames with heap := s₂.heap, slotsUsed := s₂.slotsUsed }
      rw [State.setFrames_self ht]
    subst hg
    refine Or.inl ⟨v, ⟨(({ U with heap := s₂.heap, slotsUsed := s₂.slotsUsed } : State).setVm s₂.vm), Ls ++ L, c0 + mc, s0 + ms⟩,
      ⟨X.admits, X.cas, X.clock, X.frames, X.room, X.hears, X.method, X.code, (X.here.setHeapUsed s₂.heap s₂.slotsUsed).setVm hW'.alike, X.tail, State.WarmedH.trans X.warmed hW', X.limits, X.bytes, X.same.trans (hsame.setVm s.vm)⟩,
      ⟨g, mk, s₂, L, rfl, rfl, hqc, rfl, hL, rfl, rfl⟩, ?_⟩
    show Steps p.tables e below _ ((({ U with heap := s₂.heap, slotsUsed := s₂.slotsUsed } : State).setVm s₂.vm).setTop { g with pc := g.pc + len₂, stack := v.toList ++ g.stack })
    rw [← hs₂]
    exact hsteps
  · obtain ⟨e2, q2, q3, q4, q5, q6⟩ := id hsm
    have e3 : s₂ = ({ (U.calling g mk a).setFrames s₂.frames with heap := s₂.heap, slotsUsed := s₂.slotsUsed } : State).setVm s₂.vm := by
      have : s₂ = ({ s₂ with vm := (U.calling g mk a).vm } : State).setVm s₂.vm := rfl
      rw [e2] at this
      exact this
    have hf₂ : s₂.frames = .throwing q :: .java g :: U.frames.tail := hend
    have hW' : U.WarmedH s₂.vm := hW₂
    have hs₂ : s₂ = ((({ U with heap := s₂.heap, slotsUsed := s₂.slotsUsed } : State).setVm s₂.vm).setTop g).pushFrame (.throwing q) := by
      refine e3.trans ?_
      rw [hf₂, State.calling_eq h.top, State.setFrames_setFrames, State.pushFrame, State.frames_setTop _ hr', State.setTop_of_frames _ hr', State.setFrames_setFrames, hr]
      rfl
    have hsame : U.sameButNew ({ U with heap := s₂.heap, slotsUsed := s₂.slotsUsed } : State) L mc ms := by
      refine ⟨?_, q2, q3, q4, q5, q6⟩
      obtain ⟨t, ht, -⟩ := State.frames_cons hr
      show ({ U with heap := s₂.heap, slotsUsed := s₂.slotsUsed } : State) = { U.setFrames U.frames with heap := s₂.heap, slotsUsed := s₂.slotsUsed }
      rw [State.setFrames_self ht]
    subst hg
    refine Or.inr ⟨q, ⟨(({ U with heap := s₂.heap, slotsUsed := s₂.slotsUsed } : State).setVm s₂.vm), Ls ++ L, c0 + mc, s0 + ms⟩,
      ⟨X.admits, X.cas, X.clock, X.frames, X.room, X.hears, X.method, X.code, (X.here.setHeapUsed s₂.heap s₂.slotsUsed).setVm hW'.alike, X.tail, State.WarmedH.trans X.warmed hW', X.limits, X.bytes, X.same.trans (hsame.setVm s.vm)⟩,
      ⟨g, mk, s₂, L, E, ce, rfl, rfl, hx, hce, hcv, hcl, rfl, hL, rfl, rfl⟩, ?_⟩
    show Steps p.tables e below _ (((({ U with heap := s₂.heap, slotsUsed := s₂.slotsUsed } : State).setVm s₂.vm).setTop g).pushFrame (.throwing q))
    rw [← hs₂]
    exact hsteps
end
variable {p : Program} {l : Launch} {e : Env} {R : Room} {s : State} {m : MethodId} {args : Array Value} {below : List Frame} {meth : Method} {c : Code} {T : State} {H : Heap} {locs : List Loc} {cells slots : Nat}
theorem vx_callVX (X : Stand p l e R s m args below meth c T locs cells slots) (hexec : p.tables.exec = Jvm.exec) {own C : String} {index : Nat} {y : MethodName} {bytes : ByteArray} {maxL : Nat} {ret : Option FieldType} {hh : List (Nat × Nat × Nat × Nat)}
    (hown : s.vm.findClass own = some m.cls) (hlink : (Cond.methodLink own index y).before args s = true) (hinst : (Cond.instanceMethod y).before args s = true) (hsel : (Cond.selects C y y).before args s = true)
    (hcode : (Cond.codeWith y bytes maxL ret hh).before args s = true) (hy : y.cls ≠ "java/lang/invoke/MethodHandle" ∧ y.cls ≠ "java/lang/invoke/VarHandle")
    {W9 : Nat} {Pre : Pt → Array Value → Prop} {Post : Pt → Array Value → Option Value → Pt → Prop} {PostX : Pt → Array Value → Addr → Pt → Prop} (hK : vx_Back l R p e below s args y 3 W9 Pre Post PostX)
    {b : Addr} {cellB : Cell} (hcell : T.heap[b]? = some cellB) (hobj : cellB.vm.isStatics = false) (hcls : s.vm.findClass C = some cellB.cls)
    {g : JFrame} (hg : g.method = m) (hsize : g.locals.size = c.maxLocals) {argsL rest : List Value} (hlen : ∀ sig, parseMethodDescriptor y.desc = some sig → argsL.length = sig.parameters.length)
    (hstack : g.stack = argsL.reverse ++ .ref b :: rest) (hW : 2 * g.monitorRoom + (rest.map fun v => v.category).sum ≤ W9) (hdg : decode c.code g.pc = .ok (.invokevirtual index, 3))
    (hpre : ∀ vm₁, s.WarmedH vm₁ → Pre ⟨T.setVm vm₁, locs, cells, slots⟩ (Value.ref b :: argsL).toArray) :
    (∃ (v : Option Value) (vm₁ : Vm) (B : Pt), s.WarmedH vm₁ ∧ Stand p l e R s m args below meth c B.U B.locs B.cells B.slots ∧ Post ⟨T.setVm vm₁, locs, cells, slots⟩ (Value.ref b :: argsL).toArray v B ∧
      ∀ target, Steps p.tables e below (B.U.setTop { g with pc := g.pc + 3, stack := v.toList ++ rest }) target → Steps p.tables e below (T.setTop g) target) ∨
    (∃ (q : Addr) (vm₁ : Vm) (B : Pt), s.WarmedH vm₁ ∧ Stand p l e R s m args below meth c B.U B.locs B.cells B.slots ∧ PostX ⟨T.setVm vm₁, locs, cells, slots⟩ (Value.ref b :: argsL).toArray q B ∧
      Steps p.tables e below (T.setTop g) ((B.U.setTop { g with stack := rest }).pushFrame (.throwing q))) := by
  obtain ⟨mk, methM, hnamed, hmethM, hstM, habM⟩ := Cond.instanceMethod_spec hinst
  obtain ⟨m8, methM', cM, hn8, hmethM', -, -, -, -, -, -, hsigM⟩ := Cond.codeWith_spec hcode
  cases Option.some.inj (hn8.symm.trans hnamed)
  cases hmethM.symm.trans hmethM'
  obtain ⟨c2, r2, m2, q1, q2, q3, q4, kP, hkP, hkPi⟩ := Cond.selects_spec hsel
  cases hcls.symm.trans q1
  cases (State.methodFound?_of_named hnamed hy).symm.trans q2
  cases hnamed.symm.trans q3
  have hselP : selectMethod e.platform s.vm cellB.cls mk = .method mk := by rw [Launch.admits_selectMethod X.admits]; exact q4
  obtain ⟨vm₁, X₁, hstep₁⟩ := X.invokevirtual hexec hown hlink hnamed hmethM hstM hkP hkPi hy (a := b) (cell := cellB) hcell
    (fun z h => by rw [h] at hobj; cases hobj) hselP hmethM habM hkP hkPi (g := g) hg (argsL := argsL) (rest := rest) (hlen _ hsigM) hstack hdg
  rcases hK m meth c ⟨T.setVm vm₁, locs, cells, slots⟩ { g with stack := rest } (.invokevirtual index) mk (Value.ref b :: argsL).toArray X₁ hg hsize hdg hW (X₁.named hnamed) (hpre vm₁ X₁.warmed) with ⟨v, B, X', hpost, hsteps⟩ | ⟨q, B, X', hpost, hsteps⟩
  · exact Or.inl ⟨v, vm₁, B, X₁.warmed, X', hpost, fun target h => hstep₁ _ fun acts => by rw [doInvoke_state]; exact hsteps.trans h⟩
  · exact Or.inr ⟨q, vm₁, B, X₁.warmed, X', hpost, hstep₁ _ fun acts => by rw [doInvoke_state]; exact hsteps⟩
theorem vx_callSX (X : Stand p l e R s m args below meth c T locs cells slots) (hexec : p.tables.exec = Jvm.exec) {own : String} {index : Nat} {y : MethodName} {bytes : ByteArray} {maxL : Nat} {ret : Option FieldType} {hh : List (Nat × Nat × Nat × Nat)}
    (hown : s.vm.findClass own = some m.cls) (hlink : (Cond.methodLink own index y).before args s = true) (hstat : (Cond.static y).before args s = true) (hinit : (Cond.initialized y.cls).before args s = true)
    (hcode : (Cond.codeWith y bytes maxL ret hh).before args s = true) (hy : y.cls ≠ "java/lang/invoke/MethodHandle" ∧ y.cls ≠ "java/lang/invoke/VarHandle")
    {W9 : Nat} {Pre : Pt → Array Value → Prop} {Post : Pt → Array Value → Option Value → Pt → Prop} {PostX : Pt → Array Value → Addr → Pt → Prop} (hK : vx_Back l R p e below s args y 3 W9 Pre Post PostX)
    {g : JFrame} (hg : g.method = m) (hsize : g.locals.size = c.maxLocals) {argsL rest : List Value} (hlen : ∀ sig, parseMethodDescriptor y.desc = some sig → argsL.length = sig.parameters.length)
    (hstack : g.stack = argsL.reverse ++ rest) (hW : 2 * g.monitorRoom + (rest.map fun v => v.category).sum ≤ W9) (hdg : decode c.code g.pc = .ok (.invokestatic index, 3))
    (hpre : ∀ vm₁, s.WarmedH vm₁ → Pre ⟨T.setVm vm₁, locs, cells, slots⟩ argsL.toArray) :
    (∃ (v : Option Value) (vm₁ : Vm) (B : Pt), s.WarmedH vm₁ ∧ Stand p l e R s m args below meth c B.U B.locs B.cells B.slots ∧ Post ⟨T.setVm vm₁, locs, cells, slots⟩ argsL.toArray v B ∧
      ∀ target, Steps p.tables e below (B.U.setTop { g with pc := g.pc + 3, stack := v.toList ++ rest }) target → Steps p.tables e below (T.setTop g) target) ∨
    (∃ (q : Addr) (vm₁ : Vm) (B : Pt), s.WarmedH vm₁ ∧ Stand p l e R s m args below meth c B.U B.locs B.cells B.slots ∧ PostX ⟨T.setVm vm₁, locs, cells, slots⟩ argsL.toArray q B ∧
      Steps p.tables e below (T.setTop g) ((B.U.setTop { g with stack := rest }).pushFrame (.throwing q))) := by
  obtain ⟨mk, methM, cM, hnamed, hmethM, -, -, -, -, -, -, hsigM⟩ := Cond.codeWith_spec hcode
  have hstatic : methM.isStatic = true := Cond.static_spec hnamed hmethM hstat
  obtain ⟨kP, hkP, -⟩ := className_of_methodNamed hnamed
  have hinitP : kP.init = .initialized := Cond.initialized_spec (findClass_of_methodNamed hnamed) hkP hinit
  obtain ⟨vm₁, X₁, hstep₁⟩ := X.invokestatic hexec hown hlink hnamed hmethM hstatic hkP hinitP hy (g := g) hg (argsL := argsL) (rest := rest) (hlen _ hsigM) hstack hdg
  rcases hK m meth c ⟨T.setVm vm₁, locs, cells, slots⟩ { g with stack := rest } (.invokestatic index) mk argsL.toArray X₁ hg hsize hdg hW (X₁.named hnamed) (hpre vm₁ X₁.warmed) with ⟨v, B, X', hpost, hsteps⟩ | ⟨q, B, X', hpost, hsteps⟩
  · exact Or.inl ⟨v, vm₁, B, X₁.warmed, X', hpost, fun target h => hstep₁ _ fun acts => by rw [doInvoke_state]; exact hsteps.trans h⟩
  · exact Or.inr ⟨q, vm₁, B, X₁.warmed, X', hpost, hstep₁ _ fun acts => by rw [doInvoke_state]; exact hsteps⟩
theorem vx_callVW (X : Stand p l e R s m args below meth c T locs cells slots) (hexec : p.tables.exec = Jvm.exec) {own C : String} {index : Nat} {y : MethodName} {bytes : ByteArray} {maxL : Nat} {ret : Option FieldType} {hh : List (Nat × Nat × Nat × Nat)}
    (hown : s.vm.findClass own = some m.cls) (hlink : (Cond.methodLink own index y).before args s = true) (hinst : (Cond.instanceMethod y).before args s = true) (hsel : (Cond.selects C y y).before args s = true)
    (hcode : (Cond.codeWith y bytes maxL ret hh).before args s = true) (hy : y.cls ≠ "java/lang/invoke/MethodHandle" ∧ y.cls ≠ "java/lang/invoke/VarHandle")
    {W9 : Nat} {Pre : Pt → Array Value → Prop} {Post : Pt → Array Value → Option Value → Pt → Prop} (hK : Back l R p e below s args y 3 W9 Pre Post)
    {b : Addr} {cellB : Cell} (hcell : T.heap[b]? = some cellB) (hobj : cellB.vm.isStatics = false) (hcls : s.vm.findClass C = some cellB.cls)
    {g : JFrame} (hg : g.method = m) (hsize : g.locals.size = c.maxLocals) {argsL rest : List Value} (hlen : ∀ sig, parseMethodDescriptor y.desc = some sig → argsL.length = sig.parameters.length)
    (hstack : g.stack = argsL.reverse ++ .ref b :: rest) (hW : 2 * g.monitorRoom + (rest.map fun v => v.category).sum ≤ W9) (hdg : decode c.code g.pc = .ok (.invokevirtual index, 3))
    (hpre : ∀ vm₁, s.WarmedH vm₁ → Pre ⟨T.setVm vm₁, locs, cells, slots⟩ (Value.ref b :: argsL).toArray) :
    ∃ (v : Option Value) (vm₁ : Vm) (B : Pt), s.WarmedH vm₁ ∧ Stand p l e R s m args below meth c B.U B.locs B.cells B.slots ∧ Post ⟨T.setVm vm₁, locs, cells, slots⟩ (Value.ref b :: argsL).toArray v B ∧
      ∀ target, Steps p.tables e below (B.U.setTop { g with pc := g.pc + 3, stack := v.toList ++ rest }) target → Steps p.tables e below (T.setTop g) target := by
  obtain ⟨mk, methM, hnamed, hmethM, hstM, habM⟩ := Cond.instanceMethod_spec hinst
  obtain ⟨m8, methM', cM, hn8, hmethM', -, -, -, -, -, -, hsigM⟩ := Cond.codeWith_spec hcode
  cases Option.some.inj (hn8.symm.trans hnamed)
  cases hmethM.symm.trans hmethM'
  obtain ⟨c2, r2, m2, q1, q2, q3, q4, kP, hkP, hkPi⟩ := Cond.selects_spec hsel
  cases hcls.symm.trans q1
  cases (State.methodFound?_of_named hnamed hy).symm.trans q2
  cases hnamed.symm.trans q3
  have hselP : selectMethod e.platform s.vm cellB.cls mk = .method mk := by rw [Launch.admits_selectMethod X.admits]; exact q4
  obtain ⟨vm₁, X₁, hstep₁⟩ := X.invokevirtual hexec hown hlink hnamed hmethM hstM hkP hkPi hy (a := b) (cell := cellB) hcell
    (fun z h => by rw [h] at hobj; cases hobj) hselP hmethM habM hkP hkPi (g := g) hg (argsL := argsL) (rest := rest) (hlen _ hsigM) hstack hdg
  obtain ⟨v, B, X', hpost, hsteps⟩ := hK m meth c ⟨T.setVm vm₁, locs, cells, slots⟩ { g with stack := rest } (.invokevirtual index) mk (Value.ref b :: argsL).toArray X₁ hg hsize hdg hW (X₁.named hnamed) (hpre vm₁ X₁.warmed)
  exact ⟨v, vm₁, B, X₁.warmed, X', hpost, fun target h => hstep₁ _ fun acts => by rw [doInvoke_state]; exact hsteps.trans h⟩
abbrev vx_CVW (R : Room) (s : State) (args : Array Value) (own C : String) (index : Nat) (y : MethodName) (bytes : ByteArray) (maxL : Nat) (ret : Option FieldType) (hh : List (Nat × Nat × Nat × Nat)) (ws : List Cond) (rm : Room) (mc ms n : Nat) : Prop :=
  (rm.cells = mc ∧ rm.slots = ms ∧ rm.frames + 1 ≤ R.frames ∧ 8 + (maxL + 11) + rm.locals ≤ R.locals ∧ (∀ w ∈ ws, ∀ (a' : Array Value) (U : State), s.WarmedH U.vm → w.before a' U = true) ∧ Cond.codeWith y bytes maxL ret hh ∈ ws) ∧
  (Cond.codeWith y bytes maxL ret hh).before args s = true ∧ (Cond.initialized y.cls).before args s = true ∧ (y.cls ≠ "java/lang/invoke/MethodHandle" ∧ y.cls ≠ "java/lang/invoke/VarHandle") ∧
  (∀ sig, parseMethodDescriptor y.desc = some sig → n = sig.parameters.length) ∧ (Cond.methodLink own index y).before args s = true ∧ (Cond.instanceMethod y).before args s = true ∧ (Cond.selects C y y).before args s = true
theorem vx_cwVW {own C : String} {index maxL mc ms : Nat} {y : MethodName} {bytes : ByteArray} {ret : Option FieldType} {hh : List (Nat × Nat × Nat × Nat)} {Ts ws ws' : List Cond} {rm : Room} (n : Nat) (ht : ∀ w ∈ Ts, w.before args s = true) (hT : GoodIn Ts (wsV own index C y ws)) (hw : ws = Cond.codeWith y bytes maxL ret hh :: ws') (hrc : rm.cells = mc) (hrs : rm.slots = ms)
    (hd : y.cls = C ∧ y.cls ≠ "java/lang/invoke/MethodHandle" ∧ y.cls ≠ "java/lang/invoke/VarHandle" ∧ (parseMethodDescriptor y.desc).map (fun d => d.parameters.length) = some n) (hR : rm.frames + 1 ≤ R.frames ∧ 8 + (maxL + 11) + rm.locals ≤ R.locals) :
    vx_CVW R s args own C index y bytes maxL ret hh ws rm mc ms n := by
  obtain ⟨hC, hd⟩ := hd
  subst hC
  have ok : ∀ w ∈ wsV own index y.cls y ws, w.before args s = true := fun w h => ht w (hT w h).1
  have hG : GoodIn Ts ws := fun w h => hT w (by unfold wsV; exact List.mem_append_right _ h)
  have hc : Cond.codeWith y bytes maxL ret hh ∈ ws := by rw [hw]; exact List.mem_cons_self
  refine ⟨⟨hrc, hrs, hR.1, hR.2, pay_in ht hG, hc⟩, ht _ (hG _ hc).1, ok _ (by simp [wsV]), ⟨hd.1, hd.2.1⟩, fun sig h => ?_, ok _ (by simp [wsV]), ok _ (by simp [wsV]), ok _ (by simp [wsV])⟩
  have h2 := hd.2.2
  rw [h] at h2
  exact (Option.some.inj h2).symm
theorem vx_runVW {y : MethodName} {bytes cc : ByteArray} {maxL nL mc ms n index : Nat} {ret : Option FieldType} {hh : List (Nat × Nat × Nat × Nat)} {ws : List Cond} {rm : Room} {Pc : Array Value → State → Prop} {Qc : Array Value → State → Outcome → State → Prop} {free : Addr → Prop} {Ts : List Cond} {own C : String} {b : Addr} {As rest : List Value} {g : JFrame}
    (S : CallFix p m c cc nL s args Ts own) (hM : Met l y ws rm Pc Qc mc ms free) (cw : vx_CVW R s args own C index y bytes maxL ret hh ws rm mc ms n) (hp : PreV s H C b Pc As)
    (hg : g.method = m) (hn : As.length = n) (hsize : g.locals.size = nL) (hstack : g.stack = As.reverse ++ .ref b :: rest) (hW : 2 * g.monitorRoom + (rest.map fun v => v.category).sum ≤ 8) (hdg : decode cc g.pc = .ok (.invokevirtual index, 3)) (hf : cells + mc ≤ R.cells ∧ slots + ms ≤ R.slots) :
    va_Run p l e R s m args below meth c H locs cells slots mc ms g rest (Qc (Value.ref b :: As).toArray) free := by
  obtain ⟨⟨hrc, hrs, hfr, hlo, hws, hcw⟩, hcode, hini, hy, hlen, hl, hin, hse⟩ := cw
  have hK : Back l R p e below s args y 3 8 (PreOf R mc ms Pc) (PostOf Qc mc ms free) := va_backW (hh := hh) (bytes := bytes) (maxL := maxL) (ret := ret) hM hp.1 hrc hrs hfr hlo hws hcw (fun a' U hW => word_at hW (Or.inl (by first | rfl | simp [Cond.onTables, Cond.keeps, Cond.steady])) hini)
  obtain ⟨hx, hb, hml, ho, -⟩ := S
  obtain ⟨-, ⟨cellB, hcB, hoB, hclB⟩, hPc⟩ := hp
  intro T hT X
  obtain ⟨v, vm₁, ⟨U', l2, c2, s2⟩, hW₁, X', ⟨g', mk, t, L, e1, e2, hq, h1, hL, h2, h3⟩, st⟩ := vx_callVW X hx (C := C) (hh := hh) (bytes := bytes) (maxL := maxL) (ret := ret) ho hl hin hse hcode hy hK (by rw [hT]; exact hcB) hoB hclB hg (hsize.trans hml.symm) (argsL := As) (rest := rest) (fun sig h => hn.trans (hlen sig h)) hstack hW (by rw [hb]; exact hdg)
    (fun vm₁ hW₁ => ⟨hf.1, hf.2, hPc (T.setVm vm₁) hT hW₁⟩)
  dsimp only [Pt.U, Pt.locs, Pt.cells, Pt.slots] at X' e1 e2 h1 h2 h3 st
  subst h1; subst h2; subst h3
  exact ⟨v, (T.setVm vm₁).calling g' mk (Value.ref b :: As).toArray, t, U', L, hT, X', hL, e1, e2, hq, st⟩
section
variable {y : MethodName} {bytes cc : ByteArray} {maxL nL mc ms n index : Nat} {ret : Option FieldType} {ws : List Cond} {rm : Room} {Pc : Array Value → State → Prop} {Qc : Array Value → State → Outcome → State → Prop} {XC : String → State → State → Prop} {free : Addr → Prop} {Ts : List Cond} {own C : String} {b : Addr} {As rest : List Value} {g : JFrame}
theorem vx_runVX {hh : List (Nat × Nat × Nat × Nat)} (S : CallFix p m c cc nL s args Ts own) (hM : vx_Met l y ws rm Pc Qc XC mc ms free) (cw : vx_CVW R s args own C index y bytes maxL ret hh ws rm mc ms n) (hp : PreV s H C b Pc As)
    (hg : g.method = m) (hn : As.length = n) (hsize : g.locals.size = nL) (hstack : g.stack = As.reverse ++ .ref b :: rest) (hW : 2 * g.monitorRoom + (rest.map fun v => v.category).sum ≤ 8) (hdg : decode cc g.pc = .ok (.invokevirtual index, 3)) (hf : cells + mc ≤ R.cells ∧ slots + ms ≤ R.slots) :
    vx_Run p l e R s m args below meth c H locs cells slots mc ms g rest (Qc (Value.ref b :: As).toArray) XC free := by
  obtain ⟨⟨hrc, hrs, hfr, hlo, hws, hcw⟩, hcode, hini, hy, hlen, hl, hin, hse⟩ := cw
  have hK : vx_Back l R p e below s args y 3 8 (PreOf R mc ms Pc) (PostOf Qc mc ms free) (vx_Post XC mc ms free) := vx_backW (hh := hh) (bytes := bytes) (maxL := maxL) (ret := ret) hM hp.1 hrc hrs hfr hlo hws hcw (fun a' U hW => word_at hW (Or.inl (by first | rfl | simp [Cond.onTables, Cond.keeps, Cond.steady])) hini)
  obtain ⟨hx, hb, hml, ho, -⟩ := S
  obtain ⟨-, ⟨cellB, hcB, hoB, hclB⟩, hPc⟩ := hp
  intro T hT X
  rcases vx_callVX X hx (C := C) (hh := hh) (bytes := bytes) (maxL := maxL) (ret := ret) ho hl hin hse hcode hy hK (by rw [hT]; exact hcB) hoB hclB hg (hsize.trans hml.symm) (argsL := As) (rest := rest) (fun sig h => hn.trans (hlen sig h)) hstack hW (by rw [hb]; exact hdg)
    (fun vm₁ hW₁ => ⟨hf.1, hf.2, hPc (T.setVm vm₁) hT hW₁⟩) with ⟨v, vm₁, ⟨U', l2, c2, s2⟩, hW₁, X', ⟨g', mk, t, L, e1, e2, hq, h1, hL, h2, h3⟩, st⟩ | ⟨q, vm₁, ⟨U', l2, c2, s2⟩, hW₁, X', ⟨g', mk, t, L, E, ce, e1, e2, hq, hce, hcv, hcl, h1, hL, h2, h3⟩, st⟩
  · dsimp only [Pt.U, Pt.locs, Pt.cells, Pt.slots] at X' e1 e2 h1 h2 h3 st
    subst h1; subst h2; subst h3
    exact Or.inl ⟨v, (T.setVm vm₁).calling g' mk (Value.ref b :: As).toArray, t, U', L, hT, X', hL, e1, e2, hq, st⟩
  · dsimp only [Pt.U, Pt.locs, Pt.cells, Pt.slots] at X' e1 e2 h1 h2 h3 st hcl
    subst h1; subst h2; subst h3
    exact Or.inr ⟨q, (T.setVm vm₁).calling g' mk (Value.ref b :: As).toArray, t, U', L, E, ce, hT, X', hL, e1, e2, hq, hce, hcv, vx_cls hW₁ hcl, st⟩
theorem vx_runSX {hh : List (Nat × Nat × Nat × Nat)} (S : CallFix p m c cc nL s args Ts own) (hM : vx_Met l y ws rm Pc Qc XC mc ms free) (cw : vx_CSW R s args own index y bytes maxL ret hh ws rm mc ms n) (hp : PreS s H Pc As)
    (hg : g.method = m) (hn : As.length = n) (hsize : g.locals.size = nL) (hstack : g.stack = As.reverse ++ rest) (hW : 2 * g.monitorRoom + (rest.map fun v => v.category).sum ≤ 8) (hdg : decode cc g.pc = .ok (.invokestatic index, 3)) (hf : cells + mc ≤ R.cells ∧ slots + ms ≤ R.slots) :
    vx_Run p l e R s m args below meth c H locs cells slots mc ms g rest (Qc As.toArray) XC free := by
  obtain ⟨⟨hrc, hrs, hfr, hlo, hws, hcw⟩, hcode, hini, hy, hlen, hl, hstt⟩ := cw
  have hK : vx_Back l R p e below s args y 3 8 (PreOf R mc ms Pc) (PostOf Qc mc ms free) (vx_Post XC mc ms free) := vx_backW (hh := hh) (bytes := bytes) (maxL := maxL) (ret := ret) hM hp.1 hrc hrs hfr hlo hws hcw (fun a' U hW => word_at hW (Or.inl (by first | rfl | simp [Cond.onTables, Cond.keeps, Cond.steady])) hini)
  obtain ⟨hx, hb, hml, ho, -⟩ := S
  intro T hT X
  rcases vx_callSX X hx (hh := hh) (bytes := bytes) (maxL := maxL) (ret := ret) ho hl hstt hini hcode hy hK hg (hsize.trans hml.symm) (argsL := As) (rest := rest) (fun sig h => hn.trans (hlen sig h)) hstack hW (by rw [hb]; exact hdg)
    (fun vm₁ hW₁ => ⟨hf.1, hf.2, hp.2 (T.setVm vm₁) hT hW₁⟩) with ⟨v, vm₁, ⟨U', l2, c2, s2⟩, hW₁, X', ⟨g', mk, t, L, e1, e2, hq, h1, hL, h2, h3⟩, st⟩ | ⟨q, vm₁, ⟨U', l2, c2, s2⟩, hW₁, X', ⟨g', mk, t, L, E, ce, e1, e2, hq, hce, hcv, hcl, h1, hL, h2, h3⟩, st⟩
  · dsimp only [Pt.U, Pt.locs, Pt.cells, Pt.slots] at X' e1 e2 h1 h2 h3 st
    subst h1; subst h2; subst h3
    exact Or.inl ⟨v, (T.setVm vm₁).calling g' mk As.toArray, t, U', L, hT, X', hL, e1, e2, hq, st⟩
  · dsimp only [Pt.U, Pt.locs, Pt.cells, Pt.slots] at X' e1 e2 h1 h2 h3 st hcl
    subst h1; subst h2; subst h3
    exact Or.inr ⟨q, (T.setVm vm₁).calling g' mk As.toArray, t, U', L, E, ce, hT, X', hL, e1, e2, hq, hce, hcv, vx_cls hW₁ hcl, st⟩
end
end VXH
theorem vx_ofWH {l : Launch} {y : MethodName} {ws ws' : List Cond} {rm : Room} {Pc : Array Value → State → Prop} {Qc : Array Value → State → Outcome → State → Prop} {XC : String → State → State → Prop} {mc ms : Nat} {free : Addr → Prop} {cc : ByteArray} {maxL : Nat} {ret : Option FieldType} {hh : List (Nat × Nat × Nat × Nat)}
    (hy : plainName y.cls = true) (hw : ws = Cond.codeWith y cc maxL ret hh :: ws')
    (body : ∀ p e s m args below meth c s₁, BodyLoose p l y (headSpec ws rm) cc maxL ret e s m args below meth c s₁ → c.maxLocals = maxL → Pc args s →
      W p l e (headSpec ws rm).room s m args below meth c s.heap [] 0 0 (vx_MQ below Qc XC args s mc ms free) (entryFrame m args maxL)) : vx_Met l y ws rm Pc Qc XC mc ms free := by
  refine MetFree.of_bodyS (code := cc) (maxLocals := maxL) (ret := ret) hy ?_ ?_
  · intro args s m h hn
    obtain ⟨m9, meth, c, hn9, h1, h2, h3, h4, -, h5, h6, -⟩ := Cond.codeWith_spec (atoms_spec (ws := ws) h _ (by rw [hw]; exact List.mem_cons_self))
    cases hn.symm.trans hn9
    exact ⟨meth, c, h1, h2, h3, h4, h5, h6⟩
  · intro p e s m args below meth c s₁ B hml hP _
    have hh0 : s₁.heap = s.heap := by rw [B.state]; rfl
    obtain ⟨t, a1, o, b1, b2, b3⟩ := body p e s m args below meth c s₁ B hml hP s₁ hh0 (Stand.of_body B)
    exact ⟨t, o, a1, b1, b2, b3⟩
/-! ===== END ===== -/
end
section
def RX0 : String := "KitePainter$Bleeding"
def TX0 : u_T := fun k => match k with
  | 0 => ("KitePainter$Bleeding", "nextColours", "[I", true)
  | _ => ("KitePainter$Bleeding", "nextWetness", "[I", true)
def tyX0 : Nat → FieldType := fun k => match k with
  | 0 => .array .int
  | _ => .array .int
abbrev wsX00 : List Cond := u_ws RX0 TX0 2
theorem nmX0 : ∀ a, a < 2 → ∀ b, b < 2 → a ≠ b → (TX0 a).2.1 ≠ (TX0 b).2.1 := by decide +kernel
theorem tyX0_ok : ∀ k, k < 2 → parseFieldDescriptor (TX0 k).2.2.1 = some (tyX0 k) := by decide +kernel
abbrev cX0_init : ByteArray := prog_2_method_1_code
def yX0_init : MethodName := ⟨RX0, "<init>", "()V"⟩
abbrev cX0_letPass : ByteArray := prog_2_method_2_code
def yX0_letPass : MethodName := ⟨RX0, "letPass", "(LKitePainter$Sail;I)I"⟩
abbrev cX0_bleedOnce : ByteArray := prog_2_method_3_code
def yX0_bleedOnce : MethodName := ⟨RX0, "bleedOnce", "(LKitePainter$Sail;)I"⟩
abbrev cX0_bleedInto : ByteArray := prog_2_method_4_code
def yX0_bleedInto : MethodName := ⟨RX0, "bleedInto", "(LKitePainter$Sail;II)V"⟩
abbrev cX0_dryOnce : ByteArray := prog_2_method_5_code
def yX0_dryOnce : MethodName := ⟨RX0, "dryOnce", "(LKitePainter$Sail;)V"⟩
def RX1 : String := "KitePainter$History"
def TX1 : u_T := fun k => match k with
  | 0 => ("KitePainter$History", "sails", "[LKitePainter$Sail;", true)
  | 1 => ("KitePainter$History", "newest", "I", false)
  | _ => ("KitePainter$History", "kept", "I", false)
def tyX1 : Nat → FieldType := fun k => match k with
  | 0 => .array (.object "KitePainter$Sail")
  | 1 => .int
  | _ => .int
abbrev wsX10 : List Cond := u_ws RX1 TX1 3
theorem nmX1 : ∀ a, a < 3 → ∀ b, b < 3 → a ≠ b → (TX1 a).2.1 ≠ (TX1 b).2.1 := by decide +kernel
theorem tyX1_ok : ∀ k, k < 3 → parseFieldDescriptor (TX1 k).2.2.1 = some (tyX1 k) := by decide +kernel
abbrev cX1_init : ByteArray := prog_3_method_1_code
def yX1_init : MethodName := ⟨RX1, "<init>", "()V"⟩
abbrev cX1_keep : ByteArray := prog_3_method_2_code
def yX1_keep : MethodName := ⟨RX1, "keep", "(LKitePainter$Sail;)V"⟩
abbrev cX1_takeBack : ByteArray := prog_3_method_3_code
def yX1_takeBack : MethodName := ⟨RX1, "takeBack", "(LKitePainter$Sail;)V"⟩
def RX2 : String := "KitePainter$RegionFinder"
def TX2 : u_T := fun k => match k with
  | 0 => ("KitePainter$RegionFinder", "seen", "[I", true)
  | 1 => ("KitePainter$RegionFinder", "foundX", "[I", true)
  | 2 => ("KitePainter$RegionFinder", "foundY", "[I", true)
  | _ => ("KitePainter$RegionFinder", "found", "I", false)
def tyX2 : Nat → FieldType := fun k => match k with
  | 0 => .array .int
  | 1 => .array .int
  | 2 => .array .int
  | _ => .int
abbrev wsX20 : List Cond := u_ws RX2 TX2 4
theorem nmX2 : ∀ a, a < 4 → ∀ b, b < 4 → a ≠ b → (TX2 a).2.1 ≠ (TX2 b).2.1 := by decide +kernel
theorem tyX2_ok : ∀ k, k < 4 → parseFieldDescriptor (TX2 k).2.2.1 = some (tyX2 k) := by decide +kernel
abbrev cX2_init : ByteArray := prog_4_method_1_code
def yX2_init : MethodName := ⟨RX2, "<init>", "()V"⟩
abbrev cX2_ofColour : ByteArray := prog_4_method_2_code
def yX2_ofColour : MethodName := ⟨RX2, "ofColour", "(LKitePainter$Sail;I)I"⟩
abbrev cX2_fillFrom : ByteArray := prog_4_method_3_code
def yX2_fillFrom : MethodName := ⟨RX2, "fillFrom", "(LKitePainter$Sail;II)I"⟩
abbrev cX2_makeFoundBare : ByteArray := prog_4_method_4_code
def yX2_makeFoundBare : MethodName := ⟨RX2, "makeFoundBare", "(LKitePainter$Sail;)V"⟩
abbrev cX2_spread : ByteArray := prog_4_method_5_code
def yX2_spread : MethodName := ⟨RX2, "spread", "(LKitePainter$Sail;II)V"⟩
abbrev cX2_visit : ByteArray := prog_4_method_6_code
def yX2_visit : MethodName := ⟨RX2, "visit", "(LKitePainter$Sail;III)V"⟩
def RX3 : String := "KitePainter$Sail"
def TX3 : u_T := fun k => match k with
  | 0 => ("KitePainter$Sail", "width", "I", false)
  | 1 => ("KitePainter$Sail", "height", "I", false)
  | 2 => ("KitePainter$Sail", "time", "I", false)
  | 3 => ("KitePainter$Sail", "cloth", "I", false)
  | 4 => ("KitePainter$Sail", "wood", "I", false)
  | 5 => ("KitePainter$Sail", "patterns", "I", false)
  | 6 => ("KitePainter$Sail", "reaches", "[I", true)
  | 7 => ("KitePainter$Sail", "colourWeights", "[I", true)
  | 8 => ("KitePainter$Sail", "mixes", "[I", true)
  | 9 => ("KitePainter$Sail", "patternLines", "[I", true)
  | 10 => ("KitePainter$Sail", "patternDigits", "[I", true)
  | 11 => ("KitePainter$Sail", "patternColours", "[I", true)
  | 12 => ("KitePainter$Sail", "colours", "[I", true)
  | 13 => ("KitePainter$Sail", "wetness", "[I", true)
  | _ => ("KitePainter$Sail", "spars", "[I", true)
def tyX3 : Nat → FieldType := fun k => match k with
  | 0 => .int
  | 1 => .int
  | 2 => .int
  | 3 => .int
  | 4 => .int
  | 5 => .int
  | 6 => .array .int
  | 7 => .array .int
  | 8 => .array .int
  | 9 => .array .int
  | 10 => .array .int
  | 11 => .array .int
  | 12 => .array .int
  | 13 => .array .int
  | _ => .array .int
abbrev wsX30 : List Cond := u_ws RX3 TX3 15
theorem nmX3 : ∀ a, a < 15 → ∀ b, b < 15 → a ≠ b → (TX3 a).2.1 ≠ (TX3 b).2.1 := by decide +kernel
theorem tyX3_ok : ∀ k, k < 15 → parseFieldDescriptor (TX3 k).2.2.1 = some (tyX3 k) := by decide +kernel
abbrev cX3_init : ByteArray := prog_5_method_1_code
def yX3_init : MethodName := ⟨RX3, "<init>", "()V"⟩
abbrev cX3_beginAnew : ByteArray := prog_5_method_2_code
def yX3_beginAnew : MethodName := ⟨RX3, "beginAnew", "(II)V"⟩
abbrev cX3_copyFrom : ByteArray := prog_5_method_3_code
def yX3_copyFrom : MethodName := ⟨RX3, "copyFrom", "(LKitePainter$Sail;)V"⟩
abbrev cX3_middle : ByteArray := prog_5_method_4_code
def yX3_middle : MethodName := ⟨RX3, "middle", "()I"⟩
abbrev cX3_firstX : ByteArray := prog_5_method_5_code
def yX3_firstX : MethodName := ⟨RX3, "firstX", "(I)I"⟩
abbrev cX3_lastX : ByteArray := prog_5_method_6_code
def yX3_lastX : MethodName := ⟨RX3, "lastX", "(I)I"⟩
abbrev cX3_holds : ByteArray := prog_5_method_7_code
def yX3_holds : MethodName := ⟨RX3, "holds", "(II)Z"⟩
abbrev cX3_numberOf : ByteArray := prog_5_method_8_code
def yX3_numberOf : MethodName := ⟨RX3, "numberOf", "(II)I"⟩
abbrev cX3_mirrorX : ByteArray := prog_5_method_9_code
def yX3_mirrorX : MethodName := ⟨RX3, "mirrorX", "(I)I"⟩
abbrev cX3_sideOf : ByteArray := prog_5_method_10_code
def yX3_sideOf : MethodName := ⟨RX3, "sideOf", "(I)I"⟩
abbrev cX3_mixOf : ByteArray := prog_5_method_11_code
def yX3_mixOf : MethodName := ⟨RX3, "mixOf", "(II)I"⟩
abbrev cX3_toldMix : ByteArray := prog_5_method_12_code
def yX3_toldMix : MethodName := ⟨RX3, "toldMix", "(II)I"⟩
abbrev cX3_tellMix : ByteArray := prog_5_method_13_code
def yX3_tellMix : MethodName := ⟨RX3, "tellMix", "(III)V"⟩
abbrev cX3_allCells : ByteArray := prog_5_method_14_code
def yX3_allCells : MethodName := ⟨RX3, "allCells", "()I"⟩
abbrev cX3_cellsWithSpars : ByteArray := prog_5_method_15_code
def yX3_cellsWithSpars : MethodName := ⟨RX3, "cellsWithSpars", "()I"⟩
abbrev cX3_cellsOfColour : ByteArray := prog_5_method_16_code
def yX3_cellsOfColour : MethodName := ⟨RX3, "cellsOfColour", "(I)I"⟩
abbrev cX3_cellsOfOtherColour : ByteArray := prog_5_method_17_code
def yX3_cellsOfOtherColour : MethodName := ⟨RX3, "cellsOfOtherColour", "(LKitePainter$Sail;)I"⟩
abbrev cX3_wetCells : ByteArray := prog_5_method_18_code
def yX3_wetCells : MethodName := ⟨RX3, "wetCells", "()I"⟩
abbrev cX3_greatestWetness : ByteArray := prog_5_method_19_code
def yX3_greatestWetness : MethodName := ⟨RX3, "greatestWetness", "()I"⟩
abbrev cX3_unlikePairs : ByteArray := prog_5_method_20_code
def yX3_unlikePairs : MethodName := ⟨RX3, "unlikePairs", "()I"⟩
abbrev cX3_weightAt : ByteArray := prog_5_method_21_code
def yX3_weightAt : MethodName := ⟨RX3, "weightAt", "(I)I"⟩
abbrev cX3_weightOfSide : ByteArray := prog_5_method_22_code
def yX3_weightOfSide : MethodName := ⟨RX3, "weightOfSide", "(I)I"⟩
abbrev cX3_leftWeight : ByteArray := prog_5_method_23_code
def yX3_leftWeight : MethodName := ⟨RX3, "leftWeight", "()I"⟩
abbrev cX3_rightWeight : ByteArray := prog_5_method_24_code
def yX3_rightWeight : MethodName := ⟨RX3, "rightWeight", "()I"⟩
abbrev cX3_wholeWeight : ByteArray := prog_5_method_25_code
def yX3_wholeWeight : MethodName := ⟨RX3, "wholeWeight", "()I"⟩
abbrev cX3_balance : ByteArray := prog_5_method_26_code
def yX3_balance : MethodName := ⟨RX3, "balance", "()I"⟩
abbrev cX3_patternColour : ByteArray := prog_5_method_27_code
def yX3_patternColour : MethodName := ⟨RX3, "patternColour", "(III)I"⟩
abbrev cX3_setPatternColour : ByteArray := prog_5_method_28_code
def yX3_setPatternColour : MethodName := ⟨RX3, "setPatternColour", "(IIII)V"⟩
abbrev cX3_paintingDigits : ByteArray := prog_5_method_29_code
def yX3_paintingDigits : MethodName := ⟨RX3, "paintingDigits", "(I)I"⟩
abbrev cX3_putColour : ByteArray := prog_5_method_30_code
def yX3_putColour : MethodName := ⟨RX3, "putColour", "(IIIIZ)V"⟩
abbrev cX3_setCell : ByteArray := prog_5_method_31_code
def yX3_setCell : MethodName := ⟨RX3, "setCell", "(III)V"⟩
abbrev cX3_sourceOf : ByteArray := prog_5_method_32_code
def yX3_sourceOf : MethodName := ⟨RX3, "sourceOf", "(II)I"⟩
abbrev cX3_isAhead : ByteArray := prog_5_method_33_code
def yX3_isAhead : MethodName := ⟨RX3, "isAhead", "(II)Z"⟩
def RX4 : String := "KitePainter$SetupReader"
def TX4 : u_T := fun k => match k with
  | 0 => ("KitePainter$SetupReader", "text", "[B", true)
  | 1 => ("KitePainter$SetupReader", "filled", "I", false)
  | 2 => ("KitePainter$SetupReader", "length", "I", false)
  | 3 => ("KitePainter$SetupReader", "kind", "I", false)
  | 4 => ("KitePainter$SetupReader", "start", "I", false)
  | 5 => ("KitePainter$SetupReader", "end", "I", false)
  | 6 => ("KitePainter$SetupReader", "error", "I", false)
  | 7 => ("KitePainter$SetupReader", "errorAt", "I", false)
  | 8 => ("KitePainter$SetupReader", "numberAt", "I", false)
  | 9 => ("KitePainter$SetupReader", "hasReach", "Z", false)
  | 10 => ("KitePainter$SetupReader", "hasCloth", "Z", false)
  | 11 => ("KitePainter$SetupReader", "hasWood", "Z", false)
  | _ => ("KitePainter$SetupReader", "hasSpar", "Z", false)
def tyX4 : Nat → FieldType := fun k => match k with
  | 0 => .array .byte
  | 1 => .int
  | 2 => .int
  | 3 => .int
  | 4 => .int
  | 5 => .int
  | 6 => .int
  | 7 => .int
  | 8 => .int
  | 9 => .boolean
  | 10 => .boolean
  | 11 => .boolean
  | _ => .boolean
abbrev wsX40 : List Cond := u_ws RX4 TX4 13
theorem nmX4 : ∀ a, a < 13 → ∀ b, b < 13 → a ≠ b → (TX4 a).2.1 ≠ (TX4 b).2.1 := by decide +kernel
theorem tyX4_ok : ∀ k, k < 13 → parseFieldDescriptor (TX4 k).2.2.1 = some (tyX4 k) := by decide +kernel
abbrev cX4_init : ByteArray := prog_6_method_1_code
def yX4_init : MethodName := ⟨RX4, "<init>", "()V"⟩
abbrev cX4_putFourBytes : ByteArray := prog_6_method_2_code
def yX4_putFourBytes : MethodName := ⟨RX4, "putFourBytes", "(I)V"⟩
abbrev cX4_readSetup : ByteArray := prog_6_method_3_code
def yX4_readSetup : MethodName := ⟨RX4, "readSetup", "(ILKitePainter$Sail;)I"⟩
abbrev cX4_goOn : ByteArray := prog_6_method_4_code
def yX4_goOn : MethodName := ⟨RX4, "goOn", "()V"⟩
abbrev cX4_isDigit : ByteArray := prog_6_method_5_code
def yX4_isDigit : MethodName := ⟨RX4, "isDigit", "(I)Z"⟩
abbrev cX4_isLetter : ByteArray := prog_6_method_6_code
def yX4_isLetter : MethodName := ⟨RX4, "isLetter", "(I)Z"⟩
abbrev cX4_digitAt : ByteArray := prog_6_method_7_code
def yX4_digitAt : MethodName := ⟨RX4, "digitAt", "(I)I"⟩
abbrev cX4_isWord : ByteArray := prog_6_method_8_code
def yX4_isWord : MethodName := ⟨RX4, "isWord", "(Ljava/lang/String;)Z"⟩
abbrev cX4_fail : ByteArray := prog_6_method_9_code
def yX4_fail : MethodName := ⟨RX4, "fail", "(II)V"⟩
abbrev cX4_readWord : ByteArray := prog_6_method_10_code
def yX4_readWord : MethodName := ⟨RX4, "readWord", "(Ljava/lang/String;)V"⟩
abbrev cX4_readSemicolon : ByteArray := prog_6_method_11_code
def yX4_readSemicolon : MethodName := ⟨RX4, "readSemicolon", "()V"⟩
abbrev cX4_readNumber : ByteArray := prog_6_method_12_code
def yX4_readNumber : MethodName := ⟨RX4, "readNumber", "(II)I"⟩
abbrev cX4_valueUpTo : ByteArray := prog_6_method_13_code
def yX4_valueUpTo : MethodName := ⟨RX4, "valueUpTo", "(I)I"⟩
abbrev cX4_readKite : ByteArray := prog_6_method_14_code
def yX4_readKite : MethodName := ⟨RX4, "readKite", "(LKitePainter$Sail;)V"⟩
abbrev cX4_readStatement : ByteArray := prog_6_method_15_code
def yX4_readStatement : MethodName := ⟨RX4, "readStatement", "(LKitePainter$Sail;)V"⟩
abbrev cX4_refuseIf : ByteArray := prog_6_method_16_code
def yX4_refuseIf : MethodName := ⟨RX4, "refuseIf", "(Z)V"⟩
abbrev cX4_readReach : ByteArray := prog_6_method_17_code
def yX4_readReach : MethodName := ⟨RX4, "readReach", "(LKitePainter$Sail;)V"⟩
abbrev cX4_readMix : ByteArray := prog_6_method_18_code
def yX4_readMix : MethodName := ⟨RX4, "readMix", "(LKitePainter$Sail;)V"⟩
abbrev cX4_readSpar : ByteArray := prog_6_method_19_code
def yX4_readSpar : MethodName := ⟨RX4, "readSpar", "(LKitePainter$Sail;)V"⟩
abbrev cX4_readPattern : ByteArray := prog_6_method_20_code
def yX4_readPattern : MethodName := ⟨RX4, "readPattern", "(LKitePainter$Sail;)V"⟩
abbrev cX4_checkLine : ByteArray := prog_6_method_21_code
def yX4_checkLine : MethodName := ⟨RX4, "checkLine", "(LKitePainter$Sail;II)V"⟩
abbrev cX4_takeLine : ByteArray := prog_6_method_22_code
def yX4_takeLine : MethodName := ⟨RX4, "takeLine", "(LKitePainter$Sail;II)V"⟩
def RX5 : String := "KitePainter"
def TX5 : u_T := fun k => match k with
  | 0 => ("KitePainter", "sail", "LKitePainter$Sail;", true)
  | 1 => ("KitePainter", "spare", "LKitePainter$Sail;", true)
  | 2 => ("KitePainter", "history", "LKitePainter$History;", true)
  | 3 => ("KitePainter", "bleeding", "LKitePainter$Bleeding;", true)
  | 4 => ("KitePainter", "finder", "LKitePainter$RegionFinder;", true)
  | 5 => ("KitePainter", "reader", "LKitePainter$SetupReader;", true)
  | _ => ("KitePainter", "latestErrorAt", "I", false)
def tyX5 : Nat → FieldType := fun k => match k with
  | 0 => .object "KitePainter$Sail"
  | 1 => .object "KitePainter$Sail"
  | 2 => .object "KitePainter$History"
  | 3 => .object "KitePainter$Bleeding"
  | 4 => .object "KitePainter$RegionFinder"
  | 5 => .object "KitePainter$SetupReader"
  | _ => .int
abbrev wsX50 : List Cond := u_ws RX5 TX5 7
theorem nmX5 : ∀ a, a < 7 → ∀ b, b < 7 → a ≠ b → (TX5 a).2.1 ≠ (TX5 b).2.1 := by decide +kernel
theorem tyX5_ok : ∀ k, k < 7 → parseFieldDescriptor (TX5 k).2.2.1 = some (tyX5 k) := by decide +kernel
abbrev cX5_init : ByteArray := prog_1_method_1_code
def yX5_init : MethodName := ⟨RX5, "<init>", "()V"⟩
abbrev cX5_append : ByteArray := prog_1_method_2_code
def yX5_append : MethodName := ⟨RX5, "append", "(IIIII)I"⟩
abbrev cX5_load : ByteArray := prog_1_method_3_code
def yX5_load : MethodName := ⟨RX5, "load", "(I)I"⟩
abbrev cX5_errorOffset : ByteArray := prog_1_method_4_code
def yX5_errorOffset : MethodName := ⟨RX5, "errorOffset", "()I"⟩
abbrev cX5_state : ByteArray := prog_1_method_5_code
def yX5_state : MethodName := ⟨RX5, "state", "(I)I"⟩
abbrev cX5_cell : ByteArray := prog_1_method_6_code
def yX5_cell : MethodName := ⟨RX5, "cell", "(III)I"⟩
abbrev cX5_mix : ByteArray := prog_1_method_7_code
def yX5_mix : MethodName := ⟨RX5, "mix", "(II)I"⟩
abbrev cX5_count : ByteArray := prog_1_method_8_code
def yX5_count : MethodName := ⟨RX5, "count", "(I)I"⟩
abbrev cX5_unlike : ByteArray := prog_1_method_9_code
def yX5_unlike : MethodName := ⟨RX5, "unlike", "()I"⟩
abbrev cX5_region : ByteArray := prog_1_method_10_code
def yX5_region : MethodName := ⟨RX5, "region", "(II)I"⟩
abbrev cX5_regions : ByteArray := prog_1_method_11_code
def yX5_regions : MethodName := ⟨RX5, "regions", "(I)I"⟩
abbrev cX5_bleeds : ByteArray := prog_1_method_12_code
def yX5_bleeds : MethodName := ⟨RX5, "bleeds", "(II)I"⟩
abbrev cX5_driesIn : ByteArray := prog_1_method_13_code
def yX5_driesIn : MethodName := ⟨RX5, "driesIn", "()I"⟩
abbrev cX5_foretold : ByteArray := prog_1_method_14_code
def yX5_foretold : MethodName := ⟨RX5, "foretold", "(II)I"⟩
abbrev cX5_evens : ByteArray := prog_1_method_15_code
def yX5_evens : MethodName := ⟨RX5, "evens", "(I)I"⟩
abbrev cX5_pattern : ByteArray := prog_1_method_16_code
def yX5_pattern : MethodName := ⟨RX5, "pattern", "(II)I"⟩
abbrev cX5_covered : ByteArray := prog_1_method_17_code
def yX5_covered : MethodName := ⟨RX5, "covered", "()F"⟩
abbrev cX5_pass : ByteArray := prog_1_method_18_code
def yX5_pass : MethodName := ⟨RX5, "pass", "(I)I"⟩
abbrev cX5_paint : ByteArray := prog_1_method_19_code
def yX5_paint : MethodName := ⟨RX5, "paint", "(IIIIZ)I"⟩
abbrev cX5_stroke : ByteArray := prog_1_method_20_code
def yX5_stroke : MethodName := ⟨RX5, "stroke", "(IIIII)I"⟩
abbrev cX5_stamp : ByteArray := prog_1_method_21_code
def yX5_stamp : MethodName := ⟨RX5, "stamp", "(IIIZ)I"⟩
abbrev cX5_spar : ByteArray := prog_1_method_22_code
def yX5_spar : MethodName := ⟨RX5, "spar", "(IIZI)I"⟩
abbrev cX5_strip : ByteArray := prog_1_method_23_code
def yX5_strip : MethodName := ⟨RX5, "strip", "(II)I"⟩
abbrev cX5_wash : ByteArray := prog_1_method_24_code
def yX5_wash : MethodName := ⟨RX5, "wash", "(II)I"⟩
abbrev cX5_undo : ByteArray := prog_1_method_25_code
def yX5_undo : MethodName := ⟨RX5, "undo", "()I"⟩
abbrev cX5_checksum : ByteArray := prog_1_method_26_code
def yX5_checksum : MethodName := ⟨RX5, "checksum", "()J"⟩
abbrev cX5_requireCell : ByteArray := prog_1_method_27_code
def yX5_requireCell : MethodName := ⟨RX5, "requireCell", "(II)V"⟩
abbrev cX5_requirePattern : ByteArray := prog_1_method_28_code
def yX5_requirePattern : MethodName := ⟨RX5, "requirePattern", "(I)V"⟩
abbrev cX5_requireRange : ByteArray := prog_1_method_29_code
def yX5_requireRange : MethodName := ⟨RX5, "requireRange", "(III)V"⟩
def RX6 : String := "KitePainterModel"
def TX6 : u_T := fun k => match k with
  | 0 => ("KitePainterModel", "thrown", "I", false)
  | 1 => ("KitePainterModel", "buffer", "[I", true)
  | 2 => ("KitePainterModel", "bufferLength", "I", false)
  | 3 => ("KitePainterModel", "textLength", "I", false)
  | 4 => ("KitePainterModel", "position", "I", false)
  | 5 => ("KitePainterModel", "error", "I", false)
  | 6 => ("KitePainterModel", "errorAt", "I", false)
  | 7 => ("KitePainterModel", "errorOffset", "I", false)
  | 8 => ("KitePainterModel", "data", "[I", true)
  | 9 => ("KitePainterModel", "draft", "[I", true)
  | 10 => ("KitePainterModel", "aside", "[I", true)
  | 11 => ("KitePainterModel", "history", "[[I", true)
  | 12 => ("KitePainterModel", "undoDepth", "I", false)
  | 13 => ("KitePainterModel", "numberStart", "I", false)
  | 14 => ("KitePainterModel", "seen", "I", false)
  | 15 => ("KitePainterModel", "hasSpar", "Z", false)
  | 16 => ("KitePainterModel", "from", "[I", true)
  | 17 => ("KitePainterModel", "colourThen", "[I", true)
  | 18 => ("KitePainterModel", "wetThen", "[I", true)
  | 19 => ("KitePainterModel", "isMarked", "[Z", true)
  | _ => ("KitePainterModel", "waiting", "[I", true)
def tyX6 : Nat → FieldType := fun k => match k with
  | 0 => .int
  | 1 => .array .int
  | 2 => .int
  | 3 => .int
  | 4 => .int
  | 5 => .int
  | 6 => .int
  | 7 => .int
  | 8 => .array .int
  | 9 => .array .int
  | 10 => .array .int
  | 11 => .array (.array .int)
  | 12 => .int
  | 13 => .int
  | 14 => .int
  | 15 => .boolean
  | 16 => .array .int
  | 17 => .array .int
  | 18 => .array .int
  | 19 => .array .boolean
  | _ => .array .int
abbrev wsX60 : List Cond := u_ws RX6 TX6 21
theorem nmX6 : ∀ a, a < 21 → ∀ b, b < 21 → a ≠ b → (TX6 a).2.1 ≠ (TX6 b).2.1 := by decide +kernel
theorem tyX6_ok : ∀ k, k < 21 → parseFieldDescriptor (TX6 k).2.2.1 = some (tyX6 k) := by decide +kernel
abbrev cX6_init : ByteArray := prog_8_method_1_code
def yX6_init : MethodName := ⟨RX6, "<init>", "()V"⟩
abbrev cX6_thrown : ByteArray := prog_8_method_2_code
def yX6_thrown : MethodName := ⟨RX6, "thrown", "()I"⟩
abbrev cX6_fails : ByteArray := prog_8_method_3_code
def yX6_fails : MethodName := ⟨RX6, "fails", "(ZI)Z"⟩
abbrev cX6_in : ByteArray := prog_8_method_4_code
def yX6_in : MethodName := ⟨RX6, "in", "(III)Z"⟩
abbrev cX6_min : ByteArray := prog_8_method_5_code
def yX6_min : MethodName := ⟨RX6, "min", "(II)I"⟩
abbrev cX6_max : ByteArray := prog_8_method_6_code
def yX6_max : MethodName := ⟨RX6, "max", "(II)I"⟩
abbrev cX6_copy : ByteArray := prog_8_method_7_code
def yX6_copy : MethodName := ⟨RX6, "copy", "([I[I)V"⟩
abbrev cX6_layKite : ByteArray := prog_8_method_8_code
def yX6_layKite : MethodName := ⟨RX6, "layKite", "([III)V"⟩
abbrev cX6_isSail : ByteArray := prog_8_method_9_code
def yX6_isSail : MethodName := ⟨RX6, "isSail", "([III)Z"⟩
abbrev cX6_append : ByteArray := prog_8_method_10_code
def yX6_append : MethodName := ⟨RX6, "append", "(IIIII)I"⟩
abbrev cX6_byteAt : ByteArray := prog_8_method_11_code
def yX6_byteAt : MethodName := ⟨RX6, "byteAt", "(I)I"⟩
abbrev cX6_ahead : ByteArray := prog_8_method_12_code
def yX6_ahead : MethodName := ⟨RX6, "ahead", "()I"⟩
abbrev cX6_isGood : ByteArray := prog_8_method_13_code
def yX6_isGood : MethodName := ⟨RX6, "isGood", "()Z"⟩
abbrev cX6_report : ByteArray := prog_8_method_14_code
def yX6_report : MethodName := ⟨RX6, "report", "(II)V"⟩
abbrev cX6_isDigit : ByteArray := prog_8_method_15_code
def yX6_isDigit : MethodName := ⟨RX6, "isDigit", "(I)Z"⟩
abbrev cX6_takeWord : ByteArray := prog_8_method_16_code
def yX6_takeWord : MethodName := ⟨RX6, "takeWord", "(Ljava/lang/String;)Z"⟩
abbrev cX6_expect : ByteArray := prog_8_method_17_code
def yX6_expect : MethodName := ⟨RX6, "expect", "(I)V"⟩
abbrev cX6_number : ByteArray := prog_8_method_18_code
def yX6_number : MethodName := ⟨RX6, "number", "(II)I"⟩
abbrev cX6_once : ByteArray := prog_8_method_19_code
def yX6_once : MethodName := ⟨RX6, "once", "(II)V"⟩
abbrev cX6_readReach : ByteArray := prog_8_method_20_code
def yX6_readReach : MethodName := ⟨RX6, "readReach", "(I)V"⟩
abbrev cX6_readMix : ByteArray := prog_8_method_21_code
def yX6_readMix : MethodName := ⟨RX6, "readMix", "()V"⟩
abbrev cX6_readSpar : ByteArray := prog_8_method_22_code
def yX6_readSpar : MethodName := ⟨RX6, "readSpar", "()V"⟩
abbrev cX6_readLine : ByteArray := prog_8_method_23_code
def yX6_readLine : MethodName := ⟨RX6, "readLine", "(I)V"⟩
abbrev cX6_readPattern : ByteArray := prog_8_method_24_code
def yX6_readPattern : MethodName := ⟨RX6, "readPattern", "(I)V"⟩
abbrev cX6_statement : ByteArray := prog_8_method_25_code
def yX6_statement : MethodName := ⟨RX6, "statement", "()V"⟩
abbrev cX6_load : ByteArray := prog_8_method_26_code
def yX6_load : MethodName := ⟨RX6, "load", "(I)I"⟩
abbrev cX6_errorOffset : ByteArray := prog_8_method_27_code
def yX6_errorOffset : MethodName := ⟨RX6, "errorOffset", "()I"⟩
abbrev cX6_cells : ByteArray := prog_8_method_28_code
def yX6_cells : MethodName := ⟨RX6, "cells", "()I"⟩
abbrev cX6_xOf : ByteArray := prog_8_method_29_code
def yX6_xOf : MethodName := ⟨RX6, "xOf", "(I)I"⟩
abbrev cX6_yOf : ByteArray := prog_8_method_30_code
def yX6_yOf : MethodName := ⟨RX6, "yOf", "(I)I"⟩
abbrev cX6_isOf : ByteArray := prog_8_method_31_code
def yX6_isOf : MethodName := ⟨RX6, "isOf", "(II)Z"⟩
abbrev cX6_isCell : ByteArray := prog_8_method_32_code
def yX6_isCell : MethodName := ⟨RX6, "isCell", "(I)Z"⟩
abbrev cX6_mirrorOf : ByteArray := prog_8_method_33_code
def yX6_mirrorOf : MethodName := ⟨RX6, "mirrorOf", "(I)I"⟩
abbrev cX6_beside : ByteArray := prog_8_method_34_code
def yX6_beside : MethodName := ⟨RX6, "beside", "(II)I"⟩
abbrev cX6_mixOf : ByteArray := prog_8_method_35_code
def yX6_mixOf : MethodName := ⟨RX6, "mixOf", "(II)I"⟩
abbrev cX6_sailCells : ByteArray := prog_8_method_36_code
def yX6_sailCells : MethodName := ⟨RX6, "sailCells", "()I"⟩
abbrev cX6_colourWeight : ByteArray := prog_8_method_37_code
def yX6_colourWeight : MethodName := ⟨RX6, "colourWeight", "(I)I"⟩
abbrev cX6_weightOf : ByteArray := prog_8_method_38_code
def yX6_weightOf : MethodName := ⟨RX6, "weightOf", "(I)I"⟩
abbrev cX6_weightAt : ByteArray := prog_8_method_39_code
def yX6_weightAt : MethodName := ⟨RX6, "weightAt", "(I)I"⟩
abbrev cX6_balance : ByteArray := prog_8_method_40_code
def yX6_balance : MethodName := ⟨RX6, "balance", "()I"⟩
abbrev cX6_source : ByteArray := prog_8_method_41_code
def yX6_source : MethodName := ⟨RX6, "source", "(I)I"⟩
abbrev cX6_toldBleeds : ByteArray := prog_8_method_42_code
def yX6_toldBleeds : MethodName := ⟨RX6, "toldBleeds", "(I)I"⟩
abbrev cX6_tick : ByteArray := prog_8_method_43_code
def yX6_tick : MethodName := ⟨RX6, "tick", "()I"⟩
abbrev cX6_wetCells : ByteArray := prog_8_method_44_code
def yX6_wetCells : MethodName := ⟨RX6, "wetCells", "()I"⟩
abbrev cX6_wettest : ByteArray := prog_8_method_45_code
def yX6_wettest : MethodName := ⟨RX6, "wettest", "()I"⟩
abbrev cX6_countOf : ByteArray := prog_8_method_46_code
def yX6_countOf : MethodName := ⟨RX6, "countOf", "(I)I"⟩
abbrev cX6_unlikeNow : ByteArray := prog_8_method_47_code
def yX6_unlikeNow : MethodName := ⟨RX6, "unlikeNow", "()I"⟩
abbrev cX6_clearMarks : ByteArray := prog_8_method_48_code
def yX6_clearMarks : MethodName := ⟨RX6, "clearMarks", "()V"⟩
abbrev cX6_mark : ByteArray := prog_8_method_49_code
def yX6_mark : MethodName := ⟨RX6, "mark", "(I)I"⟩
abbrev cX6_spars : ByteArray := prog_8_method_50_code
def yX6_spars : MethodName := ⟨RX6, "spars", "()I"⟩
abbrev cX6_told : ByteArray := prog_8_method_51_code
def yX6_told : MethodName := ⟨RX6, "told", "(I)I"⟩
abbrev cX6_state : ByteArray := prog_8_method_52_code
def yX6_state : MethodName := ⟨RX6, "state", "(I)I"⟩
abbrev cX6_noCell : ByteArray := prog_8_method_53_code
def yX6_noCell : MethodName := ⟨RX6, "noCell", "(II)Z"⟩
abbrev cX6_at : ByteArray := prog_8_method_54_code
def yX6_at : MethodName := ⟨RX6, "at", "(II)I"⟩
abbrev cX6_toldCell : ByteArray := prog_8_method_55_code
def yX6_toldCell : MethodName := ⟨RX6, "toldCell", "(II)I"⟩
abbrev cX6_cell : ByteArray := prog_8_method_56_code
def yX6_cell : MethodName := ⟨RX6, "cell", "(III)I"⟩
abbrev cX6_mix : ByteArray := prog_8_method_57_code
def yX6_mix : MethodName := ⟨RX6, "mix", "(II)I"⟩
abbrev cX6_count : ByteArray := prog_8_method_58_code
def yX6_count : MethodName := ⟨RX6, "count", "(I)I"⟩
abbrev cX6_unlike : ByteArray := prog_8_method_59_code
def yX6_unlike : MethodName := ⟨RX6, "unlike", "()I"⟩
abbrev cX6_region : ByteArray := prog_8_method_60_code
def yX6_region : MethodName := ⟨RX6, "region", "(II)I"⟩
abbrev cX6_regions : ByteArray := prog_8_method_61_code
def yX6_regions : MethodName := ⟨RX6, "regions", "(I)I"⟩
abbrev cX6_bleeds : ByteArray := prog_8_method_62_code
def yX6_bleeds : MethodName := ⟨RX6, "bleeds", "(II)I"⟩
abbrev cX6_driesIn : ByteArray := prog_8_method_63_code
def yX6_driesIn : MethodName := ⟨RX6, "driesIn", "()I"⟩
abbrev cX6_foretold : ByteArray := prog_8_method_64_code
def yX6_foretold : MethodName := ⟨RX6, "foretold", "(II)I"⟩
abbrev cX6_evens : ByteArray := prog_8_method_65_code
def yX6_evens : MethodName := ⟨RX6, "evens", "(I)I"⟩
abbrev cX6_noPattern : ByteArray := prog_8_method_66_code
def yX6_noPattern : MethodName := ⟨RX6, "noPattern", "(I)Z"⟩
abbrev cX6_digitAt : ByteArray := prog_8_method_67_code
def yX6_digitAt : MethodName := ⟨RX6, "digitAt", "(III)I"⟩
abbrev cX6_ofPattern : ByteArray := prog_8_method_68_code
def yX6_ofPattern : MethodName := ⟨RX6, "ofPattern", "(II)I"⟩
abbrev cX6_painted : ByteArray := prog_8_method_69_code
def yX6_painted : MethodName := ⟨RX6, "painted", "(I)I"⟩
abbrev cX6_pattern : ByteArray := prog_8_method_70_code
def yX6_pattern : MethodName := ⟨RX6, "pattern", "(II)I"⟩
abbrev cX6_covered : ByteArray := prog_8_method_71_code
def yX6_covered : MethodName := ⟨RX6, "covered", "()F"⟩
abbrev cX6_remember : ByteArray := prog_8_method_72_code
def yX6_remember : MethodName := ⟨RX6, "remember", "()V"⟩
abbrev cX6_pass : ByteArray := prog_8_method_73_code
def yX6_pass : MethodName := ⟨RX6, "pass", "(I)I"⟩
abbrev cX6_put : ByteArray := prog_8_method_74_code
def yX6_put : MethodName := ⟨RX6, "put", "(III)V"⟩
abbrev cX6_putBoth : ByteArray := prog_8_method_75_code
def yX6_putBoth : MethodName := ⟨RX6, "putBoth", "(IIIZ)V"⟩
abbrev cX6_paint : ByteArray := prog_8_method_76_code
def yX6_paint : MethodName := ⟨RX6, "paint", "(IIIIZ)I"⟩
abbrev cX6_stroke : ByteArray := prog_8_method_77_code
def yX6_stroke : MethodName := ⟨RX6, "stroke", "(IIIII)I"⟩
abbrev cX6_stamp : ByteArray := prog_8_method_78_code
def yX6_stamp : MethodName := ⟨RX6, "stamp", "(IIIZ)I"⟩
abbrev cX6_spar : ByteArray := prog_8_method_79_code
def yX6_spar : MethodName := ⟨RX6, "spar", "(IIZI)I"⟩
abbrev cX6_strip : ByteArray := prog_8_method_80_code
def yX6_strip : MethodName := ⟨RX6, "strip", "(II)I"⟩
abbrev cX6_wash : ByteArray := prog_8_method_81_code
def yX6_wash : MethodName := ⟨RX6, "wash", "(II)I"⟩
abbrev cX6_undo : ByteArray := prog_8_method_82_code
def yX6_undo : MethodName := ⟨RX6, "undo", "()I"⟩
abbrev cX6_checksum : ByteArray := prog_8_method_83_code
def yX6_checksum : MethodName := ⟨RX6, "checksum", "()J"⟩
def RJx145de : String := "java/io/Serializable"
def TJx145de : u_T := fun k => match k with
  | _ => ("", "", "", false)
def tyJx145de : Nat → FieldType := fun k => match k with
  | _ => .int
abbrev wsJx145de0 : List Cond := u_ws RJx145de TJx145de 0
theorem nmJx145de : ∀ a, a < 0 → ∀ b, b < 0 → a ≠ b → (TJx145de a).2.1 ≠ (TJx145de b).2.1 := by decide +kernel
theorem tyJx145de_ok : ∀ k, k < 0 → parseFieldDescriptor (TJx145de k).2.2.1 = some (tyJx145de k) := by decide +kernel
def RJx9f9b0 : String := "java/lang/CharSequence"
def TJx9f9b0 : u_T := fun k => match k with
  | _ => ("", "", "", false)
def tyJx9f9b0 : Nat → FieldType := fun k => match k with
  | _ => .int
abbrev wsJx9f9b00 : List Cond := u_ws RJx9f9b0 TJx9f9b0 0
theorem nmJx9f9b0 : ∀ a, a < 0 → ∀ b, b < 0 → a ≠ b → (TJx9f9b0 a).2.1 ≠ (TJx9f9b0 b).2.1 := by decide +kernel
theorem tyJx9f9b0_ok : ∀ k, k < 0 → parseFieldDescriptor (TJx9f9b0 k).2.2.1 = some (tyJx9f9b0 k) := by decide +kernel
def RJxb160c : String := "java/lang/Comparable"
def TJxb160c : u_T := fun k => match k with
  | _ => ("", "", "", false)
def tyJxb160c : Nat → FieldType := fun k => match k with
  | _ => .int
abbrev wsJxb160c0 : List Cond := u_ws RJxb160c TJxb160c 0
theorem nmJxb160c : ∀ a, a < 0 → ∀ b, b < 0 → a ≠ b → (TJxb160c a).2.1 ≠ (TJxb160c b).2.1 := by decide +kernel
theorem tyJxb160c_ok : ∀ k, k < 0 → parseFieldDescriptor (TJxb160c k).2.2.1 = some (tyJxb160c k) := by decide +kernel
def RJ6 : String := "java/lang/Integer"
def TJ6 : u_T := fun k => match k with
  | _ => ("", "", "", false)
def tyJ6 : Nat → FieldType := fun k => match k with
  | _ => .int
abbrev wsJ60 : List Cond := u_ws RJ6 TJ6 0
theorem nmJ6 : ∀ a, a < 0 → ∀ b, b < 0 → a ≠ b → (TJ6 a).2.1 ≠ (TJ6 b).2.1 := by decide +kernel
theorem tyJ6_ok : ∀ k, k < 0 → parseFieldDescriptor (TJ6 k).2.2.1 = some (tyJ6 k) := by decide +kernel
abbrev cJ6_compare_7cf53 : ByteArray := prog_13_method_40_code
def yJ6_compare_7cf53 : MethodName := ⟨RJ6, "compare", "(II)I"⟩
abbrev cJ6_signum_0f7a4 : ByteArray := prog_13_method_56_code
def yJ6_signum_0f7a4 : MethodName := ⟨RJ6, "signum", "(I)I"⟩
def RJ9 : String := "java/lang/Math"
def TJ9 : u_T := fun k => match k with
  | _ => ("", "", "", false)
def tyJ9 : Nat → FieldType := fun k => match k with
  | _ => .int
abbrev wsJ90 : List Cond := u_ws RJ9 TJ9 0
theorem nmJ9 : ∀ a, a < 0 → ∀ b, b < 0 → a ≠ b → (TJ9 a).2.1 ≠ (TJ9 b).2.1 := by decide +kernel
theorem tyJ9_ok : ∀ k, k < 0 → parseFieldDescriptor (TJ9 k).2.2.1 = some (tyJ9 k) := by decide +kernel
abbrev cJ9_abs_0f7a4 : ByteArray := prog_14_method_59_code
def yJ9_abs_0f7a4 : MethodName := ⟨RJ9, "abs", "(I)I"⟩
abbrev cJ9_max_7cf53 : ByteArray := prog_14_method_65_code
def yJ9_max_7cf53 : MethodName := ⟨RJ9, "max", "(II)I"⟩
abbrev cJ9_min_7cf53 : ByteArray := prog_14_method_69_code
def yJ9_min_7cf53 : MethodName := ⟨RJ9, "min", "(II)I"⟩
def RJ0 : String := "java/lang/String"
def TJ0 : u_T := fun k => match k with
  | _ => ("", "", "", false)
def tyJ0 : Nat → FieldType := fun k => match k with
  | _ => .int
abbrev wsJ00 : List Cond := u_ws RJ0 TJ0 0
theorem nmJ0 : ∀ a, a < 0 → ∀ b, b < 0 → a ≠ b → (TJ0 a).2.1 ≠ (TJ0 b).2.1 := by decide +kernel
theorem tyJ0_ok : ∀ k, k < 0 → parseFieldDescriptor (TJ0 k).2.2.1 = some (tyJ0 k) := by decide +kernel
abbrev cJ0_length_8abf5 : ByteArray := prog_16_method_54_code
def yJ0_length_8abf5 : MethodName := ⟨RJ0, "length", "()I"⟩
abbrev cJ0_charAt_5068e : ByteArray := prog_16_method_56_code
def yJ0_charAt_5068e : MethodName := ⟨RJ0, "charAt", "(I)C"⟩
abbrev cJ0_coder_7d493 : ByteArray := prog_16_method_152_code
def yJ0_coder_7d493 : MethodName := ⟨RJ0, "coder", "()B"⟩
abbrev cJ0_isLatin1_aae02 : ByteArray := prog_16_method_154_code
def yJ0_isLatin1_aae02 : MethodName := ⟨RJ0, "isLatin1", "()Z"⟩
abbrev cJ0_checkIndex_df160 : ByteArray := prog_16_method_155_code
def yJ0_checkIndex_df160 : MethodName := ⟨RJ0, "checkIndex", "(II)V"⟩
def RJ1 : String := "java/lang/StringLatin1"
def TJ1 : u_T := fun k => match k with
  | _ => ("", "", "", false)
def tyJ1 : Nat → FieldType := fun k => match k with
  | _ => .int
abbrev wsJ10 : List Cond := u_ws RJ1 TJ1 0
theorem nmJ1 : ∀ a, a < 0 → ∀ b, b < 0 → a ≠ b → (TJ1 a).2.1 ≠ (TJ1 b).2.1 := by decide +kernel
theorem tyJ1_ok : ∀ k, k < 0 → parseFieldDescriptor (TJ1 k).2.2.1 = some (tyJ1 k) := by decide +kernel
abbrev cJ1_charAt_3b067 : ByteArray := prog_17_method_2_code
def yJ1_charAt_3b067 : MethodName := ⟨RJ1, "charAt", "([BI)C"⟩
def RJ2 : String := "java/lang/StringUTF16"
def TJ2 : u_T := fun k => match k with
  | _ => ("", "", "", false)
def tyJ2 : Nat → FieldType := fun k => match k with
  | _ => .int
abbrev wsJ20 : List Cond := u_ws RJ2 TJ2 0
theorem nmJ2 : ∀ a, a < 0 → ∀ b, b < 0 → a ≠ b → (TJ2 a).2.1 ≠ (TJ2 b).2.1 := by decide +kernel
theorem tyJ2_ok : ∀ k, k < 0 → parseFieldDescriptor (TJ2 k).2.2.1 = some (tyJ2 k) := by decide +kernel
abbrev cJ2_getChar_3b067 : ByteArray := prog_18_method_5_code
def yJ2_getChar_3b067 : MethodName := ⟨RJ2, "getChar", "([BI)C"⟩
abbrev cJ2_length_9d52b : ByteArray := prog_18_method_6_code
def yJ2_length_9d52b : MethodName := ⟨RJ2, "length", "([B)I"⟩
abbrev cJ2_charAt_3b067 : ByteArray := prog_18_method_83_code
def yJ2_charAt_3b067 : MethodName := ⟨RJ2, "charAt", "([BI)C"⟩
abbrev cJ2_checkIndex_2214a : ByteArray := prog_18_method_91_code
def yJ2_checkIndex_2214a : MethodName := ⟨RJ2, "checkIndex", "(I[B)V"⟩
def RJ10 : String := "java/lang/System"
def TJ10 : u_T := fun k => match k with
  | _ => ("", "", "", false)
def tyJ10 : Nat → FieldType := fun k => match k with
  | _ => .int
abbrev wsJ100 : List Cond := u_ws RJ10 TJ10 0
theorem nmJ10 : ∀ a, a < 0 → ∀ b, b < 0 → a ≠ b → (TJ10 a).2.1 ≠ (TJ10 b).2.1 := by decide +kernel
theorem tyJ10_ok : ∀ k, k < 0 → parseFieldDescriptor (TJ10 k).2.2.1 = some (tyJ10 k) := by decide +kernel
def RJxfd54e : String := "java/lang/constant/Constable"
def TJxfd54e : u_T := fun k => match k with
  | _ => ("", "", "", false)
def tyJxfd54e : Nat → FieldType := fun k => match k with
  | _ => .int
abbrev wsJxfd54e0 : List Cond := u_ws RJxfd54e TJxfd54e 0
theorem nmJxfd54e : ∀ a, a < 0 → ∀ b, b < 0 → a ≠ b → (TJxfd54e a).2.1 ≠ (TJxfd54e b).2.1 := by decide +kernel
theorem tyJxfd54e_ok : ∀ k, k < 0 → parseFieldDescriptor (TJxfd54e k).2.2.1 = some (tyJxfd54e k) := by decide +kernel
def RJx3cf43 : String := "java/lang/constant/ConstantDesc"
def TJx3cf43 : u_T := fun k => match k with
  | _ => ("", "", "", false)
def tyJx3cf43 : Nat → FieldType := fun k => match k with
  | _ => .int
abbrev wsJx3cf430 : List Cond := u_ws RJx3cf43 TJx3cf43 0
theorem nmJx3cf43 : ∀ a, a < 0 → ∀ b, b < 0 → a ≠ b → (TJx3cf43 a).2.1 ≠ (TJx3cf43 b).2.1 := by decide +kernel
theorem tyJx3cf43_ok : ∀ k, k < 0 → parseFieldDescriptor (TJx3cf43 k).2.2.1 = some (tyJx3cf43 k) := by decide +kernel
def RJ7 : String := "java/util/Arrays"
def TJ7 : u_T := fun k => match k with
  | _ => ("", "", "", false)
def tyJ7 : Nat → FieldType := fun k => match k with
  | _ => .int
abbrev wsJ70 : List Cond := u_ws RJ7 TJ7 0
theorem nmJ7 : ∀ a, a < 0 → ∀ b, b < 0 → a ≠ b → (TJ7 a).2.1 ≠ (TJ7 b).2.1 := by decide +kernel
theorem tyJ7_ok : ∀ k, k < 0 → parseFieldDescriptor (TJ7 k).2.2.1 = some (tyJ7 k) := by decide +kernel
abbrev cJ7_fill_53178 : ByteArray := prog_21_method_103_code
def yJ7_fill_53178 : MethodName := ⟨RJ7, "fill", "([II)V"⟩
def RJ3 : String := "jdk/internal/util/Preconditions"
def TJ3 : u_T := fun k => match k with
  | _ => ("", "", "", false)
def tyJ3 : Nat → FieldType := fun k => match k with
  | _ => .int
abbrev wsJ30 : List Cond := u_ws RJ3 TJ3 0
theorem nmJ3 : ∀ a, a < 0 → ∀ b, b < 0 → a ≠ b → (TJ3 a).2.1 ≠ (TJ3 b).2.1 := by decide +kernel
theorem tyJ3_ok : ∀ k, k < 0 → parseFieldDescriptor (TJ3 k).2.2.1 = some (tyJ3 k) := by decide +kernel
abbrev cJ3_checkIndex_8e157 : ByteArray := prog_22_method_11_code
def yJ3_checkIndex_8e157 : MethodName := ⟨RJ3, "checkIndex", "(IILjava/util/function/BiFunction;)I"⟩
def RL : String := "KitePainterLaw"
abbrev cL_load : ByteArray := method_3_code
def yL_load : MethodName := ⟨RL, "load", "(LKitePainter;I[J)I"⟩
abbrev cL_state : ByteArray := method_4_code
def yL_state : MethodName := ⟨RL, "state", "(LKitePainter;I[J)I"⟩
abbrev cL_cell : ByteArray := method_5_code
def yL_cell : MethodName := ⟨RL, "cell", "(LKitePainter;III[J)I"⟩
abbrev cL_mix : ByteArray := method_6_code
def yL_mix : MethodName := ⟨RL, "mix", "(LKitePainter;II[J)I"⟩
abbrev cL_count : ByteArray := method_7_code
def yL_count : MethodName := ⟨RL, "count", "(LKitePainter;I[J)I"⟩
abbrev cL_region : ByteArray := method_8_code
def yL_region : MethodName := ⟨RL, "region", "(LKitePainter;II[J)I"⟩
abbrev cL_regions : ByteArray := method_9_code
def yL_regions : MethodName := ⟨RL, "regions", "(LKitePainter;I[J)I"⟩
abbrev cL_bleeds : ByteArray := method_10_code
def yL_bleeds : MethodName := ⟨RL, "bleeds", "(LKitePainter;II[J)I"⟩
abbrev cL_foretold : ByteArray := method_11_code
def yL_foretold : MethodName := ⟨RL, "foretold", "(LKitePainter;II[J)I"⟩
abbrev cL_evens : ByteArray := method_12_code
def yL_evens : MethodName := ⟨RL, "evens", "(LKitePainter;I[J)I"⟩
abbrev cL_pattern : ByteArray := method_13_code
def yL_pattern : MethodName := ⟨RL, "pattern", "(LKitePainter;II[J)I"⟩
abbrev cL_pass : ByteArray := method_14_code
def yL_pass : MethodName := ⟨RL, "pass", "(LKitePainter;I[J)I"⟩
abbrev cL_paint : ByteArray := method_15_code
def yL_paint : MethodName := ⟨RL, "paint", "(LKitePainter;IIIIZ[J)I"⟩
abbrev cL_stroke : ByteArray := method_16_code
def yL_stroke : MethodName := ⟨RL, "stroke", "(LKitePainter;IIIII[J)I"⟩
abbrev cL_stamp : ByteArray := method_17_code
def yL_stamp : MethodName := ⟨RL, "stamp", "(LKitePainter;IIIZ[J)I"⟩
abbrev cL_spar : ByteArray := method_18_code
def yL_spar : MethodName := ⟨RL, "spar", "(LKitePainter;IIZI[J)I"⟩
abbrev cL_strip : ByteArray := method_19_code
def yL_strip : MethodName := ⟨RL, "strip", "(LKitePainter;II[J)I"⟩
abbrev cL_wash : ByteArray := method_20_code
def yL_wash : MethodName := ⟨RL, "wash", "(LKitePainter;II[J)I"⟩
abbrev cL_law : ByteArray := code
def yL_law : MethodName := ⟨RL, "law", "([I)Z"⟩
abbrev vwCl : List vw_C := [(RX0, TX0, 2), (RX1, TX1, 3), (RX2, TX2, 4), (RX3, TX3, 15), (RX4, TX4, 13), (RX5, TX5, 7), (RX6, TX6, 21)]
end
section
theorem dX0_init_0 : decode cX0_init 0 = .ok (.aload_n 0, 1) := by decide +kernel
theorem dX0_init_1 : decode cX0_init 1 = .ok (.invokespecial 3, 3) := by decide +kernel
theorem dX0_init_4 : decode cX0_init 4 = .ok (.aload_n 0, 1) := by decide +kernel
theorem dX0_init_5 : decode cX0_init 5 = .ok (.sipush 180, 3) := by decide +kernel
theorem dX0_init_8 : decode cX0_init 8 = .ok (.newarray .int, 2) := by decide +kernel
theorem dX0_init_10 : decode cX0_init 10 = .ok (.putfield 9, 3) := by decide +kernel
theorem dX0_init_13 : decode cX0_init 13 = .ok (.aload_n 0, 1) := by decide +kernel
theorem dX0_init_14 : decode cX0_init 14 = .ok (.sipush 180, 3) := by decide +kernel
theorem dX0_init_17 : decode cX0_init 17 = .ok (.newarray .int, 2) := by decide +kernel
theorem dX0_init_19 : decode cX0_init 19 = .ok (.putfield 15, 3) := by decide +kernel
theorem dX0_init_22 : decode cX0_init 22 = .ok (.return_, 1) := by decide +kernel
theorem dX0_letPass_0 : decode cX0_letPass 0 = .ok (.iconst 0, 1) := by decide +kernel
theorem dX0_letPass_1 : decode cX0_letPass 1 = .ok (.istore_n 3, 1) := by decide +kernel
theorem dX0_letPass_2 : decode cX0_letPass 2 = .ok (.iconst 0, 1) := by decide +kernel
theorem dX0_letPass_3 : decode cX0_letPass 3 = .ok (.istore 4, 2) := by decide +kernel
theorem dX0_letPass_5 : decode cX0_letPass 5 = .ok (.iload 4, 2) := by decide +kernel
theorem dX0_letPass_7 : decode cX0_letPass 7 = .ok (.iload_n 2, 1) := by decide +kernel
theorem dX0_letPass_8 : decode cX0_letPass 8 = .ok (.if_icmp .ge 28, 3) := by decide +kernel
theorem dX0_letPass_11 : decode cX0_letPass 11 = .ok (.aload_n 1, 1) := by decide +kernel
theorem dX0_letPass_12 : decode cX0_letPass 12 = .ok (.invokevirtual 18, 3) := by decide +kernel
theorem dX0_letPass_15 : decode cX0_letPass 15 = .ok (.ifCond .le 21, 3) := by decide +kernel
theorem dX0_letPass_18 : decode cX0_letPass 18 = .ok (.iload_n 3, 1) := by decide +kernel
theorem dX0_letPass_19 : decode cX0_letPass 19 = .ok (.aload_n 0, 1) := by decide +kernel
theorem dX0_letPass_20 : decode cX0_letPass 20 = .ok (.aload_n 1, 1) := by decide +kernel
theorem dX0_letPass_21 : decode cX0_letPass 21 = .ok (.invokevirtual 24, 3) := by decide +kernel
theorem dX0_letPass_24 : decode cX0_letPass 24 = .ok (.iadd, 1) := by decide +kernel
theorem dX0_letPass_25 : decode cX0_letPass 25 = .ok (.istore_n 3, 1) := by decide +kernel
theorem dX0_letPass_26 : decode cX0_letPass 26 = .ok (.aload_n 1, 1) := by decide +kernel
theorem dX0_letPass_27 : decode cX0_letPass 27 = .ok (.invokestatic 28, 3) := by decide +kernel
theorem dX0_letPass_30 : decode cX0_letPass 30 = .ok (.iinc 4 1, 3) := by decide +kernel
theorem dX0_letPass_33 : decode cX0_letPass 33 = .ok (.goto (-28), 3) := by decide +kernel
theorem dX0_letPass_36 : decode cX0_letPass 36 = .ok (.aload_n 1, 1) := by decide +kernel
theorem dX0_letPass_37 : decode cX0_letPass 37 = .ok (.dup, 1) := by decide +kernel
theorem dX0_letPass_38 : decode cX0_letPass 38 = .ok (.getfield 32, 3) := by decide +kernel
theorem dX0_letPass_41 : decode cX0_letPass 41 = .ok (.iload_n 2, 1) := by decide +kernel
theorem dX0_letPass_42 : decode cX0_letPass 42 = .ok (.iadd, 1) := by decide +kernel
theorem dX0_letPass_43 : decode cX0_letPass 43 = .ok (.putfield 32, 3) := by decide +kernel
theorem dX0_letPass_46 : decode cX0_letPass 46 = .ok (.iload_n 3, 1) := by decide +kernel
theorem dX0_letPass_47 : decode cX0_letPass 47 = .ok (.ireturn, 1) := by decide +kernel
theorem dX0_bleedOnce_0 : decode cX0_bleedOnce 0 = .ok (.iconst 0, 1) := by decide +kernel
theorem dX0_bleedOnce_1 : decode cX0_bleedOnce 1 = .ok (.istore_n 2, 1) := by decide +kernel
theorem dX0_bleedOnce_2 : decode cX0_bleedOnce 2 = .ok (.aload_n 1, 1) := by decide +kernel
theorem dX0_bleedOnce_3 : decode cX0_bleedOnce 3 = .ok (.getfield 36, 3) := by decide +kernel
theorem dX0_bleedOnce_6 : decode cX0_bleedOnce 6 = .ok (.iconst 0, 1) := by decide +kernel
theorem dX0_bleedOnce_7 : decode cX0_bleedOnce 7 = .ok (.aload_n 0, 1) := by decide +kernel
theorem dX0_bleedOnce_8 : decode cX0_bleedOnce 8 = .ok (.getfield 9, 3) := by decide +kernel
theorem dX0_bleedOnce_11 : decode cX0_bleedOnce 11 = .ok (.iconst 0, 1) := by decide +kernel
theorem dX0_bleedOnce_12 : decode cX0_bleedOnce 12 = .ok (.sipush 180, 3) := by decide +kernel
theorem dX0_bleedOnce_15 : decode cX0_bleedOnce 15 = .ok (.invokestatic 39, 3) := by decide +kernel
theorem dX0_bleedOnce_18 : decode cX0_bleedOnce 18 = .ok (.aload_n 1, 1) := by decide +kernel
theorem dX0_bleedOnce_19 : decode cX0_bleedOnce 19 = .ok (.getfield 45, 3) := by decide +kernel
theorem dX0_bleedOnce_22 : decode cX0_bleedOnce 22 = .ok (.iconst 0, 1) := by decide +kernel
theorem dX0_bleedOnce_23 : decode cX0_bleedOnce 23 = .ok (.aload_n 0, 1) := by decide +kernel
theorem dX0_bleedOnce_24 : decode cX0_bleedOnce 24 = .ok (.getfield 15, 3) := by decide +kernel
theorem dX0_bleedOnce_27 : decode cX0_bleedOnce 27 = .ok (.iconst 0, 1) := by decide +kernel
theorem dX0_bleedOnce_28 : decode cX0_bleedOnce 28 = .ok (.sipush 180, 3) := by decide +kernel
theorem dX0_bleedOnce_31 : decode cX0_bleedOnce 31 = .ok (.invokestatic 39, 3) := by decide +kernel
theorem dX0_bleedOnce_34 : decode cX0_bleedOnce 34 = .ok (.iconst 0, 1) := by decide +kernel
theorem dX0_bleedOnce_35 : decode cX0_bleedOnce 35 = .ok (.istore_n 3, 1) := by decide +kernel
theorem dX0_bleedOnce_36 : decode cX0_bleedOnce 36 = .ok (.iload_n 3, 1) := by decide +kernel
theorem dX0_bleedOnce_37 : decode cX0_bleedOnce 37 = .ok (.aload_n 1, 1) := by decide +kernel
theorem dX0_bleedOnce_38 : decode cX0_bleedOnce 38 = .ok (.getfield 48, 3) := by decide +kernel
theorem dX0_bleedOnce_41 : decode cX0_bleedOnce 41 = .ok (.if_icmp .ge 63, 3) := by decide +kernel
theorem dX0_bleedOnce_44 : decode cX0_bleedOnce 44 = .ok (.aload_n 1, 1) := by decide +kernel
theorem dX0_bleedOnce_45 : decode cX0_bleedOnce 45 = .ok (.iload_n 3, 1) := by decide +kernel
theorem dX0_bleedOnce_46 : decode cX0_bleedOnce 46 = .ok (.invokevirtual 51, 3) := by decide +kernel
theorem dX0_bleedOnce_49 : decode cX0_bleedOnce 49 = .ok (.istore 4, 2) := by decide +kernel
theorem dX0_bleedOnce_51 : decode cX0_bleedOnce 51 = .ok (.iload 4, 2) := by decide +kernel
theorem dX0_bleedOnce_53 : decode cX0_bleedOnce 53 = .ok (.aload_n 1, 1) := by decide +kernel
theorem dX0_bleedOnce_54 : decode cX0_bleedOnce 54 = .ok (.iload_n 3, 1) := by decide +kernel
theorem dX0_bleedOnce_55 : decode cX0_bleedOnce 55 = .ok (.invokevirtual 55, 3) := by decide +kernel
theorem dX0_bleedOnce_58 : decode cX0_bleedOnce 58 = .ok (.if_icmp .gt 40, 3) := by decide +kernel
theorem dX0_bleedOnce_61 : decode cX0_bleedOnce 61 = .ok (.aload_n 1, 1) := by decide +kernel
theorem dX0_bleedOnce_62 : decode cX0_bleedOnce 62 = .ok (.iload 4, 2) := by decide +kernel
theorem dX0_bleedOnce_64 : decode cX0_bleedOnce 64 = .ok (.iload_n 3, 1) := by decide +kernel
theorem dX0_bleedOnce_65 : decode cX0_bleedOnce 65 = .ok (.invokevirtual 58, 3) := by decide +kernel
theorem dX0_bleedOnce_68 : decode cX0_bleedOnce 68 = .ok (.istore 5, 2) := by decide +kernel
theorem dX0_bleedOnce_70 : decode cX0_bleedOnce 70 = .ok (.iload 5, 2) := by decide +kernel
theorem dX0_bleedOnce_72 : decode cX0_bleedOnce 72 = .ok (.ifCond .lt 20, 3) := by decide +kernel
theorem dX0_bleedOnce_75 : decode cX0_bleedOnce 75 = .ok (.aload_n 0, 1) := by decide +kernel
theorem dX0_bleedOnce_76 : decode cX0_bleedOnce 76 = .ok (.aload_n 1, 1) := by decide +kernel
theorem dX0_bleedOnce_77 : decode cX0_bleedOnce 77 = .ok (.aload_n 1, 1) := by decide +kernel
theorem dX0_bleedOnce_78 : decode cX0_bleedOnce 78 = .ok (.iload 4, 2) := by decide +kernel
theorem dX0_bleedOnce_80 : decode cX0_bleedOnce 80 = .ok (.iload_n 3, 1) := by decide +kernel
theorem dX0_bleedOnce_81 : decode cX0_bleedOnce 81 = .ok (.invokevirtual 62, 3) := by decide +kernel
theorem dX0_bleedOnce_84 : decode cX0_bleedOnce 84 = .ok (.iload 5, 2) := by decide +kernel
theorem dX0_bleedOnce_86 : decode cX0_bleedOnce 86 = .ok (.invokevirtual 65, 3) := by decide +kernel
theorem dX0_bleedOnce_89 : decode cX0_bleedOnce 89 = .ok (.iinc 2 1, 3) := by decide +kernel
theorem dX0_bleedOnce_92 : decode cX0_bleedOnce 92 = .ok (.iinc 4 1, 3) := by decide +kernel
theorem dX0_bleedOnce_95 : decode cX0_bleedOnce 95 = .ok (.goto (-44), 3) := by decide +kernel
theorem dX0_bleedOnce_98 : decode cX0_bleedOnce 98 = .ok (.iinc 3 1, 3) := by decide +kernel
theorem dX0_bleedOnce_101 : decode cX0_bleedOnce 101 = .ok (.goto (-65), 3) := by decide +kernel
theorem dX0_bleedOnce_104 : decode cX0_bleedOnce 104 = .ok (.aload_n 0, 1) := by decide +kernel
theorem dX0_bleedOnce_105 : decode cX0_bleedOnce 105 = .ok (.getfield 9, 3) := by decide +kernel
theorem dX0_bleedOnce_108 : decode cX0_bleedOnce 108 = .ok (.iconst 0, 1) := by decide +kernel
theorem dX0_bleedOnce_109 : decode cX0_bleedOnce 109 = .ok (.aload_n 1, 1) := by decide +kernel
theorem dX0_bleedOnce_110 : decode cX0_bleedOnce 110 = .ok (.getfield 36, 3) := by decide +kernel
theorem dX0_bleedOnce_113 : decode cX0_bleedOnce 113 = .ok (.iconst 0, 1) := by decide +kernel
theorem dX0_bleedOnce_114 : decode cX0_bleedOnce 114 = .ok (.sipush 180, 3) := by decide +kernel
theorem dX0_bleedOnce_117 : decode cX0_bleedOnce 117 = .ok (.invokestatic 39, 3) := by decide +kernel
theorem dX0_bleedOnce_120 : decode cX0_bleedOnce 120 = .ok (.aload_n 0, 1) := by decide +kernel
theorem dX0_bleedOnce_121 : decode cX0_bleedOnce 121 = .ok (.getfield 15, 3) := by decide +kernel
theorem dX0_bleedOnce_124 : decode cX0_bleedOnce 124 = .ok (.iconst 0, 1) := by decide +kernel
theorem dX0_bleedOnce_125 : decode cX0_bleedOnce 125 = .ok (.aload_n 1, 1) := by decide +kernel
theorem dX0_bleedOnce_126 : decode cX0_bleedOnce 126 = .ok (.getfield 45, 3) := by decide +kernel
theorem dX0_bleedOnce_129 : decode cX0_bleedOnce 129 = .ok (.iconst 0, 1) := by decide +kernel
theorem dX0_bleedOnce_130 : decode cX0_bleedOnce 130 = .ok (.sipush 180, 3) := by decide +kernel
theorem dX0_bleedOnce_133 : decode cX0_bleedOnce 133 = .ok (.invokestatic 39, 3) := by decide +kernel
theorem dX0_bleedOnce_136 : decode cX0_bleedOnce 136 = .ok (.iload_n 2, 1) := by decide +kernel
theorem dX0_bleedOnce_137 : decode cX0_bleedOnce 137 = .ok (.ireturn, 1) := by decide +kernel
theorem dX0_bleedInto_0 : decode cX0_bleedInto 0 = .ok (.aload_n 1, 1) := by decide +kernel
theorem dX0_bleedInto_1 : decode cX0_bleedInto 1 = .ok (.getfield 36, 3) := by decide +kernel
theorem dX0_bleedInto_4 : decode cX0_bleedInto 4 = .ok (.iload_n 2, 1) := by decide +kernel
theorem dX0_bleedInto_5 : decode cX0_bleedInto 5 = .ok (.iaload, 1) := by decide +kernel
theorem dX0_bleedInto_6 : decode cX0_bleedInto 6 = .ok (.istore 4, 2) := by decide +kernel
theorem dX0_bleedInto_8 : decode cX0_bleedInto 8 = .ok (.aload_n 1, 1) := by decide +kernel
theorem dX0_bleedInto_9 : decode cX0_bleedInto 9 = .ok (.getfield 36, 3) := by decide +kernel
theorem dX0_bleedInto_12 : decode cX0_bleedInto 12 = .ok (.iload_n 3, 1) := by decide +kernel
theorem dX0_bleedInto_13 : decode cX0_bleedInto 13 = .ok (.iaload, 1) := by decide +kernel
theorem dX0_bleedInto_14 : decode cX0_bleedInto 14 = .ok (.istore 5, 2) := by decide +kernel
theorem dX0_bleedInto_16 : decode cX0_bleedInto 16 = .ok (.aload_n 0, 1) := by decide +kernel
theorem dX0_bleedInto_17 : decode cX0_bleedInto 17 = .ok (.getfield 9, 3) := by decide +kernel
theorem dX0_bleedInto_20 : decode cX0_bleedInto 20 = .ok (.iload_n 2, 1) := by decide +kernel
theorem dX0_bleedInto_21 : decode cX0_bleedInto 21 = .ok (.iload 4, 2) := by decide +kernel
theorem dX0_bleedInto_23 : decode cX0_bleedInto 23 = .ok (.ifCond .ne 8, 3) := by decide +kernel
theorem dX0_bleedInto_26 : decode cX0_bleedInto 26 = .ok (.iload 5, 2) := by decide +kernel
theorem dX0_bleedInto_28 : decode cX0_bleedInto 28 = .ok (.goto 11, 3) := by decide +kernel
theorem dX0_bleedInto_31 : decode cX0_bleedInto 31 = .ok (.aload_n 1, 1) := by decide +kernel
theorem dX0_bleedInto_32 : decode cX0_bleedInto 32 = .ok (.iload 4, 2) := by decide +kernel
theorem dX0_bleedInto_34 : decode cX0_bleedInto 34 = .ok (.iload 5, 2) := by decide +kernel
theorem dX0_bleedInto_36 : decode cX0_bleedInto 36 = .ok (.invokevirtual 69, 3) := by decide +kernel
theorem dX0_bleedInto_39 : decode cX0_bleedInto 39 = .ok (.iastore, 1) := by decide +kernel
theorem dX0_bleedInto_40 : decode cX0_bleedInto 40 = .ok (.aload_n 0, 1) := by decide +kernel
theorem dX0_bleedInto_41 : decode cX0_bleedInto 41 = .ok (.getfield 15, 3) := by decide +kernel
theorem dX0_bleedInto_44 : decode cX0_bleedInto 44 = .ok (.iload_n 2, 1) := by decide +kernel
theorem dX0_bleedInto_45 : decode cX0_bleedInto 45 = .ok (.aload_n 1, 1) := by decide +kernel
theorem dX0_bleedInto_46 : decode cX0_bleedInto 46 = .ok (.getfield 45, 3) := by decide +kernel
theorem dX0_bleedInto_49 : decode cX0_bleedInto 49 = .ok (.iload_n 2, 1) := by decide +kernel
theorem dX0_bleedInto_50 : decode cX0_bleedInto 50 = .ok (.iaload, 1) := by decide +kernel
theorem dX0_bleedInto_51 : decode cX0_bleedInto 51 = .ok (.aload_n 1, 1) := by decide +kernel
theorem dX0_bleedInto_52 : decode cX0_bleedInto 52 = .ok (.getfield 45, 3) := by decide +kernel
theorem dX0_bleedInto_55 : decode cX0_bleedInto 55 = .ok (.iload_n 3, 1) := by decide +kernel
theorem dX0_bleedInto_56 : decode cX0_bleedInto 56 = .ok (.iaload, 1) := by decide +kernel
theorem dX0_bleedInto_57 : decode cX0_bleedInto 57 = .ok (.iadd, 1) := by decide +kernel
theorem dX0_bleedInto_58 : decode cX0_bleedInto 58 = .ok (.iconst 2, 1) := by decide +kernel
theorem dX0_bleedInto_59 : decode cX0_bleedInto 59 = .ok (.idiv, 1) := by decide +kernel
theorem dX0_bleedInto_60 : decode cX0_bleedInto 60 = .ok (.iastore, 1) := by decide +kernel
theorem dX0_bleedInto_61 : decode cX0_bleedInto 61 = .ok (.return_, 1) := by decide +kernel
theorem dX0_dryOnce_0 : decode cX0_dryOnce 0 = .ok (.iconst 0, 1) := by decide +kernel
theorem dX0_dryOnce_1 : decode cX0_dryOnce 1 = .ok (.istore_n 1, 1) := by decide +kernel
theorem dX0_dryOnce_2 : decode cX0_dryOnce 2 = .ok (.iload_n 1, 1) := by decide +kernel
theorem dX0_dryOnce_3 : decode cX0_dryOnce 3 = .ok (.sipush 180, 3) := by decide +kernel
theorem dX0_dryOnce_6 : decode cX0_dryOnce 6 = .ok (.if_icmp .ge 28, 3) := by decide +kernel
theorem dX0_dryOnce_9 : decode cX0_dryOnce 9 = .ok (.aload_n 0, 1) := by decide +kernel
theorem dX0_dryOnce_10 : decode cX0_dryOnce 10 = .ok (.getfield 45, 3) := by decide +kernel
theorem dX0_dryOnce_13 : decode cX0_dryOnce 13 = .ok (.iload_n 1, 1) := by decide +kernel
theorem dX0_dryOnce_14 : decode cX0_dryOnce 14 = .ok (.iaload, 1) := by decide +kernel
theorem dX0_dryOnce_15 : decode cX0_dryOnce 15 = .ok (.ifCond .le 13, 3) := by decide +kernel
theorem dX0_dryOnce_18 : decode cX0_dryOnce 18 = .ok (.aload_n 0, 1) := by decide +kernel
theorem dX0_dryOnce_19 : decode cX0_dryOnce 19 = .ok (.getfield 45, 3) := by decide +kernel
theorem dX0_dryOnce_22 : decode cX0_dryOnce 22 = .ok (.iload_n 1, 1) := by decide +kernel
theorem dX0_dryOnce_23 : decode cX0_dryOnce 23 = .ok (.dup2, 1) := by decide +kernel
theorem dX0_dryOnce_24 : decode cX0_dryOnce 24 = .ok (.iaload, 1) := by decide +kernel
theorem dX0_dryOnce_25 : decode cX0_dryOnce 25 = .ok (.iconst 1, 1) := by decide +kernel
theorem dX0_dryOnce_26 : decode cX0_dryOnce 26 = .ok (.isub, 1) := by decide +kernel
theorem dX0_dryOnce_27 : decode cX0_dryOnce 27 = .ok (.iastore, 1) := by decide +kernel
theorem dX0_dryOnce_28 : decode cX0_dryOnce 28 = .ok (.iinc 1 1, 3) := by decide +kernel
theorem dX0_dryOnce_31 : decode cX0_dryOnce 31 = .ok (.goto (-29), 3) := by decide +kernel
theorem dX0_dryOnce_34 : decode cX0_dryOnce 34 = .ok (.return_, 1) := by decide +kernel
theorem dX1_init_0 : decode cX1_init 0 = .ok (.aload_n 0, 1) := by decide +kernel
theorem dX1_init_1 : decode cX1_init 1 = .ok (.invokespecial 3, 3) := by decide +kernel
theorem dX1_init_4 : decode cX1_init 4 = .ok (.aload_n 0, 1) := by decide +kernel
theorem dX1_init_5 : decode cX1_init 5 = .ok (.bipush 8, 2) := by decide +kernel
theorem dX1_init_7 : decode cX1_init 7 = .ok (.anewarray 9, 3) := by decide +kernel
theorem dX1_init_10 : decode cX1_init 10 = .ok (.putfield 11, 3) := by decide +kernel
theorem dX1_init_13 : decode cX1_init 13 = .ok (.iconst 0, 1) := by decide +kernel
theorem dX1_init_14 : decode cX1_init 14 = .ok (.istore_n 1, 1) := by decide +kernel
theorem dX1_init_15 : decode cX1_init 15 = .ok (.iload_n 1, 1) := by decide +kernel
theorem dX1_init_16 : decode cX1_init 16 = .ok (.bipush 8, 2) := by decide +kernel
theorem dX1_init_18 : decode cX1_init 18 = .ok (.if_icmp .ge 22, 3) := by decide +kernel
theorem dX1_init_21 : decode cX1_init 21 = .ok (.aload_n 0, 1) := by decide +kernel
theorem dX1_init_22 : decode cX1_init 22 = .ok (.getfield 11, 3) := by decide +kernel
theorem dX1_init_25 : decode cX1_init 25 = .ok (.iload_n 1, 1) := by decide +kernel
theorem dX1_init_26 : decode cX1_init 26 = .ok (.new 9, 3) := by decide +kernel
theorem dX1_init_29 : decode cX1_init 29 = .ok (.dup, 1) := by decide +kernel
theorem dX1_init_30 : decode cX1_init 30 = .ok (.invokespecial 17, 3) := by decide +kernel
theorem dX1_init_33 : decode cX1_init 33 = .ok (.aastore, 1) := by decide +kernel
theorem dX1_init_34 : decode cX1_init 34 = .ok (.iinc 1 1, 3) := by decide +kernel
theorem dX1_init_37 : decode cX1_init 37 = .ok (.goto (-22), 3) := by decide +kernel
theorem dX1_init_40 : decode cX1_init 40 = .ok (.aload_n 0, 1) := by decide +kernel
theorem dX1_init_41 : decode cX1_init 41 = .ok (.iconst 0, 1) := by decide +kernel
theorem dX1_init_42 : decode cX1_init 42 = .ok (.putfield 18, 3) := by decide +kernel
theorem dX1_init_45 : decode cX1_init 45 = .ok (.aload_n 0, 1) := by decide +kernel
theorem dX1_init_46 : decode cX1_init 46 = .ok (.iconst 0, 1) := by decide +kernel
theorem dX1_init_47 : decode cX1_init 47 = .ok (.putfield 22, 3) := by decide +kernel
theorem dX1_init_50 : decode cX1_init 50 = .ok (.return_, 1) := by decide +kernel
theorem dX1_keep_0 : decode cX1_keep 0 = .ok (.aload_n 0, 1) := by decide +kernel
theorem dX1_keep_1 : decode cX1_keep 1 = .ok (.aload_n 0, 1) := by decide +kernel
theorem dX1_keep_2 : decode cX1_keep 2 = .ok (.getfield 18, 3) := by decide +kernel
theorem dX1_keep_5 : decode cX1_keep 5 = .ok (.iconst 1, 1) := by decide +kernel
theorem dX1_keep_6 : decode cX1_keep 6 = .ok (.iadd, 1) := by decide +kernel
theorem dX1_keep_7 : decode cX1_keep 7 = .ok (.bipush 8, 2) := by decide +kernel
theorem dX1_keep_9 : decode cX1_keep 9 = .ok (.irem, 1) := by decide +kernel
theorem dX1_keep_10 : decode cX1_keep 10 = .ok (.putfield 18, 3) := by decide +kernel
theorem dX1_keep_13 : decode cX1_keep 13 = .ok (.aload_n 0, 1) := by decide +kernel
theorem dX1_keep_14 : decode cX1_keep 14 = .ok (.aload_n 0, 1) := by decide +kernel
theorem dX1_keep_15 : decode cX1_keep 15 = .ok (.getfield 22, 3) := by decide +kernel
theorem dX1_keep_18 : decode cX1_keep 18 = .ok (.iconst 1, 1) := by decide +kernel
theorem dX1_keep_19 : decode cX1_keep 19 = .ok (.iadd, 1) := by decide +kernel
theorem dX1_keep_20 : decode cX1_keep 20 = .ok (.bipush 8, 2) := by decide +kernel
theorem dX1_keep_22 : decode cX1_keep 22 = .ok (.invokestatic 25, 3) := by decide +kernel
theorem dX1_keep_25 : decode cX1_keep 25 = .ok (.putfield 22, 3) := by decide +kernel
theorem dX1_keep_28 : decode cX1_keep 28 = .ok (.aload_n 0, 1) := by decide +kernel
theorem dX1_keep_29 : decode cX1_keep 29 = .ok (.getfield 11, 3) := by decide +kernel
theorem dX1_keep_32 : decode cX1_keep 32 = .ok (.aload_n 0, 1) := by decide +kernel
theorem dX1_keep_33 : decode cX1_keep 33 = .ok (.getfield 18, 3) := by decide +kernel
theorem dX1_keep_36 : decode cX1_keep 36 = .ok (.aaload, 1) := by decide +kernel
theorem dX1_keep_37 : decode cX1_keep 37 = .ok (.aload_n 1, 1) := by decide +kernel
theorem dX1_keep_38 : decode cX1_keep 38 = .ok (.invokevirtual 31, 3) := by decide +kernel
theorem dX1_keep_41 : decode cX1_keep 41 = .ok (.return_, 1) := by decide +kernel
theorem dX1_takeBack_0 : decode cX1_takeBack 0 = .ok (.aload_n 1, 1) := by decide +kernel
theorem dX1_takeBack_1 : decode cX1_takeBack 1 = .ok (.aload_n 0, 1) := by decide +kernel
theorem dX1_takeBack_2 : decode cX1_takeBack 2 = .ok (.getfield 11, 3) := by decide +kernel
theorem dX1_takeBack_5 : decode cX1_takeBack 5 = .ok (.aload_n 0, 1) := by decide +kernel
theorem dX1_takeBack_6 : decode cX1_takeBack 6 = .ok (.getfield 18, 3) := by decide +kernel
theorem dX1_takeBack_9 : decode cX1_takeBack 9 = .ok (.aaload, 1) := by decide +kernel
theorem dX1_takeBack_10 : decode cX1_takeBack 10 = .ok (.invokevirtual 31, 3) := by decide +kernel
theorem dX1_takeBack_13 : decode cX1_takeBack 13 = .ok (.aload_n 0, 1) := by decide +kernel
theorem dX1_takeBack_14 : decode cX1_takeBack 14 = .ok (.aload_n 0, 1) := by decide +kernel
theorem dX1_takeBack_15 : decode cX1_takeBack 15 = .ok (.getfield 18, 3) := by decide +kernel
theorem dX1_takeBack_18 : decode cX1_takeBack 18 = .ok (.bipush 8, 2) := by decide +kernel
theorem dX1_takeBack_20 : decode cX1_takeBack 20 = .ok (.iadd, 1) := by decide +kernel
theorem dX1_takeBack_21 : decode cX1_takeBack 21 = .ok (.iconst 1, 1) := by decide +kernel
theorem dX1_takeBack_22 : decode cX1_takeBack 22 = .ok (.isub, 1) := by decide +kernel
theorem dX1_takeBack_23 : decode cX1_takeBack 23 = .ok (.bipush 8, 2) := by decide +kernel
theorem dX1_takeBack_25 : decode cX1_takeBack 25 = .ok (.irem, 1) := by decide +kernel
theorem dX1_takeBack_26 : decode cX1_takeBack 26 = .ok (.putfield 18, 3) := by decide +kernel
theorem dX1_takeBack_29 : decode cX1_takeBack 29 = .ok (.aload_n 0, 1) := by decide +kernel
theorem dX1_takeBack_30 : decode cX1_takeBack 30 = .ok (.dup, 1) := by decide +kernel
theorem dX1_takeBack_31 : decode cX1_takeBack 31 = .ok (.getfield 22, 3) := by decide +kernel
theorem dX1_takeBack_34 : decode cX1_takeBack 34 = .ok (.iconst 1, 1) := by decide +kernel
theorem dX1_takeBack_35 : decode cX1_takeBack 35 = .ok (.isub, 1) := by decide +kernel
theorem dX1_takeBack_36 : decode cX1_takeBack 36 = .ok (.putfield 22, 3) := by decide +kernel
theorem dX1_takeBack_39 : decode cX1_takeBack 39 = .ok (.return_, 1) := by decide +kernel
theorem dX2_init_0 : decode cX2_init 0 = .ok (.aload_n 0, 1) := by decide +kernel
theorem dX2_init_1 : decode cX2_init 1 = .ok (.invokespecial 3, 3) := by decide +kernel
theorem dX2_init_4 : decode cX2_init 4 = .ok (.aload_n 0, 1) := by decide +kernel
theorem dX2_init_5 : decode cX2_init 5 = .ok (.sipush 180, 3) := by decide +kernel
theorem dX2_init_8 : decode cX2_init 8 = .ok (.newarray .int, 2) := by decide +kernel
theorem dX2_init_10 : decode cX2_init 10 = .ok (.putfield 9, 3) := by decide +kernel
theorem dX2_init_13 : decode cX2_init 13 = .ok (.aload_n 0, 1) := by decide +kernel
theorem dX2_init_14 : decode cX2_init 14 = .ok (.sipush 180, 3) := by decide +kernel
theorem dX2_init_17 : decode cX2_init 17 = .ok (.newarray .int, 2) := by decide +kernel
theorem dX2_init_19 : decode cX2_init 19 = .ok (.putfield 15, 3) := by decide +kernel
theorem dX2_init_22 : decode cX2_init 22 = .ok (.aload_n 0, 1) := by decide +kernel
theorem dX2_init_23 : decode cX2_init 23 = .ok (.sipush 180, 3) := by decide +kernel
theorem dX2_init_26 : decode cX2_init 26 = .ok (.newarray .int, 2) := by decide +kernel
theorem dX2_init_28 : decode cX2_init 28 = .ok (.putfield 18, 3) := by decide +kernel
theorem dX2_init_31 : decode cX2_init 31 = .ok (.return_, 1) := by decide +kernel
theorem dX2_ofColour_0 : decode cX2_ofColour 0 = .ok (.aload_n 0, 1) := by decide +kernel
theorem dX2_ofColour_1 : decode cX2_ofColour 1 = .ok (.getfield 9, 3) := by decide +kernel
theorem dX2_ofColour_4 : decode cX2_ofColour 4 = .ok (.iconst 0, 1) := by decide +kernel
theorem dX2_ofColour_5 : decode cX2_ofColour 5 = .ok (.invokestatic 21, 3) := by decide +kernel
theorem dX2_ofColour_8 : decode cX2_ofColour 8 = .ok (.iconst 0, 1) := by decide +kernel
theorem dX2_ofColour_9 : decode cX2_ofColour 9 = .ok (.istore_n 3, 1) := by decide +kernel
theorem dX2_ofColour_10 : decode cX2_ofColour 10 = .ok (.iconst 0, 1) := by decide +kernel
theorem dX2_ofColour_11 : decode cX2_ofColour 11 = .ok (.istore 4, 2) := by decide +kernel
theorem dX2_ofColour_13 : decode cX2_ofColour 13 = .ok (.iload 4, 2) := by decide +kernel
theorem dX2_ofColour_15 : decode cX2_ofColour 15 = .ok (.aload_n 1, 1) := by decide +kernel
theorem dX2_ofColour_16 : decode cX2_ofColour 16 = .ok (.getfield 27, 3) := by decide +kernel
theorem dX2_ofColour_19 : decode cX2_ofColour 19 = .ok (.if_icmp .ge 77, 3) := by decide +kernel
theorem dX2_ofColour_22 : decode cX2_ofColour 22 = .ok (.aload_n 1, 1) := by decide +kernel
theorem dX2_ofColour_23 : decode cX2_ofColour 23 = .ok (.iload 4, 2) := by decide +kernel
theorem dX2_ofColour_25 : decode cX2_ofColour 25 = .ok (.invokevirtual 33, 3) := by decide +kernel
theorem dX2_ofColour_28 : decode cX2_ofColour 28 = .ok (.istore 5, 2) := by decide +kernel
theorem dX2_ofColour_30 : decode cX2_ofColour 30 = .ok (.iload 5, 2) := by decide +kernel
theorem dX2_ofColour_32 : decode cX2_ofColour 32 = .ok (.aload_n 1, 1) := by decide +kernel
theorem dX2_ofColour_33 : decode cX2_ofColour 33 = .ok (.iload 4, 2) := by decide +kernel
theorem dX2_ofColour_35 : decode cX2_ofColour 35 = .ok (.invokevirtual 37, 3) := by decide +kernel
theorem dX2_ofColour_38 : decode cX2_ofColour 38 = .ok (.if_icmp .gt 52, 3) := by decide +kernel
theorem dX2_ofColour_41 : decode cX2_ofColour 41 = .ok (.aload_n 1, 1) := by decide +kernel
theorem dX2_ofColour_42 : decode cX2_ofColour 42 = .ok (.iload 5, 2) := by decide +kernel
theorem dX2_ofColour_44 : decode cX2_ofColour 44 = .ok (.iload 4, 2) := by decide +kernel
theorem dX2_ofColour_46 : decode cX2_ofColour 46 = .ok (.invokevirtual 40, 3) := by decide +kernel
theorem dX2_ofColour_49 : decode cX2_ofColour 49 = .ok (.istore 6, 2) := by decide +kernel
theorem dX2_ofColour_51 : decode cX2_ofColour 51 = .ok (.aload_n 0, 1) := by decide +kernel
theorem dX2_ofColour_52 : decode cX2_ofColour 52 = .ok (.getfield 9, 3) := by decide +kernel
theorem dX2_ofColour_55 : decode cX2_ofColour 55 = .ok (.iload 6, 2) := by decide +kernel
theorem dX2_ofColour_57 : decode cX2_ofColour 57 = .ok (.iaload, 1) := by decide +kernel
theorem dX2_ofColour_58 : decode cX2_ofColour 58 = .ok (.ifCond .ne 26, 3) := by decide +kernel
theorem dX2_ofColour_61 : decode cX2_ofColour 61 = .ok (.aload_n 1, 1) := by decide +kernel
theorem dX2_ofColour_62 : decode cX2_ofColour 62 = .ok (.getfield 44, 3) := by decide +kernel
theorem dX2_ofColour_65 : decode cX2_ofColour 65 = .ok (.iload 6, 2) := by decide +kernel
theorem dX2_ofColour_67 : decode cX2_ofColour 67 = .ok (.iaload, 1) := by decide +kernel
theorem dX2_ofColour_68 : decode cX2_ofColour 68 = .ok (.iload_n 2, 1) := by decide +kernel
theorem dX2_ofColour_69 : decode cX2_ofColour 69 = .ok (.if_icmp .ne 15, 3) := by decide +kernel
theorem dX2_ofColour_72 : decode cX2_ofColour 72 = .ok (.aload_n 0, 1) := by decide +kernel
theorem dX2_ofColour_73 : decode cX2_ofColour 73 = .ok (.aload_n 1, 1) := by decide +kernel
theorem dX2_ofColour_74 : decode cX2_ofColour 74 = .ok (.iload 5, 2) := by decide +kernel
theorem dX2_ofColour_76 : decode cX2_ofColour 76 = .ok (.iload 4, 2) := by decide +kernel
theorem dX2_ofColour_78 : decode cX2_ofColour 78 = .ok (.invokevirtual 47, 3) := by decide +kernel
theorem dX2_ofColour_81 : decode cX2_ofColour 81 = .ok (.iinc 3 1, 3) := by decide +kernel
theorem dX2_ofColour_84 : decode cX2_ofColour 84 = .ok (.iinc 5 1, 3) := by decide +kernel
theorem dX2_ofColour_87 : decode cX2_ofColour 87 = .ok (.goto (-57), 3) := by decide +kernel
theorem dX2_ofColour_90 : decode cX2_ofColour 90 = .ok (.iinc 4 1, 3) := by decide +kernel
theorem dX2_ofColour_93 : decode cX2_ofColour 93 = .ok (.goto (-80), 3) := by decide +kernel
theorem dX2_ofColour_96 : decode cX2_ofColour 96 = .ok (.iload_n 3, 1) := by decide +kernel
theorem dX2_ofColour_97 : decode cX2_ofColour 97 = .ok (.ireturn, 1) := by decide +kernel
theorem dX2_fillFrom_0 : decode cX2_fillFrom 0 = .ok (.aload_n 0, 1) := by decide +kernel
theorem dX2_fillFrom_1 : decode cX2_fillFrom 1 = .ok (.getfield 9, 3) := by decide +kernel
theorem dX2_fillFrom_4 : decode cX2_fillFrom 4 = .ok (.iconst 0, 1) := by decide +kernel
theorem dX2_fillFrom_5 : decode cX2_fillFrom 5 = .ok (.invokestatic 21, 3) := by decide +kernel
theorem dX2_fillFrom_8 : decode cX2_fillFrom 8 = .ok (.aload_n 0, 1) := by decide +kernel
theorem dX2_fillFrom_9 : decode cX2_fillFrom 9 = .ok (.aload_n 1, 1) := by decide +kernel
theorem dX2_fillFrom_10 : decode cX2_fillFrom 10 = .ok (.iload_n 2, 1) := by decide +kernel
theorem dX2_fillFrom_11 : decode cX2_fillFrom 11 = .ok (.iload_n 3, 1) := by decide +kernel
theorem dX2_fillFrom_12 : decode cX2_fillFrom 12 = .ok (.invokevirtual 47, 3) := by decide +kernel
theorem dX2_fillFrom_15 : decode cX2_fillFrom 15 = .ok (.aload_n 0, 1) := by decide +kernel
theorem dX2_fillFrom_16 : decode cX2_fillFrom 16 = .ok (.getfield 51, 3) := by decide +kernel
theorem dX2_fillFrom_19 : decode cX2_fillFrom 19 = .ok (.ireturn, 1) := by decide +kernel
theorem dX2_makeFoundBare_0 : decode cX2_makeFoundBare 0 = .ok (.iconst 0, 1) := by decide +kernel
theorem dX2_makeFoundBare_1 : decode cX2_makeFoundBare 1 = .ok (.istore_n 2, 1) := by decide +kernel
theorem dX2_makeFoundBare_2 : decode cX2_makeFoundBare 2 = .ok (.iload_n 2, 1) := by decide +kernel
theorem dX2_makeFoundBare_3 : decode cX2_makeFoundBare 3 = .ok (.aload_n 0, 1) := by decide +kernel
theorem dX2_makeFoundBare_4 : decode cX2_makeFoundBare 4 = .ok (.getfield 51, 3) := by decide +kernel
theorem dX2_makeFoundBare_7 : decode cX2_makeFoundBare 7 = .ok (.if_icmp .ge 31, 3) := by decide +kernel
theorem dX2_makeFoundBare_10 : decode cX2_makeFoundBare 10 = .ok (.aload_n 1, 1) := by decide +kernel
theorem dX2_makeFoundBare_11 : decode cX2_makeFoundBare 11 = .ok (.aload_n 1, 1) := by decide +kernel
theorem dX2_makeFoundBare_12 : decode cX2_makeFoundBare 12 = .ok (.aload_n 0, 1) := by decide +kernel
theorem dX2_makeFoundBare_13 : decode cX2_makeFoundBare 13 = .ok (.getfield 15, 3) := by decide +kernel
theorem dX2_makeFoundBare_16 : decode cX2_makeFoundBare 16 = .ok (.iload_n 2, 1) := by decide +kernel
theorem dX2_makeFoundBare_17 : decode cX2_makeFoundBare 17 = .ok (.iaload, 1) := by decide +kernel
theorem dX2_makeFoundBare_18 : decode cX2_makeFoundBare 18 = .ok (.aload_n 0, 1) := by decide +kernel
theorem dX2_makeFoundBare_19 : decode cX2_makeFoundBare 19 = .ok (.getfield 18, 3) := by decide +kernel
theorem dX2_makeFoundBare_22 : decode cX2_makeFoundBare 22 = .ok (.iload_n 2, 1) := by decide +kernel
theorem dX2_makeFoundBare_23 : decode cX2_makeFoundBare 23 = .ok (.iaload, 1) := by decide +kernel
theorem dX2_makeFoundBare_24 : decode cX2_makeFoundBare 24 = .ok (.invokevirtual 40, 3) := by decide +kernel
theorem dX2_makeFoundBare_27 : decode cX2_makeFoundBare 27 = .ok (.iconst 0, 1) := by decide +kernel
theorem dX2_makeFoundBare_28 : decode cX2_makeFoundBare 28 = .ok (.iconst 0, 1) := by decide +kernel
theorem dX2_makeFoundBare_29 : decode cX2_makeFoundBare 29 = .ok (.invokevirtual 54, 3) := by decide +kernel
theorem dX2_makeFoundBare_32 : decode cX2_makeFoundBare 32 = .ok (.iinc 2 1, 3) := by decide +kernel
theorem dX2_makeFoundBare_35 : decode cX2_makeFoundBare 35 = .ok (.goto (-33), 3) := by decide +kernel
theorem dX2_makeFoundBare_38 : decode cX2_makeFoundBare 38 = .ok (.return_, 1) := by decide +kernel
theorem dX2_spread_0 : decode cX2_spread 0 = .ok (.aload_n 0, 1) := by decide +kernel
theorem dX2_spread_1 : decode cX2_spread 1 = .ok (.iconst 0, 1) := by decide +kernel
theorem dX2_spread_2 : decode cX2_spread 2 = .ok (.putfield 51, 3) := by decide +kernel
theorem dX2_spread_5 : decode cX2_spread 5 = .ok (.aload_n 1, 1) := by decide +kernel
theorem dX2_spread_6 : decode cX2_spread 6 = .ok (.getfield 44, 3) := by decide +kernel
theorem dX2_spread_9 : decode cX2_spread 9 = .ok (.aload_n 1, 1) := by decide +kernel
theorem dX2_spread_10 : decode cX2_spread 10 = .ok (.iload_n 2, 1) := by decide +kernel
theorem dX2_spread_11 : decode cX2_spread 11 = .ok (.iload_n 3, 1) := by decide +kernel
theorem dX2_spread_12 : decode cX2_spread 12 = .ok (.invokevirtual 40, 3) := by decide +kernel
theorem dX2_spread_15 : decode cX2_spread 15 = .ok (.iaload, 1) := by decide +kernel
theorem dX2_spread_16 : decode cX2_spread 16 = .ok (.istore 4, 2) := by decide +kernel
theorem dX2_spread_18 : decode cX2_spread 18 = .ok (.aload_n 0, 1) := by decide +kernel
theorem dX2_spread_19 : decode cX2_spread 19 = .ok (.aload_n 1, 1) := by decide +kernel
theorem dX2_spread_20 : decode cX2_spread 20 = .ok (.iload_n 2, 1) := by decide +kernel
theorem dX2_spread_21 : decode cX2_spread 21 = .ok (.iload_n 3, 1) := by decide +kernel
theorem dX2_spread_22 : decode cX2_spread 22 = .ok (.iload 4, 2) := by decide +kernel
theorem dX2_spread_24 : decode cX2_spread 24 = .ok (.invokevirtual 58, 3) := by decide +kernel
theorem dX2_spread_27 : decode cX2_spread 27 = .ok (.iconst 0, 1) := by decide +kernel
theorem dX2_spread_28 : decode cX2_spread 28 = .ok (.istore 5, 2) := by decide +kernel
theorem dX2_spread_30 : decode cX2_spread 30 = .ok (.iload 5, 2) := by decide +kernel
theorem dX2_spread_32 : decode cX2_spread 32 = .ok (.aload_n 0, 1) := by decide +kernel
theorem dX2_spread_33 : decode cX2_spread 33 = .ok (.getfield 51, 3) := by decide +kernel
theorem dX2_spread_36 : decode cX2_spread 36 = .ok (.if_icmp .ge 62, 3) := by decide +kernel
theorem dX2_spread_39 : decode cX2_spread 39 = .ok (.iconst 0, 1) := by decide +kernel
theorem dX2_spread_40 : decode cX2_spread 40 = .ok (.istore 6, 2) := by decide +kernel
theorem dX2_spread_42 : decode cX2_spread 42 = .ok (.iload 6, 2) := by decide +kernel
theorem dX2_spread_44 : decode cX2_spread 44 = .ok (.getstatic 62, 3) := by decide +kernel
theorem dX2_spread_47 : decode cX2_spread 47 = .ok (.arraylength, 1) := by decide +kernel
theorem dX2_spread_48 : decode cX2_spread 48 = .ok (.if_icmp .ge 44, 3) := by decide +kernel
theorem dX2_spread_51 : decode cX2_spread 51 = .ok (.aload_n 0, 1) := by decide +kernel
theorem dX2_spread_52 : decode cX2_spread 52 = .ok (.aload_n 1, 1) := by decide +kernel
theorem dX2_spread_53 : decode cX2_spread 53 = .ok (.aload_n 0, 1) := by decide +kernel
theorem dX2_spread_54 : decode cX2_spread 54 = .ok (.getfield 15, 3) := by decide +kernel
theorem dX2_spread_57 : decode cX2_spread 57 = .ok (.iload 5, 2) := by decide +kernel
theorem dX2_spread_59 : decode cX2_spread 59 = .ok (.iaload, 1) := by decide +kernel
theorem dX2_spread_60 : decode cX2_spread 60 = .ok (.getstatic 62, 3) := by decide +kernel
theorem dX2_spread_63 : decode cX2_spread 63 = .ok (.iload 6, 2) := by decide +kernel
theorem dX2_spread_65 : decode cX2_spread 65 = .ok (.iaload, 1) := by decide +kernel
theorem dX2_spread_66 : decode cX2_spread 66 = .ok (.iadd, 1) := by decide +kernel
theorem dX2_spread_67 : decode cX2_spread 67 = .ok (.aload_n 0, 1) := by decide +kernel
theorem dX2_spread_68 : decode cX2_spread 68 = .ok (.getfield 18, 3) := by decide +kernel
theorem dX2_spread_71 : decode cX2_spread 71 = .ok (.iload 5, 2) := by decide +kernel
theorem dX2_spread_73 : decode cX2_spread 73 = .ok (.iaload, 1) := by decide +kernel
theorem dX2_spread_74 : decode cX2_spread 74 = .ok (.getstatic 65, 3) := by decide +kernel
theorem dX2_spread_77 : decode cX2_spread 77 = .ok (.iload 6, 2) := by decide +kernel
theorem dX2_spread_79 : decode cX2_spread 79 = .ok (.iaload, 1) := by decide +kernel
theorem dX2_spread_80 : decode cX2_spread 80 = .ok (.iadd, 1) := by decide +kernel
theorem dX2_spread_81 : decode cX2_spread 81 = .ok (.iload 4, 2) := by decide +kernel
theorem dX2_spread_83 : decode cX2_spread 83 = .ok (.invokevirtual 58, 3) := by decide +kernel
theorem dX2_spread_86 : decode cX2_spread 86 = .ok (.iinc 6 1, 3) := by decide +kernel
theorem dX2_spread_89 : decode cX2_spread 89 = .ok (.goto (-47), 3) := by decide +kernel
theorem dX2_spread_92 : decode cX2_spread 92 = .ok (.iinc 5 1, 3) := by decide +kernel
theorem dX2_spread_95 : decode cX2_spread 95 = .ok (.goto (-65), 3) := by decide +kernel
theorem dX2_spread_98 : decode cX2_spread 98 = .ok (.return_, 1) := by decide +kernel
theorem dX2_visit_0 : decode cX2_visit 0 = .ok (.aload_n 1, 1) := by decide +kernel
theorem dX2_visit_1 : decode cX2_visit 1 = .ok (.iload_n 2, 1) := by decide +kernel
theorem dX2_visit_2 : decode cX2_visit 2 = .ok (.iload_n 3, 1) := by decide +kernel
theorem dX2_visit_3 : decode cX2_visit 3 = .ok (.invokevirtual 68, 3) := by decide +kernel
theorem dX2_visit_6 : decode cX2_visit 6 = .ok (.ifCond .ne 4, 3) := by decide +kernel
theorem dX2_visit_9 : decode cX2_visit 9 = .ok (.return_, 1) := by decide +kernel
theorem dX2_visit_10 : decode cX2_visit 10 = .ok (.aload_n 1, 1) := by decide +kernel
theorem dX2_visit_11 : decode cX2_visit 11 = .ok (.iload_n 2, 1) := by decide +kernel
theorem dX2_visit_12 : decode cX2_visit 12 = .ok (.iload_n 3, 1) := by decide +kernel
theorem dX2_visit_13 : decode cX2_visit 13 = .ok (.invokevirtual 40, 3) := by decide +kernel
theorem dX2_visit_16 : decode cX2_visit 16 = .ok (.istore 5, 2) := by decide +kernel
theorem dX2_visit_18 : decode cX2_visit 18 = .ok (.aload_n 0, 1) := by decide +kernel
theorem dX2_visit_19 : decode cX2_visit 19 = .ok (.getfield 9, 3) := by decide +kernel
theorem dX2_visit_22 : decode cX2_visit 22 = .ok (.iload 5, 2) := by decide +kernel
theorem dX2_visit_24 : decode cX2_visit 24 = .ok (.iaload, 1) := by decide +kernel
theorem dX2_visit_25 : decode cX2_visit 25 = .ok (.iconst 1, 1) := by decide +kernel
theorem dX2_visit_26 : decode cX2_visit 26 = .ok (.if_icmp .eq 25, 3) := by decide +kernel
theorem dX2_visit_29 : decode cX2_visit 29 = .ok (.aload_n 1, 1) := by decide +kernel
theorem dX2_visit_30 : decode cX2_visit 30 = .ok (.getfield 44, 3) := by decide +kernel
theorem dX2_visit_33 : decode cX2_visit 33 = .ok (.iload 5, 2) := by decide +kernel
theorem dX2_visit_35 : decode cX2_visit 35 = .ok (.iaload, 1) := by decide +kernel
theorem dX2_visit_36 : decode cX2_visit 36 = .ok (.iload 4, 2) := by decide +kernel
theorem dX2_visit_38 : decode cX2_visit 38 = .ok (.if_icmp .ne 13, 3) := by decide +kernel
theorem dX2_visit_41 : decode cX2_visit 41 = .ok (.aload_n 0, 1) := by decide +kernel
theorem dX2_visit_42 : decode cX2_visit 42 = .ok (.getfield 51, 3) := by decide +kernel
theorem dX2_visit_45 : decode cX2_visit 45 = .ok (.sipush 180, 3) := by decide +kernel
theorem dX2_visit_48 : decode cX2_visit 48 = .ok (.if_icmp .lt 4, 3) := by decide +kernel
theorem dX2_visit_51 : decode cX2_visit 51 = .ok (.return_, 1) := by decide +kernel
theorem dX2_visit_52 : decode cX2_visit 52 = .ok (.aload_n 0, 1) := by decide +kernel
theorem dX2_visit_53 : decode cX2_visit 53 = .ok (.getfield 9, 3) := by decide +kernel
theorem dX2_visit_56 : decode cX2_visit 56 = .ok (.iload 5, 2) := by decide +kernel
theorem dX2_visit_58 : decode cX2_visit 58 = .ok (.iconst 1, 1) := by decide +kernel
theorem dX2_visit_59 : decode cX2_visit 59 = .ok (.iastore, 1) := by decide +kernel
theorem dX2_visit_60 : decode cX2_visit 60 = .ok (.aload_n 0, 1) := by decide +kernel
theorem dX2_visit_61 : decode cX2_visit 61 = .ok (.getfield 15, 3) := by decide +kernel
theorem dX2_visit_64 : decode cX2_visit 64 = .ok (.aload_n 0, 1) := by decide +kernel
theorem dX2_visit_65 : decode cX2_visit 65 = .ok (.getfield 51, 3) := by decide +kernel
theorem dX2_visit_68 : decode cX2_visit 68 = .ok (.iload_n 2, 1) := by decide +kernel
theorem dX2_visit_69 : decode cX2_visit 69 = .ok (.iastore, 1) := by decide +kernel
theorem dX2_visit_70 : decode cX2_visit 70 = .ok (.aload_n 0, 1) := by decide +kernel
theorem dX2_visit_71 : decode cX2_visit 71 = .ok (.getfield 18, 3) := by decide +kernel
theorem dX2_visit_74 : decode cX2_visit 74 = .ok (.aload_n 0, 1) := by decide +kernel
theorem dX2_visit_75 : decode cX2_visit 75 = .ok (.getfield 51, 3) := by decide +kernel
theorem dX2_visit_78 : decode cX2_visit 78 = .ok (.iload_n 3, 1) := by decide +kernel
theorem dX2_visit_79 : decode cX2_visit 79 = .ok (.iastore, 1) := by decide +kernel
theorem dX2_visit_80 : decode cX2_visit 80 = .ok (.aload_n 0, 1) := by decide +kernel
theorem dX2_visit_81 : decode cX2_visit 81 = .ok (.dup, 1) := by decide +kernel
theorem dX2_visit_82 : decode cX2_visit 82 = .ok (.getfield 51, 3) := by decide +kernel
theorem dX2_visit_85 : decode cX2_visit 85 = .ok (.iconst 1, 1) := by decide +kernel
theorem dX2_visit_86 : decode cX2_visit 86 = .ok (.iadd, 1) := by decide +kernel
theorem dX2_visit_87 : decode cX2_visit 87 = .ok (.putfield 51, 3) := by decide +kernel
theorem dX2_visit_90 : decode cX2_visit 90 = .ok (.return_, 1) := by decide +kernel
theorem dX3_init_0 : decode cX3_init 0 = .ok (.aload_n 0, 1) := by decide +kernel
theorem dX3_init_1 : decode cX3_init 1 = .ok (.invokespecial 3, 3) := by decide +kernel
theorem dX3_init_4 : decode cX3_init 4 = .ok (.aload_n 0, 1) := by decide +kernel
theorem dX3_init_5 : decode cX3_init 5 = .ok (.bipush 12, 2) := by decide +kernel
theorem dX3_init_7 : decode cX3_init 7 = .ok (.newarray .int, 2) := by decide +kernel
theorem dX3_init_9 : decode cX3_init 9 = .ok (.putfield 9, 3) := by decide +kernel
theorem dX3_init_12 : decode cX3_init 12 = .ok (.aload_n 0, 1) := by decide +kernel
theorem dX3_init_13 : decode cX3_init 13 = .ok (.bipush 7, 2) := by decide +kernel
theorem dX3_init_15 : decode cX3_init 15 = .ok (.newarray .int, 2) := by decide +kernel
theorem dX3_init_17 : decode cX3_init 17 = .ok (.putfield 15, 3) := by decide +kernel
theorem dX3_init_20 : decode cX3_init 20 = .ok (.aload_n 0, 1) := by decide +kernel
theorem dX3_init_21 : decode cX3_init 21 = .ok (.bipush 49, 2) := by decide +kernel
theorem dX3_init_23 : decode cX3_init 23 = .ok (.newarray .int, 2) := by decide +kernel
theorem dX3_init_25 : decode cX3_init 25 = .ok (.putfield 18, 3) := by decide +kernel
theorem dX3_init_28 : decode cX3_init 28 = .ok (.aload_n 0, 1) := by decide +kernel
theorem dX3_init_29 : decode cX3_init 29 = .ok (.iconst 3, 1) := by decide +kernel
theorem dX3_init_30 : decode cX3_init 30 = .ok (.newarray .int, 2) := by decide +kernel
theorem dX3_init_32 : decode cX3_init 32 = .ok (.putfield 21, 3) := by decide +kernel
theorem dX3_init_35 : decode cX3_init 35 = .ok (.aload_n 0, 1) := by decide +kernel
theorem dX3_init_36 : decode cX3_init 36 = .ok (.iconst 3, 1) := by decide +kernel
theorem dX3_init_37 : decode cX3_init 37 = .ok (.newarray .int, 2) := by decide +kernel
theorem dX3_init_39 : decode cX3_init 39 = .ok (.putfield 24, 3) := by decide +kernel
theorem dX3_init_42 : decode cX3_init 42 = .ok (.aload_n 0, 1) := by decide +kernel
theorem dX3_init_43 : decode cX3_init 43 = .ok (.bipush 126, 2) := by decide +kernel
theorem dX3_init_45 : decode cX3_init 45 = .ok (.newarray .int, 2) := by decide +kernel
theorem dX3_init_47 : decode cX3_init 47 = .ok (.putfield 27, 3) := by decide +kernel
theorem dX3_init_50 : decode cX3_init 50 = .ok (.aload_n 0, 1) := by decide +kernel
theorem dX3_init_51 : decode cX3_init 51 = .ok (.sipush 180, 3) := by decide +kernel
theorem dX3_init_54 : decode cX3_init 54 = .ok (.newarray .int, 2) := by decide +kernel
theorem dX3_init_56 : decode cX3_init 56 = .ok (.putfield 30, 3) := by decide +kernel
theorem dX3_init_59 : decode cX3_init 59 = .ok (.aload_n 0, 1) := by decide +kernel
theorem dX3_init_60 : decode cX3_init 60 = .ok (.sipush 180, 3) := by decide +kernel
theorem dX3_init_63 : decode cX3_init 63 = .ok (.newarray .int, 2) := by decide +kernel
theorem dX3_init_65 : decode cX3_init 65 = .ok (.putfield 33, 3) := by decide +kernel
theorem dX3_init_68 : decode cX3_init 68 = .ok (.aload_n 0, 1) := by decide +kernel
theorem dX3_init_69 : decode cX3_init 69 = .ok (.sipush 180, 3) := by decide +kernel
theorem dX3_init_72 : decode cX3_init 72 = .ok (.newarray .int, 2) := by decide +kernel
theorem dX3_init_74 : decode cX3_init 74 = .ok (.putfield 36, 3) := by decide +kernel
theorem dX3_init_77 : decode cX3_init 77 = .ok (.aload_n 0, 1) := by decide +kernel
theorem dX3_init_78 : decode cX3_init 78 = .ok (.iconst 5, 1) := by decide +kernel
theorem dX3_init_79 : decode cX3_init 79 = .ok (.iconst 5, 1) := by decide +kernel
theorem dX3_init_80 : decode cX3_init 80 = .ok (.invokevirtual 39, 3) := by decide +kernel
theorem dX3_init_83 : decode cX3_init 83 = .ok (.return_, 1) := by decide +kernel
theorem dX3_beginAnew_0 : decode cX3_beginAnew 0 = .ok (.aload_n 0, 1) := by decide +kernel
theorem dX3_beginAnew_1 : decode cX3_beginAnew 1 = .ok (.iload_n 1, 1) := by decide +kernel
theorem dX3_beginAnew_2 : decode cX3_beginAnew 2 = .ok (.putfield 43, 3) := by decide +kernel
theorem dX3_beginAnew_5 : decode cX3_beginAnew 5 = .ok (.aload_n 0, 1) := by decide +kernel
theorem dX3_beginAnew_6 : decode cX3_beginAnew 6 = .ok (.iload_n 2, 1) := by decide +kernel
theorem dX3_beginAnew_7 : decode cX3_beginAnew 7 = .ok (.putfield 47, 3) := by decide +kernel
theorem dX3_beginAnew_10 : decode cX3_beginAnew 10 = .ok (.aload_n 0, 1) := by decide +kernel
theorem dX3_beginAnew_11 : decode cX3_beginAnew 11 = .ok (.iconst 0, 1) := by decide +kernel
theorem dX3_beginAnew_12 : decode cX3_beginAnew 12 = .ok (.putfield 50, 3) := by decide +kernel
theorem dX3_beginAnew_15 : decode cX3_beginAnew 15 = .ok (.aload_n 0, 1) := by decide +kernel
theorem dX3_beginAnew_16 : decode cX3_beginAnew 16 = .ok (.iconst 1, 1) := by decide +kernel
theorem dX3_beginAnew_17 : decode cX3_beginAnew 17 = .ok (.putfield 53, 3) := by decide +kernel
theorem dX3_beginAnew_20 : decode cX3_beginAnew 20 = .ok (.aload_n 0, 1) := by decide +kernel
theorem dX3_beginAnew_21 : decode cX3_beginAnew 21 = .ok (.iconst 5, 1) := by decide +kernel
theorem dX3_beginAnew_22 : decode cX3_beginAnew 22 = .ok (.putfield 56, 3) := by decide +kernel
theorem dX3_beginAnew_25 : decode cX3_beginAnew 25 = .ok (.aload_n 0, 1) := by decide +kernel
theorem dX3_beginAnew_26 : decode cX3_beginAnew 26 = .ok (.iconst 0, 1) := by decide +kernel
theorem dX3_beginAnew_27 : decode cX3_beginAnew 27 = .ok (.putfield 59, 3) := by decide +kernel
theorem dX3_beginAnew_30 : decode cX3_beginAnew 30 = .ok (.aload_n 0, 1) := by decide +kernel
theorem dX3_beginAnew_31 : decode cX3_beginAnew 31 = .ok (.getfield 9, 3) := by decide +kernel
theorem dX3_beginAnew_34 : decode cX3_beginAnew 34 = .ok (.iload_n 1, 1) := by decide +kernel
theorem dX3_beginAnew_35 : decode cX3_beginAnew 35 = .ok (.iconst 2, 1) := by decide +kernel
theorem dX3_beginAnew_36 : decode cX3_beginAnew 36 = .ok (.idiv, 1) := by decide +kernel
theorem dX3_beginAnew_37 : decode cX3_beginAnew 37 = .ok (.invokestatic 62, 3) := by decide +kernel
theorem dX3_beginAnew_40 : decode cX3_beginAnew 40 = .ok (.aload_n 0, 1) := by decide +kernel
theorem dX3_beginAnew_41 : decode cX3_beginAnew 41 = .ok (.getfield 15, 3) := by decide +kernel
theorem dX3_beginAnew_44 : decode cX3_beginAnew 44 = .ok (.iconst 2, 1) := by decide +kernel
theorem dX3_beginAnew_45 : decode cX3_beginAnew 45 = .ok (.invokestatic 62, 3) := by decide +kernel
theorem dX3_beginAnew_48 : decode cX3_beginAnew 48 = .ok (.aload_n 0, 1) := by decide +kernel
theorem dX3_beginAnew_49 : decode cX3_beginAnew 49 = .ok (.getfield 15, 3) := by decide +kernel
theorem dX3_beginAnew_52 : decode cX3_beginAnew 52 = .ok (.iconst 0, 1) := by decide +kernel
theorem dX3_beginAnew_53 : decode cX3_beginAnew 53 = .ok (.iconst 0, 1) := by decide +kernel
theorem dX3_beginAnew_54 : decode cX3_beginAnew 54 = .ok (.iastore, 1) := by decide +kernel
theorem dX3_beginAnew_55 : decode cX3_beginAnew 55 = .ok (.aload_n 0, 1) := by decide +kernel
theorem dX3_beginAnew_56 : decode cX3_beginAnew 56 = .ok (.getfield 18, 3) := by decide +kernel
theorem dX3_beginAnew_59 : decode cX3_beginAnew 59 = .ok (.iconst 0, 1) := by decide +kernel
theorem dX3_beginAnew_60 : decode cX3_beginAnew 60 = .ok (.invokestatic 62, 3) := by decide +kernel
theorem dX3_beginAnew_63 : decode cX3_beginAnew 63 = .ok (.aload_n 0, 1) := by decide +kernel
theorem dX3_beginAnew_64 : decode cX3_beginAnew 64 = .ok (.getfield 21, 3) := by decide +kernel
theorem dX3_beginAnew_67 : decode cX3_beginAnew 67 = .ok (.iconst 0, 1) := by decide +kernel
theorem dX3_beginAnew_68 : decode cX3_beginAnew 68 = .ok (.invokestatic 62, 3) := by decide +kernel
theorem dX3_beginAnew_71 : decode cX3_beginAnew 71 = .ok (.aload_n 0, 1) := by decide +kernel
theorem dX3_beginAnew_72 : decode cX3_beginAnew 72 = .ok (.getfield 24, 3) := by decide +kernel
theorem dX3_beginAnew_75 : decode cX3_beginAnew 75 = .ok (.iconst 0, 1) := by decide +kernel
theorem dX3_beginAnew_76 : decode cX3_beginAnew 76 = .ok (.invokestatic 62, 3) := by decide +kernel
theorem dX3_beginAnew_79 : decode cX3_beginAnew 79 = .ok (.aload_n 0, 1) := by decide +kernel
theorem dX3_beginAnew_80 : decode cX3_beginAnew 80 = .ok (.getfield 27, 3) := by decide +kernel
theorem dX3_beginAnew_83 : decode cX3_beginAnew 83 = .ok (.iconst 0, 1) := by decide +kernel
theorem dX3_beginAnew_84 : decode cX3_beginAnew 84 = .ok (.invokestatic 62, 3) := by decide +kernel
theorem dX3_beginAnew_87 : decode cX3_beginAnew 87 = .ok (.aload_n 0, 1) := by decide +kernel
theorem dX3_beginAnew_88 : decode cX3_beginAnew 88 = .ok (.getfield 30, 3) := by decide +kernel
theorem dX3_beginAnew_91 : decode cX3_beginAnew 91 = .ok (.iconst 0, 1) := by decide +kernel
theorem dX3_beginAnew_92 : decode cX3_beginAnew 92 = .ok (.invokestatic 62, 3) := by decide +kernel
theorem dX3_beginAnew_95 : decode cX3_beginAnew 95 = .ok (.aload_n 0, 1) := by decide +kernel
theorem dX3_beginAnew_96 : decode cX3_beginAnew 96 = .ok (.getfield 33, 3) := by decide +kernel
theorem dX3_beginAnew_99 : decode cX3_beginAnew 99 = .ok (.iconst 0, 1) := by decide +kernel
theorem dX3_beginAnew_100 : decode cX3_beginAnew 100 = .ok (.invokestatic 62, 3) := by decide +kernel
theorem dX3_beginAnew_103 : decode cX3_beginAnew 103 = .ok (.aload_n 0, 1) := by decide +kernel
theorem dX3_beginAnew_104 : decode cX3_beginAnew 104 = .ok (.getfield 36, 3) := by decide +kernel
theorem dX3_beginAnew_107 : decode cX3_beginAnew 107 = .ok (.iconst 0, 1) := by decide +kernel
theorem dX3_beginAnew_108 : decode cX3_beginAnew 108 = .ok (.invokestatic 62, 3) := by decide +kernel
theorem dX3_beginAnew_111 : decode cX3_beginAnew 111 = .ok (.return_, 1) := by decide +kernel
theorem dX3_copyFrom_0 : decode cX3_copyFrom 0 = .ok (.aload_n 0, 1) := by decide +kernel
theorem dX3_copyFrom_1 : decode cX3_copyFrom 1 = .ok (.aload_n 1, 1) := by decide +kernel
theorem dX3_copyFrom_2 : decode cX3_copyFrom 2 = .ok (.getfield 43, 3) := by decide +kernel
theorem dX3_copyFrom_5 : decode cX3_copyFrom 5 = .ok (.putfield 43, 3) := by decide +kernel
theorem dX3_copyFrom_8 : decode cX3_copyFrom 8 = .ok (.aload_n 0, 1) := by decide +kernel
theorem dX3_copyFrom_9 : decode cX3_copyFrom 9 = .ok (.aload_n 1, 1) := by decide +kernel
theorem dX3_copyFrom_10 : decode cX3_copyFrom 10 = .ok (.getfield 47, 3) := by decide +kernel
theorem dX3_copyFrom_13 : decode cX3_copyFrom 13 = .ok (.putfield 47, 3) := by decide +kernel
theorem dX3_copyFrom_16 : decode cX3_copyFrom 16 = .ok (.aload_n 0, 1) := by decide +kernel
theorem dX3_copyFrom_17 : decode cX3_copyFrom 17 = .ok (.aload_n 1, 1) := by decide +kernel
theorem dX3_copyFrom_18 : decode cX3_copyFrom 18 = .ok (.getfield 50, 3) := by decide +kernel
theorem dX3_copyFrom_21 : decode cX3_copyFrom 21 = .ok (.putfield 50, 3) := by decide +kernel
theorem dX3_copyFrom_24 : decode cX3_copyFrom 24 = .ok (.aload_n 0, 1) := by decide +kernel
theorem dX3_copyFrom_25 : decode cX3_copyFrom 25 = .ok (.aload_n 1, 1) := by decide +kernel
theorem dX3_copyFrom_26 : decode cX3_copyFrom 26 = .ok (.getfield 53, 3) := by decide +kernel
theorem dX3_copyFrom_29 : decode cX3_copyFrom 29 = .ok (.putfield 53, 3) := by decide +kernel
theorem dX3_copyFrom_32 : decode cX3_copyFrom 32 = .ok (.aload_n 0, 1) := by decide +kernel
theorem dX3_copyFrom_33 : decode cX3_copyFrom 33 = .ok (.aload_n 1, 1) := by decide +kernel
theorem dX3_copyFrom_34 : decode cX3_copyFrom 34 = .ok (.getfield 56, 3) := by decide +kernel
theorem dX3_copyFrom_37 : decode cX3_copyFrom 37 = .ok (.putfield 56, 3) := by decide +kernel
theorem dX3_copyFrom_40 : decode cX3_copyFrom 40 = .ok (.aload_n 0, 1) := by decide +kernel
theorem dX3_copyFrom_41 : decode cX3_copyFrom 41 = .ok (.aload_n 1, 1) := by decide +kernel
theorem dX3_copyFrom_42 : decode cX3_copyFrom 42 = .ok (.getfield 59, 3) := by decide +kernel
theorem dX3_copyFrom_45 : decode cX3_copyFrom 45 = .ok (.putfield 59, 3) := by decide +kernel
theorem dX3_copyFrom_48 : decode cX3_copyFrom 48 = .ok (.aload_n 1, 1) := by decide +kernel
theorem dX3_copyFrom_49 : decode cX3_copyFrom 49 = .ok (.getfield 9, 3) := by decide +kernel
theorem dX3_copyFrom_52 : decode cX3_copyFrom 52 = .ok (.iconst 0, 1) := by decide +kernel
theorem dX3_copyFrom_53 : decode cX3_copyFrom 53 = .ok (.aload_n 0, 1) := by decide +kernel
theorem dX3_copyFrom_54 : decode cX3_copyFrom 54 = .ok (.getfield 9, 3) := by decide +kernel
theorem dX3_copyFrom_57 : decode cX3_copyFrom 57 = .ok (.iconst 0, 1) := by decide +kernel
theorem dX3_copyFrom_58 : decode cX3_copyFrom 58 = .ok (.aload_n 0, 1) := by decide +kernel
theorem dX3_copyFrom_59 : decode cX3_copyFrom 59 = .ok (.getfield 9, 3) := by decide +kernel
theorem dX3_copyFrom_62 : decode cX3_copyFrom 62 = .ok (.arraylength, 1) := by decide +kernel
theorem dX3_copyFrom_63 : decode cX3_copyFrom 63 = .ok (.invokestatic 68, 3) := by decide +kernel
theorem dX3_copyFrom_66 : decode cX3_copyFrom 66 = .ok (.aload_n 1, 1) := by decide +kernel
theorem dX3_copyFrom_67 : decode cX3_copyFrom 67 = .ok (.getfield 15, 3) := by decide +kernel
theorem dX3_copyFrom_70 : decode cX3_copyFrom 70 = .ok (.iconst 0, 1) := by decide +kernel
theorem dX3_copyFrom_71 : decode cX3_copyFrom 71 = .ok (.aload_n 0, 1) := by decide +kernel
theorem dX3_copyFrom_72 : decode cX3_copyFrom 72 = .ok (.getfield 15, 3) := by decide +kernel
theorem dX3_copyFrom_75 : decode cX3_copyFrom 75 = .ok (.iconst 0, 1) := by decide +kernel
theorem dX3_copyFrom_76 : decode cX3_copyFrom 76 = .ok (.aload_n 0, 1) := by decide +kernel
theorem dX3_copyFrom_77 : decode cX3_copyFrom 77 = .ok (.getfield 15, 3) := by decide +kernel
theorem dX3_copyFrom_80 : decode cX3_copyFrom 80 = .ok (.arraylength, 1) := by decide +kernel
theorem dX3_copyFrom_81 : decode cX3_copyFrom 81 = .ok (.invokestatic 68, 3) := by decide +kernel
theorem dX3_copyFrom_84 : decode cX3_copyFrom 84 = .ok (.aload_n 1, 1) := by decide +kernel
theorem dX3_copyFrom_85 : decode cX3_copyFrom 85 = .ok (.getfield 18, 3) := by decide +kernel
theorem dX3_copyFrom_88 : decode cX3_copyFrom 88 = .ok (.iconst 0, 1) := by decide +kernel
theorem dX3_copyFrom_89 : decode cX3_copyFrom 89 = .ok (.aload_n 0, 1) := by decide +kernel
theorem dX3_copyFrom_90 : decode cX3_copyFrom 90 = .ok (.getfield 18, 3) := by decide +kernel
theorem dX3_copyFrom_93 : decode cX3_copyFrom 93 = .ok (.iconst 0, 1) := by decide +kernel
theorem dX3_copyFrom_94 : decode cX3_copyFrom 94 = .ok (.aload_n 0, 1) := by decide +kernel
theorem dX3_copyFrom_95 : decode cX3_copyFrom 95 = .ok (.getfield 18, 3) := by decide +kernel
theorem dX3_copyFrom_98 : decode cX3_copyFrom 98 = .ok (.arraylength, 1) := by decide +kernel
theorem dX3_copyFrom_99 : decode cX3_copyFrom 99 = .ok (.invokestatic 68, 3) := by decide +kernel
theorem dX3_copyFrom_102 : decode cX3_copyFrom 102 = .ok (.aload_n 1, 1) := by decide +kernel
theorem dX3_copyFrom_103 : decode cX3_copyFrom 103 = .ok (.getfield 21, 3) := by decide +kernel
theorem dX3_copyFrom_106 : decode cX3_copyFrom 106 = .ok (.iconst 0, 1) := by decide +kernel
theorem dX3_copyFrom_107 : decode cX3_copyFrom 107 = .ok (.aload_n 0, 1) := by decide +kernel
theorem dX3_copyFrom_108 : decode cX3_copyFrom 108 = .ok (.getfield 21, 3) := by decide +kernel
theorem dX3_copyFrom_111 : decode cX3_copyFrom 111 = .ok (.iconst 0, 1) := by decide +kernel
theorem dX3_copyFrom_112 : decode cX3_copyFrom 112 = .ok (.aload_n 0, 1) := by decide +kernel
theorem dX3_copyFrom_113 : decode cX3_copyFrom 113 = .ok (.getfield 21, 3) := by decide +kernel
theorem dX3_copyFrom_116 : decode cX3_copyFrom 116 = .ok (.arraylength, 1) := by decide +kernel
theorem dX3_copyFrom_117 : decode cX3_copyFrom 117 = .ok (.invokestatic 68, 3) := by decide +kernel
theorem dX3_copyFrom_120 : decode cX3_copyFrom 120 = .ok (.aload_n 1, 1) := by decide +kernel
theorem dX3_copyFrom_121 : decode cX3_copyFrom 121 = .ok (.getfield 24, 3) := by decide +kernel
theorem dX3_copyFrom_124 : decode cX3_copyFrom 124 = .ok (.iconst 0, 1) := by decide +kernel
theorem dX3_copyFrom_125 : decode cX3_copyFrom 125 = .ok (.aload_n 0, 1) := by decide +kernel
theorem dX3_copyFrom_126 : decode cX3_copyFrom 126 = .ok (.getfield 24, 3) := by decide +kernel
theorem dX3_copyFrom_129 : decode cX3_copyFrom 129 = .ok (.iconst 0, 1) := by decide +kernel
theorem dX3_copyFrom_130 : decode cX3_copyFrom 130 = .ok (.aload_n 0, 1) := by decide +kernel
theorem dX3_copyFrom_131 : decode cX3_copyFrom 131 = .ok (.getfield 24, 3) := by decide +kernel
theorem dX3_copyFrom_134 : decode cX3_copyFrom 134 = .ok (.arraylength, 1) := by decide +kernel
theorem dX3_copyFrom_135 : decode cX3_copyFrom 135 = .ok (.invokestatic 68, 3) := by decide +kernel
theorem dX3_copyFrom_138 : decode cX3_copyFrom 138 = .ok (.aload_n 1, 1) := by decide +kernel
theorem dX3_copyFrom_139 : decode cX3_copyFrom 139 = .ok (.getfield 27, 3) := by decide +kernel
theorem dX3_copyFrom_142 : decode cX3_copyFrom 142 = .ok (.iconst 0, 1) := by decide +kernel
theorem dX3_copyFrom_143 : decode cX3_copyFrom 143 = .ok (.aload_n 0, 1) := by decide +kernel
theorem dX3_copyFrom_144 : decode cX3_copyFrom 144 = .ok (.getfield 27, 3) := by decide +kernel
theorem dX3_copyFrom_147 : decode cX3_copyFrom 147 = .ok (.iconst 0, 1) := by decide +kernel
theorem dX3_copyFrom_148 : decode cX3_copyFrom 148 = .ok (.aload_n 0, 1) := by decide +kernel
theorem dX3_copyFrom_149 : decode cX3_copyFrom 149 = .ok (.getfield 27, 3) := by decide +kernel
theorem dX3_copyFrom_152 : decode cX3_copyFrom 152 = .ok (.arraylength, 1) := by decide +kernel
theorem dX3_copyFrom_153 : decode cX3_copyFrom 153 = .ok (.invokestatic 68, 3) := by decide +kernel
theorem dX3_copyFrom_156 : decode cX3_copyFrom 156 = .ok (.aload_n 1, 1) := by decide +kernel
theorem dX3_copyFrom_157 : decode cX3_copyFrom 157 = .ok (.getfield 30, 3) := by decide +kernel
theorem dX3_copyFrom_160 : decode cX3_copyFrom 160 = .ok (.iconst 0, 1) := by decide +kernel
theorem dX3_copyFrom_161 : decode cX3_copyFrom 161 = .ok (.aload_n 0, 1) := by decide +kernel
theorem dX3_copyFrom_162 : decode cX3_copyFrom 162 = .ok (.getfield 30, 3) := by decide +kernel
theorem dX3_copyFrom_165 : decode cX3_copyFrom 165 = .ok (.iconst 0, 1) := by decide +kernel
theorem dX3_copyFrom_166 : decode cX3_copyFrom 166 = .ok (.aload_n 0, 1) := by decide +kernel
theorem dX3_copyFrom_167 : decode cX3_copyFrom 167 = .ok (.getfield 30, 3) := by decide +kernel
theorem dX3_copyFrom_170 : decode cX3_copyFrom 170 = .ok (.arraylength, 1) := by decide +kernel
theorem dX3_copyFrom_171 : decode cX3_copyFrom 171 = .ok (.invokestatic 68, 3) := by decide +kernel
theorem dX3_copyFrom_174 : decode cX3_copyFrom 174 = .ok (.aload_n 1, 1) := by decide +kernel
theorem dX3_copyFrom_175 : decode cX3_copyFrom 175 = .ok (.getfield 33, 3) := by decide +kernel
theorem dX3_copyFrom_178 : decode cX3_copyFrom 178 = .ok (.iconst 0, 1) := by decide +kernel
theorem dX3_copyFrom_179 : decode cX3_copyFrom 179 = .ok (.aload_n 0, 1) := by decide +kernel
theorem dX3_copyFrom_180 : decode cX3_copyFrom 180 = .ok (.getfield 33, 3) := by decide +kernel
theorem dX3_copyFrom_183 : decode cX3_copyFrom 183 = .ok (.iconst 0, 1) := by decide +kernel
theorem dX3_copyFrom_184 : decode cX3_copyFrom 184 = .ok (.aload_n 0, 1) := by decide +kernel
theorem dX3_copyFrom_185 : decode cX3_copyFrom 185 = .ok (.getfield 33, 3) := by decide +kernel
theorem dX3_copyFrom_188 : decode cX3_copyFrom 188 = .ok (.arraylength, 1) := by decide +kernel
theorem dX3_copyFrom_189 : decode cX3_copyFrom 189 = .ok (.invokestatic 68, 3) := by decide +kernel
theorem dX3_copyFrom_192 : decode cX3_copyFrom 192 = .ok (.aload_n 1, 1) := by decide +kernel
theorem dX3_copyFrom_193 : decode cX3_copyFrom 193 = .ok (.getfield 36, 3) := by decide +kernel
theorem dX3_copyFrom_196 : decode cX3_copyFrom 196 = .ok (.iconst 0, 1) := by decide +kernel
theorem dX3_copyFrom_197 : decode cX3_copyFrom 197 = .ok (.aload_n 0, 1) := by decide +kernel
theorem dX3_copyFrom_198 : decode cX3_copyFrom 198 = .ok (.getfield 36, 3) := by decide +kernel
theorem dX3_copyFrom_201 : decode cX3_copyFrom 201 = .ok (.iconst 0, 1) := by decide +kernel
theorem dX3_copyFrom_202 : decode cX3_copyFrom 202 = .ok (.aload_n 0, 1) := by decide +kernel
theorem dX3_copyFrom_203 : decode cX3_copyFrom 203 = .ok (.getfield 36, 3) := by decide +kernel
theorem dX3_copyFrom_206 : decode cX3_copyFrom 206 = .ok (.arraylength, 1) := by decide +kernel
theorem dX3_copyFrom_207 : decode cX3_copyFrom 207 = .ok (.invokestatic 68, 3) := by decide +kernel
theorem dX3_copyFrom_210 : decode cX3_copyFrom 210 = .ok (.return_, 1) := by decide +kernel
theorem dX3_middle_0 : decode cX3_middle 0 = .ok (.aload_n 0, 1) := by decide +kernel
theorem dX3_middle_1 : decode cX3_middle 1 = .ok (.getfield 43, 3) := by decide +kernel
theorem dX3_middle_4 : decode cX3_middle 4 = .ok (.iconst 2, 1) := by decide +kernel
theorem dX3_middle_5 : decode cX3_middle 5 = .ok (.idiv, 1) := by decide +kernel
theorem dX3_middle_6 : decode cX3_middle 6 = .ok (.ireturn, 1) := by decide +kernel
theorem dX3_firstX_0 : decode cX3_firstX 0 = .ok (.aload_n 0, 1) := by decide +kernel
theorem dX3_firstX_1 : decode cX3_firstX 1 = .ok (.invokevirtual 74, 3) := by decide +kernel
theorem dX3_firstX_4 : decode cX3_firstX 4 = .ok (.aload_n 0, 1) := by decide +kernel
theorem dX3_firstX_5 : decode cX3_firstX 5 = .ok (.getfield 9, 3) := by decide +kernel
theorem dX3_firstX_8 : decode cX3_firstX 8 = .ok (.iload_n 1, 1) := by decide +kernel
theorem dX3_firstX_9 : decode cX3_firstX 9 = .ok (.iaload, 1) := by decide +kernel
theorem dX3_firstX_10 : decode cX3_firstX 10 = .ok (.isub, 1) := by decide +kernel
theorem dX3_firstX_11 : decode cX3_firstX 11 = .ok (.ireturn, 1) := by decide +kernel
theorem dX3_lastX_0 : decode cX3_lastX 0 = .ok (.aload_n 0, 1) := by decide +kernel
theorem dX3_lastX_1 : decode cX3_lastX 1 = .ok (.invokevirtual 74, 3) := by decide +kernel
theorem dX3_lastX_4 : decode cX3_lastX 4 = .ok (.aload_n 0, 1) := by decide +kernel
theorem dX3_lastX_5 : decode cX3_lastX 5 = .ok (.getfield 9, 3) := by decide +kernel
theorem dX3_lastX_8 : decode cX3_lastX 8 = .ok (.iload_n 1, 1) := by decide +kernel
theorem dX3_lastX_9 : decode cX3_lastX 9 = .ok (.iaload, 1) := by decide +kernel
theorem dX3_lastX_10 : decode cX3_lastX 10 = .ok (.iadd, 1) := by decide +kernel
theorem dX3_lastX_11 : decode cX3_lastX 11 = .ok (.ireturn, 1) := by decide +kernel
theorem dX3_holds_0 : decode cX3_holds 0 = .ok (.iload_n 2, 1) := by decide +kernel
theorem dX3_holds_1 : decode cX3_holds 1 = .ok (.ifCond .lt 33, 3) := by decide +kernel
theorem dX3_holds_4 : decode cX3_holds 4 = .ok (.iload_n 2, 1) := by decide +kernel
theorem dX3_holds_5 : decode cX3_holds 5 = .ok (.aload_n 0, 1) := by decide +kernel
theorem dX3_holds_6 : decode cX3_holds 6 = .ok (.getfield 47, 3) := by decide +kernel
theorem dX3_holds_9 : decode cX3_holds 9 = .ok (.if_icmp .ge 25, 3) := by decide +kernel
theorem dX3_holds_12 : decode cX3_holds 12 = .ok (.iload_n 1, 1) := by decide +kernel
theorem dX3_holds_13 : decode cX3_holds 13 = .ok (.aload_n 0, 1) := by decide +kernel
theorem dX3_holds_14 : decode cX3_holds 14 = .ok (.iload_n 2, 1) := by decide +kernel
theorem dX3_holds_15 : decode cX3_holds 15 = .ok (.invokevirtual 78, 3) := by decide +kernel
theorem dX3_holds_18 : decode cX3_holds 18 = .ok (.if_icmp .lt 16, 3) := by decide +kernel
theorem dX3_holds_21 : decode cX3_holds 21 = .ok (.iload_n 1, 1) := by decide +kernel
theorem dX3_holds_22 : decode cX3_holds 22 = .ok (.aload_n 0, 1) := by decide +kernel
theorem dX3_holds_23 : decode cX3_holds 23 = .ok (.iload_n 2, 1) := by decide +kernel
theorem dX3_holds_24 : decode cX3_holds 24 = .ok (.invokevirtual 82, 3) := by decide +kernel
theorem dX3_holds_27 : decode cX3_holds 27 = .ok (.if_icmp .gt 7, 3) := by decide +kernel
theorem dX3_holds_30 : decode cX3_holds 30 = .ok (.iconst 1, 1) := by decide +kernel
theorem dX3_holds_31 : decode cX3_holds 31 = .ok (.goto 4, 3) := by decide +kernel
theorem dX3_holds_34 : decode cX3_holds 34 = .ok (.iconst 0, 1) := by decide +kernel
theorem dX3_holds_35 : decode cX3_holds 35 = .ok (.ireturn, 1) := by decide +kernel
theorem dX3_numberOf_0 : decode cX3_numberOf 0 = .ok (.iload_n 2, 1) := by decide +kernel
theorem dX3_numberOf_1 : decode cX3_numberOf 1 = .ok (.aload_n 0, 1) := by decide +kernel
theorem dX3_numberOf_2 : decode cX3_numberOf 2 = .ok (.getfield 43, 3) := by decide +kernel
theorem dX3_numberOf_5 : decode cX3_numberOf 5 = .ok (.imul, 1) := by decide +kernel
theorem dX3_numberOf_6 : decode cX3_numberOf 6 = .ok (.iload_n 1, 1) := by decide +kernel
theorem dX3_numberOf_7 : decode cX3_numberOf 7 = .ok (.iadd, 1) := by decide +kernel
theorem dX3_numberOf_8 : decode cX3_numberOf 8 = .ok (.ireturn, 1) := by decide +kernel
theorem dX3_mirrorX_0 : decode cX3_mirrorX 0 = .ok (.aload_n 0, 1) := by decide +kernel
theorem dX3_mirrorX_1 : decode cX3_mirrorX 1 = .ok (.getfield 43, 3) := by decide +kernel
theorem dX3_mirrorX_4 : decode cX3_mirrorX 4 = .ok (.iconst 1, 1) := by decide +kernel
theorem dX3_mirrorX_5 : decode cX3_mirrorX 5 = .ok (.isub, 1) := by decide +kernel
theorem dX3_mirrorX_6 : decode cX3_mirrorX 6 = .ok (.iload_n 1, 1) := by decide +kernel
theorem dX3_mirrorX_7 : decode cX3_mirrorX 7 = .ok (.isub, 1) := by decide +kernel
theorem dX3_mirrorX_8 : decode cX3_mirrorX 8 = .ok (.ireturn, 1) := by decide +kernel
theorem dX3_sideOf_0 : decode cX3_sideOf 0 = .ok (.iload_n 1, 1) := by decide +kernel
theorem dX3_sideOf_1 : decode cX3_sideOf 1 = .ok (.aload_n 0, 1) := by decide +kernel
theorem dX3_sideOf_2 : decode cX3_sideOf 2 = .ok (.invokevirtual 74, 3) := by decide +kernel
theorem dX3_sideOf_5 : decode cX3_sideOf 5 = .ok (.invokestatic 85, 3) := by decide +kernel
theorem dX3_sideOf_8 : decode cX3_sideOf 8 = .ok (.ireturn, 1) := by decide +kernel
theorem dX3_mixOf_0 : decode cX3_mixOf 0 = .ok (.iload_n 1, 1) := by decide +kernel
theorem dX3_mixOf_1 : decode cX3_mixOf 1 = .ok (.iload_n 2, 1) := by decide +kernel
theorem dX3_mixOf_2 : decode cX3_mixOf 2 = .ok (.if_icmp .ne 5, 3) := by decide +kernel
theorem dX3_mixOf_5 : decode cX3_mixOf 5 = .ok (.iload_n 1, 1) := by decide +kernel
theorem dX3_mixOf_6 : decode cX3_mixOf 6 = .ok (.ireturn, 1) := by decide +kernel
theorem dX3_mixOf_7 : decode cX3_mixOf 7 = .ok (.aload_n 0, 1) := by decide +kernel
theorem dX3_mixOf_8 : decode cX3_mixOf 8 = .ok (.iload_n 1, 1) := by decide +kernel
theorem dX3_mixOf_9 : decode cX3_mixOf 9 = .ok (.iload_n 2, 1) := by decide +kernel
theorem dX3_mixOf_10 : decode cX3_mixOf 10 = .ok (.invokevirtual 91, 3) := by decide +kernel
theorem dX3_mixOf_13 : decode cX3_mixOf 13 = .ok (.istore_n 3, 1) := by decide +kernel
theorem dX3_mixOf_14 : decode cX3_mixOf 14 = .ok (.iload_n 3, 1) := by decide +kernel
theorem dX3_mixOf_15 : decode cX3_mixOf 15 = .ok (.ifCond .eq 7, 3) := by decide +kernel
theorem dX3_mixOf_18 : decode cX3_mixOf 18 = .ok (.iload_n 3, 1) := by decide +kernel
theorem dX3_mixOf_19 : decode cX3_mixOf 19 = .ok (.goto 8, 3) := by decide +kernel
theorem dX3_mixOf_22 : decode cX3_mixOf 22 = .ok (.iload_n 1, 1) := by decide +kernel
theorem dX3_mixOf_23 : decode cX3_mixOf 23 = .ok (.iload_n 2, 1) := by decide +kernel
theorem dX3_mixOf_24 : decode cX3_mixOf 24 = .ok (.invokestatic 94, 3) := by decide +kernel
theorem dX3_mixOf_27 : decode cX3_mixOf 27 = .ok (.ireturn, 1) := by decide +kernel
theorem dX3_toldMix_0 : decode cX3_toldMix 0 = .ok (.aload_n 0, 1) := by decide +kernel
theorem dX3_toldMix_1 : decode cX3_toldMix 1 = .ok (.getfield 18, 3) := by decide +kernel
theorem dX3_toldMix_4 : decode cX3_toldMix 4 = .ok (.iload_n 1, 1) := by decide +kernel
theorem dX3_toldMix_5 : decode cX3_toldMix 5 = .ok (.bipush 7, 2) := by decide +kernel
theorem dX3_toldMix_7 : decode cX3_toldMix 7 = .ok (.imul, 1) := by decide +kernel
theorem dX3_toldMix_8 : decode cX3_toldMix 8 = .ok (.iload_n 2, 1) := by decide +kernel
theorem dX3_toldMix_9 : decode cX3_toldMix 9 = .ok (.iadd, 1) := by decide +kernel
theorem dX3_toldMix_10 : decode cX3_toldMix 10 = .ok (.iaload, 1) := by decide +kernel
theorem dX3_toldMix_11 : decode cX3_toldMix 11 = .ok (.ireturn, 1) := by decide +kernel
theorem dX3_tellMix_0 : decode cX3_tellMix 0 = .ok (.aload_n 0, 1) := by decide +kernel
theorem dX3_tellMix_1 : decode cX3_tellMix 1 = .ok (.getfield 18, 3) := by decide +kernel
theorem dX3_tellMix_4 : decode cX3_tellMix 4 = .ok (.iload_n 1, 1) := by decide +kernel
theorem dX3_tellMix_5 : decode cX3_tellMix 5 = .ok (.bipush 7, 2) := by decide +kernel
theorem dX3_tellMix_7 : decode cX3_tellMix 7 = .ok (.imul, 1) := by decide +kernel
theorem dX3_tellMix_8 : decode cX3_tellMix 8 = .ok (.iload_n 2, 1) := by decide +kernel
theorem dX3_tellMix_9 : decode cX3_tellMix 9 = .ok (.iadd, 1) := by decide +kernel
theorem dX3_tellMix_10 : decode cX3_tellMix 10 = .ok (.iload_n 3, 1) := by decide +kernel
theorem dX3_tellMix_11 : decode cX3_tellMix 11 = .ok (.iastore, 1) := by decide +kernel
theorem dX3_tellMix_12 : decode cX3_tellMix 12 = .ok (.aload_n 0, 1) := by decide +kernel
theorem dX3_tellMix_13 : decode cX3_tellMix 13 = .ok (.getfield 18, 3) := by decide +kernel
theorem dX3_tellMix_16 : decode cX3_tellMix 16 = .ok (.iload_n 2, 1) := by decide +kernel
theorem dX3_tellMix_17 : decode cX3_tellMix 17 = .ok (.bipush 7, 2) := by decide +kernel
theorem dX3_tellMix_19 : decode cX3_tellMix 19 = .ok (.imul, 1) := by decide +kernel
theorem dX3_tellMix_20 : decode cX3_tellMix 20 = .ok (.iload_n 1, 1) := by decide +kernel
theorem dX3_tellMix_21 : decode cX3_tellMix 21 = .ok (.iadd, 1) := by decide +kernel
theorem dX3_tellMix_22 : decode cX3_tellMix 22 = .ok (.iload_n 3, 1) := by decide +kernel
theorem dX3_tellMix_23 : decode cX3_tellMix 23 = .ok (.iastore, 1) := by decide +kernel
theorem dX3_tellMix_24 : decode cX3_tellMix 24 = .ok (.return_, 1) := by decide +kernel
theorem dX3_allCells_0 : decode cX3_allCells 0 = .ok (.iconst 0, 1) := by decide +kernel
theorem dX3_allCells_1 : decode cX3_allCells 1 = .ok (.istore_n 1, 1) := by decide +kernel
theorem dX3_allCells_2 : decode cX3_allCells 2 = .ok (.iconst 0, 1) := by decide +kernel
theorem dX3_allCells_3 : decode cX3_allCells 3 = .ok (.istore_n 2, 1) := by decide +kernel
theorem dX3_allCells_4 : decode cX3_allCells 4 = .ok (.iload_n 2, 1) := by decide +kernel
theorem dX3_allCells_5 : decode cX3_allCells 5 = .ok (.aload_n 0, 1) := by decide +kernel
theorem dX3_allCells_6 : decode cX3_allCells 6 = .ok (.getfield 47, 3) := by decide +kernel
theorem dX3_allCells_9 : decode cX3_allCells 9 = .ok (.if_icmp .ge 22, 3) := by decide +kernel
theorem dX3_allCells_12 : decode cX3_allCells 12 = .ok (.iload_n 1, 1) := by decide +kernel
theorem dX3_allCells_13 : decode cX3_allCells 13 = .ok (.iconst 2, 1) := by decide +kernel
theorem dX3_allCells_14 : decode cX3_allCells 14 = .ok (.aload_n 0, 1) := by decide +kernel
theorem dX3_allCells_15 : decode cX3_allCells 15 = .ok (.getfield 9, 3) := by decide +kernel
theorem dX3_allCells_18 : decode cX3_allCells 18 = .ok (.iload_n 2, 1) := by decide +kernel
theorem dX3_allCells_19 : decode cX3_allCells 19 = .ok (.iaload, 1) := by decide +kernel
theorem dX3_allCells_20 : decode cX3_allCells 20 = .ok (.imul, 1) := by decide +kernel
theorem dX3_allCells_21 : decode cX3_allCells 21 = .ok (.iconst 1, 1) := by decide +kernel
theorem dX3_allCells_22 : decode cX3_allCells 22 = .ok (.iadd, 1) := by decide +kernel
theorem dX3_allCells_23 : decode cX3_allCells 23 = .ok (.iadd, 1) := by decide +kernel
theorem dX3_allCells_24 : decode cX3_allCells 24 = .ok (.istore_n 1, 1) := by decide +kernel
theorem dX3_allCells_25 : decode cX3_allCells 25 = .ok (.iinc 2 1, 3) := by decide +kernel
theorem dX3_allCells_28 : decode cX3_allCells 28 = .ok (.goto (-24), 3) := by decide +kernel
theorem dX3_allCells_31 : decode cX3_allCells 31 = .ok (.iload_n 1, 1) := by decide +kernel
theorem dX3_allCells_32 : decode cX3_allCells 32 = .ok (.ireturn, 1) := by decide +kernel
theorem dX3_cellsWithSpars_0 : decode cX3_cellsWithSpars 0 = .ok (.iconst 0, 1) := by decide +kernel
theorem dX3_cellsWithSpars_1 : decode cX3_cellsWithSpars 1 = .ok (.istore_n 1, 1) := by decide +kernel
theorem dX3_cellsWithSpars_2 : decode cX3_cellsWithSpars 2 = .ok (.aload_n 0, 1) := by decide +kernel
theorem dX3_cellsWithSpars_3 : decode cX3_cellsWithSpars 3 = .ok (.getfield 36, 3) := by decide +kernel
theorem dX3_cellsWithSpars_6 : decode cX3_cellsWithSpars 6 = .ok (.astore_n 2, 1) := by decide +kernel
theorem dX3_cellsWithSpars_7 : decode cX3_cellsWithSpars 7 = .ok (.aload_n 2, 1) := by decide +kernel
theorem dX3_cellsWithSpars_8 : decode cX3_cellsWithSpars 8 = .ok (.arraylength, 1) := by decide +kernel
theorem dX3_cellsWithSpars_9 : decode cX3_cellsWithSpars 9 = .ok (.istore_n 3, 1) := by decide +kernel
theorem dX3_cellsWithSpars_10 : decode cX3_cellsWithSpars 10 = .ok (.iconst 0, 1) := by decide +kernel
theorem dX3_cellsWithSpars_11 : decode cX3_cellsWithSpars 11 = .ok (.istore 4, 2) := by decide +kernel
theorem dX3_cellsWithSpars_13 : decode cX3_cellsWithSpars 13 = .ok (.iload 4, 2) := by decide +kernel
theorem dX3_cellsWithSpars_15 : decode cX3_cellsWithSpars 15 = .ok (.iload_n 3, 1) := by decide +kernel
theorem dX3_cellsWithSpars_16 : decode cX3_cellsWithSpars 16 = .ok (.if_icmp .ge 20, 3) := by decide +kernel
theorem dX3_cellsWithSpars_19 : decode cX3_cellsWithSpars 19 = .ok (.aload_n 2, 1) := by decide +kernel
theorem dX3_cellsWithSpars_20 : decode cX3_cellsWithSpars 20 = .ok (.iload 4, 2) := by decide +kernel
theorem dX3_cellsWithSpars_22 : decode cX3_cellsWithSpars 22 = .ok (.iaload, 1) := by decide +kernel
theorem dX3_cellsWithSpars_23 : decode cX3_cellsWithSpars 23 = .ok (.istore 5, 2) := by decide +kernel
theorem dX3_cellsWithSpars_25 : decode cX3_cellsWithSpars 25 = .ok (.iload_n 1, 1) := by decide +kernel
theorem dX3_cellsWithSpars_26 : decode cX3_cellsWithSpars 26 = .ok (.iload 5, 2) := by decide +kernel
theorem dX3_cellsWithSpars_28 : decode cX3_cellsWithSpars 28 = .ok (.iadd, 1) := by decide +kernel
theorem dX3_cellsWithSpars_29 : decode cX3_cellsWithSpars 29 = .ok (.istore_n 1, 1) := by decide +kernel
theorem dX3_cellsWithSpars_30 : decode cX3_cellsWithSpars 30 = .ok (.iinc 4 1, 3) := by decide +kernel
theorem dX3_cellsWithSpars_33 : decode cX3_cellsWithSpars 33 = .ok (.goto (-20), 3) := by decide +kernel
theorem dX3_cellsWithSpars_36 : decode cX3_cellsWithSpars 36 = .ok (.iload_n 1, 1) := by decide +kernel
theorem dX3_cellsWithSpars_37 : decode cX3_cellsWithSpars 37 = .ok (.ireturn, 1) := by decide +kernel
theorem dX3_cellsOfColour_0 : decode cX3_cellsOfColour 0 = .ok (.iconst 0, 1) := by decide +kernel
theorem dX3_cellsOfColour_1 : decode cX3_cellsOfColour 1 = .ok (.istore_n 2, 1) := by decide +kernel
theorem dX3_cellsOfColour_2 : decode cX3_cellsOfColour 2 = .ok (.iconst 0, 1) := by decide +kernel
theorem dX3_cellsOfColour_3 : decode cX3_cellsOfColour 3 = .ok (.istore_n 3, 1) := by decide +kernel
theorem dX3_cellsOfColour_4 : decode cX3_cellsOfColour 4 = .ok (.iload_n 3, 1) := by decide +kernel
theorem dX3_cellsOfColour_5 : decode cX3_cellsOfColour 5 = .ok (.aload_n 0, 1) := by decide +kernel
theorem dX3_cellsOfColour_6 : decode cX3_cellsOfColour 6 = .ok (.getfield 47, 3) := by decide +kernel
theorem dX3_cellsOfColour_9 : decode cX3_cellsOfColour 9 = .ok (.if_icmp .ge 56, 3) := by decide +kernel
theorem dX3_cellsOfColour_12 : decode cX3_cellsOfColour 12 = .ok (.aload_n 0, 1) := by decide +kernel
theorem dX3_cellsOfColour_13 : decode cX3_cellsOfColour 13 = .ok (.iload_n 3, 1) := by decide +kernel
theorem dX3_cellsOfColour_14 : decode cX3_cellsOfColour 14 = .ok (.invokevirtual 78, 3) := by decide +kernel
theorem dX3_cellsOfColour_17 : decode cX3_cellsOfColour 17 = .ok (.istore 4, 2) := by decide +kernel
theorem dX3_cellsOfColour_19 : decode cX3_cellsOfColour 19 = .ok (.iload 4, 2) := by decide +kernel
theorem dX3_cellsOfColour_21 : decode cX3_cellsOfColour 21 = .ok (.aload_n 0, 1) := by decide +kernel
theorem dX3_cellsOfColour_22 : decode cX3_cellsOfColour 22 = .ok (.iload_n 3, 1) := by decide +kernel
theorem dX3_cellsOfColour_23 : decode cX3_cellsOfColour 23 = .ok (.invokevirtual 82, 3) := by decide +kernel
theorem dX3_cellsOfColour_26 : decode cX3_cellsOfColour 26 = .ok (.if_icmp .gt 33, 3) := by decide +kernel
theorem dX3_cellsOfColour_29 : decode cX3_cellsOfColour 29 = .ok (.iload_n 2, 1) := by decide +kernel
theorem dX3_cellsOfColour_30 : decode cX3_cellsOfColour 30 = .ok (.aload_n 0, 1) := by decide +kernel
theorem dX3_cellsOfColour_31 : decode cX3_cellsOfColour 31 = .ok (.getfield 30, 3) := by decide +kernel
theorem dX3_cellsOfColour_34 : decode cX3_cellsOfColour 34 = .ok (.aload_n 0, 1) := by decide +kernel
theorem dX3_cellsOfColour_35 : decode cX3_cellsOfColour 35 = .ok (.iload 4, 2) := by decide +kernel
theorem dX3_cellsOfColour_37 : decode cX3_cellsOfColour 37 = .ok (.iload_n 3, 1) := by decide +kernel
theorem dX3_cellsOfColour_38 : decode cX3_cellsOfColour 38 = .ok (.invokevirtual 99, 3) := by decide +kernel
theorem dX3_cellsOfColour_41 : decode cX3_cellsOfColour 41 = .ok (.iaload, 1) := by decide +kernel
theorem dX3_cellsOfColour_42 : decode cX3_cellsOfColour 42 = .ok (.iload_n 1, 1) := by decide +kernel
theorem dX3_cellsOfColour_43 : decode cX3_cellsOfColour 43 = .ok (.if_icmp .ne 7, 3) := by decide +kernel
theorem dX3_cellsOfColour_46 : decode cX3_cellsOfColour 46 = .ok (.iconst 1, 1) := by decide +kernel
theorem dX3_cellsOfColour_47 : decode cX3_cellsOfColour 47 = .ok (.goto 4, 3) := by decide +kernel
theorem dX3_cellsOfColour_50 : decode cX3_cellsOfColour 50 = .ok (.iconst 0, 1) := by decide +kernel
theorem dX3_cellsOfColour_51 : decode cX3_cellsOfColour 51 = .ok (.iadd, 1) := by decide +kernel
theorem dX3_cellsOfColour_52 : decode cX3_cellsOfColour 52 = .ok (.istore_n 2, 1) := by decide +kernel
theorem dX3_cellsOfColour_53 : decode cX3_cellsOfColour 53 = .ok (.iinc 4 1, 3) := by decide +kernel
theorem dX3_cellsOfColour_56 : decode cX3_cellsOfColour 56 = .ok (.goto (-37), 3) := by decide +kernel
theorem dX3_cellsOfColour_59 : decode cX3_cellsOfColour 59 = .ok (.iinc 3 1, 3) := by decide +kernel
theorem dX3_cellsOfColour_62 : decode cX3_cellsOfColour 62 = .ok (.goto (-58), 3) := by decide +kernel
theorem dX3_cellsOfColour_65 : decode cX3_cellsOfColour 65 = .ok (.iload_n 2, 1) := by decide +kernel
theorem dX3_cellsOfColour_66 : decode cX3_cellsOfColour 66 = .ok (.ireturn, 1) := by decide +kernel
theorem dX3_cellsOfOtherColour_0 : decode cX3_cellsOfOtherColour 0 = .ok (.iconst 0, 1) := by decide +kernel
theorem dX3_cellsOfOtherColour_1 : decode cX3_cellsOfOtherColour 1 = .ok (.istore_n 2, 1) := by decide +kernel
theorem dX3_cellsOfOtherColour_2 : decode cX3_cellsOfOtherColour 2 = .ok (.iconst 0, 1) := by decide +kernel
theorem dX3_cellsOfOtherColour_3 : decode cX3_cellsOfOtherColour 3 = .ok (.istore_n 3, 1) := by decide +kernel
theorem dX3_cellsOfOtherColour_4 : decode cX3_cellsOfOtherColour 4 = .ok (.iload_n 3, 1) := by decide +kernel
theorem dX3_cellsOfOtherColour_5 : decode cX3_cellsOfOtherColour 5 = .ok (.sipush 180, 3) := by decide +kernel
theorem dX3_cellsOfOtherColour_8 : decode cX3_cellsOfOtherColour 8 = .ok (.if_icmp .ge 32, 3) := by decide +kernel
theorem dX3_cellsOfOtherColour_11 : decode cX3_cellsOfOtherColour 11 = .ok (.iload_n 2, 1) := by decide +kernel
theorem dX3_cellsOfOtherColour_12 : decode cX3_cellsOfOtherColour 12 = .ok (.aload_n 0, 1) := by decide +kernel
theorem dX3_cellsOfOtherColour_13 : decode cX3_cellsOfOtherColour 13 = .ok (.getfield 30, 3) := by decide +kernel
theorem dX3_cellsOfOtherColour_16 : decode cX3_cellsOfOtherColour 16 = .ok (.iload_n 3, 1) := by decide +kernel
theorem dX3_cellsOfOtherColour_17 : decode cX3_cellsOfOtherColour 17 = .ok (.iaload, 1) := by decide +kernel
theorem dX3_cellsOfOtherColour_18 : decode cX3_cellsOfOtherColour 18 = .ok (.aload_n 1, 1) := by decide +kernel
theorem dX3_cellsOfOtherColour_19 : decode cX3_cellsOfOtherColour 19 = .ok (.getfield 30, 3) := by decide +kernel
theorem dX3_cellsOfOtherColour_22 : decode cX3_cellsOfOtherColour 22 = .ok (.iload_n 3, 1) := by decide +kernel
theorem dX3_cellsOfOtherColour_23 : decode cX3_cellsOfOtherColour 23 = .ok (.iaload, 1) := by decide +kernel
theorem dX3_cellsOfOtherColour_24 : decode cX3_cellsOfOtherColour 24 = .ok (.if_icmp .eq 7, 3) := by decide +kernel
theorem dX3_cellsOfOtherColour_27 : decode cX3_cellsOfOtherColour 27 = .ok (.iconst 1, 1) := by decide +kernel
theorem dX3_cellsOfOtherColour_28 : decode cX3_cellsOfOtherColour 28 = .ok (.goto 4, 3) := by decide +kernel
theorem dX3_cellsOfOtherColour_31 : decode cX3_cellsOfOtherColour 31 = .ok (.iconst 0, 1) := by decide +kernel
theorem dX3_cellsOfOtherColour_32 : decode cX3_cellsOfOtherColour 32 = .ok (.iadd, 1) := by decide +kernel
theorem dX3_cellsOfOtherColour_33 : decode cX3_cellsOfOtherColour 33 = .ok (.istore_n 2, 1) := by decide +kernel
theorem dX3_cellsOfOtherColour_34 : decode cX3_cellsOfOtherColour 34 = .ok (.iinc 3 1, 3) := by decide +kernel
theorem dX3_cellsOfOtherColour_37 : decode cX3_cellsOfOtherColour 37 = .ok (.goto (-33), 3) := by decide +kernel
theorem dX3_cellsOfOtherColour_40 : decode cX3_cellsOfOtherColour 40 = .ok (.iload_n 2, 1) := by decide +kernel
theorem dX3_cellsOfOtherColour_41 : decode cX3_cellsOfOtherColour 41 = .ok (.ireturn, 1) := by decide +kernel
theorem dX3_wetCells_0 : decode cX3_wetCells 0 = .ok (.iconst 0, 1) := by decide +kernel
theorem dX3_wetCells_1 : decode cX3_wetCells 1 = .ok (.istore_n 1, 1) := by decide +kernel
theorem dX3_wetCells_2 : decode cX3_wetCells 2 = .ok (.aload_n 0, 1) := by decide +kernel
theorem dX3_wetCells_3 : decode cX3_wetCells 3 = .ok (.getfield 33, 3) := by decide +kernel
theorem dX3_wetCells_6 : decode cX3_wetCells 6 = .ok (.astore_n 2, 1) := by decide +kernel
theorem dX3_wetCells_7 : decode cX3_wetCells 7 = .ok (.aload_n 2, 1) := by decide +kernel
theorem dX3_wetCells_8 : decode cX3_wetCells 8 = .ok (.arraylength, 1) := by decide +kernel
theorem dX3_wetCells_9 : decode cX3_wetCells 9 = .ok (.istore_n 3, 1) := by decide +kernel
theorem dX3_wetCells_10 : decode cX3_wetCells 10 = .ok (.iconst 0, 1) := by decide +kernel
theorem dX3_wetCells_11 : decode cX3_wetCells 11 = .ok (.istore 4, 2) := by decide +kernel
theorem dX3_wetCells_13 : decode cX3_wetCells 13 = .ok (.iload 4, 2) := by decide +kernel
theorem dX3_wetCells_15 : decode cX3_wetCells 15 = .ok (.iload_n 3, 1) := by decide +kernel
theorem dX3_wetCells_16 : decode cX3_wetCells 16 = .ok (.if_icmp .ge 28, 3) := by decide +kernel
theorem dX3_wetCells_19 : decode cX3_wetCells 19 = .ok (.aload_n 2, 1) := by decide +kernel
theorem dX3_wetCells_20 : decode cX3_wetCells 20 = .ok (.iload 4, 2) := by decide +kernel
theorem dX3_wetCells_22 : decode cX3_wetCells 22 = .ok (.iaload, 1) := by decide +kernel
theorem dX3_wetCells_23 : decode cX3_wetCells 23 = .ok (.istore 5, 2) := by decide +kernel
theorem dX3_wetCells_25 : decode cX3_wetCells 25 = .ok (.iload_n 1, 1) := by decide +kernel
theorem dX3_wetCells_26 : decode cX3_wetCells 26 = .ok (.iload 5, 2) := by decide +kernel
theorem dX3_wetCells_28 : decode cX3_wetCells 28 = .ok (.ifCond .le 7, 3) := by decide +kernel
theorem dX3_wetCells_31 : decode cX3_wetCells 31 = .ok (.iconst 1, 1) := by decide +kernel
theorem dX3_wetCells_32 : decode cX3_wetCells 32 = .ok (.goto 4, 3) := by decide +kernel
theorem dX3_wetCells_35 : decode cX3_wetCells 35 = .ok (.iconst 0, 1) := by decide +kernel
theorem dX3_wetCells_36 : decode cX3_wetCells 36 = .ok (.iadd, 1) := by decide +kernel
theorem dX3_wetCells_37 : decode cX3_wetCells 37 = .ok (.istore_n 1, 1) := by decide +kernel
theorem dX3_wetCells_38 : decode cX3_wetCells 38 = .ok (.iinc 4 1, 3) := by decide +kernel
theorem dX3_wetCells_41 : decode cX3_wetCells 41 = .ok (.goto (-28), 3) := by decide +kernel
theorem dX3_wetCells_44 : decode cX3_wetCells 44 = .ok (.iload_n 1, 1) := by decide +kernel
theorem dX3_wetCells_45 : decode cX3_wetCells 45 = .ok (.ireturn, 1) := by decide +kernel
theorem dX3_greatestWetness_0 : decode cX3_greatestWetness 0 = .ok (.iconst 0, 1) := by decide +kernel
theorem dX3_greatestWetness_1 : decode cX3_greatestWetness 1 = .ok (.istore_n 1, 1) := by decide +kernel
theorem dX3_greatestWetness_2 : decode cX3_greatestWetness 2 = .ok (.aload_n 0, 1) := by decide +kernel
theorem dX3_greatestWetness_3 : decode cX3_greatestWetness 3 = .ok (.getfield 33, 3) := by decide +kernel
theorem dX3_greatestWetness_6 : decode cX3_greatestWetness 6 = .ok (.astore_n 2, 1) := by decide +kernel
theorem dX3_greatestWetness_7 : decode cX3_greatestWetness 7 = .ok (.aload_n 2, 1) := by decide +kernel
theorem dX3_greatestWetness_8 : decode cX3_greatestWetness 8 = .ok (.arraylength, 1) := by decide +kernel
theorem dX3_greatestWetness_9 : decode cX3_greatestWetness 9 = .ok (.istore_n 3, 1) := by decide +kernel
theorem dX3_greatestWetness_10 : decode cX3_greatestWetness 10 = .ok (.iconst 0, 1) := by decide +kernel
theorem dX3_greatestWetness_11 : decode cX3_greatestWetness 11 = .ok (.istore 4, 2) := by decide +kernel
theorem dX3_greatestWetness_13 : decode cX3_greatestWetness 13 = .ok (.iload 4, 2) := by decide +kernel
theorem dX3_greatestWetness_15 : decode cX3_greatestWetness 15 = .ok (.iload_n 3, 1) := by decide +kernel
theorem dX3_greatestWetness_16 : decode cX3_greatestWetness 16 = .ok (.if_icmp .ge 22, 3) := by decide +kernel
theorem dX3_greatestWetness_19 : decode cX3_greatestWetness 19 = .ok (.aload_n 2, 1) := by decide +kernel
theorem dX3_greatestWetness_20 : decode cX3_greatestWetness 20 = .ok (.iload 4, 2) := by decide +kernel
theorem dX3_greatestWetness_22 : decode cX3_greatestWetness 22 = .ok (.iaload, 1) := by decide +kernel
theorem dX3_greatestWetness_23 : decode cX3_greatestWetness 23 = .ok (.istore 5, 2) := by decide +kernel
theorem dX3_greatestWetness_25 : decode cX3_greatestWetness 25 = .ok (.iload_n 1, 1) := by decide +kernel
theorem dX3_greatestWetness_26 : decode cX3_greatestWetness 26 = .ok (.iload 5, 2) := by decide +kernel
theorem dX3_greatestWetness_28 : decode cX3_greatestWetness 28 = .ok (.invokestatic 94, 3) := by decide +kernel
theorem dX3_greatestWetness_31 : decode cX3_greatestWetness 31 = .ok (.istore_n 1, 1) := by decide +kernel
theorem dX3_greatestWetness_32 : decode cX3_greatestWetness 32 = .ok (.iinc 4 1, 3) := by decide +kernel
theorem dX3_greatestWetness_35 : decode cX3_greatestWetness 35 = .ok (.goto (-22), 3) := by decide +kernel
theorem dX3_greatestWetness_38 : decode cX3_greatestWetness 38 = .ok (.iload_n 1, 1) := by decide +kernel
theorem dX3_greatestWetness_39 : decode cX3_greatestWetness 39 = .ok (.ireturn, 1) := by decide +kernel
theorem dX3_unlikePairs_0 : decode cX3_unlikePairs 0 = .ok (.iconst 0, 1) := by decide +kernel
theorem dX3_unlikePairs_1 : decode cX3_unlikePairs 1 = .ok (.istore_n 1, 1) := by decide +kernel
theorem dX3_unlikePairs_2 : decode cX3_unlikePairs 2 = .ok (.iconst 0, 1) := by decide +kernel
theorem dX3_unlikePairs_3 : decode cX3_unlikePairs 3 = .ok (.istore_n 2, 1) := by decide +kernel
theorem dX3_unlikePairs_4 : decode cX3_unlikePairs 4 = .ok (.iload_n 2, 1) := by decide +kernel
theorem dX3_unlikePairs_5 : decode cX3_unlikePairs 5 = .ok (.aload_n 0, 1) := by decide +kernel
theorem dX3_unlikePairs_6 : decode cX3_unlikePairs 6 = .ok (.getfield 47, 3) := by decide +kernel
theorem dX3_unlikePairs_9 : decode cX3_unlikePairs 9 = .ok (.if_icmp .ge 66, 3) := by decide +kernel
theorem dX3_unlikePairs_12 : decode cX3_unlikePairs 12 = .ok (.aload_n 0, 1) := by decide +kernel
theorem dX3_unlikePairs_13 : decode cX3_unlikePairs 13 = .ok (.iload_n 2, 1) := by decide +kernel
theorem dX3_unlikePairs_14 : decode cX3_unlikePairs 14 = .ok (.invokevirtual 78, 3) := by decide +kernel
theorem dX3_unlikePairs_17 : decode cX3_unlikePairs 17 = .ok (.istore_n 3, 1) := by decide +kernel
theorem dX3_unlikePairs_18 : decode cX3_unlikePairs 18 = .ok (.iload_n 3, 1) := by decide +kernel
theorem dX3_unlikePairs_19 : decode cX3_unlikePairs 19 = .ok (.aload_n 0, 1) := by decide +kernel
theorem dX3_unlikePairs_20 : decode cX3_unlikePairs 20 = .ok (.invokevirtual 74, 3) := by decide +kernel
theorem dX3_unlikePairs_23 : decode cX3_unlikePairs 23 = .ok (.if_icmp .ge 46, 3) := by decide +kernel
theorem dX3_unlikePairs_26 : decode cX3_unlikePairs 26 = .ok (.iload_n 1, 1) := by decide +kernel
theorem dX3_unlikePairs_27 : decode cX3_unlikePairs 27 = .ok (.aload_n 0, 1) := by decide +kernel
theorem dX3_unlikePairs_28 : decode cX3_unlikePairs 28 = .ok (.getfield 30, 3) := by decide +kernel
theorem dX3_unlikePairs_31 : decode cX3_unlikePairs 31 = .ok (.aload_n 0, 1) := by decide +kernel
theorem dX3_unlikePairs_32 : decode cX3_unlikePairs 32 = .ok (.iload_n 3, 1) := by decide +kernel
theorem dX3_unlikePairs_33 : decode cX3_unlikePairs 33 = .ok (.iload_n 2, 1) := by decide +kernel
theorem dX3_unlikePairs_34 : decode cX3_unlikePairs 34 = .ok (.invokevirtual 99, 3) := by decide +kernel
theorem dX3_unlikePairs_37 : decode cX3_unlikePairs 37 = .ok (.iaload, 1) := by decide +kernel
theorem dX3_unlikePairs_38 : decode cX3_unlikePairs 38 = .ok (.aload_n 0, 1) := by decide +kernel
theorem dX3_unlikePairs_39 : decode cX3_unlikePairs 39 = .ok (.getfield 30, 3) := by decide +kernel
theorem dX3_unlikePairs_42 : decode cX3_unlikePairs 42 = .ok (.aload_n 0, 1) := by decide +kernel
theorem dX3_unlikePairs_43 : decode cX3_unlikePairs 43 = .ok (.aload_n 0, 1) := by decide +kernel
theorem dX3_unlikePairs_44 : decode cX3_unlikePairs 44 = .ok (.iload_n 3, 1) := by decide +kernel
theorem dX3_unlikePairs_45 : decode cX3_unlikePairs 45 = .ok (.invokevirtual 102, 3) := by decide +kernel
theorem dX3_unlikePairs_48 : decode cX3_unlikePairs 48 = .ok (.iload_n 2, 1) := by decide +kernel
theorem dX3_unlikePairs_49 : decode cX3_unlikePairs 49 = .ok (.invokevirtual 99, 3) := by decide +kernel
theorem dX3_unlikePairs_52 : decode cX3_unlikePairs 52 = .ok (.iaload, 1) := by decide +kernel
theorem dX3_unlikePairs_53 : decode cX3_unlikePairs 53 = .ok (.if_icmp .eq 7, 3) := by decide +kernel
theorem dX3_unlikePairs_56 : decode cX3_unlikePairs 56 = .ok (.iconst 1, 1) := by decide +kernel
theorem dX3_unlikePairs_57 : decode cX3_unlikePairs 57 = .ok (.goto 4, 3) := by decide +kernel
theorem dX3_unlikePairs_60 : decode cX3_unlikePairs 60 = .ok (.iconst 0, 1) := by decide +kernel
theorem dX3_unlikePairs_61 : decode cX3_unlikePairs 61 = .ok (.iadd, 1) := by decide +kernel
theorem dX3_unlikePairs_62 : decode cX3_unlikePairs 62 = .ok (.istore_n 1, 1) := by decide +kernel
theorem dX3_unlikePairs_63 : decode cX3_unlikePairs 63 = .ok (.iinc 3 1, 3) := by decide +kernel
theorem dX3_unlikePairs_66 : decode cX3_unlikePairs 66 = .ok (.goto (-48), 3) := by decide +kernel
theorem dX3_unlikePairs_69 : decode cX3_unlikePairs 69 = .ok (.iinc 2 1, 3) := by decide +kernel
theorem dX3_unlikePairs_72 : decode cX3_unlikePairs 72 = .ok (.goto (-68), 3) := by decide +kernel
theorem dX3_unlikePairs_75 : decode cX3_unlikePairs 75 = .ok (.iload_n 1, 1) := by decide +kernel
theorem dX3_unlikePairs_76 : decode cX3_unlikePairs 76 = .ok (.ireturn, 1) := by decide +kernel
theorem dX3_weightAt_0 : decode cX3_weightAt 0 = .ok (.aload_n 0, 1) := by decide +kernel
theorem dX3_weightAt_1 : decode cX3_weightAt 1 = .ok (.getfield 53, 3) := by decide +kernel
theorem dX3_weightAt_4 : decode cX3_weightAt 4 = .ok (.aload_n 0, 1) := by decide +kernel
theorem dX3_weightAt_5 : decode cX3_weightAt 5 = .ok (.getfield 15, 3) := by decide +kernel
theorem dX3_weightAt_8 : decode cX3_weightAt 8 = .ok (.aload_n 0, 1) := by decide +kernel
theorem dX3_weightAt_9 : decode cX3_weightAt 9 = .ok (.getfield 30, 3) := by decide +kernel
theorem dX3_weightAt_12 : decode cX3_weightAt 12 = .ok (.iload_n 1, 1) := by decide +kernel
theorem dX3_weightAt_13 : decode cX3_weightAt 13 = .ok (.iaload, 1) := by decide +kernel
theorem dX3_weightAt_14 : decode cX3_weightAt 14 = .ok (.iaload, 1) := by decide +kernel
theorem dX3_weightAt_15 : decode cX3_weightAt 15 = .ok (.iadd, 1) := by decide +kernel
theorem dX3_weightAt_16 : decode cX3_weightAt 16 = .ok (.aload_n 0, 1) := by decide +kernel
theorem dX3_weightAt_17 : decode cX3_weightAt 17 = .ok (.getfield 36, 3) := by decide +kernel
theorem dX3_weightAt_20 : decode cX3_weightAt 20 = .ok (.iload_n 1, 1) := by decide +kernel
theorem dX3_weightAt_21 : decode cX3_weightAt 21 = .ok (.iaload, 1) := by decide +kernel
theorem dX3_weightAt_22 : decode cX3_weightAt 22 = .ok (.aload_n 0, 1) := by decide +kernel
theorem dX3_weightAt_23 : decode cX3_weightAt 23 = .ok (.getfield 56, 3) := by decide +kernel
theorem dX3_weightAt_26 : decode cX3_weightAt 26 = .ok (.imul, 1) := by decide +kernel
theorem dX3_weightAt_27 : decode cX3_weightAt 27 = .ok (.iadd, 1) := by decide +kernel
theorem dX3_weightAt_28 : decode cX3_weightAt 28 = .ok (.ireturn, 1) := by decide +kernel
theorem dX3_weightOfSide_0 : decode cX3_weightOfSide 0 = .ok (.iconst 0, 1) := by decide +kernel
theorem dX3_weightOfSide_1 : decode cX3_weightOfSide 1 = .ok (.istore_n 2, 1) := by decide +kernel
theorem dX3_weightOfSide_2 : decode cX3_weightOfSide 2 = .ok (.iconst 0, 1) := by decide +kernel
theorem dX3_weightOfSide_3 : decode cX3_weightOfSide 3 = .ok (.istore_n 3, 1) := by decide +kernel
theorem dX3_weightOfSide_4 : decode cX3_weightOfSide 4 = .ok (.iload_n 3, 1) := by decide +kernel
theorem dX3_weightOfSide_5 : decode cX3_weightOfSide 5 = .ok (.aload_n 0, 1) := by decide +kernel
theorem dX3_weightOfSide_6 : decode cX3_weightOfSide 6 = .ok (.getfield 47, 3) := by decide +kernel
theorem dX3_weightOfSide_9 : decode cX3_weightOfSide 9 = .ok (.if_icmp .ge 60, 3) := by decide +kernel
theorem dX3_weightOfSide_12 : decode cX3_weightOfSide 12 = .ok (.aload_n 0, 1) := by decide +kernel
theorem dX3_weightOfSide_13 : decode cX3_weightOfSide 13 = .ok (.iload_n 3, 1) := by decide +kernel
theorem dX3_weightOfSide_14 : decode cX3_weightOfSide 14 = .ok (.invokevirtual 78, 3) := by decide +kernel
theorem dX3_weightOfSide_17 : decode cX3_weightOfSide 17 = .ok (.istore 4, 2) := by decide +kernel
theorem dX3_weightOfSide_19 : decode cX3_weightOfSide 19 = .ok (.iload 4, 2) := by decide +kernel
theorem dX3_weightOfSide_21 : decode cX3_weightOfSide 21 = .ok (.aload_n 0, 1) := by decide +kernel
theorem dX3_weightOfSide_22 : decode cX3_weightOfSide 22 = .ok (.iload_n 3, 1) := by decide +kernel
theorem dX3_weightOfSide_23 : decode cX3_weightOfSide 23 = .ok (.invokevirtual 82, 3) := by decide +kernel
theorem dX3_weightOfSide_26 : decode cX3_weightOfSide 26 = .ok (.if_icmp .gt 37, 3) := by decide +kernel
theorem dX3_weightOfSide_29 : decode cX3_weightOfSide 29 = .ok (.iload_n 2, 1) := by decide +kernel
theorem dX3_weightOfSide_30 : decode cX3_weightOfSide 30 = .ok (.aload_n 0, 1) := by decide +kernel
theorem dX3_weightOfSide_31 : decode cX3_weightOfSide 31 = .ok (.iload 4, 2) := by decide +kernel
theorem dX3_weightOfSide_33 : decode cX3_weightOfSide 33 = .ok (.invokevirtual 105, 3) := by decide +kernel
theorem dX3_weightOfSide_36 : decode cX3_weightOfSide 36 = .ok (.iload_n 1, 1) := by decide +kernel
theorem dX3_weightOfSide_37 : decode cX3_weightOfSide 37 = .ok (.if_icmp .ne 17, 3) := by decide +kernel
theorem dX3_weightOfSide_40 : decode cX3_weightOfSide 40 = .ok (.aload_n 0, 1) := by decide +kernel
theorem dX3_weightOfSide_41 : decode cX3_weightOfSide 41 = .ok (.aload_n 0, 1) := by decide +kernel
theorem dX3_weightOfSide_42 : decode cX3_weightOfSide 42 = .ok (.iload 4, 2) := by decide +kernel
theorem dX3_weightOfSide_44 : decode cX3_weightOfSide 44 = .ok (.iload_n 3, 1) := by decide +kernel
theorem dX3_weightOfSide_45 : decode cX3_weightOfSide 45 = .ok (.invokevirtual 99, 3) := by decide +kernel
theorem dX3_weightOfSide_48 : decode cX3_weightOfSide 48 = .ok (.invokevirtual 108, 3) := by decide +kernel
theorem dX3_weightOfSide_51 : decode cX3_weightOfSide 51 = .ok (.goto 4, 3) := by decide +kernel
theorem dX3_weightOfSide_54 : decode cX3_weightOfSide 54 = .ok (.iconst 0, 1) := by decide +kernel
theorem dX3_weightOfSide_55 : decode cX3_weightOfSide 55 = .ok (.iadd, 1) := by decide +kernel
theorem dX3_weightOfSide_56 : decode cX3_weightOfSide 56 = .ok (.istore_n 2, 1) := by decide +kernel
theorem dX3_weightOfSide_57 : decode cX3_weightOfSide 57 = .ok (.iinc 4 1, 3) := by decide +kernel
theorem dX3_weightOfSide_60 : decode cX3_weightOfSide 60 = .ok (.goto (-41), 3) := by decide +kernel
theorem dX3_weightOfSide_63 : decode cX3_weightOfSide 63 = .ok (.iinc 3 1, 3) := by decide +kernel
theorem dX3_weightOfSide_66 : decode cX3_weightOfSide 66 = .ok (.goto (-62), 3) := by decide +kernel
theorem dX3_weightOfSide_69 : decode cX3_weightOfSide 69 = .ok (.iload_n 2, 1) := by decide +kernel
theorem dX3_weightOfSide_70 : decode cX3_weightOfSide 70 = .ok (.ireturn, 1) := by decide +kernel
theorem dX3_leftWeight_0 : decode cX3_leftWeight 0 = .ok (.aload_n 0, 1) := by decide +kernel
theorem dX3_leftWeight_1 : decode cX3_leftWeight 1 = .ok (.iconst (-1), 1) := by decide +kernel
theorem dX3_leftWeight_2 : decode cX3_leftWeight 2 = .ok (.invokevirtual 111, 3) := by decide +kernel
theorem dX3_leftWeight_5 : decode cX3_leftWeight 5 = .ok (.ireturn, 1) := by decide +kernel
theorem dX3_rightWeight_0 : decode cX3_rightWeight 0 = .ok (.aload_n 0, 1) := by decide +kernel
theorem dX3_rightWeight_1 : decode cX3_rightWeight 1 = .ok (.iconst 1, 1) := by decide +kernel
theorem dX3_rightWeight_2 : decode cX3_rightWeight 2 = .ok (.invokevirtual 111, 3) := by decide +kernel
theorem dX3_rightWeight_5 : decode cX3_rightWeight 5 = .ok (.ireturn, 1) := by decide +kernel
theorem dX3_wholeWeight_0 : decode cX3_wholeWeight 0 = .ok (.aload_n 0, 1) := by decide +kernel
theorem dX3_wholeWeight_1 : decode cX3_wholeWeight 1 = .ok (.invokevirtual 114, 3) := by decide +kernel
theorem dX3_wholeWeight_4 : decode cX3_wholeWeight 4 = .ok (.aload_n 0, 1) := by decide +kernel
theorem dX3_wholeWeight_5 : decode cX3_wholeWeight 5 = .ok (.iconst 0, 1) := by decide +kernel
theorem dX3_wholeWeight_6 : decode cX3_wholeWeight 6 = .ok (.invokevirtual 111, 3) := by decide +kernel
theorem dX3_wholeWeight_9 : decode cX3_wholeWeight 9 = .ok (.iadd, 1) := by decide +kernel
theorem dX3_wholeWeight_10 : decode cX3_wholeWeight 10 = .ok (.aload_n 0, 1) := by decide +kernel
theorem dX3_wholeWeight_11 : decode cX3_wholeWeight 11 = .ok (.invokevirtual 117, 3) := by decide +kernel
theorem dX3_wholeWeight_14 : decode cX3_wholeWeight 14 = .ok (.iadd, 1) := by decide +kernel
theorem dX3_wholeWeight_15 : decode cX3_wholeWeight 15 = .ok (.ireturn, 1) := by decide +kernel
theorem dX3_balance_0 : decode cX3_balance 0 = .ok (.aload_n 0, 1) := by decide +kernel
theorem dX3_balance_1 : decode cX3_balance 1 = .ok (.invokevirtual 117, 3) := by decide +kernel
theorem dX3_balance_4 : decode cX3_balance 4 = .ok (.aload_n 0, 1) := by decide +kernel
theorem dX3_balance_5 : decode cX3_balance 5 = .ok (.invokevirtual 114, 3) := by decide +kernel
theorem dX3_balance_8 : decode cX3_balance 8 = .ok (.isub, 1) := by decide +kernel
theorem dX3_balance_9 : decode cX3_balance 9 = .ok (.ireturn, 1) := by decide +kernel
theorem dX3_patternColour_0 : decode cX3_patternColour 0 = .ok (.aload_n 0, 1) := by decide +kernel
theorem dX3_patternColour_1 : decode cX3_patternColour 1 = .ok (.getfield 27, 3) := by decide +kernel
theorem dX3_patternColour_4 : decode cX3_patternColour 4 = .ok (.iload_n 1, 1) := by decide +kernel
theorem dX3_patternColour_5 : decode cX3_patternColour 5 = .ok (.bipush 6, 2) := by decide +kernel
theorem dX3_patternColour_7 : decode cX3_patternColour 7 = .ok (.imul, 1) := by decide +kernel
theorem dX3_patternColour_8 : decode cX3_patternColour 8 = .ok (.iload_n 2, 1) := by decide +kernel
theorem dX3_patternColour_9 : decode cX3_patternColour 9 = .ok (.iadd, 1) := by decide +kernel
theorem dX3_patternColour_10 : decode cX3_patternColour 10 = .ok (.bipush 7, 2) := by decide +kernel
theorem dX3_patternColour_12 : decode cX3_patternColour 12 = .ok (.imul, 1) := by decide +kernel
theorem dX3_patternColour_13 : decode cX3_patternColour 13 = .ok (.iload_n 3, 1) := by decide +kernel
theorem dX3_patternColour_14 : decode cX3_patternColour 14 = .ok (.iadd, 1) := by decide +kernel
theorem dX3_patternColour_15 : decode cX3_patternColour 15 = .ok (.iaload, 1) := by decide +kernel
theorem dX3_patternColour_16 : decode cX3_patternColour 16 = .ok (.ireturn, 1) := by decide +kernel
theorem dX3_setPatternColour_0 : decode cX3_setPatternColour 0 = .ok (.aload_n 0, 1) := by decide +kernel
theorem dX3_setPatternColour_1 : decode cX3_setPatternColour 1 = .ok (.getfield 27, 3) := by decide +kernel
theorem dX3_setPatternColour_4 : decode cX3_setPatternColour 4 = .ok (.iload_n 1, 1) := by decide +kernel
theorem dX3_setPatternColour_5 : decode cX3_setPatternColour 5 = .ok (.bipush 6, 2) := by decide +kernel
theorem dX3_setPatternColour_7 : decode cX3_setPatternColour 7 = .ok (.imul, 1) := by decide +kernel
theorem dX3_setPatternColour_8 : decode cX3_setPatternColour 8 = .ok (.iload_n 2, 1) := by decide +kernel
theorem dX3_setPatternColour_9 : decode cX3_setPatternColour 9 = .ok (.iadd, 1) := by decide +kernel
theorem dX3_setPatternColour_10 : decode cX3_setPatternColour 10 = .ok (.bipush 7, 2) := by decide +kernel
theorem dX3_setPatternColour_12 : decode cX3_setPatternColour 12 = .ok (.imul, 1) := by decide +kernel
theorem dX3_setPatternColour_13 : decode cX3_setPatternColour 13 = .ok (.iload_n 3, 1) := by decide +kernel
theorem dX3_setPatternColour_14 : decode cX3_setPatternColour 14 = .ok (.iadd, 1) := by decide +kernel
theorem dX3_setPatternColour_15 : decode cX3_setPatternColour 15 = .ok (.iload 4, 2) := by decide +kernel
theorem dX3_setPatternColour_17 : decode cX3_setPatternColour 17 = .ok (.iastore, 1) := by decide +kernel
theorem dX3_setPatternColour_18 : decode cX3_setPatternColour 18 = .ok (.return_, 1) := by decide +kernel
theorem dX3_paintingDigits_0 : decode cX3_paintingDigits 0 = .ok (.iconst 0, 1) := by decide +kernel
theorem dX3_paintingDigits_1 : decode cX3_paintingDigits 1 = .ok (.istore_n 2, 1) := by decide +kernel
theorem dX3_paintingDigits_2 : decode cX3_paintingDigits 2 = .ok (.iconst 0, 1) := by decide +kernel
theorem dX3_paintingDigits_3 : decode cX3_paintingDigits 3 = .ok (.istore_n 3, 1) := by decide +kernel
theorem dX3_paintingDigits_4 : decode cX3_paintingDigits 4 = .ok (.iload_n 3, 1) := by decide +kernel
theorem dX3_paintingDigits_5 : decode cX3_paintingDigits 5 = .ok (.aload_n 0, 1) := by decide +kernel
theorem dX3_paintingDigits_6 : decode cX3_paintingDigits 6 = .ok (.getfield 21, 3) := by decide +kernel
theorem dX3_paintingDigits_9 : decode cX3_paintingDigits 9 = .ok (.iload_n 1, 1) := by decide +kernel
theorem dX3_paintingDigits_10 : decode cX3_paintingDigits 10 = .ok (.iaload, 1) := by decide +kernel
theorem dX3_paintingDigits_11 : decode cX3_paintingDigits 11 = .ok (.if_icmp .ge 48, 3) := by decide +kernel
theorem dX3_paintingDigits_14 : decode cX3_paintingDigits 14 = .ok (.iconst 0, 1) := by decide +kernel
theorem dX3_paintingDigits_15 : decode cX3_paintingDigits 15 = .ok (.istore 4, 2) := by decide +kernel
theorem dX3_paintingDigits_17 : decode cX3_paintingDigits 17 = .ok (.iload 4, 2) := by decide +kernel
theorem dX3_paintingDigits_19 : decode cX3_paintingDigits 19 = .ok (.aload_n 0, 1) := by decide +kernel
theorem dX3_paintingDigits_20 : decode cX3_paintingDigits 20 = .ok (.getfield 24, 3) := by decide +kernel
theorem dX3_paintingDigits_23 : decode cX3_paintingDigits 23 = .ok (.iload_n 1, 1) := by decide +kernel
theorem dX3_paintingDigits_24 : decode cX3_paintingDigits 24 = .ok (.iaload, 1) := by decide +kernel
theorem dX3_paintingDigits_25 : decode cX3_paintingDigits 25 = .ok (.if_icmp .ge 28, 3) := by decide +kernel
theorem dX3_paintingDigits_28 : decode cX3_paintingDigits 28 = .ok (.iload_n 2, 1) := by decide +kernel
theorem dX3_paintingDigits_29 : decode cX3_paintingDigits 29 = .ok (.aload_n 0, 1) := by decide +kernel
theorem dX3_paintingDigits_30 : decode cX3_paintingDigits 30 = .ok (.iload_n 1, 1) := by decide +kernel
theorem dX3_paintingDigits_31 : decode cX3_paintingDigits 31 = .ok (.iload_n 3, 1) := by decide +kernel
theorem dX3_paintingDigits_32 : decode cX3_paintingDigits 32 = .ok (.iload 4, 2) := by decide +kernel
theorem dX3_paintingDigits_34 : decode cX3_paintingDigits 34 = .ok (.invokevirtual 120, 3) := by decide +kernel
theorem dX3_paintingDigits_37 : decode cX3_paintingDigits 37 = .ok (.ifCond .eq 7, 3) := by decide +kernel
theorem dX3_paintingDigits_40 : decode cX3_paintingDigits 40 = .ok (.iconst 1, 1) := by decide +kernel
theorem dX3_paintingDigits_41 : decode cX3_paintingDigits 41 = .ok (.goto 4, 3) := by decide +kernel
theorem dX3_paintingDigits_44 : decode cX3_paintingDigits 44 = .ok (.iconst 0, 1) := by decide +kernel
theorem dX3_paintingDigits_45 : decode cX3_paintingDigits 45 = .ok (.iadd, 1) := by decide +kernel
theorem dX3_paintingDigits_46 : decode cX3_paintingDigits 46 = .ok (.istore_n 2, 1) := by decide +kernel
theorem dX3_paintingDigits_47 : decode cX3_paintingDigits 47 = .ok (.iinc 4 1, 3) := by decide +kernel
theorem dX3_paintingDigits_50 : decode cX3_paintingDigits 50 = .ok (.goto (-33), 3) := by decide +kernel
theorem dX3_paintingDigits_53 : decode cX3_paintingDigits 53 = .ok (.iinc 3 1, 3) := by decide +kernel
theorem dX3_paintingDigits_56 : decode cX3_paintingDigits 56 = .ok (.goto (-52), 3) := by decide +kernel
theorem dX3_paintingDigits_59 : decode cX3_paintingDigits 59 = .ok (.iload_n 2, 1) := by decide +kernel
theorem dX3_paintingDigits_60 : decode cX3_paintingDigits 60 = .ok (.ireturn, 1) := by decide +kernel
theorem dX3_putColour_0 : decode cX3_putColour 0 = .ok (.aload_n 0, 1) := by decide +kernel
theorem dX3_putColour_1 : decode cX3_putColour 1 = .ok (.iload_n 1, 1) := by decide +kernel
theorem dX3_putColour_2 : decode cX3_putColour 2 = .ok (.iload_n 2, 1) := by decide +kernel
theorem dX3_putColour_3 : decode cX3_putColour 3 = .ok (.invokevirtual 124, 3) := by decide +kernel
theorem dX3_putColour_6 : decode cX3_putColour 6 = .ok (.ifCond .ne 4, 3) := by decide +kernel
theorem dX3_putColour_9 : decode cX3_putColour 9 = .ok (.return_, 1) := by decide +kernel
theorem dX3_putColour_10 : decode cX3_putColour 10 = .ok (.aload_n 0, 1) := by decide +kernel
theorem dX3_putColour_11 : decode cX3_putColour 11 = .ok (.aload_n 0, 1) := by decide +kernel
theorem dX3_putColour_12 : decode cX3_putColour 12 = .ok (.iload_n 1, 1) := by decide +kernel
theorem dX3_putColour_13 : decode cX3_putColour 13 = .ok (.iload_n 2, 1) := by decide +kernel
theorem dX3_putColour_14 : decode cX3_putColour 14 = .ok (.invokevirtual 99, 3) := by decide +kernel
theorem dX3_putColour_17 : decode cX3_putColour 17 = .ok (.iload_n 3, 1) := by decide +kernel
theorem dX3_putColour_18 : decode cX3_putColour 18 = .ok (.iload 4, 2) := by decide +kernel
theorem dX3_putColour_20 : decode cX3_putColour 20 = .ok (.invokevirtual 128, 3) := by decide +kernel
theorem dX3_putColour_23 : decode cX3_putColour 23 = .ok (.iload 5, 2) := by decide +kernel
theorem dX3_putColour_25 : decode cX3_putColour 25 = .ok (.ifCond .eq 20, 3) := by decide +kernel
theorem dX3_putColour_28 : decode cX3_putColour 28 = .ok (.aload_n 0, 1) := by decide +kernel
theorem dX3_putColour_29 : decode cX3_putColour 29 = .ok (.aload_n 0, 1) := by decide +kernel
theorem dX3_putColour_30 : decode cX3_putColour 30 = .ok (.aload_n 0, 1) := by decide +kernel
theorem dX3_putColour_31 : decode cX3_putColour 31 = .ok (.iload_n 1, 1) := by decide +kernel
theorem dX3_putColour_32 : decode cX3_putColour 32 = .ok (.invokevirtual 102, 3) := by decide +kernel
theorem dX3_putColour_35 : decode cX3_putColour 35 = .ok (.iload_n 2, 1) := by decide +kernel
theorem dX3_putColour_36 : decode cX3_putColour 36 = .ok (.invokevirtual 99, 3) := by decide +kernel
theorem dX3_putColour_39 : decode cX3_putColour 39 = .ok (.iload_n 3, 1) := by decide +kernel
theorem dX3_putColour_40 : decode cX3_putColour 40 = .ok (.iload 4, 2) := by decide +kernel
theorem dX3_putColour_42 : decode cX3_putColour 42 = .ok (.invokevirtual 128, 3) := by decide +kernel
theorem dX3_putColour_45 : decode cX3_putColour 45 = .ok (.return_, 1) := by decide +kernel
theorem dX3_setCell_0 : decode cX3_setCell 0 = .ok (.aload_n 0, 1) := by decide +kernel
theorem dX3_setCell_1 : decode cX3_setCell 1 = .ok (.getfield 30, 3) := by decide +kernel
theorem dX3_setCell_4 : decode cX3_setCell 4 = .ok (.iload_n 1, 1) := by decide +kernel
theorem dX3_setCell_5 : decode cX3_setCell 5 = .ok (.iload_n 2, 1) := by decide +kernel
theorem dX3_setCell_6 : decode cX3_setCell 6 = .ok (.iastore, 1) := by decide +kernel
theorem dX3_setCell_7 : decode cX3_setCell 7 = .ok (.aload_n 0, 1) := by decide +kernel
theorem dX3_setCell_8 : decode cX3_setCell 8 = .ok (.getfield 33, 3) := by decide +kernel
theorem dX3_setCell_11 : decode cX3_setCell 11 = .ok (.iload_n 1, 1) := by decide +kernel
theorem dX3_setCell_12 : decode cX3_setCell 12 = .ok (.iload_n 3, 1) := by decide +kernel
theorem dX3_setCell_13 : decode cX3_setCell 13 = .ok (.iastore, 1) := by decide +kernel
theorem dX3_setCell_14 : decode cX3_setCell 14 = .ok (.return_, 1) := by decide +kernel
theorem dX3_sourceOf_0 : decode cX3_sourceOf 0 = .ok (.aload_n 0, 1) := by decide +kernel
theorem dX3_sourceOf_1 : decode cX3_sourceOf 1 = .ok (.iload_n 1, 1) := by decide +kernel
theorem dX3_sourceOf_2 : decode cX3_sourceOf 2 = .ok (.iload_n 2, 1) := by decide +kernel
theorem dX3_sourceOf_3 : decode cX3_sourceOf 3 = .ok (.invokevirtual 99, 3) := by decide +kernel
theorem dX3_sourceOf_6 : decode cX3_sourceOf 6 = .ok (.istore_n 3, 1) := by decide +kernel
theorem dX3_sourceOf_7 : decode cX3_sourceOf 7 = .ok (.aload_n 0, 1) := by decide +kernel
theorem dX3_sourceOf_8 : decode cX3_sourceOf 8 = .ok (.getfield 36, 3) := by decide +kernel
theorem dX3_sourceOf_11 : decode cX3_sourceOf 11 = .ok (.iload_n 3, 1) := by decide +kernel
theorem dX3_sourceOf_12 : decode cX3_sourceOf 12 = .ok (.iaload, 1) := by decide +kernel
theorem dX3_sourceOf_13 : decode cX3_sourceOf 13 = .ok (.iconst 1, 1) := by decide +kernel
theorem dX3_sourceOf_14 : decode cX3_sourceOf 14 = .ok (.if_icmp .ne 6, 3) := by decide +kernel
theorem dX3_sourceOf_17 : decode cX3_sourceOf 17 = .ok (.bipush (-2), 2) := by decide +kernel
theorem dX3_sourceOf_19 : decode cX3_sourceOf 19 = .ok (.ireturn, 1) := by decide +kernel
theorem dX3_sourceOf_20 : decode cX3_sourceOf 20 = .ok (.aload_n 0, 1) := by decide +kernel
theorem dX3_sourceOf_21 : decode cX3_sourceOf 21 = .ok (.getfield 33, 3) := by decide +kernel
theorem dX3_sourceOf_24 : decode cX3_sourceOf 24 = .ok (.iload_n 3, 1) := by decide +kernel
theorem dX3_sourceOf_25 : decode cX3_sourceOf 25 = .ok (.iaload, 1) := by decide +kernel
theorem dX3_sourceOf_26 : decode cX3_sourceOf 26 = .ok (.ifCond .ne 15, 3) := by decide +kernel
theorem dX3_sourceOf_29 : decode cX3_sourceOf 29 = .ok (.aload_n 0, 1) := by decide +kernel
theorem dX3_sourceOf_30 : decode cX3_sourceOf 30 = .ok (.getfield 30, 3) := by decide +kernel
theorem dX3_sourceOf_33 : decode cX3_sourceOf 33 = .ok (.iload_n 3, 1) := by decide +kernel
theorem dX3_sourceOf_34 : decode cX3_sourceOf 34 = .ok (.iaload, 1) := by decide +kernel
theorem dX3_sourceOf_35 : decode cX3_sourceOf 35 = .ok (.ifCond .eq 6, 3) := by decide +kernel
theorem dX3_sourceOf_38 : decode cX3_sourceOf 38 = .ok (.bipush (-3), 2) := by decide +kernel
theorem dX3_sourceOf_40 : decode cX3_sourceOf 40 = .ok (.ireturn, 1) := by decide +kernel
theorem dX3_sourceOf_41 : decode cX3_sourceOf 41 = .ok (.iconst (-1), 1) := by decide +kernel
theorem dX3_sourceOf_42 : decode cX3_sourceOf 42 = .ok (.istore 4, 2) := by decide +kernel
theorem dX3_sourceOf_44 : decode cX3_sourceOf 44 = .ok (.iconst 0, 1) := by decide +kernel
theorem dX3_sourceOf_45 : decode cX3_sourceOf 45 = .ok (.istore 5, 2) := by decide +kernel
theorem dX3_sourceOf_47 : decode cX3_sourceOf 47 = .ok (.iload 5, 2) := by decide +kernel
theorem dX3_sourceOf_49 : decode cX3_sourceOf 49 = .ok (.getstatic 132, 3) := by decide +kernel
theorem dX3_sourceOf_52 : decode cX3_sourceOf 52 = .ok (.arraylength, 1) := by decide +kernel
theorem dX3_sourceOf_53 : decode cX3_sourceOf 53 = .ok (.if_icmp .ge 113, 3) := by decide +kernel
theorem dX3_sourceOf_56 : decode cX3_sourceOf 56 = .ok (.iload_n 1, 1) := by decide +kernel
theorem dX3_sourceOf_57 : decode cX3_sourceOf 57 = .ok (.getstatic 132, 3) := by decide +kernel
theorem dX3_sourceOf_60 : decode cX3_sourceOf 60 = .ok (.iload 5, 2) := by decide +kernel
theorem dX3_sourceOf_62 : decode cX3_sourceOf 62 = .ok (.iaload, 1) := by decide +kernel
theorem dX3_sourceOf_63 : decode cX3_sourceOf 63 = .ok (.iadd, 1) := by decide +kernel
theorem dX3_sourceOf_64 : decode cX3_sourceOf 64 = .ok (.istore 6, 2) := by decide +kernel
theorem dX3_sourceOf_66 : decode cX3_sourceOf 66 = .ok (.iload_n 2, 1) := by decide +kernel
theorem dX3_sourceOf_67 : decode cX3_sourceOf 67 = .ok (.getstatic 135, 3) := by decide +kernel
theorem dX3_sourceOf_70 : decode cX3_sourceOf 70 = .ok (.iload 5, 2) := by decide +kernel
theorem dX3_sourceOf_72 : decode cX3_sourceOf 72 = .ok (.iaload, 1) := by decide +kernel
theorem dX3_sourceOf_73 : decode cX3_sourceOf 73 = .ok (.iadd, 1) := by decide +kernel
theorem dX3_sourceOf_74 : decode cX3_sourceOf 74 = .ok (.istore 7, 2) := by decide +kernel
theorem dX3_sourceOf_76 : decode cX3_sourceOf 76 = .ok (.aload_n 0, 1) := by decide +kernel
theorem dX3_sourceOf_77 : decode cX3_sourceOf 77 = .ok (.iload 6, 2) := by decide +kernel
theorem dX3_sourceOf_79 : decode cX3_sourceOf 79 = .ok (.iload 7, 2) := by decide +kernel
theorem dX3_sourceOf_81 : decode cX3_sourceOf 81 = .ok (.invokevirtual 124, 3) := by decide +kernel
theorem dX3_sourceOf_84 : decode cX3_sourceOf 84 = .ok (.ifCond .ne 6, 3) := by decide +kernel
theorem dX3_sourceOf_87 : decode cX3_sourceOf 87 = .ok (.goto 73, 3) := by decide +kernel
theorem dX3_sourceOf_90 : decode cX3_sourceOf 90 = .ok (.aload_n 0, 1) := by decide +kernel
theorem dX3_sourceOf_91 : decode cX3_sourceOf 91 = .ok (.iload 6, 2) := by decide +kernel
theorem dX3_sourceOf_93 : decode cX3_sourceOf 93 = .ok (.iload 7, 2) := by decide +kernel
theorem dX3_sourceOf_95 : decode cX3_sourceOf 95 = .ok (.invokevirtual 99, 3) := by decide +kernel
theorem dX3_sourceOf_98 : decode cX3_sourceOf 98 = .ok (.istore 8, 2) := by decide +kernel
theorem dX3_sourceOf_100 : decode cX3_sourceOf 100 = .ok (.aload_n 0, 1) := by decide +kernel
theorem dX3_sourceOf_101 : decode cX3_sourceOf 101 = .ok (.getfield 36, 3) := by decide +kernel
theorem dX3_sourceOf_104 : decode cX3_sourceOf 104 = .ok (.iload 8, 2) := by decide +kernel
theorem dX3_sourceOf_106 : decode cX3_sourceOf 106 = .ok (.iaload, 1) := by decide +kernel
theorem dX3_sourceOf_107 : decode cX3_sourceOf 107 = .ok (.ifCond .ne 25, 3) := by decide +kernel
theorem dX3_sourceOf_110 : decode cX3_sourceOf 110 = .ok (.aload_n 0, 1) := by decide +kernel
theorem dX3_sourceOf_111 : decode cX3_sourceOf 111 = .ok (.getfield 33, 3) := by decide +kernel
theorem dX3_sourceOf_114 : decode cX3_sourceOf 114 = .ok (.iload 8, 2) := by decide +kernel
theorem dX3_sourceOf_116 : decode cX3_sourceOf 116 = .ok (.iaload, 1) := by decide +kernel
theorem dX3_sourceOf_117 : decode cX3_sourceOf 117 = .ok (.aload_n 0, 1) := by decide +kernel
theorem dX3_sourceOf_118 : decode cX3_sourceOf 118 = .ok (.getfield 33, 3) := by decide +kernel
theorem dX3_sourceOf_121 : decode cX3_sourceOf 121 = .ok (.iload_n 3, 1) := by decide +kernel
theorem dX3_sourceOf_122 : decode cX3_sourceOf 122 = .ok (.iaload, 1) := by decide +kernel
theorem dX3_sourceOf_123 : decode cX3_sourceOf 123 = .ok (.iconst 2, 1) := by decide +kernel
theorem dX3_sourceOf_124 : decode cX3_sourceOf 124 = .ok (.iadd, 1) := by decide +kernel
theorem dX3_sourceOf_125 : decode cX3_sourceOf 125 = .ok (.if_icmp .lt 7, 3) := by decide +kernel
theorem dX3_sourceOf_128 : decode cX3_sourceOf 128 = .ok (.iconst 1, 1) := by decide +kernel
theorem dX3_sourceOf_129 : decode cX3_sourceOf 129 = .ok (.goto 4, 3) := by decide +kernel
theorem dX3_sourceOf_132 : decode cX3_sourceOf 132 = .ok (.iconst 0, 1) := by decide +kernel
theorem dX3_sourceOf_133 : decode cX3_sourceOf 133 = .ok (.istore 9, 2) := by decide +kernel
theorem dX3_sourceOf_135 : decode cX3_sourceOf 135 = .ok (.iload 9, 2) := by decide +kernel
theorem dX3_sourceOf_137 : decode cX3_sourceOf 137 = .ok (.ifCond .eq 23, 3) := by decide +kernel
theorem dX3_sourceOf_140 : decode cX3_sourceOf 140 = .ok (.iload 4, 2) := by decide +kernel
theorem dX3_sourceOf_142 : decode cX3_sourceOf 142 = .ok (.ifCond .lt 14, 3) := by decide +kernel
theorem dX3_sourceOf_145 : decode cX3_sourceOf 145 = .ok (.aload_n 0, 1) := by decide +kernel
theorem dX3_sourceOf_146 : decode cX3_sourceOf 146 = .ok (.iload 8, 2) := by decide +kernel
theorem dX3_sourceOf_148 : decode cX3_sourceOf 148 = .ok (.iload 4, 2) := by decide +kernel
theorem dX3_sourceOf_150 : decode cX3_sourceOf 150 = .ok (.invokevirtual 138, 3) := by decide +kernel
theorem dX3_sourceOf_153 : decode cX3_sourceOf 153 = .ok (.ifCond .eq 7, 3) := by decide +kernel
theorem dX3_sourceOf_156 : decode cX3_sourceOf 156 = .ok (.iload 8, 2) := by decide +kernel
theorem dX3_sourceOf_158 : decode cX3_sourceOf 158 = .ok (.istore 4, 2) := by decide +kernel
theorem dX3_sourceOf_160 : decode cX3_sourceOf 160 = .ok (.iinc 5 1, 3) := by decide +kernel
theorem dX3_sourceOf_163 : decode cX3_sourceOf 163 = .ok (.goto (-116), 3) := by decide +kernel
theorem dX3_sourceOf_166 : decode cX3_sourceOf 166 = .ok (.iload 4, 2) := by decide +kernel
theorem dX3_sourceOf_168 : decode cX3_sourceOf 168 = .ok (.ireturn, 1) := by decide +kernel
theorem dX3_isAhead_0 : decode cX3_isAhead 0 = .ok (.aload_n 0, 1) := by decide +kernel
theorem dX3_isAhead_1 : decode cX3_isAhead 1 = .ok (.getfield 33, 3) := by decide +kernel
theorem dX3_isAhead_4 : decode cX3_isAhead 4 = .ok (.iload_n 1, 1) := by decide +kernel
theorem dX3_isAhead_5 : decode cX3_isAhead 5 = .ok (.iaload, 1) := by decide +kernel
theorem dX3_isAhead_6 : decode cX3_isAhead 6 = .ok (.aload_n 0, 1) := by decide +kernel
theorem dX3_isAhead_7 : decode cX3_isAhead 7 = .ok (.getfield 33, 3) := by decide +kernel
theorem dX3_isAhead_10 : decode cX3_isAhead 10 = .ok (.iload_n 2, 1) := by decide +kernel
theorem dX3_isAhead_11 : decode cX3_isAhead 11 = .ok (.iaload, 1) := by decide +kernel
theorem dX3_isAhead_12 : decode cX3_isAhead 12 = .ok (.if_icmp .eq 24, 3) := by decide +kernel
theorem dX3_isAhead_15 : decode cX3_isAhead 15 = .ok (.aload_n 0, 1) := by decide +kernel
theorem dX3_isAhead_16 : decode cX3_isAhead 16 = .ok (.getfield 33, 3) := by decide +kernel
theorem dX3_isAhead_19 : decode cX3_isAhead 19 = .ok (.iload_n 1, 1) := by decide +kernel
theorem dX3_isAhead_20 : decode cX3_isAhead 20 = .ok (.iaload, 1) := by decide +kernel
theorem dX3_isAhead_21 : decode cX3_isAhead 21 = .ok (.aload_n 0, 1) := by decide +kernel
theorem dX3_isAhead_22 : decode cX3_isAhead 22 = .ok (.getfield 33, 3) := by decide +kernel
theorem dX3_isAhead_25 : decode cX3_isAhead 25 = .ok (.iload_n 2, 1) := by decide +kernel
theorem dX3_isAhead_26 : decode cX3_isAhead 26 = .ok (.iaload, 1) := by decide +kernel
theorem dX3_isAhead_27 : decode cX3_isAhead 27 = .ok (.if_icmp .le 7, 3) := by decide +kernel
theorem dX3_isAhead_30 : decode cX3_isAhead 30 = .ok (.iconst 1, 1) := by decide +kernel
theorem dX3_isAhead_31 : decode cX3_isAhead 31 = .ok (.goto 4, 3) := by decide +kernel
theorem dX3_isAhead_34 : decode cX3_isAhead 34 = .ok (.iconst 0, 1) := by decide +kernel
theorem dX3_isAhead_35 : decode cX3_isAhead 35 = .ok (.ireturn, 1) := by decide +kernel
theorem dX3_isAhead_36 : decode cX3_isAhead 36 = .ok (.aload_n 0, 1) := by decide +kernel
theorem dX3_isAhead_37 : decode cX3_isAhead 37 = .ok (.getfield 30, 3) := by decide +kernel
theorem dX3_isAhead_40 : decode cX3_isAhead 40 = .ok (.iload_n 1, 1) := by decide +kernel
theorem dX3_isAhead_41 : decode cX3_isAhead 41 = .ok (.iaload, 1) := by decide +kernel
theorem dX3_isAhead_42 : decode cX3_isAhead 42 = .ok (.aload_n 0, 1) := by decide +kernel
theorem dX3_isAhead_43 : decode cX3_isAhead 43 = .ok (.getfield 30, 3) := by decide +kernel
theorem dX3_isAhead_46 : decode cX3_isAhead 46 = .ok (.iload_n 2, 1) := by decide +kernel
theorem dX3_isAhead_47 : decode cX3_isAhead 47 = .ok (.iaload, 1) := by decide +kernel
theorem dX3_isAhead_48 : decode cX3_isAhead 48 = .ok (.if_icmp .le 7, 3) := by decide +kernel
theorem dX3_isAhead_51 : decode cX3_isAhead 51 = .ok (.iconst 1, 1) := by decide +kernel
theorem dX3_isAhead_52 : decode cX3_isAhead 52 = .ok (.goto 4, 3) := by decide +kernel
theorem dX3_isAhead_55 : decode cX3_isAhead 55 = .ok (.iconst 0, 1) := by decide +kernel
theorem dX3_isAhead_56 : decode cX3_isAhead 56 = .ok (.ireturn, 1) := by decide +kernel
theorem dX4_init_0 : decode cX4_init 0 = .ok (.aload_n 0, 1) := by decide +kernel
theorem dX4_init_1 : decode cX4_init 1 = .ok (.invokespecial 3, 3) := by decide +kernel
theorem dX4_init_4 : decode cX4_init 4 = .ok (.aload_n 0, 1) := by decide +kernel
theorem dX4_init_5 : decode cX4_init 5 = .ok (.sipush 600, 3) := by decide +kernel
theorem dX4_init_8 : decode cX4_init 8 = .ok (.newarray .byte, 2) := by decide +kernel
theorem dX4_init_10 : decode cX4_init 10 = .ok (.putfield 9, 3) := by decide +kernel
theorem dX4_init_13 : decode cX4_init 13 = .ok (.return_, 1) := by decide +kernel
theorem dX4_putFourBytes_0 : decode cX4_putFourBytes 0 = .ok (.bipush 24, 2) := by decide +kernel
theorem dX4_putFourBytes_2 : decode cX4_putFourBytes 2 = .ok (.istore_n 2, 1) := by decide +kernel
theorem dX4_putFourBytes_3 : decode cX4_putFourBytes 3 = .ok (.iload_n 2, 1) := by decide +kernel
theorem dX4_putFourBytes_4 : decode cX4_putFourBytes 4 = .ok (.ifCond .lt 42, 3) := by decide +kernel
theorem dX4_putFourBytes_7 : decode cX4_putFourBytes 7 = .ok (.aload_n 0, 1) := by decide +kernel
theorem dX4_putFourBytes_8 : decode cX4_putFourBytes 8 = .ok (.getfield 15, 3) := by decide +kernel
theorem dX4_putFourBytes_11 : decode cX4_putFourBytes 11 = .ok (.sipush 600, 3) := by decide +kernel
theorem dX4_putFourBytes_14 : decode cX4_putFourBytes 14 = .ok (.if_icmp .ge 32, 3) := by decide +kernel
theorem dX4_putFourBytes_17 : decode cX4_putFourBytes 17 = .ok (.aload_n 0, 1) := by decide +kernel
theorem dX4_putFourBytes_18 : decode cX4_putFourBytes 18 = .ok (.getfield 9, 3) := by decide +kernel
theorem dX4_putFourBytes_21 : decode cX4_putFourBytes 21 = .ok (.aload_n 0, 1) := by decide +kernel
theorem dX4_putFourBytes_22 : decode cX4_putFourBytes 22 = .ok (.getfield 15, 3) := by decide +kernel
theorem dX4_putFourBytes_25 : decode cX4_putFourBytes 25 = .ok (.iload_n 1, 1) := by decide +kernel
theorem dX4_putFourBytes_26 : decode cX4_putFourBytes 26 = .ok (.iload_n 2, 1) := by decide +kernel
theorem dX4_putFourBytes_27 : decode cX4_putFourBytes 27 = .ok (.ishr, 1) := by decide +kernel
theorem dX4_putFourBytes_28 : decode cX4_putFourBytes 28 = .ok (.i2b, 1) := by decide +kernel
theorem dX4_putFourBytes_29 : decode cX4_putFourBytes 29 = .ok (.bastore, 1) := by decide +kernel
theorem dX4_putFourBytes_30 : decode cX4_putFourBytes 30 = .ok (.aload_n 0, 1) := by decide +kernel
theorem dX4_putFourBytes_31 : decode cX4_putFourBytes 31 = .ok (.dup, 1) := by decide +kernel
theorem dX4_putFourBytes_32 : decode cX4_putFourBytes 32 = .ok (.getfield 15, 3) := by decide +kernel
theorem dX4_putFourBytes_35 : decode cX4_putFourBytes 35 = .ok (.iconst 1, 1) := by decide +kernel
theorem dX4_putFourBytes_36 : decode cX4_putFourBytes 36 = .ok (.iadd, 1) := by decide +kernel
theorem dX4_putFourBytes_37 : decode cX4_putFourBytes 37 = .ok (.putfield 15, 3) := by decide +kernel
theorem dX4_putFourBytes_40 : decode cX4_putFourBytes 40 = .ok (.iinc 2 (-8), 3) := by decide +kernel
theorem dX4_putFourBytes_43 : decode cX4_putFourBytes 43 = .ok (.goto (-40), 3) := by decide +kernel
theorem dX4_putFourBytes_46 : decode cX4_putFourBytes 46 = .ok (.return_, 1) := by decide +kernel
theorem dX4_readSetup_0 : decode cX4_readSetup 0 = .ok (.aload_n 0, 1) := by decide +kernel
theorem dX4_readSetup_1 : decode cX4_readSetup 1 = .ok (.iload_n 1, 1) := by decide +kernel
theorem dX4_readSetup_2 : decode cX4_readSetup 2 = .ok (.aload_n 0, 1) := by decide +kernel
theorem dX4_readSetup_3 : decode cX4_readSetup 3 = .ok (.getfield 15, 3) := by decide +kernel
theorem dX4_readSetup_6 : decode cX4_readSetup 6 = .ok (.invokestatic 19, 3) := by decide +kernel
theorem dX4_readSetup_9 : decode cX4_readSetup 9 = .ok (.putfield 25, 3) := by decide +kernel
theorem dX4_readSetup_12 : decode cX4_readSetup 12 = .ok (.aload_n 0, 1) := by decide +kernel
theorem dX4_readSetup_13 : decode cX4_readSetup 13 = .ok (.iconst 0, 1) := by decide +kernel
theorem dX4_readSetup_14 : decode cX4_readSetup 14 = .ok (.putfield 28, 3) := by decide +kernel
theorem dX4_readSetup_17 : decode cX4_readSetup 17 = .ok (.aload_n 0, 1) := by decide +kernel
theorem dX4_readSetup_18 : decode cX4_readSetup 18 = .ok (.iconst 0, 1) := by decide +kernel
theorem dX4_readSetup_19 : decode cX4_readSetup 19 = .ok (.putfield 31, 3) := by decide +kernel
theorem dX4_readSetup_22 : decode cX4_readSetup 22 = .ok (.aload_n 0, 1) := by decide +kernel
theorem dX4_readSetup_23 : decode cX4_readSetup 23 = .ok (.iconst (-1), 1) := by decide +kernel
theorem dX4_readSetup_24 : decode cX4_readSetup 24 = .ok (.putfield 34, 3) := by decide +kernel
theorem dX4_readSetup_27 : decode cX4_readSetup 27 = .ok (.aload_n 0, 1) := by decide +kernel
theorem dX4_readSetup_28 : decode cX4_readSetup 28 = .ok (.iconst 0, 1) := by decide +kernel
theorem dX4_readSetup_29 : decode cX4_readSetup 29 = .ok (.putfield 37, 3) := by decide +kernel
theorem dX4_readSetup_32 : decode cX4_readSetup 32 = .ok (.aload_n 0, 1) := by decide +kernel
theorem dX4_readSetup_33 : decode cX4_readSetup 33 = .ok (.iconst 0, 1) := by decide +kernel
theorem dX4_readSetup_34 : decode cX4_readSetup 34 = .ok (.putfield 41, 3) := by decide +kernel
theorem dX4_readSetup_37 : decode cX4_readSetup 37 = .ok (.aload_n 0, 1) := by decide +kernel
theorem dX4_readSetup_38 : decode cX4_readSetup 38 = .ok (.iconst 0, 1) := by decide +kernel
theorem dX4_readSetup_39 : decode cX4_readSetup 39 = .ok (.putfield 44, 3) := by decide +kernel
theorem dX4_readSetup_42 : decode cX4_readSetup 42 = .ok (.aload_n 0, 1) := by decide +kernel
theorem dX4_readSetup_43 : decode cX4_readSetup 43 = .ok (.iconst 0, 1) := by decide +kernel
theorem dX4_readSetup_44 : decode cX4_readSetup 44 = .ok (.putfield 47, 3) := by decide +kernel
theorem dX4_readSetup_47 : decode cX4_readSetup 47 = .ok (.aload_n 0, 1) := by decide +kernel
theorem dX4_readSetup_48 : decode cX4_readSetup 48 = .ok (.invokevirtual 50, 3) := by decide +kernel
theorem dX4_readSetup_51 : decode cX4_readSetup 51 = .ok (.aload_n 0, 1) := by decide +kernel
theorem dX4_readSetup_52 : decode cX4_readSetup 52 = .ok (.aload_n 2, 1) := by decide +kernel
theorem dX4_readSetup_53 : decode cX4_readSetup 53 = .ok (.invokevirtual 53, 3) := by decide +kernel
theorem dX4_readSetup_56 : decode cX4_readSetup 56 = .ok (.iconst 0, 1) := by decide +kernel
theorem dX4_readSetup_57 : decode cX4_readSetup 57 = .ok (.istore_n 3, 1) := by decide +kernel
theorem dX4_readSetup_58 : decode cX4_readSetup 58 = .ok (.iload_n 3, 1) := by decide +kernel
theorem dX4_readSetup_59 : decode cX4_readSetup 59 = .ok (.aload_n 0, 1) := by decide +kernel
theorem dX4_readSetup_60 : decode cX4_readSetup 60 = .ok (.getfield 25, 3) := by decide +kernel
theorem dX4_readSetup_63 : decode cX4_readSetup 63 = .ok (.if_icmp .ge 32, 3) := by decide +kernel
theorem dX4_readSetup_66 : decode cX4_readSetup 66 = .ok (.aload_n 0, 1) := by decide +kernel
theorem dX4_readSetup_67 : decode cX4_readSetup 67 = .ok (.getfield 31, 3) := by decide +kernel
theorem dX4_readSetup_70 : decode cX4_readSetup 70 = .ok (.ifCond .ne 25, 3) := by decide +kernel
theorem dX4_readSetup_73 : decode cX4_readSetup 73 = .ok (.aload_n 0, 1) := by decide +kernel
theorem dX4_readSetup_74 : decode cX4_readSetup 74 = .ok (.getfield 57, 3) := by decide +kernel
theorem dX4_readSetup_77 : decode cX4_readSetup 77 = .ok (.ifCond .eq 18, 3) := by decide +kernel
theorem dX4_readSetup_80 : decode cX4_readSetup 80 = .ok (.aload_n 0, 1) := by decide +kernel
theorem dX4_readSetup_81 : decode cX4_readSetup 81 = .ok (.aload_n 2, 1) := by decide +kernel
theorem dX4_readSetup_82 : decode cX4_readSetup 82 = .ok (.invokevirtual 60, 3) := by decide +kernel
theorem dX4_readSetup_85 : decode cX4_readSetup 85 = .ok (.aload_n 0, 1) := by decide +kernel
theorem dX4_readSetup_86 : decode cX4_readSetup 86 = .ok (.invokevirtual 63, 3) := by decide +kernel
theorem dX4_readSetup_89 : decode cX4_readSetup 89 = .ok (.iinc 3 1, 3) := by decide +kernel
theorem dX4_readSetup_92 : decode cX4_readSetup 92 = .ok (.goto (-34), 3) := by decide +kernel
theorem dX4_readSetup_95 : decode cX4_readSetup 95 = .ok (.aload_n 0, 1) := by decide +kernel
theorem dX4_readSetup_96 : decode cX4_readSetup 96 = .ok (.getfield 31, 3) := by decide +kernel
theorem dX4_readSetup_99 : decode cX4_readSetup 99 = .ok (.ireturn, 1) := by decide +kernel
theorem dX4_goOn_0 : decode cX4_goOn 0 = .ok (.aload_n 0, 1) := by decide +kernel
theorem dX4_goOn_1 : decode cX4_goOn 1 = .ok (.aload_n 0, 1) := by decide +kernel
theorem dX4_goOn_2 : decode cX4_goOn 2 = .ok (.getfield 28, 3) := by decide +kernel
theorem dX4_goOn_5 : decode cX4_goOn 5 = .ok (.putfield 66, 3) := by decide +kernel
theorem dX4_goOn_8 : decode cX4_goOn 8 = .ok (.aload_n 0, 1) := by decide +kernel
theorem dX4_goOn_9 : decode cX4_goOn 9 = .ok (.getfield 66, 3) := by decide +kernel
theorem dX4_goOn_12 : decode cX4_goOn 12 = .ok (.aload_n 0, 1) := by decide +kernel
theorem dX4_goOn_13 : decode cX4_goOn 13 = .ok (.getfield 25, 3) := by decide +kernel
theorem dX4_goOn_16 : decode cX4_goOn 16 = .ok (.if_icmp .ge 30, 3) := by decide +kernel
theorem dX4_goOn_19 : decode cX4_goOn 19 = .ok (.aload_n 0, 1) := by decide +kernel
theorem dX4_goOn_20 : decode cX4_goOn 20 = .ok (.getfield 9, 3) := by decide +kernel
theorem dX4_goOn_23 : decode cX4_goOn 23 = .ok (.aload_n 0, 1) := by decide +kernel
theorem dX4_goOn_24 : decode cX4_goOn 24 = .ok (.getfield 66, 3) := by decide +kernel
theorem dX4_goOn_27 : decode cX4_goOn 27 = .ok (.baload, 1) := by decide +kernel
theorem dX4_goOn_28 : decode cX4_goOn 28 = .ok (.bipush 32, 2) := by decide +kernel
theorem dX4_goOn_30 : decode cX4_goOn 30 = .ok (.if_icmp .ne 16, 3) := by decide +kernel
theorem dX4_goOn_33 : decode cX4_goOn 33 = .ok (.aload_n 0, 1) := by decide +kernel
theorem dX4_goOn_34 : decode cX4_goOn 34 = .ok (.dup, 1) := by decide +kernel
theorem dX4_goOn_35 : decode cX4_goOn 35 = .ok (.getfield 66, 3) := by decide +kernel
theorem dX4_goOn_38 : decode cX4_goOn 38 = .ok (.iconst 1, 1) := by decide +kernel
theorem dX4_goOn_39 : decode cX4_goOn 39 = .ok (.iadd, 1) := by decide +kernel
theorem dX4_goOn_40 : decode cX4_goOn 40 = .ok (.putfield 66, 3) := by decide +kernel
theorem dX4_goOn_43 : decode cX4_goOn 43 = .ok (.goto (-35), 3) := by decide +kernel
theorem dX4_goOn_46 : decode cX4_goOn 46 = .ok (.aload_n 0, 1) := by decide +kernel
theorem dX4_goOn_47 : decode cX4_goOn 47 = .ok (.aload_n 0, 1) := by decide +kernel
theorem dX4_goOn_48 : decode cX4_goOn 48 = .ok (.getfield 66, 3) := by decide +kernel
theorem dX4_goOn_51 : decode cX4_goOn 51 = .ok (.putfield 28, 3) := by decide +kernel
theorem dX4_goOn_54 : decode cX4_goOn 54 = .ok (.aload_n 0, 1) := by decide +kernel
theorem dX4_goOn_55 : decode cX4_goOn 55 = .ok (.getfield 66, 3) := by decide +kernel
theorem dX4_goOn_58 : decode cX4_goOn 58 = .ok (.aload_n 0, 1) := by decide +kernel
theorem dX4_goOn_59 : decode cX4_goOn 59 = .ok (.getfield 25, 3) := by decide +kernel
theorem dX4_goOn_62 : decode cX4_goOn 62 = .ok (.if_icmp .lt 11, 3) := by decide +kernel
theorem dX4_goOn_65 : decode cX4_goOn 65 = .ok (.aload_n 0, 1) := by decide +kernel
theorem dX4_goOn_66 : decode cX4_goOn 66 = .ok (.iconst 0, 1) := by decide +kernel
theorem dX4_goOn_67 : decode cX4_goOn 67 = .ok (.putfield 57, 3) := by decide +kernel
theorem dX4_goOn_70 : decode cX4_goOn 70 = .ok (.goto 138, 3) := by decide +kernel
theorem dX4_goOn_73 : decode cX4_goOn 73 = .ok (.aload_n 0, 1) := by decide +kernel
theorem dX4_goOn_74 : decode cX4_goOn 74 = .ok (.aload_n 0, 1) := by decide +kernel
theorem dX4_goOn_75 : decode cX4_goOn 75 = .ok (.getfield 66, 3) := by decide +kernel
theorem dX4_goOn_78 : decode cX4_goOn 78 = .ok (.invokevirtual 69, 3) := by decide +kernel
theorem dX4_goOn_81 : decode cX4_goOn 81 = .ok (.ifCond .eq 43, 3) := by decide +kernel
theorem dX4_goOn_84 : decode cX4_goOn 84 = .ok (.aload_n 0, 1) := by decide +kernel
theorem dX4_goOn_85 : decode cX4_goOn 85 = .ok (.iconst 2, 1) := by decide +kernel
theorem dX4_goOn_86 : decode cX4_goOn 86 = .ok (.putfield 57, 3) := by decide +kernel
theorem dX4_goOn_89 : decode cX4_goOn 89 = .ok (.aload_n 0, 1) := by decide +kernel
theorem dX4_goOn_90 : decode cX4_goOn 90 = .ok (.getfield 28, 3) := by decide +kernel
theorem dX4_goOn_93 : decode cX4_goOn 93 = .ok (.aload_n 0, 1) := by decide +kernel
theorem dX4_goOn_94 : decode cX4_goOn 94 = .ok (.getfield 25, 3) := by decide +kernel
theorem dX4_goOn_97 : decode cX4_goOn 97 = .ok (.if_icmp .ge 111, 3) := by decide +kernel
theorem dX4_goOn_100 : decode cX4_goOn 100 = .ok (.aload_n 0, 1) := by decide +kernel
theorem dX4_goOn_101 : decode cX4_goOn 101 = .ok (.aload_n 0, 1) := by decide +kernel
theorem dX4_goOn_102 : decode cX4_goOn 102 = .ok (.getfield 28, 3) := by decide +kernel
theorem dX4_goOn_105 : decode cX4_goOn 105 = .ok (.invokevirtual 69, 3) := by decide +kernel
theorem dX4_goOn_108 : decode cX4_goOn 108 = .ok (.ifCond .eq 100, 3) := by decide +kernel
theorem dX4_goOn_111 : decode cX4_goOn 111 = .ok (.aload_n 0, 1) := by decide +kernel
theorem dX4_goOn_112 : decode cX4_goOn 112 = .ok (.dup, 1) := by decide +kernel
theorem dX4_goOn_113 : decode cX4_goOn 113 = .ok (.getfield 28, 3) := by decide +kernel
theorem dX4_goOn_116 : decode cX4_goOn 116 = .ok (.iconst 1, 1) := by decide +kernel
theorem dX4_goOn_117 : decode cX4_goOn 117 = .ok (.iadd, 1) := by decide +kernel
theorem dX4_goOn_118 : decode cX4_goOn 118 = .ok (.putfield 28, 3) := by decide +kernel
theorem dX4_goOn_121 : decode cX4_goOn 121 = .ok (.goto (-32), 3) := by decide +kernel
theorem dX4_goOn_124 : decode cX4_goOn 124 = .ok (.aload_n 0, 1) := by decide +kernel
theorem dX4_goOn_125 : decode cX4_goOn 125 = .ok (.aload_n 0, 1) := by decide +kernel
theorem dX4_goOn_126 : decode cX4_goOn 126 = .ok (.getfield 66, 3) := by decide +kernel
theorem dX4_goOn_129 : decode cX4_goOn 129 = .ok (.invokevirtual 73, 3) := by decide +kernel
theorem dX4_goOn_132 : decode cX4_goOn 132 = .ok (.ifCond .eq 43, 3) := by decide +kernel
theorem dX4_goOn_135 : decode cX4_goOn 135 = .ok (.aload_n 0, 1) := by decide +kernel
theorem dX4_goOn_136 : decode cX4_goOn 136 = .ok (.iconst 1, 1) := by decide +kernel
theorem dX4_goOn_137 : decode cX4_goOn 137 = .ok (.putfield 57, 3) := by decide +kernel
theorem dX4_goOn_140 : decode cX4_goOn 140 = .ok (.aload_n 0, 1) := by decide +kernel
theorem dX4_goOn_141 : decode cX4_goOn 141 = .ok (.getfield 28, 3) := by decide +kernel
theorem dX4_goOn_144 : decode cX4_goOn 144 = .ok (.aload_n 0, 1) := by decide +kernel
theorem dX4_goOn_145 : decode cX4_goOn 145 = .ok (.getfield 25, 3) := by decide +kernel
theorem dX4_goOn_148 : decode cX4_goOn 148 = .ok (.if_icmp .ge 60, 3) := by decide +kernel
theorem dX4_goOn_151 : decode cX4_goOn 151 = .ok (.aload_n 0, 1) := by decide +kernel
theorem dX4_goOn_152 : decode cX4_goOn 152 = .ok (.aload_n 0, 1) := by decide +kernel
theorem dX4_goOn_153 : decode cX4_goOn 153 = .ok (.getfield 28, 3) := by decide +kernel
theorem dX4_goOn_156 : decode cX4_goOn 156 = .ok (.invokevirtual 73, 3) := by decide +kernel
theorem dX4_goOn_159 : decode cX4_goOn 159 = .ok (.ifCond .eq 49, 3) := by decide +kernel
theorem dX4_goOn_162 : decode cX4_goOn 162 = .ok (.aload_n 0, 1) := by decide +kernel
theorem dX4_goOn_163 : decode cX4_goOn 163 = .ok (.dup, 1) := by decide +kernel
theorem dX4_goOn_164 : decode cX4_goOn 164 = .ok (.getfield 28, 3) := by decide +kernel
theorem dX4_goOn_167 : decode cX4_goOn 167 = .ok (.iconst 1, 1) := by decide +kernel
theorem dX4_goOn_168 : decode cX4_goOn 168 = .ok (.iadd, 1) := by decide +kernel
theorem dX4_goOn_169 : decode cX4_goOn 169 = .ok (.putfield 28, 3) := by decide +kernel
theorem dX4_goOn_172 : decode cX4_goOn 172 = .ok (.goto (-32), 3) := by decide +kernel
theorem dX4_goOn_175 : decode cX4_goOn 175 = .ok (.aload_n 0, 1) := by decide +kernel
theorem dX4_goOn_176 : decode cX4_goOn 176 = .ok (.aload_n 0, 1) := by decide +kernel
theorem dX4_goOn_177 : decode cX4_goOn 177 = .ok (.getfield 9, 3) := by decide +kernel
theorem dX4_goOn_180 : decode cX4_goOn 180 = .ok (.aload_n 0, 1) := by decide +kernel
theorem dX4_goOn_181 : decode cX4_goOn 181 = .ok (.getfield 66, 3) := by decide +kernel
theorem dX4_goOn_184 : decode cX4_goOn 184 = .ok (.baload, 1) := by decide +kernel
theorem dX4_goOn_185 : decode cX4_goOn 185 = .ok (.bipush 59, 2) := by decide +kernel
theorem dX4_goOn_187 : decode cX4_goOn 187 = .ok (.if_icmp .ne 7, 3) := by decide +kernel
theorem dX4_goOn_190 : decode cX4_goOn 190 = .ok (.iconst 3, 1) := by decide +kernel
theorem dX4_goOn_191 : decode cX4_goOn 191 = .ok (.goto 4, 3) := by decide +kernel
theorem dX4_goOn_194 : decode cX4_goOn 194 = .ok (.iconst 4, 1) := by decide +kernel
theorem dX4_goOn_195 : decode cX4_goOn 195 = .ok (.putfield 57, 3) := by decide +kernel
theorem dX4_goOn_198 : decode cX4_goOn 198 = .ok (.aload_n 0, 1) := by decide +kernel
theorem dX4_goOn_199 : decode cX4_goOn 199 = .ok (.dup, 1) := by decide +kernel
theorem dX4_goOn_200 : decode cX4_goOn 200 = .ok (.getfield 28, 3) := by decide +kernel
theorem dX4_goOn_203 : decode cX4_goOn 203 = .ok (.iconst 1, 1) := by decide +kernel
theorem dX4_goOn_204 : decode cX4_goOn 204 = .ok (.iadd, 1) := by decide +kernel
theorem dX4_goOn_205 : decode cX4_goOn 205 = .ok (.putfield 28, 3) := by decide +kernel
theorem dX4_goOn_208 : decode cX4_goOn 208 = .ok (.return_, 1) := by decide +kernel
theorem dX4_isDigit_0 : decode cX4_isDigit 0 = .ok (.aload_n 0, 1) := by decide +kernel
theorem dX4_isDigit_1 : decode cX4_isDigit 1 = .ok (.getfield 9, 3) := by decide +kernel
theorem dX4_isDigit_4 : decode cX4_isDigit 4 = .ok (.iload_n 1, 1) := by decide +kernel
theorem dX4_isDigit_5 : decode cX4_isDigit 5 = .ok (.baload, 1) := by decide +kernel
theorem dX4_isDigit_6 : decode cX4_isDigit 6 = .ok (.bipush 48, 2) := by decide +kernel
theorem dX4_isDigit_8 : decode cX4_isDigit 8 = .ok (.if_icmp .lt 18, 3) := by decide +kernel
theorem dX4_isDigit_11 : decode cX4_isDigit 11 = .ok (.aload_n 0, 1) := by decide +kernel
theorem dX4_isDigit_12 : decode cX4_isDigit 12 = .ok (.getfield 9, 3) := by decide +kernel
theorem dX4_isDigit_15 : decode cX4_isDigit 15 = .ok (.iload_n 1, 1) := by decide +kernel
theorem dX4_isDigit_16 : decode cX4_isDigit 16 = .ok (.baload, 1) := by decide +kernel
theorem dX4_isDigit_17 : decode cX4_isDigit 17 = .ok (.bipush 57, 2) := by decide +kernel
theorem dX4_isDigit_19 : decode cX4_isDigit 19 = .ok (.if_icmp .gt 7, 3) := by decide +kernel
theorem dX4_isDigit_22 : decode cX4_isDigit 22 = .ok (.iconst 1, 1) := by decide +kernel
theorem dX4_isDigit_23 : decode cX4_isDigit 23 = .ok (.goto 4, 3) := by decide +kernel
theorem dX4_isDigit_26 : decode cX4_isDigit 26 = .ok (.iconst 0, 1) := by decide +kernel
theorem dX4_isDigit_27 : decode cX4_isDigit 27 = .ok (.ireturn, 1) := by decide +kernel
theorem dX4_isLetter_0 : decode cX4_isLetter 0 = .ok (.aload_n 0, 1) := by decide +kernel
theorem dX4_isLetter_1 : decode cX4_isLetter 1 = .ok (.getfield 9, 3) := by decide +kernel
theorem dX4_isLetter_4 : decode cX4_isLetter 4 = .ok (.iload_n 1, 1) := by decide +kernel
theorem dX4_isLetter_5 : decode cX4_isLetter 5 = .ok (.baload, 1) := by decide +kernel
theorem dX4_isLetter_6 : decode cX4_isLetter 6 = .ok (.bipush 97, 2) := by decide +kernel
theorem dX4_isLetter_8 : decode cX4_isLetter 8 = .ok (.if_icmp .lt 18, 3) := by decide +kernel
theorem dX4_isLetter_11 : decode cX4_isLetter 11 = .ok (.aload_n 0, 1) := by decide +kernel
theorem dX4_isLetter_12 : decode cX4_isLetter 12 = .ok (.getfield 9, 3) := by decide +kernel
theorem dX4_isLetter_15 : decode cX4_isLetter 15 = .ok (.iload_n 1, 1) := by decide +kernel
theorem dX4_isLetter_16 : decode cX4_isLetter 16 = .ok (.baload, 1) := by decide +kernel
theorem dX4_isLetter_17 : decode cX4_isLetter 17 = .ok (.bipush 122, 2) := by decide +kernel
theorem dX4_isLetter_19 : decode cX4_isLetter 19 = .ok (.if_icmp .gt 7, 3) := by decide +kernel
theorem dX4_isLetter_22 : decode cX4_isLetter 22 = .ok (.iconst 1, 1) := by decide +kernel
theorem dX4_isLetter_23 : decode cX4_isLetter 23 = .ok (.goto 4, 3) := by decide +kernel
theorem dX4_isLetter_26 : decode cX4_isLetter 26 = .ok (.iconst 0, 1) := by decide +kernel
theorem dX4_isLetter_27 : decode cX4_isLetter 27 = .ok (.ireturn, 1) := by decide +kernel
theorem dX4_digitAt_0 : decode cX4_digitAt 0 = .ok (.aload_n 0, 1) := by decide +kernel
theorem dX4_digitAt_1 : decode cX4_digitAt 1 = .ok (.getfield 9, 3) := by decide +kernel
theorem dX4_digitAt_4 : decode cX4_digitAt 4 = .ok (.iload_n 1, 1) := by decide +kernel
theorem dX4_digitAt_5 : decode cX4_digitAt 5 = .ok (.baload, 1) := by decide +kernel
theorem dX4_digitAt_6 : decode cX4_digitAt 6 = .ok (.bipush 48, 2) := by decide +kernel
theorem dX4_digitAt_8 : decode cX4_digitAt 8 = .ok (.isub, 1) := by decide +kernel
theorem dX4_digitAt_9 : decode cX4_digitAt 9 = .ok (.ireturn, 1) := by decide +kernel
theorem dX4_isWord_0 : decode cX4_isWord 0 = .ok (.aload_n 0, 1) := by decide +kernel
theorem dX4_isWord_1 : decode cX4_isWord 1 = .ok (.getfield 57, 3) := by decide +kernel
theorem dX4_isWord_4 : decode cX4_isWord 4 = .ok (.iconst 1, 1) := by decide +kernel
theorem dX4_isWord_5 : decode cX4_isWord 5 = .ok (.if_icmp .ne 19, 3) := by decide +kernel
theorem dX4_isWord_8 : decode cX4_isWord 8 = .ok (.aload_n 0, 1) := by decide +kernel
theorem dX4_isWord_9 : decode cX4_isWord 9 = .ok (.getfield 28, 3) := by decide +kernel
theorem dX4_isWord_12 : decode cX4_isWord 12 = .ok (.aload_n 0, 1) := by decide +kernel
theorem dX4_isWord_13 : decode cX4_isWord 13 = .ok (.getfield 66, 3) := by decide +kernel
theorem dX4_isWord_16 : decode cX4_isWord 16 = .ok (.isub, 1) := by decide +kernel
theorem dX4_isWord_17 : decode cX4_isWord 17 = .ok (.aload_n 1, 1) := by decide +kernel
theorem dX4_isWord_18 : decode cX4_isWord 18 = .ok (.invokevirtual 76, 3) := by decide +kernel
theorem dX4_isWord_21 : decode cX4_isWord 21 = .ok (.if_icmp .eq 5, 3) := by decide +kernel
theorem dX4_isWord_24 : decode cX4_isWord 24 = .ok (.iconst 0, 1) := by decide +kernel
theorem dX4_isWord_25 : decode cX4_isWord 25 = .ok (.ireturn, 1) := by decide +kernel
theorem dX4_isWord_26 : decode cX4_isWord 26 = .ok (.iconst 0, 1) := by decide +kernel
theorem dX4_isWord_27 : decode cX4_isWord 27 = .ok (.istore_n 2, 1) := by decide +kernel
theorem dX4_isWord_28 : decode cX4_isWord 28 = .ok (.iload_n 2, 1) := by decide +kernel
theorem dX4_isWord_29 : decode cX4_isWord 29 = .ok (.aload_n 1, 1) := by decide +kernel
theorem dX4_isWord_30 : decode cX4_isWord 30 = .ok (.invokevirtual 76, 3) := by decide +kernel
theorem dX4_isWord_33 : decode cX4_isWord 33 = .ok (.if_icmp .ge 30, 3) := by decide +kernel
theorem dX4_isWord_36 : decode cX4_isWord 36 = .ok (.aload_n 0, 1) := by decide +kernel
theorem dX4_isWord_37 : decode cX4_isWord 37 = .ok (.getfield 9, 3) := by decide +kernel
theorem dX4_isWord_40 : decode cX4_isWord 40 = .ok (.aload_n 0, 1) := by decide +kernel
theorem dX4_isWord_41 : decode cX4_isWord 41 = .ok (.getfield 66, 3) := by decide +kernel
theorem dX4_isWord_44 : decode cX4_isWord 44 = .ok (.iload_n 2, 1) := by decide +kernel
theorem dX4_isWord_45 : decode cX4_isWord 45 = .ok (.iadd, 1) := by decide +kernel
theorem dX4_isWord_46 : decode cX4_isWord 46 = .ok (.baload, 1) := by decide +kernel
theorem dX4_isWord_47 : decode cX4_isWord 47 = .ok (.aload_n 1, 1) := by decide +kernel
theorem dX4_isWord_48 : decode cX4_isWord 48 = .ok (.iload_n 2, 1) := by decide +kernel
theorem dX4_isWord_49 : decode cX4_isWord 49 = .ok (.invokevirtual 81, 3) := by decide +kernel
theorem dX4_isWord_52 : decode cX4_isWord 52 = .ok (.if_icmp .eq 5, 3) := by decide +kernel
theorem dX4_isWord_55 : decode cX4_isWord 55 = .ok (.iconst 0, 1) := by decide +kernel
theorem dX4_isWord_56 : decode cX4_isWord 56 = .ok (.ireturn, 1) := by decide +kernel
theorem dX4_isWord_57 : decode cX4_isWord 57 = .ok (.iinc 2 1, 3) := by decide +kernel
theorem dX4_isWord_60 : decode cX4_isWord 60 = .ok (.goto (-32), 3) := by decide +kernel
theorem dX4_isWord_63 : decode cX4_isWord 63 = .ok (.iconst 1, 1) := by decide +kernel
theorem dX4_isWord_64 : decode cX4_isWord 64 = .ok (.ireturn, 1) := by decide +kernel
theorem dX4_fail_0 : decode cX4_fail 0 = .ok (.aload_n 0, 1) := by decide +kernel
theorem dX4_fail_1 : decode cX4_fail 1 = .ok (.getfield 31, 3) := by decide +kernel
theorem dX4_fail_4 : decode cX4_fail 4 = .ok (.ifCond .ne 13, 3) := by decide +kernel
theorem dX4_fail_7 : decode cX4_fail 7 = .ok (.aload_n 0, 1) := by decide +kernel
theorem dX4_fail_8 : decode cX4_fail 8 = .ok (.iload_n 1, 1) := by decide +kernel
theorem dX4_fail_9 : decode cX4_fail 9 = .ok (.putfield 31, 3) := by decide +kernel
theorem dX4_fail_12 : decode cX4_fail 12 = .ok (.aload_n 0, 1) := by decide +kernel
theorem dX4_fail_13 : decode cX4_fail 13 = .ok (.iload_n 2, 1) := by decide +kernel
theorem dX4_fail_14 : decode cX4_fail 14 = .ok (.putfield 34, 3) := by decide +kernel
theorem dX4_fail_17 : decode cX4_fail 17 = .ok (.return_, 1) := by decide +kernel
theorem dX4_readWord_0 : decode cX4_readWord 0 = .ok (.aload_n 0, 1) := by decide +kernel
theorem dX4_readWord_1 : decode cX4_readWord 1 = .ok (.aload_n 1, 1) := by decide +kernel
theorem dX4_readWord_2 : decode cX4_readWord 2 = .ok (.invokevirtual 85, 3) := by decide +kernel
theorem dX4_readWord_5 : decode cX4_readWord 5 = .ok (.ifCond .eq 10, 3) := by decide +kernel
theorem dX4_readWord_8 : decode cX4_readWord 8 = .ok (.aload_n 0, 1) := by decide +kernel
theorem dX4_readWord_9 : decode cX4_readWord 9 = .ok (.invokevirtual 50, 3) := by decide +kernel
theorem dX4_readWord_12 : decode cX4_readWord 12 = .ok (.goto 13, 3) := by decide +kernel
theorem dX4_readWord_15 : decode cX4_readWord 15 = .ok (.aload_n 0, 1) := by decide +kernel
theorem dX4_readWord_16 : decode cX4_readWord 16 = .ok (.bipush (-2), 2) := by decide +kernel
theorem dX4_readWord_18 : decode cX4_readWord 18 = .ok (.aload_n 0, 1) := by decide +kernel
theorem dX4_readWord_19 : decode cX4_readWord 19 = .ok (.getfield 66, 3) := by decide +kernel
theorem dX4_readWord_22 : decode cX4_readWord 22 = .ok (.invokevirtual 89, 3) := by decide +kernel
theorem dX4_readWord_25 : decode cX4_readWord 25 = .ok (.return_, 1) := by decide +kernel
theorem dX4_readSemicolon_0 : decode cX4_readSemicolon 0 = .ok (.aload_n 0, 1) := by decide +kernel
theorem dX4_readSemicolon_1 : decode cX4_readSemicolon 1 = .ok (.getfield 57, 3) := by decide +kernel
theorem dX4_readSemicolon_4 : decode cX4_readSemicolon 4 = .ok (.iconst 3, 1) := by decide +kernel
theorem dX4_readSemicolon_5 : decode cX4_readSemicolon 5 = .ok (.if_icmp .ne 10, 3) := by decide +kernel
theorem dX4_readSemicolon_8 : decode cX4_readSemicolon 8 = .ok (.aload_n 0, 1) := by decide +kernel
theorem dX4_readSemicolon_9 : decode cX4_readSemicolon 9 = .ok (.invokevirtual 50, 3) := by decide +kernel
theorem dX4_readSemicolon_12 : decode cX4_readSemicolon 12 = .ok (.goto 13, 3) := by decide +kernel
theorem dX4_readSemicolon_15 : decode cX4_readSemicolon 15 = .ok (.aload_n 0, 1) := by decide +kernel
theorem dX4_readSemicolon_16 : decode cX4_readSemicolon 16 = .ok (.bipush (-2), 2) := by decide +kernel
theorem dX4_readSemicolon_18 : decode cX4_readSemicolon 18 = .ok (.aload_n 0, 1) := by decide +kernel
theorem dX4_readSemicolon_19 : decode cX4_readSemicolon 19 = .ok (.getfield 66, 3) := by decide +kernel
theorem dX4_readSemicolon_22 : decode cX4_readSemicolon 22 = .ok (.invokevirtual 89, 3) := by decide +kernel
theorem dX4_readSemicolon_25 : decode cX4_readSemicolon 25 = .ok (.return_, 1) := by decide +kernel
theorem dX4_readNumber_0 : decode cX4_readNumber 0 = .ok (.aload_n 0, 1) := by decide +kernel
theorem dX4_readNumber_1 : decode cX4_readNumber 1 = .ok (.getfield 57, 3) := by decide +kernel
theorem dX4_readNumber_4 : decode cX4_readNumber 4 = .ok (.iconst 2, 1) := by decide +kernel
theorem dX4_readNumber_5 : decode cX4_readNumber 5 = .ok (.if_icmp .eq 15, 3) := by decide +kernel
theorem dX4_readNumber_8 : decode cX4_readNumber 8 = .ok (.aload_n 0, 1) := by decide +kernel
theorem dX4_readNumber_9 : decode cX4_readNumber 9 = .ok (.bipush (-2), 2) := by decide +kernel
theorem dX4_readNumber_11 : decode cX4_readNumber 11 = .ok (.aload_n 0, 1) := by decide +kernel
theorem dX4_readNumber_12 : decode cX4_readNumber 12 = .ok (.getfield 66, 3) := by decide +kernel
theorem dX4_readNumber_15 : decode cX4_readNumber 15 = .ok (.invokevirtual 89, 3) := by decide +kernel
theorem dX4_readNumber_18 : decode cX4_readNumber 18 = .ok (.iload_n 1, 1) := by decide +kernel
theorem dX4_readNumber_19 : decode cX4_readNumber 19 = .ok (.ireturn, 1) := by decide +kernel
theorem dX4_readNumber_20 : decode cX4_readNumber 20 = .ok (.aload_n 0, 1) := by decide +kernel
theorem dX4_readNumber_21 : decode cX4_readNumber 21 = .ok (.aload_n 0, 1) := by decide +kernel
theorem dX4_readNumber_22 : decode cX4_readNumber 22 = .ok (.getfield 66, 3) := by decide +kernel
theorem dX4_readNumber_25 : decode cX4_readNumber 25 = .ok (.putfield 93, 3) := by decide +kernel
theorem dX4_readNumber_28 : decode cX4_readNumber 28 = .ok (.aload_n 0, 1) := by decide +kernel
theorem dX4_readNumber_29 : decode cX4_readNumber 29 = .ok (.iload_n 2, 1) := by decide +kernel
theorem dX4_readNumber_30 : decode cX4_readNumber 30 = .ok (.iconst 1, 1) := by decide +kernel
theorem dX4_readNumber_31 : decode cX4_readNumber 31 = .ok (.iadd, 1) := by decide +kernel
theorem dX4_readNumber_32 : decode cX4_readNumber 32 = .ok (.invokevirtual 96, 3) := by decide +kernel
theorem dX4_readNumber_35 : decode cX4_readNumber 35 = .ok (.istore_n 3, 1) := by decide +kernel
theorem dX4_readNumber_36 : decode cX4_readNumber 36 = .ok (.aload_n 0, 1) := by decide +kernel
theorem dX4_readNumber_37 : decode cX4_readNumber 37 = .ok (.invokevirtual 50, 3) := by decide +kernel
theorem dX4_readNumber_40 : decode cX4_readNumber 40 = .ok (.iload_n 3, 1) := by decide +kernel
theorem dX4_readNumber_41 : decode cX4_readNumber 41 = .ok (.iload_n 1, 1) := by decide +kernel
theorem dX4_readNumber_42 : decode cX4_readNumber 42 = .ok (.if_icmp .lt 8, 3) := by decide +kernel
theorem dX4_readNumber_45 : decode cX4_readNumber 45 = .ok (.iload_n 3, 1) := by decide +kernel
theorem dX4_readNumber_46 : decode cX4_readNumber 46 = .ok (.iload_n 2, 1) := by decide +kernel
theorem dX4_readNumber_47 : decode cX4_readNumber 47 = .ok (.if_icmp .le 15, 3) := by decide +kernel
theorem dX4_readNumber_50 : decode cX4_readNumber 50 = .ok (.aload_n 0, 1) := by decide +kernel
theorem dX4_readNumber_51 : decode cX4_readNumber 51 = .ok (.bipush (-3), 2) := by decide +kernel
theorem dX4_readNumber_53 : decode cX4_readNumber 53 = .ok (.aload_n 0, 1) := by decide +kernel
theorem dX4_readNumber_54 : decode cX4_readNumber 54 = .ok (.getfield 93, 3) := by decide +kernel
theorem dX4_readNumber_57 : decode cX4_readNumber 57 = .ok (.invokevirtual 89, 3) := by decide +kernel
theorem dX4_readNumber_60 : decode cX4_readNumber 60 = .ok (.iload_n 1, 1) := by decide +kernel
theorem dX4_readNumber_61 : decode cX4_readNumber 61 = .ok (.ireturn, 1) := by decide +kernel
theorem dX4_readNumber_62 : decode cX4_readNumber 62 = .ok (.iload_n 3, 1) := by decide +kernel
theorem dX4_readNumber_63 : decode cX4_readNumber 63 = .ok (.ireturn, 1) := by decide +kernel
theorem dX4_valueUpTo_0 : decode cX4_valueUpTo 0 = .ok (.iconst 0, 1) := by decide +kernel
theorem dX4_valueUpTo_1 : decode cX4_valueUpTo 1 = .ok (.istore_n 2, 1) := by decide +kernel
theorem dX4_valueUpTo_2 : decode cX4_valueUpTo 2 = .ok (.aload_n 0, 1) := by decide +kernel
theorem dX4_valueUpTo_3 : decode cX4_valueUpTo 3 = .ok (.getfield 66, 3) := by decide +kernel
theorem dX4_valueUpTo_6 : decode cX4_valueUpTo 6 = .ok (.istore_n 3, 1) := by decide +kernel
theorem dX4_valueUpTo_7 : decode cX4_valueUpTo 7 = .ok (.iload_n 3, 1) := by decide +kernel
theorem dX4_valueUpTo_8 : decode cX4_valueUpTo 8 = .ok (.aload_n 0, 1) := by decide +kernel
theorem dX4_valueUpTo_9 : decode cX4_valueUpTo 9 = .ok (.getfield 28, 3) := by decide +kernel
theorem dX4_valueUpTo_12 : decode cX4_valueUpTo 12 = .ok (.if_icmp .ge 24, 3) := by decide +kernel
theorem dX4_valueUpTo_15 : decode cX4_valueUpTo 15 = .ok (.bipush 10, 2) := by decide +kernel
theorem dX4_valueUpTo_17 : decode cX4_valueUpTo 17 = .ok (.iload_n 2, 1) := by decide +kernel
theorem dX4_valueUpTo_18 : decode cX4_valueUpTo 18 = .ok (.imul, 1) := by decide +kernel
theorem dX4_valueUpTo_19 : decode cX4_valueUpTo 19 = .ok (.aload_n 0, 1) := by decide +kernel
theorem dX4_valueUpTo_20 : decode cX4_valueUpTo 20 = .ok (.iload_n 3, 1) := by decide +kernel
theorem dX4_valueUpTo_21 : decode cX4_valueUpTo 21 = .ok (.invokevirtual 100, 3) := by decide +kernel
theorem dX4_valueUpTo_24 : decode cX4_valueUpTo 24 = .ok (.iadd, 1) := by decide +kernel
theorem dX4_valueUpTo_25 : decode cX4_valueUpTo 25 = .ok (.iload_n 1, 1) := by decide +kernel
theorem dX4_valueUpTo_26 : decode cX4_valueUpTo 26 = .ok (.invokestatic 19, 3) := by decide +kernel
theorem dX4_valueUpTo_29 : decode cX4_valueUpTo 29 = .ok (.istore_n 2, 1) := by decide +kernel
theorem dX4_valueUpTo_30 : decode cX4_valueUpTo 30 = .ok (.iinc 3 1, 3) := by decide +kernel
theorem dX4_valueUpTo_33 : decode cX4_valueUpTo 33 = .ok (.goto (-26), 3) := by decide +kernel
theorem dX4_valueUpTo_36 : decode cX4_valueUpTo 36 = .ok (.iload_n 2, 1) := by decide +kernel
theorem dX4_valueUpTo_37 : decode cX4_valueUpTo 37 = .ok (.ireturn, 1) := by decide +kernel
theorem dX4_readKite_0 : decode cX4_readKite 0 = .ok (.aload_n 0, 1) := by decide +kernel
theorem dX4_readKite_1 : decode cX4_readKite 1 = .ok (.ldc 103, 2) := by decide +kernel
theorem dX4_readKite_3 : decode cX4_readKite 3 = .ok (.invokevirtual 105, 3) := by decide +kernel
theorem dX4_readKite_6 : decode cX4_readKite 6 = .ok (.aload_n 0, 1) := by decide +kernel
theorem dX4_readKite_7 : decode cX4_readKite 7 = .ok (.iconst 1, 1) := by decide +kernel
theorem dX4_readKite_8 : decode cX4_readKite 8 = .ok (.bipush 15, 2) := by decide +kernel
theorem dX4_readKite_10 : decode cX4_readKite 10 = .ok (.invokevirtual 109, 3) := by decide +kernel
theorem dX4_readKite_13 : decode cX4_readKite 13 = .ok (.istore_n 2, 1) := by decide +kernel
theorem dX4_readKite_14 : decode cX4_readKite 14 = .ok (.iload_n 2, 1) := by decide +kernel
theorem dX4_readKite_15 : decode cX4_readKite 15 = .ok (.iconst 2, 1) := by decide +kernel
theorem dX4_readKite_16 : decode cX4_readKite 16 = .ok (.irem, 1) := by decide +kernel
theorem dX4_readKite_17 : decode cX4_readKite 17 = .ok (.ifCond .ne 13, 3) := by decide +kernel
theorem dX4_readKite_20 : decode cX4_readKite 20 = .ok (.aload_n 0, 1) := by decide +kernel
theorem dX4_readKite_21 : decode cX4_readKite 21 = .ok (.bipush (-3), 2) := by decide +kernel
theorem dX4_readKite_23 : decode cX4_readKite 23 = .ok (.aload_n 0, 1) := by decide +kernel
theorem dX4_readKite_24 : decode cX4_readKite 24 = .ok (.getfield 93, 3) := by decide +kernel
theorem dX4_readKite_27 : decode cX4_readKite 27 = .ok (.invokevirtual 89, 3) := by decide +kernel
theorem dX4_readKite_30 : decode cX4_readKite 30 = .ok (.aload_n 0, 1) := by decide +kernel
theorem dX4_readKite_31 : decode cX4_readKite 31 = .ok (.iconst 1, 1) := by decide +kernel
theorem dX4_readKite_32 : decode cX4_readKite 32 = .ok (.bipush 12, 2) := by decide +kernel
theorem dX4_readKite_34 : decode cX4_readKite 34 = .ok (.invokevirtual 109, 3) := by decide +kernel
theorem dX4_readKite_37 : decode cX4_readKite 37 = .ok (.istore_n 3, 1) := by decide +kernel
theorem dX4_readKite_38 : decode cX4_readKite 38 = .ok (.aload_n 0, 1) := by decide +kernel
theorem dX4_readKite_39 : decode cX4_readKite 39 = .ok (.invokevirtual 63, 3) := by decide +kernel
theorem dX4_readKite_42 : decode cX4_readKite 42 = .ok (.aload_n 1, 1) := by decide +kernel
theorem dX4_readKite_43 : decode cX4_readKite 43 = .ok (.iload_n 2, 1) := by decide +kernel
theorem dX4_readKite_44 : decode cX4_readKite 44 = .ok (.iload_n 3, 1) := by decide +kernel
theorem dX4_readKite_45 : decode cX4_readKite 45 = .ok (.invokevirtual 112, 3) := by decide +kernel
theorem dX4_readKite_48 : decode cX4_readKite 48 = .ok (.return_, 1) := by decide +kernel
theorem dX4_readStatement_0 : decode cX4_readStatement 0 = .ok (.aload_n 0, 1) := by decide +kernel
theorem dX4_readStatement_1 : decode cX4_readStatement 1 = .ok (.ldc 117, 2) := by decide +kernel
theorem dX4_readStatement_3 : decode cX4_readStatement 3 = .ok (.invokevirtual 85, 3) := by decide +kernel
theorem dX4_readStatement_6 : decode cX4_readStatement 6 = .ok (.ifCond .eq 11, 3) := by decide +kernel
theorem dX4_readStatement_9 : decode cX4_readStatement 9 = .ok (.aload_n 0, 1) := by decide +kernel
theorem dX4_readStatement_10 : decode cX4_readStatement 10 = .ok (.aload_n 1, 1) := by decide +kernel
theorem dX4_readStatement_11 : decode cX4_readStatement 11 = .ok (.invokevirtual 119, 3) := by decide +kernel
theorem dX4_readStatement_14 : decode cX4_readStatement 14 = .ok (.goto 181, 3) := by decide +kernel
theorem dX4_readStatement_17 : decode cX4_readStatement 17 = .ok (.aload_n 0, 1) := by decide +kernel
theorem dX4_readStatement_18 : decode cX4_readStatement 18 = .ok (.ldc 122, 2) := by decide +kernel
theorem dX4_readStatement_20 : decode cX4_readStatement 20 = .ok (.invokevirtual 85, 3) := by decide +kernel
theorem dX4_readStatement_23 : decode cX4_readStatement 23 = .ok (.ifCond .eq 34, 3) := by decide +kernel
theorem dX4_readStatement_26 : decode cX4_readStatement 26 = .ok (.aload_n 0, 1) := by decide +kernel
theorem dX4_readStatement_27 : decode cX4_readStatement 27 = .ok (.aload_n 0, 1) := by decide +kernel
theorem dX4_readStatement_28 : decode cX4_readStatement 28 = .ok (.getfield 41, 3) := by decide +kernel
theorem dX4_readStatement_31 : decode cX4_readStatement 31 = .ok (.invokevirtual 124, 3) := by decide +kernel
theorem dX4_readStatement_34 : decode cX4_readStatement 34 = .ok (.aload_n 0, 1) := by decide +kernel
theorem dX4_readStatement_35 : decode cX4_readStatement 35 = .ok (.iconst 1, 1) := by decide +kernel
theorem dX4_readStatement_36 : decode cX4_readStatement 36 = .ok (.putfield 41, 3) := by decide +kernel
theorem dX4_readStatement_39 : decode cX4_readStatement 39 = .ok (.aload_n 0, 1) := by decide +kernel
theorem dX4_readStatement_40 : decode cX4_readStatement 40 = .ok (.invokevirtual 50, 3) := by decide +kernel
theorem dX4_readStatement_43 : decode cX4_readStatement 43 = .ok (.aload_n 1, 1) := by decide +kernel
theorem dX4_readStatement_44 : decode cX4_readStatement 44 = .ok (.aload_n 0, 1) := by decide +kernel
theorem dX4_readStatement_45 : decode cX4_readStatement 45 = .ok (.iconst 0, 1) := by decide +kernel
theorem dX4_readStatement_46 : decode cX4_readStatement 46 = .ok (.bipush 99, 2) := by decide +kernel
theorem dX4_readStatement_48 : decode cX4_readStatement 48 = .ok (.invokevirtual 109, 3) := by decide +kernel
theorem dX4_readStatement_51 : decode cX4_readStatement 51 = .ok (.putfield 128, 3) := by decide +kernel
theorem dX4_readStatement_54 : decode cX4_readStatement 54 = .ok (.goto 141, 3) := by decide +kernel
theorem dX4_readStatement_57 : decode cX4_readStatement 57 = .ok (.aload_n 0, 1) := by decide +kernel
theorem dX4_readStatement_58 : decode cX4_readStatement 58 = .ok (.ldc 130, 2) := by decide +kernel
theorem dX4_readStatement_60 : decode cX4_readStatement 60 = .ok (.invokevirtual 85, 3) := by decide +kernel
theorem dX4_readStatement_63 : decode cX4_readStatement 63 = .ok (.ifCond .eq 34, 3) := by decide +kernel
theorem dX4_readStatement_66 : decode cX4_readStatement 66 = .ok (.aload_n 0, 1) := by decide +kernel
theorem dX4_readStatement_67 : decode cX4_readStatement 67 = .ok (.aload_n 0, 1) := by decide +kernel
theorem dX4_readStatement_68 : decode cX4_readStatement 68 = .ok (.getfield 44, 3) := by decide +kernel
theorem dX4_readStatement_71 : decode cX4_readStatement 71 = .ok (.invokevirtual 124, 3) := by decide +kernel
theorem dX4_readStatement_74 : decode cX4_readStatement 74 = .ok (.aload_n 0, 1) := by decide +kernel
theorem dX4_readStatement_75 : decode cX4_readStatement 75 = .ok (.iconst 1, 1) := by decide +kernel
theorem dX4_readStatement_76 : decode cX4_readStatement 76 = .ok (.putfield 44, 3) := by decide +kernel
theorem dX4_readStatement_79 : decode cX4_readStatement 79 = .ok (.aload_n 0, 1) := by decide +kernel
theorem dX4_readStatement_80 : decode cX4_readStatement 80 = .ok (.invokevirtual 50, 3) := by decide +kernel
theorem dX4_readStatement_83 : decode cX4_readStatement 83 = .ok (.aload_n 1, 1) := by decide +kernel
theorem dX4_readStatement_84 : decode cX4_readStatement 84 = .ok (.aload_n 0, 1) := by decide +kernel
theorem dX4_readStatement_85 : decode cX4_readStatement 85 = .ok (.iconst 0, 1) := by decide +kernel
theorem dX4_readStatement_86 : decode cX4_readStatement 86 = .ok (.bipush 99, 2) := by decide +kernel
theorem dX4_readStatement_88 : decode cX4_readStatement 88 = .ok (.invokevirtual 109, 3) := by decide +kernel
theorem dX4_readStatement_91 : decode cX4_readStatement 91 = .ok (.putfield 132, 3) := by decide +kernel
theorem dX4_readStatement_94 : decode cX4_readStatement 94 = .ok (.goto 101, 3) := by decide +kernel
theorem dX4_readStatement_97 : decode cX4_readStatement 97 = .ok (.aload_n 0, 1) := by decide +kernel
theorem dX4_readStatement_98 : decode cX4_readStatement 98 = .ok (.ldc 134, 2) := by decide +kernel
theorem dX4_readStatement_100 : decode cX4_readStatement 100 = .ok (.invokevirtual 85, 3) := by decide +kernel
theorem dX4_readStatement_103 : decode cX4_readStatement 103 = .ok (.ifCond .eq 31, 3) := by decide +kernel
theorem dX4_readStatement_106 : decode cX4_readStatement 106 = .ok (.aload_n 0, 1) := by decide +kernel
theorem dX4_readStatement_107 : decode cX4_readStatement 107 = .ok (.invokevirtual 50, 3) := by decide +kernel
theorem dX4_readStatement_110 : decode cX4_readStatement 110 = .ok (.aload_n 0, 1) := by decide +kernel
theorem dX4_readStatement_111 : decode cX4_readStatement 111 = .ok (.iconst 1, 1) := by decide +kernel
theorem dX4_readStatement_112 : decode cX4_readStatement 112 = .ok (.bipush 6, 2) := by decide +kernel
theorem dX4_readStatement_114 : decode cX4_readStatement 114 = .ok (.invokevirtual 109, 3) := by decide +kernel
theorem dX4_readStatement_117 : decode cX4_readStatement 117 = .ok (.istore_n 2, 1) := by decide +kernel
theorem dX4_readStatement_118 : decode cX4_readStatement 118 = .ok (.aload_n 1, 1) := by decide +kernel
theorem dX4_readStatement_119 : decode cX4_readStatement 119 = .ok (.getfield 136, 3) := by decide +kernel
theorem dX4_readStatement_122 : decode cX4_readStatement 122 = .ok (.iload_n 2, 1) := by decide +kernel
theorem dX4_readStatement_123 : decode cX4_readStatement 123 = .ok (.aload_n 0, 1) := by decide +kernel
theorem dX4_readStatement_124 : decode cX4_readStatement 124 = .ok (.iconst 0, 1) := by decide +kernel
theorem dX4_readStatement_125 : decode cX4_readStatement 125 = .ok (.bipush 99, 2) := by decide +kernel
theorem dX4_readStatement_127 : decode cX4_readStatement 127 = .ok (.invokevirtual 109, 3) := by decide +kernel
theorem dX4_readStatement_130 : decode cX4_readStatement 130 = .ok (.iastore, 1) := by decide +kernel
theorem dX4_readStatement_131 : decode cX4_readStatement 131 = .ok (.goto 64, 3) := by decide +kernel
theorem dX4_readStatement_134 : decode cX4_readStatement 134 = .ok (.aload_n 0, 1) := by decide +kernel
theorem dX4_readStatement_135 : decode cX4_readStatement 135 = .ok (.ldc 140, 2) := by decide +kernel
theorem dX4_readStatement_137 : decode cX4_readStatement 137 = .ok (.invokevirtual 85, 3) := by decide +kernel
theorem dX4_readStatement_140 : decode cX4_readStatement 140 = .ok (.ifCond .eq 11, 3) := by decide +kernel
theorem dX4_readStatement_143 : decode cX4_readStatement 143 = .ok (.aload_n 0, 1) := by decide +kernel
theorem dX4_readStatement_144 : decode cX4_readStatement 144 = .ok (.aload_n 1, 1) := by decide +kernel
theorem dX4_readStatement_145 : decode cX4_readStatement 145 = .ok (.invokevirtual 142, 3) := by decide +kernel
theorem dX4_readStatement_148 : decode cX4_readStatement 148 = .ok (.goto 47, 3) := by decide +kernel
theorem dX4_readStatement_151 : decode cX4_readStatement 151 = .ok (.aload_n 0, 1) := by decide +kernel
theorem dX4_readStatement_152 : decode cX4_readStatement 152 = .ok (.ldc 145, 2) := by decide +kernel
theorem dX4_readStatement_154 : decode cX4_readStatement 154 = .ok (.invokevirtual 85, 3) := by decide +kernel
theorem dX4_readStatement_157 : decode cX4_readStatement 157 = .ok (.ifCond .eq 11, 3) := by decide +kernel
theorem dX4_readStatement_160 : decode cX4_readStatement 160 = .ok (.aload_n 0, 1) := by decide +kernel
theorem dX4_readStatement_161 : decode cX4_readStatement 161 = .ok (.aload_n 1, 1) := by decide +kernel
theorem dX4_readStatement_162 : decode cX4_readStatement 162 = .ok (.invokevirtual 147, 3) := by decide +kernel
theorem dX4_readStatement_165 : decode cX4_readStatement 165 = .ok (.goto 30, 3) := by decide +kernel
theorem dX4_readStatement_168 : decode cX4_readStatement 168 = .ok (.aload_n 0, 1) := by decide +kernel
theorem dX4_readStatement_169 : decode cX4_readStatement 169 = .ok (.ldc 150, 2) := by decide +kernel
theorem dX4_readStatement_171 : decode cX4_readStatement 171 = .ok (.invokevirtual 85, 3) := by decide +kernel
theorem dX4_readStatement_174 : decode cX4_readStatement 174 = .ok (.ifCond .eq 11, 3) := by decide +kernel
theorem dX4_readStatement_177 : decode cX4_readStatement 177 = .ok (.aload_n 0, 1) := by decide +kernel
theorem dX4_readStatement_178 : decode cX4_readStatement 178 = .ok (.aload_n 1, 1) := by decide +kernel
theorem dX4_readStatement_179 : decode cX4_readStatement 179 = .ok (.invokevirtual 152, 3) := by decide +kernel
theorem dX4_readStatement_182 : decode cX4_readStatement 182 = .ok (.goto 13, 3) := by decide +kernel
theorem dX4_readStatement_185 : decode cX4_readStatement 185 = .ok (.aload_n 0, 1) := by decide +kernel
theorem dX4_readStatement_186 : decode cX4_readStatement 186 = .ok (.bipush (-2), 2) := by decide +kernel
theorem dX4_readStatement_188 : decode cX4_readStatement 188 = .ok (.aload_n 0, 1) := by decide +kernel
theorem dX4_readStatement_189 : decode cX4_readStatement 189 = .ok (.getfield 66, 3) := by decide +kernel
theorem dX4_readStatement_192 : decode cX4_readStatement 192 = .ok (.invokevirtual 89, 3) := by decide +kernel
theorem dX4_readStatement_195 : decode cX4_readStatement 195 = .ok (.return_, 1) := by decide +kernel
theorem dX4_refuseIf_0 : decode cX4_refuseIf 0 = .ok (.iload_n 1, 1) := by decide +kernel
theorem dX4_refuseIf_1 : decode cX4_refuseIf 1 = .ok (.ifCond .eq 13, 3) := by decide +kernel
theorem dX4_refuseIf_4 : decode cX4_refuseIf 4 = .ok (.aload_n 0, 1) := by decide +kernel
theorem dX4_refuseIf_5 : decode cX4_refuseIf 5 = .ok (.bipush (-2), 2) := by decide +kernel
theorem dX4_refuseIf_7 : decode cX4_refuseIf 7 = .ok (.aload_n 0, 1) := by decide +kernel
theorem dX4_refuseIf_8 : decode cX4_refuseIf 8 = .ok (.getfield 66, 3) := by decide +kernel
theorem dX4_refuseIf_11 : decode cX4_refuseIf 11 = .ok (.invokevirtual 89, 3) := by decide +kernel
theorem dX4_refuseIf_14 : decode cX4_refuseIf 14 = .ok (.return_, 1) := by decide +kernel
theorem dX4_readReach_0 : decode cX4_readReach 0 = .ok (.aload_n 0, 1) := by decide +kernel
theorem dX4_readReach_1 : decode cX4_readReach 1 = .ok (.aload_n 0, 1) := by decide +kernel
theorem dX4_readReach_2 : decode cX4_readReach 2 = .ok (.getfield 37, 3) := by decide +kernel
theorem dX4_readReach_5 : decode cX4_readReach 5 = .ok (.ifCond .ne 10, 3) := by decide +kernel
theorem dX4_readReach_8 : decode cX4_readReach 8 = .ok (.aload_n 0, 1) := by decide +kernel
theorem dX4_readReach_9 : decode cX4_readReach 9 = .ok (.getfield 47, 3) := by decide +kernel
theorem dX4_readReach_12 : decode cX4_readReach 12 = .ok (.ifCond .eq 7, 3) := by decide +kernel
theorem dX4_readReach_15 : decode cX4_readReach 15 = .ok (.iconst 1, 1) := by decide +kernel
theorem dX4_readReach_16 : decode cX4_readReach 16 = .ok (.goto 4, 3) := by decide +kernel
theorem dX4_readReach_19 : decode cX4_readReach 19 = .ok (.iconst 0, 1) := by decide +kernel
theorem dX4_readReach_20 : decode cX4_readReach 20 = .ok (.invokevirtual 124, 3) := by decide +kernel
theorem dX4_readReach_23 : decode cX4_readReach 23 = .ok (.aload_n 0, 1) := by decide +kernel
theorem dX4_readReach_24 : decode cX4_readReach 24 = .ok (.iconst 1, 1) := by decide +kernel
theorem dX4_readReach_25 : decode cX4_readReach 25 = .ok (.putfield 37, 3) := by decide +kernel
theorem dX4_readReach_28 : decode cX4_readReach 28 = .ok (.aload_n 0, 1) := by decide +kernel
theorem dX4_readReach_29 : decode cX4_readReach 29 = .ok (.invokevirtual 50, 3) := by decide +kernel
theorem dX4_readReach_32 : decode cX4_readReach 32 = .ok (.iconst 0, 1) := by decide +kernel
theorem dX4_readReach_33 : decode cX4_readReach 33 = .ok (.istore_n 2, 1) := by decide +kernel
theorem dX4_readReach_34 : decode cX4_readReach 34 = .ok (.iload_n 2, 1) := by decide +kernel
theorem dX4_readReach_35 : decode cX4_readReach 35 = .ok (.aload_n 1, 1) := by decide +kernel
theorem dX4_readReach_36 : decode cX4_readReach 36 = .ok (.getfield 155, 3) := by decide +kernel
theorem dX4_readReach_39 : decode cX4_readReach 39 = .ok (.if_icmp .ge 24, 3) := by decide +kernel
theorem dX4_readReach_42 : decode cX4_readReach 42 = .ok (.aload_n 1, 1) := by decide +kernel
theorem dX4_readReach_43 : decode cX4_readReach 43 = .ok (.getfield 158, 3) := by decide +kernel
theorem dX4_readReach_46 : decode cX4_readReach 46 = .ok (.iload_n 2, 1) := by decide +kernel
theorem dX4_readReach_47 : decode cX4_readReach 47 = .ok (.aload_n 0, 1) := by decide +kernel
theorem dX4_readReach_48 : decode cX4_readReach 48 = .ok (.iconst 0, 1) := by decide +kernel
theorem dX4_readReach_49 : decode cX4_readReach 49 = .ok (.aload_n 1, 1) := by decide +kernel
theorem dX4_readReach_50 : decode cX4_readReach 50 = .ok (.invokevirtual 161, 3) := by decide +kernel
theorem dX4_readReach_53 : decode cX4_readReach 53 = .ok (.invokevirtual 109, 3) := by decide +kernel
theorem dX4_readReach_56 : decode cX4_readReach 56 = .ok (.iastore, 1) := by decide +kernel
theorem dX4_readReach_57 : decode cX4_readReach 57 = .ok (.iinc 2 1, 3) := by decide +kernel
theorem dX4_readReach_60 : decode cX4_readReach 60 = .ok (.goto (-26), 3) := by decide +kernel
theorem dX4_readReach_63 : decode cX4_readReach 63 = .ok (.return_, 1) := by decide +kernel
theorem dX4_readMix_0 : decode cX4_readMix 0 = .ok (.aload_n 0, 1) := by decide +kernel
theorem dX4_readMix_1 : decode cX4_readMix 1 = .ok (.invokevirtual 50, 3) := by decide +kernel
theorem dX4_readMix_4 : decode cX4_readMix 4 = .ok (.aload_n 0, 1) := by decide +kernel
theorem dX4_readMix_5 : decode cX4_readMix 5 = .ok (.iconst 1, 1) := by decide +kernel
theorem dX4_readMix_6 : decode cX4_readMix 6 = .ok (.bipush 6, 2) := by decide +kernel
theorem dX4_readMix_8 : decode cX4_readMix 8 = .ok (.invokevirtual 109, 3) := by decide +kernel
theorem dX4_readMix_11 : decode cX4_readMix 11 = .ok (.istore_n 2, 1) := by decide +kernel
theorem dX4_readMix_12 : decode cX4_readMix 12 = .ok (.aload_n 0, 1) := by decide +kernel
theorem dX4_readMix_13 : decode cX4_readMix 13 = .ok (.iconst 1, 1) := by decide +kernel
theorem dX4_readMix_14 : decode cX4_readMix 14 = .ok (.bipush 6, 2) := by decide +kernel
theorem dX4_readMix_16 : decode cX4_readMix 16 = .ok (.invokevirtual 109, 3) := by decide +kernel
theorem dX4_readMix_19 : decode cX4_readMix 19 = .ok (.istore_n 3, 1) := by decide +kernel
theorem dX4_readMix_20 : decode cX4_readMix 20 = .ok (.iload_n 2, 1) := by decide +kernel
theorem dX4_readMix_21 : decode cX4_readMix 21 = .ok (.iload_n 3, 1) := by decide +kernel
theorem dX4_readMix_22 : decode cX4_readMix 22 = .ok (.if_icmp .ne 16, 3) := by decide +kernel
theorem dX4_readMix_25 : decode cX4_readMix 25 = .ok (.aload_n 0, 1) := by decide +kernel
theorem dX4_readMix_26 : decode cX4_readMix 26 = .ok (.bipush (-3), 2) := by decide +kernel
theorem dX4_readMix_28 : decode cX4_readMix 28 = .ok (.aload_n 0, 1) := by decide +kernel
theorem dX4_readMix_29 : decode cX4_readMix 29 = .ok (.getfield 93, 3) := by decide +kernel
theorem dX4_readMix_32 : decode cX4_readMix 32 = .ok (.invokevirtual 89, 3) := by decide +kernel
theorem dX4_readMix_35 : decode cX4_readMix 35 = .ok (.goto 22, 3) := by decide +kernel
theorem dX4_readMix_38 : decode cX4_readMix 38 = .ok (.aload_n 1, 1) := by decide +kernel
theorem dX4_readMix_39 : decode cX4_readMix 39 = .ok (.iload_n 2, 1) := by decide +kernel
theorem dX4_readMix_40 : decode cX4_readMix 40 = .ok (.iload_n 3, 1) := by decide +kernel
theorem dX4_readMix_41 : decode cX4_readMix 41 = .ok (.invokevirtual 164, 3) := by decide +kernel
theorem dX4_readMix_44 : decode cX4_readMix 44 = .ok (.ifCond .eq 13, 3) := by decide +kernel
theorem dX4_readMix_47 : decode cX4_readMix 47 = .ok (.aload_n 0, 1) := by decide +kernel
theorem dX4_readMix_48 : decode cX4_readMix 48 = .ok (.bipush (-4), 2) := by decide +kernel
theorem dX4_readMix_50 : decode cX4_readMix 50 = .ok (.aload_n 0, 1) := by decide +kernel
theorem dX4_readMix_51 : decode cX4_readMix 51 = .ok (.getfield 93, 3) := by decide +kernel
theorem dX4_readMix_54 : decode cX4_readMix 54 = .ok (.invokevirtual 89, 3) := by decide +kernel
theorem dX4_readMix_57 : decode cX4_readMix 57 = .ok (.aload_n 1, 1) := by decide +kernel
theorem dX4_readMix_58 : decode cX4_readMix 58 = .ok (.iload_n 2, 1) := by decide +kernel
theorem dX4_readMix_59 : decode cX4_readMix 59 = .ok (.iload_n 3, 1) := by decide +kernel
theorem dX4_readMix_60 : decode cX4_readMix 60 = .ok (.aload_n 0, 1) := by decide +kernel
theorem dX4_readMix_61 : decode cX4_readMix 61 = .ok (.iconst 1, 1) := by decide +kernel
theorem dX4_readMix_62 : decode cX4_readMix 62 = .ok (.bipush 6, 2) := by decide +kernel
theorem dX4_readMix_64 : decode cX4_readMix 64 = .ok (.invokevirtual 109, 3) := by decide +kernel
theorem dX4_readMix_67 : decode cX4_readMix 67 = .ok (.invokevirtual 167, 3) := by decide +kernel
theorem dX4_readMix_70 : decode cX4_readMix 70 = .ok (.return_, 1) := by decide +kernel
theorem dX4_readSpar_0 : decode cX4_readSpar 0 = .ok (.aload_n 0, 1) := by decide +kernel
theorem dX4_readSpar_1 : decode cX4_readSpar 1 = .ok (.iconst 1, 1) := by decide +kernel
theorem dX4_readSpar_2 : decode cX4_readSpar 2 = .ok (.putfield 47, 3) := by decide +kernel
theorem dX4_readSpar_5 : decode cX4_readSpar 5 = .ok (.aload_n 0, 1) := by decide +kernel
theorem dX4_readSpar_6 : decode cX4_readSpar 6 = .ok (.invokevirtual 50, 3) := by decide +kernel
theorem dX4_readSpar_9 : decode cX4_readSpar 9 = .ok (.aload_n 0, 1) := by decide +kernel
theorem dX4_readSpar_10 : decode cX4_readSpar 10 = .ok (.ldc 171, 2) := by decide +kernel
theorem dX4_readSpar_12 : decode cX4_readSpar 12 = .ok (.invokevirtual 85, 3) := by decide +kernel
theorem dX4_readSpar_15 : decode cX4_readSpar 15 = .ok (.istore_n 2, 1) := by decide +kernel
theorem dX4_readSpar_16 : decode cX4_readSpar 16 = .ok (.iload_n 2, 1) := by decide +kernel
theorem dX4_readSpar_17 : decode cX4_readSpar 17 = .ok (.ifCond .eq 10, 3) := by decide +kernel
theorem dX4_readSpar_20 : decode cX4_readSpar 20 = .ok (.aload_n 0, 1) := by decide +kernel
theorem dX4_readSpar_21 : decode cX4_readSpar 21 = .ok (.invokevirtual 50, 3) := by decide +kernel
theorem dX4_readSpar_24 : decode cX4_readSpar 24 = .ok (.goto 9, 3) := by decide +kernel
theorem dX4_readSpar_27 : decode cX4_readSpar 27 = .ok (.aload_n 0, 1) := by decide +kernel
theorem dX4_readSpar_28 : decode cX4_readSpar 28 = .ok (.ldc 173, 2) := by decide +kernel
theorem dX4_readSpar_30 : decode cX4_readSpar 30 = .ok (.invokevirtual 105, 3) := by decide +kernel
theorem dX4_readSpar_33 : decode cX4_readSpar 33 = .ok (.aload_n 0, 1) := by decide +kernel
theorem dX4_readSpar_34 : decode cX4_readSpar 34 = .ok (.iconst 0, 1) := by decide +kernel
theorem dX4_readSpar_35 : decode cX4_readSpar 35 = .ok (.aload_n 1, 1) := by decide +kernel
theorem dX4_readSpar_36 : decode cX4_readSpar 36 = .ok (.getfield 175, 3) := by decide +kernel
theorem dX4_readSpar_39 : decode cX4_readSpar 39 = .ok (.iconst 1, 1) := by decide +kernel
theorem dX4_readSpar_40 : decode cX4_readSpar 40 = .ok (.isub, 1) := by decide +kernel
theorem dX4_readSpar_41 : decode cX4_readSpar 41 = .ok (.invokevirtual 109, 3) := by decide +kernel
theorem dX4_readSpar_44 : decode cX4_readSpar 44 = .ok (.istore_n 3, 1) := by decide +kernel
theorem dX4_readSpar_45 : decode cX4_readSpar 45 = .ok (.aload_n 0, 1) := by decide +kernel
theorem dX4_readSpar_46 : decode cX4_readSpar 46 = .ok (.iconst 0, 1) := by decide +kernel
theorem dX4_readSpar_47 : decode cX4_readSpar 47 = .ok (.aload_n 1, 1) := by decide +kernel
theorem dX4_readSpar_48 : decode cX4_readSpar 48 = .ok (.getfield 155, 3) := by decide +kernel
theorem dX4_readSpar_51 : decode cX4_readSpar 51 = .ok (.iconst 1, 1) := by decide +kernel
theorem dX4_readSpar_52 : decode cX4_readSpar 52 = .ok (.isub, 1) := by decide +kernel
theorem dX4_readSpar_53 : decode cX4_readSpar 53 = .ok (.invokevirtual 109, 3) := by decide +kernel
theorem dX4_readSpar_56 : decode cX4_readSpar 56 = .ok (.istore 4, 2) := by decide +kernel
theorem dX4_readSpar_58 : decode cX4_readSpar 58 = .ok (.aload_n 0, 1) := by decide +kernel
theorem dX4_readSpar_59 : decode cX4_readSpar 59 = .ok (.iconst 1, 1) := by decide +kernel
theorem dX4_readSpar_60 : decode cX4_readSpar 60 = .ok (.bipush 15, 2) := by decide +kernel
theorem dX4_readSpar_62 : decode cX4_readSpar 62 = .ok (.invokevirtual 109, 3) := by decide +kernel
theorem dX4_readSpar_65 : decode cX4_readSpar 65 = .ok (.istore 5, 2) := by decide +kernel
theorem dX4_readSpar_67 : decode cX4_readSpar 67 = .ok (.iconst 0, 1) := by decide +kernel
theorem dX4_readSpar_68 : decode cX4_readSpar 68 = .ok (.istore 6, 2) := by decide +kernel
theorem dX4_readSpar_70 : decode cX4_readSpar 70 = .ok (.iload 6, 2) := by decide +kernel
theorem dX4_readSpar_72 : decode cX4_readSpar 72 = .ok (.iload 5, 2) := by decide +kernel
theorem dX4_readSpar_74 : decode cX4_readSpar 74 = .ok (.if_icmp .ge 64, 3) := by decide +kernel
theorem dX4_readSpar_77 : decode cX4_readSpar 77 = .ok (.iload_n 2, 1) := by decide +kernel
theorem dX4_readSpar_78 : decode cX4_readSpar 78 = .ok (.ifCond .eq 7, 3) := by decide +kernel
theorem dX4_readSpar_81 : decode cX4_readSpar 81 = .ok (.iload_n 3, 1) := by decide +kernel
theorem dX4_readSpar_82 : decode cX4_readSpar 82 = .ok (.goto 7, 3) := by decide +kernel
theorem dX4_readSpar_85 : decode cX4_readSpar 85 = .ok (.iload_n 3, 1) := by decide +kernel
theorem dX4_readSpar_86 : decode cX4_readSpar 86 = .ok (.iload 6, 2) := by decide +kernel
theorem dX4_readSpar_88 : decode cX4_readSpar 88 = .ok (.iadd, 1) := by decide +kernel
theorem dX4_readSpar_89 : decode cX4_readSpar 89 = .ok (.istore 7, 2) := by decide +kernel
theorem dX4_readSpar_91 : decode cX4_readSpar 91 = .ok (.iload_n 2, 1) := by decide +kernel
theorem dX4_readSpar_92 : decode cX4_readSpar 92 = .ok (.ifCond .eq 11, 3) := by decide +kernel
theorem dX4_readSpar_95 : decode cX4_readSpar 95 = .ok (.iload 4, 2) := by decide +kernel
theorem dX4_readSpar_97 : decode cX4_readSpar 97 = .ok (.iload 6, 2) := by decide +kernel
theorem dX4_readSpar_99 : decode cX4_readSpar 99 = .ok (.iadd, 1) := by decide +kernel
theorem dX4_readSpar_100 : decode cX4_readSpar 100 = .ok (.goto 5, 3) := by decide +kernel
theorem dX4_readSpar_103 : decode cX4_readSpar 103 = .ok (.iload 4, 2) := by decide +kernel
theorem dX4_readSpar_105 : decode cX4_readSpar 105 = .ok (.istore 8, 2) := by decide +kernel
theorem dX4_readSpar_107 : decode cX4_readSpar 107 = .ok (.aload_n 1, 1) := by decide +kernel
theorem dX4_readSpar_108 : decode cX4_readSpar 108 = .ok (.iload 7, 2) := by decide +kernel
theorem dX4_readSpar_110 : decode cX4_readSpar 110 = .ok (.iload 8, 2) := by decide +kernel
theorem dX4_readSpar_112 : decode cX4_readSpar 112 = .ok (.invokevirtual 178, 3) := by decide +kernel
theorem dX4_readSpar_115 : decode cX4_readSpar 115 = .ok (.ifCond .eq 17, 3) := by decide +kernel
theorem dX4_readSpar_118 : decode cX4_readSpar 118 = .ok (.aload_n 1, 1) := by decide +kernel
theorem dX4_readSpar_119 : decode cX4_readSpar 119 = .ok (.getfield 182, 3) := by decide +kernel
theorem dX4_readSpar_122 : decode cX4_readSpar 122 = .ok (.aload_n 1, 1) := by decide +kernel
theorem dX4_readSpar_123 : decode cX4_readSpar 123 = .ok (.iload 7, 2) := by decide +kernel
theorem dX4_readSpar_125 : decode cX4_readSpar 125 = .ok (.iload 8, 2) := by decide +kernel
theorem dX4_readSpar_127 : decode cX4_readSpar 127 = .ok (.invokevirtual 185, 3) := by decide +kernel
theorem dX4_readSpar_130 : decode cX4_readSpar 130 = .ok (.iconst 1, 1) := by decide +kernel
theorem dX4_readSpar_131 : decode cX4_readSpar 131 = .ok (.iastore, 1) := by decide +kernel
theorem dX4_readSpar_132 : decode cX4_readSpar 132 = .ok (.iinc 6 1, 3) := by decide +kernel
theorem dX4_readSpar_135 : decode cX4_readSpar 135 = .ok (.goto (-65), 3) := by decide +kernel
theorem dX4_readSpar_138 : decode cX4_readSpar 138 = .ok (.return_, 1) := by decide +kernel
theorem dX4_readPattern_0 : decode cX4_readPattern 0 = .ok (.aload_n 1, 1) := by decide +kernel
theorem dX4_readPattern_1 : decode cX4_readPattern 1 = .ok (.getfield 188, 3) := by decide +kernel
theorem dX4_readPattern_4 : decode cX4_readPattern 4 = .ok (.iconst 3, 1) := by decide +kernel
theorem dX4_readPattern_5 : decode cX4_readPattern 5 = .ok (.if_icmp .lt 14, 3) := by decide +kernel
theorem dX4_readPattern_8 : decode cX4_readPattern 8 = .ok (.aload_n 0, 1) := by decide +kernel
theorem dX4_readPattern_9 : decode cX4_readPattern 9 = .ok (.bipush (-5), 2) := by decide +kernel
theorem dX4_readPattern_11 : decode cX4_readPattern 11 = .ok (.aload_n 0, 1) := by decide +kernel
theorem dX4_readPattern_12 : decode cX4_readPattern 12 = .ok (.getfield 66, 3) := by decide +kernel
theorem dX4_readPattern_15 : decode cX4_readPattern 15 = .ok (.invokevirtual 89, 3) := by decide +kernel
theorem dX4_readPattern_18 : decode cX4_readPattern 18 = .ok (.return_, 1) := by decide +kernel
theorem dX4_readPattern_19 : decode cX4_readPattern 19 = .ok (.aload_n 1, 1) := by decide +kernel
theorem dX4_readPattern_20 : decode cX4_readPattern 20 = .ok (.getfield 188, 3) := by decide +kernel
theorem dX4_readPattern_23 : decode cX4_readPattern 23 = .ok (.istore_n 2, 1) := by decide +kernel
theorem dX4_readPattern_24 : decode cX4_readPattern 24 = .ok (.aload_n 1, 1) := by decide +kernel
theorem dX4_readPattern_25 : decode cX4_readPattern 25 = .ok (.dup, 1) := by decide +kernel
theorem dX4_readPattern_26 : decode cX4_readPattern 26 = .ok (.getfield 188, 3) := by decide +kernel
theorem dX4_readPattern_29 : decode cX4_readPattern 29 = .ok (.iconst 1, 1) := by decide +kernel
theorem dX4_readPattern_30 : decode cX4_readPattern 30 = .ok (.iadd, 1) := by decide +kernel
theorem dX4_readPattern_31 : decode cX4_readPattern 31 = .ok (.putfield 188, 3) := by decide +kernel
theorem dX4_readPattern_34 : decode cX4_readPattern 34 = .ok (.aload_n 0, 1) := by decide +kernel
theorem dX4_readPattern_35 : decode cX4_readPattern 35 = .ok (.invokevirtual 50, 3) := by decide +kernel
theorem dX4_readPattern_38 : decode cX4_readPattern 38 = .ok (.aload_n 0, 1) := by decide +kernel
theorem dX4_readPattern_39 : decode cX4_readPattern 39 = .ok (.getfield 57, 3) := by decide +kernel
theorem dX4_readPattern_42 : decode cX4_readPattern 42 = .ok (.iconst 2, 1) := by decide +kernel
theorem dX4_readPattern_43 : decode cX4_readPattern 43 = .ok (.if_icmp .eq 13, 3) := by decide +kernel
theorem dX4_readPattern_46 : decode cX4_readPattern 46 = .ok (.aload_n 0, 1) := by decide +kernel
theorem dX4_readPattern_47 : decode cX4_readPattern 47 = .ok (.bipush (-2), 2) := by decide +kernel
theorem dX4_readPattern_49 : decode cX4_readPattern 49 = .ok (.aload_n 0, 1) := by decide +kernel
theorem dX4_readPattern_50 : decode cX4_readPattern 50 = .ok (.getfield 66, 3) := by decide +kernel
theorem dX4_readPattern_53 : decode cX4_readPattern 53 = .ok (.invokevirtual 89, 3) := by decide +kernel
theorem dX4_readPattern_56 : decode cX4_readPattern 56 = .ok (.iconst 0, 1) := by decide +kernel
theorem dX4_readPattern_57 : decode cX4_readPattern 57 = .ok (.istore_n 3, 1) := by decide +kernel
theorem dX4_readPattern_58 : decode cX4_readPattern 58 = .ok (.iload_n 3, 1) := by decide +kernel
theorem dX4_readPattern_59 : decode cX4_readPattern 59 = .ok (.bipush 6, 2) := by decide +kernel
theorem dX4_readPattern_61 : decode cX4_readPattern 61 = .ok (.if_icmp .gt 49, 3) := by decide +kernel
theorem dX4_readPattern_64 : decode cX4_readPattern 64 = .ok (.aload_n 0, 1) := by decide +kernel
theorem dX4_readPattern_65 : decode cX4_readPattern 65 = .ok (.getfield 57, 3) := by decide +kernel
theorem dX4_readPattern_68 : decode cX4_readPattern 68 = .ok (.iconst 2, 1) := by decide +kernel
theorem dX4_readPattern_69 : decode cX4_readPattern 69 = .ok (.if_icmp .ne 41, 3) := by decide +kernel
theorem dX4_readPattern_72 : decode cX4_readPattern 72 = .ok (.aload_n 0, 1) := by decide +kernel
theorem dX4_readPattern_73 : decode cX4_readPattern 73 = .ok (.getfield 31, 3) := by decide +kernel
theorem dX4_readPattern_76 : decode cX4_readPattern 76 = .ok (.ifCond .ne 34, 3) := by decide +kernel
theorem dX4_readPattern_79 : decode cX4_readPattern 79 = .ok (.aload_n 0, 1) := by decide +kernel
theorem dX4_readPattern_80 : decode cX4_readPattern 80 = .ok (.aload_n 1, 1) := by decide +kernel
theorem dX4_readPattern_81 : decode cX4_readPattern 81 = .ok (.iload_n 2, 1) := by decide +kernel
theorem dX4_readPattern_82 : decode cX4_readPattern 82 = .ok (.iload_n 3, 1) := by decide +kernel
theorem dX4_readPattern_83 : decode cX4_readPattern 83 = .ok (.invokevirtual 191, 3) := by decide +kernel
theorem dX4_readPattern_86 : decode cX4_readPattern 86 = .ok (.aload_n 0, 1) := by decide +kernel
theorem dX4_readPattern_87 : decode cX4_readPattern 87 = .ok (.getfield 31, 3) := by decide +kernel
theorem dX4_readPattern_90 : decode cX4_readPattern 90 = .ok (.ifCond .ne 10, 3) := by decide +kernel
theorem dX4_readPattern_93 : decode cX4_readPattern 93 = .ok (.aload_n 0, 1) := by decide +kernel
theorem dX4_readPattern_94 : decode cX4_readPattern 94 = .ok (.aload_n 1, 1) := by decide +kernel
theorem dX4_readPattern_95 : decode cX4_readPattern 95 = .ok (.iload_n 2, 1) := by decide +kernel
theorem dX4_readPattern_96 : decode cX4_readPattern 96 = .ok (.iload_n 3, 1) := by decide +kernel
theorem dX4_readPattern_97 : decode cX4_readPattern 97 = .ok (.invokevirtual 195, 3) := by decide +kernel
theorem dX4_readPattern_100 : decode cX4_readPattern 100 = .ok (.aload_n 0, 1) := by decide +kernel
theorem dX4_readPattern_101 : decode cX4_readPattern 101 = .ok (.invokevirtual 50, 3) := by decide +kernel
theorem dX4_readPattern_104 : decode cX4_readPattern 104 = .ok (.iinc 3 1, 3) := by decide +kernel
theorem dX4_readPattern_107 : decode cX4_readPattern 107 = .ok (.goto (-49), 3) := by decide +kernel
theorem dX4_readPattern_110 : decode cX4_readPattern 110 = .ok (.return_, 1) := by decide +kernel
theorem dX4_checkLine_0 : decode cX4_checkLine 0 = .ok (.aload_n 0, 1) := by decide +kernel
theorem dX4_checkLine_1 : decode cX4_checkLine 1 = .ok (.getfield 28, 3) := by decide +kernel
theorem dX4_checkLine_4 : decode cX4_checkLine 4 = .ok (.aload_n 0, 1) := by decide +kernel
theorem dX4_checkLine_5 : decode cX4_checkLine 5 = .ok (.getfield 66, 3) := by decide +kernel
theorem dX4_checkLine_8 : decode cX4_checkLine 8 = .ok (.isub, 1) := by decide +kernel
theorem dX4_checkLine_9 : decode cX4_checkLine 9 = .ok (.istore 4, 2) := by decide +kernel
theorem dX4_checkLine_11 : decode cX4_checkLine 11 = .ok (.iload 4, 2) := by decide +kernel
theorem dX4_checkLine_13 : decode cX4_checkLine 13 = .ok (.bipush 7, 2) := by decide +kernel
theorem dX4_checkLine_15 : decode cX4_checkLine 15 = .ok (.if_icmp .gt 31, 3) := by decide +kernel
theorem dX4_checkLine_18 : decode cX4_checkLine 18 = .ok (.iload_n 3, 1) := by decide +kernel
theorem dX4_checkLine_19 : decode cX4_checkLine 19 = .ok (.ifCond .le 14, 3) := by decide +kernel
theorem dX4_checkLine_22 : decode cX4_checkLine 22 = .ok (.iload 4, 2) := by decide +kernel
theorem dX4_checkLine_24 : decode cX4_checkLine 24 = .ok (.aload_n 1, 1) := by decide +kernel
theorem dX4_checkLine_25 : decode cX4_checkLine 25 = .ok (.getfield 198, 3) := by decide +kernel
theorem dX4_checkLine_28 : decode cX4_checkLine 28 = .ok (.iload_n 2, 1) := by decide +kernel
theorem dX4_checkLine_29 : decode cX4_checkLine 29 = .ok (.iaload, 1) := by decide +kernel
theorem dX4_checkLine_30 : decode cX4_checkLine 30 = .ok (.if_icmp .ne 16, 3) := by decide +kernel
theorem dX4_checkLine_33 : decode cX4_checkLine 33 = .ok (.aload_n 0, 1) := by decide +kernel
theorem dX4_checkLine_34 : decode cX4_checkLine 34 = .ok (.aload_n 0, 1) := by decide +kernel
theorem dX4_checkLine_35 : decode cX4_checkLine 35 = .ok (.getfield 66, 3) := by decide +kernel
theorem dX4_checkLine_38 : decode cX4_checkLine 38 = .ok (.invokevirtual 100, 3) := by decide +kernel
theorem dX4_checkLine_41 : decode cX4_checkLine 41 = .ok (.bipush 6, 2) := by decide +kernel
theorem dX4_checkLine_43 : decode cX4_checkLine 43 = .ok (.if_icmp .le 13, 3) := by decide +kernel
theorem dX4_checkLine_46 : decode cX4_checkLine 46 = .ok (.aload_n 0, 1) := by decide +kernel
theorem dX4_checkLine_47 : decode cX4_checkLine 47 = .ok (.bipush (-3), 2) := by decide +kernel
theorem dX4_checkLine_49 : decode cX4_checkLine 49 = .ok (.aload_n 0, 1) := by decide +kernel
theorem dX4_checkLine_50 : decode cX4_checkLine 50 = .ok (.getfield 66, 3) := by decide +kernel
theorem dX4_checkLine_53 : decode cX4_checkLine 53 = .ok (.invokevirtual 89, 3) := by decide +kernel
theorem dX4_checkLine_56 : decode cX4_checkLine 56 = .ok (.iload_n 3, 1) := by decide +kernel
theorem dX4_checkLine_57 : decode cX4_checkLine 57 = .ok (.bipush 6, 2) := by decide +kernel
theorem dX4_checkLine_59 : decode cX4_checkLine 59 = .ok (.if_icmp .lt 13, 3) := by decide +kernel
theorem dX4_checkLine_62 : decode cX4_checkLine 62 = .ok (.aload_n 0, 1) := by decide +kernel
theorem dX4_checkLine_63 : decode cX4_checkLine 63 = .ok (.bipush (-5), 2) := by decide +kernel
theorem dX4_checkLine_65 : decode cX4_checkLine 65 = .ok (.aload_n 0, 1) := by decide +kernel
theorem dX4_checkLine_66 : decode cX4_checkLine 66 = .ok (.getfield 66, 3) := by decide +kernel
theorem dX4_checkLine_69 : decode cX4_checkLine 69 = .ok (.invokevirtual 89, 3) := by decide +kernel
theorem dX4_checkLine_72 : decode cX4_checkLine 72 = .ok (.aload_n 0, 1) := by decide +kernel
theorem dX4_checkLine_73 : decode cX4_checkLine 73 = .ok (.getfield 66, 3) := by decide +kernel
theorem dX4_checkLine_76 : decode cX4_checkLine 76 = .ok (.istore 5, 2) := by decide +kernel
theorem dX4_checkLine_78 : decode cX4_checkLine 78 = .ok (.iload 5, 2) := by decide +kernel
theorem dX4_checkLine_80 : decode cX4_checkLine 80 = .ok (.aload_n 0, 1) := by decide +kernel
theorem dX4_checkLine_81 : decode cX4_checkLine 81 = .ok (.getfield 28, 3) := by decide +kernel
theorem dX4_checkLine_84 : decode cX4_checkLine 84 = .ok (.if_icmp .ge 28, 3) := by decide +kernel
theorem dX4_checkLine_87 : decode cX4_checkLine 87 = .ok (.aload_n 0, 1) := by decide +kernel
theorem dX4_checkLine_88 : decode cX4_checkLine 88 = .ok (.iload 5, 2) := by decide +kernel
theorem dX4_checkLine_90 : decode cX4_checkLine 90 = .ok (.invokevirtual 100, 3) := by decide +kernel
theorem dX4_checkLine_93 : decode cX4_checkLine 93 = .ok (.bipush 6, 2) := by decide +kernel
theorem dX4_checkLine_95 : decode cX4_checkLine 95 = .ok (.if_icmp .le 11, 3) := by decide +kernel
theorem dX4_checkLine_98 : decode cX4_checkLine 98 = .ok (.aload_n 0, 1) := by decide +kernel
theorem dX4_checkLine_99 : decode cX4_checkLine 99 = .ok (.bipush (-3), 2) := by decide +kernel
theorem dX4_checkLine_101 : decode cX4_checkLine 101 = .ok (.iload 5, 2) := by decide +kernel
theorem dX4_checkLine_103 : decode cX4_checkLine 103 = .ok (.invokevirtual 89, 3) := by decide +kernel
theorem dX4_checkLine_106 : decode cX4_checkLine 106 = .ok (.iinc 5 1, 3) := by decide +kernel
theorem dX4_checkLine_109 : decode cX4_checkLine 109 = .ok (.goto (-31), 3) := by decide +kernel
theorem dX4_checkLine_112 : decode cX4_checkLine 112 = .ok (.return_, 1) := by decide +kernel
theorem dX4_takeLine_0 : decode cX4_takeLine 0 = .ok (.aload_n 0, 1) := by decide +kernel
theorem dX4_takeLine_1 : decode cX4_takeLine 1 = .ok (.getfield 28, 3) := by decide +kernel
theorem dX4_takeLine_4 : decode cX4_takeLine 4 = .ok (.aload_n 0, 1) := by decide +kernel
theorem dX4_takeLine_5 : decode cX4_takeLine 5 = .ok (.getfield 66, 3) := by decide +kernel
theorem dX4_takeLine_8 : decode cX4_takeLine 8 = .ok (.isub, 1) := by decide +kernel
theorem dX4_takeLine_9 : decode cX4_takeLine 9 = .ok (.istore 4, 2) := by decide +kernel
theorem dX4_takeLine_11 : decode cX4_takeLine 11 = .ok (.aload_n 1, 1) := by decide +kernel
theorem dX4_takeLine_12 : decode cX4_takeLine 12 = .ok (.getfield 198, 3) := by decide +kernel
theorem dX4_takeLine_15 : decode cX4_takeLine 15 = .ok (.iload_n 2, 1) := by decide +kernel
theorem dX4_takeLine_16 : decode cX4_takeLine 16 = .ok (.iload 4, 2) := by decide +kernel
theorem dX4_takeLine_18 : decode cX4_takeLine 18 = .ok (.iastore, 1) := by decide +kernel
theorem dX4_takeLine_19 : decode cX4_takeLine 19 = .ok (.aload_n 1, 1) := by decide +kernel
theorem dX4_takeLine_20 : decode cX4_takeLine 20 = .ok (.getfield 201, 3) := by decide +kernel
theorem dX4_takeLine_23 : decode cX4_takeLine 23 = .ok (.iload_n 2, 1) := by decide +kernel
theorem dX4_takeLine_24 : decode cX4_takeLine 24 = .ok (.iload_n 3, 1) := by decide +kernel
theorem dX4_takeLine_25 : decode cX4_takeLine 25 = .ok (.iconst 1, 1) := by decide +kernel
theorem dX4_takeLine_26 : decode cX4_takeLine 26 = .ok (.iadd, 1) := by decide +kernel
theorem dX4_takeLine_27 : decode cX4_takeLine 27 = .ok (.iastore, 1) := by decide +kernel
theorem dX4_takeLine_28 : decode cX4_takeLine 28 = .ok (.iconst 0, 1) := by decide +kernel
theorem dX4_takeLine_29 : decode cX4_takeLine 29 = .ok (.istore 5, 2) := by decide +kernel
theorem dX4_takeLine_31 : decode cX4_takeLine 31 = .ok (.iload 5, 2) := by decide +kernel
theorem dX4_takeLine_33 : decode cX4_takeLine 33 = .ok (.iload 4, 2) := by decide +kernel
theorem dX4_takeLine_35 : decode cX4_takeLine 35 = .ok (.if_icmp .ge 28, 3) := by decide +kernel
theorem dX4_takeLine_38 : decode cX4_takeLine 38 = .ok (.aload_n 1, 1) := by decide +kernel
theorem dX4_takeLine_39 : decode cX4_takeLine 39 = .ok (.iload_n 2, 1) := by decide +kernel
theorem dX4_takeLine_40 : decode cX4_takeLine 40 = .ok (.iload_n 3, 1) := by decide +kernel
theorem dX4_takeLine_41 : decode cX4_takeLine 41 = .ok (.iload 5, 2) := by decide +kernel
theorem dX4_takeLine_43 : decode cX4_takeLine 43 = .ok (.aload_n 0, 1) := by decide +kernel
theorem dX4_takeLine_44 : decode cX4_takeLine 44 = .ok (.aload_n 0, 1) := by decide +kernel
theorem dX4_takeLine_45 : decode cX4_takeLine 45 = .ok (.getfield 66, 3) := by decide +kernel
theorem dX4_takeLine_48 : decode cX4_takeLine 48 = .ok (.iload 5, 2) := by decide +kernel
theorem dX4_takeLine_50 : decode cX4_takeLine 50 = .ok (.iadd, 1) := by decide +kernel
theorem dX4_takeLine_51 : decode cX4_takeLine 51 = .ok (.invokevirtual 100, 3) := by decide +kernel
theorem dX4_takeLine_54 : decode cX4_takeLine 54 = .ok (.invokevirtual 204, 3) := by decide +kernel
theorem dX4_takeLine_57 : decode cX4_takeLine 57 = .ok (.iinc 5 1, 3) := by decide +kernel
theorem dX4_takeLine_60 : decode cX4_takeLine 60 = .ok (.goto (-29), 3) := by decide +kernel
theorem dX4_takeLine_63 : decode cX4_takeLine 63 = .ok (.return_, 1) := by decide +kernel
theorem dX5_init_0 : decode cX5_init 0 = .ok (.aload_n 0, 1) := by decide +kernel
theorem dX5_init_1 : decode cX5_init 1 = .ok (.invokespecial 3, 3) := by decide +kernel
theorem dX5_init_4 : decode cX5_init 4 = .ok (.aload_n 0, 1) := by decide +kernel
theorem dX5_init_5 : decode cX5_init 5 = .ok (.new 9, 3) := by decide +kernel
theorem dX5_init_8 : decode cX5_init 8 = .ok (.dup, 1) := by decide +kernel
theorem dX5_init_9 : decode cX5_init 9 = .ok (.invokespecial 11, 3) := by decide +kernel
theorem dX5_init_12 : decode cX5_init 12 = .ok (.putfield 12, 3) := by decide +kernel
theorem dX5_init_15 : decode cX5_init 15 = .ok (.aload_n 0, 1) := by decide +kernel
theorem dX5_init_16 : decode cX5_init 16 = .ok (.new 9, 3) := by decide +kernel
theorem dX5_init_19 : decode cX5_init 19 = .ok (.dup, 1) := by decide +kernel
theorem dX5_init_20 : decode cX5_init 20 = .ok (.invokespecial 11, 3) := by decide +kernel
theorem dX5_init_23 : decode cX5_init 23 = .ok (.putfield 16, 3) := by decide +kernel
theorem dX5_init_26 : decode cX5_init 26 = .ok (.aload_n 0, 1) := by decide +kernel
theorem dX5_init_27 : decode cX5_init 27 = .ok (.new 19, 3) := by decide +kernel
theorem dX5_init_30 : decode cX5_init 30 = .ok (.dup, 1) := by decide +kernel
theorem dX5_init_31 : decode cX5_init 31 = .ok (.invokespecial 21, 3) := by decide +kernel
theorem dX5_init_34 : decode cX5_init 34 = .ok (.putfield 22, 3) := by decide +kernel
theorem dX5_init_37 : decode cX5_init 37 = .ok (.aload_n 0, 1) := by decide +kernel
theorem dX5_init_38 : decode cX5_init 38 = .ok (.new 26, 3) := by decide +kernel
theorem dX5_init_41 : decode cX5_init 41 = .ok (.dup, 1) := by decide +kernel
theorem dX5_init_42 : decode cX5_init 42 = .ok (.invokespecial 28, 3) := by decide +kernel
theorem dX5_init_45 : decode cX5_init 45 = .ok (.putfield 29, 3) := by decide +kernel
theorem dX5_init_48 : decode cX5_init 48 = .ok (.aload_n 0, 1) := by decide +kernel
theorem dX5_init_49 : decode cX5_init 49 = .ok (.new 33, 3) := by decide +kernel
theorem dX5_init_52 : decode cX5_init 52 = .ok (.dup, 1) := by decide +kernel
theorem dX5_init_53 : decode cX5_init 53 = .ok (.invokespecial 35, 3) := by decide +kernel
theorem dX5_init_56 : decode cX5_init 56 = .ok (.putfield 36, 3) := by decide +kernel
theorem dX5_init_59 : decode cX5_init 59 = .ok (.aload_n 0, 1) := by decide +kernel
theorem dX5_init_60 : decode cX5_init 60 = .ok (.new 40, 3) := by decide +kernel
theorem dX5_init_63 : decode cX5_init 63 = .ok (.dup, 1) := by decide +kernel
theorem dX5_init_64 : decode cX5_init 64 = .ok (.invokespecial 42, 3) := by decide +kernel
theorem dX5_init_67 : decode cX5_init 67 = .ok (.putfield 43, 3) := by decide +kernel
theorem dX5_init_70 : decode cX5_init 70 = .ok (.aload_n 0, 1) := by decide +kernel
theorem dX5_init_71 : decode cX5_init 71 = .ok (.iconst (-1), 1) := by decide +kernel
theorem dX5_init_72 : decode cX5_init 72 = .ok (.putfield 47, 3) := by decide +kernel
theorem dX5_init_75 : decode cX5_init 75 = .ok (.return_, 1) := by decide +kernel
theorem dX5_append_0 : decode cX5_append 0 = .ok (.aload_n 0, 1) := by decide +kernel
theorem dX5_append_1 : decode cX5_append 1 = .ok (.getfield 43, 3) := by decide +kernel
theorem dX5_append_4 : decode cX5_append 4 = .ok (.getfield 51, 3) := by decide +kernel
theorem dX5_append_7 : decode cX5_append 7 = .ok (.sipush 580, 3) := by decide +kernel
theorem dX5_append_10 : decode cX5_append 10 = .ok (.if_icmp .le 5, 3) := by decide +kernel
theorem dX5_append_13 : decode cX5_append 13 = .ok (.iconst (-1), 1) := by decide +kernel
theorem dX5_append_14 : decode cX5_append 14 = .ok (.ireturn, 1) := by decide +kernel
theorem dX5_append_15 : decode cX5_append 15 = .ok (.aload_n 0, 1) := by decide +kernel
theorem dX5_append_16 : decode cX5_append 16 = .ok (.getfield 43, 3) := by decide +kernel
theorem dX5_append_19 : decode cX5_append 19 = .ok (.iload_n 1, 1) := by decide +kernel
theorem dX5_append_20 : decode cX5_append 20 = .ok (.invokevirtual 54, 3) := by decide +kernel
theorem dX5_append_23 : decode cX5_append 23 = .ok (.aload_n 0, 1) := by decide +kernel
theorem dX5_append_24 : decode cX5_append 24 = .ok (.getfield 43, 3) := by decide +kernel
theorem dX5_append_27 : decode cX5_append 27 = .ok (.iload_n 2, 1) := by decide +kernel
theorem dX5_append_28 : decode cX5_append 28 = .ok (.invokevirtual 54, 3) := by decide +kernel
theorem dX5_append_31 : decode cX5_append 31 = .ok (.aload_n 0, 1) := by decide +kernel
theorem dX5_append_32 : decode cX5_append 32 = .ok (.getfield 43, 3) := by decide +kernel
theorem dX5_append_35 : decode cX5_append 35 = .ok (.iload_n 3, 1) := by decide +kernel
theorem dX5_append_36 : decode cX5_append 36 = .ok (.invokevirtual 54, 3) := by decide +kernel
theorem dX5_append_39 : decode cX5_append 39 = .ok (.aload_n 0, 1) := by decide +kernel
theorem dX5_append_40 : decode cX5_append 40 = .ok (.getfield 43, 3) := by decide +kernel
theorem dX5_append_43 : decode cX5_append 43 = .ok (.iload 4, 2) := by decide +kernel
theorem dX5_append_45 : decode cX5_append 45 = .ok (.invokevirtual 54, 3) := by decide +kernel
theorem dX5_append_48 : decode cX5_append 48 = .ok (.aload_n 0, 1) := by decide +kernel
theorem dX5_append_49 : decode cX5_append 49 = .ok (.getfield 43, 3) := by decide +kernel
theorem dX5_append_52 : decode cX5_append 52 = .ok (.iload 5, 2) := by decide +kernel
theorem dX5_append_54 : decode cX5_append 54 = .ok (.invokevirtual 54, 3) := by decide +kernel
theorem dX5_append_57 : decode cX5_append 57 = .ok (.aload_n 0, 1) := by decide +kernel
theorem dX5_append_58 : decode cX5_append 58 = .ok (.getfield 43, 3) := by decide +kernel
theorem dX5_append_61 : decode cX5_append 61 = .ok (.getfield 51, 3) := by decide +kernel
theorem dX5_append_64 : decode cX5_append 64 = .ok (.ireturn, 1) := by decide +kernel
theorem dX5_load_0 : decode cX5_load 0 = .ok (.iload_n 1, 1) := by decide +kernel
theorem dX5_load_1 : decode cX5_load 1 = .ok (.iconst 0, 1) := by decide +kernel
theorem dX5_load_2 : decode cX5_load 2 = .ok (.aload_n 0, 1) := by decide +kernel
theorem dX5_load_3 : decode cX5_load 3 = .ok (.getfield 43, 3) := by decide +kernel
theorem dX5_load_6 : decode cX5_load 6 = .ok (.getfield 51, 3) := by decide +kernel
theorem dX5_load_9 : decode cX5_load 9 = .ok (.invokestatic 58, 3) := by decide +kernel
theorem dX5_load_12 : decode cX5_load 12 = .ok (.aload_n 0, 1) := by decide +kernel
theorem dX5_load_13 : decode cX5_load 13 = .ok (.getfield 43, 3) := by decide +kernel
theorem dX5_load_16 : decode cX5_load 16 = .ok (.iload_n 1, 1) := by decide +kernel
theorem dX5_load_17 : decode cX5_load 17 = .ok (.aload_n 0, 1) := by decide +kernel
theorem dX5_load_18 : decode cX5_load 18 = .ok (.getfield 16, 3) := by decide +kernel
theorem dX5_load_21 : decode cX5_load 21 = .ok (.invokevirtual 62, 3) := by decide +kernel
theorem dX5_load_24 : decode cX5_load 24 = .ok (.istore_n 2, 1) := by decide +kernel
theorem dX5_load_25 : decode cX5_load 25 = .ok (.aload_n 0, 1) := by decide +kernel
theorem dX5_load_26 : decode cX5_load 26 = .ok (.getfield 43, 3) := by decide +kernel
theorem dX5_load_29 : decode cX5_load 29 = .ok (.iconst 0, 1) := by decide +kernel
theorem dX5_load_30 : decode cX5_load 30 = .ok (.putfield 51, 3) := by decide +kernel
theorem dX5_load_33 : decode cX5_load 33 = .ok (.iload_n 2, 1) := by decide +kernel
theorem dX5_load_34 : decode cX5_load 34 = .ok (.ifCond .eq 16, 3) := by decide +kernel
theorem dX5_load_37 : decode cX5_load 37 = .ok (.aload_n 0, 1) := by decide +kernel
theorem dX5_load_38 : decode cX5_load 38 = .ok (.aload_n 0, 1) := by decide +kernel
theorem dX5_load_39 : decode cX5_load 39 = .ok (.getfield 43, 3) := by decide +kernel
theorem dX5_load_42 : decode cX5_load 42 = .ok (.getfield 66, 3) := by decide +kernel
theorem dX5_load_45 : decode cX5_load 45 = .ok (.putfield 47, 3) := by decide +kernel
theorem dX5_load_48 : decode cX5_load 48 = .ok (.iload_n 2, 1) := by decide +kernel
theorem dX5_load_49 : decode cX5_load 49 = .ok (.ireturn, 1) := by decide +kernel
theorem dX5_load_50 : decode cX5_load 50 = .ok (.aload_n 0, 1) := by decide +kernel
theorem dX5_load_51 : decode cX5_load 51 = .ok (.iconst (-1), 1) := by decide +kernel
theorem dX5_load_52 : decode cX5_load 52 = .ok (.putfield 47, 3) := by decide +kernel
theorem dX5_load_55 : decode cX5_load 55 = .ok (.aload_n 0, 1) := by decide +kernel
theorem dX5_load_56 : decode cX5_load 56 = .ok (.getfield 22, 3) := by decide +kernel
theorem dX5_load_59 : decode cX5_load 59 = .ok (.aload_n 0, 1) := by decide +kernel
theorem dX5_load_60 : decode cX5_load 60 = .ok (.getfield 12, 3) := by decide +kernel
theorem dX5_load_63 : decode cX5_load 63 = .ok (.invokevirtual 69, 3) := by decide +kernel
theorem dX5_load_66 : decode cX5_load 66 = .ok (.aload_n 0, 1) := by decide +kernel
theorem dX5_load_67 : decode cX5_load 67 = .ok (.getfield 12, 3) := by decide +kernel
theorem dX5_load_70 : decode cX5_load 70 = .ok (.aload_n 0, 1) := by decide +kernel
theorem dX5_load_71 : decode cX5_load 71 = .ok (.getfield 16, 3) := by decide +kernel
theorem dX5_load_74 : decode cX5_load 74 = .ok (.invokevirtual 73, 3) := by decide +kernel
theorem dX5_load_77 : decode cX5_load 77 = .ok (.aload_n 0, 1) := by decide +kernel
theorem dX5_load_78 : decode cX5_load 78 = .ok (.getfield 12, 3) := by decide +kernel
theorem dX5_load_81 : decode cX5_load 81 = .ok (.invokevirtual 76, 3) := by decide +kernel
theorem dX5_load_84 : decode cX5_load 84 = .ok (.ireturn, 1) := by decide +kernel
theorem dX5_errorOffset_0 : decode cX5_errorOffset 0 = .ok (.aload_n 0, 1) := by decide +kernel
theorem dX5_errorOffset_1 : decode cX5_errorOffset 1 = .ok (.getfield 47, 3) := by decide +kernel
theorem dX5_errorOffset_4 : decode cX5_errorOffset 4 = .ok (.ireturn, 1) := by decide +kernel
theorem dX5_state_0 : decode cX5_state 0 = .ok (.iload_n 1, 1) := by decide +kernel
theorem dX5_state_1 : decode cX5_state 1 = .ok (.tableswitch 172 0 12 #[67, 75, 83, 91, 99, 107, 116, 124, 132, 140, 148, 156, 164], 67) := by decide +kernel
theorem dX5_state_68 : decode cX5_state 68 = .ok (.aload_n 0, 1) := by decide +kernel
theorem dX5_state_69 : decode cX5_state 69 = .ok (.getfield 12, 3) := by decide +kernel
theorem dX5_state_72 : decode cX5_state 72 = .ok (.getfield 80, 3) := by decide +kernel
theorem dX5_state_75 : decode cX5_state 75 = .ok (.ireturn, 1) := by decide +kernel
theorem dX5_state_76 : decode cX5_state 76 = .ok (.aload_n 0, 1) := by decide +kernel
theorem dX5_state_77 : decode cX5_state 77 = .ok (.getfield 12, 3) := by decide +kernel
theorem dX5_state_80 : decode cX5_state 80 = .ok (.getfield 83, 3) := by decide +kernel
theorem dX5_state_83 : decode cX5_state 83 = .ok (.ireturn, 1) := by decide +kernel
theorem dX5_state_84 : decode cX5_state 84 = .ok (.aload_n 0, 1) := by decide +kernel
theorem dX5_state_85 : decode cX5_state 85 = .ok (.getfield 12, 3) := by decide +kernel
theorem dX5_state_88 : decode cX5_state 88 = .ok (.getfield 86, 3) := by decide +kernel
theorem dX5_state_91 : decode cX5_state 91 = .ok (.ireturn, 1) := by decide +kernel
theorem dX5_state_92 : decode cX5_state 92 = .ok (.aload_n 0, 1) := by decide +kernel
theorem dX5_state_93 : decode cX5_state 93 = .ok (.getfield 12, 3) := by decide +kernel
theorem dX5_state_96 : decode cX5_state 96 = .ok (.invokevirtual 76, 3) := by decide +kernel
theorem dX5_state_99 : decode cX5_state 99 = .ok (.ireturn, 1) := by decide +kernel
theorem dX5_state_100 : decode cX5_state 100 = .ok (.aload_n 0, 1) := by decide +kernel
theorem dX5_state_101 : decode cX5_state 101 = .ok (.getfield 12, 3) := by decide +kernel
theorem dX5_state_104 : decode cX5_state 104 = .ok (.invokevirtual 89, 3) := by decide +kernel
theorem dX5_state_107 : decode cX5_state 107 = .ok (.ireturn, 1) := by decide +kernel
theorem dX5_state_108 : decode cX5_state 108 = .ok (.aload_n 0, 1) := by decide +kernel
theorem dX5_state_109 : decode cX5_state 109 = .ok (.getfield 12, 3) := by decide +kernel
theorem dX5_state_112 : decode cX5_state 112 = .ok (.iconst 0, 1) := by decide +kernel
theorem dX5_state_113 : decode cX5_state 113 = .ok (.invokevirtual 92, 3) := by decide +kernel
theorem dX5_state_116 : decode cX5_state 116 = .ok (.ireturn, 1) := by decide +kernel
theorem dX5_state_117 : decode cX5_state 117 = .ok (.aload_n 0, 1) := by decide +kernel
theorem dX5_state_118 : decode cX5_state 118 = .ok (.getfield 12, 3) := by decide +kernel
theorem dX5_state_121 : decode cX5_state 121 = .ok (.invokevirtual 96, 3) := by decide +kernel
theorem dX5_state_124 : decode cX5_state 124 = .ok (.ireturn, 1) := by decide +kernel
theorem dX5_state_125 : decode cX5_state 125 = .ok (.aload_n 0, 1) := by decide +kernel
theorem dX5_state_126 : decode cX5_state 126 = .ok (.getfield 12, 3) := by decide +kernel
theorem dX5_state_129 : decode cX5_state 129 = .ok (.invokevirtual 99, 3) := by decide +kernel
theorem dX5_state_132 : decode cX5_state 132 = .ok (.ireturn, 1) := by decide +kernel
theorem dX5_state_133 : decode cX5_state 133 = .ok (.aload_n 0, 1) := by decide +kernel
theorem dX5_state_134 : decode cX5_state 134 = .ok (.getfield 12, 3) := by decide +kernel
theorem dX5_state_137 : decode cX5_state 137 = .ok (.invokevirtual 102, 3) := by decide +kernel
theorem dX5_state_140 : decode cX5_state 140 = .ok (.ireturn, 1) := by decide +kernel
theorem dX5_state_141 : decode cX5_state 141 = .ok (.aload_n 0, 1) := by decide +kernel
theorem dX5_state_142 : decode cX5_state 142 = .ok (.getfield 12, 3) := by decide +kernel
theorem dX5_state_145 : decode cX5_state 145 = .ok (.invokevirtual 105, 3) := by decide +kernel
theorem dX5_state_148 : decode cX5_state 148 = .ok (.ireturn, 1) := by decide +kernel
theorem dX5_state_149 : decode cX5_state 149 = .ok (.aload_n 0, 1) := by decide +kernel
theorem dX5_state_150 : decode cX5_state 150 = .ok (.getfield 12, 3) := by decide +kernel
theorem dX5_state_153 : decode cX5_state 153 = .ok (.invokevirtual 108, 3) := by decide +kernel
theorem dX5_state_156 : decode cX5_state 156 = .ok (.ireturn, 1) := by decide +kernel
theorem dX5_state_157 : decode cX5_state 157 = .ok (.aload_n 0, 1) := by decide +kernel
theorem dX5_state_158 : decode cX5_state 158 = .ok (.getfield 12, 3) := by decide +kernel
theorem dX5_state_161 : decode cX5_state 161 = .ok (.getfield 111, 3) := by decide +kernel
theorem dX5_state_164 : decode cX5_state 164 = .ok (.ireturn, 1) := by decide +kernel
theorem dX5_state_165 : decode cX5_state 165 = .ok (.aload_n 0, 1) := by decide +kernel
theorem dX5_state_166 : decode cX5_state 166 = .ok (.getfield 12, 3) := by decide +kernel
theorem dX5_state_169 : decode cX5_state 169 = .ok (.invokevirtual 114, 3) := by decide +kernel
theorem dX5_state_172 : decode cX5_state 172 = .ok (.ireturn, 1) := by decide +kernel
theorem dX5_state_173 : decode cX5_state 173 = .ok (.new 117, 3) := by decide +kernel
theorem dX5_state_176 : decode cX5_state 176 = .ok (.dup, 1) := by decide +kernel
theorem dX5_state_177 : decode cX5_state 177 = .ok (.ldc 119, 2) := by decide +kernel
theorem dX5_state_179 : decode cX5_state 179 = .ok (.invokespecial 121, 3) := by decide +kernel
theorem dX5_state_182 : decode cX5_state 182 = .ok (.athrow, 1) := by decide +kernel
theorem dX5_cell_0 : decode cX5_cell 0 = .ok (.aload_n 0, 1) := by decide +kernel
theorem dX5_cell_1 : decode cX5_cell 1 = .ok (.iload_n 1, 1) := by decide +kernel
theorem dX5_cell_2 : decode cX5_cell 2 = .ok (.iload_n 2, 1) := by decide +kernel
theorem dX5_cell_3 : decode cX5_cell 3 = .ok (.invokevirtual 124, 3) := by decide +kernel
theorem dX5_cell_6 : decode cX5_cell 6 = .ok (.aload_n 0, 1) := by decide +kernel
theorem dX5_cell_7 : decode cX5_cell 7 = .ok (.getfield 12, 3) := by decide +kernel
theorem dX5_cell_10 : decode cX5_cell 10 = .ok (.iload_n 1, 1) := by decide +kernel
theorem dX5_cell_11 : decode cX5_cell 11 = .ok (.iload_n 2, 1) := by decide +kernel
theorem dX5_cell_12 : decode cX5_cell 12 = .ok (.invokevirtual 128, 3) := by decide +kernel
theorem dX5_cell_15 : decode cX5_cell 15 = .ok (.istore 4, 2) := by decide +kernel
theorem dX5_cell_17 : decode cX5_cell 17 = .ok (.iload_n 3, 1) := by decide +kernel
theorem dX5_cell_18 : decode cX5_cell 18 = .ok (.tableswitch 94 0 4 #[34, 45, 56, 67, 77], 34) := by decide +kernel
theorem dX5_cell_52 : decode cX5_cell 52 = .ok (.aload_n 0, 1) := by decide +kernel
theorem dX5_cell_53 : decode cX5_cell 53 = .ok (.getfield 12, 3) := by decide +kernel
theorem dX5_cell_56 : decode cX5_cell 56 = .ok (.getfield 132, 3) := by decide +kernel
theorem dX5_cell_59 : decode cX5_cell 59 = .ok (.iload 4, 2) := by decide +kernel
theorem dX5_cell_61 : decode cX5_cell 61 = .ok (.iaload, 1) := by decide +kernel
theorem dX5_cell_62 : decode cX5_cell 62 = .ok (.ireturn, 1) := by decide +kernel
theorem dX5_cell_63 : decode cX5_cell 63 = .ok (.aload_n 0, 1) := by decide +kernel
theorem dX5_cell_64 : decode cX5_cell 64 = .ok (.getfield 12, 3) := by decide +kernel
theorem dX5_cell_67 : decode cX5_cell 67 = .ok (.getfield 136, 3) := by decide +kernel
theorem dX5_cell_70 : decode cX5_cell 70 = .ok (.iload 4, 2) := by decide +kernel
theorem dX5_cell_72 : decode cX5_cell 72 = .ok (.iaload, 1) := by decide +kernel
theorem dX5_cell_73 : decode cX5_cell 73 = .ok (.ireturn, 1) := by decide +kernel
theorem dX5_cell_74 : decode cX5_cell 74 = .ok (.aload_n 0, 1) := by decide +kernel
theorem dX5_cell_75 : decode cX5_cell 75 = .ok (.getfield 12, 3) := by decide +kernel
theorem dX5_cell_78 : decode cX5_cell 78 = .ok (.getfield 139, 3) := by decide +kernel
theorem dX5_cell_81 : decode cX5_cell 81 = .ok (.iload 4, 2) := by decide +kernel
theorem dX5_cell_83 : decode cX5_cell 83 = .ok (.iaload, 1) := by decide +kernel
theorem dX5_cell_84 : decode cX5_cell 84 = .ok (.ireturn, 1) := by decide +kernel
theorem dX5_cell_85 : decode cX5_cell 85 = .ok (.aload_n 0, 1) := by decide +kernel
theorem dX5_cell_86 : decode cX5_cell 86 = .ok (.getfield 12, 3) := by decide +kernel
theorem dX5_cell_89 : decode cX5_cell 89 = .ok (.iload 4, 2) := by decide +kernel
theorem dX5_cell_91 : decode cX5_cell 91 = .ok (.invokevirtual 142, 3) := by decide +kernel
theorem dX5_cell_94 : decode cX5_cell 94 = .ok (.ireturn, 1) := by decide +kernel
theorem dX5_cell_95 : decode cX5_cell 95 = .ok (.aload_n 0, 1) := by decide +kernel
theorem dX5_cell_96 : decode cX5_cell 96 = .ok (.getfield 12, 3) := by decide +kernel
theorem dX5_cell_99 : decode cX5_cell 99 = .ok (.aload_n 0, 1) := by decide +kernel
theorem dX5_cell_100 : decode cX5_cell 100 = .ok (.getfield 12, 3) := by decide +kernel
theorem dX5_cell_103 : decode cX5_cell 103 = .ok (.iload_n 1, 1) := by decide +kernel
theorem dX5_cell_104 : decode cX5_cell 104 = .ok (.invokevirtual 145, 3) := by decide +kernel
theorem dX5_cell_107 : decode cX5_cell 107 = .ok (.iload_n 2, 1) := by decide +kernel
theorem dX5_cell_108 : decode cX5_cell 108 = .ok (.invokevirtual 128, 3) := by decide +kernel
theorem dX5_cell_111 : decode cX5_cell 111 = .ok (.ireturn, 1) := by decide +kernel
theorem dX5_cell_112 : decode cX5_cell 112 = .ok (.new 117, 3) := by decide +kernel
theorem dX5_cell_115 : decode cX5_cell 115 = .ok (.dup, 1) := by decide +kernel
theorem dX5_cell_116 : decode cX5_cell 116 = .ok (.ldc 148, 2) := by decide +kernel
theorem dX5_cell_118 : decode cX5_cell 118 = .ok (.invokespecial 121, 3) := by decide +kernel
theorem dX5_cell_121 : decode cX5_cell 121 = .ok (.athrow, 1) := by decide +kernel
theorem dX5_mix_0 : decode cX5_mix 0 = .ok (.iload_n 1, 1) := by decide +kernel
theorem dX5_mix_1 : decode cX5_mix 1 = .ok (.iconst 1, 1) := by decide +kernel
theorem dX5_mix_2 : decode cX5_mix 2 = .ok (.bipush 6, 2) := by decide +kernel
theorem dX5_mix_4 : decode cX5_mix 4 = .ok (.invokestatic 58, 3) := by decide +kernel
theorem dX5_mix_7 : decode cX5_mix 7 = .ok (.iload_n 2, 1) := by decide +kernel
theorem dX5_mix_8 : decode cX5_mix 8 = .ok (.iconst 1, 1) := by decide +kernel
theorem dX5_mix_9 : decode cX5_mix 9 = .ok (.bipush 6, 2) := by decide +kernel
theorem dX5_mix_11 : decode cX5_mix 11 = .ok (.invokestatic 58, 3) := by decide +kernel
theorem dX5_mix_14 : decode cX5_mix 14 = .ok (.aload_n 0, 1) := by decide +kernel
theorem dX5_mix_15 : decode cX5_mix 15 = .ok (.getfield 12, 3) := by decide +kernel
theorem dX5_mix_18 : decode cX5_mix 18 = .ok (.iload_n 1, 1) := by decide +kernel
theorem dX5_mix_19 : decode cX5_mix 19 = .ok (.iload_n 2, 1) := by decide +kernel
theorem dX5_mix_20 : decode cX5_mix 20 = .ok (.invokevirtual 150, 3) := by decide +kernel
theorem dX5_mix_23 : decode cX5_mix 23 = .ok (.ireturn, 1) := by decide +kernel
theorem dX5_count_0 : decode cX5_count 0 = .ok (.iload_n 1, 1) := by decide +kernel
theorem dX5_count_1 : decode cX5_count 1 = .ok (.iconst 0, 1) := by decide +kernel
theorem dX5_count_2 : decode cX5_count 2 = .ok (.bipush 6, 2) := by decide +kernel
theorem dX5_count_4 : decode cX5_count 4 = .ok (.invokestatic 58, 3) := by decide +kernel
theorem dX5_count_7 : decode cX5_count 7 = .ok (.aload_n 0, 1) := by decide +kernel
theorem dX5_count_8 : decode cX5_count 8 = .ok (.getfield 12, 3) := by decide +kernel
theorem dX5_count_11 : decode cX5_count 11 = .ok (.iload_n 1, 1) := by decide +kernel
theorem dX5_count_12 : decode cX5_count 12 = .ok (.invokevirtual 92, 3) := by decide +kernel
theorem dX5_count_15 : decode cX5_count 15 = .ok (.ireturn, 1) := by decide +kernel
theorem dX5_unlike_0 : decode cX5_unlike 0 = .ok (.aload_n 0, 1) := by decide +kernel
theorem dX5_unlike_1 : decode cX5_unlike 1 = .ok (.getfield 12, 3) := by decide +kernel
theorem dX5_unlike_4 : decode cX5_unlike 4 = .ok (.invokevirtual 153, 3) := by decide +kernel
theorem dX5_unlike_7 : decode cX5_unlike 7 = .ok (.ireturn, 1) := by decide +kernel
theorem dX5_region_0 : decode cX5_region 0 = .ok (.aload_n 0, 1) := by decide +kernel
theorem dX5_region_1 : decode cX5_region 1 = .ok (.iload_n 1, 1) := by decide +kernel
theorem dX5_region_2 : decode cX5_region 2 = .ok (.iload_n 2, 1) := by decide +kernel
theorem dX5_region_3 : decode cX5_region 3 = .ok (.invokevirtual 124, 3) := by decide +kernel
theorem dX5_region_6 : decode cX5_region 6 = .ok (.aload_n 0, 1) := by decide +kernel
theorem dX5_region_7 : decode cX5_region 7 = .ok (.getfield 36, 3) := by decide +kernel
theorem dX5_region_10 : decode cX5_region 10 = .ok (.aload_n 0, 1) := by decide +kernel
theorem dX5_region_11 : decode cX5_region 11 = .ok (.getfield 12, 3) := by decide +kernel
theorem dX5_region_14 : decode cX5_region 14 = .ok (.iload_n 1, 1) := by decide +kernel
theorem dX5_region_15 : decode cX5_region 15 = .ok (.iload_n 2, 1) := by decide +kernel
theorem dX5_region_16 : decode cX5_region 16 = .ok (.invokevirtual 156, 3) := by decide +kernel
theorem dX5_region_19 : decode cX5_region 19 = .ok (.ireturn, 1) := by decide +kernel
theorem dX5_regions_0 : decode cX5_regions 0 = .ok (.iload_n 1, 1) := by decide +kernel
theorem dX5_regions_1 : decode cX5_regions 1 = .ok (.iconst 0, 1) := by decide +kernel
theorem dX5_regions_2 : decode cX5_regions 2 = .ok (.bipush 6, 2) := by decide +kernel
theorem dX5_regions_4 : decode cX5_regions 4 = .ok (.invokestatic 58, 3) := by decide +kernel
theorem dX5_regions_7 : decode cX5_regions 7 = .ok (.aload_n 0, 1) := by decide +kernel
theorem dX5_regions_8 : decode cX5_regions 8 = .ok (.getfield 36, 3) := by decide +kernel
theorem dX5_regions_11 : decode cX5_regions 11 = .ok (.aload_n 0, 1) := by decide +kernel
theorem dX5_regions_12 : decode cX5_regions 12 = .ok (.getfield 12, 3) := by decide +kernel
theorem dX5_regions_15 : decode cX5_regions 15 = .ok (.iload_n 1, 1) := by decide +kernel
theorem dX5_regions_16 : decode cX5_regions 16 = .ok (.invokevirtual 160, 3) := by decide +kernel
theorem dX5_regions_19 : decode cX5_regions 19 = .ok (.ireturn, 1) := by decide +kernel
theorem dX5_bleeds_0 : decode cX5_bleeds 0 = .ok (.aload_n 0, 1) := by decide +kernel
theorem dX5_bleeds_1 : decode cX5_bleeds 1 = .ok (.iload_n 1, 1) := by decide +kernel
theorem dX5_bleeds_2 : decode cX5_bleeds 2 = .ok (.iload_n 2, 1) := by decide +kernel
theorem dX5_bleeds_3 : decode cX5_bleeds 3 = .ok (.invokevirtual 124, 3) := by decide +kernel
theorem dX5_bleeds_6 : decode cX5_bleeds 6 = .ok (.aload_n 0, 1) := by decide +kernel
theorem dX5_bleeds_7 : decode cX5_bleeds 7 = .ok (.getfield 12, 3) := by decide +kernel
theorem dX5_bleeds_10 : decode cX5_bleeds 10 = .ok (.iload_n 1, 1) := by decide +kernel
theorem dX5_bleeds_11 : decode cX5_bleeds 11 = .ok (.iload_n 2, 1) := by decide +kernel
theorem dX5_bleeds_12 : decode cX5_bleeds 12 = .ok (.invokevirtual 164, 3) := by decide +kernel
theorem dX5_bleeds_15 : decode cX5_bleeds 15 = .ok (.ireturn, 1) := by decide +kernel
theorem dX5_driesIn_0 : decode cX5_driesIn 0 = .ok (.aload_n 0, 1) := by decide +kernel
theorem dX5_driesIn_1 : decode cX5_driesIn 1 = .ok (.getfield 12, 3) := by decide +kernel
theorem dX5_driesIn_4 : decode cX5_driesIn 4 = .ok (.invokevirtual 114, 3) := by decide +kernel
theorem dX5_driesIn_7 : decode cX5_driesIn 7 = .ok (.ireturn, 1) := by decide +kernel
theorem dX5_foretold_0 : decode cX5_foretold 0 = .ok (.iload_n 1, 1) := by decide +kernel
theorem dX5_foretold_1 : decode cX5_foretold 1 = .ok (.iconst 1, 1) := by decide +kernel
theorem dX5_foretold_2 : decode cX5_foretold 2 = .ok (.bipush 40, 2) := by decide +kernel
theorem dX5_foretold_4 : decode cX5_foretold 4 = .ok (.invokestatic 58, 3) := by decide +kernel
theorem dX5_foretold_7 : decode cX5_foretold 7 = .ok (.iload_n 2, 1) := by decide +kernel
theorem dX5_foretold_8 : decode cX5_foretold 8 = .ok (.iconst 0, 1) := by decide +kernel
theorem dX5_foretold_9 : decode cX5_foretold 9 = .ok (.iconst 4, 1) := by decide +kernel
theorem dX5_foretold_10 : decode cX5_foretold 10 = .ok (.invokestatic 58, 3) := by decide +kernel
theorem dX5_foretold_13 : decode cX5_foretold 13 = .ok (.aload_n 0, 1) := by decide +kernel
theorem dX5_foretold_14 : decode cX5_foretold 14 = .ok (.getfield 16, 3) := by decide +kernel
theorem dX5_foretold_17 : decode cX5_foretold 17 = .ok (.aload_n 0, 1) := by decide +kernel
theorem dX5_foretold_18 : decode cX5_foretold 18 = .ok (.getfield 12, 3) := by decide +kernel
theorem dX5_foretold_21 : decode cX5_foretold 21 = .ok (.invokevirtual 73, 3) := by decide +kernel
theorem dX5_foretold_24 : decode cX5_foretold 24 = .ok (.aload_n 0, 1) := by decide +kernel
theorem dX5_foretold_25 : decode cX5_foretold 25 = .ok (.getfield 29, 3) := by decide +kernel
theorem dX5_foretold_28 : decode cX5_foretold 28 = .ok (.aload_n 0, 1) := by decide +kernel
theorem dX5_foretold_29 : decode cX5_foretold 29 = .ok (.getfield 16, 3) := by decide +kernel
theorem dX5_foretold_32 : decode cX5_foretold 32 = .ok (.iload_n 1, 1) := by decide +kernel
theorem dX5_foretold_33 : decode cX5_foretold 33 = .ok (.invokevirtual 167, 3) := by decide +kernel
theorem dX5_foretold_36 : decode cX5_foretold 36 = .ok (.istore_n 3, 1) := by decide +kernel
theorem dX5_foretold_37 : decode cX5_foretold 37 = .ok (.iload_n 2, 1) := by decide +kernel
theorem dX5_foretold_38 : decode cX5_foretold 38 = .ok (.tableswitch 63 0 3 #[30, 38, 47, 55], 30) := by decide +kernel
theorem dX5_foretold_68 : decode cX5_foretold 68 = .ok (.aload_n 0, 1) := by decide +kernel
theorem dX5_foretold_69 : decode cX5_foretold 69 = .ok (.getfield 16, 3) := by decide +kernel
theorem dX5_foretold_72 : decode cX5_foretold 72 = .ok (.invokevirtual 105, 3) := by decide +kernel
theorem dX5_foretold_75 : decode cX5_foretold 75 = .ok (.ireturn, 1) := by decide +kernel
theorem dX5_foretold_76 : decode cX5_foretold 76 = .ok (.aload_n 0, 1) := by decide +kernel
theorem dX5_foretold_77 : decode cX5_foretold 77 = .ok (.getfield 16, 3) := by decide +kernel
theorem dX5_foretold_80 : decode cX5_foretold 80 = .ok (.iconst 0, 1) := by decide +kernel
theorem dX5_foretold_81 : decode cX5_foretold 81 = .ok (.invokevirtual 92, 3) := by decide +kernel
theorem dX5_foretold_84 : decode cX5_foretold 84 = .ok (.ireturn, 1) := by decide +kernel
theorem dX5_foretold_85 : decode cX5_foretold 85 = .ok (.aload_n 0, 1) := by decide +kernel
theorem dX5_foretold_86 : decode cX5_foretold 86 = .ok (.getfield 16, 3) := by decide +kernel
theorem dX5_foretold_89 : decode cX5_foretold 89 = .ok (.invokevirtual 153, 3) := by decide +kernel
theorem dX5_foretold_92 : decode cX5_foretold 92 = .ok (.ireturn, 1) := by decide +kernel
theorem dX5_foretold_93 : decode cX5_foretold 93 = .ok (.aload_n 0, 1) := by decide +kernel
theorem dX5_foretold_94 : decode cX5_foretold 94 = .ok (.getfield 16, 3) := by decide +kernel
theorem dX5_foretold_97 : decode cX5_foretold 97 = .ok (.invokevirtual 96, 3) := by decide +kernel
theorem dX5_foretold_100 : decode cX5_foretold 100 = .ok (.ireturn, 1) := by decide +kernel
theorem dX5_foretold_101 : decode cX5_foretold 101 = .ok (.iload_n 3, 1) := by decide +kernel
theorem dX5_foretold_102 : decode cX5_foretold 102 = .ok (.ireturn, 1) := by decide +kernel
theorem dX5_evens_0 : decode cX5_evens 0 = .ok (.iload_n 1, 1) := by decide +kernel
theorem dX5_evens_1 : decode cX5_evens 1 = .ok (.iconst 0, 1) := by decide +kernel
theorem dX5_evens_2 : decode cX5_evens 2 = .ok (.bipush 6, 2) := by decide +kernel
theorem dX5_evens_4 : decode cX5_evens 4 = .ok (.invokestatic 58, 3) := by decide +kernel
theorem dX5_evens_7 : decode cX5_evens 7 = .ok (.aload_n 0, 1) := by decide +kernel
theorem dX5_evens_8 : decode cX5_evens 8 = .ok (.getfield 12, 3) := by decide +kernel
theorem dX5_evens_11 : decode cX5_evens 11 = .ok (.invokevirtual 105, 3) := by decide +kernel
theorem dX5_evens_14 : decode cX5_evens 14 = .ok (.istore_n 2, 1) := by decide +kernel
theorem dX5_evens_15 : decode cX5_evens 15 = .ok (.iload_n 2, 1) := by decide +kernel
theorem dX5_evens_16 : decode cX5_evens 16 = .ok (.invokestatic 170, 3) := by decide +kernel
theorem dX5_evens_19 : decode cX5_evens 19 = .ok (.istore_n 3, 1) := by decide +kernel
theorem dX5_evens_20 : decode cX5_evens 20 = .ok (.iconst (-1), 1) := by decide +kernel
theorem dX5_evens_21 : decode cX5_evens 21 = .ok (.istore 4, 2) := by decide +kernel
theorem dX5_evens_23 : decode cX5_evens 23 = .ok (.iconst 0, 1) := by decide +kernel
theorem dX5_evens_24 : decode cX5_evens 24 = .ok (.istore 5, 2) := by decide +kernel
theorem dX5_evens_26 : decode cX5_evens 26 = .ok (.iload 5, 2) := by decide +kernel
theorem dX5_evens_28 : decode cX5_evens 28 = .ok (.aload_n 0, 1) := by decide +kernel
theorem dX5_evens_29 : decode cX5_evens 29 = .ok (.getfield 12, 3) := by decide +kernel
theorem dX5_evens_32 : decode cX5_evens 32 = .ok (.getfield 83, 3) := by decide +kernel
theorem dX5_evens_35 : decode cX5_evens 35 = .ok (.if_icmp .ge 115, 3) := by decide +kernel
theorem dX5_evens_38 : decode cX5_evens 38 = .ok (.aload_n 0, 1) := by decide +kernel
theorem dX5_evens_39 : decode cX5_evens 39 = .ok (.getfield 12, 3) := by decide +kernel
theorem dX5_evens_42 : decode cX5_evens 42 = .ok (.iload 5, 2) := by decide +kernel
theorem dX5_evens_44 : decode cX5_evens 44 = .ok (.invokevirtual 175, 3) := by decide +kernel
theorem dX5_evens_47 : decode cX5_evens 47 = .ok (.istore 6, 2) := by decide +kernel
theorem dX5_evens_49 : decode cX5_evens 49 = .ok (.iload 6, 2) := by decide +kernel
theorem dX5_evens_51 : decode cX5_evens 51 = .ok (.aload_n 0, 1) := by decide +kernel
theorem dX5_evens_52 : decode cX5_evens 52 = .ok (.getfield 12, 3) := by decide +kernel
theorem dX5_evens_55 : decode cX5_evens 55 = .ok (.iload 5, 2) := by decide +kernel
theorem dX5_evens_57 : decode cX5_evens 57 = .ok (.invokevirtual 178, 3) := by decide +kernel
theorem dX5_evens_60 : decode cX5_evens 60 = .ok (.if_icmp .gt 84, 3) := by decide +kernel
theorem dX5_evens_63 : decode cX5_evens 63 = .ok (.aload_n 0, 1) := by decide +kernel
theorem dX5_evens_64 : decode cX5_evens 64 = .ok (.getfield 12, 3) := by decide +kernel
theorem dX5_evens_67 : decode cX5_evens 67 = .ok (.iload 6, 2) := by decide +kernel
theorem dX5_evens_69 : decode cX5_evens 69 = .ok (.iload 5, 2) := by decide +kernel
theorem dX5_evens_71 : decode cX5_evens 71 = .ok (.invokevirtual 128, 3) := by decide +kernel
theorem dX5_evens_74 : decode cX5_evens 74 = .ok (.istore 7, 2) := by decide +kernel
theorem dX5_evens_76 : decode cX5_evens 76 = .ok (.aload_n 0, 1) := by decide +kernel
theorem dX5_evens_77 : decode cX5_evens 77 = .ok (.getfield 12, 3) := by decide +kernel
theorem dX5_evens_80 : decode cX5_evens 80 = .ok (.getfield 181, 3) := by decide +kernel
theorem dX5_evens_83 : decode cX5_evens 83 = .ok (.iload_n 1, 1) := by decide +kernel
theorem dX5_evens_84 : decode cX5_evens 84 = .ok (.iaload, 1) := by decide +kernel
theorem dX5_evens_85 : decode cX5_evens 85 = .ok (.aload_n 0, 1) := by decide +kernel
theorem dX5_evens_86 : decode cX5_evens 86 = .ok (.getfield 12, 3) := by decide +kernel
theorem dX5_evens_89 : decode cX5_evens 89 = .ok (.getfield 181, 3) := by decide +kernel
theorem dX5_evens_92 : decode cX5_evens 92 = .ok (.aload_n 0, 1) := by decide +kernel
theorem dX5_evens_93 : decode cX5_evens 93 = .ok (.getfield 12, 3) := by decide +kernel
theorem dX5_evens_96 : decode cX5_evens 96 = .ok (.getfield 132, 3) := by decide +kernel
theorem dX5_evens_99 : decode cX5_evens 99 = .ok (.iload 7, 2) := by decide +kernel
theorem dX5_evens_101 : decode cX5_evens 101 = .ok (.iaload, 1) := by decide +kernel
theorem dX5_evens_102 : decode cX5_evens 102 = .ok (.iaload, 1) := by decide +kernel
theorem dX5_evens_103 : decode cX5_evens 103 = .ok (.isub, 1) := by decide +kernel
theorem dX5_evens_104 : decode cX5_evens 104 = .ok (.istore 8, 2) := by decide +kernel
theorem dX5_evens_106 : decode cX5_evens 106 = .ok (.iload_n 2, 1) := by decide +kernel
theorem dX5_evens_107 : decode cX5_evens 107 = .ok (.aload_n 0, 1) := by decide +kernel
theorem dX5_evens_108 : decode cX5_evens 108 = .ok (.getfield 12, 3) := by decide +kernel
theorem dX5_evens_111 : decode cX5_evens 111 = .ok (.iload 6, 2) := by decide +kernel
theorem dX5_evens_113 : decode cX5_evens 113 = .ok (.invokevirtual 184, 3) := by decide +kernel
theorem dX5_evens_116 : decode cX5_evens 116 = .ok (.iload 8, 2) := by decide +kernel
theorem dX5_evens_118 : decode cX5_evens 118 = .ok (.imul, 1) := by decide +kernel
theorem dX5_evens_119 : decode cX5_evens 119 = .ok (.iadd, 1) := by decide +kernel
theorem dX5_evens_120 : decode cX5_evens 120 = .ok (.invokestatic 170, 3) := by decide +kernel
theorem dX5_evens_123 : decode cX5_evens 123 = .ok (.istore 9, 2) := by decide +kernel
theorem dX5_evens_125 : decode cX5_evens 125 = .ok (.iload 9, 2) := by decide +kernel
theorem dX5_evens_127 : decode cX5_evens 127 = .ok (.iload_n 3, 1) := by decide +kernel
theorem dX5_evens_128 : decode cX5_evens 128 = .ok (.if_icmp .ge 10, 3) := by decide +kernel
theorem dX5_evens_131 : decode cX5_evens 131 = .ok (.iload 9, 2) := by decide +kernel
theorem dX5_evens_133 : decode cX5_evens 133 = .ok (.istore_n 3, 1) := by decide +kernel
theorem dX5_evens_134 : decode cX5_evens 134 = .ok (.iload 7, 2) := by decide +kernel
theorem dX5_evens_136 : decode cX5_evens 136 = .ok (.istore 4, 2) := by decide +kernel
theorem dX5_evens_138 : decode cX5_evens 138 = .ok (.iinc 6 1, 3) := by decide +kernel
theorem dX5_evens_141 : decode cX5_evens 141 = .ok (.goto (-92), 3) := by decide +kernel
theorem dX5_evens_144 : decode cX5_evens 144 = .ok (.iinc 5 1, 3) := by decide +kernel
theorem dX5_evens_147 : decode cX5_evens 147 = .ok (.goto (-121), 3) := by decide +kernel
theorem dX5_evens_150 : decode cX5_evens 150 = .ok (.iload 4, 2) := by decide +kernel
theorem dX5_evens_152 : decode cX5_evens 152 = .ok (.ireturn, 1) := by decide +kernel
theorem dX5_pattern_0 : decode cX5_pattern 0 = .ok (.aload_n 0, 1) := by decide +kernel
theorem dX5_pattern_1 : decode cX5_pattern 1 = .ok (.iload_n 1, 1) := by decide +kernel
theorem dX5_pattern_2 : decode cX5_pattern 2 = .ok (.invokevirtual 187, 3) := by decide +kernel
theorem dX5_pattern_5 : decode cX5_pattern 5 = .ok (.iload_n 2, 1) := by decide +kernel
theorem dX5_pattern_6 : decode cX5_pattern 6 = .ok (.tableswitch 55 0 2 #[26, 36, 46], 26) := by decide +kernel
theorem dX5_pattern_32 : decode cX5_pattern 32 = .ok (.aload_n 0, 1) := by decide +kernel
theorem dX5_pattern_33 : decode cX5_pattern 33 = .ok (.getfield 12, 3) := by decide +kernel
theorem dX5_pattern_36 : decode cX5_pattern 36 = .ok (.getfield 190, 3) := by decide +kernel
theorem dX5_pattern_39 : decode cX5_pattern 39 = .ok (.iload_n 1, 1) := by decide +kernel
theorem dX5_pattern_40 : decode cX5_pattern 40 = .ok (.iaload, 1) := by decide +kernel
theorem dX5_pattern_41 : decode cX5_pattern 41 = .ok (.ireturn, 1) := by decide +kernel
theorem dX5_pattern_42 : decode cX5_pattern 42 = .ok (.aload_n 0, 1) := by decide +kernel
theorem dX5_pattern_43 : decode cX5_pattern 43 = .ok (.getfield 12, 3) := by decide +kernel
theorem dX5_pattern_46 : decode cX5_pattern 46 = .ok (.getfield 193, 3) := by decide +kernel
theorem dX5_pattern_49 : decode cX5_pattern 49 = .ok (.iload_n 1, 1) := by decide +kernel
theorem dX5_pattern_50 : decode cX5_pattern 50 = .ok (.iaload, 1) := by decide +kernel
theorem dX5_pattern_51 : decode cX5_pattern 51 = .ok (.ireturn, 1) := by decide +kernel
theorem dX5_pattern_52 : decode cX5_pattern 52 = .ok (.aload_n 0, 1) := by decide +kernel
theorem dX5_pattern_53 : decode cX5_pattern 53 = .ok (.getfield 12, 3) := by decide +kernel
theorem dX5_pattern_56 : decode cX5_pattern 56 = .ok (.iload_n 1, 1) := by decide +kernel
theorem dX5_pattern_57 : decode cX5_pattern 57 = .ok (.invokevirtual 196, 3) := by decide +kernel
theorem dX5_pattern_60 : decode cX5_pattern 60 = .ok (.ireturn, 1) := by decide +kernel
theorem dX5_pattern_61 : decode cX5_pattern 61 = .ok (.new 117, 3) := by decide +kernel
theorem dX5_pattern_64 : decode cX5_pattern 64 = .ok (.dup, 1) := by decide +kernel
theorem dX5_pattern_65 : decode cX5_pattern 65 = .ok (.ldc 199, 2) := by decide +kernel
theorem dX5_pattern_67 : decode cX5_pattern 67 = .ok (.invokespecial 121, 3) := by decide +kernel
theorem dX5_pattern_70 : decode cX5_pattern 70 = .ok (.athrow, 1) := by decide +kernel
theorem dX5_covered_0 : decode cX5_covered 0 = .ok (.aload_n 0, 1) := by decide +kernel
theorem dX5_covered_1 : decode cX5_covered 1 = .ok (.getfield 12, 3) := by decide +kernel
theorem dX5_covered_4 : decode cX5_covered 4 = .ok (.invokevirtual 76, 3) := by decide +kernel
theorem dX5_covered_7 : decode cX5_covered 7 = .ok (.istore_n 1, 1) := by decide +kernel
theorem dX5_covered_8 : decode cX5_covered 8 = .ok (.iload_n 1, 1) := by decide +kernel
theorem dX5_covered_9 : decode cX5_covered 9 = .ok (.ifCond .gt 5, 3) := by decide +kernel
theorem dX5_covered_12 : decode cX5_covered 12 = .ok (.fconst 0, 1) := by decide +kernel
theorem dX5_covered_13 : decode cX5_covered 13 = .ok (.freturn, 1) := by decide +kernel
theorem dX5_covered_14 : decode cX5_covered 14 = .ok (.iload_n 1, 1) := by decide +kernel
theorem dX5_covered_15 : decode cX5_covered 15 = .ok (.aload_n 0, 1) := by decide +kernel
theorem dX5_covered_16 : decode cX5_covered 16 = .ok (.getfield 12, 3) := by decide +kernel
theorem dX5_covered_19 : decode cX5_covered 19 = .ok (.iconst 0, 1) := by decide +kernel
theorem dX5_covered_20 : decode cX5_covered 20 = .ok (.invokevirtual 92, 3) := by decide +kernel
theorem dX5_covered_23 : decode cX5_covered 23 = .ok (.isub, 1) := by decide +kernel
theorem dX5_covered_24 : decode cX5_covered 24 = .ok (.i2f, 1) := by decide +kernel
theorem dX5_covered_25 : decode cX5_covered 25 = .ok (.iload_n 1, 1) := by decide +kernel
theorem dX5_covered_26 : decode cX5_covered 26 = .ok (.i2f, 1) := by decide +kernel
theorem dX5_covered_27 : decode cX5_covered 27 = .ok (.fdiv, 1) := by decide +kernel
theorem dX5_covered_28 : decode cX5_covered 28 = .ok (.freturn, 1) := by decide +kernel
theorem dX5_pass_0 : decode cX5_pass 0 = .ok (.iload_n 1, 1) := by decide +kernel
theorem dX5_pass_1 : decode cX5_pass 1 = .ok (.iconst 1, 1) := by decide +kernel
theorem dX5_pass_2 : decode cX5_pass 2 = .ok (.bipush 20, 2) := by decide +kernel
theorem dX5_pass_4 : decode cX5_pass 4 = .ok (.invokestatic 58, 3) := by decide +kernel
theorem dX5_pass_7 : decode cX5_pass 7 = .ok (.aload_n 0, 1) := by decide +kernel
theorem dX5_pass_8 : decode cX5_pass 8 = .ok (.getfield 22, 3) := by decide +kernel
theorem dX5_pass_11 : decode cX5_pass 11 = .ok (.aload_n 0, 1) := by decide +kernel
theorem dX5_pass_12 : decode cX5_pass 12 = .ok (.getfield 12, 3) := by decide +kernel
theorem dX5_pass_15 : decode cX5_pass 15 = .ok (.invokevirtual 69, 3) := by decide +kernel
theorem dX5_pass_18 : decode cX5_pass 18 = .ok (.aload_n 0, 1) := by decide +kernel
theorem dX5_pass_19 : decode cX5_pass 19 = .ok (.getfield 29, 3) := by decide +kernel
theorem dX5_pass_22 : decode cX5_pass 22 = .ok (.aload_n 0, 1) := by decide +kernel
theorem dX5_pass_23 : decode cX5_pass 23 = .ok (.getfield 12, 3) := by decide +kernel
theorem dX5_pass_26 : decode cX5_pass 26 = .ok (.iload_n 1, 1) := by decide +kernel
theorem dX5_pass_27 : decode cX5_pass 27 = .ok (.invokevirtual 167, 3) := by decide +kernel
theorem dX5_pass_30 : decode cX5_pass 30 = .ok (.ireturn, 1) := by decide +kernel
theorem dX5_paint_0 : decode cX5_paint 0 = .ok (.aload_n 0, 1) := by decide +kernel
theorem dX5_paint_1 : decode cX5_paint 1 = .ok (.iload_n 1, 1) := by decide +kernel
theorem dX5_paint_2 : decode cX5_paint 2 = .ok (.iload_n 2, 1) := by decide +kernel
theorem dX5_paint_3 : decode cX5_paint 3 = .ok (.invokevirtual 124, 3) := by decide +kernel
theorem dX5_paint_6 : decode cX5_paint 6 = .ok (.iload_n 3, 1) := by decide +kernel
theorem dX5_paint_7 : decode cX5_paint 7 = .ok (.iconst 1, 1) := by decide +kernel
theorem dX5_paint_8 : decode cX5_paint 8 = .ok (.bipush 6, 2) := by decide +kernel
theorem dX5_paint_10 : decode cX5_paint 10 = .ok (.invokestatic 58, 3) := by decide +kernel
theorem dX5_paint_13 : decode cX5_paint 13 = .ok (.iload 4, 2) := by decide +kernel
theorem dX5_paint_15 : decode cX5_paint 15 = .ok (.iconst 1, 1) := by decide +kernel
theorem dX5_paint_16 : decode cX5_paint 16 = .ok (.bipush 9, 2) := by decide +kernel
theorem dX5_paint_18 : decode cX5_paint 18 = .ok (.invokestatic 58, 3) := by decide +kernel
theorem dX5_paint_21 : decode cX5_paint 21 = .ok (.aload_n 0, 1) := by decide +kernel
theorem dX5_paint_22 : decode cX5_paint 22 = .ok (.getfield 22, 3) := by decide +kernel
theorem dX5_paint_25 : decode cX5_paint 25 = .ok (.aload_n 0, 1) := by decide +kernel
theorem dX5_paint_26 : decode cX5_paint 26 = .ok (.getfield 12, 3) := by decide +kernel
theorem dX5_paint_29 : decode cX5_paint 29 = .ok (.invokevirtual 69, 3) := by decide +kernel
theorem dX5_paint_32 : decode cX5_paint 32 = .ok (.aload_n 0, 1) := by decide +kernel
theorem dX5_paint_33 : decode cX5_paint 33 = .ok (.getfield 12, 3) := by decide +kernel
theorem dX5_paint_36 : decode cX5_paint 36 = .ok (.iload_n 1, 1) := by decide +kernel
theorem dX5_paint_37 : decode cX5_paint 37 = .ok (.iload_n 2, 1) := by decide +kernel
theorem dX5_paint_38 : decode cX5_paint 38 = .ok (.iload_n 3, 1) := by decide +kernel
theorem dX5_paint_39 : decode cX5_paint 39 = .ok (.iload 4, 2) := by decide +kernel
theorem dX5_paint_41 : decode cX5_paint 41 = .ok (.iload 5, 2) := by decide +kernel
theorem dX5_paint_43 : decode cX5_paint 43 = .ok (.invokevirtual 201, 3) := by decide +kernel
theorem dX5_paint_46 : decode cX5_paint 46 = .ok (.aload_n 0, 1) := by decide +kernel
theorem dX5_paint_47 : decode cX5_paint 47 = .ok (.getfield 12, 3) := by decide +kernel
theorem dX5_paint_50 : decode cX5_paint 50 = .ok (.invokevirtual 105, 3) := by decide +kernel
theorem dX5_paint_53 : decode cX5_paint 53 = .ok (.ireturn, 1) := by decide +kernel
theorem dX5_stroke_0 : decode cX5_stroke 0 = .ok (.aload_n 0, 1) := by decide +kernel
theorem dX5_stroke_1 : decode cX5_stroke 1 = .ok (.iload_n 1, 1) := by decide +kernel
theorem dX5_stroke_2 : decode cX5_stroke 2 = .ok (.iload_n 2, 1) := by decide +kernel
theorem dX5_stroke_3 : decode cX5_stroke 3 = .ok (.invokevirtual 124, 3) := by decide +kernel
theorem dX5_stroke_6 : decode cX5_stroke 6 = .ok (.iload_n 3, 1) := by decide +kernel
theorem dX5_stroke_7 : decode cX5_stroke 7 = .ok (.iconst 0, 1) := by decide +kernel
theorem dX5_stroke_8 : decode cX5_stroke 8 = .ok (.getstatic 205, 3) := by decide +kernel
theorem dX5_stroke_11 : decode cX5_stroke 11 = .ok (.arraylength, 1) := by decide +kernel
theorem dX5_stroke_12 : decode cX5_stroke 12 = .ok (.iconst 1, 1) := by decide +kernel
theorem dX5_stroke_13 : decode cX5_stroke 13 = .ok (.isub, 1) := by decide +kernel
theorem dX5_stroke_14 : decode cX5_stroke 14 = .ok (.invokestatic 58, 3) := by decide +kernel
theorem dX5_stroke_17 : decode cX5_stroke 17 = .ok (.iload 4, 2) := by decide +kernel
theorem dX5_stroke_19 : decode cX5_stroke 19 = .ok (.iconst 1, 1) := by decide +kernel
theorem dX5_stroke_20 : decode cX5_stroke 20 = .ok (.bipush 15, 2) := by decide +kernel
theorem dX5_stroke_22 : decode cX5_stroke 22 = .ok (.invokestatic 58, 3) := by decide +kernel
theorem dX5_stroke_25 : decode cX5_stroke 25 = .ok (.iload 5, 2) := by decide +kernel
theorem dX5_stroke_27 : decode cX5_stroke 27 = .ok (.iconst 1, 1) := by decide +kernel
theorem dX5_stroke_28 : decode cX5_stroke 28 = .ok (.bipush 6, 2) := by decide +kernel
theorem dX5_stroke_30 : decode cX5_stroke 30 = .ok (.invokestatic 58, 3) := by decide +kernel
theorem dX5_stroke_33 : decode cX5_stroke 33 = .ok (.aload_n 0, 1) := by decide +kernel
theorem dX5_stroke_34 : decode cX5_stroke 34 = .ok (.getfield 22, 3) := by decide +kernel
theorem dX5_stroke_37 : decode cX5_stroke 37 = .ok (.aload_n 0, 1) := by decide +kernel
theorem dX5_stroke_38 : decode cX5_stroke 38 = .ok (.getfield 12, 3) := by decide +kernel
theorem dX5_stroke_41 : decode cX5_stroke 41 = .ok (.invokevirtual 69, 3) := by decide +kernel
theorem dX5_stroke_44 : decode cX5_stroke 44 = .ok (.iconst 0, 1) := by decide +kernel
theorem dX5_stroke_45 : decode cX5_stroke 45 = .ok (.istore 6, 2) := by decide +kernel
theorem dX5_stroke_47 : decode cX5_stroke 47 = .ok (.iload_n 1, 1) := by decide +kernel
theorem dX5_stroke_48 : decode cX5_stroke 48 = .ok (.istore 7, 2) := by decide +kernel
theorem dX5_stroke_50 : decode cX5_stroke 50 = .ok (.iload_n 2, 1) := by decide +kernel
theorem dX5_stroke_51 : decode cX5_stroke 51 = .ok (.istore 8, 2) := by decide +kernel
theorem dX5_stroke_53 : decode cX5_stroke 53 = .ok (.iload 6, 2) := by decide +kernel
theorem dX5_stroke_55 : decode cX5_stroke 55 = .ok (.iload 4, 2) := by decide +kernel
theorem dX5_stroke_57 : decode cX5_stroke 57 = .ok (.if_icmp .ge 81, 3) := by decide +kernel
theorem dX5_stroke_60 : decode cX5_stroke 60 = .ok (.aload_n 0, 1) := by decide +kernel
theorem dX5_stroke_61 : decode cX5_stroke 61 = .ok (.getfield 12, 3) := by decide +kernel
theorem dX5_stroke_64 : decode cX5_stroke 64 = .ok (.iload 7, 2) := by decide +kernel
theorem dX5_stroke_66 : decode cX5_stroke 66 = .ok (.iload 8, 2) := by decide +kernel
theorem dX5_stroke_68 : decode cX5_stroke 68 = .ok (.invokevirtual 208, 3) := by decide +kernel
theorem dX5_stroke_71 : decode cX5_stroke 71 = .ok (.ifCond .eq 67, 3) := by decide +kernel
theorem dX5_stroke_74 : decode cX5_stroke 74 = .ok (.aload_n 0, 1) := by decide +kernel
theorem dX5_stroke_75 : decode cX5_stroke 75 = .ok (.getfield 12, 3) := by decide +kernel
theorem dX5_stroke_78 : decode cX5_stroke 78 = .ok (.getfield 139, 3) := by decide +kernel
theorem dX5_stroke_81 : decode cX5_stroke 81 = .ok (.aload_n 0, 1) := by decide +kernel
theorem dX5_stroke_82 : decode cX5_stroke 82 = .ok (.getfield 12, 3) := by decide +kernel
theorem dX5_stroke_85 : decode cX5_stroke 85 = .ok (.iload 7, 2) := by decide +kernel
theorem dX5_stroke_87 : decode cX5_stroke 87 = .ok (.iload 8, 2) := by decide +kernel
theorem dX5_stroke_89 : decode cX5_stroke 89 = .ok (.invokevirtual 128, 3) := by decide +kernel
theorem dX5_stroke_92 : decode cX5_stroke 92 = .ok (.iaload, 1) := by decide +kernel
theorem dX5_stroke_93 : decode cX5_stroke 93 = .ok (.ifCond .ne 45, 3) := by decide +kernel
theorem dX5_stroke_96 : decode cX5_stroke 96 = .ok (.aload_n 0, 1) := by decide +kernel
theorem dX5_stroke_97 : decode cX5_stroke 97 = .ok (.getfield 12, 3) := by decide +kernel
theorem dX5_stroke_100 : decode cX5_stroke 100 = .ok (.iload 7, 2) := by decide +kernel
theorem dX5_stroke_102 : decode cX5_stroke 102 = .ok (.iload 8, 2) := by decide +kernel
theorem dX5_stroke_104 : decode cX5_stroke 104 = .ok (.iload 5, 2) := by decide +kernel
theorem dX5_stroke_106 : decode cX5_stroke 106 = .ok (.bipush 6, 2) := by decide +kernel
theorem dX5_stroke_108 : decode cX5_stroke 108 = .ok (.iconst 1, 1) := by decide +kernel
theorem dX5_stroke_109 : decode cX5_stroke 109 = .ok (.invokevirtual 201, 3) := by decide +kernel
theorem dX5_stroke_112 : decode cX5_stroke 112 = .ok (.iinc 6 1, 3) := by decide +kernel
theorem dX5_stroke_115 : decode cX5_stroke 115 = .ok (.iload 7, 2) := by decide +kernel
theorem dX5_stroke_117 : decode cX5_stroke 117 = .ok (.getstatic 205, 3) := by decide +kernel
theorem dX5_stroke_120 : decode cX5_stroke 120 = .ok (.iload_n 3, 1) := by decide +kernel
theorem dX5_stroke_121 : decode cX5_stroke 121 = .ok (.iaload, 1) := by decide +kernel
theorem dX5_stroke_122 : decode cX5_stroke 122 = .ok (.iadd, 1) := by decide +kernel
theorem dX5_stroke_123 : decode cX5_stroke 123 = .ok (.istore 7, 2) := by decide +kernel
theorem dX5_stroke_125 : decode cX5_stroke 125 = .ok (.iload 8, 2) := by decide +kernel
theorem dX5_stroke_127 : decode cX5_stroke 127 = .ok (.getstatic 212, 3) := by decide +kernel
theorem dX5_stroke_130 : decode cX5_stroke 130 = .ok (.iload_n 3, 1) := by decide +kernel
theorem dX5_stroke_131 : decode cX5_stroke 131 = .ok (.iaload, 1) := by decide +kernel
theorem dX5_stroke_132 : decode cX5_stroke 132 = .ok (.iadd, 1) := by decide +kernel
theorem dX5_stroke_133 : decode cX5_stroke 133 = .ok (.istore 8, 2) := by decide +kernel
theorem dX5_stroke_135 : decode cX5_stroke 135 = .ok (.goto (-82), 3) := by decide +kernel
theorem dX5_stroke_138 : decode cX5_stroke 138 = .ok (.iload 6, 2) := by decide +kernel
theorem dX5_stroke_140 : decode cX5_stroke 140 = .ok (.ireturn, 1) := by decide +kernel
theorem dX5_stamp_0 : decode cX5_stamp 0 = .ok (.aload_n 0, 1) := by decide +kernel
theorem dX5_stamp_1 : decode cX5_stamp 1 = .ok (.iload_n 1, 1) := by decide +kernel
theorem dX5_stamp_2 : decode cX5_stamp 2 = .ok (.invokevirtual 187, 3) := by decide +kernel
theorem dX5_stamp_5 : decode cX5_stamp 5 = .ok (.aload_n 0, 1) := by decide +kernel
theorem dX5_stamp_6 : decode cX5_stamp 6 = .ok (.iload_n 2, 1) := by decide +kernel
theorem dX5_stamp_7 : decode cX5_stamp 7 = .ok (.iload_n 3, 1) := by decide +kernel
theorem dX5_stamp_8 : decode cX5_stamp 8 = .ok (.invokevirtual 124, 3) := by decide +kernel
theorem dX5_stamp_11 : decode cX5_stamp 11 = .ok (.aload_n 0, 1) := by decide +kernel
theorem dX5_stamp_12 : decode cX5_stamp 12 = .ok (.getfield 22, 3) := by decide +kernel
theorem dX5_stamp_15 : decode cX5_stamp 15 = .ok (.aload_n 0, 1) := by decide +kernel
theorem dX5_stamp_16 : decode cX5_stamp 16 = .ok (.getfield 12, 3) := by decide +kernel
theorem dX5_stamp_19 : decode cX5_stamp 19 = .ok (.invokevirtual 69, 3) := by decide +kernel
theorem dX5_stamp_22 : decode cX5_stamp 22 = .ok (.aload_n 0, 1) := by decide +kernel
theorem dX5_stamp_23 : decode cX5_stamp 23 = .ok (.getfield 16, 3) := by decide +kernel
theorem dX5_stamp_26 : decode cX5_stamp 26 = .ok (.aload_n 0, 1) := by decide +kernel
theorem dX5_stamp_27 : decode cX5_stamp 27 = .ok (.getfield 12, 3) := by decide +kernel
theorem dX5_stamp_30 : decode cX5_stamp 30 = .ok (.invokevirtual 73, 3) := by decide +kernel
theorem dX5_stamp_33 : decode cX5_stamp 33 = .ok (.iconst 0, 1) := by decide +kernel
theorem dX5_stamp_34 : decode cX5_stamp 34 = .ok (.istore 5, 2) := by decide +kernel
theorem dX5_stamp_36 : decode cX5_stamp 36 = .ok (.iload 5, 2) := by decide +kernel
theorem dX5_stamp_38 : decode cX5_stamp 38 = .ok (.aload_n 0, 1) := by decide +kernel
theorem dX5_stamp_39 : decode cX5_stamp 39 = .ok (.getfield 12, 3) := by decide +kernel
theorem dX5_stamp_42 : decode cX5_stamp 42 = .ok (.getfield 193, 3) := by decide +kernel
theorem dX5_stamp_45 : decode cX5_stamp 45 = .ok (.iload_n 1, 1) := by decide +kernel
theorem dX5_stamp_46 : decode cX5_stamp 46 = .ok (.iaload, 1) := by decide +kernel
theorem dX5_stamp_47 : decode cX5_stamp 47 = .ok (.if_icmp .ge 71, 3) := by decide +kernel
theorem dX5_stamp_50 : decode cX5_stamp 50 = .ok (.iconst 0, 1) := by decide +kernel
theorem dX5_stamp_51 : decode cX5_stamp 51 = .ok (.istore 6, 2) := by decide +kernel
theorem dX5_stamp_53 : decode cX5_stamp 53 = .ok (.iload 6, 2) := by decide +kernel
theorem dX5_stamp_55 : decode cX5_stamp 55 = .ok (.aload_n 0, 1) := by decide +kernel
theorem dX5_stamp_56 : decode cX5_stamp 56 = .ok (.getfield 12, 3) := by decide +kernel
theorem dX5_stamp_59 : decode cX5_stamp 59 = .ok (.getfield 190, 3) := by decide +kernel
theorem dX5_stamp_62 : decode cX5_stamp 62 = .ok (.iload_n 1, 1) := by decide +kernel
theorem dX5_stamp_63 : decode cX5_stamp 63 = .ok (.iaload, 1) := by decide +kernel
theorem dX5_stamp_64 : decode cX5_stamp 64 = .ok (.if_icmp .ge 48, 3) := by decide +kernel
theorem dX5_stamp_67 : decode cX5_stamp 67 = .ok (.aload_n 0, 1) := by decide +kernel
theorem dX5_stamp_68 : decode cX5_stamp 68 = .ok (.getfield 12, 3) := by decide +kernel
theorem dX5_stamp_71 : decode cX5_stamp 71 = .ok (.iload_n 1, 1) := by decide +kernel
theorem dX5_stamp_72 : decode cX5_stamp 72 = .ok (.iload 5, 2) := by decide +kernel
theorem dX5_stamp_74 : decode cX5_stamp 74 = .ok (.iload 6, 2) := by decide +kernel
theorem dX5_stamp_76 : decode cX5_stamp 76 = .ok (.invokevirtual 215, 3) := by decide +kernel
theorem dX5_stamp_79 : decode cX5_stamp 79 = .ok (.istore 7, 2) := by decide +kernel
theorem dX5_stamp_81 : decode cX5_stamp 81 = .ok (.iload 7, 2) := by decide +kernel
theorem dX5_stamp_83 : decode cX5_stamp 83 = .ok (.ifCond .eq 23, 3) := by decide +kernel
theorem dX5_stamp_86 : decode cX5_stamp 86 = .ok (.aload_n 0, 1) := by decide +kernel
theorem dX5_stamp_87 : decode cX5_stamp 87 = .ok (.getfield 12, 3) := by decide +kernel
theorem dX5_stamp_90 : decode cX5_stamp 90 = .ok (.iload_n 2, 1) := by decide +kernel
theorem dX5_stamp_91 : decode cX5_stamp 91 = .ok (.iload 6, 2) := by decide +kernel
theorem dX5_stamp_93 : decode cX5_stamp 93 = .ok (.iadd, 1) := by decide +kernel
theorem dX5_stamp_94 : decode cX5_stamp 94 = .ok (.iload_n 3, 1) := by decide +kernel
theorem dX5_stamp_95 : decode cX5_stamp 95 = .ok (.iload 5, 2) := by decide +kernel
theorem dX5_stamp_97 : decode cX5_stamp 97 = .ok (.iadd, 1) := by decide +kernel
theorem dX5_stamp_98 : decode cX5_stamp 98 = .ok (.iload 7, 2) := by decide +kernel
theorem dX5_stamp_100 : decode cX5_stamp 100 = .ok (.iconst 4, 1) := by decide +kernel
theorem dX5_stamp_101 : decode cX5_stamp 101 = .ok (.iload 4, 2) := by decide +kernel
theorem dX5_stamp_103 : decode cX5_stamp 103 = .ok (.invokevirtual 201, 3) := by decide +kernel
theorem dX5_stamp_106 : decode cX5_stamp 106 = .ok (.iinc 6 1, 3) := by decide +kernel
theorem dX5_stamp_109 : decode cX5_stamp 109 = .ok (.goto (-56), 3) := by decide +kernel
theorem dX5_stamp_112 : decode cX5_stamp 112 = .ok (.iinc 5 1, 3) := by decide +kernel
theorem dX5_stamp_115 : decode cX5_stamp 115 = .ok (.goto (-79), 3) := by decide +kernel
theorem dX5_stamp_118 : decode cX5_stamp 118 = .ok (.aload_n 0, 1) := by decide +kernel
theorem dX5_stamp_119 : decode cX5_stamp 119 = .ok (.getfield 12, 3) := by decide +kernel
theorem dX5_stamp_122 : decode cX5_stamp 122 = .ok (.aload_n 0, 1) := by decide +kernel
theorem dX5_stamp_123 : decode cX5_stamp 123 = .ok (.getfield 16, 3) := by decide +kernel
theorem dX5_stamp_126 : decode cX5_stamp 126 = .ok (.invokevirtual 219, 3) := by decide +kernel
theorem dX5_stamp_129 : decode cX5_stamp 129 = .ok (.ireturn, 1) := by decide +kernel
theorem dX5_spar_0 : decode cX5_spar 0 = .ok (.aload_n 0, 1) := by decide +kernel
theorem dX5_spar_1 : decode cX5_spar 1 = .ok (.iload_n 1, 1) := by decide +kernel
theorem dX5_spar_2 : decode cX5_spar 2 = .ok (.iload_n 2, 1) := by decide +kernel
theorem dX5_spar_3 : decode cX5_spar 3 = .ok (.invokevirtual 124, 3) := by decide +kernel
theorem dX5_spar_6 : decode cX5_spar 6 = .ok (.iload 4, 2) := by decide +kernel
theorem dX5_spar_8 : decode cX5_spar 8 = .ok (.iconst 1, 1) := by decide +kernel
theorem dX5_spar_9 : decode cX5_spar 9 = .ok (.bipush 15, 2) := by decide +kernel
theorem dX5_spar_11 : decode cX5_spar 11 = .ok (.invokestatic 58, 3) := by decide +kernel
theorem dX5_spar_14 : decode cX5_spar 14 = .ok (.aload_n 0, 1) := by decide +kernel
theorem dX5_spar_15 : decode cX5_spar 15 = .ok (.getfield 22, 3) := by decide +kernel
theorem dX5_spar_18 : decode cX5_spar 18 = .ok (.aload_n 0, 1) := by decide +kernel
theorem dX5_spar_19 : decode cX5_spar 19 = .ok (.getfield 12, 3) := by decide +kernel
theorem dX5_spar_22 : decode cX5_spar 22 = .ok (.invokevirtual 69, 3) := by decide +kernel
theorem dX5_spar_25 : decode cX5_spar 25 = .ok (.aload_n 0, 1) := by decide +kernel
theorem dX5_spar_26 : decode cX5_spar 26 = .ok (.getfield 12, 3) := by decide +kernel
theorem dX5_spar_29 : decode cX5_spar 29 = .ok (.invokevirtual 89, 3) := by decide +kernel
theorem dX5_spar_32 : decode cX5_spar 32 = .ok (.istore 5, 2) := by decide +kernel
theorem dX5_spar_34 : decode cX5_spar 34 = .ok (.iload_n 1, 1) := by decide +kernel
theorem dX5_spar_35 : decode cX5_spar 35 = .ok (.istore 6, 2) := by decide +kernel
theorem dX5_spar_37 : decode cX5_spar 37 = .ok (.iload_n 2, 1) := by decide +kernel
theorem dX5_spar_38 : decode cX5_spar 38 = .ok (.istore 7, 2) := by decide +kernel
theorem dX5_spar_40 : decode cX5_spar 40 = .ok (.iconst 0, 1) := by decide +kernel
theorem dX5_spar_41 : decode cX5_spar 41 = .ok (.istore 8, 2) := by decide +kernel
theorem dX5_spar_43 : decode cX5_spar 43 = .ok (.iload 8, 2) := by decide +kernel
theorem dX5_spar_45 : decode cX5_spar 45 = .ok (.iload 4, 2) := by decide +kernel
theorem dX5_spar_47 : decode cX5_spar 47 = .ok (.if_icmp .ge 71, 3) := by decide +kernel
theorem dX5_spar_50 : decode cX5_spar 50 = .ok (.aload_n 0, 1) := by decide +kernel
theorem dX5_spar_51 : decode cX5_spar 51 = .ok (.getfield 12, 3) := by decide +kernel
theorem dX5_spar_54 : decode cX5_spar 54 = .ok (.iload 6, 2) := by decide +kernel
theorem dX5_spar_56 : decode cX5_spar 56 = .ok (.iload 7, 2) := by decide +kernel
theorem dX5_spar_58 : decode cX5_spar 58 = .ok (.invokevirtual 208, 3) := by decide +kernel
theorem dX5_spar_61 : decode cX5_spar 61 = .ok (.ifCond .eq 57, 3) := by decide +kernel
theorem dX5_spar_64 : decode cX5_spar 64 = .ok (.aload_n 0, 1) := by decide +kernel
theorem dX5_spar_65 : decode cX5_spar 65 = .ok (.getfield 12, 3) := by decide +kernel
theorem dX5_spar_68 : decode cX5_spar 68 = .ok (.getfield 139, 3) := by decide +kernel
theorem dX5_spar_71 : decode cX5_spar 71 = .ok (.aload_n 0, 1) := by decide +kernel
theorem dX5_spar_72 : decode cX5_spar 72 = .ok (.getfield 12, 3) := by decide +kernel
theorem dX5_spar_75 : decode cX5_spar 75 = .ok (.iload 6, 2) := by decide +kernel
theorem dX5_spar_77 : decode cX5_spar 77 = .ok (.iload 7, 2) := by decide +kernel
theorem dX5_spar_79 : decode cX5_spar 79 = .ok (.invokevirtual 128, 3) := by decide +kernel
theorem dX5_spar_82 : decode cX5_spar 82 = .ok (.iconst 1, 1) := by decide +kernel
theorem dX5_spar_83 : decode cX5_spar 83 = .ok (.iastore, 1) := by decide +kernel
theorem dX5_spar_84 : decode cX5_spar 84 = .ok (.iload 6, 2) := by decide +kernel
theorem dX5_spar_86 : decode cX5_spar 86 = .ok (.iload_n 3, 1) := by decide +kernel
theorem dX5_spar_87 : decode cX5_spar 87 = .ok (.ifCond .eq 7, 3) := by decide +kernel
theorem dX5_spar_90 : decode cX5_spar 90 = .ok (.iconst 0, 1) := by decide +kernel
theorem dX5_spar_91 : decode cX5_spar 91 = .ok (.goto 4, 3) := by decide +kernel
theorem dX5_spar_94 : decode cX5_spar 94 = .ok (.iconst 1, 1) := by decide +kernel
theorem dX5_spar_95 : decode cX5_spar 95 = .ok (.iadd, 1) := by decide +kernel
theorem dX5_spar_96 : decode cX5_spar 96 = .ok (.istore 6, 2) := by decide +kernel
theorem dX5_spar_98 : decode cX5_spar 98 = .ok (.iload 7, 2) := by decide +kernel
theorem dX5_spar_100 : decode cX5_spar 100 = .ok (.iload_n 3, 1) := by decide +kernel
theorem dX5_spar_101 : decode cX5_spar 101 = .ok (.ifCond .eq 7, 3) := by decide +kernel
theorem dX5_spar_104 : decode cX5_spar 104 = .ok (.iconst 1, 1) := by decide +kernel
theorem dX5_spar_105 : decode cX5_spar 105 = .ok (.goto 4, 3) := by decide +kernel
theorem dX5_spar_108 : decode cX5_spar 108 = .ok (.iconst 0, 1) := by decide +kernel
theorem dX5_spar_109 : decode cX5_spar 109 = .ok (.iadd, 1) := by decide +kernel
theorem dX5_spar_110 : decode cX5_spar 110 = .ok (.istore 7, 2) := by decide +kernel
theorem dX5_spar_112 : decode cX5_spar 112 = .ok (.iinc 8 1, 3) := by decide +kernel
theorem dX5_spar_115 : decode cX5_spar 115 = .ok (.goto (-72), 3) := by decide +kernel
theorem dX5_spar_118 : decode cX5_spar 118 = .ok (.aload_n 0, 1) := by decide +kernel
theorem dX5_spar_119 : decode cX5_spar 119 = .ok (.getfield 12, 3) := by decide +kernel
theorem dX5_spar_122 : decode cX5_spar 122 = .ok (.invokevirtual 89, 3) := by decide +kernel
theorem dX5_spar_125 : decode cX5_spar 125 = .ok (.iload 5, 2) := by decide +kernel
theorem dX5_spar_127 : decode cX5_spar 127 = .ok (.isub, 1) := by decide +kernel
theorem dX5_spar_128 : decode cX5_spar 128 = .ok (.ireturn, 1) := by decide +kernel
theorem dX5_strip_0 : decode cX5_strip 0 = .ok (.aload_n 0, 1) := by decide +kernel
theorem dX5_strip_1 : decode cX5_strip 1 = .ok (.iload_n 1, 1) := by decide +kernel
theorem dX5_strip_2 : decode cX5_strip 2 = .ok (.iload_n 2, 1) := by decide +kernel
theorem dX5_strip_3 : decode cX5_strip 3 = .ok (.invokevirtual 124, 3) := by decide +kernel
theorem dX5_strip_6 : decode cX5_strip 6 = .ok (.aload_n 0, 1) := by decide +kernel
theorem dX5_strip_7 : decode cX5_strip 7 = .ok (.getfield 12, 3) := by decide +kernel
theorem dX5_strip_10 : decode cX5_strip 10 = .ok (.iload_n 1, 1) := by decide +kernel
theorem dX5_strip_11 : decode cX5_strip 11 = .ok (.iload_n 2, 1) := by decide +kernel
theorem dX5_strip_12 : decode cX5_strip 12 = .ok (.invokevirtual 128, 3) := by decide +kernel
theorem dX5_strip_15 : decode cX5_strip 15 = .ok (.istore_n 3, 1) := by decide +kernel
theorem dX5_strip_16 : decode cX5_strip 16 = .ok (.aload_n 0, 1) := by decide +kernel
theorem dX5_strip_17 : decode cX5_strip 17 = .ok (.getfield 12, 3) := by decide +kernel
theorem dX5_strip_20 : decode cX5_strip 20 = .ok (.getfield 139, 3) := by decide +kernel
theorem dX5_strip_23 : decode cX5_strip 23 = .ok (.iload_n 3, 1) := by decide +kernel
theorem dX5_strip_24 : decode cX5_strip 24 = .ok (.iaload, 1) := by decide +kernel
theorem dX5_strip_25 : decode cX5_strip 25 = .ok (.ifCond .ne 13, 3) := by decide +kernel
theorem dX5_strip_28 : decode cX5_strip 28 = .ok (.new 223, 3) := by decide +kernel
theorem dX5_strip_31 : decode cX5_strip 31 = .ok (.dup, 1) := by decide +kernel
theorem dX5_strip_32 : decode cX5_strip 32 = .ok (.ldc 225, 2) := by decide +kernel
theorem dX5_strip_34 : decode cX5_strip 34 = .ok (.invokespecial 227, 3) := by decide +kernel
theorem dX5_strip_37 : decode cX5_strip 37 = .ok (.athrow, 1) := by decide +kernel
theorem dX5_strip_38 : decode cX5_strip 38 = .ok (.aload_n 0, 1) := by decide +kernel
theorem dX5_strip_39 : decode cX5_strip 39 = .ok (.getfield 22, 3) := by decide +kernel
theorem dX5_strip_42 : decode cX5_strip 42 = .ok (.aload_n 0, 1) := by decide +kernel
theorem dX5_strip_43 : decode cX5_strip 43 = .ok (.getfield 12, 3) := by decide +kernel
theorem dX5_strip_46 : decode cX5_strip 46 = .ok (.invokevirtual 69, 3) := by decide +kernel
theorem dX5_strip_49 : decode cX5_strip 49 = .ok (.aload_n 0, 1) := by decide +kernel
theorem dX5_strip_50 : decode cX5_strip 50 = .ok (.getfield 12, 3) := by decide +kernel
theorem dX5_strip_53 : decode cX5_strip 53 = .ok (.getfield 139, 3) := by decide +kernel
theorem dX5_strip_56 : decode cX5_strip 56 = .ok (.iload_n 3, 1) := by decide +kernel
theorem dX5_strip_57 : decode cX5_strip 57 = .ok (.iconst 0, 1) := by decide +kernel
theorem dX5_strip_58 : decode cX5_strip 58 = .ok (.iastore, 1) := by decide +kernel
theorem dX5_strip_59 : decode cX5_strip 59 = .ok (.aload_n 0, 1) := by decide +kernel
theorem dX5_strip_60 : decode cX5_strip 60 = .ok (.getfield 12, 3) := by decide +kernel
theorem dX5_strip_63 : decode cX5_strip 63 = .ok (.invokevirtual 105, 3) := by decide +kernel
theorem dX5_strip_66 : decode cX5_strip 66 = .ok (.ireturn, 1) := by decide +kernel
theorem dX5_wash_0 : decode cX5_wash 0 = .ok (.aload_n 0, 1) := by decide +kernel
theorem dX5_wash_1 : decode cX5_wash 1 = .ok (.iload_n 1, 1) := by decide +kernel
theorem dX5_wash_2 : decode cX5_wash 2 = .ok (.iload_n 2, 1) := by decide +kernel
theorem dX5_wash_3 : decode cX5_wash 3 = .ok (.invokevirtual 124, 3) := by decide +kernel
theorem dX5_wash_6 : decode cX5_wash 6 = .ok (.aload_n 0, 1) := by decide +kernel
theorem dX5_wash_7 : decode cX5_wash 7 = .ok (.getfield 12, 3) := by decide +kernel
theorem dX5_wash_10 : decode cX5_wash 10 = .ok (.getfield 132, 3) := by decide +kernel
theorem dX5_wash_13 : decode cX5_wash 13 = .ok (.aload_n 0, 1) := by decide +kernel
theorem dX5_wash_14 : decode cX5_wash 14 = .ok (.getfield 12, 3) := by decide +kernel
theorem dX5_wash_17 : decode cX5_wash 17 = .ok (.iload_n 1, 1) := by decide +kernel
theorem dX5_wash_18 : decode cX5_wash 18 = .ok (.iload_n 2, 1) := by decide +kernel
theorem dX5_wash_19 : decode cX5_wash 19 = .ok (.invokevirtual 128, 3) := by decide +kernel
theorem dX5_wash_22 : decode cX5_wash 22 = .ok (.iaload, 1) := by decide +kernel
theorem dX5_wash_23 : decode cX5_wash 23 = .ok (.ifCond .ne 13, 3) := by decide +kernel
theorem dX5_wash_26 : decode cX5_wash 26 = .ok (.new 223, 3) := by decide +kernel
theorem dX5_wash_29 : decode cX5_wash 29 = .ok (.dup, 1) := by decide +kernel
theorem dX5_wash_30 : decode cX5_wash 30 = .ok (.ldc 228, 2) := by decide +kernel
theorem dX5_wash_32 : decode cX5_wash 32 = .ok (.invokespecial 227, 3) := by decide +kernel
theorem dX5_wash_35 : decode cX5_wash 35 = .ok (.athrow, 1) := by decide +kernel
theorem dX5_wash_36 : decode cX5_wash 36 = .ok (.aload_n 0, 1) := by decide +kernel
theorem dX5_wash_37 : decode cX5_wash 37 = .ok (.getfield 22, 3) := by decide +kernel
theorem dX5_wash_40 : decode cX5_wash 40 = .ok (.aload_n 0, 1) := by decide +kernel
theorem dX5_wash_41 : decode cX5_wash 41 = .ok (.getfield 12, 3) := by decide +kernel
theorem dX5_wash_44 : decode cX5_wash 44 = .ok (.invokevirtual 69, 3) := by decide +kernel
theorem dX5_wash_47 : decode cX5_wash 47 = .ok (.aload_n 0, 1) := by decide +kernel
theorem dX5_wash_48 : decode cX5_wash 48 = .ok (.getfield 36, 3) := by decide +kernel
theorem dX5_wash_51 : decode cX5_wash 51 = .ok (.aload_n 0, 1) := by decide +kernel
theorem dX5_wash_52 : decode cX5_wash 52 = .ok (.getfield 12, 3) := by decide +kernel
theorem dX5_wash_55 : decode cX5_wash 55 = .ok (.iload_n 1, 1) := by decide +kernel
theorem dX5_wash_56 : decode cX5_wash 56 = .ok (.iload_n 2, 1) := by decide +kernel
theorem dX5_wash_57 : decode cX5_wash 57 = .ok (.invokevirtual 156, 3) := by decide +kernel
theorem dX5_wash_60 : decode cX5_wash 60 = .ok (.istore_n 3, 1) := by decide +kernel
theorem dX5_wash_61 : decode cX5_wash 61 = .ok (.aload_n 0, 1) := by decide +kernel
theorem dX5_wash_62 : decode cX5_wash 62 = .ok (.getfield 36, 3) := by decide +kernel
theorem dX5_wash_65 : decode cX5_wash 65 = .ok (.aload_n 0, 1) := by decide +kernel
theorem dX5_wash_66 : decode cX5_wash 66 = .ok (.getfield 12, 3) := by decide +kernel
theorem dX5_wash_69 : decode cX5_wash 69 = .ok (.invokevirtual 230, 3) := by decide +kernel
theorem dX5_wash_72 : decode cX5_wash 72 = .ok (.iload_n 3, 1) := by decide +kernel
theorem dX5_wash_73 : decode cX5_wash 73 = .ok (.ireturn, 1) := by decide +kernel
theorem dX5_undo_0 : decode cX5_undo 0 = .ok (.aload_n 0, 1) := by decide +kernel
theorem dX5_undo_1 : decode cX5_undo 1 = .ok (.getfield 22, 3) := by decide +kernel
theorem dX5_undo_4 : decode cX5_undo 4 = .ok (.getfield 233, 3) := by decide +kernel
theorem dX5_undo_7 : decode cX5_undo 7 = .ok (.ifCond .ne 5, 3) := by decide +kernel
theorem dX5_undo_10 : decode cX5_undo 10 = .ok (.iconst (-1), 1) := by decide +kernel
theorem dX5_undo_11 : decode cX5_undo 11 = .ok (.ireturn, 1) := by decide +kernel
theorem dX5_undo_12 : decode cX5_undo 12 = .ok (.aload_n 0, 1) := by decide +kernel
theorem dX5_undo_13 : decode cX5_undo 13 = .ok (.getfield 22, 3) := by decide +kernel
theorem dX5_undo_16 : decode cX5_undo 16 = .ok (.aload_n 0, 1) := by decide +kernel
theorem dX5_undo_17 : decode cX5_undo 17 = .ok (.getfield 12, 3) := by decide +kernel
theorem dX5_undo_20 : decode cX5_undo 20 = .ok (.invokevirtual 236, 3) := by decide +kernel
theorem dX5_undo_23 : decode cX5_undo 23 = .ok (.aload_n 0, 1) := by decide +kernel
theorem dX5_undo_24 : decode cX5_undo 24 = .ok (.getfield 22, 3) := by decide +kernel
theorem dX5_undo_27 : decode cX5_undo 27 = .ok (.getfield 233, 3) := by decide +kernel
theorem dX5_undo_30 : decode cX5_undo 30 = .ok (.ireturn, 1) := by decide +kernel
theorem dX5_checksum_0 : decode cX5_checksum 0 = .ok (.lconst 0, 1) := by decide +kernel
theorem dX5_checksum_1 : decode cX5_checksum 1 = .ok (.lstore_n 1, 1) := by decide +kernel
theorem dX5_checksum_2 : decode cX5_checksum 2 = .ok (.iconst 0, 1) := by decide +kernel
theorem dX5_checksum_3 : decode cX5_checksum 3 = .ok (.istore_n 3, 1) := by decide +kernel
theorem dX5_checksum_4 : decode cX5_checksum 4 = .ok (.iload_n 3, 1) := by decide +kernel
theorem dX5_checksum_5 : decode cX5_checksum 5 = .ok (.bipush 12, 2) := by decide +kernel
theorem dX5_checksum_7 : decode cX5_checksum 7 = .ok (.if_icmp .gt 22, 3) := by decide +kernel
theorem dX5_checksum_10 : decode cX5_checksum 10 = .ok (.ldc2_w 239, 3) := by decide +kernel
theorem dX5_checksum_13 : decode cX5_checksum 13 = .ok (.lload_n 1, 1) := by decide +kernel
theorem dX5_checksum_14 : decode cX5_checksum 14 = .ok (.lmul, 1) := by decide +kernel
theorem dX5_checksum_15 : decode cX5_checksum 15 = .ok (.aload_n 0, 1) := by decide +kernel
theorem dX5_checksum_16 : decode cX5_checksum 16 = .ok (.iload_n 3, 1) := by decide +kernel
theorem dX5_checksum_17 : decode cX5_checksum 17 = .ok (.invokevirtual 241, 3) := by decide +kernel
theorem dX5_checksum_20 : decode cX5_checksum 20 = .ok (.i2l, 1) := by decide +kernel
theorem dX5_checksum_21 : decode cX5_checksum 21 = .ok (.ladd, 1) := by decide +kernel
theorem dX5_checksum_22 : decode cX5_checksum 22 = .ok (.lstore_n 1, 1) := by decide +kernel
theorem dX5_checksum_23 : decode cX5_checksum 23 = .ok (.iinc 3 1, 3) := by decide +kernel
theorem dX5_checksum_26 : decode cX5_checksum 26 = .ok (.goto (-22), 3) := by decide +kernel
theorem dX5_checksum_29 : decode cX5_checksum 29 = .ok (.iconst 0, 1) := by decide +kernel
theorem dX5_checksum_30 : decode cX5_checksum 30 = .ok (.istore_n 3, 1) := by decide +kernel
theorem dX5_checksum_31 : decode cX5_checksum 31 = .ok (.iload_n 3, 1) := by decide +kernel
theorem dX5_checksum_32 : decode cX5_checksum 32 = .ok (.aload_n 0, 1) := by decide +kernel
theorem dX5_checksum_33 : decode cX5_checksum 33 = .ok (.getfield 12, 3) := by decide +kernel
theorem dX5_checksum_36 : decode cX5_checksum 36 = .ok (.getfield 83, 3) := by decide +kernel
theorem dX5_checksum_39 : decode cX5_checksum 39 = .ok (.if_icmp .ge 70, 3) := by decide +kernel
theorem dX5_checksum_42 : decode cX5_checksum 42 = .ok (.aload_n 0, 1) := by decide +kernel
theorem dX5_checksum_43 : decode cX5_checksum 43 = .ok (.getfield 12, 3) := by decide +kernel
theorem dX5_checksum_46 : decode cX5_checksum 46 = .ok (.iload_n 3, 1) := by decide +kernel
theorem dX5_checksum_47 : decode cX5_checksum 47 = .ok (.invokevirtual 175, 3) := by decide +kernel
theorem dX5_checksum_50 : decode cX5_checksum 50 = .ok (.istore 4, 2) := by decide +kernel
theorem dX5_checksum_52 : decode cX5_checksum 52 = .ok (.iload 4, 2) := by decide +kernel
theorem dX5_checksum_54 : decode cX5_checksum 54 = .ok (.aload_n 0, 1) := by decide +kernel
theorem dX5_checksum_55 : decode cX5_checksum 55 = .ok (.getfield 12, 3) := by decide +kernel
theorem dX5_checksum_58 : decode cX5_checksum 58 = .ok (.iload_n 3, 1) := by decide +kernel
theorem dX5_checksum_59 : decode cX5_checksum 59 = .ok (.invokevirtual 178, 3) := by decide +kernel
theorem dX5_checksum_62 : decode cX5_checksum 62 = .ok (.if_icmp .gt 41, 3) := by decide +kernel
theorem dX5_checksum_65 : decode cX5_checksum 65 = .ok (.iconst 0, 1) := by decide +kernel
theorem dX5_checksum_66 : decode cX5_checksum 66 = .ok (.istore 5, 2) := by decide +kernel
theorem dX5_checksum_68 : decode cX5_checksum 68 = .ok (.iload 5, 2) := by decide +kernel
theorem dX5_checksum_70 : decode cX5_checksum 70 = .ok (.iconst 3, 1) := by decide +kernel
theorem dX5_checksum_71 : decode cX5_checksum 71 = .ok (.if_icmp .gt 26, 3) := by decide +kernel
theorem dX5_checksum_74 : decode cX5_checksum 74 = .ok (.ldc2_w 239, 3) := by decide +kernel
theorem dX5_checksum_77 : decode cX5_checksum 77 = .ok (.lload_n 1, 1) := by decide +kernel
theorem dX5_checksum_78 : decode cX5_checksum 78 = .ok (.lmul, 1) := by decide +kernel
theorem dX5_checksum_79 : decode cX5_checksum 79 = .ok (.aload_n 0, 1) := by decide +kernel
theorem dX5_checksum_80 : decode cX5_checksum 80 = .ok (.iload 4, 2) := by decide +kernel
theorem dX5_checksum_82 : decode cX5_checksum 82 = .ok (.iload_n 3, 1) := by decide +kernel
theorem dX5_checksum_83 : decode cX5_checksum 83 = .ok (.iload 5, 2) := by decide +kernel
theorem dX5_checksum_85 : decode cX5_checksum 85 = .ok (.invokevirtual 244, 3) := by decide +kernel
theorem dX5_checksum_88 : decode cX5_checksum 88 = .ok (.i2l, 1) := by decide +kernel
theorem dX5_checksum_89 : decode cX5_checksum 89 = .ok (.ladd, 1) := by decide +kernel
theorem dX5_checksum_90 : decode cX5_checksum 90 = .ok (.lstore_n 1, 1) := by decide +kernel
theorem dX5_checksum_91 : decode cX5_checksum 91 = .ok (.iinc 5 1, 3) := by decide +kernel
theorem dX5_checksum_94 : decode cX5_checksum 94 = .ok (.goto (-26), 3) := by decide +kernel
theorem dX5_checksum_97 : decode cX5_checksum 97 = .ok (.iinc 4 1, 3) := by decide +kernel
theorem dX5_checksum_100 : decode cX5_checksum 100 = .ok (.goto (-48), 3) := by decide +kernel
theorem dX5_checksum_103 : decode cX5_checksum 103 = .ok (.iinc 3 1, 3) := by decide +kernel
theorem dX5_checksum_106 : decode cX5_checksum 106 = .ok (.goto (-75), 3) := by decide +kernel
theorem dX5_checksum_109 : decode cX5_checksum 109 = .ok (.lload_n 1, 1) := by decide +kernel
theorem dX5_checksum_110 : decode cX5_checksum 110 = .ok (.lreturn, 1) := by decide +kernel
theorem dX5_requireCell_0 : decode cX5_requireCell 0 = .ok (.aload_n 0, 1) := by decide +kernel
theorem dX5_requireCell_1 : decode cX5_requireCell 1 = .ok (.getfield 12, 3) := by decide +kernel
theorem dX5_requireCell_4 : decode cX5_requireCell 4 = .ok (.iload_n 1, 1) := by decide +kernel
theorem dX5_requireCell_5 : decode cX5_requireCell 5 = .ok (.iload_n 2, 1) := by decide +kernel
theorem dX5_requireCell_6 : decode cX5_requireCell 6 = .ok (.invokevirtual 208, 3) := by decide +kernel
theorem dX5_requireCell_9 : decode cX5_requireCell 9 = .ok (.ifCond .ne 13, 3) := by decide +kernel
theorem dX5_requireCell_12 : decode cX5_requireCell 12 = .ok (.new 247, 3) := by decide +kernel
theorem dX5_requireCell_15 : decode cX5_requireCell 15 = .ok (.dup, 1) := by decide +kernel
theorem dX5_requireCell_16 : decode cX5_requireCell 16 = .ok (.ldc 249, 2) := by decide +kernel
theorem dX5_requireCell_18 : decode cX5_requireCell 18 = .ok (.invokespecial 251, 3) := by decide +kernel
theorem dX5_requireCell_21 : decode cX5_requireCell 21 = .ok (.athrow, 1) := by decide +kernel
theorem dX5_requireCell_22 : decode cX5_requireCell 22 = .ok (.return_, 1) := by decide +kernel
theorem dX5_requirePattern_0 : decode cX5_requirePattern 0 = .ok (.iload_n 1, 1) := by decide +kernel
theorem dX5_requirePattern_1 : decode cX5_requirePattern 1 = .ok (.ifCond .lt 14, 3) := by decide +kernel
theorem dX5_requirePattern_4 : decode cX5_requirePattern 4 = .ok (.iload_n 1, 1) := by decide +kernel
theorem dX5_requirePattern_5 : decode cX5_requirePattern 5 = .ok (.aload_n 0, 1) := by decide +kernel
theorem dX5_requirePattern_6 : decode cX5_requirePattern 6 = .ok (.getfield 12, 3) := by decide +kernel
theorem dX5_requirePattern_9 : decode cX5_requirePattern 9 = .ok (.getfield 111, 3) := by decide +kernel
theorem dX5_requirePattern_12 : decode cX5_requirePattern 12 = .ok (.if_icmp .lt 13, 3) := by decide +kernel
theorem dX5_requirePattern_15 : decode cX5_requirePattern 15 = .ok (.new 247, 3) := by decide +kernel
theorem dX5_requirePattern_18 : decode cX5_requirePattern 18 = .ok (.dup, 1) := by decide +kernel
theorem dX5_requirePattern_19 : decode cX5_requirePattern 19 = .ok (.ldc 252, 2) := by decide +kernel
theorem dX5_requirePattern_21 : decode cX5_requirePattern 21 = .ok (.invokespecial 251, 3) := by decide +kernel
theorem dX5_requirePattern_24 : decode cX5_requirePattern 24 = .ok (.athrow, 1) := by decide +kernel
theorem dX5_requirePattern_25 : decode cX5_requirePattern 25 = .ok (.return_, 1) := by decide +kernel
theorem dX5_requireRange_0 : decode cX5_requireRange 0 = .ok (.iload_n 0, 1) := by decide +kernel
theorem dX5_requireRange_1 : decode cX5_requireRange 1 = .ok (.iload_n 1, 1) := by decide +kernel
theorem dX5_requireRange_2 : decode cX5_requireRange 2 = .ok (.if_icmp .lt 8, 3) := by decide +kernel
theorem dX5_requireRange_5 : decode cX5_requireRange 5 = .ok (.iload_n 0, 1) := by decide +kernel
theorem dX5_requireRange_6 : decode cX5_requireRange 6 = .ok (.iload_n 2, 1) := by decide +kernel
theorem dX5_requireRange_7 : decode cX5_requireRange 7 = .ok (.if_icmp .le 13, 3) := by decide +kernel
theorem dX5_requireRange_10 : decode cX5_requireRange 10 = .ok (.new 117, 3) := by decide +kernel
theorem dX5_requireRange_13 : decode cX5_requireRange 13 = .ok (.dup, 1) := by decide +kernel
theorem dX5_requireRange_14 : decode cX5_requireRange 14 = .ok (.ldc 254, 2) := by decide +kernel
theorem dX5_requireRange_16 : decode cX5_requireRange 16 = .ok (.invokespecial 121, 3) := by decide +kernel
theorem dX5_requireRange_19 : decode cX5_requireRange 19 = .ok (.athrow, 1) := by decide +kernel
theorem dX5_requireRange_20 : decode cX5_requireRange 20 = .ok (.return_, 1) := by decide +kernel
end
section
theorem dX6_init_0 : decode cX6_init 0 = .ok (.aload_n 0, 1) := by decide +kernel
theorem dX6_init_1 : decode cX6_init 1 = .ok (.invokespecial 3, 3) := by decide +kernel
theorem dX6_init_4 : decode cX6_init 4 = .ok (.aload_n 0, 1) := by decide +kernel
theorem dX6_init_5 : decode cX6_init 5 = .ok (.sipush 600, 3) := by decide +kernel
theorem dX6_init_8 : decode cX6_init 8 = .ok (.newarray .int, 2) := by decide +kernel
theorem dX6_init_10 : decode cX6_init 10 = .ok (.putfield 9, 3) := by decide +kernel
theorem dX6_init_13 : decode cX6_init 13 = .ok (.aload_n 0, 1) := by decide +kernel
theorem dX6_init_14 : decode cX6_init 14 = .ok (.iconst (-1), 1) := by decide +kernel
theorem dX6_init_15 : decode cX6_init 15 = .ok (.putfield 13, 3) := by decide +kernel
theorem dX6_init_18 : decode cX6_init 18 = .ok (.aload_n 0, 1) := by decide +kernel
theorem dX6_init_19 : decode cX6_init 19 = .ok (.sipush 746, 3) := by decide +kernel
theorem dX6_init_22 : decode cX6_init 22 = .ok (.newarray .int, 2) := by decide +kernel
theorem dX6_init_24 : decode cX6_init 24 = .ok (.putfield 17, 3) := by decide +kernel
theorem dX6_init_27 : decode cX6_init 27 = .ok (.aload_n 0, 1) := by decide +kernel
theorem dX6_init_28 : decode cX6_init 28 = .ok (.sipush 746, 3) := by decide +kernel
theorem dX6_init_31 : decode cX6_init 31 = .ok (.newarray .int, 2) := by decide +kernel
theorem dX6_init_33 : decode cX6_init 33 = .ok (.putfield 20, 3) := by decide +kernel
theorem dX6_init_36 : decode cX6_init 36 = .ok (.aload_n 0, 1) := by decide +kernel
theorem dX6_init_37 : decode cX6_init 37 = .ok (.sipush 746, 3) := by decide +kernel
theorem dX6_init_40 : decode cX6_init 40 = .ok (.newarray .int, 2) := by decide +kernel
theorem dX6_init_42 : decode cX6_init 42 = .ok (.putfield 23, 3) := by decide +kernel
theorem dX6_init_45 : decode cX6_init 45 = .ok (.aload_n 0, 1) := by decide +kernel
theorem dX6_init_46 : decode cX6_init 46 = .ok (.bipush 8, 2) := by decide +kernel
theorem dX6_init_48 : decode cX6_init 48 = .ok (.sipush 746, 3) := by decide +kernel
theorem dX6_init_51 : decode cX6_init 51 = .ok (.multianewarray 26 2, 4) := by decide +kernel
theorem dX6_init_55 : decode cX6_init 55 = .ok (.putfield 28, 3) := by decide +kernel
theorem dX6_init_58 : decode cX6_init 58 = .ok (.aload_n 0, 1) := by decide +kernel
theorem dX6_init_59 : decode cX6_init 59 = .ok (.sipush 180, 3) := by decide +kernel
theorem dX6_init_62 : decode cX6_init 62 = .ok (.newarray .int, 2) := by decide +kernel
theorem dX6_init_64 : decode cX6_init 64 = .ok (.putfield 31, 3) := by decide +kernel
theorem dX6_init_67 : decode cX6_init 67 = .ok (.aload_n 0, 1) := by decide +kernel
theorem dX6_init_68 : decode cX6_init 68 = .ok (.sipush 180, 3) := by decide +kernel
theorem dX6_init_71 : decode cX6_init 71 = .ok (.newarray .int, 2) := by decide +kernel
theorem dX6_init_73 : decode cX6_init 73 = .ok (.putfield 34, 3) := by decide +kernel
theorem dX6_init_76 : decode cX6_init 76 = .ok (.aload_n 0, 1) := by decide +kernel
theorem dX6_init_77 : decode cX6_init 77 = .ok (.sipush 180, 3) := by decide +kernel
theorem dX6_init_80 : decode cX6_init 80 = .ok (.newarray .int, 2) := by decide +kernel
theorem dX6_init_82 : decode cX6_init 82 = .ok (.putfield 37, 3) := by decide +kernel
theorem dX6_init_85 : decode cX6_init 85 = .ok (.aload_n 0, 1) := by decide +kernel
theorem dX6_init_86 : decode cX6_init 86 = .ok (.sipush 180, 3) := by decide +kernel
theorem dX6_init_89 : decode cX6_init 89 = .ok (.newarray .boolean, 2) := by decide +kernel
theorem dX6_init_91 : decode cX6_init 91 = .ok (.putfield 40, 3) := by decide +kernel
theorem dX6_init_94 : decode cX6_init 94 = .ok (.aload_n 0, 1) := by decide +kernel
theorem dX6_init_95 : decode cX6_init 95 = .ok (.sipush 180, 3) := by decide +kernel
theorem dX6_init_98 : decode cX6_init 98 = .ok (.newarray .int, 2) := by decide +kernel
theorem dX6_init_100 : decode cX6_init 100 = .ok (.putfield 44, 3) := by decide +kernel
theorem dX6_init_103 : decode cX6_init 103 = .ok (.aload_n 0, 1) := by decide +kernel
theorem dX6_init_104 : decode cX6_init 104 = .ok (.getfield 17, 3) := by decide +kernel
theorem dX6_init_107 : decode cX6_init 107 = .ok (.iconst 5, 1) := by decide +kernel
theorem dX6_init_108 : decode cX6_init 108 = .ok (.iconst 5, 1) := by decide +kernel
theorem dX6_init_109 : decode cX6_init 109 = .ok (.invokestatic 47, 3) := by decide +kernel
theorem dX6_init_112 : decode cX6_init 112 = .ok (.return_, 1) := by decide +kernel
theorem dX6_thrown_0 : decode cX6_thrown 0 = .ok (.aload_n 0, 1) := by decide +kernel
theorem dX6_thrown_1 : decode cX6_thrown 1 = .ok (.getfield 51, 3) := by decide +kernel
theorem dX6_thrown_4 : decode cX6_thrown 4 = .ok (.ireturn, 1) := by decide +kernel
theorem dX6_fails_0 : decode cX6_fails 0 = .ok (.iload_n 1, 1) := by decide +kernel
theorem dX6_fails_1 : decode cX6_fails 1 = .ok (.ifCond .eq 15, 3) := by decide +kernel
theorem dX6_fails_4 : decode cX6_fails 4 = .ok (.aload_n 0, 1) := by decide +kernel
theorem dX6_fails_5 : decode cX6_fails 5 = .ok (.getfield 51, 3) := by decide +kernel
theorem dX6_fails_8 : decode cX6_fails 8 = .ok (.ifCond .ne 8, 3) := by decide +kernel
theorem dX6_fails_11 : decode cX6_fails 11 = .ok (.aload_n 0, 1) := by decide +kernel
theorem dX6_fails_12 : decode cX6_fails 12 = .ok (.iload_n 2, 1) := by decide +kernel
theorem dX6_fails_13 : decode cX6_fails 13 = .ok (.putfield 51, 3) := by decide +kernel
theorem dX6_fails_16 : decode cX6_fails 16 = .ok (.aload_n 0, 1) := by decide +kernel
theorem dX6_fails_17 : decode cX6_fails 17 = .ok (.getfield 51, 3) := by decide +kernel
theorem dX6_fails_20 : decode cX6_fails 20 = .ok (.ifCond .eq 7, 3) := by decide +kernel
theorem dX6_fails_23 : decode cX6_fails 23 = .ok (.iconst 1, 1) := by decide +kernel
theorem dX6_fails_24 : decode cX6_fails 24 = .ok (.goto 4, 3) := by decide +kernel
theorem dX6_fails_27 : decode cX6_fails 27 = .ok (.iconst 0, 1) := by decide +kernel
theorem dX6_fails_28 : decode cX6_fails 28 = .ok (.ireturn, 1) := by decide +kernel
theorem dX6_in_0 : decode cX6_in 0 = .ok (.iload_n 0, 1) := by decide +kernel
theorem dX6_in_1 : decode cX6_in 1 = .ok (.iload_n 1, 1) := by decide +kernel
theorem dX6_in_2 : decode cX6_in 2 = .ok (.if_icmp .lt 12, 3) := by decide +kernel
theorem dX6_in_5 : decode cX6_in 5 = .ok (.iload_n 0, 1) := by decide +kernel
theorem dX6_in_6 : decode cX6_in 6 = .ok (.iload_n 2, 1) := by decide +kernel
theorem dX6_in_7 : decode cX6_in 7 = .ok (.if_icmp .gt 7, 3) := by decide +kernel
theorem dX6_in_10 : decode cX6_in 10 = .ok (.iconst 1, 1) := by decide +kernel
theorem dX6_in_11 : decode cX6_in 11 = .ok (.goto 4, 3) := by decide +kernel
theorem dX6_in_14 : decode cX6_in 14 = .ok (.iconst 0, 1) := by decide +kernel
theorem dX6_in_15 : decode cX6_in 15 = .ok (.ireturn, 1) := by decide +kernel
theorem dX6_min_0 : decode cX6_min 0 = .ok (.iload_n 0, 1) := by decide +kernel
theorem dX6_min_1 : decode cX6_min 1 = .ok (.iload_n 1, 1) := by decide +kernel
theorem dX6_min_2 : decode cX6_min 2 = .ok (.if_icmp .ge 7, 3) := by decide +kernel
theorem dX6_min_5 : decode cX6_min 5 = .ok (.iload_n 0, 1) := by decide +kernel
theorem dX6_min_6 : decode cX6_min 6 = .ok (.goto 4, 3) := by decide +kernel
theorem dX6_min_9 : decode cX6_min 9 = .ok (.iload_n 1, 1) := by decide +kernel
theorem dX6_min_10 : decode cX6_min 10 = .ok (.ireturn, 1) := by decide +kernel
theorem dX6_max_0 : decode cX6_max 0 = .ok (.iload_n 0, 1) := by decide +kernel
theorem dX6_max_1 : decode cX6_max 1 = .ok (.iload_n 1, 1) := by decide +kernel
theorem dX6_max_2 : decode cX6_max 2 = .ok (.if_icmp .le 7, 3) := by decide +kernel
theorem dX6_max_5 : decode cX6_max 5 = .ok (.iload_n 0, 1) := by decide +kernel
theorem dX6_max_6 : decode cX6_max 6 = .ok (.goto 4, 3) := by decide +kernel
theorem dX6_max_9 : decode cX6_max 9 = .ok (.iload_n 1, 1) := by decide +kernel
theorem dX6_max_10 : decode cX6_max 10 = .ok (.ireturn, 1) := by decide +kernel
theorem dX6_copy_0 : decode cX6_copy 0 = .ok (.iconst 0, 1) := by decide +kernel
theorem dX6_copy_1 : decode cX6_copy 1 = .ok (.istore_n 2, 1) := by decide +kernel
theorem dX6_copy_2 : decode cX6_copy 2 = .ok (.iload_n 2, 1) := by decide +kernel
theorem dX6_copy_3 : decode cX6_copy 3 = .ok (.sipush 746, 3) := by decide +kernel
theorem dX6_copy_6 : decode cX6_copy 6 = .ok (.if_icmp .ge 15, 3) := by decide +kernel
theorem dX6_copy_9 : decode cX6_copy 9 = .ok (.aload_n 1, 1) := by decide +kernel
theorem dX6_copy_10 : decode cX6_copy 10 = .ok (.iload_n 2, 1) := by decide +kernel
theorem dX6_copy_11 : decode cX6_copy 11 = .ok (.aload_n 0, 1) := by decide +kernel
theorem dX6_copy_12 : decode cX6_copy 12 = .ok (.iload_n 2, 1) := by decide +kernel
theorem dX6_copy_13 : decode cX6_copy 13 = .ok (.iaload, 1) := by decide +kernel
theorem dX6_copy_14 : decode cX6_copy 14 = .ok (.iastore, 1) := by decide +kernel
theorem dX6_copy_15 : decode cX6_copy 15 = .ok (.iinc 2 1, 3) := by decide +kernel
theorem dX6_copy_18 : decode cX6_copy 18 = .ok (.goto (-16), 3) := by decide +kernel
theorem dX6_copy_21 : decode cX6_copy 21 = .ok (.return_, 1) := by decide +kernel
theorem dX6_layKite_0 : decode cX6_layKite 0 = .ok (.iconst 0, 1) := by decide +kernel
theorem dX6_layKite_1 : decode cX6_layKite 1 = .ok (.istore_n 3, 1) := by decide +kernel
theorem dX6_layKite_2 : decode cX6_layKite 2 = .ok (.iload_n 3, 1) := by decide +kernel
theorem dX6_layKite_3 : decode cX6_layKite 3 = .ok (.sipush 746, 3) := by decide +kernel
theorem dX6_layKite_6 : decode cX6_layKite 6 = .ok (.if_icmp .ge 13, 3) := by decide +kernel
theorem dX6_layKite_9 : decode cX6_layKite 9 = .ok (.aload_n 0, 1) := by decide +kernel
theorem dX6_layKite_10 : decode cX6_layKite 10 = .ok (.iload_n 3, 1) := by decide +kernel
theorem dX6_layKite_11 : decode cX6_layKite 11 = .ok (.iconst 0, 1) := by decide +kernel
theorem dX6_layKite_12 : decode cX6_layKite 12 = .ok (.iastore, 1) := by decide +kernel
theorem dX6_layKite_13 : decode cX6_layKite 13 = .ok (.iinc 3 1, 3) := by decide +kernel
theorem dX6_layKite_16 : decode cX6_layKite 16 = .ok (.goto (-14), 3) := by decide +kernel
theorem dX6_layKite_19 : decode cX6_layKite 19 = .ok (.aload_n 0, 1) := by decide +kernel
theorem dX6_layKite_20 : decode cX6_layKite 20 = .ok (.iconst 0, 1) := by decide +kernel
theorem dX6_layKite_21 : decode cX6_layKite 21 = .ok (.iload_n 1, 1) := by decide +kernel
theorem dX6_layKite_22 : decode cX6_layKite 22 = .ok (.iastore, 1) := by decide +kernel
theorem dX6_layKite_23 : decode cX6_layKite 23 = .ok (.aload_n 0, 1) := by decide +kernel
theorem dX6_layKite_24 : decode cX6_layKite 24 = .ok (.iconst 1, 1) := by decide +kernel
theorem dX6_layKite_25 : decode cX6_layKite 25 = .ok (.iload_n 2, 1) := by decide +kernel
theorem dX6_layKite_26 : decode cX6_layKite 26 = .ok (.iastore, 1) := by decide +kernel
theorem dX6_layKite_27 : decode cX6_layKite 27 = .ok (.aload_n 0, 1) := by decide +kernel
theorem dX6_layKite_28 : decode cX6_layKite 28 = .ok (.iconst 3, 1) := by decide +kernel
theorem dX6_layKite_29 : decode cX6_layKite 29 = .ok (.iconst 1, 1) := by decide +kernel
theorem dX6_layKite_30 : decode cX6_layKite 30 = .ok (.iastore, 1) := by decide +kernel
theorem dX6_layKite_31 : decode cX6_layKite 31 = .ok (.aload_n 0, 1) := by decide +kernel
theorem dX6_layKite_32 : decode cX6_layKite 32 = .ok (.iconst 4, 1) := by decide +kernel
theorem dX6_layKite_33 : decode cX6_layKite 33 = .ok (.iconst 5, 1) := by decide +kernel
theorem dX6_layKite_34 : decode cX6_layKite 34 = .ok (.iastore, 1) := by decide +kernel
theorem dX6_layKite_35 : decode cX6_layKite 35 = .ok (.iconst 0, 1) := by decide +kernel
theorem dX6_layKite_36 : decode cX6_layKite 36 = .ok (.istore_n 3, 1) := by decide +kernel
theorem dX6_layKite_37 : decode cX6_layKite 37 = .ok (.iload_n 3, 1) := by decide +kernel
theorem dX6_layKite_38 : decode cX6_layKite 38 = .ok (.bipush 12, 2) := by decide +kernel
theorem dX6_layKite_40 : decode cX6_layKite 40 = .ok (.if_icmp .ge 18, 3) := by decide +kernel
theorem dX6_layKite_43 : decode cX6_layKite 43 = .ok (.aload_n 0, 1) := by decide +kernel
theorem dX6_layKite_44 : decode cX6_layKite 44 = .ok (.bipush 6, 2) := by decide +kernel
theorem dX6_layKite_46 : decode cX6_layKite 46 = .ok (.iload_n 3, 1) := by decide +kernel
theorem dX6_layKite_47 : decode cX6_layKite 47 = .ok (.iadd, 1) := by decide +kernel
theorem dX6_layKite_48 : decode cX6_layKite 48 = .ok (.iload_n 1, 1) := by decide +kernel
theorem dX6_layKite_49 : decode cX6_layKite 49 = .ok (.iconst 2, 1) := by decide +kernel
theorem dX6_layKite_50 : decode cX6_layKite 50 = .ok (.idiv, 1) := by decide +kernel
theorem dX6_layKite_51 : decode cX6_layKite 51 = .ok (.iastore, 1) := by decide +kernel
theorem dX6_layKite_52 : decode cX6_layKite 52 = .ok (.iinc 3 1, 3) := by decide +kernel
theorem dX6_layKite_55 : decode cX6_layKite 55 = .ok (.goto (-18), 3) := by decide +kernel
theorem dX6_layKite_58 : decode cX6_layKite 58 = .ok (.iconst 1, 1) := by decide +kernel
theorem dX6_layKite_59 : decode cX6_layKite 59 = .ok (.istore_n 3, 1) := by decide +kernel
theorem dX6_layKite_60 : decode cX6_layKite 60 = .ok (.iload_n 3, 1) := by decide +kernel
theorem dX6_layKite_61 : decode cX6_layKite 61 = .ok (.bipush 6, 2) := by decide +kernel
theorem dX6_layKite_63 : decode cX6_layKite 63 = .ok (.if_icmp .gt 16, 3) := by decide +kernel
theorem dX6_layKite_66 : decode cX6_layKite 66 = .ok (.aload_n 0, 1) := by decide +kernel
theorem dX6_layKite_67 : decode cX6_layKite 67 = .ok (.bipush 18, 2) := by decide +kernel
theorem dX6_layKite_69 : decode cX6_layKite 69 = .ok (.iload_n 3, 1) := by decide +kernel
theorem dX6_layKite_70 : decode cX6_layKite 70 = .ok (.iadd, 1) := by decide +kernel
theorem dX6_layKite_71 : decode cX6_layKite 71 = .ok (.iconst 2, 1) := by decide +kernel
theorem dX6_layKite_72 : decode cX6_layKite 72 = .ok (.iastore, 1) := by decide +kernel
theorem dX6_layKite_73 : decode cX6_layKite 73 = .ok (.iinc 3 1, 3) := by decide +kernel
theorem dX6_layKite_76 : decode cX6_layKite 76 = .ok (.goto (-16), 3) := by decide +kernel
theorem dX6_layKite_79 : decode cX6_layKite 79 = .ok (.return_, 1) := by decide +kernel
theorem dX6_isSail_0 : decode cX6_isSail 0 = .ok (.iload_n 2, 1) := by decide +kernel
theorem dX6_isSail_1 : decode cX6_isSail 1 = .ok (.iconst 0, 1) := by decide +kernel
theorem dX6_isSail_2 : decode cX6_isSail 2 = .ok (.aload_n 0, 1) := by decide +kernel
theorem dX6_isSail_3 : decode cX6_isSail 3 = .ok (.iconst 1, 1) := by decide +kernel
theorem dX6_isSail_4 : decode cX6_isSail 4 = .ok (.iaload, 1) := by decide +kernel
theorem dX6_isSail_5 : decode cX6_isSail 5 = .ok (.iconst 1, 1) := by decide +kernel
theorem dX6_isSail_6 : decode cX6_isSail 6 = .ok (.isub, 1) := by decide +kernel
theorem dX6_isSail_7 : decode cX6_isSail 7 = .ok (.invokestatic 54, 3) := by decide +kernel
theorem dX6_isSail_10 : decode cX6_isSail 10 = .ok (.ifCond .eq 39, 3) := by decide +kernel
theorem dX6_isSail_13 : decode cX6_isSail 13 = .ok (.iload_n 1, 1) := by decide +kernel
theorem dX6_isSail_14 : decode cX6_isSail 14 = .ok (.iconst 0, 1) := by decide +kernel
theorem dX6_isSail_15 : decode cX6_isSail 15 = .ok (.aload_n 0, 1) := by decide +kernel
theorem dX6_isSail_16 : decode cX6_isSail 16 = .ok (.iconst 0, 1) := by decide +kernel
theorem dX6_isSail_17 : decode cX6_isSail 17 = .ok (.iaload, 1) := by decide +kernel
theorem dX6_isSail_18 : decode cX6_isSail 18 = .ok (.iconst 1, 1) := by decide +kernel
theorem dX6_isSail_19 : decode cX6_isSail 19 = .ok (.isub, 1) := by decide +kernel
theorem dX6_isSail_20 : decode cX6_isSail 20 = .ok (.invokestatic 54, 3) := by decide +kernel
theorem dX6_isSail_23 : decode cX6_isSail 23 = .ok (.ifCond .eq 26, 3) := by decide +kernel
theorem dX6_isSail_26 : decode cX6_isSail 26 = .ok (.iload_n 1, 1) := by decide +kernel
theorem dX6_isSail_27 : decode cX6_isSail 27 = .ok (.aload_n 0, 1) := by decide +kernel
theorem dX6_isSail_28 : decode cX6_isSail 28 = .ok (.iconst 0, 1) := by decide +kernel
theorem dX6_isSail_29 : decode cX6_isSail 29 = .ok (.iaload, 1) := by decide +kernel
theorem dX6_isSail_30 : decode cX6_isSail 30 = .ok (.iconst 2, 1) := by decide +kernel
theorem dX6_isSail_31 : decode cX6_isSail 31 = .ok (.idiv, 1) := by decide +kernel
theorem dX6_isSail_32 : decode cX6_isSail 32 = .ok (.isub, 1) := by decide +kernel
theorem dX6_isSail_33 : decode cX6_isSail 33 = .ok (.invokestatic 58, 3) := by decide +kernel
theorem dX6_isSail_36 : decode cX6_isSail 36 = .ok (.aload_n 0, 1) := by decide +kernel
theorem dX6_isSail_37 : decode cX6_isSail 37 = .ok (.bipush 6, 2) := by decide +kernel
theorem dX6_isSail_39 : decode cX6_isSail 39 = .ok (.iload_n 2, 1) := by decide +kernel
theorem dX6_isSail_40 : decode cX6_isSail 40 = .ok (.iadd, 1) := by decide +kernel
theorem dX6_isSail_41 : decode cX6_isSail 41 = .ok (.iaload, 1) := by decide +kernel
theorem dX6_isSail_42 : decode cX6_isSail 42 = .ok (.if_icmp .gt 7, 3) := by decide +kernel
theorem dX6_isSail_45 : decode cX6_isSail 45 = .ok (.iconst 1, 1) := by decide +kernel
theorem dX6_isSail_46 : decode cX6_isSail 46 = .ok (.goto 4, 3) := by decide +kernel
theorem dX6_isSail_49 : decode cX6_isSail 49 = .ok (.iconst 0, 1) := by decide +kernel
theorem dX6_isSail_50 : decode cX6_isSail 50 = .ok (.ireturn, 1) := by decide +kernel
theorem dX6_append_0 : decode cX6_append 0 = .ok (.aload_n 0, 1) := by decide +kernel
theorem dX6_append_1 : decode cX6_append 1 = .ok (.iconst 0, 1) := by decide +kernel
theorem dX6_append_2 : decode cX6_append 2 = .ok (.putfield 51, 3) := by decide +kernel
theorem dX6_append_5 : decode cX6_append 5 = .ok (.aload_n 0, 1) := by decide +kernel
theorem dX6_append_6 : decode cX6_append 6 = .ok (.getfield 64, 3) := by decide +kernel
theorem dX6_append_9 : decode cX6_append 9 = .ok (.bipush 20, 2) := by decide +kernel
theorem dX6_append_11 : decode cX6_append 11 = .ok (.iadd, 1) := by decide +kernel
theorem dX6_append_12 : decode cX6_append 12 = .ok (.sipush 600, 3) := by decide +kernel
theorem dX6_append_15 : decode cX6_append 15 = .ok (.if_icmp .le 5, 3) := by decide +kernel
theorem dX6_append_18 : decode cX6_append 18 = .ok (.iconst (-1), 1) := by decide +kernel
theorem dX6_append_19 : decode cX6_append 19 = .ok (.ireturn, 1) := by decide +kernel
theorem dX6_append_20 : decode cX6_append 20 = .ok (.iconst 0, 1) := by decide +kernel
theorem dX6_append_21 : decode cX6_append 21 = .ok (.istore 6, 2) := by decide +kernel
theorem dX6_append_23 : decode cX6_append 23 = .ok (.iload 6, 2) := by decide +kernel
theorem dX6_append_25 : decode cX6_append 25 = .ok (.bipush 20, 2) := by decide +kernel
theorem dX6_append_27 : decode cX6_append 27 = .ok (.if_icmp .ge 93, 3) := by decide +kernel
theorem dX6_append_30 : decode cX6_append 30 = .ok (.iload 6, 2) := by decide +kernel
theorem dX6_append_32 : decode cX6_append 32 = .ok (.iconst 4, 1) := by decide +kernel
theorem dX6_append_33 : decode cX6_append 33 = .ok (.if_icmp .ge 7, 3) := by decide +kernel
theorem dX6_append_36 : decode cX6_append 36 = .ok (.iload_n 1, 1) := by decide +kernel
theorem dX6_append_37 : decode cX6_append 37 = .ok (.goto 39, 3) := by decide +kernel
theorem dX6_append_40 : decode cX6_append 40 = .ok (.iload 6, 2) := by decide +kernel
theorem dX6_append_42 : decode cX6_append 42 = .ok (.bipush 8, 2) := by decide +kernel
theorem dX6_append_44 : decode cX6_append 44 = .ok (.if_icmp .ge 7, 3) := by decide +kernel
theorem dX6_append_47 : decode cX6_append 47 = .ok (.iload_n 2, 1) := by decide +kernel
theorem dX6_append_48 : decode cX6_append 48 = .ok (.goto 28, 3) := by decide +kernel
theorem dX6_append_51 : decode cX6_append 51 = .ok (.iload 6, 2) := by decide +kernel
theorem dX6_append_53 : decode cX6_append 53 = .ok (.bipush 12, 2) := by decide +kernel
theorem dX6_append_55 : decode cX6_append 55 = .ok (.if_icmp .ge 7, 3) := by decide +kernel
theorem dX6_append_58 : decode cX6_append 58 = .ok (.iload_n 3, 1) := by decide +kernel
theorem dX6_append_59 : decode cX6_append 59 = .ok (.goto 17, 3) := by decide +kernel
theorem dX6_append_62 : decode cX6_append 62 = .ok (.iload 6, 2) := by decide +kernel
theorem dX6_append_64 : decode cX6_append 64 = .ok (.bipush 16, 2) := by decide +kernel
theorem dX6_append_66 : decode cX6_append 66 = .ok (.if_icmp .ge 8, 3) := by decide +kernel
theorem dX6_append_69 : decode cX6_append 69 = .ok (.iload 4, 2) := by decide +kernel
theorem dX6_append_71 : decode cX6_append 71 = .ok (.goto 5, 3) := by decide +kernel
theorem dX6_append_74 : decode cX6_append 74 = .ok (.iload 5, 2) := by decide +kernel
theorem dX6_append_76 : decode cX6_append 76 = .ok (.istore 7, 2) := by decide +kernel
theorem dX6_append_78 : decode cX6_append 78 = .ok (.aload_n 0, 1) := by decide +kernel
theorem dX6_append_79 : decode cX6_append 79 = .ok (.getfield 9, 3) := by decide +kernel
theorem dX6_append_82 : decode cX6_append 82 = .ok (.aload_n 0, 1) := by decide +kernel
theorem dX6_append_83 : decode cX6_append 83 = .ok (.getfield 64, 3) := by decide +kernel
theorem dX6_append_86 : decode cX6_append 86 = .ok (.iload 7, 2) := by decide +kernel
theorem dX6_append_88 : decode cX6_append 88 = .ok (.bipush 24, 2) := by decide +kernel
theorem dX6_append_90 : decode cX6_append 90 = .ok (.bipush 8, 2) := by decide +kernel
theorem dX6_append_92 : decode cX6_append 92 = .ok (.iload 6, 2) := by decide +kernel
theorem dX6_append_94 : decode cX6_append 94 = .ok (.iconst 4, 1) := by decide +kernel
theorem dX6_append_95 : decode cX6_append 95 = .ok (.irem, 1) := by decide +kernel
theorem dX6_append_96 : decode cX6_append 96 = .ok (.imul, 1) := by decide +kernel
theorem dX6_append_97 : decode cX6_append 97 = .ok (.isub, 1) := by decide +kernel
theorem dX6_append_98 : decode cX6_append 98 = .ok (.ishr, 1) := by decide +kernel
theorem dX6_append_99 : decode cX6_append 99 = .ok (.sipush 255, 3) := by decide +kernel
theorem dX6_append_102 : decode cX6_append 102 = .ok (.iand, 1) := by decide +kernel
theorem dX6_append_103 : decode cX6_append 103 = .ok (.iastore, 1) := by decide +kernel
theorem dX6_append_104 : decode cX6_append 104 = .ok (.aload_n 0, 1) := by decide +kernel
theorem dX6_append_105 : decode cX6_append 105 = .ok (.dup, 1) := by decide +kernel
theorem dX6_append_106 : decode cX6_append 106 = .ok (.getfield 64, 3) := by decide +kernel
theorem dX6_append_109 : decode cX6_append 109 = .ok (.iconst 1, 1) := by decide +kernel
theorem dX6_append_110 : decode cX6_append 110 = .ok (.iadd, 1) := by decide +kernel
theorem dX6_append_111 : decode cX6_append 111 = .ok (.putfield 64, 3) := by decide +kernel
theorem dX6_append_114 : decode cX6_append 114 = .ok (.iinc 6 1, 3) := by decide +kernel
theorem dX6_append_117 : decode cX6_append 117 = .ok (.goto (-94), 3) := by decide +kernel
theorem dX6_append_120 : decode cX6_append 120 = .ok (.aload_n 0, 1) := by decide +kernel
theorem dX6_append_121 : decode cX6_append 121 = .ok (.getfield 64, 3) := by decide +kernel
theorem dX6_append_124 : decode cX6_append 124 = .ok (.ireturn, 1) := by decide +kernel
theorem dX6_byteAt_0 : decode cX6_byteAt 0 = .ok (.iload_n 1, 1) := by decide +kernel
theorem dX6_byteAt_1 : decode cX6_byteAt 1 = .ok (.aload_n 0, 1) := by decide +kernel
theorem dX6_byteAt_2 : decode cX6_byteAt 2 = .ok (.getfield 67, 3) := by decide +kernel
theorem dX6_byteAt_5 : decode cX6_byteAt 5 = .ok (.if_icmp .ge 12, 3) := by decide +kernel
theorem dX6_byteAt_8 : decode cX6_byteAt 8 = .ok (.aload_n 0, 1) := by decide +kernel
theorem dX6_byteAt_9 : decode cX6_byteAt 9 = .ok (.getfield 9, 3) := by decide +kernel
theorem dX6_byteAt_12 : decode cX6_byteAt 12 = .ok (.iload_n 1, 1) := by decide +kernel
theorem dX6_byteAt_13 : decode cX6_byteAt 13 = .ok (.iaload, 1) := by decide +kernel
theorem dX6_byteAt_14 : decode cX6_byteAt 14 = .ok (.goto 4, 3) := by decide +kernel
theorem dX6_byteAt_17 : decode cX6_byteAt 17 = .ok (.iconst (-1), 1) := by decide +kernel
theorem dX6_byteAt_18 : decode cX6_byteAt 18 = .ok (.ireturn, 1) := by decide +kernel
theorem dX6_ahead_0 : decode cX6_ahead 0 = .ok (.aload_n 0, 1) := by decide +kernel
theorem dX6_ahead_1 : decode cX6_ahead 1 = .ok (.aload_n 0, 1) := by decide +kernel
theorem dX6_ahead_2 : decode cX6_ahead 2 = .ok (.getfield 70, 3) := by decide +kernel
theorem dX6_ahead_5 : decode cX6_ahead 5 = .ok (.invokevirtual 73, 3) := by decide +kernel
theorem dX6_ahead_8 : decode cX6_ahead 8 = .ok (.bipush 32, 2) := by decide +kernel
theorem dX6_ahead_10 : decode cX6_ahead 10 = .ok (.if_icmp .ne 16, 3) := by decide +kernel
theorem dX6_ahead_13 : decode cX6_ahead 13 = .ok (.aload_n 0, 1) := by decide +kernel
theorem dX6_ahead_14 : decode cX6_ahead 14 = .ok (.dup, 1) := by decide +kernel
theorem dX6_ahead_15 : decode cX6_ahead 15 = .ok (.getfield 70, 3) := by decide +kernel
theorem dX6_ahead_18 : decode cX6_ahead 18 = .ok (.iconst 1, 1) := by decide +kernel
theorem dX6_ahead_19 : decode cX6_ahead 19 = .ok (.iadd, 1) := by decide +kernel
theorem dX6_ahead_20 : decode cX6_ahead 20 = .ok (.putfield 70, 3) := by decide +kernel
theorem dX6_ahead_23 : decode cX6_ahead 23 = .ok (.goto (-23), 3) := by decide +kernel
theorem dX6_ahead_26 : decode cX6_ahead 26 = .ok (.aload_n 0, 1) := by decide +kernel
theorem dX6_ahead_27 : decode cX6_ahead 27 = .ok (.aload_n 0, 1) := by decide +kernel
theorem dX6_ahead_28 : decode cX6_ahead 28 = .ok (.getfield 70, 3) := by decide +kernel
theorem dX6_ahead_31 : decode cX6_ahead 31 = .ok (.invokevirtual 73, 3) := by decide +kernel
theorem dX6_ahead_34 : decode cX6_ahead 34 = .ok (.ireturn, 1) := by decide +kernel
theorem dX6_isGood_0 : decode cX6_isGood 0 = .ok (.aload_n 0, 1) := by decide +kernel
theorem dX6_isGood_1 : decode cX6_isGood 1 = .ok (.getfield 76, 3) := by decide +kernel
theorem dX6_isGood_4 : decode cX6_isGood 4 = .ok (.ifCond .ne 7, 3) := by decide +kernel
theorem dX6_isGood_7 : decode cX6_isGood 7 = .ok (.iconst 1, 1) := by decide +kernel
theorem dX6_isGood_8 : decode cX6_isGood 8 = .ok (.goto 4, 3) := by decide +kernel
theorem dX6_isGood_11 : decode cX6_isGood 11 = .ok (.iconst 0, 1) := by decide +kernel
theorem dX6_isGood_12 : decode cX6_isGood 12 = .ok (.ireturn, 1) := by decide +kernel
theorem dX6_report_0 : decode cX6_report 0 = .ok (.aload_n 0, 1) := by decide +kernel
theorem dX6_report_1 : decode cX6_report 1 = .ok (.getfield 76, 3) := by decide +kernel
theorem dX6_report_4 : decode cX6_report 4 = .ok (.ifCond .eq 4, 3) := by decide +kernel
theorem dX6_report_7 : decode cX6_report 7 = .ok (.return_, 1) := by decide +kernel
theorem dX6_report_8 : decode cX6_report 8 = .ok (.aload_n 0, 1) := by decide +kernel
theorem dX6_report_9 : decode cX6_report 9 = .ok (.iload_n 1, 1) := by decide +kernel
theorem dX6_report_10 : decode cX6_report 10 = .ok (.putfield 76, 3) := by decide +kernel
theorem dX6_report_13 : decode cX6_report 13 = .ok (.aload_n 0, 1) := by decide +kernel
theorem dX6_report_14 : decode cX6_report 14 = .ok (.iload_n 2, 1) := by decide +kernel
theorem dX6_report_15 : decode cX6_report 15 = .ok (.putfield 79, 3) := by decide +kernel
theorem dX6_report_18 : decode cX6_report 18 = .ok (.return_, 1) := by decide +kernel
theorem dX6_isDigit_0 : decode cX6_isDigit 0 = .ok (.iload_n 0, 1) := by decide +kernel
theorem dX6_isDigit_1 : decode cX6_isDigit 1 = .ok (.bipush 48, 2) := by decide +kernel
theorem dX6_isDigit_3 : decode cX6_isDigit 3 = .ok (.bipush 57, 2) := by decide +kernel
theorem dX6_isDigit_5 : decode cX6_isDigit 5 = .ok (.invokestatic 54, 3) := by decide +kernel
theorem dX6_isDigit_8 : decode cX6_isDigit 8 = .ok (.ireturn, 1) := by decide +kernel
theorem dX6_takeWord_0 : decode cX6_takeWord 0 = .ok (.aload_n 0, 1) := by decide +kernel
theorem dX6_takeWord_1 : decode cX6_takeWord 1 = .ok (.invokevirtual 82, 3) := by decide +kernel
theorem dX6_takeWord_4 : decode cX6_takeWord 4 = .ok (.ifCond .ne 5, 3) := by decide +kernel
theorem dX6_takeWord_7 : decode cX6_takeWord 7 = .ok (.iconst 0, 1) := by decide +kernel
theorem dX6_takeWord_8 : decode cX6_takeWord 8 = .ok (.ireturn, 1) := by decide +kernel
theorem dX6_takeWord_9 : decode cX6_takeWord 9 = .ok (.aload_n 0, 1) := by decide +kernel
theorem dX6_takeWord_10 : decode cX6_takeWord 10 = .ok (.invokevirtual 86, 3) := by decide +kernel
theorem dX6_takeWord_13 : decode cX6_takeWord 13 = .ok (.pop, 1) := by decide +kernel
theorem dX6_takeWord_14 : decode cX6_takeWord 14 = .ok (.iconst 0, 1) := by decide +kernel
theorem dX6_takeWord_15 : decode cX6_takeWord 15 = .ok (.istore_n 2, 1) := by decide +kernel
theorem dX6_takeWord_16 : decode cX6_takeWord 16 = .ok (.iload_n 2, 1) := by decide +kernel
theorem dX6_takeWord_17 : decode cX6_takeWord 17 = .ok (.aload_n 1, 1) := by decide +kernel
theorem dX6_takeWord_18 : decode cX6_takeWord 18 = .ok (.invokevirtual 90, 3) := by decide +kernel
theorem dX6_takeWord_21 : decode cX6_takeWord 21 = .ok (.if_icmp .ge 27, 3) := by decide +kernel
theorem dX6_takeWord_24 : decode cX6_takeWord 24 = .ok (.aload_n 0, 1) := by decide +kernel
theorem dX6_takeWord_25 : decode cX6_takeWord 25 = .ok (.aload_n 0, 1) := by decide +kernel
theorem dX6_takeWord_26 : decode cX6_takeWord 26 = .ok (.getfield 70, 3) := by decide +kernel
theorem dX6_takeWord_29 : decode cX6_takeWord 29 = .ok (.iload_n 2, 1) := by decide +kernel
theorem dX6_takeWord_30 : decode cX6_takeWord 30 = .ok (.iadd, 1) := by decide +kernel
theorem dX6_takeWord_31 : decode cX6_takeWord 31 = .ok (.invokevirtual 73, 3) := by decide +kernel
theorem dX6_takeWord_34 : decode cX6_takeWord 34 = .ok (.aload_n 1, 1) := by decide +kernel
theorem dX6_takeWord_35 : decode cX6_takeWord 35 = .ok (.iload_n 2, 1) := by decide +kernel
theorem dX6_takeWord_36 : decode cX6_takeWord 36 = .ok (.invokevirtual 95, 3) := by decide +kernel
theorem dX6_takeWord_39 : decode cX6_takeWord 39 = .ok (.if_icmp .ne 9, 3) := by decide +kernel
theorem dX6_takeWord_42 : decode cX6_takeWord 42 = .ok (.iinc 2 1, 3) := by decide +kernel
theorem dX6_takeWord_45 : decode cX6_takeWord 45 = .ok (.goto (-29), 3) := by decide +kernel
theorem dX6_takeWord_48 : decode cX6_takeWord 48 = .ok (.iload_n 2, 1) := by decide +kernel
theorem dX6_takeWord_49 : decode cX6_takeWord 49 = .ok (.aload_n 1, 1) := by decide +kernel
theorem dX6_takeWord_50 : decode cX6_takeWord 50 = .ok (.invokevirtual 90, 3) := by decide +kernel
theorem dX6_takeWord_53 : decode cX6_takeWord 53 = .ok (.if_icmp .lt 23, 3) := by decide +kernel
theorem dX6_takeWord_56 : decode cX6_takeWord 56 = .ok (.aload_n 0, 1) := by decide +kernel
theorem dX6_takeWord_57 : decode cX6_takeWord 57 = .ok (.aload_n 0, 1) := by decide +kernel
theorem dX6_takeWord_58 : decode cX6_takeWord 58 = .ok (.getfield 70, 3) := by decide +kernel
theorem dX6_takeWord_61 : decode cX6_takeWord 61 = .ok (.iload_n 2, 1) := by decide +kernel
theorem dX6_takeWord_62 : decode cX6_takeWord 62 = .ok (.iadd, 1) := by decide +kernel
theorem dX6_takeWord_63 : decode cX6_takeWord 63 = .ok (.invokevirtual 73, 3) := by decide +kernel
theorem dX6_takeWord_66 : decode cX6_takeWord 66 = .ok (.bipush 97, 2) := by decide +kernel
theorem dX6_takeWord_68 : decode cX6_takeWord 68 = .ok (.bipush 122, 2) := by decide +kernel
theorem dX6_takeWord_70 : decode cX6_takeWord 70 = .ok (.invokestatic 54, 3) := by decide +kernel
theorem dX6_takeWord_73 : decode cX6_takeWord 73 = .ok (.ifCond .eq 5, 3) := by decide +kernel
theorem dX6_takeWord_76 : decode cX6_takeWord 76 = .ok (.iconst 0, 1) := by decide +kernel
theorem dX6_takeWord_77 : decode cX6_takeWord 77 = .ok (.ireturn, 1) := by decide +kernel
theorem dX6_takeWord_78 : decode cX6_takeWord 78 = .ok (.aload_n 0, 1) := by decide +kernel
theorem dX6_takeWord_79 : decode cX6_takeWord 79 = .ok (.dup, 1) := by decide +kernel
theorem dX6_takeWord_80 : decode cX6_takeWord 80 = .ok (.getfield 70, 3) := by decide +kernel
theorem dX6_takeWord_83 : decode cX6_takeWord 83 = .ok (.iload_n 2, 1) := by decide +kernel
theorem dX6_takeWord_84 : decode cX6_takeWord 84 = .ok (.iadd, 1) := by decide +kernel
theorem dX6_takeWord_85 : decode cX6_takeWord 85 = .ok (.putfield 70, 3) := by decide +kernel
theorem dX6_takeWord_88 : decode cX6_takeWord 88 = .ok (.iconst 1, 1) := by decide +kernel
theorem dX6_takeWord_89 : decode cX6_takeWord 89 = .ok (.ireturn, 1) := by decide +kernel
theorem dX6_expect_0 : decode cX6_expect 0 = .ok (.aload_n 0, 1) := by decide +kernel
theorem dX6_expect_1 : decode cX6_expect 1 = .ok (.invokevirtual 82, 3) := by decide +kernel
theorem dX6_expect_4 : decode cX6_expect 4 = .ok (.ifCond .ne 4, 3) := by decide +kernel
theorem dX6_expect_7 : decode cX6_expect 7 = .ok (.return_, 1) := by decide +kernel
theorem dX6_expect_8 : decode cX6_expect 8 = .ok (.aload_n 0, 1) := by decide +kernel
theorem dX6_expect_9 : decode cX6_expect 9 = .ok (.invokevirtual 86, 3) := by decide +kernel
theorem dX6_expect_12 : decode cX6_expect 12 = .ok (.iload_n 1, 1) := by decide +kernel
theorem dX6_expect_13 : decode cX6_expect 13 = .ok (.if_icmp .ne 16, 3) := by decide +kernel
theorem dX6_expect_16 : decode cX6_expect 16 = .ok (.aload_n 0, 1) := by decide +kernel
theorem dX6_expect_17 : decode cX6_expect 17 = .ok (.dup, 1) := by decide +kernel
theorem dX6_expect_18 : decode cX6_expect 18 = .ok (.getfield 70, 3) := by decide +kernel
theorem dX6_expect_21 : decode cX6_expect 21 = .ok (.iconst 1, 1) := by decide +kernel
theorem dX6_expect_22 : decode cX6_expect 22 = .ok (.iadd, 1) := by decide +kernel
theorem dX6_expect_23 : decode cX6_expect 23 = .ok (.putfield 70, 3) := by decide +kernel
theorem dX6_expect_26 : decode cX6_expect 26 = .ok (.goto 13, 3) := by decide +kernel
theorem dX6_expect_29 : decode cX6_expect 29 = .ok (.aload_n 0, 1) := by decide +kernel
theorem dX6_expect_30 : decode cX6_expect 30 = .ok (.bipush (-2), 2) := by decide +kernel
theorem dX6_expect_32 : decode cX6_expect 32 = .ok (.aload_n 0, 1) := by decide +kernel
theorem dX6_expect_33 : decode cX6_expect 33 = .ok (.getfield 70, 3) := by decide +kernel
theorem dX6_expect_36 : decode cX6_expect 36 = .ok (.invokevirtual 99, 3) := by decide +kernel
theorem dX6_expect_39 : decode cX6_expect 39 = .ok (.return_, 1) := by decide +kernel
theorem dX6_number_0 : decode cX6_number 0 = .ok (.aload_n 0, 1) := by decide +kernel
theorem dX6_number_1 : decode cX6_number 1 = .ok (.invokevirtual 82, 3) := by decide +kernel
theorem dX6_number_4 : decode cX6_number 4 = .ok (.ifCond .ne 5, 3) := by decide +kernel
theorem dX6_number_7 : decode cX6_number 7 = .ok (.iconst 0, 1) := by decide +kernel
theorem dX6_number_8 : decode cX6_number 8 = .ok (.ireturn, 1) := by decide +kernel
theorem dX6_number_9 : decode cX6_number 9 = .ok (.aload_n 0, 1) := by decide +kernel
theorem dX6_number_10 : decode cX6_number 10 = .ok (.invokevirtual 86, 3) := by decide +kernel
theorem dX6_number_13 : decode cX6_number 13 = .ok (.invokestatic 103, 3) := by decide +kernel
theorem dX6_number_16 : decode cX6_number 16 = .ok (.ifCond .ne 15, 3) := by decide +kernel
theorem dX6_number_19 : decode cX6_number 19 = .ok (.aload_n 0, 1) := by decide +kernel
theorem dX6_number_20 : decode cX6_number 20 = .ok (.bipush (-2), 2) := by decide +kernel
theorem dX6_number_22 : decode cX6_number 22 = .ok (.aload_n 0, 1) := by decide +kernel
theorem dX6_number_23 : decode cX6_number 23 = .ok (.getfield 70, 3) := by decide +kernel
theorem dX6_number_26 : decode cX6_number 26 = .ok (.invokevirtual 99, 3) := by decide +kernel
theorem dX6_number_29 : decode cX6_number 29 = .ok (.iconst 0, 1) := by decide +kernel
theorem dX6_number_30 : decode cX6_number 30 = .ok (.ireturn, 1) := by decide +kernel
theorem dX6_number_31 : decode cX6_number 31 = .ok (.aload_n 0, 1) := by decide +kernel
theorem dX6_number_32 : decode cX6_number 32 = .ok (.aload_n 0, 1) := by decide +kernel
theorem dX6_number_33 : decode cX6_number 33 = .ok (.getfield 70, 3) := by decide +kernel
theorem dX6_number_36 : decode cX6_number 36 = .ok (.putfield 107, 3) := by decide +kernel
theorem dX6_number_39 : decode cX6_number 39 = .ok (.iconst 0, 1) := by decide +kernel
theorem dX6_number_40 : decode cX6_number 40 = .ok (.istore_n 3, 1) := by decide +kernel
theorem dX6_number_41 : decode cX6_number 41 = .ok (.aload_n 0, 1) := by decide +kernel
theorem dX6_number_42 : decode cX6_number 42 = .ok (.aload_n 0, 1) := by decide +kernel
theorem dX6_number_43 : decode cX6_number 43 = .ok (.getfield 70, 3) := by decide +kernel
theorem dX6_number_46 : decode cX6_number 46 = .ok (.invokevirtual 73, 3) := by decide +kernel
theorem dX6_number_49 : decode cX6_number 49 = .ok (.invokestatic 103, 3) := by decide +kernel
theorem dX6_number_52 : decode cX6_number 52 = .ok (.ifCond .eq 38, 3) := by decide +kernel
theorem dX6_number_55 : decode cX6_number 55 = .ok (.ldc 110, 2) := by decide +kernel
theorem dX6_number_57 : decode cX6_number 57 = .ok (.bipush 10, 2) := by decide +kernel
theorem dX6_number_59 : decode cX6_number 59 = .ok (.iload_n 3, 1) := by decide +kernel
theorem dX6_number_60 : decode cX6_number 60 = .ok (.imul, 1) := by decide +kernel
theorem dX6_number_61 : decode cX6_number 61 = .ok (.aload_n 0, 1) := by decide +kernel
theorem dX6_number_62 : decode cX6_number 62 = .ok (.aload_n 0, 1) := by decide +kernel
theorem dX6_number_63 : decode cX6_number 63 = .ok (.getfield 70, 3) := by decide +kernel
theorem dX6_number_66 : decode cX6_number 66 = .ok (.invokevirtual 73, 3) := by decide +kernel
theorem dX6_number_69 : decode cX6_number 69 = .ok (.iadd, 1) := by decide +kernel
theorem dX6_number_70 : decode cX6_number 70 = .ok (.bipush 48, 2) := by decide +kernel
theorem dX6_number_72 : decode cX6_number 72 = .ok (.isub, 1) := by decide +kernel
theorem dX6_number_73 : decode cX6_number 73 = .ok (.invokestatic 111, 3) := by decide +kernel
theorem dX6_number_76 : decode cX6_number 76 = .ok (.istore_n 3, 1) := by decide +kernel
theorem dX6_number_77 : decode cX6_number 77 = .ok (.aload_n 0, 1) := by decide +kernel
theorem dX6_number_78 : decode cX6_number 78 = .ok (.dup, 1) := by decide +kernel
theorem dX6_number_79 : decode cX6_number 79 = .ok (.getfield 70, 3) := by decide +kernel
theorem dX6_number_82 : decode cX6_number 82 = .ok (.iconst 1, 1) := by decide +kernel
theorem dX6_number_83 : decode cX6_number 83 = .ok (.iadd, 1) := by decide +kernel
theorem dX6_number_84 : decode cX6_number 84 = .ok (.putfield 70, 3) := by decide +kernel
theorem dX6_number_87 : decode cX6_number 87 = .ok (.goto (-46), 3) := by decide +kernel
theorem dX6_number_90 : decode cX6_number 90 = .ok (.iload_n 3, 1) := by decide +kernel
theorem dX6_number_91 : decode cX6_number 91 = .ok (.iload_n 1, 1) := by decide +kernel
theorem dX6_number_92 : decode cX6_number 92 = .ok (.iload_n 2, 1) := by decide +kernel
theorem dX6_number_93 : decode cX6_number 93 = .ok (.invokestatic 54, 3) := by decide +kernel
theorem dX6_number_96 : decode cX6_number 96 = .ok (.ifCond .ne 13, 3) := by decide +kernel
theorem dX6_number_99 : decode cX6_number 99 = .ok (.aload_n 0, 1) := by decide +kernel
theorem dX6_number_100 : decode cX6_number 100 = .ok (.bipush (-3), 2) := by decide +kernel
theorem dX6_number_102 : decode cX6_number 102 = .ok (.aload_n 0, 1) := by decide +kernel
theorem dX6_number_103 : decode cX6_number 103 = .ok (.getfield 107, 3) := by decide +kernel
theorem dX6_number_106 : decode cX6_number 106 = .ok (.invokevirtual 99, 3) := by decide +kernel
theorem dX6_number_109 : decode cX6_number 109 = .ok (.aload_n 0, 1) := by decide +kernel
theorem dX6_number_110 : decode cX6_number 110 = .ok (.invokevirtual 82, 3) := by decide +kernel
theorem dX6_number_113 : decode cX6_number 113 = .ok (.ifCond .eq 7, 3) := by decide +kernel
theorem dX6_number_116 : decode cX6_number 116 = .ok (.iload_n 3, 1) := by decide +kernel
theorem dX6_number_117 : decode cX6_number 117 = .ok (.goto 4, 3) := by decide +kernel
theorem dX6_number_120 : decode cX6_number 120 = .ok (.iconst 0, 1) := by decide +kernel
theorem dX6_number_121 : decode cX6_number 121 = .ok (.ireturn, 1) := by decide +kernel
theorem dX6_once_0 : decode cX6_once 0 = .ok (.aload_n 0, 1) := by decide +kernel
theorem dX6_once_1 : decode cX6_once 1 = .ok (.getfield 115, 3) := by decide +kernel
theorem dX6_once_4 : decode cX6_once 4 = .ok (.iload_n 1, 1) := by decide +kernel
theorem dX6_once_5 : decode cX6_once 5 = .ok (.ishr, 1) := by decide +kernel
theorem dX6_once_6 : decode cX6_once 6 = .ok (.iconst 1, 1) := by decide +kernel
theorem dX6_once_7 : decode cX6_once 7 = .ok (.iand, 1) := by decide +kernel
theorem dX6_once_8 : decode cX6_once 8 = .ok (.iconst 1, 1) := by decide +kernel
theorem dX6_once_9 : decode cX6_once 9 = .ok (.if_icmp .ne 10, 3) := by decide +kernel
theorem dX6_once_12 : decode cX6_once 12 = .ok (.aload_n 0, 1) := by decide +kernel
theorem dX6_once_13 : decode cX6_once 13 = .ok (.bipush (-2), 2) := by decide +kernel
theorem dX6_once_15 : decode cX6_once 15 = .ok (.iload_n 2, 1) := by decide +kernel
theorem dX6_once_16 : decode cX6_once 16 = .ok (.invokevirtual 99, 3) := by decide +kernel
theorem dX6_once_19 : decode cX6_once 19 = .ok (.aload_n 0, 1) := by decide +kernel
theorem dX6_once_20 : decode cX6_once 20 = .ok (.dup, 1) := by decide +kernel
theorem dX6_once_21 : decode cX6_once 21 = .ok (.getfield 115, 3) := by decide +kernel
theorem dX6_once_24 : decode cX6_once 24 = .ok (.iconst 1, 1) := by decide +kernel
theorem dX6_once_25 : decode cX6_once 25 = .ok (.iload_n 1, 1) := by decide +kernel
theorem dX6_once_26 : decode cX6_once 26 = .ok (.ishl, 1) := by decide +kernel
theorem dX6_once_27 : decode cX6_once 27 = .ok (.ior, 1) := by decide +kernel
theorem dX6_once_28 : decode cX6_once 28 = .ok (.putfield 115, 3) := by decide +kernel
theorem dX6_once_31 : decode cX6_once 31 = .ok (.return_, 1) := by decide +kernel
theorem dX6_readReach_0 : decode cX6_readReach 0 = .ok (.aload_n 0, 1) := by decide +kernel
theorem dX6_readReach_1 : decode cX6_readReach 1 = .ok (.getfield 118, 3) := by decide +kernel
theorem dX6_readReach_4 : decode cX6_readReach 4 = .ok (.ifCond .eq 10, 3) := by decide +kernel
theorem dX6_readReach_7 : decode cX6_readReach 7 = .ok (.aload_n 0, 1) := by decide +kernel
theorem dX6_readReach_8 : decode cX6_readReach 8 = .ok (.bipush (-2), 2) := by decide +kernel
theorem dX6_readReach_10 : decode cX6_readReach 10 = .ok (.iload_n 1, 1) := by decide +kernel
theorem dX6_readReach_11 : decode cX6_readReach 11 = .ok (.invokevirtual 99, 3) := by decide +kernel
theorem dX6_readReach_14 : decode cX6_readReach 14 = .ok (.aload_n 0, 1) := by decide +kernel
theorem dX6_readReach_15 : decode cX6_readReach 15 = .ok (.iconst 0, 1) := by decide +kernel
theorem dX6_readReach_16 : decode cX6_readReach 16 = .ok (.iload_n 1, 1) := by decide +kernel
theorem dX6_readReach_17 : decode cX6_readReach 17 = .ok (.invokevirtual 122, 3) := by decide +kernel
theorem dX6_readReach_20 : decode cX6_readReach 20 = .ok (.iconst 0, 1) := by decide +kernel
theorem dX6_readReach_21 : decode cX6_readReach 21 = .ok (.istore_n 2, 1) := by decide +kernel
theorem dX6_readReach_22 : decode cX6_readReach 22 = .ok (.iload_n 2, 1) := by decide +kernel
theorem dX6_readReach_23 : decode cX6_readReach 23 = .ok (.aload_n 0, 1) := by decide +kernel
theorem dX6_readReach_24 : decode cX6_readReach 24 = .ok (.getfield 20, 3) := by decide +kernel
theorem dX6_readReach_27 : decode cX6_readReach 27 = .ok (.iconst 1, 1) := by decide +kernel
theorem dX6_readReach_28 : decode cX6_readReach 28 = .ok (.iaload, 1) := by decide +kernel
theorem dX6_readReach_29 : decode cX6_readReach 29 = .ok (.if_icmp .ge 31, 3) := by decide +kernel
theorem dX6_readReach_32 : decode cX6_readReach 32 = .ok (.aload_n 0, 1) := by decide +kernel
theorem dX6_readReach_33 : decode cX6_readReach 33 = .ok (.getfield 20, 3) := by decide +kernel
theorem dX6_readReach_36 : decode cX6_readReach 36 = .ok (.bipush 6, 2) := by decide +kernel
theorem dX6_readReach_38 : decode cX6_readReach 38 = .ok (.iload_n 2, 1) := by decide +kernel
theorem dX6_readReach_39 : decode cX6_readReach 39 = .ok (.iadd, 1) := by decide +kernel
theorem dX6_readReach_40 : decode cX6_readReach 40 = .ok (.aload_n 0, 1) := by decide +kernel
theorem dX6_readReach_41 : decode cX6_readReach 41 = .ok (.iconst 0, 1) := by decide +kernel
theorem dX6_readReach_42 : decode cX6_readReach 42 = .ok (.aload_n 0, 1) := by decide +kernel
theorem dX6_readReach_43 : decode cX6_readReach 43 = .ok (.getfield 20, 3) := by decide +kernel
theorem dX6_readReach_46 : decode cX6_readReach 46 = .ok (.iconst 0, 1) := by decide +kernel
theorem dX6_readReach_47 : decode cX6_readReach 47 = .ok (.iaload, 1) := by decide +kernel
theorem dX6_readReach_48 : decode cX6_readReach 48 = .ok (.iconst 2, 1) := by decide +kernel
theorem dX6_readReach_49 : decode cX6_readReach 49 = .ok (.idiv, 1) := by decide +kernel
theorem dX6_readReach_50 : decode cX6_readReach 50 = .ok (.invokevirtual 125, 3) := by decide +kernel
theorem dX6_readReach_53 : decode cX6_readReach 53 = .ok (.iastore, 1) := by decide +kernel
theorem dX6_readReach_54 : decode cX6_readReach 54 = .ok (.iinc 2 1, 3) := by decide +kernel
theorem dX6_readReach_57 : decode cX6_readReach 57 = .ok (.goto (-35), 3) := by decide +kernel
theorem dX6_readReach_60 : decode cX6_readReach 60 = .ok (.return_, 1) := by decide +kernel
theorem dX6_readMix_0 : decode cX6_readMix 0 = .ok (.aload_n 0, 1) := by decide +kernel
theorem dX6_readMix_1 : decode cX6_readMix 1 = .ok (.iconst 1, 1) := by decide +kernel
theorem dX6_readMix_2 : decode cX6_readMix 2 = .ok (.bipush 6, 2) := by decide +kernel
theorem dX6_readMix_4 : decode cX6_readMix 4 = .ok (.invokevirtual 125, 3) := by decide +kernel
theorem dX6_readMix_7 : decode cX6_readMix 7 = .ok (.istore_n 1, 1) := by decide +kernel
theorem dX6_readMix_8 : decode cX6_readMix 8 = .ok (.aload_n 0, 1) := by decide +kernel
theorem dX6_readMix_9 : decode cX6_readMix 9 = .ok (.iconst 1, 1) := by decide +kernel
theorem dX6_readMix_10 : decode cX6_readMix 10 = .ok (.bipush 6, 2) := by decide +kernel
theorem dX6_readMix_12 : decode cX6_readMix 12 = .ok (.invokevirtual 125, 3) := by decide +kernel
theorem dX6_readMix_15 : decode cX6_readMix 15 = .ok (.istore_n 2, 1) := by decide +kernel
theorem dX6_readMix_16 : decode cX6_readMix 16 = .ok (.aload_n 0, 1) := by decide +kernel
theorem dX6_readMix_17 : decode cX6_readMix 17 = .ok (.invokevirtual 82, 3) := by decide +kernel
theorem dX6_readMix_20 : decode cX6_readMix 20 = .ok (.ifCond .eq 18, 3) := by decide +kernel
theorem dX6_readMix_23 : decode cX6_readMix 23 = .ok (.iload_n 1, 1) := by decide +kernel
theorem dX6_readMix_24 : decode cX6_readMix 24 = .ok (.iload_n 2, 1) := by decide +kernel
theorem dX6_readMix_25 : decode cX6_readMix 25 = .ok (.if_icmp .ne 13, 3) := by decide +kernel
theorem dX6_readMix_28 : decode cX6_readMix 28 = .ok (.aload_n 0, 1) := by decide +kernel
theorem dX6_readMix_29 : decode cX6_readMix 29 = .ok (.bipush (-3), 2) := by decide +kernel
theorem dX6_readMix_31 : decode cX6_readMix 31 = .ok (.aload_n 0, 1) := by decide +kernel
theorem dX6_readMix_32 : decode cX6_readMix 32 = .ok (.getfield 107, 3) := by decide +kernel
theorem dX6_readMix_35 : decode cX6_readMix 35 = .ok (.invokevirtual 99, 3) := by decide +kernel
theorem dX6_readMix_38 : decode cX6_readMix 38 = .ok (.aload_n 0, 1) := by decide +kernel
theorem dX6_readMix_39 : decode cX6_readMix 39 = .ok (.invokevirtual 82, 3) := by decide +kernel
theorem dX6_readMix_42 : decode cX6_readMix 42 = .ok (.ifCond .eq 30, 3) := by decide +kernel
theorem dX6_readMix_45 : decode cX6_readMix 45 = .ok (.aload_n 0, 1) := by decide +kernel
theorem dX6_readMix_46 : decode cX6_readMix 46 = .ok (.getfield 20, 3) := by decide +kernel
theorem dX6_readMix_49 : decode cX6_readMix 49 = .ok (.bipush 25, 2) := by decide +kernel
theorem dX6_readMix_51 : decode cX6_readMix 51 = .ok (.bipush 7, 2) := by decide +kernel
theorem dX6_readMix_53 : decode cX6_readMix 53 = .ok (.iload_n 1, 1) := by decide +kernel
theorem dX6_readMix_54 : decode cX6_readMix 54 = .ok (.imul, 1) := by decide +kernel
theorem dX6_readMix_55 : decode cX6_readMix 55 = .ok (.iadd, 1) := by decide +kernel
theorem dX6_readMix_56 : decode cX6_readMix 56 = .ok (.iload_n 2, 1) := by decide +kernel
theorem dX6_readMix_57 : decode cX6_readMix 57 = .ok (.iadd, 1) := by decide +kernel
theorem dX6_readMix_58 : decode cX6_readMix 58 = .ok (.iaload, 1) := by decide +kernel
theorem dX6_readMix_59 : decode cX6_readMix 59 = .ok (.ifCond .eq 13, 3) := by decide +kernel
theorem dX6_readMix_62 : decode cX6_readMix 62 = .ok (.aload_n 0, 1) := by decide +kernel
theorem dX6_readMix_63 : decode cX6_readMix 63 = .ok (.bipush (-4), 2) := by decide +kernel
theorem dX6_readMix_65 : decode cX6_readMix 65 = .ok (.aload_n 0, 1) := by decide +kernel
theorem dX6_readMix_66 : decode cX6_readMix 66 = .ok (.getfield 107, 3) := by decide +kernel
theorem dX6_readMix_69 : decode cX6_readMix 69 = .ok (.invokevirtual 99, 3) := by decide +kernel
theorem dX6_readMix_72 : decode cX6_readMix 72 = .ok (.aload_n 0, 1) := by decide +kernel
theorem dX6_readMix_73 : decode cX6_readMix 73 = .ok (.iconst 1, 1) := by decide +kernel
theorem dX6_readMix_74 : decode cX6_readMix 74 = .ok (.bipush 6, 2) := by decide +kernel
theorem dX6_readMix_76 : decode cX6_readMix 76 = .ok (.invokevirtual 125, 3) := by decide +kernel
theorem dX6_readMix_79 : decode cX6_readMix 79 = .ok (.istore_n 3, 1) := by decide +kernel
theorem dX6_readMix_80 : decode cX6_readMix 80 = .ok (.aload_n 0, 1) := by decide +kernel
theorem dX6_readMix_81 : decode cX6_readMix 81 = .ok (.invokevirtual 82, 3) := by decide +kernel
theorem dX6_readMix_84 : decode cX6_readMix 84 = .ok (.ifCond .ne 4, 3) := by decide +kernel
theorem dX6_readMix_87 : decode cX6_readMix 87 = .ok (.return_, 1) := by decide +kernel
theorem dX6_readMix_88 : decode cX6_readMix 88 = .ok (.aload_n 0, 1) := by decide +kernel
theorem dX6_readMix_89 : decode cX6_readMix 89 = .ok (.getfield 20, 3) := by decide +kernel
theorem dX6_readMix_92 : decode cX6_readMix 92 = .ok (.bipush 25, 2) := by decide +kernel
theorem dX6_readMix_94 : decode cX6_readMix 94 = .ok (.bipush 7, 2) := by decide +kernel
theorem dX6_readMix_96 : decode cX6_readMix 96 = .ok (.iload_n 1, 1) := by decide +kernel
theorem dX6_readMix_97 : decode cX6_readMix 97 = .ok (.imul, 1) := by decide +kernel
theorem dX6_readMix_98 : decode cX6_readMix 98 = .ok (.iadd, 1) := by decide +kernel
theorem dX6_readMix_99 : decode cX6_readMix 99 = .ok (.iload_n 2, 1) := by decide +kernel
theorem dX6_readMix_100 : decode cX6_readMix 100 = .ok (.iadd, 1) := by decide +kernel
theorem dX6_readMix_101 : decode cX6_readMix 101 = .ok (.iload_n 3, 1) := by decide +kernel
theorem dX6_readMix_102 : decode cX6_readMix 102 = .ok (.iastore, 1) := by decide +kernel
theorem dX6_readMix_103 : decode cX6_readMix 103 = .ok (.aload_n 0, 1) := by decide +kernel
theorem dX6_readMix_104 : decode cX6_readMix 104 = .ok (.getfield 20, 3) := by decide +kernel
theorem dX6_readMix_107 : decode cX6_readMix 107 = .ok (.bipush 25, 2) := by decide +kernel
theorem dX6_readMix_109 : decode cX6_readMix 109 = .ok (.bipush 7, 2) := by decide +kernel
theorem dX6_readMix_111 : decode cX6_readMix 111 = .ok (.iload_n 2, 1) := by decide +kernel
theorem dX6_readMix_112 : decode cX6_readMix 112 = .ok (.imul, 1) := by decide +kernel
theorem dX6_readMix_113 : decode cX6_readMix 113 = .ok (.iadd, 1) := by decide +kernel
theorem dX6_readMix_114 : decode cX6_readMix 114 = .ok (.iload_n 1, 1) := by decide +kernel
theorem dX6_readMix_115 : decode cX6_readMix 115 = .ok (.iadd, 1) := by decide +kernel
theorem dX6_readMix_116 : decode cX6_readMix 116 = .ok (.iload_n 3, 1) := by decide +kernel
theorem dX6_readMix_117 : decode cX6_readMix 117 = .ok (.iastore, 1) := by decide +kernel
theorem dX6_readMix_118 : decode cX6_readMix 118 = .ok (.return_, 1) := by decide +kernel
theorem dX6_readSpar_0 : decode cX6_readSpar 0 = .ok (.aload_n 0, 1) := by decide +kernel
theorem dX6_readSpar_1 : decode cX6_readSpar 1 = .ok (.invokevirtual 82, 3) := by decide +kernel
theorem dX6_readSpar_4 : decode cX6_readSpar 4 = .ok (.ifCond .ne 4, 3) := by decide +kernel
theorem dX6_readSpar_7 : decode cX6_readSpar 7 = .ok (.return_, 1) := by decide +kernel
theorem dX6_readSpar_8 : decode cX6_readSpar 8 = .ok (.aload_n 0, 1) := by decide +kernel
theorem dX6_readSpar_9 : decode cX6_readSpar 9 = .ok (.iconst 1, 1) := by decide +kernel
theorem dX6_readSpar_10 : decode cX6_readSpar 10 = .ok (.putfield 118, 3) := by decide +kernel
theorem dX6_readSpar_13 : decode cX6_readSpar 13 = .ok (.aload_n 0, 1) := by decide +kernel
theorem dX6_readSpar_14 : decode cX6_readSpar 14 = .ok (.ldc 128, 2) := by decide +kernel
theorem dX6_readSpar_16 : decode cX6_readSpar 16 = .ok (.invokevirtual 130, 3) := by decide +kernel
theorem dX6_readSpar_19 : decode cX6_readSpar 19 = .ok (.istore_n 1, 1) := by decide +kernel
theorem dX6_readSpar_20 : decode cX6_readSpar 20 = .ok (.iload_n 1, 1) := by decide +kernel
theorem dX6_readSpar_21 : decode cX6_readSpar 21 = .ok (.ifCond .ne 22, 3) := by decide +kernel
theorem dX6_readSpar_24 : decode cX6_readSpar 24 = .ok (.aload_n 0, 1) := by decide +kernel
theorem dX6_readSpar_25 : decode cX6_readSpar 25 = .ok (.ldc 134, 2) := by decide +kernel
theorem dX6_readSpar_27 : decode cX6_readSpar 27 = .ok (.invokevirtual 130, 3) := by decide +kernel
theorem dX6_readSpar_30 : decode cX6_readSpar 30 = .ok (.ifCond .ne 13, 3) := by decide +kernel
theorem dX6_readSpar_33 : decode cX6_readSpar 33 = .ok (.aload_n 0, 1) := by decide +kernel
theorem dX6_readSpar_34 : decode cX6_readSpar 34 = .ok (.bipush (-2), 2) := by decide +kernel
theorem dX6_readSpar_36 : decode cX6_readSpar 36 = .ok (.aload_n 0, 1) := by decide +kernel
theorem dX6_readSpar_37 : decode cX6_readSpar 37 = .ok (.getfield 70, 3) := by decide +kernel
theorem dX6_readSpar_40 : decode cX6_readSpar 40 = .ok (.invokevirtual 99, 3) := by decide +kernel
theorem dX6_readSpar_43 : decode cX6_readSpar 43 = .ok (.aload_n 0, 1) := by decide +kernel
theorem dX6_readSpar_44 : decode cX6_readSpar 44 = .ok (.iconst 0, 1) := by decide +kernel
theorem dX6_readSpar_45 : decode cX6_readSpar 45 = .ok (.aload_n 0, 1) := by decide +kernel
theorem dX6_readSpar_46 : decode cX6_readSpar 46 = .ok (.getfield 20, 3) := by decide +kernel
theorem dX6_readSpar_49 : decode cX6_readSpar 49 = .ok (.iconst 0, 1) := by decide +kernel
theorem dX6_readSpar_50 : decode cX6_readSpar 50 = .ok (.iaload, 1) := by decide +kernel
theorem dX6_readSpar_51 : decode cX6_readSpar 51 = .ok (.iconst 1, 1) := by decide +kernel
theorem dX6_readSpar_52 : decode cX6_readSpar 52 = .ok (.isub, 1) := by decide +kernel
theorem dX6_readSpar_53 : decode cX6_readSpar 53 = .ok (.invokevirtual 125, 3) := by decide +kernel
theorem dX6_readSpar_56 : decode cX6_readSpar 56 = .ok (.istore_n 2, 1) := by decide +kernel
theorem dX6_readSpar_57 : decode cX6_readSpar 57 = .ok (.aload_n 0, 1) := by decide +kernel
theorem dX6_readSpar_58 : decode cX6_readSpar 58 = .ok (.iconst 0, 1) := by decide +kernel
theorem dX6_readSpar_59 : decode cX6_readSpar 59 = .ok (.aload_n 0, 1) := by decide +kernel
theorem dX6_readSpar_60 : decode cX6_readSpar 60 = .ok (.getfield 20, 3) := by decide +kernel
theorem dX6_readSpar_63 : decode cX6_readSpar 63 = .ok (.iconst 1, 1) := by decide +kernel
theorem dX6_readSpar_64 : decode cX6_readSpar 64 = .ok (.iaload, 1) := by decide +kernel
theorem dX6_readSpar_65 : decode cX6_readSpar 65 = .ok (.iconst 1, 1) := by decide +kernel
theorem dX6_readSpar_66 : decode cX6_readSpar 66 = .ok (.isub, 1) := by decide +kernel
theorem dX6_readSpar_67 : decode cX6_readSpar 67 = .ok (.invokevirtual 125, 3) := by decide +kernel
theorem dX6_readSpar_70 : decode cX6_readSpar 70 = .ok (.istore_n 3, 1) := by decide +kernel
theorem dX6_readSpar_71 : decode cX6_readSpar 71 = .ok (.aload_n 0, 1) := by decide +kernel
theorem dX6_readSpar_72 : decode cX6_readSpar 72 = .ok (.iconst 1, 1) := by decide +kernel
theorem dX6_readSpar_73 : decode cX6_readSpar 73 = .ok (.bipush 15, 2) := by decide +kernel
theorem dX6_readSpar_75 : decode cX6_readSpar 75 = .ok (.invokevirtual 125, 3) := by decide +kernel
theorem dX6_readSpar_78 : decode cX6_readSpar 78 = .ok (.istore 4, 2) := by decide +kernel
theorem dX6_readSpar_80 : decode cX6_readSpar 80 = .ok (.iconst 0, 1) := by decide +kernel
theorem dX6_readSpar_81 : decode cX6_readSpar 81 = .ok (.istore 5, 2) := by decide +kernel
theorem dX6_readSpar_83 : decode cX6_readSpar 83 = .ok (.iload 5, 2) := by decide +kernel
theorem dX6_readSpar_85 : decode cX6_readSpar 85 = .ok (.iload 4, 2) := by decide +kernel
theorem dX6_readSpar_87 : decode cX6_readSpar 87 = .ok (.if_icmp .ge 80, 3) := by decide +kernel
theorem dX6_readSpar_90 : decode cX6_readSpar 90 = .ok (.aload_n 0, 1) := by decide +kernel
theorem dX6_readSpar_91 : decode cX6_readSpar 91 = .ok (.invokevirtual 82, 3) := by decide +kernel
theorem dX6_readSpar_94 : decode cX6_readSpar 94 = .ok (.ifCond .eq 73, 3) := by decide +kernel
theorem dX6_readSpar_97 : decode cX6_readSpar 97 = .ok (.iload_n 1, 1) := by decide +kernel
theorem dX6_readSpar_98 : decode cX6_readSpar 98 = .ok (.ifCond .eq 7, 3) := by decide +kernel
theorem dX6_readSpar_101 : decode cX6_readSpar 101 = .ok (.iload_n 2, 1) := by decide +kernel
theorem dX6_readSpar_102 : decode cX6_readSpar 102 = .ok (.goto 7, 3) := by decide +kernel
theorem dX6_readSpar_105 : decode cX6_readSpar 105 = .ok (.iload_n 2, 1) := by decide +kernel
theorem dX6_readSpar_106 : decode cX6_readSpar 106 = .ok (.iload 5, 2) := by decide +kernel
theorem dX6_readSpar_108 : decode cX6_readSpar 108 = .ok (.iadd, 1) := by decide +kernel
theorem dX6_readSpar_109 : decode cX6_readSpar 109 = .ok (.istore 6, 2) := by decide +kernel
theorem dX6_readSpar_111 : decode cX6_readSpar 111 = .ok (.iload_n 1, 1) := by decide +kernel
theorem dX6_readSpar_112 : decode cX6_readSpar 112 = .ok (.ifCond .eq 10, 3) := by decide +kernel
theorem dX6_readSpar_115 : decode cX6_readSpar 115 = .ok (.iload_n 3, 1) := by decide +kernel
theorem dX6_readSpar_116 : decode cX6_readSpar 116 = .ok (.iload 5, 2) := by decide +kernel
theorem dX6_readSpar_118 : decode cX6_readSpar 118 = .ok (.iadd, 1) := by decide +kernel
theorem dX6_readSpar_119 : decode cX6_readSpar 119 = .ok (.goto 4, 3) := by decide +kernel
theorem dX6_readSpar_122 : decode cX6_readSpar 122 = .ok (.iload_n 3, 1) := by decide +kernel
theorem dX6_readSpar_123 : decode cX6_readSpar 123 = .ok (.istore 7, 2) := by decide +kernel
theorem dX6_readSpar_125 : decode cX6_readSpar 125 = .ok (.aload_n 0, 1) := by decide +kernel
theorem dX6_readSpar_126 : decode cX6_readSpar 126 = .ok (.getfield 20, 3) := by decide +kernel
theorem dX6_readSpar_129 : decode cX6_readSpar 129 = .ok (.iload 6, 2) := by decide +kernel
theorem dX6_readSpar_131 : decode cX6_readSpar 131 = .ok (.iload 7, 2) := by decide +kernel
theorem dX6_readSpar_133 : decode cX6_readSpar 133 = .ok (.invokestatic 136, 3) := by decide +kernel
theorem dX6_readSpar_136 : decode cX6_readSpar 136 = .ok (.ifCond .eq 25, 3) := by decide +kernel
theorem dX6_readSpar_139 : decode cX6_readSpar 139 = .ok (.aload_n 0, 1) := by decide +kernel
theorem dX6_readSpar_140 : decode cX6_readSpar 140 = .ok (.getfield 20, 3) := by decide +kernel
theorem dX6_readSpar_143 : decode cX6_readSpar 143 = .ok (.sipush 434, 3) := by decide +kernel
theorem dX6_readSpar_146 : decode cX6_readSpar 146 = .ok (.iload 7, 2) := by decide +kernel
theorem dX6_readSpar_148 : decode cX6_readSpar 148 = .ok (.aload_n 0, 1) := by decide +kernel
theorem dX6_readSpar_149 : decode cX6_readSpar 149 = .ok (.getfield 20, 3) := by decide +kernel
theorem dX6_readSpar_152 : decode cX6_readSpar 152 = .ok (.iconst 0, 1) := by decide +kernel
theorem dX6_readSpar_153 : decode cX6_readSpar 153 = .ok (.iaload, 1) := by decide +kernel
theorem dX6_readSpar_154 : decode cX6_readSpar 154 = .ok (.imul, 1) := by decide +kernel
theorem dX6_readSpar_155 : decode cX6_readSpar 155 = .ok (.iadd, 1) := by decide +kernel
theorem dX6_readSpar_156 : decode cX6_readSpar 156 = .ok (.iload 6, 2) := by decide +kernel
theorem dX6_readSpar_158 : decode cX6_readSpar 158 = .ok (.iadd, 1) := by decide +kernel
theorem dX6_readSpar_159 : decode cX6_readSpar 159 = .ok (.iconst 1, 1) := by decide +kernel
theorem dX6_readSpar_160 : decode cX6_readSpar 160 = .ok (.iastore, 1) := by decide +kernel
theorem dX6_readSpar_161 : decode cX6_readSpar 161 = .ok (.iinc 5 1, 3) := by decide +kernel
theorem dX6_readSpar_164 : decode cX6_readSpar 164 = .ok (.goto (-81), 3) := by decide +kernel
theorem dX6_readSpar_167 : decode cX6_readSpar 167 = .ok (.return_, 1) := by decide +kernel
theorem dX6_readLine_0 : decode cX6_readLine 0 = .ok (.aload_n 0, 1) := by decide +kernel
theorem dX6_readLine_1 : decode cX6_readLine 1 = .ok (.invokevirtual 86, 3) := by decide +kernel
theorem dX6_readLine_4 : decode cX6_readLine 4 = .ok (.invokestatic 103, 3) := by decide +kernel
theorem dX6_readLine_7 : decode cX6_readLine 7 = .ok (.ifCond .ne 13, 3) := by decide +kernel
theorem dX6_readLine_10 : decode cX6_readLine 10 = .ok (.aload_n 0, 1) := by decide +kernel
theorem dX6_readLine_11 : decode cX6_readLine 11 = .ok (.bipush (-2), 2) := by decide +kernel
theorem dX6_readLine_13 : decode cX6_readLine 13 = .ok (.aload_n 0, 1) := by decide +kernel
theorem dX6_readLine_14 : decode cX6_readLine 14 = .ok (.getfield 70, 3) := by decide +kernel
theorem dX6_readLine_17 : decode cX6_readLine 17 = .ok (.invokevirtual 99, 3) := by decide +kernel
theorem dX6_readLine_20 : decode cX6_readLine 20 = .ok (.aload_n 0, 1) := by decide +kernel
theorem dX6_readLine_21 : decode cX6_readLine 21 = .ok (.invokevirtual 82, 3) := by decide +kernel
theorem dX6_readLine_24 : decode cX6_readLine 24 = .ok (.ifCond .ne 4, 3) := by decide +kernel
theorem dX6_readLine_27 : decode cX6_readLine 27 = .ok (.return_, 1) := by decide +kernel
theorem dX6_readLine_28 : decode cX6_readLine 28 = .ok (.aload_n 0, 1) := by decide +kernel
theorem dX6_readLine_29 : decode cX6_readLine 29 = .ok (.getfield 70, 3) := by decide +kernel
theorem dX6_readLine_32 : decode cX6_readLine 32 = .ok (.istore_n 2, 1) := by decide +kernel
theorem dX6_readLine_33 : decode cX6_readLine 33 = .ok (.iconst 0, 1) := by decide +kernel
theorem dX6_readLine_34 : decode cX6_readLine 34 = .ok (.istore_n 3, 1) := by decide +kernel
theorem dX6_readLine_35 : decode cX6_readLine 35 = .ok (.aload_n 0, 1) := by decide +kernel
theorem dX6_readLine_36 : decode cX6_readLine 36 = .ok (.getfield 20, 3) := by decide +kernel
theorem dX6_readLine_39 : decode cX6_readLine 39 = .ok (.iload_n 1, 1) := by decide +kernel
theorem dX6_readLine_40 : decode cX6_readLine 40 = .ok (.iconst 1, 1) := by decide +kernel
theorem dX6_readLine_41 : decode cX6_readLine 41 = .ok (.iadd, 1) := by decide +kernel
theorem dX6_readLine_42 : decode cX6_readLine 42 = .ok (.iaload, 1) := by decide +kernel
theorem dX6_readLine_43 : decode cX6_readLine 43 = .ok (.istore 4, 2) := by decide +kernel
theorem dX6_readLine_45 : decode cX6_readLine 45 = .ok (.aload_n 0, 1) := by decide +kernel
theorem dX6_readLine_46 : decode cX6_readLine 46 = .ok (.aload_n 0, 1) := by decide +kernel
theorem dX6_readLine_47 : decode cX6_readLine 47 = .ok (.getfield 70, 3) := by decide +kernel
theorem dX6_readLine_50 : decode cX6_readLine 50 = .ok (.iload_n 3, 1) := by decide +kernel
theorem dX6_readLine_51 : decode cX6_readLine 51 = .ok (.iadd, 1) := by decide +kernel
theorem dX6_readLine_52 : decode cX6_readLine 52 = .ok (.invokevirtual 73, 3) := by decide +kernel
theorem dX6_readLine_55 : decode cX6_readLine 55 = .ok (.invokestatic 103, 3) := by decide +kernel
theorem dX6_readLine_58 : decode cX6_readLine 58 = .ok (.ifCond .eq 9, 3) := by decide +kernel
theorem dX6_readLine_61 : decode cX6_readLine 61 = .ok (.iinc 3 1, 3) := by decide +kernel
theorem dX6_readLine_64 : decode cX6_readLine 64 = .ok (.goto (-19), 3) := by decide +kernel
theorem dX6_readLine_67 : decode cX6_readLine 67 = .ok (.iload_n 3, 1) := by decide +kernel
theorem dX6_readLine_68 : decode cX6_readLine 68 = .ok (.bipush 7, 2) := by decide +kernel
theorem dX6_readLine_70 : decode cX6_readLine 70 = .ok (.if_icmp .gt 20, 3) := by decide +kernel
theorem dX6_readLine_73 : decode cX6_readLine 73 = .ok (.iload 4, 2) := by decide +kernel
theorem dX6_readLine_75 : decode cX6_readLine 75 = .ok (.ifCond .le 22, 3) := by decide +kernel
theorem dX6_readLine_78 : decode cX6_readLine 78 = .ok (.iload_n 3, 1) := by decide +kernel
theorem dX6_readLine_79 : decode cX6_readLine 79 = .ok (.aload_n 0, 1) := by decide +kernel
theorem dX6_readLine_80 : decode cX6_readLine 80 = .ok (.getfield 20, 3) := by decide +kernel
theorem dX6_readLine_83 : decode cX6_readLine 83 = .ok (.iload_n 1, 1) := by decide +kernel
theorem dX6_readLine_84 : decode cX6_readLine 84 = .ok (.iconst 0, 1) := by decide +kernel
theorem dX6_readLine_85 : decode cX6_readLine 85 = .ok (.iadd, 1) := by decide +kernel
theorem dX6_readLine_86 : decode cX6_readLine 86 = .ok (.iaload, 1) := by decide +kernel
theorem dX6_readLine_87 : decode cX6_readLine 87 = .ok (.if_icmp .eq 10, 3) := by decide +kernel
theorem dX6_readLine_90 : decode cX6_readLine 90 = .ok (.aload_n 0, 1) := by decide +kernel
theorem dX6_readLine_91 : decode cX6_readLine 91 = .ok (.bipush (-3), 2) := by decide +kernel
theorem dX6_readLine_93 : decode cX6_readLine 93 = .ok (.iload_n 2, 1) := by decide +kernel
theorem dX6_readLine_94 : decode cX6_readLine 94 = .ok (.invokevirtual 99, 3) := by decide +kernel
theorem dX6_readLine_97 : decode cX6_readLine 97 = .ok (.aload_n 0, 1) := by decide +kernel
theorem dX6_readLine_98 : decode cX6_readLine 98 = .ok (.iload_n 2, 1) := by decide +kernel
theorem dX6_readLine_99 : decode cX6_readLine 99 = .ok (.invokevirtual 73, 3) := by decide +kernel
theorem dX6_readLine_102 : decode cX6_readLine 102 = .ok (.bipush 48, 2) := by decide +kernel
theorem dX6_readLine_104 : decode cX6_readLine 104 = .ok (.isub, 1) := by decide +kernel
theorem dX6_readLine_105 : decode cX6_readLine 105 = .ok (.bipush 6, 2) := by decide +kernel
theorem dX6_readLine_107 : decode cX6_readLine 107 = .ok (.if_icmp .le 10, 3) := by decide +kernel
theorem dX6_readLine_110 : decode cX6_readLine 110 = .ok (.aload_n 0, 1) := by decide +kernel
theorem dX6_readLine_111 : decode cX6_readLine 111 = .ok (.bipush (-3), 2) := by decide +kernel
theorem dX6_readLine_113 : decode cX6_readLine 113 = .ok (.iload_n 2, 1) := by decide +kernel
theorem dX6_readLine_114 : decode cX6_readLine 114 = .ok (.invokevirtual 99, 3) := by decide +kernel
theorem dX6_readLine_117 : decode cX6_readLine 117 = .ok (.iload 4, 2) := by decide +kernel
theorem dX6_readLine_119 : decode cX6_readLine 119 = .ok (.bipush 6, 2) := by decide +kernel
theorem dX6_readLine_121 : decode cX6_readLine 121 = .ok (.if_icmp .ne 10, 3) := by decide +kernel
theorem dX6_readLine_124 : decode cX6_readLine 124 = .ok (.aload_n 0, 1) := by decide +kernel
theorem dX6_readLine_125 : decode cX6_readLine 125 = .ok (.bipush (-5), 2) := by decide +kernel
theorem dX6_readLine_127 : decode cX6_readLine 127 = .ok (.iload_n 2, 1) := by decide +kernel
theorem dX6_readLine_128 : decode cX6_readLine 128 = .ok (.invokevirtual 99, 3) := by decide +kernel
theorem dX6_readLine_131 : decode cX6_readLine 131 = .ok (.iconst 0, 1) := by decide +kernel
theorem dX6_readLine_132 : decode cX6_readLine 132 = .ok (.istore 5, 2) := by decide +kernel
theorem dX6_readLine_134 : decode cX6_readLine 134 = .ok (.iload 5, 2) := by decide +kernel
theorem dX6_readLine_136 : decode cX6_readLine 136 = .ok (.iload_n 3, 1) := by decide +kernel
theorem dX6_readLine_137 : decode cX6_readLine 137 = .ok (.if_icmp .ge 65, 3) := by decide +kernel
theorem dX6_readLine_140 : decode cX6_readLine 140 = .ok (.aload_n 0, 1) := by decide +kernel
theorem dX6_readLine_141 : decode cX6_readLine 141 = .ok (.invokevirtual 82, 3) := by decide +kernel
theorem dX6_readLine_144 : decode cX6_readLine 144 = .ok (.ifCond .eq 58, 3) := by decide +kernel
theorem dX6_readLine_147 : decode cX6_readLine 147 = .ok (.aload_n 0, 1) := by decide +kernel
theorem dX6_readLine_148 : decode cX6_readLine 148 = .ok (.iload_n 2, 1) := by decide +kernel
theorem dX6_readLine_149 : decode cX6_readLine 149 = .ok (.iload 5, 2) := by decide +kernel
theorem dX6_readLine_151 : decode cX6_readLine 151 = .ok (.iadd, 1) := by decide +kernel
theorem dX6_readLine_152 : decode cX6_readLine 152 = .ok (.invokevirtual 73, 3) := by decide +kernel
theorem dX6_readLine_155 : decode cX6_readLine 155 = .ok (.bipush 48, 2) := by decide +kernel
theorem dX6_readLine_157 : decode cX6_readLine 157 = .ok (.isub, 1) := by decide +kernel
theorem dX6_readLine_158 : decode cX6_readLine 158 = .ok (.istore 6, 2) := by decide +kernel
theorem dX6_readLine_160 : decode cX6_readLine 160 = .ok (.iload 6, 2) := by decide +kernel
theorem dX6_readLine_162 : decode cX6_readLine 162 = .ok (.bipush 6, 2) := by decide +kernel
theorem dX6_readLine_164 : decode cX6_readLine 164 = .ok (.if_icmp .le 13, 3) := by decide +kernel
theorem dX6_readLine_167 : decode cX6_readLine 167 = .ok (.aload_n 0, 1) := by decide +kernel
theorem dX6_readLine_168 : decode cX6_readLine 168 = .ok (.bipush (-3), 2) := by decide +kernel
theorem dX6_readLine_170 : decode cX6_readLine 170 = .ok (.iload_n 2, 1) := by decide +kernel
theorem dX6_readLine_171 : decode cX6_readLine 171 = .ok (.iload 5, 2) := by decide +kernel
theorem dX6_readLine_173 : decode cX6_readLine 173 = .ok (.iadd, 1) := by decide +kernel
theorem dX6_readLine_174 : decode cX6_readLine 174 = .ok (.invokevirtual 99, 3) := by decide +kernel
theorem dX6_readLine_177 : decode cX6_readLine 177 = .ok (.aload_n 0, 1) := by decide +kernel
theorem dX6_readLine_178 : decode cX6_readLine 178 = .ok (.getfield 20, 3) := by decide +kernel
theorem dX6_readLine_181 : decode cX6_readLine 181 = .ok (.iload_n 1, 1) := by decide +kernel
theorem dX6_readLine_182 : decode cX6_readLine 182 = .ok (.iconst 2, 1) := by decide +kernel
theorem dX6_readLine_183 : decode cX6_readLine 183 = .ok (.iadd, 1) := by decide +kernel
theorem dX6_readLine_184 : decode cX6_readLine 184 = .ok (.bipush 7, 2) := by decide +kernel
theorem dX6_readLine_186 : decode cX6_readLine 186 = .ok (.iload 4, 2) := by decide +kernel
theorem dX6_readLine_188 : decode cX6_readLine 188 = .ok (.imul, 1) := by decide +kernel
theorem dX6_readLine_189 : decode cX6_readLine 189 = .ok (.iadd, 1) := by decide +kernel
theorem dX6_readLine_190 : decode cX6_readLine 190 = .ok (.iload 5, 2) := by decide +kernel
theorem dX6_readLine_192 : decode cX6_readLine 192 = .ok (.iadd, 1) := by decide +kernel
theorem dX6_readLine_193 : decode cX6_readLine 193 = .ok (.iload 6, 2) := by decide +kernel
theorem dX6_readLine_195 : decode cX6_readLine 195 = .ok (.iastore, 1) := by decide +kernel
theorem dX6_readLine_196 : decode cX6_readLine 196 = .ok (.iinc 5 1, 3) := by decide +kernel
theorem dX6_readLine_199 : decode cX6_readLine 199 = .ok (.goto (-65), 3) := by decide +kernel
theorem dX6_readLine_202 : decode cX6_readLine 202 = .ok (.aload_n 0, 1) := by decide +kernel
theorem dX6_readLine_203 : decode cX6_readLine 203 = .ok (.invokevirtual 82, 3) := by decide +kernel
theorem dX6_readLine_206 : decode cX6_readLine 206 = .ok (.ifCond .ne 4, 3) := by decide +kernel
theorem dX6_readLine_209 : decode cX6_readLine 209 = .ok (.return_, 1) := by decide +kernel
theorem dX6_readLine_210 : decode cX6_readLine 210 = .ok (.aload_n 0, 1) := by decide +kernel
theorem dX6_readLine_211 : decode cX6_readLine 211 = .ok (.getfield 20, 3) := by decide +kernel
theorem dX6_readLine_214 : decode cX6_readLine 214 = .ok (.iload_n 1, 1) := by decide +kernel
theorem dX6_readLine_215 : decode cX6_readLine 215 = .ok (.iconst 0, 1) := by decide +kernel
theorem dX6_readLine_216 : decode cX6_readLine 216 = .ok (.iadd, 1) := by decide +kernel
theorem dX6_readLine_217 : decode cX6_readLine 217 = .ok (.iload_n 3, 1) := by decide +kernel
theorem dX6_readLine_218 : decode cX6_readLine 218 = .ok (.iastore, 1) := by decide +kernel
theorem dX6_readLine_219 : decode cX6_readLine 219 = .ok (.aload_n 0, 1) := by decide +kernel
theorem dX6_readLine_220 : decode cX6_readLine 220 = .ok (.getfield 20, 3) := by decide +kernel
theorem dX6_readLine_223 : decode cX6_readLine 223 = .ok (.iload_n 1, 1) := by decide +kernel
theorem dX6_readLine_224 : decode cX6_readLine 224 = .ok (.iconst 1, 1) := by decide +kernel
theorem dX6_readLine_225 : decode cX6_readLine 225 = .ok (.iadd, 1) := by decide +kernel
theorem dX6_readLine_226 : decode cX6_readLine 226 = .ok (.dup2, 1) := by decide +kernel
theorem dX6_readLine_227 : decode cX6_readLine 227 = .ok (.iaload, 1) := by decide +kernel
theorem dX6_readLine_228 : decode cX6_readLine 228 = .ok (.iconst 1, 1) := by decide +kernel
theorem dX6_readLine_229 : decode cX6_readLine 229 = .ok (.iadd, 1) := by decide +kernel
theorem dX6_readLine_230 : decode cX6_readLine 230 = .ok (.iastore, 1) := by decide +kernel
theorem dX6_readLine_231 : decode cX6_readLine 231 = .ok (.aload_n 0, 1) := by decide +kernel
theorem dX6_readLine_232 : decode cX6_readLine 232 = .ok (.dup, 1) := by decide +kernel
theorem dX6_readLine_233 : decode cX6_readLine 233 = .ok (.getfield 70, 3) := by decide +kernel
theorem dX6_readLine_236 : decode cX6_readLine 236 = .ok (.iload_n 3, 1) := by decide +kernel
theorem dX6_readLine_237 : decode cX6_readLine 237 = .ok (.iadd, 1) := by decide +kernel
theorem dX6_readLine_238 : decode cX6_readLine 238 = .ok (.putfield 70, 3) := by decide +kernel
theorem dX6_readLine_241 : decode cX6_readLine 241 = .ok (.return_, 1) := by decide +kernel
theorem dX6_readPattern_0 : decode cX6_readPattern 0 = .ok (.aload_n 0, 1) := by decide +kernel
theorem dX6_readPattern_1 : decode cX6_readPattern 1 = .ok (.getfield 20, 3) := by decide +kernel
theorem dX6_readPattern_4 : decode cX6_readPattern 4 = .ok (.iconst 5, 1) := by decide +kernel
theorem dX6_readPattern_5 : decode cX6_readPattern 5 = .ok (.iaload, 1) := by decide +kernel
theorem dX6_readPattern_6 : decode cX6_readPattern 6 = .ok (.iconst 3, 1) := by decide +kernel
theorem dX6_readPattern_7 : decode cX6_readPattern 7 = .ok (.if_icmp .ne 10, 3) := by decide +kernel
theorem dX6_readPattern_10 : decode cX6_readPattern 10 = .ok (.aload_n 0, 1) := by decide +kernel
theorem dX6_readPattern_11 : decode cX6_readPattern 11 = .ok (.bipush (-5), 2) := by decide +kernel
theorem dX6_readPattern_13 : decode cX6_readPattern 13 = .ok (.iload_n 1, 1) := by decide +kernel
theorem dX6_readPattern_14 : decode cX6_readPattern 14 = .ok (.invokevirtual 99, 3) := by decide +kernel
theorem dX6_readPattern_17 : decode cX6_readPattern 17 = .ok (.aload_n 0, 1) := by decide +kernel
theorem dX6_readPattern_18 : decode cX6_readPattern 18 = .ok (.invokevirtual 82, 3) := by decide +kernel
theorem dX6_readPattern_21 : decode cX6_readPattern 21 = .ok (.ifCond .ne 4, 3) := by decide +kernel
theorem dX6_readPattern_24 : decode cX6_readPattern 24 = .ok (.return_, 1) := by decide +kernel
theorem dX6_readPattern_25 : decode cX6_readPattern 25 = .ok (.sipush 614, 3) := by decide +kernel
theorem dX6_readPattern_28 : decode cX6_readPattern 28 = .ok (.bipush 44, 2) := by decide +kernel
theorem dX6_readPattern_30 : decode cX6_readPattern 30 = .ok (.aload_n 0, 1) := by decide +kernel
theorem dX6_readPattern_31 : decode cX6_readPattern 31 = .ok (.getfield 20, 3) := by decide +kernel
theorem dX6_readPattern_34 : decode cX6_readPattern 34 = .ok (.iconst 5, 1) := by decide +kernel
theorem dX6_readPattern_35 : decode cX6_readPattern 35 = .ok (.iaload, 1) := by decide +kernel
theorem dX6_readPattern_36 : decode cX6_readPattern 36 = .ok (.imul, 1) := by decide +kernel
theorem dX6_readPattern_37 : decode cX6_readPattern 37 = .ok (.iadd, 1) := by decide +kernel
theorem dX6_readPattern_38 : decode cX6_readPattern 38 = .ok (.istore_n 2, 1) := by decide +kernel
theorem dX6_readPattern_39 : decode cX6_readPattern 39 = .ok (.aload_n 0, 1) := by decide +kernel
theorem dX6_readPattern_40 : decode cX6_readPattern 40 = .ok (.iload_n 2, 1) := by decide +kernel
theorem dX6_readPattern_41 : decode cX6_readPattern 41 = .ok (.invokevirtual 140, 3) := by decide +kernel
theorem dX6_readPattern_44 : decode cX6_readPattern 44 = .ok (.aload_n 0, 1) := by decide +kernel
theorem dX6_readPattern_45 : decode cX6_readPattern 45 = .ok (.invokevirtual 82, 3) := by decide +kernel
theorem dX6_readPattern_48 : decode cX6_readPattern 48 = .ok (.ifCond .eq 13, 3) := by decide +kernel
theorem dX6_readPattern_51 : decode cX6_readPattern 51 = .ok (.aload_n 0, 1) := by decide +kernel
theorem dX6_readPattern_52 : decode cX6_readPattern 52 = .ok (.invokevirtual 86, 3) := by decide +kernel
theorem dX6_readPattern_55 : decode cX6_readPattern 55 = .ok (.invokestatic 103, 3) := by decide +kernel
theorem dX6_readPattern_58 : decode cX6_readPattern 58 = .ok (.ifCond .ne (-19), 3) := by decide +kernel
theorem dX6_readPattern_61 : decode cX6_readPattern 61 = .ok (.aload_n 0, 1) := by decide +kernel
theorem dX6_readPattern_62 : decode cX6_readPattern 62 = .ok (.getfield 20, 3) := by decide +kernel
theorem dX6_readPattern_65 : decode cX6_readPattern 65 = .ok (.iconst 5, 1) := by decide +kernel
theorem dX6_readPattern_66 : decode cX6_readPattern 66 = .ok (.dup2, 1) := by decide +kernel
theorem dX6_readPattern_67 : decode cX6_readPattern 67 = .ok (.iaload, 1) := by decide +kernel
theorem dX6_readPattern_68 : decode cX6_readPattern 68 = .ok (.iconst 1, 1) := by decide +kernel
theorem dX6_readPattern_69 : decode cX6_readPattern 69 = .ok (.iadd, 1) := by decide +kernel
theorem dX6_readPattern_70 : decode cX6_readPattern 70 = .ok (.iastore, 1) := by decide +kernel
theorem dX6_readPattern_71 : decode cX6_readPattern 71 = .ok (.return_, 1) := by decide +kernel
theorem dX6_statement_0 : decode cX6_statement 0 = .ok (.aload_n 0, 1) := by decide +kernel
theorem dX6_statement_1 : decode cX6_statement 1 = .ok (.invokevirtual 86, 3) := by decide +kernel
theorem dX6_statement_4 : decode cX6_statement 4 = .ok (.pop, 1) := by decide +kernel
theorem dX6_statement_5 : decode cX6_statement 5 = .ok (.aload_n 0, 1) := by decide +kernel
theorem dX6_statement_6 : decode cX6_statement 6 = .ok (.getfield 70, 3) := by decide +kernel
theorem dX6_statement_9 : decode cX6_statement 9 = .ok (.istore_n 1, 1) := by decide +kernel
theorem dX6_statement_10 : decode cX6_statement 10 = .ok (.aload_n 0, 1) := by decide +kernel
theorem dX6_statement_11 : decode cX6_statement 11 = .ok (.ldc 144, 2) := by decide +kernel
theorem dX6_statement_13 : decode cX6_statement 13 = .ok (.invokevirtual 130, 3) := by decide +kernel
theorem dX6_statement_16 : decode cX6_statement 16 = .ok (.ifCond .eq 11, 3) := by decide +kernel
theorem dX6_statement_19 : decode cX6_statement 19 = .ok (.aload_n 0, 1) := by decide +kernel
theorem dX6_statement_20 : decode cX6_statement 20 = .ok (.iload_n 1, 1) := by decide +kernel
theorem dX6_statement_21 : decode cX6_statement 21 = .ok (.invokevirtual 146, 3) := by decide +kernel
theorem dX6_statement_24 : decode cX6_statement 24 = .ok (.goto 166, 3) := by decide +kernel
theorem dX6_statement_27 : decode cX6_statement 27 = .ok (.aload_n 0, 1) := by decide +kernel
theorem dX6_statement_28 : decode cX6_statement 28 = .ok (.ldc 149, 2) := by decide +kernel
theorem dX6_statement_30 : decode cX6_statement 30 = .ok (.invokevirtual 130, 3) := by decide +kernel
theorem dX6_statement_33 : decode cX6_statement 33 = .ok (.ifCond .eq 25, 3) := by decide +kernel
theorem dX6_statement_36 : decode cX6_statement 36 = .ok (.aload_n 0, 1) := by decide +kernel
theorem dX6_statement_37 : decode cX6_statement 37 = .ok (.iconst 1, 1) := by decide +kernel
theorem dX6_statement_38 : decode cX6_statement 38 = .ok (.iload_n 1, 1) := by decide +kernel
theorem dX6_statement_39 : decode cX6_statement 39 = .ok (.invokevirtual 122, 3) := by decide +kernel
theorem dX6_statement_42 : decode cX6_statement 42 = .ok (.aload_n 0, 1) := by decide +kernel
theorem dX6_statement_43 : decode cX6_statement 43 = .ok (.getfield 20, 3) := by decide +kernel
theorem dX6_statement_46 : decode cX6_statement 46 = .ok (.iconst 3, 1) := by decide +kernel
theorem dX6_statement_47 : decode cX6_statement 47 = .ok (.aload_n 0, 1) := by decide +kernel
theorem dX6_statement_48 : decode cX6_statement 48 = .ok (.iconst 0, 1) := by decide +kernel
theorem dX6_statement_49 : decode cX6_statement 49 = .ok (.bipush 99, 2) := by decide +kernel
theorem dX6_statement_51 : decode cX6_statement 51 = .ok (.invokevirtual 125, 3) := by decide +kernel
theorem dX6_statement_54 : decode cX6_statement 54 = .ok (.iastore, 1) := by decide +kernel
theorem dX6_statement_55 : decode cX6_statement 55 = .ok (.goto 135, 3) := by decide +kernel
theorem dX6_statement_58 : decode cX6_statement 58 = .ok (.aload_n 0, 1) := by decide +kernel
theorem dX6_statement_59 : decode cX6_statement 59 = .ok (.ldc 151, 2) := by decide +kernel
theorem dX6_statement_61 : decode cX6_statement 61 = .ok (.invokevirtual 130, 3) := by decide +kernel
theorem dX6_statement_64 : decode cX6_statement 64 = .ok (.ifCond .eq 25, 3) := by decide +kernel
theorem dX6_statement_67 : decode cX6_statement 67 = .ok (.aload_n 0, 1) := by decide +kernel
theorem dX6_statement_68 : decode cX6_statement 68 = .ok (.iconst 2, 1) := by decide +kernel
theorem dX6_statement_69 : decode cX6_statement 69 = .ok (.iload_n 1, 1) := by decide +kernel
theorem dX6_statement_70 : decode cX6_statement 70 = .ok (.invokevirtual 122, 3) := by decide +kernel
theorem dX6_statement_73 : decode cX6_statement 73 = .ok (.aload_n 0, 1) := by decide +kernel
theorem dX6_statement_74 : decode cX6_statement 74 = .ok (.getfield 20, 3) := by decide +kernel
theorem dX6_statement_77 : decode cX6_statement 77 = .ok (.iconst 4, 1) := by decide +kernel
theorem dX6_statement_78 : decode cX6_statement 78 = .ok (.aload_n 0, 1) := by decide +kernel
theorem dX6_statement_79 : decode cX6_statement 79 = .ok (.iconst 0, 1) := by decide +kernel
theorem dX6_statement_80 : decode cX6_statement 80 = .ok (.bipush 99, 2) := by decide +kernel
theorem dX6_statement_82 : decode cX6_statement 82 = .ok (.invokevirtual 125, 3) := by decide +kernel
theorem dX6_statement_85 : decode cX6_statement 85 = .ok (.iastore, 1) := by decide +kernel
theorem dX6_statement_86 : decode cX6_statement 86 = .ok (.goto 104, 3) := by decide +kernel
theorem dX6_statement_89 : decode cX6_statement 89 = .ok (.aload_n 0, 1) := by decide +kernel
theorem dX6_statement_90 : decode cX6_statement 90 = .ok (.ldc 153, 2) := by decide +kernel
theorem dX6_statement_92 : decode cX6_statement 92 = .ok (.invokevirtual 130, 3) := by decide +kernel
theorem dX6_statement_95 : decode cX6_statement 95 = .ok (.ifCond .eq 39, 3) := by decide +kernel
theorem dX6_statement_98 : decode cX6_statement 98 = .ok (.aload_n 0, 1) := by decide +kernel
theorem dX6_statement_99 : decode cX6_statement 99 = .ok (.iconst 1, 1) := by decide +kernel
theorem dX6_statement_100 : decode cX6_statement 100 = .ok (.bipush 6, 2) := by decide +kernel
theorem dX6_statement_102 : decode cX6_statement 102 = .ok (.invokevirtual 125, 3) := by decide +kernel
theorem dX6_statement_105 : decode cX6_statement 105 = .ok (.istore_n 2, 1) := by decide +kernel
theorem dX6_statement_106 : decode cX6_statement 106 = .ok (.aload_n 0, 1) := by decide +kernel
theorem dX6_statement_107 : decode cX6_statement 107 = .ok (.iconst 0, 1) := by decide +kernel
theorem dX6_statement_108 : decode cX6_statement 108 = .ok (.bipush 99, 2) := by decide +kernel
theorem dX6_statement_110 : decode cX6_statement 110 = .ok (.invokevirtual 125, 3) := by decide +kernel
theorem dX6_statement_113 : decode cX6_statement 113 = .ok (.istore_n 3, 1) := by decide +kernel
theorem dX6_statement_114 : decode cX6_statement 114 = .ok (.aload_n 0, 1) := by decide +kernel
theorem dX6_statement_115 : decode cX6_statement 115 = .ok (.invokevirtual 82, 3) := by decide +kernel
theorem dX6_statement_118 : decode cX6_statement 118 = .ok (.ifCond .eq 13, 3) := by decide +kernel
theorem dX6_statement_121 : decode cX6_statement 121 = .ok (.aload_n 0, 1) := by decide +kernel
theorem dX6_statement_122 : decode cX6_statement 122 = .ok (.getfield 20, 3) := by decide +kernel
theorem dX6_statement_125 : decode cX6_statement 125 = .ok (.bipush 18, 2) := by decide +kernel
theorem dX6_statement_127 : decode cX6_statement 127 = .ok (.iload_n 2, 1) := by decide +kernel
theorem dX6_statement_128 : decode cX6_statement 128 = .ok (.iadd, 1) := by decide +kernel
theorem dX6_statement_129 : decode cX6_statement 129 = .ok (.iload_n 3, 1) := by decide +kernel
theorem dX6_statement_130 : decode cX6_statement 130 = .ok (.iastore, 1) := by decide +kernel
theorem dX6_statement_131 : decode cX6_statement 131 = .ok (.goto 59, 3) := by decide +kernel
theorem dX6_statement_134 : decode cX6_statement 134 = .ok (.aload_n 0, 1) := by decide +kernel
theorem dX6_statement_135 : decode cX6_statement 135 = .ok (.ldc 155, 2) := by decide +kernel
theorem dX6_statement_137 : decode cX6_statement 137 = .ok (.invokevirtual 130, 3) := by decide +kernel
theorem dX6_statement_140 : decode cX6_statement 140 = .ok (.ifCond .eq 10, 3) := by decide +kernel
theorem dX6_statement_143 : decode cX6_statement 143 = .ok (.aload_n 0, 1) := by decide +kernel
theorem dX6_statement_144 : decode cX6_statement 144 = .ok (.invokevirtual 157, 3) := by decide +kernel
theorem dX6_statement_147 : decode cX6_statement 147 = .ok (.goto 43, 3) := by decide +kernel
theorem dX6_statement_150 : decode cX6_statement 150 = .ok (.aload_n 0, 1) := by decide +kernel
theorem dX6_statement_151 : decode cX6_statement 151 = .ok (.ldc 160, 2) := by decide +kernel
theorem dX6_statement_153 : decode cX6_statement 153 = .ok (.invokevirtual 130, 3) := by decide +kernel
theorem dX6_statement_156 : decode cX6_statement 156 = .ok (.ifCond .eq 10, 3) := by decide +kernel
theorem dX6_statement_159 : decode cX6_statement 159 = .ok (.aload_n 0, 1) := by decide +kernel
theorem dX6_statement_160 : decode cX6_statement 160 = .ok (.invokevirtual 162, 3) := by decide +kernel
theorem dX6_statement_163 : decode cX6_statement 163 = .ok (.goto 27, 3) := by decide +kernel
theorem dX6_statement_166 : decode cX6_statement 166 = .ok (.aload_n 0, 1) := by decide +kernel
theorem dX6_statement_167 : decode cX6_statement 167 = .ok (.ldc 165, 2) := by decide +kernel
theorem dX6_statement_169 : decode cX6_statement 169 = .ok (.invokevirtual 130, 3) := by decide +kernel
theorem dX6_statement_172 : decode cX6_statement 172 = .ok (.ifCond .eq 11, 3) := by decide +kernel
theorem dX6_statement_175 : decode cX6_statement 175 = .ok (.aload_n 0, 1) := by decide +kernel
theorem dX6_statement_176 : decode cX6_statement 176 = .ok (.iload_n 1, 1) := by decide +kernel
theorem dX6_statement_177 : decode cX6_statement 177 = .ok (.invokevirtual 167, 3) := by decide +kernel
theorem dX6_statement_180 : decode cX6_statement 180 = .ok (.goto 10, 3) := by decide +kernel
theorem dX6_statement_183 : decode cX6_statement 183 = .ok (.aload_n 0, 1) := by decide +kernel
theorem dX6_statement_184 : decode cX6_statement 184 = .ok (.bipush (-2), 2) := by decide +kernel
theorem dX6_statement_186 : decode cX6_statement 186 = .ok (.iload_n 1, 1) := by decide +kernel
theorem dX6_statement_187 : decode cX6_statement 187 = .ok (.invokevirtual 99, 3) := by decide +kernel
theorem dX6_statement_190 : decode cX6_statement 190 = .ok (.aload_n 0, 1) := by decide +kernel
theorem dX6_statement_191 : decode cX6_statement 191 = .ok (.bipush 59, 2) := by decide +kernel
theorem dX6_statement_193 : decode cX6_statement 193 = .ok (.invokevirtual 170, 3) := by decide +kernel
theorem dX6_statement_196 : decode cX6_statement 196 = .ok (.return_, 1) := by decide +kernel
theorem dX6_load_0 : decode cX6_load 0 = .ok (.aload_n 0, 1) := by decide +kernel
theorem dX6_load_1 : decode cX6_load 1 = .ok (.iconst 0, 1) := by decide +kernel
theorem dX6_load_2 : decode cX6_load 2 = .ok (.putfield 51, 3) := by decide +kernel
theorem dX6_load_5 : decode cX6_load 5 = .ok (.aload_n 0, 1) := by decide +kernel
theorem dX6_load_6 : decode cX6_load 6 = .ok (.iload_n 1, 1) := by decide +kernel
theorem dX6_load_7 : decode cX6_load 7 = .ok (.iconst 0, 1) := by decide +kernel
theorem dX6_load_8 : decode cX6_load 8 = .ok (.aload_n 0, 1) := by decide +kernel
theorem dX6_load_9 : decode cX6_load 9 = .ok (.getfield 64, 3) := by decide +kernel
theorem dX6_load_12 : decode cX6_load 12 = .ok (.invokestatic 54, 3) := by decide +kernel
theorem dX6_load_15 : decode cX6_load 15 = .ok (.ifCond .ne 7, 3) := by decide +kernel
theorem dX6_load_18 : decode cX6_load 18 = .ok (.iconst 1, 1) := by decide +kernel
theorem dX6_load_19 : decode cX6_load 19 = .ok (.goto 4, 3) := by decide +kernel
theorem dX6_load_22 : decode cX6_load 22 = .ok (.iconst 0, 1) := by decide +kernel
theorem dX6_load_23 : decode cX6_load 23 = .ok (.iconst 1, 1) := by decide +kernel
theorem dX6_load_24 : decode cX6_load 24 = .ok (.invokevirtual 173, 3) := by decide +kernel
theorem dX6_load_27 : decode cX6_load 27 = .ok (.ifCond .eq 5, 3) := by decide +kernel
theorem dX6_load_30 : decode cX6_load 30 = .ok (.iconst 0, 1) := by decide +kernel
theorem dX6_load_31 : decode cX6_load 31 = .ok (.ireturn, 1) := by decide +kernel
theorem dX6_load_32 : decode cX6_load 32 = .ok (.aload_n 0, 1) := by decide +kernel
theorem dX6_load_33 : decode cX6_load 33 = .ok (.iconst 0, 1) := by decide +kernel
theorem dX6_load_34 : decode cX6_load 34 = .ok (.putfield 64, 3) := by decide +kernel
theorem dX6_load_37 : decode cX6_load 37 = .ok (.aload_n 0, 1) := by decide +kernel
theorem dX6_load_38 : decode cX6_load 38 = .ok (.iload_n 1, 1) := by decide +kernel
theorem dX6_load_39 : decode cX6_load 39 = .ok (.putfield 67, 3) := by decide +kernel
theorem dX6_load_42 : decode cX6_load 42 = .ok (.aload_n 0, 1) := by decide +kernel
theorem dX6_load_43 : decode cX6_load 43 = .ok (.iconst 0, 1) := by decide +kernel
theorem dX6_load_44 : decode cX6_load 44 = .ok (.putfield 70, 3) := by decide +kernel
theorem dX6_load_47 : decode cX6_load 47 = .ok (.aload_n 0, 1) := by decide +kernel
theorem dX6_load_48 : decode cX6_load 48 = .ok (.iconst 0, 1) := by decide +kernel
theorem dX6_load_49 : decode cX6_load 49 = .ok (.putfield 76, 3) := by decide +kernel
theorem dX6_load_52 : decode cX6_load 52 = .ok (.aload_n 0, 1) := by decide +kernel
theorem dX6_load_53 : decode cX6_load 53 = .ok (.iconst (-1), 1) := by decide +kernel
theorem dX6_load_54 : decode cX6_load 54 = .ok (.putfield 79, 3) := by decide +kernel
theorem dX6_load_57 : decode cX6_load 57 = .ok (.aload_n 0, 1) := by decide +kernel
theorem dX6_load_58 : decode cX6_load 58 = .ok (.iconst 0, 1) := by decide +kernel
theorem dX6_load_59 : decode cX6_load 59 = .ok (.putfield 115, 3) := by decide +kernel
theorem dX6_load_62 : decode cX6_load 62 = .ok (.aload_n 0, 1) := by decide +kernel
theorem dX6_load_63 : decode cX6_load 63 = .ok (.iconst 0, 1) := by decide +kernel
theorem dX6_load_64 : decode cX6_load 64 = .ok (.putfield 118, 3) := by decide +kernel
theorem dX6_load_67 : decode cX6_load 67 = .ok (.aload_n 0, 1) := by decide +kernel
theorem dX6_load_68 : decode cX6_load 68 = .ok (.ldc 177, 2) := by decide +kernel
theorem dX6_load_70 : decode cX6_load 70 = .ok (.invokevirtual 130, 3) := by decide +kernel
theorem dX6_load_73 : decode cX6_load 73 = .ok (.ifCond .ne 13, 3) := by decide +kernel
theorem dX6_load_76 : decode cX6_load 76 = .ok (.aload_n 0, 1) := by decide +kernel
theorem dX6_load_77 : decode cX6_load 77 = .ok (.bipush (-2), 2) := by decide +kernel
theorem dX6_load_79 : decode cX6_load 79 = .ok (.aload_n 0, 1) := by decide +kernel
theorem dX6_load_80 : decode cX6_load 80 = .ok (.getfield 70, 3) := by decide +kernel
theorem dX6_load_83 : decode cX6_load 83 = .ok (.invokevirtual 99, 3) := by decide +kernel
theorem dX6_load_86 : decode cX6_load 86 = .ok (.aload_n 0, 1) := by decide +kernel
theorem dX6_load_87 : decode cX6_load 87 = .ok (.iconst 1, 1) := by decide +kernel
theorem dX6_load_88 : decode cX6_load 88 = .ok (.bipush 15, 2) := by decide +kernel
theorem dX6_load_90 : decode cX6_load 90 = .ok (.invokevirtual 125, 3) := by decide +kernel
theorem dX6_load_93 : decode cX6_load 93 = .ok (.istore_n 2, 1) := by decide +kernel
theorem dX6_load_94 : decode cX6_load 94 = .ok (.aload_n 0, 1) := by decide +kernel
theorem dX6_load_95 : decode cX6_load 95 = .ok (.invokevirtual 82, 3) := by decide +kernel
theorem dX6_load_98 : decode cX6_load 98 = .ok (.ifCond .eq 19, 3) := by decide +kernel
theorem dX6_load_101 : decode cX6_load 101 = .ok (.iload_n 2, 1) := by decide +kernel
theorem dX6_load_102 : decode cX6_load 102 = .ok (.iconst 2, 1) := by decide +kernel
theorem dX6_load_103 : decode cX6_load 103 = .ok (.irem, 1) := by decide +kernel
theorem dX6_load_104 : decode cX6_load 104 = .ok (.ifCond .ne 13, 3) := by decide +kernel
theorem dX6_load_107 : decode cX6_load 107 = .ok (.aload_n 0, 1) := by decide +kernel
theorem dX6_load_108 : decode cX6_load 108 = .ok (.bipush (-3), 2) := by decide +kernel
theorem dX6_load_110 : decode cX6_load 110 = .ok (.aload_n 0, 1) := by decide +kernel
theorem dX6_load_111 : decode cX6_load 111 = .ok (.getfield 107, 3) := by decide +kernel
theorem dX6_load_114 : decode cX6_load 114 = .ok (.invokevirtual 99, 3) := by decide +kernel
theorem dX6_load_117 : decode cX6_load 117 = .ok (.aload_n 0, 1) := by decide +kernel
theorem dX6_load_118 : decode cX6_load 118 = .ok (.iconst 1, 1) := by decide +kernel
theorem dX6_load_119 : decode cX6_load 119 = .ok (.bipush 12, 2) := by decide +kernel
theorem dX6_load_121 : decode cX6_load 121 = .ok (.invokevirtual 125, 3) := by decide +kernel
theorem dX6_load_124 : decode cX6_load 124 = .ok (.istore_n 3, 1) := by decide +kernel
theorem dX6_load_125 : decode cX6_load 125 = .ok (.aload_n 0, 1) := by decide +kernel
theorem dX6_load_126 : decode cX6_load 126 = .ok (.getfield 20, 3) := by decide +kernel
theorem dX6_load_129 : decode cX6_load 129 = .ok (.iload_n 2, 1) := by decide +kernel
theorem dX6_load_130 : decode cX6_load 130 = .ok (.iload_n 3, 1) := by decide +kernel
theorem dX6_load_131 : decode cX6_load 131 = .ok (.invokestatic 47, 3) := by decide +kernel
theorem dX6_load_134 : decode cX6_load 134 = .ok (.aload_n 0, 1) := by decide +kernel
theorem dX6_load_135 : decode cX6_load 135 = .ok (.bipush 59, 2) := by decide +kernel
theorem dX6_load_137 : decode cX6_load 137 = .ok (.invokevirtual 170, 3) := by decide +kernel
theorem dX6_load_140 : decode cX6_load 140 = .ok (.aload_n 0, 1) := by decide +kernel
theorem dX6_load_141 : decode cX6_load 141 = .ok (.invokevirtual 82, 3) := by decide +kernel
theorem dX6_load_144 : decode cX6_load 144 = .ok (.ifCond .eq 18, 3) := by decide +kernel
theorem dX6_load_147 : decode cX6_load 147 = .ok (.aload_n 0, 1) := by decide +kernel
theorem dX6_load_148 : decode cX6_load 148 = .ok (.invokevirtual 86, 3) := by decide +kernel
theorem dX6_load_151 : decode cX6_load 151 = .ok (.iconst (-1), 1) := by decide +kernel
theorem dX6_load_152 : decode cX6_load 152 = .ok (.if_icmp .eq 10, 3) := by decide +kernel
theorem dX6_load_155 : decode cX6_load 155 = .ok (.aload_n 0, 1) := by decide +kernel
theorem dX6_load_156 : decode cX6_load 156 = .ok (.invokevirtual 179, 3) := by decide +kernel
theorem dX6_load_159 : decode cX6_load 159 = .ok (.goto (-19), 3) := by decide +kernel
theorem dX6_load_162 : decode cX6_load 162 = .ok (.aload_n 0, 1) := by decide +kernel
theorem dX6_load_163 : decode cX6_load 163 = .ok (.aload_n 0, 1) := by decide +kernel
theorem dX6_load_164 : decode cX6_load 164 = .ok (.getfield 79, 3) := by decide +kernel
theorem dX6_load_167 : decode cX6_load 167 = .ok (.putfield 13, 3) := by decide +kernel
theorem dX6_load_170 : decode cX6_load 170 = .ok (.aload_n 0, 1) := by decide +kernel
theorem dX6_load_171 : decode cX6_load 171 = .ok (.invokevirtual 82, 3) := by decide +kernel
theorem dX6_load_174 : decode cX6_load 174 = .ok (.ifCond .ne 8, 3) := by decide +kernel
theorem dX6_load_177 : decode cX6_load 177 = .ok (.aload_n 0, 1) := by decide +kernel
theorem dX6_load_178 : decode cX6_load 178 = .ok (.getfield 76, 3) := by decide +kernel
theorem dX6_load_181 : decode cX6_load 181 = .ok (.ireturn, 1) := by decide +kernel
theorem dX6_load_182 : decode cX6_load 182 = .ok (.aload_n 0, 1) := by decide +kernel
theorem dX6_load_183 : decode cX6_load 183 = .ok (.invokevirtual 182, 3) := by decide +kernel
theorem dX6_load_186 : decode cX6_load 186 = .ok (.aload_n 0, 1) := by decide +kernel
theorem dX6_load_187 : decode cX6_load 187 = .ok (.getfield 20, 3) := by decide +kernel
theorem dX6_load_190 : decode cX6_load 190 = .ok (.aload_n 0, 1) := by decide +kernel
theorem dX6_load_191 : decode cX6_load 191 = .ok (.getfield 17, 3) := by decide +kernel
theorem dX6_load_194 : decode cX6_load 194 = .ok (.invokestatic 185, 3) := by decide +kernel
theorem dX6_load_197 : decode cX6_load 197 = .ok (.aload_n 0, 1) := by decide +kernel
theorem dX6_load_198 : decode cX6_load 198 = .ok (.invokevirtual 189, 3) := by decide +kernel
theorem dX6_load_201 : decode cX6_load 201 = .ok (.ireturn, 1) := by decide +kernel
theorem dX6_errorOffset_0 : decode cX6_errorOffset 0 = .ok (.aload_n 0, 1) := by decide +kernel
theorem dX6_errorOffset_1 : decode cX6_errorOffset 1 = .ok (.iconst 0, 1) := by decide +kernel
theorem dX6_errorOffset_2 : decode cX6_errorOffset 2 = .ok (.putfield 51, 3) := by decide +kernel
theorem dX6_errorOffset_5 : decode cX6_errorOffset 5 = .ok (.aload_n 0, 1) := by decide +kernel
theorem dX6_errorOffset_6 : decode cX6_errorOffset 6 = .ok (.getfield 13, 3) := by decide +kernel
theorem dX6_errorOffset_9 : decode cX6_errorOffset 9 = .ok (.ireturn, 1) := by decide +kernel
theorem dX6_cells_0 : decode cX6_cells 0 = .ok (.aload_n 0, 1) := by decide +kernel
theorem dX6_cells_1 : decode cX6_cells 1 = .ok (.getfield 17, 3) := by decide +kernel
theorem dX6_cells_4 : decode cX6_cells 4 = .ok (.iconst 0, 1) := by decide +kernel
theorem dX6_cells_5 : decode cX6_cells 5 = .ok (.iaload, 1) := by decide +kernel
theorem dX6_cells_6 : decode cX6_cells 6 = .ok (.aload_n 0, 1) := by decide +kernel
theorem dX6_cells_7 : decode cX6_cells 7 = .ok (.getfield 17, 3) := by decide +kernel
theorem dX6_cells_10 : decode cX6_cells 10 = .ok (.iconst 1, 1) := by decide +kernel
theorem dX6_cells_11 : decode cX6_cells 11 = .ok (.iaload, 1) := by decide +kernel
theorem dX6_cells_12 : decode cX6_cells 12 = .ok (.imul, 1) := by decide +kernel
theorem dX6_cells_13 : decode cX6_cells 13 = .ok (.ireturn, 1) := by decide +kernel
theorem dX6_xOf_0 : decode cX6_xOf 0 = .ok (.iload_n 1, 1) := by decide +kernel
theorem dX6_xOf_1 : decode cX6_xOf 1 = .ok (.aload_n 0, 1) := by decide +kernel
theorem dX6_xOf_2 : decode cX6_xOf 2 = .ok (.getfield 17, 3) := by decide +kernel
theorem dX6_xOf_5 : decode cX6_xOf 5 = .ok (.iconst 0, 1) := by decide +kernel
theorem dX6_xOf_6 : decode cX6_xOf 6 = .ok (.iaload, 1) := by decide +kernel
theorem dX6_xOf_7 : decode cX6_xOf 7 = .ok (.irem, 1) := by decide +kernel
theorem dX6_xOf_8 : decode cX6_xOf 8 = .ok (.ireturn, 1) := by decide +kernel
theorem dX6_yOf_0 : decode cX6_yOf 0 = .ok (.iload_n 1, 1) := by decide +kernel
theorem dX6_yOf_1 : decode cX6_yOf 1 = .ok (.aload_n 0, 1) := by decide +kernel
theorem dX6_yOf_2 : decode cX6_yOf 2 = .ok (.getfield 17, 3) := by decide +kernel
theorem dX6_yOf_5 : decode cX6_yOf 5 = .ok (.iconst 0, 1) := by decide +kernel
theorem dX6_yOf_6 : decode cX6_yOf 6 = .ok (.iaload, 1) := by decide +kernel
theorem dX6_yOf_7 : decode cX6_yOf 7 = .ok (.idiv, 1) := by decide +kernel
theorem dX6_yOf_8 : decode cX6_yOf 8 = .ok (.ireturn, 1) := by decide +kernel
theorem dX6_isOf_0 : decode cX6_isOf 0 = .ok (.aload_n 0, 1) := by decide +kernel
theorem dX6_isOf_1 : decode cX6_isOf 1 = .ok (.getfield 17, 3) := by decide +kernel
theorem dX6_isOf_4 : decode cX6_isOf 4 = .ok (.iload_n 1, 1) := by decide +kernel
theorem dX6_isOf_5 : decode cX6_isOf 5 = .ok (.iload_n 2, 1) := by decide +kernel
theorem dX6_isOf_6 : decode cX6_isOf 6 = .ok (.invokestatic 136, 3) := by decide +kernel
theorem dX6_isOf_9 : decode cX6_isOf 9 = .ok (.ireturn, 1) := by decide +kernel
theorem dX6_isCell_0 : decode cX6_isCell 0 = .ok (.aload_n 0, 1) := by decide +kernel
theorem dX6_isCell_1 : decode cX6_isCell 1 = .ok (.aload_n 0, 1) := by decide +kernel
theorem dX6_isCell_2 : decode cX6_isCell 2 = .ok (.iload_n 1, 1) := by decide +kernel
theorem dX6_isCell_3 : decode cX6_isCell 3 = .ok (.invokevirtual 192, 3) := by decide +kernel
theorem dX6_isCell_6 : decode cX6_isCell 6 = .ok (.aload_n 0, 1) := by decide +kernel
theorem dX6_isCell_7 : decode cX6_isCell 7 = .ok (.iload_n 1, 1) := by decide +kernel
theorem dX6_isCell_8 : decode cX6_isCell 8 = .ok (.invokevirtual 195, 3) := by decide +kernel
theorem dX6_isCell_11 : decode cX6_isCell 11 = .ok (.invokevirtual 198, 3) := by decide +kernel
theorem dX6_isCell_14 : decode cX6_isCell 14 = .ok (.ireturn, 1) := by decide +kernel
theorem dX6_mirrorOf_0 : decode cX6_mirrorOf 0 = .ok (.aload_n 0, 1) := by decide +kernel
theorem dX6_mirrorOf_1 : decode cX6_mirrorOf 1 = .ok (.iload_n 1, 1) := by decide +kernel
theorem dX6_mirrorOf_2 : decode cX6_mirrorOf 2 = .ok (.invokevirtual 195, 3) := by decide +kernel
theorem dX6_mirrorOf_5 : decode cX6_mirrorOf 5 = .ok (.aload_n 0, 1) := by decide +kernel
theorem dX6_mirrorOf_6 : decode cX6_mirrorOf 6 = .ok (.getfield 17, 3) := by decide +kernel
theorem dX6_mirrorOf_9 : decode cX6_mirrorOf 9 = .ok (.iconst 0, 1) := by decide +kernel
theorem dX6_mirrorOf_10 : decode cX6_mirrorOf 10 = .ok (.iaload, 1) := by decide +kernel
theorem dX6_mirrorOf_11 : decode cX6_mirrorOf 11 = .ok (.imul, 1) := by decide +kernel
theorem dX6_mirrorOf_12 : decode cX6_mirrorOf 12 = .ok (.aload_n 0, 1) := by decide +kernel
theorem dX6_mirrorOf_13 : decode cX6_mirrorOf 13 = .ok (.getfield 17, 3) := by decide +kernel
theorem dX6_mirrorOf_16 : decode cX6_mirrorOf 16 = .ok (.iconst 0, 1) := by decide +kernel
theorem dX6_mirrorOf_17 : decode cX6_mirrorOf 17 = .ok (.iaload, 1) := by decide +kernel
theorem dX6_mirrorOf_18 : decode cX6_mirrorOf 18 = .ok (.iadd, 1) := by decide +kernel
theorem dX6_mirrorOf_19 : decode cX6_mirrorOf 19 = .ok (.iconst 1, 1) := by decide +kernel
theorem dX6_mirrorOf_20 : decode cX6_mirrorOf 20 = .ok (.isub, 1) := by decide +kernel
theorem dX6_mirrorOf_21 : decode cX6_mirrorOf 21 = .ok (.aload_n 0, 1) := by decide +kernel
theorem dX6_mirrorOf_22 : decode cX6_mirrorOf 22 = .ok (.iload_n 1, 1) := by decide +kernel
theorem dX6_mirrorOf_23 : decode cX6_mirrorOf 23 = .ok (.invokevirtual 192, 3) := by decide +kernel
theorem dX6_mirrorOf_26 : decode cX6_mirrorOf 26 = .ok (.isub, 1) := by decide +kernel
theorem dX6_mirrorOf_27 : decode cX6_mirrorOf 27 = .ok (.ireturn, 1) := by decide +kernel
theorem dX6_beside_0 : decode cX6_beside 0 = .ok (.aload_n 0, 1) := by decide +kernel
theorem dX6_beside_1 : decode cX6_beside 1 = .ok (.iload_n 1, 1) := by decide +kernel
theorem dX6_beside_2 : decode cX6_beside 2 = .ok (.invokevirtual 192, 3) := by decide +kernel
theorem dX6_beside_5 : decode cX6_beside 5 = .ok (.iload_n 2, 1) := by decide +kernel
theorem dX6_beside_6 : decode cX6_beside 6 = .ok (.iconst 2, 1) := by decide +kernel
theorem dX6_beside_7 : decode cX6_beside 7 = .ok (.if_icmp .ne 7, 3) := by decide +kernel
theorem dX6_beside_10 : decode cX6_beside 10 = .ok (.iconst (-1), 1) := by decide +kernel
theorem dX6_beside_11 : decode cX6_beside 11 = .ok (.goto 13, 3) := by decide +kernel
theorem dX6_beside_14 : decode cX6_beside 14 = .ok (.iload_n 2, 1) := by decide +kernel
theorem dX6_beside_15 : decode cX6_beside 15 = .ok (.iconst 3, 1) := by decide +kernel
theorem dX6_beside_16 : decode cX6_beside 16 = .ok (.if_icmp .ne 7, 3) := by decide +kernel
theorem dX6_beside_19 : decode cX6_beside 19 = .ok (.iconst 1, 1) := by decide +kernel
theorem dX6_beside_20 : decode cX6_beside 20 = .ok (.goto 4, 3) := by decide +kernel
theorem dX6_beside_23 : decode cX6_beside 23 = .ok (.iconst 0, 1) := by decide +kernel
theorem dX6_beside_24 : decode cX6_beside 24 = .ok (.iadd, 1) := by decide +kernel
theorem dX6_beside_25 : decode cX6_beside 25 = .ok (.istore_n 3, 1) := by decide +kernel
theorem dX6_beside_26 : decode cX6_beside 26 = .ok (.aload_n 0, 1) := by decide +kernel
theorem dX6_beside_27 : decode cX6_beside 27 = .ok (.iload_n 1, 1) := by decide +kernel
theorem dX6_beside_28 : decode cX6_beside 28 = .ok (.invokevirtual 195, 3) := by decide +kernel
theorem dX6_beside_31 : decode cX6_beside 31 = .ok (.iload_n 2, 1) := by decide +kernel
theorem dX6_beside_32 : decode cX6_beside 32 = .ok (.ifCond .ne 7, 3) := by decide +kernel
theorem dX6_beside_35 : decode cX6_beside 35 = .ok (.iconst (-1), 1) := by decide +kernel
theorem dX6_beside_36 : decode cX6_beside 36 = .ok (.goto 13, 3) := by decide +kernel
theorem dX6_beside_39 : decode cX6_beside 39 = .ok (.iload_n 2, 1) := by decide +kernel
theorem dX6_beside_40 : decode cX6_beside 40 = .ok (.iconst 1, 1) := by decide +kernel
theorem dX6_beside_41 : decode cX6_beside 41 = .ok (.if_icmp .ne 7, 3) := by decide +kernel
theorem dX6_beside_44 : decode cX6_beside 44 = .ok (.iconst 1, 1) := by decide +kernel
theorem dX6_beside_45 : decode cX6_beside 45 = .ok (.goto 4, 3) := by decide +kernel
theorem dX6_beside_48 : decode cX6_beside 48 = .ok (.iconst 0, 1) := by decide +kernel
theorem dX6_beside_49 : decode cX6_beside 49 = .ok (.iadd, 1) := by decide +kernel
theorem dX6_beside_50 : decode cX6_beside 50 = .ok (.istore 4, 2) := by decide +kernel
theorem dX6_beside_52 : decode cX6_beside 52 = .ok (.aload_n 0, 1) := by decide +kernel
theorem dX6_beside_53 : decode cX6_beside 53 = .ok (.iload_n 3, 1) := by decide +kernel
theorem dX6_beside_54 : decode cX6_beside 54 = .ok (.iload 4, 2) := by decide +kernel
theorem dX6_beside_56 : decode cX6_beside 56 = .ok (.invokevirtual 198, 3) := by decide +kernel
theorem dX6_beside_59 : decode cX6_beside 59 = .ok (.ifCond .eq 17, 3) := by decide +kernel
theorem dX6_beside_62 : decode cX6_beside 62 = .ok (.iload 4, 2) := by decide +kernel
theorem dX6_beside_64 : decode cX6_beside 64 = .ok (.aload_n 0, 1) := by decide +kernel
theorem dX6_beside_65 : decode cX6_beside 65 = .ok (.getfield 17, 3) := by decide +kernel
theorem dX6_beside_68 : decode cX6_beside 68 = .ok (.iconst 0, 1) := by decide +kernel
theorem dX6_beside_69 : decode cX6_beside 69 = .ok (.iaload, 1) := by decide +kernel
theorem dX6_beside_70 : decode cX6_beside 70 = .ok (.imul, 1) := by decide +kernel
theorem dX6_beside_71 : decode cX6_beside 71 = .ok (.iload_n 3, 1) := by decide +kernel
theorem dX6_beside_72 : decode cX6_beside 72 = .ok (.iadd, 1) := by decide +kernel
theorem dX6_beside_73 : decode cX6_beside 73 = .ok (.goto 4, 3) := by decide +kernel
theorem dX6_beside_76 : decode cX6_beside 76 = .ok (.iconst (-1), 1) := by decide +kernel
theorem dX6_beside_77 : decode cX6_beside 77 = .ok (.ireturn, 1) := by decide +kernel
theorem dX6_mixOf_0 : decode cX6_mixOf 0 = .ok (.aload_n 0, 1) := by decide +kernel
theorem dX6_mixOf_1 : decode cX6_mixOf 1 = .ok (.getfield 17, 3) := by decide +kernel
theorem dX6_mixOf_4 : decode cX6_mixOf 4 = .ok (.bipush 25, 2) := by decide +kernel
theorem dX6_mixOf_6 : decode cX6_mixOf 6 = .ok (.bipush 7, 2) := by decide +kernel
theorem dX6_mixOf_8 : decode cX6_mixOf 8 = .ok (.iload_n 1, 1) := by decide +kernel
theorem dX6_mixOf_9 : decode cX6_mixOf 9 = .ok (.imul, 1) := by decide +kernel
theorem dX6_mixOf_10 : decode cX6_mixOf 10 = .ok (.iadd, 1) := by decide +kernel
theorem dX6_mixOf_11 : decode cX6_mixOf 11 = .ok (.iload_n 2, 1) := by decide +kernel
theorem dX6_mixOf_12 : decode cX6_mixOf 12 = .ok (.iadd, 1) := by decide +kernel
theorem dX6_mixOf_13 : decode cX6_mixOf 13 = .ok (.iaload, 1) := by decide +kernel
theorem dX6_mixOf_14 : decode cX6_mixOf 14 = .ok (.istore_n 3, 1) := by decide +kernel
theorem dX6_mixOf_15 : decode cX6_mixOf 15 = .ok (.iload_n 1, 1) := by decide +kernel
theorem dX6_mixOf_16 : decode cX6_mixOf 16 = .ok (.iload_n 2, 1) := by decide +kernel
theorem dX6_mixOf_17 : decode cX6_mixOf 17 = .ok (.if_icmp .ne 7, 3) := by decide +kernel
theorem dX6_mixOf_20 : decode cX6_mixOf 20 = .ok (.iload_n 1, 1) := by decide +kernel
theorem dX6_mixOf_21 : decode cX6_mixOf 21 = .ok (.goto 16, 3) := by decide +kernel
theorem dX6_mixOf_24 : decode cX6_mixOf 24 = .ok (.iload_n 3, 1) := by decide +kernel
theorem dX6_mixOf_25 : decode cX6_mixOf 25 = .ok (.ifCond .le 7, 3) := by decide +kernel
theorem dX6_mixOf_28 : decode cX6_mixOf 28 = .ok (.iload_n 3, 1) := by decide +kernel
theorem dX6_mixOf_29 : decode cX6_mixOf 29 = .ok (.goto 8, 3) := by decide +kernel
theorem dX6_mixOf_32 : decode cX6_mixOf 32 = .ok (.iload_n 1, 1) := by decide +kernel
theorem dX6_mixOf_33 : decode cX6_mixOf 33 = .ok (.iload_n 2, 1) := by decide +kernel
theorem dX6_mixOf_34 : decode cX6_mixOf 34 = .ok (.invokestatic 202, 3) := by decide +kernel
theorem dX6_mixOf_37 : decode cX6_mixOf 37 = .ok (.ireturn, 1) := by decide +kernel
theorem dX6_sailCells_0 : decode cX6_sailCells 0 = .ok (.iconst 0, 1) := by decide +kernel
theorem dX6_sailCells_1 : decode cX6_sailCells 1 = .ok (.istore_n 1, 1) := by decide +kernel
theorem dX6_sailCells_2 : decode cX6_sailCells 2 = .ok (.iconst 0, 1) := by decide +kernel
theorem dX6_sailCells_3 : decode cX6_sailCells 3 = .ok (.istore_n 2, 1) := by decide +kernel
theorem dX6_sailCells_4 : decode cX6_sailCells 4 = .ok (.iload_n 2, 1) := by decide +kernel
theorem dX6_sailCells_5 : decode cX6_sailCells 5 = .ok (.aload_n 0, 1) := by decide +kernel
theorem dX6_sailCells_6 : decode cX6_sailCells 6 = .ok (.invokevirtual 205, 3) := by decide +kernel
theorem dX6_sailCells_9 : decode cX6_sailCells 9 = .ok (.if_icmp .ge 25, 3) := by decide +kernel
theorem dX6_sailCells_12 : decode cX6_sailCells 12 = .ok (.iload_n 1, 1) := by decide +kernel
theorem dX6_sailCells_13 : decode cX6_sailCells 13 = .ok (.aload_n 0, 1) := by decide +kernel
theorem dX6_sailCells_14 : decode cX6_sailCells 14 = .ok (.iload_n 2, 1) := by decide +kernel
theorem dX6_sailCells_15 : decode cX6_sailCells 15 = .ok (.invokevirtual 208, 3) := by decide +kernel
theorem dX6_sailCells_18 : decode cX6_sailCells 18 = .ok (.ifCond .eq 7, 3) := by decide +kernel
theorem dX6_sailCells_21 : decode cX6_sailCells 21 = .ok (.iconst 1, 1) := by decide +kernel
theorem dX6_sailCells_22 : decode cX6_sailCells 22 = .ok (.goto 4, 3) := by decide +kernel
theorem dX6_sailCells_25 : decode cX6_sailCells 25 = .ok (.iconst 0, 1) := by decide +kernel
theorem dX6_sailCells_26 : decode cX6_sailCells 26 = .ok (.iadd, 1) := by decide +kernel
theorem dX6_sailCells_27 : decode cX6_sailCells 27 = .ok (.istore_n 1, 1) := by decide +kernel
theorem dX6_sailCells_28 : decode cX6_sailCells 28 = .ok (.iinc 2 1, 3) := by decide +kernel
theorem dX6_sailCells_31 : decode cX6_sailCells 31 = .ok (.goto (-27), 3) := by decide +kernel
theorem dX6_sailCells_34 : decode cX6_sailCells 34 = .ok (.iload_n 1, 1) := by decide +kernel
theorem dX6_sailCells_35 : decode cX6_sailCells 35 = .ok (.ireturn, 1) := by decide +kernel
theorem dX6_colourWeight_0 : decode cX6_colourWeight 0 = .ok (.iload_n 1, 1) := by decide +kernel
theorem dX6_colourWeight_1 : decode cX6_colourWeight 1 = .ok (.ifCond .ne 7, 3) := by decide +kernel
theorem dX6_colourWeight_4 : decode cX6_colourWeight 4 = .ok (.iconst 0, 1) := by decide +kernel
theorem dX6_colourWeight_5 : decode cX6_colourWeight 5 = .ok (.goto 12, 3) := by decide +kernel
theorem dX6_colourWeight_8 : decode cX6_colourWeight 8 = .ok (.aload_n 0, 1) := by decide +kernel
theorem dX6_colourWeight_9 : decode cX6_colourWeight 9 = .ok (.getfield 17, 3) := by decide +kernel
theorem dX6_colourWeight_12 : decode cX6_colourWeight 12 = .ok (.bipush 18, 2) := by decide +kernel
theorem dX6_colourWeight_14 : decode cX6_colourWeight 14 = .ok (.iload_n 1, 1) := by decide +kernel
theorem dX6_colourWeight_15 : decode cX6_colourWeight 15 = .ok (.iadd, 1) := by decide +kernel
theorem dX6_colourWeight_16 : decode cX6_colourWeight 16 = .ok (.iaload, 1) := by decide +kernel
theorem dX6_colourWeight_17 : decode cX6_colourWeight 17 = .ok (.ireturn, 1) := by decide +kernel
theorem dX6_weightOf_0 : decode cX6_weightOf 0 = .ok (.aload_n 0, 1) := by decide +kernel
theorem dX6_weightOf_1 : decode cX6_weightOf 1 = .ok (.getfield 17, 3) := by decide +kernel
theorem dX6_weightOf_4 : decode cX6_weightOf 4 = .ok (.iconst 3, 1) := by decide +kernel
theorem dX6_weightOf_5 : decode cX6_weightOf 5 = .ok (.iaload, 1) := by decide +kernel
theorem dX6_weightOf_6 : decode cX6_weightOf 6 = .ok (.aload_n 0, 1) := by decide +kernel
theorem dX6_weightOf_7 : decode cX6_weightOf 7 = .ok (.aload_n 0, 1) := by decide +kernel
theorem dX6_weightOf_8 : decode cX6_weightOf 8 = .ok (.getfield 17, 3) := by decide +kernel
theorem dX6_weightOf_11 : decode cX6_weightOf 11 = .ok (.bipush 74, 2) := by decide +kernel
theorem dX6_weightOf_13 : decode cX6_weightOf 13 = .ok (.iload_n 1, 1) := by decide +kernel
theorem dX6_weightOf_14 : decode cX6_weightOf 14 = .ok (.iadd, 1) := by decide +kernel
theorem dX6_weightOf_15 : decode cX6_weightOf 15 = .ok (.iaload, 1) := by decide +kernel
theorem dX6_weightOf_16 : decode cX6_weightOf 16 = .ok (.invokevirtual 211, 3) := by decide +kernel
theorem dX6_weightOf_19 : decode cX6_weightOf 19 = .ok (.iadd, 1) := by decide +kernel
theorem dX6_weightOf_20 : decode cX6_weightOf 20 = .ok (.aload_n 0, 1) := by decide +kernel
theorem dX6_weightOf_21 : decode cX6_weightOf 21 = .ok (.getfield 17, 3) := by decide +kernel
theorem dX6_weightOf_24 : decode cX6_weightOf 24 = .ok (.sipush 434, 3) := by decide +kernel
theorem dX6_weightOf_27 : decode cX6_weightOf 27 = .ok (.iload_n 1, 1) := by decide +kernel
theorem dX6_weightOf_28 : decode cX6_weightOf 28 = .ok (.iadd, 1) := by decide +kernel
theorem dX6_weightOf_29 : decode cX6_weightOf 29 = .ok (.iaload, 1) := by decide +kernel
theorem dX6_weightOf_30 : decode cX6_weightOf 30 = .ok (.aload_n 0, 1) := by decide +kernel
theorem dX6_weightOf_31 : decode cX6_weightOf 31 = .ok (.getfield 17, 3) := by decide +kernel
theorem dX6_weightOf_34 : decode cX6_weightOf 34 = .ok (.iconst 4, 1) := by decide +kernel
theorem dX6_weightOf_35 : decode cX6_weightOf 35 = .ok (.iaload, 1) := by decide +kernel
theorem dX6_weightOf_36 : decode cX6_weightOf 36 = .ok (.imul, 1) := by decide +kernel
theorem dX6_weightOf_37 : decode cX6_weightOf 37 = .ok (.iadd, 1) := by decide +kernel
theorem dX6_weightOf_38 : decode cX6_weightOf 38 = .ok (.ireturn, 1) := by decide +kernel
theorem dX6_weightAt_0 : decode cX6_weightAt 0 = .ok (.iconst 0, 1) := by decide +kernel
theorem dX6_weightAt_1 : decode cX6_weightAt 1 = .ok (.istore_n 2, 1) := by decide +kernel
theorem dX6_weightAt_2 : decode cX6_weightAt 2 = .ok (.iconst 0, 1) := by decide +kernel
theorem dX6_weightAt_3 : decode cX6_weightAt 3 = .ok (.istore_n 3, 1) := by decide +kernel
theorem dX6_weightAt_4 : decode cX6_weightAt 4 = .ok (.iload_n 3, 1) := by decide +kernel
theorem dX6_weightAt_5 : decode cX6_weightAt 5 = .ok (.aload_n 0, 1) := by decide +kernel
theorem dX6_weightAt_6 : decode cX6_weightAt 6 = .ok (.invokevirtual 205, 3) := by decide +kernel
theorem dX6_weightAt_9 : decode cX6_weightAt 9 = .ok (.if_icmp .ge 50, 3) := by decide +kernel
theorem dX6_weightAt_12 : decode cX6_weightAt 12 = .ok (.iload_n 2, 1) := by decide +kernel
theorem dX6_weightAt_13 : decode cX6_weightAt 13 = .ok (.aload_n 0, 1) := by decide +kernel
theorem dX6_weightAt_14 : decode cX6_weightAt 14 = .ok (.iload_n 3, 1) := by decide +kernel
theorem dX6_weightAt_15 : decode cX6_weightAt 15 = .ok (.invokevirtual 208, 3) := by decide +kernel
theorem dX6_weightAt_18 : decode cX6_weightAt 18 = .ok (.ifCond .eq 32, 3) := by decide +kernel
theorem dX6_weightAt_21 : decode cX6_weightAt 21 = .ok (.aload_n 0, 1) := by decide +kernel
theorem dX6_weightAt_22 : decode cX6_weightAt 22 = .ok (.iload_n 3, 1) := by decide +kernel
theorem dX6_weightAt_23 : decode cX6_weightAt 23 = .ok (.invokevirtual 192, 3) := by decide +kernel
theorem dX6_weightAt_26 : decode cX6_weightAt 26 = .ok (.aload_n 0, 1) := by decide +kernel
theorem dX6_weightAt_27 : decode cX6_weightAt 27 = .ok (.getfield 17, 3) := by decide +kernel
theorem dX6_weightAt_30 : decode cX6_weightAt 30 = .ok (.iconst 0, 1) := by decide +kernel
theorem dX6_weightAt_31 : decode cX6_weightAt 31 = .ok (.iaload, 1) := by decide +kernel
theorem dX6_weightAt_32 : decode cX6_weightAt 32 = .ok (.iconst 2, 1) := by decide +kernel
theorem dX6_weightAt_33 : decode cX6_weightAt 33 = .ok (.idiv, 1) := by decide +kernel
theorem dX6_weightAt_34 : decode cX6_weightAt 34 = .ok (.isub, 1) := by decide +kernel
theorem dX6_weightAt_35 : decode cX6_weightAt 35 = .ok (.invokestatic 214, 3) := by decide +kernel
theorem dX6_weightAt_38 : decode cX6_weightAt 38 = .ok (.iload_n 1, 1) := by decide +kernel
theorem dX6_weightAt_39 : decode cX6_weightAt 39 = .ok (.if_icmp .ne 11, 3) := by decide +kernel
theorem dX6_weightAt_42 : decode cX6_weightAt 42 = .ok (.aload_n 0, 1) := by decide +kernel
theorem dX6_weightAt_43 : decode cX6_weightAt 43 = .ok (.iload_n 3, 1) := by decide +kernel
theorem dX6_weightAt_44 : decode cX6_weightAt 44 = .ok (.invokevirtual 219, 3) := by decide +kernel
theorem dX6_weightAt_47 : decode cX6_weightAt 47 = .ok (.goto 4, 3) := by decide +kernel
theorem dX6_weightAt_50 : decode cX6_weightAt 50 = .ok (.iconst 0, 1) := by decide +kernel
theorem dX6_weightAt_51 : decode cX6_weightAt 51 = .ok (.iadd, 1) := by decide +kernel
theorem dX6_weightAt_52 : decode cX6_weightAt 52 = .ok (.istore_n 2, 1) := by decide +kernel
theorem dX6_weightAt_53 : decode cX6_weightAt 53 = .ok (.iinc 3 1, 3) := by decide +kernel
theorem dX6_weightAt_56 : decode cX6_weightAt 56 = .ok (.goto (-52), 3) := by decide +kernel
theorem dX6_weightAt_59 : decode cX6_weightAt 59 = .ok (.iload_n 2, 1) := by decide +kernel
theorem dX6_weightAt_60 : decode cX6_weightAt 60 = .ok (.ireturn, 1) := by decide +kernel
theorem dX6_balance_0 : decode cX6_balance 0 = .ok (.aload_n 0, 1) := by decide +kernel
theorem dX6_balance_1 : decode cX6_balance 1 = .ok (.iconst 1, 1) := by decide +kernel
theorem dX6_balance_2 : decode cX6_balance 2 = .ok (.invokevirtual 222, 3) := by decide +kernel
theorem dX6_balance_5 : decode cX6_balance 5 = .ok (.aload_n 0, 1) := by decide +kernel
theorem dX6_balance_6 : decode cX6_balance 6 = .ok (.iconst (-1), 1) := by decide +kernel
theorem dX6_balance_7 : decode cX6_balance 7 = .ok (.invokevirtual 222, 3) := by decide +kernel
theorem dX6_balance_10 : decode cX6_balance 10 = .ok (.isub, 1) := by decide +kernel
theorem dX6_balance_11 : decode cX6_balance 11 = .ok (.ireturn, 1) := by decide +kernel
theorem dX6_source_0 : decode cX6_source 0 = .ok (.iconst (-1), 1) := by decide +kernel
theorem dX6_source_1 : decode cX6_source 1 = .ok (.istore_n 2, 1) := by decide +kernel
theorem dX6_source_2 : decode cX6_source 2 = .ok (.iconst 0, 1) := by decide +kernel
theorem dX6_source_3 : decode cX6_source 3 = .ok (.istore_n 3, 1) := by decide +kernel
theorem dX6_source_4 : decode cX6_source 4 = .ok (.iload_n 3, 1) := by decide +kernel
theorem dX6_source_5 : decode cX6_source 5 = .ok (.iconst 4, 1) := by decide +kernel
theorem dX6_source_6 : decode cX6_source 6 = .ok (.if_icmp .ge 143, 3) := by decide +kernel
theorem dX6_source_9 : decode cX6_source 9 = .ok (.aload_n 0, 1) := by decide +kernel
theorem dX6_source_10 : decode cX6_source 10 = .ok (.iload_n 1, 1) := by decide +kernel
theorem dX6_source_11 : decode cX6_source 11 = .ok (.iload_n 3, 1) := by decide +kernel
theorem dX6_source_12 : decode cX6_source 12 = .ok (.invokevirtual 225, 3) := by decide +kernel
theorem dX6_source_15 : decode cX6_source 15 = .ok (.istore 4, 2) := by decide +kernel
theorem dX6_source_17 : decode cX6_source 17 = .ok (.iload 4, 2) := by decide +kernel
theorem dX6_source_19 : decode cX6_source 19 = .ok (.iconst (-1), 1) := by decide +kernel
theorem dX6_source_20 : decode cX6_source 20 = .ok (.if_icmp .eq 123, 3) := by decide +kernel
theorem dX6_source_23 : decode cX6_source 23 = .ok (.aload_n 0, 1) := by decide +kernel
theorem dX6_source_24 : decode cX6_source 24 = .ok (.getfield 17, 3) := by decide +kernel
theorem dX6_source_27 : decode cX6_source 27 = .ok (.sipush 434, 3) := by decide +kernel
theorem dX6_source_30 : decode cX6_source 30 = .ok (.iload 4, 2) := by decide +kernel
theorem dX6_source_32 : decode cX6_source 32 = .ok (.iadd, 1) := by decide +kernel
theorem dX6_source_33 : decode cX6_source 33 = .ok (.iaload, 1) := by decide +kernel
theorem dX6_source_34 : decode cX6_source 34 = .ok (.iconst 1, 1) := by decide +kernel
theorem dX6_source_35 : decode cX6_source 35 = .ok (.if_icmp .eq 108, 3) := by decide +kernel
theorem dX6_source_38 : decode cX6_source 38 = .ok (.aload_n 0, 1) := by decide +kernel
theorem dX6_source_39 : decode cX6_source 39 = .ok (.getfield 17, 3) := by decide +kernel
theorem dX6_source_42 : decode cX6_source 42 = .ok (.sipush 254, 3) := by decide +kernel
theorem dX6_source_45 : decode cX6_source 45 = .ok (.iload 4, 2) := by decide +kernel
theorem dX6_source_47 : decode cX6_source 47 = .ok (.iadd, 1) := by decide +kernel
theorem dX6_source_48 : decode cX6_source 48 = .ok (.iaload, 1) := by decide +kernel
theorem dX6_source_49 : decode cX6_source 49 = .ok (.aload_n 0, 1) := by decide +kernel
theorem dX6_source_50 : decode cX6_source 50 = .ok (.getfield 17, 3) := by decide +kernel
theorem dX6_source_53 : decode cX6_source 53 = .ok (.sipush 254, 3) := by decide +kernel
theorem dX6_source_56 : decode cX6_source 56 = .ok (.iload_n 1, 1) := by decide +kernel
theorem dX6_source_57 : decode cX6_source 57 = .ok (.iadd, 1) := by decide +kernel
theorem dX6_source_58 : decode cX6_source 58 = .ok (.iaload, 1) := by decide +kernel
theorem dX6_source_59 : decode cX6_source 59 = .ok (.iconst 2, 1) := by decide +kernel
theorem dX6_source_60 : decode cX6_source 60 = .ok (.iadd, 1) := by decide +kernel
theorem dX6_source_61 : decode cX6_source 61 = .ok (.if_icmp .ge 6, 3) := by decide +kernel
theorem dX6_source_64 : decode cX6_source 64 = .ok (.goto 79, 3) := by decide +kernel
theorem dX6_source_67 : decode cX6_source 67 = .ok (.iload_n 2, 1) := by decide +kernel
theorem dX6_source_68 : decode cX6_source 68 = .ok (.iconst (-1), 1) := by decide +kernel
theorem dX6_source_69 : decode cX6_source 69 = .ok (.if_icmp .ne 7, 3) := by decide +kernel
theorem dX6_source_72 : decode cX6_source 72 = .ok (.iconst 1, 1) := by decide +kernel
theorem dX6_source_73 : decode cX6_source 73 = .ok (.goto 49, 3) := by decide +kernel
theorem dX6_source_76 : decode cX6_source 76 = .ok (.bipush 10, 2) := by decide +kernel
theorem dX6_source_78 : decode cX6_source 78 = .ok (.aload_n 0, 1) := by decide +kernel
theorem dX6_source_79 : decode cX6_source 79 = .ok (.getfield 17, 3) := by decide +kernel
theorem dX6_source_82 : decode cX6_source 82 = .ok (.sipush 254, 3) := by decide +kernel
theorem dX6_source_85 : decode cX6_source 85 = .ok (.iload 4, 2) := by decide +kernel
theorem dX6_source_87 : decode cX6_source 87 = .ok (.iadd, 1) := by decide +kernel
theorem dX6_source_88 : decode cX6_source 88 = .ok (.iaload, 1) := by decide +kernel
theorem dX6_source_89 : decode cX6_source 89 = .ok (.aload_n 0, 1) := by decide +kernel
theorem dX6_source_90 : decode cX6_source 90 = .ok (.getfield 17, 3) := by decide +kernel
theorem dX6_source_93 : decode cX6_source 93 = .ok (.sipush 254, 3) := by decide +kernel
theorem dX6_source_96 : decode cX6_source 96 = .ok (.iload_n 2, 1) := by decide +kernel
theorem dX6_source_97 : decode cX6_source 97 = .ok (.iadd, 1) := by decide +kernel
theorem dX6_source_98 : decode cX6_source 98 = .ok (.iaload, 1) := by decide +kernel
theorem dX6_source_99 : decode cX6_source 99 = .ok (.isub, 1) := by decide +kernel
theorem dX6_source_100 : decode cX6_source 100 = .ok (.imul, 1) := by decide +kernel
theorem dX6_source_101 : decode cX6_source 101 = .ok (.aload_n 0, 1) := by decide +kernel
theorem dX6_source_102 : decode cX6_source 102 = .ok (.getfield 17, 3) := by decide +kernel
theorem dX6_source_105 : decode cX6_source 105 = .ok (.bipush 74, 2) := by decide +kernel
theorem dX6_source_107 : decode cX6_source 107 = .ok (.iload 4, 2) := by decide +kernel
theorem dX6_source_109 : decode cX6_source 109 = .ok (.iadd, 1) := by decide +kernel
theorem dX6_source_110 : decode cX6_source 110 = .ok (.iaload, 1) := by decide +kernel
theorem dX6_source_111 : decode cX6_source 111 = .ok (.iadd, 1) := by decide +kernel
theorem dX6_source_112 : decode cX6_source 112 = .ok (.aload_n 0, 1) := by decide +kernel
theorem dX6_source_113 : decode cX6_source 113 = .ok (.getfield 17, 3) := by decide +kernel
theorem dX6_source_116 : decode cX6_source 116 = .ok (.bipush 74, 2) := by decide +kernel
theorem dX6_source_118 : decode cX6_source 118 = .ok (.iload_n 2, 1) := by decide +kernel
theorem dX6_source_119 : decode cX6_source 119 = .ok (.iadd, 1) := by decide +kernel
theorem dX6_source_120 : decode cX6_source 120 = .ok (.iaload, 1) := by decide +kernel
theorem dX6_source_121 : decode cX6_source 121 = .ok (.isub, 1) := by decide +kernel
theorem dX6_source_122 : decode cX6_source 122 = .ok (.istore 5, 2) := by decide +kernel
theorem dX6_source_124 : decode cX6_source 124 = .ok (.iload 5, 2) := by decide +kernel
theorem dX6_source_126 : decode cX6_source 126 = .ok (.ifCond .gt 14, 3) := by decide +kernel
theorem dX6_source_129 : decode cX6_source 129 = .ok (.iload 5, 2) := by decide +kernel
theorem dX6_source_131 : decode cX6_source 131 = .ok (.ifCond .ne 12, 3) := by decide +kernel
theorem dX6_source_134 : decode cX6_source 134 = .ok (.iload 4, 2) := by decide +kernel
theorem dX6_source_136 : decode cX6_source 136 = .ok (.iload_n 2, 1) := by decide +kernel
theorem dX6_source_137 : decode cX6_source 137 = .ok (.if_icmp .ge 6, 3) := by decide +kernel
theorem dX6_source_140 : decode cX6_source 140 = .ok (.iload 4, 2) := by decide +kernel
theorem dX6_source_142 : decode cX6_source 142 = .ok (.istore_n 2, 1) := by decide +kernel
theorem dX6_source_143 : decode cX6_source 143 = .ok (.iinc 3 1, 3) := by decide +kernel
theorem dX6_source_146 : decode cX6_source 146 = .ok (.goto (-142), 3) := by decide +kernel
theorem dX6_source_149 : decode cX6_source 149 = .ok (.iload_n 2, 1) := by decide +kernel
theorem dX6_source_150 : decode cX6_source 150 = .ok (.ireturn, 1) := by decide +kernel
theorem dX6_toldBleeds_0 : decode cX6_toldBleeds 0 = .ok (.aload_n 0, 1) := by decide +kernel
theorem dX6_toldBleeds_1 : decode cX6_toldBleeds 1 = .ok (.getfield 17, 3) := by decide +kernel
theorem dX6_toldBleeds_4 : decode cX6_toldBleeds 4 = .ok (.sipush 434, 3) := by decide +kernel
theorem dX6_toldBleeds_7 : decode cX6_toldBleeds 7 = .ok (.iload_n 1, 1) := by decide +kernel
theorem dX6_toldBleeds_8 : decode cX6_toldBleeds 8 = .ok (.iadd, 1) := by decide +kernel
theorem dX6_toldBleeds_9 : decode cX6_toldBleeds 9 = .ok (.iaload, 1) := by decide +kernel
theorem dX6_toldBleeds_10 : decode cX6_toldBleeds 10 = .ok (.iconst 1, 1) := by decide +kernel
theorem dX6_toldBleeds_11 : decode cX6_toldBleeds 11 = .ok (.if_icmp .ne 8, 3) := by decide +kernel
theorem dX6_toldBleeds_14 : decode cX6_toldBleeds 14 = .ok (.bipush (-2), 2) := by decide +kernel
theorem dX6_toldBleeds_16 : decode cX6_toldBleeds 16 = .ok (.goto 38, 3) := by decide +kernel
theorem dX6_toldBleeds_19 : decode cX6_toldBleeds 19 = .ok (.aload_n 0, 1) := by decide +kernel
theorem dX6_toldBleeds_20 : decode cX6_toldBleeds 20 = .ok (.getfield 17, 3) := by decide +kernel
theorem dX6_toldBleeds_23 : decode cX6_toldBleeds 23 = .ok (.sipush 254, 3) := by decide +kernel
theorem dX6_toldBleeds_26 : decode cX6_toldBleeds 26 = .ok (.iload_n 1, 1) := by decide +kernel
theorem dX6_toldBleeds_27 : decode cX6_toldBleeds 27 = .ok (.iadd, 1) := by decide +kernel
theorem dX6_toldBleeds_28 : decode cX6_toldBleeds 28 = .ok (.iaload, 1) := by decide +kernel
theorem dX6_toldBleeds_29 : decode cX6_toldBleeds 29 = .ok (.ifCond .ne 20, 3) := by decide +kernel
theorem dX6_toldBleeds_32 : decode cX6_toldBleeds 32 = .ok (.aload_n 0, 1) := by decide +kernel
theorem dX6_toldBleeds_33 : decode cX6_toldBleeds 33 = .ok (.getfield 17, 3) := by decide +kernel
theorem dX6_toldBleeds_36 : decode cX6_toldBleeds 36 = .ok (.bipush 74, 2) := by decide +kernel
theorem dX6_toldBleeds_38 : decode cX6_toldBleeds 38 = .ok (.iload_n 1, 1) := by decide +kernel
theorem dX6_toldBleeds_39 : decode cX6_toldBleeds 39 = .ok (.iadd, 1) := by decide +kernel
theorem dX6_toldBleeds_40 : decode cX6_toldBleeds 40 = .ok (.iaload, 1) := by decide +kernel
theorem dX6_toldBleeds_41 : decode cX6_toldBleeds 41 = .ok (.ifCond .le 8, 3) := by decide +kernel
theorem dX6_toldBleeds_44 : decode cX6_toldBleeds 44 = .ok (.bipush (-3), 2) := by decide +kernel
theorem dX6_toldBleeds_46 : decode cX6_toldBleeds 46 = .ok (.goto 8, 3) := by decide +kernel
theorem dX6_toldBleeds_49 : decode cX6_toldBleeds 49 = .ok (.aload_n 0, 1) := by decide +kernel
theorem dX6_toldBleeds_50 : decode cX6_toldBleeds 50 = .ok (.iload_n 1, 1) := by decide +kernel
theorem dX6_toldBleeds_51 : decode cX6_toldBleeds 51 = .ok (.invokevirtual 228, 3) := by decide +kernel
theorem dX6_toldBleeds_54 : decode cX6_toldBleeds 54 = .ok (.ireturn, 1) := by decide +kernel
theorem dX6_tick_0 : decode cX6_tick 0 = .ok (.iconst 0, 1) := by decide +kernel
theorem dX6_tick_1 : decode cX6_tick 1 = .ok (.istore_n 1, 1) := by decide +kernel
theorem dX6_tick_2 : decode cX6_tick 2 = .ok (.iconst 0, 1) := by decide +kernel
theorem dX6_tick_3 : decode cX6_tick 3 = .ok (.istore_n 2, 1) := by decide +kernel
theorem dX6_tick_4 : decode cX6_tick 4 = .ok (.iload_n 2, 1) := by decide +kernel
theorem dX6_tick_5 : decode cX6_tick 5 = .ok (.aload_n 0, 1) := by decide +kernel
theorem dX6_tick_6 : decode cX6_tick 6 = .ok (.invokevirtual 205, 3) := by decide +kernel
theorem dX6_tick_9 : decode cX6_tick 9 = .ok (.if_icmp .ge 125, 3) := by decide +kernel
theorem dX6_tick_12 : decode cX6_tick 12 = .ok (.aload_n 0, 1) := by decide +kernel
theorem dX6_tick_13 : decode cX6_tick 13 = .ok (.iload_n 2, 1) := by decide +kernel
theorem dX6_tick_14 : decode cX6_tick 14 = .ok (.invokevirtual 208, 3) := by decide +kernel
theorem dX6_tick_17 : decode cX6_tick 17 = .ok (.ifCond .eq 11, 3) := by decide +kernel
theorem dX6_tick_20 : decode cX6_tick 20 = .ok (.aload_n 0, 1) := by decide +kernel
theorem dX6_tick_21 : decode cX6_tick 21 = .ok (.iload_n 2, 1) := by decide +kernel
theorem dX6_tick_22 : decode cX6_tick 22 = .ok (.invokevirtual 231, 3) := by decide +kernel
theorem dX6_tick_25 : decode cX6_tick 25 = .ok (.goto 4, 3) := by decide +kernel
theorem dX6_tick_28 : decode cX6_tick 28 = .ok (.iconst (-1), 1) := by decide +kernel
theorem dX6_tick_29 : decode cX6_tick 29 = .ok (.istore_n 3, 1) := by decide +kernel
theorem dX6_tick_30 : decode cX6_tick 30 = .ok (.aload_n 0, 1) := by decide +kernel
theorem dX6_tick_31 : decode cX6_tick 31 = .ok (.getfield 31, 3) := by decide +kernel
theorem dX6_tick_34 : decode cX6_tick 34 = .ok (.iload_n 2, 1) := by decide +kernel
theorem dX6_tick_35 : decode cX6_tick 35 = .ok (.iload_n 3, 1) := by decide +kernel
theorem dX6_tick_36 : decode cX6_tick 36 = .ok (.iastore, 1) := by decide +kernel
theorem dX6_tick_37 : decode cX6_tick 37 = .ok (.iload_n 3, 1) := by decide +kernel
theorem dX6_tick_38 : decode cX6_tick 38 = .ok (.ifCond .ge 6, 3) := by decide +kernel
theorem dX6_tick_41 : decode cX6_tick 41 = .ok (.goto 87, 3) := by decide +kernel
theorem dX6_tick_44 : decode cX6_tick 44 = .ok (.aload_n 0, 1) := by decide +kernel
theorem dX6_tick_45 : decode cX6_tick 45 = .ok (.getfield 34, 3) := by decide +kernel
theorem dX6_tick_48 : decode cX6_tick 48 = .ok (.iload_n 2, 1) := by decide +kernel
theorem dX6_tick_49 : decode cX6_tick 49 = .ok (.aload_n 0, 1) := by decide +kernel
theorem dX6_tick_50 : decode cX6_tick 50 = .ok (.getfield 17, 3) := by decide +kernel
theorem dX6_tick_53 : decode cX6_tick 53 = .ok (.bipush 74, 2) := by decide +kernel
theorem dX6_tick_55 : decode cX6_tick 55 = .ok (.iload_n 2, 1) := by decide +kernel
theorem dX6_tick_56 : decode cX6_tick 56 = .ok (.iadd, 1) := by decide +kernel
theorem dX6_tick_57 : decode cX6_tick 57 = .ok (.iaload, 1) := by decide +kernel
theorem dX6_tick_58 : decode cX6_tick 58 = .ok (.ifCond .ne 15, 3) := by decide +kernel
theorem dX6_tick_61 : decode cX6_tick 61 = .ok (.aload_n 0, 1) := by decide +kernel
theorem dX6_tick_62 : decode cX6_tick 62 = .ok (.getfield 17, 3) := by decide +kernel
theorem dX6_tick_65 : decode cX6_tick 65 = .ok (.bipush 74, 2) := by decide +kernel
theorem dX6_tick_67 : decode cX6_tick 67 = .ok (.iload_n 3, 1) := by decide +kernel
theorem dX6_tick_68 : decode cX6_tick 68 = .ok (.iadd, 1) := by decide +kernel
theorem dX6_tick_69 : decode cX6_tick 69 = .ok (.iaload, 1) := by decide +kernel
theorem dX6_tick_70 : decode cX6_tick 70 = .ok (.goto 25, 3) := by decide +kernel
theorem dX6_tick_73 : decode cX6_tick 73 = .ok (.aload_n 0, 1) := by decide +kernel
theorem dX6_tick_74 : decode cX6_tick 74 = .ok (.aload_n 0, 1) := by decide +kernel
theorem dX6_tick_75 : decode cX6_tick 75 = .ok (.getfield 17, 3) := by decide +kernel
theorem dX6_tick_78 : decode cX6_tick 78 = .ok (.bipush 74, 2) := by decide +kernel
theorem dX6_tick_80 : decode cX6_tick 80 = .ok (.iload_n 2, 1) := by decide +kernel
theorem dX6_tick_81 : decode cX6_tick 81 = .ok (.iadd, 1) := by decide +kernel
theorem dX6_tick_82 : decode cX6_tick 82 = .ok (.iaload, 1) := by decide +kernel
theorem dX6_tick_83 : decode cX6_tick 83 = .ok (.aload_n 0, 1) := by decide +kernel
theorem dX6_tick_84 : decode cX6_tick 84 = .ok (.getfield 17, 3) := by decide +kernel
theorem dX6_tick_87 : decode cX6_tick 87 = .ok (.bipush 74, 2) := by decide +kernel
theorem dX6_tick_89 : decode cX6_tick 89 = .ok (.iload_n 3, 1) := by decide +kernel
theorem dX6_tick_90 : decode cX6_tick 90 = .ok (.iadd, 1) := by decide +kernel
theorem dX6_tick_91 : decode cX6_tick 91 = .ok (.iaload, 1) := by decide +kernel
theorem dX6_tick_92 : decode cX6_tick 92 = .ok (.invokevirtual 234, 3) := by decide +kernel
theorem dX6_tick_95 : decode cX6_tick 95 = .ok (.iastore, 1) := by decide +kernel
theorem dX6_tick_96 : decode cX6_tick 96 = .ok (.aload_n 0, 1) := by decide +kernel
theorem dX6_tick_97 : decode cX6_tick 97 = .ok (.getfield 37, 3) := by decide +kernel
theorem dX6_tick_100 : decode cX6_tick 100 = .ok (.iload_n 2, 1) := by decide +kernel
theorem dX6_tick_101 : decode cX6_tick 101 = .ok (.aload_n 0, 1) := by decide +kernel
theorem dX6_tick_102 : decode cX6_tick 102 = .ok (.getfield 17, 3) := by decide +kernel
theorem dX6_tick_105 : decode cX6_tick 105 = .ok (.sipush 254, 3) := by decide +kernel
theorem dX6_tick_108 : decode cX6_tick 108 = .ok (.iload_n 2, 1) := by decide +kernel
theorem dX6_tick_109 : decode cX6_tick 109 = .ok (.iadd, 1) := by decide +kernel
theorem dX6_tick_110 : decode cX6_tick 110 = .ok (.iaload, 1) := by decide +kernel
theorem dX6_tick_111 : decode cX6_tick 111 = .ok (.aload_n 0, 1) := by decide +kernel
theorem dX6_tick_112 : decode cX6_tick 112 = .ok (.getfield 17, 3) := by decide +kernel
theorem dX6_tick_115 : decode cX6_tick 115 = .ok (.sipush 254, 3) := by decide +kernel
theorem dX6_tick_118 : decode cX6_tick 118 = .ok (.iload_n 3, 1) := by decide +kernel
theorem dX6_tick_119 : decode cX6_tick 119 = .ok (.iadd, 1) := by decide +kernel
theorem dX6_tick_120 : decode cX6_tick 120 = .ok (.iaload, 1) := by decide +kernel
theorem dX6_tick_121 : decode cX6_tick 121 = .ok (.iadd, 1) := by decide +kernel
theorem dX6_tick_122 : decode cX6_tick 122 = .ok (.iconst 2, 1) := by decide +kernel
theorem dX6_tick_123 : decode cX6_tick 123 = .ok (.idiv, 1) := by decide +kernel
theorem dX6_tick_124 : decode cX6_tick 124 = .ok (.iastore, 1) := by decide +kernel
theorem dX6_tick_125 : decode cX6_tick 125 = .ok (.iinc 1 1, 3) := by decide +kernel
theorem dX6_tick_128 : decode cX6_tick 128 = .ok (.iinc 2 1, 3) := by decide +kernel
theorem dX6_tick_131 : decode cX6_tick 131 = .ok (.goto (-127), 3) := by decide +kernel
theorem dX6_tick_134 : decode cX6_tick 134 = .ok (.iconst 0, 1) := by decide +kernel
theorem dX6_tick_135 : decode cX6_tick 135 = .ok (.istore_n 2, 1) := by decide +kernel
theorem dX6_tick_136 : decode cX6_tick 136 = .ok (.iload_n 2, 1) := by decide +kernel
theorem dX6_tick_137 : decode cX6_tick 137 = .ok (.aload_n 0, 1) := by decide +kernel
theorem dX6_tick_138 : decode cX6_tick 138 = .ok (.invokevirtual 205, 3) := by decide +kernel
theorem dX6_tick_141 : decode cX6_tick 141 = .ok (.if_icmp .ge 75, 3) := by decide +kernel
theorem dX6_tick_144 : decode cX6_tick 144 = .ok (.aload_n 0, 1) := by decide +kernel
theorem dX6_tick_145 : decode cX6_tick 145 = .ok (.getfield 31, 3) := by decide +kernel
theorem dX6_tick_148 : decode cX6_tick 148 = .ok (.iload_n 2, 1) := by decide +kernel
theorem dX6_tick_149 : decode cX6_tick 149 = .ok (.iaload, 1) := by decide +kernel
theorem dX6_tick_150 : decode cX6_tick 150 = .ok (.ifCond .lt 34, 3) := by decide +kernel
theorem dX6_tick_153 : decode cX6_tick 153 = .ok (.aload_n 0, 1) := by decide +kernel
theorem dX6_tick_154 : decode cX6_tick 154 = .ok (.getfield 17, 3) := by decide +kernel
theorem dX6_tick_157 : decode cX6_tick 157 = .ok (.bipush 74, 2) := by decide +kernel
theorem dX6_tick_159 : decode cX6_tick 159 = .ok (.iload_n 2, 1) := by decide +kernel
theorem dX6_tick_160 : decode cX6_tick 160 = .ok (.iadd, 1) := by decide +kernel
theorem dX6_tick_161 : decode cX6_tick 161 = .ok (.aload_n 0, 1) := by decide +kernel
theorem dX6_tick_162 : decode cX6_tick 162 = .ok (.getfield 34, 3) := by decide +kernel
theorem dX6_tick_165 : decode cX6_tick 165 = .ok (.iload_n 2, 1) := by decide +kernel
theorem dX6_tick_166 : decode cX6_tick 166 = .ok (.iaload, 1) := by decide +kernel
theorem dX6_tick_167 : decode cX6_tick 167 = .ok (.iastore, 1) := by decide +kernel
theorem dX6_tick_168 : decode cX6_tick 168 = .ok (.aload_n 0, 1) := by decide +kernel
theorem dX6_tick_169 : decode cX6_tick 169 = .ok (.getfield 17, 3) := by decide +kernel
theorem dX6_tick_172 : decode cX6_tick 172 = .ok (.sipush 254, 3) := by decide +kernel
theorem dX6_tick_175 : decode cX6_tick 175 = .ok (.iload_n 2, 1) := by decide +kernel
theorem dX6_tick_176 : decode cX6_tick 176 = .ok (.iadd, 1) := by decide +kernel
theorem dX6_tick_177 : decode cX6_tick 177 = .ok (.aload_n 0, 1) := by decide +kernel
theorem dX6_tick_178 : decode cX6_tick 178 = .ok (.getfield 37, 3) := by decide +kernel
theorem dX6_tick_181 : decode cX6_tick 181 = .ok (.iload_n 2, 1) := by decide +kernel
theorem dX6_tick_182 : decode cX6_tick 182 = .ok (.iaload, 1) := by decide +kernel
theorem dX6_tick_183 : decode cX6_tick 183 = .ok (.iastore, 1) := by decide +kernel
theorem dX6_tick_184 : decode cX6_tick 184 = .ok (.aload_n 0, 1) := by decide +kernel
theorem dX6_tick_185 : decode cX6_tick 185 = .ok (.getfield 17, 3) := by decide +kernel
theorem dX6_tick_188 : decode cX6_tick 188 = .ok (.sipush 254, 3) := by decide +kernel
theorem dX6_tick_191 : decode cX6_tick 191 = .ok (.iload_n 2, 1) := by decide +kernel
theorem dX6_tick_192 : decode cX6_tick 192 = .ok (.iadd, 1) := by decide +kernel
theorem dX6_tick_193 : decode cX6_tick 193 = .ok (.iconst 0, 1) := by decide +kernel
theorem dX6_tick_194 : decode cX6_tick 194 = .ok (.aload_n 0, 1) := by decide +kernel
theorem dX6_tick_195 : decode cX6_tick 195 = .ok (.getfield 17, 3) := by decide +kernel
theorem dX6_tick_198 : decode cX6_tick 198 = .ok (.sipush 254, 3) := by decide +kernel
theorem dX6_tick_201 : decode cX6_tick 201 = .ok (.iload_n 2, 1) := by decide +kernel
theorem dX6_tick_202 : decode cX6_tick 202 = .ok (.iadd, 1) := by decide +kernel
theorem dX6_tick_203 : decode cX6_tick 203 = .ok (.iaload, 1) := by decide +kernel
theorem dX6_tick_204 : decode cX6_tick 204 = .ok (.iconst 1, 1) := by decide +kernel
theorem dX6_tick_205 : decode cX6_tick 205 = .ok (.isub, 1) := by decide +kernel
theorem dX6_tick_206 : decode cX6_tick 206 = .ok (.invokestatic 202, 3) := by decide +kernel
theorem dX6_tick_209 : decode cX6_tick 209 = .ok (.iastore, 1) := by decide +kernel
theorem dX6_tick_210 : decode cX6_tick 210 = .ok (.iinc 2 1, 3) := by decide +kernel
theorem dX6_tick_213 : decode cX6_tick 213 = .ok (.goto (-77), 3) := by decide +kernel
theorem dX6_tick_216 : decode cX6_tick 216 = .ok (.aload_n 0, 1) := by decide +kernel
theorem dX6_tick_217 : decode cX6_tick 217 = .ok (.getfield 17, 3) := by decide +kernel
theorem dX6_tick_220 : decode cX6_tick 220 = .ok (.iconst 2, 1) := by decide +kernel
theorem dX6_tick_221 : decode cX6_tick 221 = .ok (.dup2, 1) := by decide +kernel
theorem dX6_tick_222 : decode cX6_tick 222 = .ok (.iaload, 1) := by decide +kernel
theorem dX6_tick_223 : decode cX6_tick 223 = .ok (.iconst 1, 1) := by decide +kernel
theorem dX6_tick_224 : decode cX6_tick 224 = .ok (.iadd, 1) := by decide +kernel
theorem dX6_tick_225 : decode cX6_tick 225 = .ok (.iastore, 1) := by decide +kernel
theorem dX6_tick_226 : decode cX6_tick 226 = .ok (.iload_n 1, 1) := by decide +kernel
theorem dX6_tick_227 : decode cX6_tick 227 = .ok (.ireturn, 1) := by decide +kernel
theorem dX6_wetCells_0 : decode cX6_wetCells 0 = .ok (.iconst 0, 1) := by decide +kernel
theorem dX6_wetCells_1 : decode cX6_wetCells 1 = .ok (.istore_n 1, 1) := by decide +kernel
theorem dX6_wetCells_2 : decode cX6_wetCells 2 = .ok (.iconst 0, 1) := by decide +kernel
theorem dX6_wetCells_3 : decode cX6_wetCells 3 = .ok (.istore_n 2, 1) := by decide +kernel
theorem dX6_wetCells_4 : decode cX6_wetCells 4 = .ok (.iload_n 2, 1) := by decide +kernel
theorem dX6_wetCells_5 : decode cX6_wetCells 5 = .ok (.aload_n 0, 1) := by decide +kernel
theorem dX6_wetCells_6 : decode cX6_wetCells 6 = .ok (.invokevirtual 205, 3) := by decide +kernel
theorem dX6_wetCells_9 : decode cX6_wetCells 9 = .ok (.if_icmp .ge 30, 3) := by decide +kernel
theorem dX6_wetCells_12 : decode cX6_wetCells 12 = .ok (.iload_n 1, 1) := by decide +kernel
theorem dX6_wetCells_13 : decode cX6_wetCells 13 = .ok (.aload_n 0, 1) := by decide +kernel
theorem dX6_wetCells_14 : decode cX6_wetCells 14 = .ok (.getfield 17, 3) := by decide +kernel
theorem dX6_wetCells_17 : decode cX6_wetCells 17 = .ok (.sipush 254, 3) := by decide +kernel
theorem dX6_wetCells_20 : decode cX6_wetCells 20 = .ok (.iload_n 2, 1) := by decide +kernel
theorem dX6_wetCells_21 : decode cX6_wetCells 21 = .ok (.iadd, 1) := by decide +kernel
theorem dX6_wetCells_22 : decode cX6_wetCells 22 = .ok (.iaload, 1) := by decide +kernel
theorem dX6_wetCells_23 : decode cX6_wetCells 23 = .ok (.ifCond .le 7, 3) := by decide +kernel
theorem dX6_wetCells_26 : decode cX6_wetCells 26 = .ok (.iconst 1, 1) := by decide +kernel
theorem dX6_wetCells_27 : decode cX6_wetCells 27 = .ok (.goto 4, 3) := by decide +kernel
theorem dX6_wetCells_30 : decode cX6_wetCells 30 = .ok (.iconst 0, 1) := by decide +kernel
theorem dX6_wetCells_31 : decode cX6_wetCells 31 = .ok (.iadd, 1) := by decide +kernel
theorem dX6_wetCells_32 : decode cX6_wetCells 32 = .ok (.istore_n 1, 1) := by decide +kernel
theorem dX6_wetCells_33 : decode cX6_wetCells 33 = .ok (.iinc 2 1, 3) := by decide +kernel
theorem dX6_wetCells_36 : decode cX6_wetCells 36 = .ok (.goto (-32), 3) := by decide +kernel
theorem dX6_wetCells_39 : decode cX6_wetCells 39 = .ok (.iload_n 1, 1) := by decide +kernel
theorem dX6_wetCells_40 : decode cX6_wetCells 40 = .ok (.ireturn, 1) := by decide +kernel
theorem dX6_wettest_0 : decode cX6_wettest 0 = .ok (.iconst 0, 1) := by decide +kernel
theorem dX6_wettest_1 : decode cX6_wettest 1 = .ok (.istore_n 1, 1) := by decide +kernel
theorem dX6_wettest_2 : decode cX6_wettest 2 = .ok (.iconst 0, 1) := by decide +kernel
theorem dX6_wettest_3 : decode cX6_wettest 3 = .ok (.istore_n 2, 1) := by decide +kernel
theorem dX6_wettest_4 : decode cX6_wettest 4 = .ok (.iload_n 2, 1) := by decide +kernel
theorem dX6_wettest_5 : decode cX6_wettest 5 = .ok (.aload_n 0, 1) := by decide +kernel
theorem dX6_wettest_6 : decode cX6_wettest 6 = .ok (.invokevirtual 205, 3) := by decide +kernel
theorem dX6_wettest_9 : decode cX6_wettest 9 = .ok (.if_icmp .ge 24, 3) := by decide +kernel
theorem dX6_wettest_12 : decode cX6_wettest 12 = .ok (.iload_n 1, 1) := by decide +kernel
theorem dX6_wettest_13 : decode cX6_wettest 13 = .ok (.aload_n 0, 1) := by decide +kernel
theorem dX6_wettest_14 : decode cX6_wettest 14 = .ok (.getfield 17, 3) := by decide +kernel
theorem dX6_wettest_17 : decode cX6_wettest 17 = .ok (.sipush 254, 3) := by decide +kernel
theorem dX6_wettest_20 : decode cX6_wettest 20 = .ok (.iload_n 2, 1) := by decide +kernel
theorem dX6_wettest_21 : decode cX6_wettest 21 = .ok (.iadd, 1) := by decide +kernel
theorem dX6_wettest_22 : decode cX6_wettest 22 = .ok (.iaload, 1) := by decide +kernel
theorem dX6_wettest_23 : decode cX6_wettest 23 = .ok (.invokestatic 202, 3) := by decide +kernel
theorem dX6_wettest_26 : decode cX6_wettest 26 = .ok (.istore_n 1, 1) := by decide +kernel
theorem dX6_wettest_27 : decode cX6_wettest 27 = .ok (.iinc 2 1, 3) := by decide +kernel
theorem dX6_wettest_30 : decode cX6_wettest 30 = .ok (.goto (-26), 3) := by decide +kernel
theorem dX6_wettest_33 : decode cX6_wettest 33 = .ok (.iload_n 1, 1) := by decide +kernel
theorem dX6_wettest_34 : decode cX6_wettest 34 = .ok (.ireturn, 1) := by decide +kernel
theorem dX6_countOf_0 : decode cX6_countOf 0 = .ok (.iconst 0, 1) := by decide +kernel
theorem dX6_countOf_1 : decode cX6_countOf 1 = .ok (.istore_n 2, 1) := by decide +kernel
theorem dX6_countOf_2 : decode cX6_countOf 2 = .ok (.iconst 0, 1) := by decide +kernel
theorem dX6_countOf_3 : decode cX6_countOf 3 = .ok (.istore_n 3, 1) := by decide +kernel
theorem dX6_countOf_4 : decode cX6_countOf 4 = .ok (.iload_n 3, 1) := by decide +kernel
theorem dX6_countOf_5 : decode cX6_countOf 5 = .ok (.aload_n 0, 1) := by decide +kernel
theorem dX6_countOf_6 : decode cX6_countOf 6 = .ok (.invokevirtual 205, 3) := by decide +kernel
theorem dX6_countOf_9 : decode cX6_countOf 9 = .ok (.if_icmp .ge 38, 3) := by decide +kernel
theorem dX6_countOf_12 : decode cX6_countOf 12 = .ok (.iload_n 2, 1) := by decide +kernel
theorem dX6_countOf_13 : decode cX6_countOf 13 = .ok (.aload_n 0, 1) := by decide +kernel
theorem dX6_countOf_14 : decode cX6_countOf 14 = .ok (.iload_n 3, 1) := by decide +kernel
theorem dX6_countOf_15 : decode cX6_countOf 15 = .ok (.invokevirtual 208, 3) := by decide +kernel
theorem dX6_countOf_18 : decode cX6_countOf 18 = .ok (.ifCond .eq 20, 3) := by decide +kernel
theorem dX6_countOf_21 : decode cX6_countOf 21 = .ok (.aload_n 0, 1) := by decide +kernel
theorem dX6_countOf_22 : decode cX6_countOf 22 = .ok (.getfield 17, 3) := by decide +kernel
theorem dX6_countOf_25 : decode cX6_countOf 25 = .ok (.bipush 74, 2) := by decide +kernel
theorem dX6_countOf_27 : decode cX6_countOf 27 = .ok (.iload_n 3, 1) := by decide +kernel
theorem dX6_countOf_28 : decode cX6_countOf 28 = .ok (.iadd, 1) := by decide +kernel
theorem dX6_countOf_29 : decode cX6_countOf 29 = .ok (.iaload, 1) := by decide +kernel
theorem dX6_countOf_30 : decode cX6_countOf 30 = .ok (.iload_n 1, 1) := by decide +kernel
theorem dX6_countOf_31 : decode cX6_countOf 31 = .ok (.if_icmp .ne 7, 3) := by decide +kernel
theorem dX6_countOf_34 : decode cX6_countOf 34 = .ok (.iconst 1, 1) := by decide +kernel
theorem dX6_countOf_35 : decode cX6_countOf 35 = .ok (.goto 4, 3) := by decide +kernel
theorem dX6_countOf_38 : decode cX6_countOf 38 = .ok (.iconst 0, 1) := by decide +kernel
theorem dX6_countOf_39 : decode cX6_countOf 39 = .ok (.iadd, 1) := by decide +kernel
theorem dX6_countOf_40 : decode cX6_countOf 40 = .ok (.istore_n 2, 1) := by decide +kernel
theorem dX6_countOf_41 : decode cX6_countOf 41 = .ok (.iinc 3 1, 3) := by decide +kernel
theorem dX6_countOf_44 : decode cX6_countOf 44 = .ok (.goto (-40), 3) := by decide +kernel
theorem dX6_countOf_47 : decode cX6_countOf 47 = .ok (.iload_n 2, 1) := by decide +kernel
theorem dX6_countOf_48 : decode cX6_countOf 48 = .ok (.ireturn, 1) := by decide +kernel
theorem dX6_unlikeNow_0 : decode cX6_unlikeNow 0 = .ok (.iconst 0, 1) := by decide +kernel
theorem dX6_unlikeNow_1 : decode cX6_unlikeNow 1 = .ok (.istore_n 1, 1) := by decide +kernel
theorem dX6_unlikeNow_2 : decode cX6_unlikeNow 2 = .ok (.iconst 0, 1) := by decide +kernel
theorem dX6_unlikeNow_3 : decode cX6_unlikeNow 3 = .ok (.istore_n 2, 1) := by decide +kernel
theorem dX6_unlikeNow_4 : decode cX6_unlikeNow 4 = .ok (.iload_n 2, 1) := by decide +kernel
theorem dX6_unlikeNow_5 : decode cX6_unlikeNow 5 = .ok (.aload_n 0, 1) := by decide +kernel
theorem dX6_unlikeNow_6 : decode cX6_unlikeNow 6 = .ok (.invokevirtual 205, 3) := by decide +kernel
theorem dX6_unlikeNow_9 : decode cX6_unlikeNow 9 = .ok (.if_icmp .ge 66, 3) := by decide +kernel
theorem dX6_unlikeNow_12 : decode cX6_unlikeNow 12 = .ok (.iload_n 1, 1) := by decide +kernel
theorem dX6_unlikeNow_13 : decode cX6_unlikeNow 13 = .ok (.aload_n 0, 1) := by decide +kernel
theorem dX6_unlikeNow_14 : decode cX6_unlikeNow 14 = .ok (.iload_n 2, 1) := by decide +kernel
theorem dX6_unlikeNow_15 : decode cX6_unlikeNow 15 = .ok (.invokevirtual 208, 3) := by decide +kernel
theorem dX6_unlikeNow_18 : decode cX6_unlikeNow 18 = .ok (.ifCond .eq 48, 3) := by decide +kernel
theorem dX6_unlikeNow_21 : decode cX6_unlikeNow 21 = .ok (.aload_n 0, 1) := by decide +kernel
theorem dX6_unlikeNow_22 : decode cX6_unlikeNow 22 = .ok (.iload_n 2, 1) := by decide +kernel
theorem dX6_unlikeNow_23 : decode cX6_unlikeNow 23 = .ok (.invokevirtual 192, 3) := by decide +kernel
theorem dX6_unlikeNow_26 : decode cX6_unlikeNow 26 = .ok (.aload_n 0, 1) := by decide +kernel
theorem dX6_unlikeNow_27 : decode cX6_unlikeNow 27 = .ok (.getfield 17, 3) := by decide +kernel
theorem dX6_unlikeNow_30 : decode cX6_unlikeNow 30 = .ok (.iconst 0, 1) := by decide +kernel
theorem dX6_unlikeNow_31 : decode cX6_unlikeNow 31 = .ok (.iaload, 1) := by decide +kernel
theorem dX6_unlikeNow_32 : decode cX6_unlikeNow 32 = .ok (.iconst 2, 1) := by decide +kernel
theorem dX6_unlikeNow_33 : decode cX6_unlikeNow 33 = .ok (.idiv, 1) := by decide +kernel
theorem dX6_unlikeNow_34 : decode cX6_unlikeNow 34 = .ok (.if_icmp .ge 32, 3) := by decide +kernel
theorem dX6_unlikeNow_37 : decode cX6_unlikeNow 37 = .ok (.aload_n 0, 1) := by decide +kernel
theorem dX6_unlikeNow_38 : decode cX6_unlikeNow 38 = .ok (.getfield 17, 3) := by decide +kernel
theorem dX6_unlikeNow_41 : decode cX6_unlikeNow 41 = .ok (.bipush 74, 2) := by decide +kernel
theorem dX6_unlikeNow_43 : decode cX6_unlikeNow 43 = .ok (.iload_n 2, 1) := by decide +kernel
theorem dX6_unlikeNow_44 : decode cX6_unlikeNow 44 = .ok (.iadd, 1) := by decide +kernel
theorem dX6_unlikeNow_45 : decode cX6_unlikeNow 45 = .ok (.iaload, 1) := by decide +kernel
theorem dX6_unlikeNow_46 : decode cX6_unlikeNow 46 = .ok (.aload_n 0, 1) := by decide +kernel
theorem dX6_unlikeNow_47 : decode cX6_unlikeNow 47 = .ok (.getfield 17, 3) := by decide +kernel
theorem dX6_unlikeNow_50 : decode cX6_unlikeNow 50 = .ok (.bipush 74, 2) := by decide +kernel
theorem dX6_unlikeNow_52 : decode cX6_unlikeNow 52 = .ok (.aload_n 0, 1) := by decide +kernel
theorem dX6_unlikeNow_53 : decode cX6_unlikeNow 53 = .ok (.iload_n 2, 1) := by decide +kernel
theorem dX6_unlikeNow_54 : decode cX6_unlikeNow 54 = .ok (.invokevirtual 237, 3) := by decide +kernel
theorem dX6_unlikeNow_57 : decode cX6_unlikeNow 57 = .ok (.iadd, 1) := by decide +kernel
theorem dX6_unlikeNow_58 : decode cX6_unlikeNow 58 = .ok (.iaload, 1) := by decide +kernel
theorem dX6_unlikeNow_59 : decode cX6_unlikeNow 59 = .ok (.if_icmp .eq 7, 3) := by decide +kernel
theorem dX6_unlikeNow_62 : decode cX6_unlikeNow 62 = .ok (.iconst 1, 1) := by decide +kernel
theorem dX6_unlikeNow_63 : decode cX6_unlikeNow 63 = .ok (.goto 4, 3) := by decide +kernel
theorem dX6_unlikeNow_66 : decode cX6_unlikeNow 66 = .ok (.iconst 0, 1) := by decide +kernel
theorem dX6_unlikeNow_67 : decode cX6_unlikeNow 67 = .ok (.iadd, 1) := by decide +kernel
theorem dX6_unlikeNow_68 : decode cX6_unlikeNow 68 = .ok (.istore_n 1, 1) := by decide +kernel
theorem dX6_unlikeNow_69 : decode cX6_unlikeNow 69 = .ok (.iinc 2 1, 3) := by decide +kernel
theorem dX6_unlikeNow_72 : decode cX6_unlikeNow 72 = .ok (.goto (-68), 3) := by decide +kernel
theorem dX6_unlikeNow_75 : decode cX6_unlikeNow 75 = .ok (.iload_n 1, 1) := by decide +kernel
theorem dX6_unlikeNow_76 : decode cX6_unlikeNow 76 = .ok (.ireturn, 1) := by decide +kernel
theorem dX6_clearMarks_0 : decode cX6_clearMarks 0 = .ok (.iconst 0, 1) := by decide +kernel
theorem dX6_clearMarks_1 : decode cX6_clearMarks 1 = .ok (.istore_n 1, 1) := by decide +kernel
theorem dX6_clearMarks_2 : decode cX6_clearMarks 2 = .ok (.iload_n 1, 1) := by decide +kernel
theorem dX6_clearMarks_3 : decode cX6_clearMarks 3 = .ok (.sipush 180, 3) := by decide +kernel
theorem dX6_clearMarks_6 : decode cX6_clearMarks 6 = .ok (.if_icmp .ge 16, 3) := by decide +kernel
theorem dX6_clearMarks_9 : decode cX6_clearMarks 9 = .ok (.aload_n 0, 1) := by decide +kernel
theorem dX6_clearMarks_10 : decode cX6_clearMarks 10 = .ok (.getfield 40, 3) := by decide +kernel
theorem dX6_clearMarks_13 : decode cX6_clearMarks 13 = .ok (.iload_n 1, 1) := by decide +kernel
theorem dX6_clearMarks_14 : decode cX6_clearMarks 14 = .ok (.iconst 0, 1) := by decide +kernel
theorem dX6_clearMarks_15 : decode cX6_clearMarks 15 = .ok (.bastore, 1) := by decide +kernel
theorem dX6_clearMarks_16 : decode cX6_clearMarks 16 = .ok (.iinc 1 1, 3) := by decide +kernel
theorem dX6_clearMarks_19 : decode cX6_clearMarks 19 = .ok (.goto (-17), 3) := by decide +kernel
theorem dX6_clearMarks_22 : decode cX6_clearMarks 22 = .ok (.return_, 1) := by decide +kernel
theorem dX6_mark_0 : decode cX6_mark 0 = .ok (.iconst 1, 1) := by decide +kernel
theorem dX6_mark_1 : decode cX6_mark 1 = .ok (.istore_n 2, 1) := by decide +kernel
theorem dX6_mark_2 : decode cX6_mark 2 = .ok (.iconst 0, 1) := by decide +kernel
theorem dX6_mark_3 : decode cX6_mark 3 = .ok (.istore_n 3, 1) := by decide +kernel
theorem dX6_mark_4 : decode cX6_mark 4 = .ok (.aload_n 0, 1) := by decide +kernel
theorem dX6_mark_5 : decode cX6_mark 5 = .ok (.getfield 40, 3) := by decide +kernel
theorem dX6_mark_8 : decode cX6_mark 8 = .ok (.iload_n 1, 1) := by decide +kernel
theorem dX6_mark_9 : decode cX6_mark 9 = .ok (.iconst 1, 1) := by decide +kernel
theorem dX6_mark_10 : decode cX6_mark 10 = .ok (.bastore, 1) := by decide +kernel
theorem dX6_mark_11 : decode cX6_mark 11 = .ok (.aload_n 0, 1) := by decide +kernel
theorem dX6_mark_12 : decode cX6_mark 12 = .ok (.getfield 44, 3) := by decide +kernel
theorem dX6_mark_15 : decode cX6_mark 15 = .ok (.iconst 0, 1) := by decide +kernel
theorem dX6_mark_16 : decode cX6_mark 16 = .ok (.iload_n 1, 1) := by decide +kernel
theorem dX6_mark_17 : decode cX6_mark 17 = .ok (.iastore, 1) := by decide +kernel
theorem dX6_mark_18 : decode cX6_mark 18 = .ok (.iload_n 3, 1) := by decide +kernel
theorem dX6_mark_19 : decode cX6_mark 19 = .ok (.iload_n 2, 1) := by decide +kernel
theorem dX6_mark_20 : decode cX6_mark 20 = .ok (.if_icmp .ge 102, 3) := by decide +kernel
theorem dX6_mark_23 : decode cX6_mark 23 = .ok (.aload_n 0, 1) := by decide +kernel
theorem dX6_mark_24 : decode cX6_mark 24 = .ok (.getfield 44, 3) := by decide +kernel
theorem dX6_mark_27 : decode cX6_mark 27 = .ok (.iload_n 3, 1) := by decide +kernel
theorem dX6_mark_28 : decode cX6_mark 28 = .ok (.iaload, 1) := by decide +kernel
theorem dX6_mark_29 : decode cX6_mark 29 = .ok (.istore 4, 2) := by decide +kernel
theorem dX6_mark_31 : decode cX6_mark 31 = .ok (.iinc 3 1, 3) := by decide +kernel
theorem dX6_mark_34 : decode cX6_mark 34 = .ok (.iconst 0, 1) := by decide +kernel
theorem dX6_mark_35 : decode cX6_mark 35 = .ok (.istore 5, 2) := by decide +kernel
theorem dX6_mark_37 : decode cX6_mark 37 = .ok (.iload 5, 2) := by decide +kernel
theorem dX6_mark_39 : decode cX6_mark 39 = .ok (.iconst 4, 1) := by decide +kernel
theorem dX6_mark_40 : decode cX6_mark 40 = .ok (.if_icmp .ge 79, 3) := by decide +kernel
theorem dX6_mark_43 : decode cX6_mark 43 = .ok (.aload_n 0, 1) := by decide +kernel
theorem dX6_mark_44 : decode cX6_mark 44 = .ok (.iload 4, 2) := by decide +kernel
theorem dX6_mark_46 : decode cX6_mark 46 = .ok (.iload 5, 2) := by decide +kernel
theorem dX6_mark_48 : decode cX6_mark 48 = .ok (.invokevirtual 225, 3) := by decide +kernel
theorem dX6_mark_51 : decode cX6_mark 51 = .ok (.istore 6, 2) := by decide +kernel
theorem dX6_mark_53 : decode cX6_mark 53 = .ok (.iload 6, 2) := by decide +kernel
theorem dX6_mark_55 : decode cX6_mark 55 = .ok (.iconst (-1), 1) := by decide +kernel
theorem dX6_mark_56 : decode cX6_mark 56 = .ok (.if_icmp .eq 57, 3) := by decide +kernel
theorem dX6_mark_59 : decode cX6_mark 59 = .ok (.aload_n 0, 1) := by decide +kernel
theorem dX6_mark_60 : decode cX6_mark 60 = .ok (.getfield 40, 3) := by decide +kernel
theorem dX6_mark_63 : decode cX6_mark 63 = .ok (.iload 6, 2) := by decide +kernel
theorem dX6_mark_65 : decode cX6_mark 65 = .ok (.baload, 1) := by decide +kernel
theorem dX6_mark_66 : decode cX6_mark 66 = .ok (.ifCond .ne 47, 3) := by decide +kernel
theorem dX6_mark_69 : decode cX6_mark 69 = .ok (.aload_n 0, 1) := by decide +kernel
theorem dX6_mark_70 : decode cX6_mark 70 = .ok (.getfield 17, 3) := by decide +kernel
theorem dX6_mark_73 : decode cX6_mark 73 = .ok (.bipush 74, 2) := by decide +kernel
theorem dX6_mark_75 : decode cX6_mark 75 = .ok (.iload 6, 2) := by decide +kernel
theorem dX6_mark_77 : decode cX6_mark 77 = .ok (.iadd, 1) := by decide +kernel
theorem dX6_mark_78 : decode cX6_mark 78 = .ok (.iaload, 1) := by decide +kernel
theorem dX6_mark_79 : decode cX6_mark 79 = .ok (.aload_n 0, 1) := by decide +kernel
theorem dX6_mark_80 : decode cX6_mark 80 = .ok (.getfield 17, 3) := by decide +kernel
theorem dX6_mark_83 : decode cX6_mark 83 = .ok (.bipush 74, 2) := by decide +kernel
theorem dX6_mark_85 : decode cX6_mark 85 = .ok (.iload_n 1, 1) := by decide +kernel
theorem dX6_mark_86 : decode cX6_mark 86 = .ok (.iadd, 1) := by decide +kernel
theorem dX6_mark_87 : decode cX6_mark 87 = .ok (.iaload, 1) := by decide +kernel
theorem dX6_mark_88 : decode cX6_mark 88 = .ok (.if_icmp .eq 6, 3) := by decide +kernel
theorem dX6_mark_91 : decode cX6_mark 91 = .ok (.goto 22, 3) := by decide +kernel
theorem dX6_mark_94 : decode cX6_mark 94 = .ok (.aload_n 0, 1) := by decide +kernel
theorem dX6_mark_95 : decode cX6_mark 95 = .ok (.getfield 40, 3) := by decide +kernel
theorem dX6_mark_98 : decode cX6_mark 98 = .ok (.iload 6, 2) := by decide +kernel
theorem dX6_mark_100 : decode cX6_mark 100 = .ok (.iconst 1, 1) := by decide +kernel
theorem dX6_mark_101 : decode cX6_mark 101 = .ok (.bastore, 1) := by decide +kernel
theorem dX6_mark_102 : decode cX6_mark 102 = .ok (.aload_n 0, 1) := by decide +kernel
theorem dX6_mark_103 : decode cX6_mark 103 = .ok (.getfield 44, 3) := by decide +kernel
theorem dX6_mark_106 : decode cX6_mark 106 = .ok (.iload_n 2, 1) := by decide +kernel
theorem dX6_mark_107 : decode cX6_mark 107 = .ok (.iload 6, 2) := by decide +kernel
theorem dX6_mark_109 : decode cX6_mark 109 = .ok (.iastore, 1) := by decide +kernel
theorem dX6_mark_110 : decode cX6_mark 110 = .ok (.iinc 2 1, 3) := by decide +kernel
theorem dX6_mark_113 : decode cX6_mark 113 = .ok (.iinc 5 1, 3) := by decide +kernel
theorem dX6_mark_116 : decode cX6_mark 116 = .ok (.goto (-79), 3) := by decide +kernel
theorem dX6_mark_119 : decode cX6_mark 119 = .ok (.goto (-101), 3) := by decide +kernel
theorem dX6_mark_122 : decode cX6_mark 122 = .ok (.iload_n 2, 1) := by decide +kernel
theorem dX6_mark_123 : decode cX6_mark 123 = .ok (.ireturn, 1) := by decide +kernel
theorem dX6_spars_0 : decode cX6_spars 0 = .ok (.iconst 0, 1) := by decide +kernel
theorem dX6_spars_1 : decode cX6_spars 1 = .ok (.istore_n 1, 1) := by decide +kernel
theorem dX6_spars_2 : decode cX6_spars 2 = .ok (.iconst 0, 1) := by decide +kernel
theorem dX6_spars_3 : decode cX6_spars 3 = .ok (.istore_n 2, 1) := by decide +kernel
theorem dX6_spars_4 : decode cX6_spars 4 = .ok (.iload_n 2, 1) := by decide +kernel
theorem dX6_spars_5 : decode cX6_spars 5 = .ok (.aload_n 0, 1) := by decide +kernel
theorem dX6_spars_6 : decode cX6_spars 6 = .ok (.invokevirtual 205, 3) := by decide +kernel
theorem dX6_spars_9 : decode cX6_spars 9 = .ok (.if_icmp .ge 22, 3) := by decide +kernel
theorem dX6_spars_12 : decode cX6_spars 12 = .ok (.iload_n 1, 1) := by decide +kernel
theorem dX6_spars_13 : decode cX6_spars 13 = .ok (.aload_n 0, 1) := by decide +kernel
theorem dX6_spars_14 : decode cX6_spars 14 = .ok (.getfield 17, 3) := by decide +kernel
theorem dX6_spars_17 : decode cX6_spars 17 = .ok (.sipush 434, 3) := by decide +kernel
theorem dX6_spars_20 : decode cX6_spars 20 = .ok (.iload_n 2, 1) := by decide +kernel
theorem dX6_spars_21 : decode cX6_spars 21 = .ok (.iadd, 1) := by decide +kernel
theorem dX6_spars_22 : decode cX6_spars 22 = .ok (.iaload, 1) := by decide +kernel
theorem dX6_spars_23 : decode cX6_spars 23 = .ok (.iadd, 1) := by decide +kernel
theorem dX6_spars_24 : decode cX6_spars 24 = .ok (.istore_n 1, 1) := by decide +kernel
theorem dX6_spars_25 : decode cX6_spars 25 = .ok (.iinc 2 1, 3) := by decide +kernel
theorem dX6_spars_28 : decode cX6_spars 28 = .ok (.goto (-24), 3) := by decide +kernel
theorem dX6_spars_31 : decode cX6_spars 31 = .ok (.iload_n 1, 1) := by decide +kernel
theorem dX6_spars_32 : decode cX6_spars 32 = .ok (.ireturn, 1) := by decide +kernel
theorem dX6_told_0 : decode cX6_told 0 = .ok (.iload_n 1, 1) := by decide +kernel
theorem dX6_told_1 : decode cX6_told 1 = .ok (.tableswitch 133 0 11 #[63, 63, 63, 70, 75, 80, 86, 91, 97, 103, 108, 126], 63) := by decide +kernel
theorem dX6_told_64 : decode cX6_told 64 = .ok (.aload_n 0, 1) := by decide +kernel
theorem dX6_told_65 : decode cX6_told 65 = .ok (.getfield 17, 3) := by decide +kernel
theorem dX6_told_68 : decode cX6_told 68 = .ok (.iload_n 1, 1) := by decide +kernel
theorem dX6_told_69 : decode cX6_told 69 = .ok (.iaload, 1) := by decide +kernel
theorem dX6_told_70 : decode cX6_told 70 = .ok (.ireturn, 1) := by decide +kernel
theorem dX6_told_71 : decode cX6_told 71 = .ok (.aload_n 0, 1) := by decide +kernel
theorem dX6_told_72 : decode cX6_told 72 = .ok (.invokevirtual 189, 3) := by decide +kernel
theorem dX6_told_75 : decode cX6_told 75 = .ok (.ireturn, 1) := by decide +kernel
theorem dX6_told_76 : decode cX6_told 76 = .ok (.aload_n 0, 1) := by decide +kernel
theorem dX6_told_77 : decode cX6_told 77 = .ok (.invokevirtual 240, 3) := by decide +kernel
theorem dX6_told_80 : decode cX6_told 80 = .ok (.ireturn, 1) := by decide +kernel
theorem dX6_told_81 : decode cX6_told 81 = .ok (.aload_n 0, 1) := by decide +kernel
theorem dX6_told_82 : decode cX6_told 82 = .ok (.iconst 0, 1) := by decide +kernel
theorem dX6_told_83 : decode cX6_told 83 = .ok (.invokevirtual 243, 3) := by decide +kernel
theorem dX6_told_86 : decode cX6_told 86 = .ok (.ireturn, 1) := by decide +kernel
theorem dX6_told_87 : decode cX6_told 87 = .ok (.aload_n 0, 1) := by decide +kernel
theorem dX6_told_88 : decode cX6_told 88 = .ok (.invokevirtual 246, 3) := by decide +kernel
theorem dX6_told_91 : decode cX6_told 91 = .ok (.ireturn, 1) := by decide +kernel
theorem dX6_told_92 : decode cX6_told 92 = .ok (.aload_n 0, 1) := by decide +kernel
theorem dX6_told_93 : decode cX6_told 93 = .ok (.iconst (-1), 1) := by decide +kernel
theorem dX6_told_94 : decode cX6_told 94 = .ok (.invokevirtual 222, 3) := by decide +kernel
theorem dX6_told_97 : decode cX6_told 97 = .ok (.ireturn, 1) := by decide +kernel
theorem dX6_told_98 : decode cX6_told 98 = .ok (.aload_n 0, 1) := by decide +kernel
theorem dX6_told_99 : decode cX6_told 99 = .ok (.iconst 1, 1) := by decide +kernel
theorem dX6_told_100 : decode cX6_told 100 = .ok (.invokevirtual 222, 3) := by decide +kernel
theorem dX6_told_103 : decode cX6_told 103 = .ok (.ireturn, 1) := by decide +kernel
theorem dX6_told_104 : decode cX6_told 104 = .ok (.aload_n 0, 1) := by decide +kernel
theorem dX6_told_105 : decode cX6_told 105 = .ok (.invokevirtual 249, 3) := by decide +kernel
theorem dX6_told_108 : decode cX6_told 108 = .ok (.ireturn, 1) := by decide +kernel
theorem dX6_told_109 : decode cX6_told 109 = .ok (.aload_n 0, 1) := by decide +kernel
theorem dX6_told_110 : decode cX6_told 110 = .ok (.iconst (-1), 1) := by decide +kernel
theorem dX6_told_111 : decode cX6_told 111 = .ok (.invokevirtual 222, 3) := by decide +kernel
theorem dX6_told_114 : decode cX6_told 114 = .ok (.aload_n 0, 1) := by decide +kernel
theorem dX6_told_115 : decode cX6_told 115 = .ok (.iconst 0, 1) := by decide +kernel
theorem dX6_told_116 : decode cX6_told 116 = .ok (.invokevirtual 222, 3) := by decide +kernel
theorem dX6_told_119 : decode cX6_told 119 = .ok (.iadd, 1) := by decide +kernel
theorem dX6_told_120 : decode cX6_told 120 = .ok (.aload_n 0, 1) := by decide +kernel
theorem dX6_told_121 : decode cX6_told 121 = .ok (.iconst 1, 1) := by decide +kernel
theorem dX6_told_122 : decode cX6_told 122 = .ok (.invokevirtual 222, 3) := by decide +kernel
theorem dX6_told_125 : decode cX6_told 125 = .ok (.iadd, 1) := by decide +kernel
theorem dX6_told_126 : decode cX6_told 126 = .ok (.ireturn, 1) := by decide +kernel
theorem dX6_told_127 : decode cX6_told 127 = .ok (.aload_n 0, 1) := by decide +kernel
theorem dX6_told_128 : decode cX6_told 128 = .ok (.getfield 17, 3) := by decide +kernel
theorem dX6_told_131 : decode cX6_told 131 = .ok (.iconst 5, 1) := by decide +kernel
theorem dX6_told_132 : decode cX6_told 132 = .ok (.iaload, 1) := by decide +kernel
theorem dX6_told_133 : decode cX6_told 133 = .ok (.ireturn, 1) := by decide +kernel
theorem dX6_told_134 : decode cX6_told 134 = .ok (.aload_n 0, 1) := by decide +kernel
theorem dX6_told_135 : decode cX6_told 135 = .ok (.invokevirtual 252, 3) := by decide +kernel
theorem dX6_told_138 : decode cX6_told 138 = .ok (.ireturn, 1) := by decide +kernel
theorem dX6_state_0 : decode cX6_state 0 = .ok (.aload_n 0, 1) := by decide +kernel
theorem dX6_state_1 : decode cX6_state 1 = .ok (.iconst 0, 1) := by decide +kernel
theorem dX6_state_2 : decode cX6_state 2 = .ok (.putfield 51, 3) := by decide +kernel
theorem dX6_state_5 : decode cX6_state 5 = .ok (.aload_n 0, 1) := by decide +kernel
theorem dX6_state_6 : decode cX6_state 6 = .ok (.iload_n 1, 1) := by decide +kernel
theorem dX6_state_7 : decode cX6_state 7 = .ok (.iconst 0, 1) := by decide +kernel
theorem dX6_state_8 : decode cX6_state 8 = .ok (.bipush 12, 2) := by decide +kernel
theorem dX6_state_10 : decode cX6_state 10 = .ok (.invokestatic 54, 3) := by decide +kernel
theorem dX6_state_13 : decode cX6_state 13 = .ok (.ifCond .ne 7, 3) := by decide +kernel
theorem dX6_state_16 : decode cX6_state 16 = .ok (.iconst 1, 1) := by decide +kernel
theorem dX6_state_17 : decode cX6_state 17 = .ok (.goto 4, 3) := by decide +kernel
theorem dX6_state_20 : decode cX6_state 20 = .ok (.iconst 0, 1) := by decide +kernel
theorem dX6_state_21 : decode cX6_state 21 = .ok (.iconst 1, 1) := by decide +kernel
theorem dX6_state_22 : decode cX6_state 22 = .ok (.invokevirtual 173, 3) := by decide +kernel
theorem dX6_state_25 : decode cX6_state 25 = .ok (.ifCond .eq 7, 3) := by decide +kernel
theorem dX6_state_28 : decode cX6_state 28 = .ok (.iconst 0, 1) := by decide +kernel
theorem dX6_state_29 : decode cX6_state 29 = .ok (.goto 8, 3) := by decide +kernel
theorem dX6_state_32 : decode cX6_state 32 = .ok (.aload_n 0, 1) := by decide +kernel
theorem dX6_state_33 : decode cX6_state 33 = .ok (.iload_n 1, 1) := by decide +kernel
theorem dX6_state_34 : decode cX6_state 34 = .ok (.invokevirtual 255, 3) := by decide +kernel
theorem dX6_state_37 : decode cX6_state 37 = .ok (.ireturn, 1) := by decide +kernel
theorem dX6_noCell_0 : decode cX6_noCell 0 = .ok (.aload_n 0, 1) := by decide +kernel
theorem dX6_noCell_1 : decode cX6_noCell 1 = .ok (.aload_n 0, 1) := by decide +kernel
theorem dX6_noCell_2 : decode cX6_noCell 2 = .ok (.iload_n 1, 1) := by decide +kernel
theorem dX6_noCell_3 : decode cX6_noCell 3 = .ok (.iload_n 2, 1) := by decide +kernel
theorem dX6_noCell_4 : decode cX6_noCell 4 = .ok (.invokevirtual 198, 3) := by decide +kernel
theorem dX6_noCell_7 : decode cX6_noCell 7 = .ok (.ifCond .ne 7, 3) := by decide +kernel
theorem dX6_noCell_10 : decode cX6_noCell 10 = .ok (.iconst 1, 1) := by decide +kernel
theorem dX6_noCell_11 : decode cX6_noCell 11 = .ok (.goto 4, 3) := by decide +kernel
theorem dX6_noCell_14 : decode cX6_noCell 14 = .ok (.iconst 0, 1) := by decide +kernel
theorem dX6_noCell_15 : decode cX6_noCell 15 = .ok (.iconst 1, 1) := by decide +kernel
theorem dX6_noCell_16 : decode cX6_noCell 16 = .ok (.invokevirtual 173, 3) := by decide +kernel
theorem dX6_noCell_19 : decode cX6_noCell 19 = .ok (.ireturn, 1) := by decide +kernel
theorem dX6_at_0 : decode cX6_at 0 = .ok (.iload_n 2, 1) := by decide +kernel
theorem dX6_at_1 : decode cX6_at 1 = .ok (.aload_n 0, 1) := by decide +kernel
theorem dX6_at_2 : decode cX6_at 2 = .ok (.getfield 17, 3) := by decide +kernel
theorem dX6_at_5 : decode cX6_at 5 = .ok (.iconst 0, 1) := by decide +kernel
theorem dX6_at_6 : decode cX6_at 6 = .ok (.iaload, 1) := by decide +kernel
theorem dX6_at_7 : decode cX6_at 7 = .ok (.imul, 1) := by decide +kernel
theorem dX6_at_8 : decode cX6_at 8 = .ok (.iload_n 1, 1) := by decide +kernel
theorem dX6_at_9 : decode cX6_at 9 = .ok (.iadd, 1) := by decide +kernel
theorem dX6_at_10 : decode cX6_at 10 = .ok (.ireturn, 1) := by decide +kernel
theorem dX6_toldCell_0 : decode cX6_toldCell 0 = .ok (.iload_n 2, 1) := by decide +kernel
theorem dX6_toldCell_1 : decode cX6_toldCell 1 = .ok (.ifCond .ne 15, 3) := by decide +kernel
theorem dX6_toldCell_4 : decode cX6_toldCell 4 = .ok (.aload_n 0, 1) := by decide +kernel
theorem dX6_toldCell_5 : decode cX6_toldCell 5 = .ok (.getfield 17, 3) := by decide +kernel
theorem dX6_toldCell_8 : decode cX6_toldCell 8 = .ok (.bipush 74, 2) := by decide +kernel
theorem dX6_toldCell_10 : decode cX6_toldCell 10 = .ok (.iload_n 1, 1) := by decide +kernel
theorem dX6_toldCell_11 : decode cX6_toldCell 11 = .ok (.iadd, 1) := by decide +kernel
theorem dX6_toldCell_12 : decode cX6_toldCell 12 = .ok (.iaload, 1) := by decide +kernel
theorem dX6_toldCell_13 : decode cX6_toldCell 13 = .ok (.goto 57, 3) := by decide +kernel
theorem dX6_toldCell_16 : decode cX6_toldCell 16 = .ok (.iload_n 2, 1) := by decide +kernel
theorem dX6_toldCell_17 : decode cX6_toldCell 17 = .ok (.iconst 1, 1) := by decide +kernel
theorem dX6_toldCell_18 : decode cX6_toldCell 18 = .ok (.if_icmp .ne 16, 3) := by decide +kernel
theorem dX6_toldCell_21 : decode cX6_toldCell 21 = .ok (.aload_n 0, 1) := by decide +kernel
theorem dX6_toldCell_22 : decode cX6_toldCell 22 = .ok (.getfield 17, 3) := by decide +kernel
theorem dX6_toldCell_25 : decode cX6_toldCell 25 = .ok (.sipush 254, 3) := by decide +kernel
theorem dX6_toldCell_28 : decode cX6_toldCell 28 = .ok (.iload_n 1, 1) := by decide +kernel
theorem dX6_toldCell_29 : decode cX6_toldCell 29 = .ok (.iadd, 1) := by decide +kernel
theorem dX6_toldCell_30 : decode cX6_toldCell 30 = .ok (.iaload, 1) := by decide +kernel
theorem dX6_toldCell_31 : decode cX6_toldCell 31 = .ok (.goto 39, 3) := by decide +kernel
theorem dX6_toldCell_34 : decode cX6_toldCell 34 = .ok (.iload_n 2, 1) := by decide +kernel
theorem dX6_toldCell_35 : decode cX6_toldCell 35 = .ok (.iconst 2, 1) := by decide +kernel
theorem dX6_toldCell_36 : decode cX6_toldCell 36 = .ok (.if_icmp .ne 16, 3) := by decide +kernel
theorem dX6_toldCell_39 : decode cX6_toldCell 39 = .ok (.aload_n 0, 1) := by decide +kernel
theorem dX6_toldCell_40 : decode cX6_toldCell 40 = .ok (.getfield 17, 3) := by decide +kernel
theorem dX6_toldCell_43 : decode cX6_toldCell 43 = .ok (.sipush 434, 3) := by decide +kernel
theorem dX6_toldCell_46 : decode cX6_toldCell 46 = .ok (.iload_n 1, 1) := by decide +kernel
theorem dX6_toldCell_47 : decode cX6_toldCell 47 = .ok (.iadd, 1) := by decide +kernel
theorem dX6_toldCell_48 : decode cX6_toldCell 48 = .ok (.iaload, 1) := by decide +kernel
theorem dX6_toldCell_49 : decode cX6_toldCell 49 = .ok (.goto 21, 3) := by decide +kernel
theorem dX6_toldCell_52 : decode cX6_toldCell 52 = .ok (.iload_n 2, 1) := by decide +kernel
theorem dX6_toldCell_53 : decode cX6_toldCell 53 = .ok (.iconst 3, 1) := by decide +kernel
theorem dX6_toldCell_54 : decode cX6_toldCell 54 = .ok (.if_icmp .ne 11, 3) := by decide +kernel
theorem dX6_toldCell_57 : decode cX6_toldCell 57 = .ok (.aload_n 0, 1) := by decide +kernel
theorem dX6_toldCell_58 : decode cX6_toldCell 58 = .ok (.iload_n 1, 1) := by decide +kernel
theorem dX6_toldCell_59 : decode cX6_toldCell 59 = .ok (.invokevirtual 219, 3) := by decide +kernel
theorem dX6_toldCell_62 : decode cX6_toldCell 62 = .ok (.goto 8, 3) := by decide +kernel
theorem dX6_toldCell_65 : decode cX6_toldCell 65 = .ok (.aload_n 0, 1) := by decide +kernel
theorem dX6_toldCell_66 : decode cX6_toldCell 66 = .ok (.iload_n 1, 1) := by decide +kernel
theorem dX6_toldCell_67 : decode cX6_toldCell 67 = .ok (.invokevirtual 237, 3) := by decide +kernel
theorem dX6_toldCell_70 : decode cX6_toldCell 70 = .ok (.ireturn, 1) := by decide +kernel
theorem dX6_cell_0 : decode cX6_cell 0 = .ok (.aload_n 0, 1) := by decide +kernel
theorem dX6_cell_1 : decode cX6_cell 1 = .ok (.iconst 0, 1) := by decide +kernel
theorem dX6_cell_2 : decode cX6_cell 2 = .ok (.putfield 51, 3) := by decide +kernel
theorem dX6_cell_5 : decode cX6_cell 5 = .ok (.aload_n 0, 1) := by decide +kernel
theorem dX6_cell_6 : decode cX6_cell 6 = .ok (.iload_n 1, 1) := by decide +kernel
theorem dX6_cell_7 : decode cX6_cell 7 = .ok (.iload_n 2, 1) := by decide +kernel
theorem dX6_cell_8 : decode cX6_cell 8 = .ok (.invokevirtual 258, 3) := by decide +kernel
theorem dX6_cell_11 : decode cX6_cell 11 = .ok (.ifCond .ne 25, 3) := by decide +kernel
theorem dX6_cell_14 : decode cX6_cell 14 = .ok (.aload_n 0, 1) := by decide +kernel
theorem dX6_cell_15 : decode cX6_cell 15 = .ok (.iload_n 3, 1) := by decide +kernel
theorem dX6_cell_16 : decode cX6_cell 16 = .ok (.iconst 0, 1) := by decide +kernel
theorem dX6_cell_17 : decode cX6_cell 17 = .ok (.iconst 4, 1) := by decide +kernel
theorem dX6_cell_18 : decode cX6_cell 18 = .ok (.invokestatic 54, 3) := by decide +kernel
theorem dX6_cell_21 : decode cX6_cell 21 = .ok (.ifCond .ne 7, 3) := by decide +kernel
theorem dX6_cell_24 : decode cX6_cell 24 = .ok (.iconst 1, 1) := by decide +kernel
theorem dX6_cell_25 : decode cX6_cell 25 = .ok (.goto 4, 3) := by decide +kernel
theorem dX6_cell_28 : decode cX6_cell 28 = .ok (.iconst 0, 1) := by decide +kernel
theorem dX6_cell_29 : decode cX6_cell 29 = .ok (.iconst 2, 1) := by decide +kernel
theorem dX6_cell_30 : decode cX6_cell 30 = .ok (.invokevirtual 173, 3) := by decide +kernel
theorem dX6_cell_33 : decode cX6_cell 33 = .ok (.ifCond .eq 7, 3) := by decide +kernel
theorem dX6_cell_36 : decode cX6_cell 36 = .ok (.iconst 0, 1) := by decide +kernel
theorem dX6_cell_37 : decode cX6_cell 37 = .ok (.goto 14, 3) := by decide +kernel
theorem dX6_cell_40 : decode cX6_cell 40 = .ok (.aload_n 0, 1) := by decide +kernel
theorem dX6_cell_41 : decode cX6_cell 41 = .ok (.aload_n 0, 1) := by decide +kernel
theorem dX6_cell_42 : decode cX6_cell 42 = .ok (.iload_n 1, 1) := by decide +kernel
theorem dX6_cell_43 : decode cX6_cell 43 = .ok (.iload_n 2, 1) := by decide +kernel
theorem dX6_cell_44 : decode cX6_cell 44 = .ok (.invokevirtual 261, 3) := by decide +kernel
theorem dX6_cell_47 : decode cX6_cell 47 = .ok (.iload_n 3, 1) := by decide +kernel
theorem dX6_cell_48 : decode cX6_cell 48 = .ok (.invokevirtual 264, 3) := by decide +kernel
theorem dX6_cell_51 : decode cX6_cell 51 = .ok (.ireturn, 1) := by decide +kernel
theorem dX6_mix_0 : decode cX6_mix 0 = .ok (.aload_n 0, 1) := by decide +kernel
theorem dX6_mix_1 : decode cX6_mix 1 = .ok (.iconst 0, 1) := by decide +kernel
theorem dX6_mix_2 : decode cX6_mix 2 = .ok (.putfield 51, 3) := by decide +kernel
theorem dX6_mix_5 : decode cX6_mix 5 = .ok (.aload_n 0, 1) := by decide +kernel
theorem dX6_mix_6 : decode cX6_mix 6 = .ok (.iload_n 1, 1) := by decide +kernel
theorem dX6_mix_7 : decode cX6_mix 7 = .ok (.iconst 1, 1) := by decide +kernel
theorem dX6_mix_8 : decode cX6_mix 8 = .ok (.bipush 6, 2) := by decide +kernel
theorem dX6_mix_10 : decode cX6_mix 10 = .ok (.invokestatic 54, 3) := by decide +kernel
theorem dX6_mix_13 : decode cX6_mix 13 = .ok (.ifCond .eq 13, 3) := by decide +kernel
theorem dX6_mix_16 : decode cX6_mix 16 = .ok (.iload_n 2, 1) := by decide +kernel
theorem dX6_mix_17 : decode cX6_mix 17 = .ok (.iconst 1, 1) := by decide +kernel
theorem dX6_mix_18 : decode cX6_mix 18 = .ok (.bipush 6, 2) := by decide +kernel
theorem dX6_mix_20 : decode cX6_mix 20 = .ok (.invokestatic 54, 3) := by decide +kernel
theorem dX6_mix_23 : decode cX6_mix 23 = .ok (.ifCond .ne 7, 3) := by decide +kernel
theorem dX6_mix_26 : decode cX6_mix 26 = .ok (.iconst 1, 1) := by decide +kernel
theorem dX6_mix_27 : decode cX6_mix 27 = .ok (.goto 4, 3) := by decide +kernel
theorem dX6_mix_30 : decode cX6_mix 30 = .ok (.iconst 0, 1) := by decide +kernel
theorem dX6_mix_31 : decode cX6_mix 31 = .ok (.iconst 1, 1) := by decide +kernel
theorem dX6_mix_32 : decode cX6_mix 32 = .ok (.invokevirtual 173, 3) := by decide +kernel
theorem dX6_mix_35 : decode cX6_mix 35 = .ok (.ifCond .eq 7, 3) := by decide +kernel
theorem dX6_mix_38 : decode cX6_mix 38 = .ok (.iconst 0, 1) := by decide +kernel
theorem dX6_mix_39 : decode cX6_mix 39 = .ok (.goto 9, 3) := by decide +kernel
theorem dX6_mix_42 : decode cX6_mix 42 = .ok (.aload_n 0, 1) := by decide +kernel
theorem dX6_mix_43 : decode cX6_mix 43 = .ok (.iload_n 1, 1) := by decide +kernel
theorem dX6_mix_44 : decode cX6_mix 44 = .ok (.iload_n 2, 1) := by decide +kernel
theorem dX6_mix_45 : decode cX6_mix 45 = .ok (.invokevirtual 234, 3) := by decide +kernel
theorem dX6_mix_48 : decode cX6_mix 48 = .ok (.ireturn, 1) := by decide +kernel
theorem dX6_count_0 : decode cX6_count 0 = .ok (.aload_n 0, 1) := by decide +kernel
theorem dX6_count_1 : decode cX6_count 1 = .ok (.iconst 0, 1) := by decide +kernel
theorem dX6_count_2 : decode cX6_count 2 = .ok (.putfield 51, 3) := by decide +kernel
theorem dX6_count_5 : decode cX6_count 5 = .ok (.aload_n 0, 1) := by decide +kernel
theorem dX6_count_6 : decode cX6_count 6 = .ok (.iload_n 1, 1) := by decide +kernel
theorem dX6_count_7 : decode cX6_count 7 = .ok (.iconst 0, 1) := by decide +kernel
theorem dX6_count_8 : decode cX6_count 8 = .ok (.bipush 6, 2) := by decide +kernel
theorem dX6_count_10 : decode cX6_count 10 = .ok (.invokestatic 54, 3) := by decide +kernel
theorem dX6_count_13 : decode cX6_count 13 = .ok (.ifCond .ne 7, 3) := by decide +kernel
theorem dX6_count_16 : decode cX6_count 16 = .ok (.iconst 1, 1) := by decide +kernel
theorem dX6_count_17 : decode cX6_count 17 = .ok (.goto 4, 3) := by decide +kernel
theorem dX6_count_20 : decode cX6_count 20 = .ok (.iconst 0, 1) := by decide +kernel
theorem dX6_count_21 : decode cX6_count 21 = .ok (.iconst 1, 1) := by decide +kernel
theorem dX6_count_22 : decode cX6_count 22 = .ok (.invokevirtual 173, 3) := by decide +kernel
theorem dX6_count_25 : decode cX6_count 25 = .ok (.ifCond .eq 7, 3) := by decide +kernel
theorem dX6_count_28 : decode cX6_count 28 = .ok (.iconst 0, 1) := by decide +kernel
theorem dX6_count_29 : decode cX6_count 29 = .ok (.goto 8, 3) := by decide +kernel
theorem dX6_count_32 : decode cX6_count 32 = .ok (.aload_n 0, 1) := by decide +kernel
theorem dX6_count_33 : decode cX6_count 33 = .ok (.iload_n 1, 1) := by decide +kernel
theorem dX6_count_34 : decode cX6_count 34 = .ok (.invokevirtual 243, 3) := by decide +kernel
theorem dX6_count_37 : decode cX6_count 37 = .ok (.ireturn, 1) := by decide +kernel
theorem dX6_unlike_0 : decode cX6_unlike 0 = .ok (.aload_n 0, 1) := by decide +kernel
theorem dX6_unlike_1 : decode cX6_unlike 1 = .ok (.iconst 0, 1) := by decide +kernel
theorem dX6_unlike_2 : decode cX6_unlike 2 = .ok (.putfield 51, 3) := by decide +kernel
theorem dX6_unlike_5 : decode cX6_unlike 5 = .ok (.aload_n 0, 1) := by decide +kernel
theorem dX6_unlike_6 : decode cX6_unlike 6 = .ok (.invokevirtual 267, 3) := by decide +kernel
theorem dX6_unlike_9 : decode cX6_unlike 9 = .ok (.ireturn, 1) := by decide +kernel
theorem dX6_region_0 : decode cX6_region 0 = .ok (.aload_n 0, 1) := by decide +kernel
theorem dX6_region_1 : decode cX6_region 1 = .ok (.iconst 0, 1) := by decide +kernel
theorem dX6_region_2 : decode cX6_region 2 = .ok (.putfield 51, 3) := by decide +kernel
theorem dX6_region_5 : decode cX6_region 5 = .ok (.aload_n 0, 1) := by decide +kernel
theorem dX6_region_6 : decode cX6_region 6 = .ok (.iload_n 1, 1) := by decide +kernel
theorem dX6_region_7 : decode cX6_region 7 = .ok (.iload_n 2, 1) := by decide +kernel
theorem dX6_region_8 : decode cX6_region 8 = .ok (.invokevirtual 258, 3) := by decide +kernel
theorem dX6_region_11 : decode cX6_region 11 = .ok (.ifCond .eq 5, 3) := by decide +kernel
theorem dX6_region_14 : decode cX6_region 14 = .ok (.iconst 0, 1) := by decide +kernel
theorem dX6_region_15 : decode cX6_region 15 = .ok (.ireturn, 1) := by decide +kernel
theorem dX6_region_16 : decode cX6_region 16 = .ok (.aload_n 0, 1) := by decide +kernel
theorem dX6_region_17 : decode cX6_region 17 = .ok (.invokevirtual 270, 3) := by decide +kernel
theorem dX6_region_20 : decode cX6_region 20 = .ok (.aload_n 0, 1) := by decide +kernel
theorem dX6_region_21 : decode cX6_region 21 = .ok (.aload_n 0, 1) := by decide +kernel
theorem dX6_region_22 : decode cX6_region 22 = .ok (.iload_n 1, 1) := by decide +kernel
theorem dX6_region_23 : decode cX6_region 23 = .ok (.iload_n 2, 1) := by decide +kernel
theorem dX6_region_24 : decode cX6_region 24 = .ok (.invokevirtual 261, 3) := by decide +kernel
theorem dX6_region_27 : decode cX6_region 27 = .ok (.invokevirtual 273, 3) := by decide +kernel
theorem dX6_region_30 : decode cX6_region 30 = .ok (.ireturn, 1) := by decide +kernel
theorem dX6_regions_0 : decode cX6_regions 0 = .ok (.aload_n 0, 1) := by decide +kernel
theorem dX6_regions_1 : decode cX6_regions 1 = .ok (.iconst 0, 1) := by decide +kernel
theorem dX6_regions_2 : decode cX6_regions 2 = .ok (.putfield 51, 3) := by decide +kernel
theorem dX6_regions_5 : decode cX6_regions 5 = .ok (.aload_n 0, 1) := by decide +kernel
theorem dX6_regions_6 : decode cX6_regions 6 = .ok (.iload_n 1, 1) := by decide +kernel
theorem dX6_regions_7 : decode cX6_regions 7 = .ok (.iconst 0, 1) := by decide +kernel
theorem dX6_regions_8 : decode cX6_regions 8 = .ok (.bipush 6, 2) := by decide +kernel
theorem dX6_regions_10 : decode cX6_regions 10 = .ok (.invokestatic 54, 3) := by decide +kernel
theorem dX6_regions_13 : decode cX6_regions 13 = .ok (.ifCond .ne 7, 3) := by decide +kernel
theorem dX6_regions_16 : decode cX6_regions 16 = .ok (.iconst 1, 1) := by decide +kernel
theorem dX6_regions_17 : decode cX6_regions 17 = .ok (.goto 4, 3) := by decide +kernel
theorem dX6_regions_20 : decode cX6_regions 20 = .ok (.iconst 0, 1) := by decide +kernel
theorem dX6_regions_21 : decode cX6_regions 21 = .ok (.iconst 1, 1) := by decide +kernel
theorem dX6_regions_22 : decode cX6_regions 22 = .ok (.invokevirtual 173, 3) := by decide +kernel
theorem dX6_regions_25 : decode cX6_regions 25 = .ok (.ifCond .eq 5, 3) := by decide +kernel
theorem dX6_regions_28 : decode cX6_regions 28 = .ok (.iconst 0, 1) := by decide +kernel
theorem dX6_regions_29 : decode cX6_regions 29 = .ok (.ireturn, 1) := by decide +kernel
theorem dX6_regions_30 : decode cX6_regions 30 = .ok (.iconst 0, 1) := by decide +kernel
theorem dX6_regions_31 : decode cX6_regions 31 = .ok (.istore_n 2, 1) := by decide +kernel
theorem dX6_regions_32 : decode cX6_regions 32 = .ok (.aload_n 0, 1) := by decide +kernel
theorem dX6_regions_33 : decode cX6_regions 33 = .ok (.invokevirtual 270, 3) := by decide +kernel
theorem dX6_regions_36 : decode cX6_regions 36 = .ok (.iconst 0, 1) := by decide +kernel
theorem dX6_regions_37 : decode cX6_regions 37 = .ok (.istore_n 3, 1) := by decide +kernel
theorem dX6_regions_38 : decode cX6_regions 38 = .ok (.iload_n 3, 1) := by decide +kernel
theorem dX6_regions_39 : decode cX6_regions 39 = .ok (.aload_n 0, 1) := by decide +kernel
theorem dX6_regions_40 : decode cX6_regions 40 = .ok (.invokevirtual 205, 3) := by decide +kernel
theorem dX6_regions_43 : decode cX6_regions 43 = .ok (.if_icmp .ge 52, 3) := by decide +kernel
theorem dX6_regions_46 : decode cX6_regions 46 = .ok (.aload_n 0, 1) := by decide +kernel
theorem dX6_regions_47 : decode cX6_regions 47 = .ok (.iload_n 3, 1) := by decide +kernel
theorem dX6_regions_48 : decode cX6_regions 48 = .ok (.invokevirtual 208, 3) := by decide +kernel
theorem dX6_regions_51 : decode cX6_regions 51 = .ok (.ifCond .eq 38, 3) := by decide +kernel
theorem dX6_regions_54 : decode cX6_regions 54 = .ok (.aload_n 0, 1) := by decide +kernel
theorem dX6_regions_55 : decode cX6_regions 55 = .ok (.getfield 40, 3) := by decide +kernel
theorem dX6_regions_58 : decode cX6_regions 58 = .ok (.iload_n 3, 1) := by decide +kernel
theorem dX6_regions_59 : decode cX6_regions 59 = .ok (.baload, 1) := by decide +kernel
theorem dX6_regions_60 : decode cX6_regions 60 = .ok (.ifCond .ne 29, 3) := by decide +kernel
theorem dX6_regions_63 : decode cX6_regions 63 = .ok (.aload_n 0, 1) := by decide +kernel
theorem dX6_regions_64 : decode cX6_regions 64 = .ok (.getfield 17, 3) := by decide +kernel
theorem dX6_regions_67 : decode cX6_regions 67 = .ok (.bipush 74, 2) := by decide +kernel
theorem dX6_regions_69 : decode cX6_regions 69 = .ok (.iload_n 3, 1) := by decide +kernel
theorem dX6_regions_70 : decode cX6_regions 70 = .ok (.iadd, 1) := by decide +kernel
theorem dX6_regions_71 : decode cX6_regions 71 = .ok (.iaload, 1) := by decide +kernel
theorem dX6_regions_72 : decode cX6_regions 72 = .ok (.iload_n 1, 1) := by decide +kernel
theorem dX6_regions_73 : decode cX6_regions 73 = .ok (.if_icmp .eq 6, 3) := by decide +kernel
theorem dX6_regions_76 : decode cX6_regions 76 = .ok (.goto 13, 3) := by decide +kernel
theorem dX6_regions_79 : decode cX6_regions 79 = .ok (.aload_n 0, 1) := by decide +kernel
theorem dX6_regions_80 : decode cX6_regions 80 = .ok (.iload_n 3, 1) := by decide +kernel
theorem dX6_regions_81 : decode cX6_regions 81 = .ok (.invokevirtual 273, 3) := by decide +kernel
theorem dX6_regions_84 : decode cX6_regions 84 = .ok (.istore 4, 2) := by decide +kernel
theorem dX6_regions_86 : decode cX6_regions 86 = .ok (.iinc 2 1, 3) := by decide +kernel
theorem dX6_regions_89 : decode cX6_regions 89 = .ok (.iinc 3 1, 3) := by decide +kernel
theorem dX6_regions_92 : decode cX6_regions 92 = .ok (.goto (-54), 3) := by decide +kernel
theorem dX6_regions_95 : decode cX6_regions 95 = .ok (.iload_n 2, 1) := by decide +kernel
theorem dX6_regions_96 : decode cX6_regions 96 = .ok (.ireturn, 1) := by decide +kernel
theorem dX6_bleeds_0 : decode cX6_bleeds 0 = .ok (.aload_n 0, 1) := by decide +kernel
theorem dX6_bleeds_1 : decode cX6_bleeds 1 = .ok (.iconst 0, 1) := by decide +kernel
theorem dX6_bleeds_2 : decode cX6_bleeds 2 = .ok (.putfield 51, 3) := by decide +kernel
theorem dX6_bleeds_5 : decode cX6_bleeds 5 = .ok (.aload_n 0, 1) := by decide +kernel
theorem dX6_bleeds_6 : decode cX6_bleeds 6 = .ok (.iload_n 1, 1) := by decide +kernel
theorem dX6_bleeds_7 : decode cX6_bleeds 7 = .ok (.iload_n 2, 1) := by decide +kernel
theorem dX6_bleeds_8 : decode cX6_bleeds 8 = .ok (.invokevirtual 258, 3) := by decide +kernel
theorem dX6_bleeds_11 : decode cX6_bleeds 11 = .ok (.ifCond .eq 7, 3) := by decide +kernel
theorem dX6_bleeds_14 : decode cX6_bleeds 14 = .ok (.iconst 0, 1) := by decide +kernel
theorem dX6_bleeds_15 : decode cX6_bleeds 15 = .ok (.goto 13, 3) := by decide +kernel
theorem dX6_bleeds_18 : decode cX6_bleeds 18 = .ok (.aload_n 0, 1) := by decide +kernel
theorem dX6_bleeds_19 : decode cX6_bleeds 19 = .ok (.aload_n 0, 1) := by decide +kernel
theorem dX6_bleeds_20 : decode cX6_bleeds 20 = .ok (.iload_n 1, 1) := by decide +kernel
theorem dX6_bleeds_21 : decode cX6_bleeds 21 = .ok (.iload_n 2, 1) := by decide +kernel
theorem dX6_bleeds_22 : decode cX6_bleeds 22 = .ok (.invokevirtual 261, 3) := by decide +kernel
theorem dX6_bleeds_25 : decode cX6_bleeds 25 = .ok (.invokevirtual 231, 3) := by decide +kernel
theorem dX6_bleeds_28 : decode cX6_bleeds 28 = .ok (.ireturn, 1) := by decide +kernel
theorem dX6_driesIn_0 : decode cX6_driesIn 0 = .ok (.aload_n 0, 1) := by decide +kernel
theorem dX6_driesIn_1 : decode cX6_driesIn 1 = .ok (.iconst 0, 1) := by decide +kernel
theorem dX6_driesIn_2 : decode cX6_driesIn 2 = .ok (.putfield 51, 3) := by decide +kernel
theorem dX6_driesIn_5 : decode cX6_driesIn 5 = .ok (.iconst 0, 1) := by decide +kernel
theorem dX6_driesIn_6 : decode cX6_driesIn 6 = .ok (.istore_n 1, 1) := by decide +kernel
theorem dX6_driesIn_7 : decode cX6_driesIn 7 = .ok (.aload_n 0, 1) := by decide +kernel
theorem dX6_driesIn_8 : decode cX6_driesIn 8 = .ok (.getfield 17, 3) := by decide +kernel
theorem dX6_driesIn_11 : decode cX6_driesIn 11 = .ok (.aload_n 0, 1) := by decide +kernel
theorem dX6_driesIn_12 : decode cX6_driesIn 12 = .ok (.getfield 23, 3) := by decide +kernel
theorem dX6_driesIn_15 : decode cX6_driesIn 15 = .ok (.invokestatic 185, 3) := by decide +kernel
theorem dX6_driesIn_18 : decode cX6_driesIn 18 = .ok (.aload_n 0, 1) := by decide +kernel
theorem dX6_driesIn_19 : decode cX6_driesIn 19 = .ok (.invokevirtual 246, 3) := by decide +kernel
theorem dX6_driesIn_22 : decode cX6_driesIn 22 = .ok (.ifCond .le 14, 3) := by decide +kernel
theorem dX6_driesIn_25 : decode cX6_driesIn 25 = .ok (.aload_n 0, 1) := by decide +kernel
theorem dX6_driesIn_26 : decode cX6_driesIn 26 = .ok (.invokevirtual 276, 3) := by decide +kernel
theorem dX6_driesIn_29 : decode cX6_driesIn 29 = .ok (.istore_n 2, 1) := by decide +kernel
theorem dX6_driesIn_30 : decode cX6_driesIn 30 = .ok (.iinc 1 1, 3) := by decide +kernel
theorem dX6_driesIn_33 : decode cX6_driesIn 33 = .ok (.goto (-15), 3) := by decide +kernel
theorem dX6_driesIn_36 : decode cX6_driesIn 36 = .ok (.aload_n 0, 1) := by decide +kernel
theorem dX6_driesIn_37 : decode cX6_driesIn 37 = .ok (.getfield 23, 3) := by decide +kernel
theorem dX6_driesIn_40 : decode cX6_driesIn 40 = .ok (.aload_n 0, 1) := by decide +kernel
theorem dX6_driesIn_41 : decode cX6_driesIn 41 = .ok (.getfield 17, 3) := by decide +kernel
theorem dX6_driesIn_44 : decode cX6_driesIn 44 = .ok (.invokestatic 185, 3) := by decide +kernel
theorem dX6_driesIn_47 : decode cX6_driesIn 47 = .ok (.iload_n 1, 1) := by decide +kernel
theorem dX6_driesIn_48 : decode cX6_driesIn 48 = .ok (.ireturn, 1) := by decide +kernel
theorem dX6_foretold_0 : decode cX6_foretold 0 = .ok (.aload_n 0, 1) := by decide +kernel
theorem dX6_foretold_1 : decode cX6_foretold 1 = .ok (.iconst 0, 1) := by decide +kernel
theorem dX6_foretold_2 : decode cX6_foretold 2 = .ok (.putfield 51, 3) := by decide +kernel
theorem dX6_foretold_5 : decode cX6_foretold 5 = .ok (.aload_n 0, 1) := by decide +kernel
theorem dX6_foretold_6 : decode cX6_foretold 6 = .ok (.iload_n 1, 1) := by decide +kernel
theorem dX6_foretold_7 : decode cX6_foretold 7 = .ok (.iconst 1, 1) := by decide +kernel
theorem dX6_foretold_8 : decode cX6_foretold 8 = .ok (.bipush 40, 2) := by decide +kernel
theorem dX6_foretold_10 : decode cX6_foretold 10 = .ok (.invokestatic 54, 3) := by decide +kernel
theorem dX6_foretold_13 : decode cX6_foretold 13 = .ok (.ifCond .eq 12, 3) := by decide +kernel
theorem dX6_foretold_16 : decode cX6_foretold 16 = .ok (.iload_n 2, 1) := by decide +kernel
theorem dX6_foretold_17 : decode cX6_foretold 17 = .ok (.iconst 0, 1) := by decide +kernel
theorem dX6_foretold_18 : decode cX6_foretold 18 = .ok (.iconst 4, 1) := by decide +kernel
theorem dX6_foretold_19 : decode cX6_foretold 19 = .ok (.invokestatic 54, 3) := by decide +kernel
theorem dX6_foretold_22 : decode cX6_foretold 22 = .ok (.ifCond .ne 7, 3) := by decide +kernel
theorem dX6_foretold_25 : decode cX6_foretold 25 = .ok (.iconst 1, 1) := by decide +kernel
theorem dX6_foretold_26 : decode cX6_foretold 26 = .ok (.goto 4, 3) := by decide +kernel
theorem dX6_foretold_29 : decode cX6_foretold 29 = .ok (.iconst 0, 1) := by decide +kernel
theorem dX6_foretold_30 : decode cX6_foretold 30 = .ok (.iconst 1, 1) := by decide +kernel
theorem dX6_foretold_31 : decode cX6_foretold 31 = .ok (.invokevirtual 173, 3) := by decide +kernel
theorem dX6_foretold_34 : decode cX6_foretold 34 = .ok (.ifCond .eq 5, 3) := by decide +kernel
theorem dX6_foretold_37 : decode cX6_foretold 37 = .ok (.iconst 0, 1) := by decide +kernel
theorem dX6_foretold_38 : decode cX6_foretold 38 = .ok (.ireturn, 1) := by decide +kernel
theorem dX6_foretold_39 : decode cX6_foretold 39 = .ok (.aload_n 0, 1) := by decide +kernel
theorem dX6_foretold_40 : decode cX6_foretold 40 = .ok (.getfield 17, 3) := by decide +kernel
theorem dX6_foretold_43 : decode cX6_foretold 43 = .ok (.aload_n 0, 1) := by decide +kernel
theorem dX6_foretold_44 : decode cX6_foretold 44 = .ok (.getfield 23, 3) := by decide +kernel
theorem dX6_foretold_47 : decode cX6_foretold 47 = .ok (.invokestatic 185, 3) := by decide +kernel
theorem dX6_foretold_50 : decode cX6_foretold 50 = .ok (.iconst 0, 1) := by decide +kernel
theorem dX6_foretold_51 : decode cX6_foretold 51 = .ok (.istore_n 3, 1) := by decide +kernel
theorem dX6_foretold_52 : decode cX6_foretold 52 = .ok (.iconst 0, 1) := by decide +kernel
theorem dX6_foretold_53 : decode cX6_foretold 53 = .ok (.istore 4, 2) := by decide +kernel
theorem dX6_foretold_55 : decode cX6_foretold 55 = .ok (.iload 4, 2) := by decide +kernel
theorem dX6_foretold_57 : decode cX6_foretold 57 = .ok (.iload_n 1, 1) := by decide +kernel
theorem dX6_foretold_58 : decode cX6_foretold 58 = .ok (.if_icmp .ge 16, 3) := by decide +kernel
theorem dX6_foretold_61 : decode cX6_foretold 61 = .ok (.iload_n 3, 1) := by decide +kernel
theorem dX6_foretold_62 : decode cX6_foretold 62 = .ok (.aload_n 0, 1) := by decide +kernel
theorem dX6_foretold_63 : decode cX6_foretold 63 = .ok (.invokevirtual 276, 3) := by decide +kernel
theorem dX6_foretold_66 : decode cX6_foretold 66 = .ok (.iadd, 1) := by decide +kernel
theorem dX6_foretold_67 : decode cX6_foretold 67 = .ok (.istore_n 3, 1) := by decide +kernel
theorem dX6_foretold_68 : decode cX6_foretold 68 = .ok (.iinc 4 1, 3) := by decide +kernel
theorem dX6_foretold_71 : decode cX6_foretold 71 = .ok (.goto (-16), 3) := by decide +kernel
theorem dX6_foretold_74 : decode cX6_foretold 74 = .ok (.iload_n 2, 1) := by decide +kernel
theorem dX6_foretold_75 : decode cX6_foretold 75 = .ok (.ifCond .ne 10, 3) := by decide +kernel
theorem dX6_foretold_78 : decode cX6_foretold 78 = .ok (.aload_n 0, 1) := by decide +kernel
theorem dX6_foretold_79 : decode cX6_foretold 79 = .ok (.invokevirtual 249, 3) := by decide +kernel
theorem dX6_foretold_82 : decode cX6_foretold 82 = .ok (.goto 41, 3) := by decide +kernel
theorem dX6_foretold_85 : decode cX6_foretold 85 = .ok (.iload_n 2, 1) := by decide +kernel
theorem dX6_foretold_86 : decode cX6_foretold 86 = .ok (.iconst 1, 1) := by decide +kernel
theorem dX6_foretold_87 : decode cX6_foretold 87 = .ok (.if_icmp .ne 11, 3) := by decide +kernel
theorem dX6_foretold_90 : decode cX6_foretold 90 = .ok (.aload_n 0, 1) := by decide +kernel
theorem dX6_foretold_91 : decode cX6_foretold 91 = .ok (.iconst 0, 1) := by decide +kernel
theorem dX6_foretold_92 : decode cX6_foretold 92 = .ok (.invokevirtual 243, 3) := by decide +kernel
theorem dX6_foretold_95 : decode cX6_foretold 95 = .ok (.goto 28, 3) := by decide +kernel
theorem dX6_foretold_98 : decode cX6_foretold 98 = .ok (.iload_n 2, 1) := by decide +kernel
theorem dX6_foretold_99 : decode cX6_foretold 99 = .ok (.iconst 2, 1) := by decide +kernel
theorem dX6_foretold_100 : decode cX6_foretold 100 = .ok (.if_icmp .ne 10, 3) := by decide +kernel
theorem dX6_foretold_103 : decode cX6_foretold 103 = .ok (.aload_n 0, 1) := by decide +kernel
theorem dX6_foretold_104 : decode cX6_foretold 104 = .ok (.invokevirtual 267, 3) := by decide +kernel
theorem dX6_foretold_107 : decode cX6_foretold 107 = .ok (.goto 16, 3) := by decide +kernel
theorem dX6_foretold_110 : decode cX6_foretold 110 = .ok (.iload_n 2, 1) := by decide +kernel
theorem dX6_foretold_111 : decode cX6_foretold 111 = .ok (.iconst 3, 1) := by decide +kernel
theorem dX6_foretold_112 : decode cX6_foretold 112 = .ok (.if_icmp .ne 10, 3) := by decide +kernel
theorem dX6_foretold_115 : decode cX6_foretold 115 = .ok (.aload_n 0, 1) := by decide +kernel
theorem dX6_foretold_116 : decode cX6_foretold 116 = .ok (.invokevirtual 246, 3) := by decide +kernel
theorem dX6_foretold_119 : decode cX6_foretold 119 = .ok (.goto 4, 3) := by decide +kernel
theorem dX6_foretold_122 : decode cX6_foretold 122 = .ok (.iload_n 3, 1) := by decide +kernel
theorem dX6_foretold_123 : decode cX6_foretold 123 = .ok (.istore 4, 2) := by decide +kernel
theorem dX6_foretold_125 : decode cX6_foretold 125 = .ok (.aload_n 0, 1) := by decide +kernel
theorem dX6_foretold_126 : decode cX6_foretold 126 = .ok (.getfield 23, 3) := by decide +kernel
theorem dX6_foretold_129 : decode cX6_foretold 129 = .ok (.aload_n 0, 1) := by decide +kernel
theorem dX6_foretold_130 : decode cX6_foretold 130 = .ok (.getfield 17, 3) := by decide +kernel
theorem dX6_foretold_133 : decode cX6_foretold 133 = .ok (.invokestatic 185, 3) := by decide +kernel
theorem dX6_foretold_136 : decode cX6_foretold 136 = .ok (.iload 4, 2) := by decide +kernel
theorem dX6_foretold_138 : decode cX6_foretold 138 = .ok (.ireturn, 1) := by decide +kernel
theorem dX6_evens_0 : decode cX6_evens 0 = .ok (.aload_n 0, 1) := by decide +kernel
theorem dX6_evens_1 : decode cX6_evens 1 = .ok (.iconst 0, 1) := by decide +kernel
theorem dX6_evens_2 : decode cX6_evens 2 = .ok (.putfield 51, 3) := by decide +kernel
theorem dX6_evens_5 : decode cX6_evens 5 = .ok (.aload_n 0, 1) := by decide +kernel
theorem dX6_evens_6 : decode cX6_evens 6 = .ok (.iload_n 1, 1) := by decide +kernel
theorem dX6_evens_7 : decode cX6_evens 7 = .ok (.iconst 0, 1) := by decide +kernel
theorem dX6_evens_8 : decode cX6_evens 8 = .ok (.bipush 6, 2) := by decide +kernel
theorem dX6_evens_10 : decode cX6_evens 10 = .ok (.invokestatic 54, 3) := by decide +kernel
theorem dX6_evens_13 : decode cX6_evens 13 = .ok (.ifCond .ne 7, 3) := by decide +kernel
theorem dX6_evens_16 : decode cX6_evens 16 = .ok (.iconst 1, 1) := by decide +kernel
theorem dX6_evens_17 : decode cX6_evens 17 = .ok (.goto 4, 3) := by decide +kernel
theorem dX6_evens_20 : decode cX6_evens 20 = .ok (.iconst 0, 1) := by decide +kernel
theorem dX6_evens_21 : decode cX6_evens 21 = .ok (.iconst 1, 1) := by decide +kernel
theorem dX6_evens_22 : decode cX6_evens 22 = .ok (.invokevirtual 173, 3) := by decide +kernel
theorem dX6_evens_25 : decode cX6_evens 25 = .ok (.ifCond .eq 5, 3) := by decide +kernel
theorem dX6_evens_28 : decode cX6_evens 28 = .ok (.iconst 0, 1) := by decide +kernel
theorem dX6_evens_29 : decode cX6_evens 29 = .ok (.ireturn, 1) := by decide +kernel
theorem dX6_evens_30 : decode cX6_evens 30 = .ok (.aload_n 0, 1) := by decide +kernel
theorem dX6_evens_31 : decode cX6_evens 31 = .ok (.invokevirtual 249, 3) := by decide +kernel
theorem dX6_evens_34 : decode cX6_evens 34 = .ok (.istore_n 2, 1) := by decide +kernel
theorem dX6_evens_35 : decode cX6_evens 35 = .ok (.iload_n 2, 1) := by decide +kernel
theorem dX6_evens_36 : decode cX6_evens 36 = .ok (.invokestatic 58, 3) := by decide +kernel
theorem dX6_evens_39 : decode cX6_evens 39 = .ok (.istore_n 3, 1) := by decide +kernel
theorem dX6_evens_40 : decode cX6_evens 40 = .ok (.iconst (-1), 1) := by decide +kernel
theorem dX6_evens_41 : decode cX6_evens 41 = .ok (.istore 4, 2) := by decide +kernel
theorem dX6_evens_43 : decode cX6_evens 43 = .ok (.iconst 0, 1) := by decide +kernel
theorem dX6_evens_44 : decode cX6_evens 44 = .ok (.istore 5, 2) := by decide +kernel
theorem dX6_evens_46 : decode cX6_evens 46 = .ok (.iload 5, 2) := by decide +kernel
theorem dX6_evens_48 : decode cX6_evens 48 = .ok (.aload_n 0, 1) := by decide +kernel
theorem dX6_evens_49 : decode cX6_evens 49 = .ok (.invokevirtual 205, 3) := by decide +kernel
theorem dX6_evens_52 : decode cX6_evens 52 = .ok (.if_icmp .ge 88, 3) := by decide +kernel
theorem dX6_evens_55 : decode cX6_evens 55 = .ok (.aload_n 0, 1) := by decide +kernel
theorem dX6_evens_56 : decode cX6_evens 56 = .ok (.iload 5, 2) := by decide +kernel
theorem dX6_evens_58 : decode cX6_evens 58 = .ok (.invokevirtual 208, 3) := by decide +kernel
theorem dX6_evens_61 : decode cX6_evens 61 = .ok (.ifCond .ne 6, 3) := by decide +kernel
theorem dX6_evens_64 : decode cX6_evens 64 = .ok (.goto 70, 3) := by decide +kernel
theorem dX6_evens_67 : decode cX6_evens 67 = .ok (.aload_n 0, 1) := by decide +kernel
theorem dX6_evens_68 : decode cX6_evens 68 = .ok (.iload 5, 2) := by decide +kernel
theorem dX6_evens_70 : decode cX6_evens 70 = .ok (.invokevirtual 192, 3) := by decide +kernel
theorem dX6_evens_73 : decode cX6_evens 73 = .ok (.aload_n 0, 1) := by decide +kernel
theorem dX6_evens_74 : decode cX6_evens 74 = .ok (.getfield 17, 3) := by decide +kernel
theorem dX6_evens_77 : decode cX6_evens 77 = .ok (.iconst 0, 1) := by decide +kernel
theorem dX6_evens_78 : decode cX6_evens 78 = .ok (.iaload, 1) := by decide +kernel
theorem dX6_evens_79 : decode cX6_evens 79 = .ok (.iconst 2, 1) := by decide +kernel
theorem dX6_evens_80 : decode cX6_evens 80 = .ok (.idiv, 1) := by decide +kernel
theorem dX6_evens_81 : decode cX6_evens 81 = .ok (.isub, 1) := by decide +kernel
theorem dX6_evens_82 : decode cX6_evens 82 = .ok (.invokestatic 214, 3) := by decide +kernel
theorem dX6_evens_85 : decode cX6_evens 85 = .ok (.aload_n 0, 1) := by decide +kernel
theorem dX6_evens_86 : decode cX6_evens 86 = .ok (.iload_n 1, 1) := by decide +kernel
theorem dX6_evens_87 : decode cX6_evens 87 = .ok (.invokevirtual 211, 3) := by decide +kernel
theorem dX6_evens_90 : decode cX6_evens 90 = .ok (.aload_n 0, 1) := by decide +kernel
theorem dX6_evens_91 : decode cX6_evens 91 = .ok (.aload_n 0, 1) := by decide +kernel
theorem dX6_evens_92 : decode cX6_evens 92 = .ok (.getfield 17, 3) := by decide +kernel
theorem dX6_evens_95 : decode cX6_evens 95 = .ok (.bipush 74, 2) := by decide +kernel
theorem dX6_evens_97 : decode cX6_evens 97 = .ok (.iload 5, 2) := by decide +kernel
theorem dX6_evens_99 : decode cX6_evens 99 = .ok (.iadd, 1) := by decide +kernel
theorem dX6_evens_100 : decode cX6_evens 100 = .ok (.iaload, 1) := by decide +kernel
theorem dX6_evens_101 : decode cX6_evens 101 = .ok (.invokevirtual 211, 3) := by decide +kernel
theorem dX6_evens_104 : decode cX6_evens 104 = .ok (.isub, 1) := by decide +kernel
theorem dX6_evens_105 : decode cX6_evens 105 = .ok (.imul, 1) := by decide +kernel
theorem dX6_evens_106 : decode cX6_evens 106 = .ok (.istore 6, 2) := by decide +kernel
theorem dX6_evens_108 : decode cX6_evens 108 = .ok (.iload_n 2, 1) := by decide +kernel
theorem dX6_evens_109 : decode cX6_evens 109 = .ok (.iload 6, 2) := by decide +kernel
theorem dX6_evens_111 : decode cX6_evens 111 = .ok (.iadd, 1) := by decide +kernel
theorem dX6_evens_112 : decode cX6_evens 112 = .ok (.invokestatic 58, 3) := by decide +kernel
theorem dX6_evens_115 : decode cX6_evens 115 = .ok (.iload_n 3, 1) := by decide +kernel
theorem dX6_evens_116 : decode cX6_evens 116 = .ok (.if_icmp .lt 6, 3) := by decide +kernel
theorem dX6_evens_119 : decode cX6_evens 119 = .ok (.goto 15, 3) := by decide +kernel
theorem dX6_evens_122 : decode cX6_evens 122 = .ok (.iload_n 2, 1) := by decide +kernel
theorem dX6_evens_123 : decode cX6_evens 123 = .ok (.iload 6, 2) := by decide +kernel
theorem dX6_evens_125 : decode cX6_evens 125 = .ok (.iadd, 1) := by decide +kernel
theorem dX6_evens_126 : decode cX6_evens 126 = .ok (.invokestatic 58, 3) := by decide +kernel
theorem dX6_evens_129 : decode cX6_evens 129 = .ok (.istore_n 3, 1) := by decide +kernel
theorem dX6_evens_130 : decode cX6_evens 130 = .ok (.iload 5, 2) := by decide +kernel
theorem dX6_evens_132 : decode cX6_evens 132 = .ok (.istore 4, 2) := by decide +kernel
theorem dX6_evens_134 : decode cX6_evens 134 = .ok (.iinc 5 1, 3) := by decide +kernel
theorem dX6_evens_137 : decode cX6_evens 137 = .ok (.goto (-91), 3) := by decide +kernel
theorem dX6_evens_140 : decode cX6_evens 140 = .ok (.iload 4, 2) := by decide +kernel
theorem dX6_evens_142 : decode cX6_evens 142 = .ok (.ireturn, 1) := by decide +kernel
theorem dX6_noPattern_0 : decode cX6_noPattern 0 = .ok (.aload_n 0, 1) := by decide +kernel
theorem dX6_noPattern_1 : decode cX6_noPattern 1 = .ok (.iload_n 1, 1) := by decide +kernel
theorem dX6_noPattern_2 : decode cX6_noPattern 2 = .ok (.iconst 0, 1) := by decide +kernel
theorem dX6_noPattern_3 : decode cX6_noPattern 3 = .ok (.aload_n 0, 1) := by decide +kernel
theorem dX6_noPattern_4 : decode cX6_noPattern 4 = .ok (.getfield 17, 3) := by decide +kernel
theorem dX6_noPattern_7 : decode cX6_noPattern 7 = .ok (.iconst 5, 1) := by decide +kernel
theorem dX6_noPattern_8 : decode cX6_noPattern 8 = .ok (.iaload, 1) := by decide +kernel
theorem dX6_noPattern_9 : decode cX6_noPattern 9 = .ok (.iconst 1, 1) := by decide +kernel
theorem dX6_noPattern_10 : decode cX6_noPattern 10 = .ok (.isub, 1) := by decide +kernel
theorem dX6_noPattern_11 : decode cX6_noPattern 11 = .ok (.invokestatic 54, 3) := by decide +kernel
theorem dX6_noPattern_14 : decode cX6_noPattern 14 = .ok (.ifCond .ne 7, 3) := by decide +kernel
theorem dX6_noPattern_17 : decode cX6_noPattern 17 = .ok (.iconst 1, 1) := by decide +kernel
theorem dX6_noPattern_18 : decode cX6_noPattern 18 = .ok (.goto 4, 3) := by decide +kernel
theorem dX6_noPattern_21 : decode cX6_noPattern 21 = .ok (.iconst 0, 1) := by decide +kernel
theorem dX6_noPattern_22 : decode cX6_noPattern 22 = .ok (.iconst 1, 1) := by decide +kernel
theorem dX6_noPattern_23 : decode cX6_noPattern 23 = .ok (.invokevirtual 173, 3) := by decide +kernel
theorem dX6_noPattern_26 : decode cX6_noPattern 26 = .ok (.ireturn, 1) := by decide +kernel
theorem dX6_digitAt_0 : decode cX6_digitAt 0 = .ok (.aload_n 0, 1) := by decide +kernel
theorem dX6_digitAt_1 : decode cX6_digitAt 1 = .ok (.getfield 17, 3) := by decide +kernel
theorem dX6_digitAt_4 : decode cX6_digitAt 4 = .ok (.sipush 614, 3) := by decide +kernel
theorem dX6_digitAt_7 : decode cX6_digitAt 7 = .ok (.bipush 44, 2) := by decide +kernel
theorem dX6_digitAt_9 : decode cX6_digitAt 9 = .ok (.iload_n 1, 1) := by decide +kernel
theorem dX6_digitAt_10 : decode cX6_digitAt 10 = .ok (.imul, 1) := by decide +kernel
theorem dX6_digitAt_11 : decode cX6_digitAt 11 = .ok (.iadd, 1) := by decide +kernel
theorem dX6_digitAt_12 : decode cX6_digitAt 12 = .ok (.iconst 2, 1) := by decide +kernel
theorem dX6_digitAt_13 : decode cX6_digitAt 13 = .ok (.iadd, 1) := by decide +kernel
theorem dX6_digitAt_14 : decode cX6_digitAt 14 = .ok (.bipush 7, 2) := by decide +kernel
theorem dX6_digitAt_16 : decode cX6_digitAt 16 = .ok (.iload_n 2, 1) := by decide +kernel
theorem dX6_digitAt_17 : decode cX6_digitAt 17 = .ok (.imul, 1) := by decide +kernel
theorem dX6_digitAt_18 : decode cX6_digitAt 18 = .ok (.iadd, 1) := by decide +kernel
theorem dX6_digitAt_19 : decode cX6_digitAt 19 = .ok (.iload_n 3, 1) := by decide +kernel
theorem dX6_digitAt_20 : decode cX6_digitAt 20 = .ok (.iadd, 1) := by decide +kernel
theorem dX6_digitAt_21 : decode cX6_digitAt 21 = .ok (.iaload, 1) := by decide +kernel
theorem dX6_digitAt_22 : decode cX6_digitAt 22 = .ok (.ireturn, 1) := by decide +kernel
theorem dX6_ofPattern_0 : decode cX6_ofPattern 0 = .ok (.aload_n 0, 1) := by decide +kernel
theorem dX6_ofPattern_1 : decode cX6_ofPattern 1 = .ok (.getfield 17, 3) := by decide +kernel
theorem dX6_ofPattern_4 : decode cX6_ofPattern 4 = .ok (.sipush 614, 3) := by decide +kernel
theorem dX6_ofPattern_7 : decode cX6_ofPattern 7 = .ok (.bipush 44, 2) := by decide +kernel
theorem dX6_ofPattern_9 : decode cX6_ofPattern 9 = .ok (.iload_n 1, 1) := by decide +kernel
theorem dX6_ofPattern_10 : decode cX6_ofPattern 10 = .ok (.imul, 1) := by decide +kernel
theorem dX6_ofPattern_11 : decode cX6_ofPattern 11 = .ok (.iadd, 1) := by decide +kernel
theorem dX6_ofPattern_12 : decode cX6_ofPattern 12 = .ok (.iload_n 2, 1) := by decide +kernel
theorem dX6_ofPattern_13 : decode cX6_ofPattern 13 = .ok (.iadd, 1) := by decide +kernel
theorem dX6_ofPattern_14 : decode cX6_ofPattern 14 = .ok (.iaload, 1) := by decide +kernel
theorem dX6_ofPattern_15 : decode cX6_ofPattern 15 = .ok (.ireturn, 1) := by decide +kernel
theorem dX6_painted_0 : decode cX6_painted 0 = .ok (.iconst 0, 1) := by decide +kernel
theorem dX6_painted_1 : decode cX6_painted 1 = .ok (.istore_n 2, 1) := by decide +kernel
theorem dX6_painted_2 : decode cX6_painted 2 = .ok (.iconst 0, 1) := by decide +kernel
theorem dX6_painted_3 : decode cX6_painted 3 = .ok (.istore_n 3, 1) := by decide +kernel
theorem dX6_painted_4 : decode cX6_painted 4 = .ok (.iload_n 3, 1) := by decide +kernel
theorem dX6_painted_5 : decode cX6_painted 5 = .ok (.aload_n 0, 1) := by decide +kernel
theorem dX6_painted_6 : decode cX6_painted 6 = .ok (.iload_n 1, 1) := by decide +kernel
theorem dX6_painted_7 : decode cX6_painted 7 = .ok (.iconst 1, 1) := by decide +kernel
theorem dX6_painted_8 : decode cX6_painted 8 = .ok (.invokevirtual 279, 3) := by decide +kernel
theorem dX6_painted_11 : decode cX6_painted 11 = .ok (.if_icmp .ge 48, 3) := by decide +kernel
theorem dX6_painted_14 : decode cX6_painted 14 = .ok (.iconst 0, 1) := by decide +kernel
theorem dX6_painted_15 : decode cX6_painted 15 = .ok (.istore 4, 2) := by decide +kernel
theorem dX6_painted_17 : decode cX6_painted 17 = .ok (.iload 4, 2) := by decide +kernel
theorem dX6_painted_19 : decode cX6_painted 19 = .ok (.aload_n 0, 1) := by decide +kernel
theorem dX6_painted_20 : decode cX6_painted 20 = .ok (.iload_n 1, 1) := by decide +kernel
theorem dX6_painted_21 : decode cX6_painted 21 = .ok (.iconst 0, 1) := by decide +kernel
theorem dX6_painted_22 : decode cX6_painted 22 = .ok (.invokevirtual 279, 3) := by decide +kernel
theorem dX6_painted_25 : decode cX6_painted 25 = .ok (.if_icmp .ge 28, 3) := by decide +kernel
theorem dX6_painted_28 : decode cX6_painted 28 = .ok (.iload_n 2, 1) := by decide +kernel
theorem dX6_painted_29 : decode cX6_painted 29 = .ok (.aload_n 0, 1) := by decide +kernel
theorem dX6_painted_30 : decode cX6_painted 30 = .ok (.iload_n 1, 1) := by decide +kernel
theorem dX6_painted_31 : decode cX6_painted 31 = .ok (.iload_n 3, 1) := by decide +kernel
theorem dX6_painted_32 : decode cX6_painted 32 = .ok (.iload 4, 2) := by decide +kernel
theorem dX6_painted_34 : decode cX6_painted 34 = .ok (.invokevirtual 282, 3) := by decide +kernel
theorem dX6_painted_37 : decode cX6_painted 37 = .ok (.ifCond .le 7, 3) := by decide +kernel
theorem dX6_painted_40 : decode cX6_painted 40 = .ok (.iconst 1, 1) := by decide +kernel
theorem dX6_painted_41 : decode cX6_painted 41 = .ok (.goto 4, 3) := by decide +kernel
theorem dX6_painted_44 : decode cX6_painted 44 = .ok (.iconst 0, 1) := by decide +kernel
theorem dX6_painted_45 : decode cX6_painted 45 = .ok (.iadd, 1) := by decide +kernel
theorem dX6_painted_46 : decode cX6_painted 46 = .ok (.istore_n 2, 1) := by decide +kernel
theorem dX6_painted_47 : decode cX6_painted 47 = .ok (.iinc 4 1, 3) := by decide +kernel
theorem dX6_painted_50 : decode cX6_painted 50 = .ok (.goto (-33), 3) := by decide +kernel
theorem dX6_painted_53 : decode cX6_painted 53 = .ok (.iinc 3 1, 3) := by decide +kernel
theorem dX6_painted_56 : decode cX6_painted 56 = .ok (.goto (-52), 3) := by decide +kernel
theorem dX6_painted_59 : decode cX6_painted 59 = .ok (.iload_n 2, 1) := by decide +kernel
theorem dX6_painted_60 : decode cX6_painted 60 = .ok (.ireturn, 1) := by decide +kernel
theorem dX6_pattern_0 : decode cX6_pattern 0 = .ok (.aload_n 0, 1) := by decide +kernel
theorem dX6_pattern_1 : decode cX6_pattern 1 = .ok (.iconst 0, 1) := by decide +kernel
theorem dX6_pattern_2 : decode cX6_pattern 2 = .ok (.putfield 51, 3) := by decide +kernel
theorem dX6_pattern_5 : decode cX6_pattern 5 = .ok (.aload_n 0, 1) := by decide +kernel
theorem dX6_pattern_6 : decode cX6_pattern 6 = .ok (.iload_n 1, 1) := by decide +kernel
theorem dX6_pattern_7 : decode cX6_pattern 7 = .ok (.invokevirtual 286, 3) := by decide +kernel
theorem dX6_pattern_10 : decode cX6_pattern 10 = .ok (.ifCond .ne 25, 3) := by decide +kernel
theorem dX6_pattern_13 : decode cX6_pattern 13 = .ok (.aload_n 0, 1) := by decide +kernel
theorem dX6_pattern_14 : decode cX6_pattern 14 = .ok (.iload_n 2, 1) := by decide +kernel
theorem dX6_pattern_15 : decode cX6_pattern 15 = .ok (.iconst 0, 1) := by decide +kernel
theorem dX6_pattern_16 : decode cX6_pattern 16 = .ok (.iconst 2, 1) := by decide +kernel
theorem dX6_pattern_17 : decode cX6_pattern 17 = .ok (.invokestatic 54, 3) := by decide +kernel
theorem dX6_pattern_20 : decode cX6_pattern 20 = .ok (.ifCond .ne 7, 3) := by decide +kernel
theorem dX6_pattern_23 : decode cX6_pattern 23 = .ok (.iconst 1, 1) := by decide +kernel
theorem dX6_pattern_24 : decode cX6_pattern 24 = .ok (.goto 4, 3) := by decide +kernel
theorem dX6_pattern_27 : decode cX6_pattern 27 = .ok (.iconst 0, 1) := by decide +kernel
theorem dX6_pattern_28 : decode cX6_pattern 28 = .ok (.iconst 2, 1) := by decide +kernel
theorem dX6_pattern_29 : decode cX6_pattern 29 = .ok (.invokevirtual 173, 3) := by decide +kernel
theorem dX6_pattern_32 : decode cX6_pattern 32 = .ok (.ifCond .eq 7, 3) := by decide +kernel
theorem dX6_pattern_35 : decode cX6_pattern 35 = .ok (.iconst 0, 1) := by decide +kernel
theorem dX6_pattern_36 : decode cX6_pattern 36 = .ok (.goto 22, 3) := by decide +kernel
theorem dX6_pattern_39 : decode cX6_pattern 39 = .ok (.iload_n 2, 1) := by decide +kernel
theorem dX6_pattern_40 : decode cX6_pattern 40 = .ok (.iconst 2, 1) := by decide +kernel
theorem dX6_pattern_41 : decode cX6_pattern 41 = .ok (.if_icmp .ne 11, 3) := by decide +kernel
theorem dX6_pattern_44 : decode cX6_pattern 44 = .ok (.aload_n 0, 1) := by decide +kernel
theorem dX6_pattern_45 : decode cX6_pattern 45 = .ok (.iload_n 1, 1) := by decide +kernel
theorem dX6_pattern_46 : decode cX6_pattern 46 = .ok (.invokevirtual 289, 3) := by decide +kernel
theorem dX6_pattern_49 : decode cX6_pattern 49 = .ok (.goto 9, 3) := by decide +kernel
theorem dX6_pattern_52 : decode cX6_pattern 52 = .ok (.aload_n 0, 1) := by decide +kernel
theorem dX6_pattern_53 : decode cX6_pattern 53 = .ok (.iload_n 1, 1) := by decide +kernel
theorem dX6_pattern_54 : decode cX6_pattern 54 = .ok (.iload_n 2, 1) := by decide +kernel
theorem dX6_pattern_55 : decode cX6_pattern 55 = .ok (.invokevirtual 279, 3) := by decide +kernel
theorem dX6_pattern_58 : decode cX6_pattern 58 = .ok (.ireturn, 1) := by decide +kernel
theorem dX6_covered_0 : decode cX6_covered 0 = .ok (.aload_n 0, 1) := by decide +kernel
theorem dX6_covered_1 : decode cX6_covered 1 = .ok (.iconst 0, 1) := by decide +kernel
theorem dX6_covered_2 : decode cX6_covered 2 = .ok (.putfield 51, 3) := by decide +kernel
theorem dX6_covered_5 : decode cX6_covered 5 = .ok (.aload_n 0, 1) := by decide +kernel
theorem dX6_covered_6 : decode cX6_covered 6 = .ok (.invokevirtual 189, 3) := by decide +kernel
theorem dX6_covered_9 : decode cX6_covered 9 = .ok (.aload_n 0, 1) := by decide +kernel
theorem dX6_covered_10 : decode cX6_covered 10 = .ok (.iconst 0, 1) := by decide +kernel
theorem dX6_covered_11 : decode cX6_covered 11 = .ok (.invokevirtual 243, 3) := by decide +kernel
theorem dX6_covered_14 : decode cX6_covered 14 = .ok (.isub, 1) := by decide +kernel
theorem dX6_covered_15 : decode cX6_covered 15 = .ok (.i2f, 1) := by decide +kernel
theorem dX6_covered_16 : decode cX6_covered 16 = .ok (.aload_n 0, 1) := by decide +kernel
theorem dX6_covered_17 : decode cX6_covered 17 = .ok (.invokevirtual 189, 3) := by decide +kernel
theorem dX6_covered_20 : decode cX6_covered 20 = .ok (.i2f, 1) := by decide +kernel
theorem dX6_covered_21 : decode cX6_covered 21 = .ok (.fdiv, 1) := by decide +kernel
theorem dX6_covered_22 : decode cX6_covered 22 = .ok (.freturn, 1) := by decide +kernel
theorem dX6_remember_0 : decode cX6_remember 0 = .ok (.aload_n 0, 1) := by decide +kernel
theorem dX6_remember_1 : decode cX6_remember 1 = .ok (.getfield 292, 3) := by decide +kernel
theorem dX6_remember_4 : decode cX6_remember 4 = .ok (.bipush 8, 2) := by decide +kernel
theorem dX6_remember_6 : decode cX6_remember 6 = .ok (.if_icmp .ne 44, 3) := by decide +kernel
theorem dX6_remember_9 : decode cX6_remember 9 = .ok (.iconst 1, 1) := by decide +kernel
theorem dX6_remember_10 : decode cX6_remember 10 = .ok (.istore_n 1, 1) := by decide +kernel
theorem dX6_remember_11 : decode cX6_remember 11 = .ok (.iload_n 1, 1) := by decide +kernel
theorem dX6_remember_12 : decode cX6_remember 12 = .ok (.bipush 8, 2) := by decide +kernel
theorem dX6_remember_14 : decode cX6_remember 14 = .ok (.if_icmp .ge 26, 3) := by decide +kernel
theorem dX6_remember_17 : decode cX6_remember 17 = .ok (.aload_n 0, 1) := by decide +kernel
theorem dX6_remember_18 : decode cX6_remember 18 = .ok (.getfield 28, 3) := by decide +kernel
theorem dX6_remember_21 : decode cX6_remember 21 = .ok (.iload_n 1, 1) := by decide +kernel
theorem dX6_remember_22 : decode cX6_remember 22 = .ok (.aaload, 1) := by decide +kernel
theorem dX6_remember_23 : decode cX6_remember 23 = .ok (.aload_n 0, 1) := by decide +kernel
theorem dX6_remember_24 : decode cX6_remember 24 = .ok (.getfield 28, 3) := by decide +kernel
theorem dX6_remember_27 : decode cX6_remember 27 = .ok (.iload_n 1, 1) := by decide +kernel
theorem dX6_remember_28 : decode cX6_remember 28 = .ok (.iconst 1, 1) := by decide +kernel
theorem dX6_remember_29 : decode cX6_remember 29 = .ok (.isub, 1) := by decide +kernel
theorem dX6_remember_30 : decode cX6_remember 30 = .ok (.aaload, 1) := by decide +kernel
theorem dX6_remember_31 : decode cX6_remember 31 = .ok (.invokestatic 185, 3) := by decide +kernel
theorem dX6_remember_34 : decode cX6_remember 34 = .ok (.iinc 1 1, 3) := by decide +kernel
theorem dX6_remember_37 : decode cX6_remember 37 = .ok (.goto (-26), 3) := by decide +kernel
theorem dX6_remember_40 : decode cX6_remember 40 = .ok (.aload_n 0, 1) := by decide +kernel
theorem dX6_remember_41 : decode cX6_remember 41 = .ok (.dup, 1) := by decide +kernel
theorem dX6_remember_42 : decode cX6_remember 42 = .ok (.getfield 292, 3) := by decide +kernel
theorem dX6_remember_45 : decode cX6_remember 45 = .ok (.iconst 1, 1) := by decide +kernel
theorem dX6_remember_46 : decode cX6_remember 46 = .ok (.isub, 1) := by decide +kernel
theorem dX6_remember_47 : decode cX6_remember 47 = .ok (.putfield 292, 3) := by decide +kernel
theorem dX6_remember_50 : decode cX6_remember 50 = .ok (.aload_n 0, 1) := by decide +kernel
theorem dX6_remember_51 : decode cX6_remember 51 = .ok (.getfield 17, 3) := by decide +kernel
theorem dX6_remember_54 : decode cX6_remember 54 = .ok (.aload_n 0, 1) := by decide +kernel
theorem dX6_remember_55 : decode cX6_remember 55 = .ok (.getfield 28, 3) := by decide +kernel
theorem dX6_remember_58 : decode cX6_remember 58 = .ok (.aload_n 0, 1) := by decide +kernel
theorem dX6_remember_59 : decode cX6_remember 59 = .ok (.getfield 292, 3) := by decide +kernel
theorem dX6_remember_62 : decode cX6_remember 62 = .ok (.aaload, 1) := by decide +kernel
theorem dX6_remember_63 : decode cX6_remember 63 = .ok (.invokestatic 185, 3) := by decide +kernel
theorem dX6_remember_66 : decode cX6_remember 66 = .ok (.aload_n 0, 1) := by decide +kernel
theorem dX6_remember_67 : decode cX6_remember 67 = .ok (.dup, 1) := by decide +kernel
theorem dX6_remember_68 : decode cX6_remember 68 = .ok (.getfield 292, 3) := by decide +kernel
theorem dX6_remember_71 : decode cX6_remember 71 = .ok (.iconst 1, 1) := by decide +kernel
theorem dX6_remember_72 : decode cX6_remember 72 = .ok (.iadd, 1) := by decide +kernel
theorem dX6_remember_73 : decode cX6_remember 73 = .ok (.putfield 292, 3) := by decide +kernel
theorem dX6_remember_76 : decode cX6_remember 76 = .ok (.return_, 1) := by decide +kernel
theorem dX6_pass_0 : decode cX6_pass 0 = .ok (.aload_n 0, 1) := by decide +kernel
theorem dX6_pass_1 : decode cX6_pass 1 = .ok (.iconst 0, 1) := by decide +kernel
theorem dX6_pass_2 : decode cX6_pass 2 = .ok (.putfield 51, 3) := by decide +kernel
theorem dX6_pass_5 : decode cX6_pass 5 = .ok (.aload_n 0, 1) := by decide +kernel
theorem dX6_pass_6 : decode cX6_pass 6 = .ok (.iload_n 1, 1) := by decide +kernel
theorem dX6_pass_7 : decode cX6_pass 7 = .ok (.iconst 1, 1) := by decide +kernel
theorem dX6_pass_8 : decode cX6_pass 8 = .ok (.bipush 20, 2) := by decide +kernel
theorem dX6_pass_10 : decode cX6_pass 10 = .ok (.invokestatic 54, 3) := by decide +kernel
theorem dX6_pass_13 : decode cX6_pass 13 = .ok (.ifCond .ne 7, 3) := by decide +kernel
theorem dX6_pass_16 : decode cX6_pass 16 = .ok (.iconst 1, 1) := by decide +kernel
theorem dX6_pass_17 : decode cX6_pass 17 = .ok (.goto 4, 3) := by decide +kernel
theorem dX6_pass_20 : decode cX6_pass 20 = .ok (.iconst 0, 1) := by decide +kernel
theorem dX6_pass_21 : decode cX6_pass 21 = .ok (.iconst 1, 1) := by decide +kernel
theorem dX6_pass_22 : decode cX6_pass 22 = .ok (.invokevirtual 173, 3) := by decide +kernel
theorem dX6_pass_25 : decode cX6_pass 25 = .ok (.ifCond .eq 5, 3) := by decide +kernel
theorem dX6_pass_28 : decode cX6_pass 28 = .ok (.iconst 0, 1) := by decide +kernel
theorem dX6_pass_29 : decode cX6_pass 29 = .ok (.ireturn, 1) := by decide +kernel
theorem dX6_pass_30 : decode cX6_pass 30 = .ok (.aload_n 0, 1) := by decide +kernel
theorem dX6_pass_31 : decode cX6_pass 31 = .ok (.invokevirtual 182, 3) := by decide +kernel
theorem dX6_pass_34 : decode cX6_pass 34 = .ok (.iconst 0, 1) := by decide +kernel
theorem dX6_pass_35 : decode cX6_pass 35 = .ok (.istore_n 2, 1) := by decide +kernel
theorem dX6_pass_36 : decode cX6_pass 36 = .ok (.iconst 0, 1) := by decide +kernel
theorem dX6_pass_37 : decode cX6_pass 37 = .ok (.istore_n 3, 1) := by decide +kernel
theorem dX6_pass_38 : decode cX6_pass 38 = .ok (.iload_n 3, 1) := by decide +kernel
theorem dX6_pass_39 : decode cX6_pass 39 = .ok (.iload_n 1, 1) := by decide +kernel
theorem dX6_pass_40 : decode cX6_pass 40 = .ok (.if_icmp .ge 16, 3) := by decide +kernel
theorem dX6_pass_43 : decode cX6_pass 43 = .ok (.iload_n 2, 1) := by decide +kernel
theorem dX6_pass_44 : decode cX6_pass 44 = .ok (.aload_n 0, 1) := by decide +kernel
theorem dX6_pass_45 : decode cX6_pass 45 = .ok (.invokevirtual 276, 3) := by decide +kernel
theorem dX6_pass_48 : decode cX6_pass 48 = .ok (.iadd, 1) := by decide +kernel
theorem dX6_pass_49 : decode cX6_pass 49 = .ok (.istore_n 2, 1) := by decide +kernel
theorem dX6_pass_50 : decode cX6_pass 50 = .ok (.iinc 3 1, 3) := by decide +kernel
theorem dX6_pass_53 : decode cX6_pass 53 = .ok (.goto (-15), 3) := by decide +kernel
theorem dX6_pass_56 : decode cX6_pass 56 = .ok (.iload_n 2, 1) := by decide +kernel
theorem dX6_pass_57 : decode cX6_pass 57 = .ok (.ireturn, 1) := by decide +kernel
theorem dX6_put_0 : decode cX6_put 0 = .ok (.aload_n 0, 1) := by decide +kernel
theorem dX6_put_1 : decode cX6_put 1 = .ok (.getfield 17, 3) := by decide +kernel
theorem dX6_put_4 : decode cX6_put 4 = .ok (.bipush 74, 2) := by decide +kernel
theorem dX6_put_6 : decode cX6_put 6 = .ok (.iload_n 1, 1) := by decide +kernel
theorem dX6_put_7 : decode cX6_put 7 = .ok (.iadd, 1) := by decide +kernel
theorem dX6_put_8 : decode cX6_put 8 = .ok (.iload_n 2, 1) := by decide +kernel
theorem dX6_put_9 : decode cX6_put 9 = .ok (.iastore, 1) := by decide +kernel
theorem dX6_put_10 : decode cX6_put 10 = .ok (.aload_n 0, 1) := by decide +kernel
theorem dX6_put_11 : decode cX6_put 11 = .ok (.getfield 17, 3) := by decide +kernel
theorem dX6_put_14 : decode cX6_put 14 = .ok (.sipush 254, 3) := by decide +kernel
theorem dX6_put_17 : decode cX6_put 17 = .ok (.iload_n 1, 1) := by decide +kernel
theorem dX6_put_18 : decode cX6_put 18 = .ok (.iadd, 1) := by decide +kernel
theorem dX6_put_19 : decode cX6_put 19 = .ok (.iload_n 3, 1) := by decide +kernel
theorem dX6_put_20 : decode cX6_put 20 = .ok (.iastore, 1) := by decide +kernel
theorem dX6_put_21 : decode cX6_put 21 = .ok (.return_, 1) := by decide +kernel
theorem dX6_putBoth_0 : decode cX6_putBoth 0 = .ok (.aload_n 0, 1) := by decide +kernel
theorem dX6_putBoth_1 : decode cX6_putBoth 1 = .ok (.iload_n 1, 1) := by decide +kernel
theorem dX6_putBoth_2 : decode cX6_putBoth 2 = .ok (.iload_n 2, 1) := by decide +kernel
theorem dX6_putBoth_3 : decode cX6_putBoth 3 = .ok (.iload_n 3, 1) := by decide +kernel
theorem dX6_putBoth_4 : decode cX6_putBoth 4 = .ok (.invokevirtual 295, 3) := by decide +kernel
theorem dX6_putBoth_7 : decode cX6_putBoth 7 = .ok (.iload 4, 2) := by decide +kernel
theorem dX6_putBoth_9 : decode cX6_putBoth 9 = .ok (.ifCond .eq 14, 3) := by decide +kernel
theorem dX6_putBoth_12 : decode cX6_putBoth 12 = .ok (.aload_n 0, 1) := by decide +kernel
theorem dX6_putBoth_13 : decode cX6_putBoth 13 = .ok (.aload_n 0, 1) := by decide +kernel
theorem dX6_putBoth_14 : decode cX6_putBoth 14 = .ok (.iload_n 1, 1) := by decide +kernel
theorem dX6_putBoth_15 : decode cX6_putBoth 15 = .ok (.invokevirtual 237, 3) := by decide +kernel
theorem dX6_putBoth_18 : decode cX6_putBoth 18 = .ok (.iload_n 2, 1) := by decide +kernel
theorem dX6_putBoth_19 : decode cX6_putBoth 19 = .ok (.iload_n 3, 1) := by decide +kernel
theorem dX6_putBoth_20 : decode cX6_putBoth 20 = .ok (.invokevirtual 295, 3) := by decide +kernel
theorem dX6_putBoth_23 : decode cX6_putBoth 23 = .ok (.return_, 1) := by decide +kernel
theorem dX6_paint_0 : decode cX6_paint 0 = .ok (.aload_n 0, 1) := by decide +kernel
theorem dX6_paint_1 : decode cX6_paint 1 = .ok (.iconst 0, 1) := by decide +kernel
theorem dX6_paint_2 : decode cX6_paint 2 = .ok (.putfield 51, 3) := by decide +kernel
theorem dX6_paint_5 : decode cX6_paint 5 = .ok (.aload_n 0, 1) := by decide +kernel
theorem dX6_paint_6 : decode cX6_paint 6 = .ok (.iload_n 1, 1) := by decide +kernel
theorem dX6_paint_7 : decode cX6_paint 7 = .ok (.iload_n 2, 1) := by decide +kernel
theorem dX6_paint_8 : decode cX6_paint 8 = .ok (.invokevirtual 258, 3) := by decide +kernel
theorem dX6_paint_11 : decode cX6_paint 11 = .ok (.ifCond .ne 37, 3) := by decide +kernel
theorem dX6_paint_14 : decode cX6_paint 14 = .ok (.aload_n 0, 1) := by decide +kernel
theorem dX6_paint_15 : decode cX6_paint 15 = .ok (.iload_n 3, 1) := by decide +kernel
theorem dX6_paint_16 : decode cX6_paint 16 = .ok (.iconst 1, 1) := by decide +kernel
theorem dX6_paint_17 : decode cX6_paint 17 = .ok (.bipush 6, 2) := by decide +kernel
theorem dX6_paint_19 : decode cX6_paint 19 = .ok (.invokestatic 54, 3) := by decide +kernel
theorem dX6_paint_22 : decode cX6_paint 22 = .ok (.ifCond .eq 14, 3) := by decide +kernel
theorem dX6_paint_25 : decode cX6_paint 25 = .ok (.iload 4, 2) := by decide +kernel
theorem dX6_paint_27 : decode cX6_paint 27 = .ok (.iconst 1, 1) := by decide +kernel
theorem dX6_paint_28 : decode cX6_paint 28 = .ok (.bipush 9, 2) := by decide +kernel
theorem dX6_paint_30 : decode cX6_paint 30 = .ok (.invokestatic 54, 3) := by decide +kernel
theorem dX6_paint_33 : decode cX6_paint 33 = .ok (.ifCond .ne 7, 3) := by decide +kernel
theorem dX6_paint_36 : decode cX6_paint 36 = .ok (.iconst 1, 1) := by decide +kernel
theorem dX6_paint_37 : decode cX6_paint 37 = .ok (.goto 4, 3) := by decide +kernel
theorem dX6_paint_40 : decode cX6_paint 40 = .ok (.iconst 0, 1) := by decide +kernel
theorem dX6_paint_41 : decode cX6_paint 41 = .ok (.iconst 2, 1) := by decide +kernel
theorem dX6_paint_42 : decode cX6_paint 42 = .ok (.invokevirtual 173, 3) := by decide +kernel
theorem dX6_paint_45 : decode cX6_paint 45 = .ok (.ifCond .eq 5, 3) := by decide +kernel
theorem dX6_paint_48 : decode cX6_paint 48 = .ok (.iconst 0, 1) := by decide +kernel
theorem dX6_paint_49 : decode cX6_paint 49 = .ok (.ireturn, 1) := by decide +kernel
theorem dX6_paint_50 : decode cX6_paint 50 = .ok (.aload_n 0, 1) := by decide +kernel
theorem dX6_paint_51 : decode cX6_paint 51 = .ok (.invokevirtual 182, 3) := by decide +kernel
theorem dX6_paint_54 : decode cX6_paint 54 = .ok (.aload_n 0, 1) := by decide +kernel
theorem dX6_paint_55 : decode cX6_paint 55 = .ok (.aload_n 0, 1) := by decide +kernel
theorem dX6_paint_56 : decode cX6_paint 56 = .ok (.iload_n 1, 1) := by decide +kernel
theorem dX6_paint_57 : decode cX6_paint 57 = .ok (.iload_n 2, 1) := by decide +kernel
theorem dX6_paint_58 : decode cX6_paint 58 = .ok (.invokevirtual 261, 3) := by decide +kernel
theorem dX6_paint_61 : decode cX6_paint 61 = .ok (.iload_n 3, 1) := by decide +kernel
theorem dX6_paint_62 : decode cX6_paint 62 = .ok (.iload 4, 2) := by decide +kernel
theorem dX6_paint_64 : decode cX6_paint 64 = .ok (.iload 5, 2) := by decide +kernel
theorem dX6_paint_66 : decode cX6_paint 66 = .ok (.invokevirtual 299, 3) := by decide +kernel
theorem dX6_paint_69 : decode cX6_paint 69 = .ok (.aload_n 0, 1) := by decide +kernel
theorem dX6_paint_70 : decode cX6_paint 70 = .ok (.invokevirtual 249, 3) := by decide +kernel
theorem dX6_paint_73 : decode cX6_paint 73 = .ok (.ireturn, 1) := by decide +kernel
theorem dX6_stroke_0 : decode cX6_stroke 0 = .ok (.aload_n 0, 1) := by decide +kernel
theorem dX6_stroke_1 : decode cX6_stroke 1 = .ok (.iconst 0, 1) := by decide +kernel
theorem dX6_stroke_2 : decode cX6_stroke 2 = .ok (.putfield 51, 3) := by decide +kernel
theorem dX6_stroke_5 : decode cX6_stroke 5 = .ok (.aload_n 0, 1) := by decide +kernel
theorem dX6_stroke_6 : decode cX6_stroke 6 = .ok (.iload_n 1, 1) := by decide +kernel
theorem dX6_stroke_7 : decode cX6_stroke 7 = .ok (.iload_n 2, 1) := by decide +kernel
theorem dX6_stroke_8 : decode cX6_stroke 8 = .ok (.invokevirtual 258, 3) := by decide +kernel
theorem dX6_stroke_11 : decode cX6_stroke 11 = .ok (.ifCond .ne 47, 3) := by decide +kernel
theorem dX6_stroke_14 : decode cX6_stroke 14 = .ok (.aload_n 0, 1) := by decide +kernel
theorem dX6_stroke_15 : decode cX6_stroke 15 = .ok (.iload_n 3, 1) := by decide +kernel
theorem dX6_stroke_16 : decode cX6_stroke 16 = .ok (.iconst 0, 1) := by decide +kernel
theorem dX6_stroke_17 : decode cX6_stroke 17 = .ok (.iconst 3, 1) := by decide +kernel
theorem dX6_stroke_18 : decode cX6_stroke 18 = .ok (.invokestatic 54, 3) := by decide +kernel
theorem dX6_stroke_21 : decode cX6_stroke 21 = .ok (.ifCond .eq 25, 3) := by decide +kernel
theorem dX6_stroke_24 : decode cX6_stroke 24 = .ok (.iload 4, 2) := by decide +kernel
theorem dX6_stroke_26 : decode cX6_stroke 26 = .ok (.iconst 1, 1) := by decide +kernel
theorem dX6_stroke_27 : decode cX6_stroke 27 = .ok (.bipush 15, 2) := by decide +kernel
theorem dX6_stroke_29 : decode cX6_stroke 29 = .ok (.invokestatic 54, 3) := by decide +kernel
theorem dX6_stroke_32 : decode cX6_stroke 32 = .ok (.ifCond .eq 14, 3) := by decide +kernel
theorem dX6_stroke_35 : decode cX6_stroke 35 = .ok (.iload 5, 2) := by decide +kernel
theorem dX6_stroke_37 : decode cX6_stroke 37 = .ok (.iconst 1, 1) := by decide +kernel
theorem dX6_stroke_38 : decode cX6_stroke 38 = .ok (.bipush 6, 2) := by decide +kernel
theorem dX6_stroke_40 : decode cX6_stroke 40 = .ok (.invokestatic 54, 3) := by decide +kernel
theorem dX6_stroke_43 : decode cX6_stroke 43 = .ok (.ifCond .ne 7, 3) := by decide +kernel
theorem dX6_stroke_46 : decode cX6_stroke 46 = .ok (.iconst 1, 1) := by decide +kernel
theorem dX6_stroke_47 : decode cX6_stroke 47 = .ok (.goto 4, 3) := by decide +kernel
theorem dX6_stroke_50 : decode cX6_stroke 50 = .ok (.iconst 0, 1) := by decide +kernel
theorem dX6_stroke_51 : decode cX6_stroke 51 = .ok (.iconst 2, 1) := by decide +kernel
theorem dX6_stroke_52 : decode cX6_stroke 52 = .ok (.invokevirtual 173, 3) := by decide +kernel
theorem dX6_stroke_55 : decode cX6_stroke 55 = .ok (.ifCond .eq 5, 3) := by decide +kernel
theorem dX6_stroke_58 : decode cX6_stroke 58 = .ok (.iconst 0, 1) := by decide +kernel
theorem dX6_stroke_59 : decode cX6_stroke 59 = .ok (.ireturn, 1) := by decide +kernel
theorem dX6_stroke_60 : decode cX6_stroke 60 = .ok (.aload_n 0, 1) := by decide +kernel
theorem dX6_stroke_61 : decode cX6_stroke 61 = .ok (.invokevirtual 182, 3) := by decide +kernel
theorem dX6_stroke_64 : decode cX6_stroke 64 = .ok (.iconst 0, 1) := by decide +kernel
theorem dX6_stroke_65 : decode cX6_stroke 65 = .ok (.istore 6, 2) := by decide +kernel
theorem dX6_stroke_67 : decode cX6_stroke 67 = .ok (.aload_n 0, 1) := by decide +kernel
theorem dX6_stroke_68 : decode cX6_stroke 68 = .ok (.iload_n 1, 1) := by decide +kernel
theorem dX6_stroke_69 : decode cX6_stroke 69 = .ok (.iload_n 2, 1) := by decide +kernel
theorem dX6_stroke_70 : decode cX6_stroke 70 = .ok (.invokevirtual 261, 3) := by decide +kernel
theorem dX6_stroke_73 : decode cX6_stroke 73 = .ok (.istore 7, 2) := by decide +kernel
theorem dX6_stroke_75 : decode cX6_stroke 75 = .ok (.iload 6, 2) := by decide +kernel
theorem dX6_stroke_77 : decode cX6_stroke 77 = .ok (.iload 4, 2) := by decide +kernel
theorem dX6_stroke_79 : decode cX6_stroke 79 = .ok (.if_icmp .ge 49, 3) := by decide +kernel
theorem dX6_stroke_82 : decode cX6_stroke 82 = .ok (.iload 7, 2) := by decide +kernel
theorem dX6_stroke_84 : decode cX6_stroke 84 = .ok (.iconst (-1), 1) := by decide +kernel
theorem dX6_stroke_85 : decode cX6_stroke 85 = .ok (.if_icmp .eq 43, 3) := by decide +kernel
theorem dX6_stroke_88 : decode cX6_stroke 88 = .ok (.aload_n 0, 1) := by decide +kernel
theorem dX6_stroke_89 : decode cX6_stroke 89 = .ok (.getfield 17, 3) := by decide +kernel
theorem dX6_stroke_92 : decode cX6_stroke 92 = .ok (.sipush 434, 3) := by decide +kernel
theorem dX6_stroke_95 : decode cX6_stroke 95 = .ok (.iload 7, 2) := by decide +kernel
theorem dX6_stroke_97 : decode cX6_stroke 97 = .ok (.iadd, 1) := by decide +kernel
theorem dX6_stroke_98 : decode cX6_stroke 98 = .ok (.iaload, 1) := by decide +kernel
theorem dX6_stroke_99 : decode cX6_stroke 99 = .ok (.ifCond .ne 29, 3) := by decide +kernel
theorem dX6_stroke_102 : decode cX6_stroke 102 = .ok (.aload_n 0, 1) := by decide +kernel
theorem dX6_stroke_103 : decode cX6_stroke 103 = .ok (.iload 7, 2) := by decide +kernel
theorem dX6_stroke_105 : decode cX6_stroke 105 = .ok (.iload 5, 2) := by decide +kernel
theorem dX6_stroke_107 : decode cX6_stroke 107 = .ok (.bipush 6, 2) := by decide +kernel
theorem dX6_stroke_109 : decode cX6_stroke 109 = .ok (.iconst 1, 1) := by decide +kernel
theorem dX6_stroke_110 : decode cX6_stroke 110 = .ok (.invokevirtual 299, 3) := by decide +kernel
theorem dX6_stroke_113 : decode cX6_stroke 113 = .ok (.iinc 6 1, 3) := by decide +kernel
theorem dX6_stroke_116 : decode cX6_stroke 116 = .ok (.aload_n 0, 1) := by decide +kernel
theorem dX6_stroke_117 : decode cX6_stroke 117 = .ok (.iload 7, 2) := by decide +kernel
theorem dX6_stroke_119 : decode cX6_stroke 119 = .ok (.iload_n 3, 1) := by decide +kernel
theorem dX6_stroke_120 : decode cX6_stroke 120 = .ok (.invokevirtual 225, 3) := by decide +kernel
theorem dX6_stroke_123 : decode cX6_stroke 123 = .ok (.istore 7, 2) := by decide +kernel
theorem dX6_stroke_125 : decode cX6_stroke 125 = .ok (.goto (-50), 3) := by decide +kernel
theorem dX6_stroke_128 : decode cX6_stroke 128 = .ok (.iload 6, 2) := by decide +kernel
theorem dX6_stroke_130 : decode cX6_stroke 130 = .ok (.ireturn, 1) := by decide +kernel
theorem dX6_stamp_0 : decode cX6_stamp 0 = .ok (.aload_n 0, 1) := by decide +kernel
theorem dX6_stamp_1 : decode cX6_stamp 1 = .ok (.iconst 0, 1) := by decide +kernel
theorem dX6_stamp_2 : decode cX6_stamp 2 = .ok (.putfield 51, 3) := by decide +kernel
theorem dX6_stamp_5 : decode cX6_stamp 5 = .ok (.aload_n 0, 1) := by decide +kernel
theorem dX6_stamp_6 : decode cX6_stamp 6 = .ok (.iload_n 1, 1) := by decide +kernel
theorem dX6_stamp_7 : decode cX6_stamp 7 = .ok (.invokevirtual 286, 3) := by decide +kernel
theorem dX6_stamp_10 : decode cX6_stamp 10 = .ok (.ifCond .ne 12, 3) := by decide +kernel
theorem dX6_stamp_13 : decode cX6_stamp 13 = .ok (.aload_n 0, 1) := by decide +kernel
theorem dX6_stamp_14 : decode cX6_stamp 14 = .ok (.iload_n 2, 1) := by decide +kernel
theorem dX6_stamp_15 : decode cX6_stamp 15 = .ok (.iload_n 3, 1) := by decide +kernel
theorem dX6_stamp_16 : decode cX6_stamp 16 = .ok (.invokevirtual 258, 3) := by decide +kernel
theorem dX6_stamp_19 : decode cX6_stamp 19 = .ok (.ifCond .eq 5, 3) := by decide +kernel
theorem dX6_stamp_22 : decode cX6_stamp 22 = .ok (.iconst 0, 1) := by decide +kernel
theorem dX6_stamp_23 : decode cX6_stamp 23 = .ok (.ireturn, 1) := by decide +kernel
theorem dX6_stamp_24 : decode cX6_stamp 24 = .ok (.aload_n 0, 1) := by decide +kernel
theorem dX6_stamp_25 : decode cX6_stamp 25 = .ok (.invokevirtual 182, 3) := by decide +kernel
theorem dX6_stamp_28 : decode cX6_stamp 28 = .ok (.aload_n 0, 1) := by decide +kernel
theorem dX6_stamp_29 : decode cX6_stamp 29 = .ok (.getfield 17, 3) := by decide +kernel
theorem dX6_stamp_32 : decode cX6_stamp 32 = .ok (.aload_n 0, 1) := by decide +kernel
theorem dX6_stamp_33 : decode cX6_stamp 33 = .ok (.getfield 23, 3) := by decide +kernel
theorem dX6_stamp_36 : decode cX6_stamp 36 = .ok (.invokestatic 185, 3) := by decide +kernel
theorem dX6_stamp_39 : decode cX6_stamp 39 = .ok (.iconst 0, 1) := by decide +kernel
theorem dX6_stamp_40 : decode cX6_stamp 40 = .ok (.istore 5, 2) := by decide +kernel
theorem dX6_stamp_42 : decode cX6_stamp 42 = .ok (.iload 5, 2) := by decide +kernel
theorem dX6_stamp_44 : decode cX6_stamp 44 = .ok (.aload_n 0, 1) := by decide +kernel
theorem dX6_stamp_45 : decode cX6_stamp 45 = .ok (.iload_n 1, 1) := by decide +kernel
theorem dX6_stamp_46 : decode cX6_stamp 46 = .ok (.iconst 1, 1) := by decide +kernel
theorem dX6_stamp_47 : decode cX6_stamp 47 = .ok (.invokevirtual 279, 3) := by decide +kernel
theorem dX6_stamp_50 : decode cX6_stamp 50 = .ok (.if_icmp .ge 81, 3) := by decide +kernel
theorem dX6_stamp_53 : decode cX6_stamp 53 = .ok (.iconst 0, 1) := by decide +kernel
theorem dX6_stamp_54 : decode cX6_stamp 54 = .ok (.istore 6, 2) := by decide +kernel
theorem dX6_stamp_56 : decode cX6_stamp 56 = .ok (.iload 6, 2) := by decide +kernel
theorem dX6_stamp_58 : decode cX6_stamp 58 = .ok (.aload_n 0, 1) := by decide +kernel
theorem dX6_stamp_59 : decode cX6_stamp 59 = .ok (.iload_n 1, 1) := by decide +kernel
theorem dX6_stamp_60 : decode cX6_stamp 60 = .ok (.iconst 0, 1) := by decide +kernel
theorem dX6_stamp_61 : decode cX6_stamp 61 = .ok (.invokevirtual 279, 3) := by decide +kernel
theorem dX6_stamp_64 : decode cX6_stamp 64 = .ok (.if_icmp .ge 61, 3) := by decide +kernel
theorem dX6_stamp_67 : decode cX6_stamp 67 = .ok (.aload_n 0, 1) := by decide +kernel
theorem dX6_stamp_68 : decode cX6_stamp 68 = .ok (.iload_n 1, 1) := by decide +kernel
theorem dX6_stamp_69 : decode cX6_stamp 69 = .ok (.iload 5, 2) := by decide +kernel
theorem dX6_stamp_71 : decode cX6_stamp 71 = .ok (.iload 6, 2) := by decide +kernel
theorem dX6_stamp_73 : decode cX6_stamp 73 = .ok (.invokevirtual 282, 3) := by decide +kernel
theorem dX6_stamp_76 : decode cX6_stamp 76 = .ok (.istore 7, 2) := by decide +kernel
theorem dX6_stamp_78 : decode cX6_stamp 78 = .ok (.iload 7, 2) := by decide +kernel
theorem dX6_stamp_80 : decode cX6_stamp 80 = .ok (.ifCond .le 39, 3) := by decide +kernel
theorem dX6_stamp_83 : decode cX6_stamp 83 = .ok (.aload_n 0, 1) := by decide +kernel
theorem dX6_stamp_84 : decode cX6_stamp 84 = .ok (.iload_n 2, 1) := by decide +kernel
theorem dX6_stamp_85 : decode cX6_stamp 85 = .ok (.iload 6, 2) := by decide +kernel
theorem dX6_stamp_87 : decode cX6_stamp 87 = .ok (.iadd, 1) := by decide +kernel
theorem dX6_stamp_88 : decode cX6_stamp 88 = .ok (.iload_n 3, 1) := by decide +kernel
theorem dX6_stamp_89 : decode cX6_stamp 89 = .ok (.iload 5, 2) := by decide +kernel
theorem dX6_stamp_91 : decode cX6_stamp 91 = .ok (.iadd, 1) := by decide +kernel
theorem dX6_stamp_92 : decode cX6_stamp 92 = .ok (.invokevirtual 198, 3) := by decide +kernel
theorem dX6_stamp_95 : decode cX6_stamp 95 = .ok (.ifCond .eq 24, 3) := by decide +kernel
theorem dX6_stamp_98 : decode cX6_stamp 98 = .ok (.aload_n 0, 1) := by decide +kernel
theorem dX6_stamp_99 : decode cX6_stamp 99 = .ok (.aload_n 0, 1) := by decide +kernel
theorem dX6_stamp_100 : decode cX6_stamp 100 = .ok (.iload_n 2, 1) := by decide +kernel
theorem dX6_stamp_101 : decode cX6_stamp 101 = .ok (.iload 6, 2) := by decide +kernel
theorem dX6_stamp_103 : decode cX6_stamp 103 = .ok (.iadd, 1) := by decide +kernel
theorem dX6_stamp_104 : decode cX6_stamp 104 = .ok (.iload_n 3, 1) := by decide +kernel
theorem dX6_stamp_105 : decode cX6_stamp 105 = .ok (.iload 5, 2) := by decide +kernel
theorem dX6_stamp_107 : decode cX6_stamp 107 = .ok (.iadd, 1) := by decide +kernel
theorem dX6_stamp_108 : decode cX6_stamp 108 = .ok (.invokevirtual 261, 3) := by decide +kernel
theorem dX6_stamp_111 : decode cX6_stamp 111 = .ok (.iload 7, 2) := by decide +kernel
theorem dX6_stamp_113 : decode cX6_stamp 113 = .ok (.iconst 4, 1) := by decide +kernel
theorem dX6_stamp_114 : decode cX6_stamp 114 = .ok (.iload 4, 2) := by decide +kernel
theorem dX6_stamp_116 : decode cX6_stamp 116 = .ok (.invokevirtual 299, 3) := by decide +kernel
theorem dX6_stamp_119 : decode cX6_stamp 119 = .ok (.iinc 6 1, 3) := by decide +kernel
theorem dX6_stamp_122 : decode cX6_stamp 122 = .ok (.goto (-66), 3) := by decide +kernel
theorem dX6_stamp_125 : decode cX6_stamp 125 = .ok (.iinc 5 1, 3) := by decide +kernel
theorem dX6_stamp_128 : decode cX6_stamp 128 = .ok (.goto (-86), 3) := by decide +kernel
theorem dX6_stamp_131 : decode cX6_stamp 131 = .ok (.iconst 0, 1) := by decide +kernel
theorem dX6_stamp_132 : decode cX6_stamp 132 = .ok (.istore 5, 2) := by decide +kernel
theorem dX6_stamp_134 : decode cX6_stamp 134 = .ok (.iconst 0, 1) := by decide +kernel
theorem dX6_stamp_135 : decode cX6_stamp 135 = .ok (.istore 6, 2) := by decide +kernel
theorem dX6_stamp_137 : decode cX6_stamp 137 = .ok (.iload 6, 2) := by decide +kernel
theorem dX6_stamp_139 : decode cX6_stamp 139 = .ok (.aload_n 0, 1) := by decide +kernel
theorem dX6_stamp_140 : decode cX6_stamp 140 = .ok (.invokevirtual 205, 3) := by decide +kernel
theorem dX6_stamp_143 : decode cX6_stamp 143 = .ok (.if_icmp .ge 42, 3) := by decide +kernel
theorem dX6_stamp_146 : decode cX6_stamp 146 = .ok (.iload 5, 2) := by decide +kernel
theorem dX6_stamp_148 : decode cX6_stamp 148 = .ok (.aload_n 0, 1) := by decide +kernel
theorem dX6_stamp_149 : decode cX6_stamp 149 = .ok (.getfield 17, 3) := by decide +kernel
theorem dX6_stamp_152 : decode cX6_stamp 152 = .ok (.bipush 74, 2) := by decide +kernel
theorem dX6_stamp_154 : decode cX6_stamp 154 = .ok (.iload 6, 2) := by decide +kernel
theorem dX6_stamp_156 : decode cX6_stamp 156 = .ok (.iadd, 1) := by decide +kernel
theorem dX6_stamp_157 : decode cX6_stamp 157 = .ok (.iaload, 1) := by decide +kernel
theorem dX6_stamp_158 : decode cX6_stamp 158 = .ok (.aload_n 0, 1) := by decide +kernel
theorem dX6_stamp_159 : decode cX6_stamp 159 = .ok (.getfield 23, 3) := by decide +kernel
theorem dX6_stamp_162 : decode cX6_stamp 162 = .ok (.bipush 74, 2) := by decide +kernel
theorem dX6_stamp_164 : decode cX6_stamp 164 = .ok (.iload 6, 2) := by decide +kernel
theorem dX6_stamp_166 : decode cX6_stamp 166 = .ok (.iadd, 1) := by decide +kernel
theorem dX6_stamp_167 : decode cX6_stamp 167 = .ok (.iaload, 1) := by decide +kernel
theorem dX6_stamp_168 : decode cX6_stamp 168 = .ok (.if_icmp .eq 7, 3) := by decide +kernel
theorem dX6_stamp_171 : decode cX6_stamp 171 = .ok (.iconst 1, 1) := by decide +kernel
theorem dX6_stamp_172 : decode cX6_stamp 172 = .ok (.goto 4, 3) := by decide +kernel
theorem dX6_stamp_175 : decode cX6_stamp 175 = .ok (.iconst 0, 1) := by decide +kernel
theorem dX6_stamp_176 : decode cX6_stamp 176 = .ok (.iadd, 1) := by decide +kernel
theorem dX6_stamp_177 : decode cX6_stamp 177 = .ok (.istore 5, 2) := by decide +kernel
theorem dX6_stamp_179 : decode cX6_stamp 179 = .ok (.iinc 6 1, 3) := by decide +kernel
theorem dX6_stamp_182 : decode cX6_stamp 182 = .ok (.goto (-45), 3) := by decide +kernel
theorem dX6_stamp_185 : decode cX6_stamp 185 = .ok (.iload 5, 2) := by decide +kernel
theorem dX6_stamp_187 : decode cX6_stamp 187 = .ok (.ireturn, 1) := by decide +kernel
theorem dX6_spar_0 : decode cX6_spar 0 = .ok (.aload_n 0, 1) := by decide +kernel
theorem dX6_spar_1 : decode cX6_spar 1 = .ok (.iconst 0, 1) := by decide +kernel
theorem dX6_spar_2 : decode cX6_spar 2 = .ok (.putfield 51, 3) := by decide +kernel
theorem dX6_spar_5 : decode cX6_spar 5 = .ok (.aload_n 0, 1) := by decide +kernel
theorem dX6_spar_6 : decode cX6_spar 6 = .ok (.iload_n 1, 1) := by decide +kernel
theorem dX6_spar_7 : decode cX6_spar 7 = .ok (.iload_n 2, 1) := by decide +kernel
theorem dX6_spar_8 : decode cX6_spar 8 = .ok (.invokevirtual 258, 3) := by decide +kernel
theorem dX6_spar_11 : decode cX6_spar 11 = .ok (.ifCond .ne 27, 3) := by decide +kernel
theorem dX6_spar_14 : decode cX6_spar 14 = .ok (.aload_n 0, 1) := by decide +kernel
theorem dX6_spar_15 : decode cX6_spar 15 = .ok (.iload 4, 2) := by decide +kernel
theorem dX6_spar_17 : decode cX6_spar 17 = .ok (.iconst 1, 1) := by decide +kernel
theorem dX6_spar_18 : decode cX6_spar 18 = .ok (.bipush 15, 2) := by decide +kernel
theorem dX6_spar_20 : decode cX6_spar 20 = .ok (.invokestatic 54, 3) := by decide +kernel
theorem dX6_spar_23 : decode cX6_spar 23 = .ok (.ifCond .ne 7, 3) := by decide +kernel
theorem dX6_spar_26 : decode cX6_spar 26 = .ok (.iconst 1, 1) := by decide +kernel
theorem dX6_spar_27 : decode cX6_spar 27 = .ok (.goto 4, 3) := by decide +kernel
theorem dX6_spar_30 : decode cX6_spar 30 = .ok (.iconst 0, 1) := by decide +kernel
theorem dX6_spar_31 : decode cX6_spar 31 = .ok (.iconst 2, 1) := by decide +kernel
theorem dX6_spar_32 : decode cX6_spar 32 = .ok (.invokevirtual 173, 3) := by decide +kernel
theorem dX6_spar_35 : decode cX6_spar 35 = .ok (.ifCond .eq 5, 3) := by decide +kernel
theorem dX6_spar_38 : decode cX6_spar 38 = .ok (.iconst 0, 1) := by decide +kernel
theorem dX6_spar_39 : decode cX6_spar 39 = .ok (.ireturn, 1) := by decide +kernel
theorem dX6_spar_40 : decode cX6_spar 40 = .ok (.aload_n 0, 1) := by decide +kernel
theorem dX6_spar_41 : decode cX6_spar 41 = .ok (.invokevirtual 182, 3) := by decide +kernel
theorem dX6_spar_44 : decode cX6_spar 44 = .ok (.iconst 0, 1) := by decide +kernel
theorem dX6_spar_45 : decode cX6_spar 45 = .ok (.istore 5, 2) := by decide +kernel
theorem dX6_spar_47 : decode cX6_spar 47 = .ok (.aload_n 0, 1) := by decide +kernel
theorem dX6_spar_48 : decode cX6_spar 48 = .ok (.iload_n 1, 1) := by decide +kernel
theorem dX6_spar_49 : decode cX6_spar 49 = .ok (.iload_n 2, 1) := by decide +kernel
theorem dX6_spar_50 : decode cX6_spar 50 = .ok (.invokevirtual 261, 3) := by decide +kernel
theorem dX6_spar_53 : decode cX6_spar 53 = .ok (.istore 6, 2) := by decide +kernel
theorem dX6_spar_55 : decode cX6_spar 55 = .ok (.iconst 0, 1) := by decide +kernel
theorem dX6_spar_56 : decode cX6_spar 56 = .ok (.istore 7, 2) := by decide +kernel
theorem dX6_spar_58 : decode cX6_spar 58 = .ok (.iload 7, 2) := by decide +kernel
theorem dX6_spar_60 : decode cX6_spar 60 = .ok (.iload 4, 2) := by decide +kernel
theorem dX6_spar_62 : decode cX6_spar 62 = .ok (.if_icmp .ge 62, 3) := by decide +kernel
theorem dX6_spar_65 : decode cX6_spar 65 = .ok (.iload 6, 2) := by decide +kernel
theorem dX6_spar_67 : decode cX6_spar 67 = .ok (.iconst (-1), 1) := by decide +kernel
theorem dX6_spar_68 : decode cX6_spar 68 = .ok (.if_icmp .eq 56, 3) := by decide +kernel
theorem dX6_spar_71 : decode cX6_spar 71 = .ok (.iload 5, 2) := by decide +kernel
theorem dX6_spar_73 : decode cX6_spar 73 = .ok (.iconst 1, 1) := by decide +kernel
theorem dX6_spar_74 : decode cX6_spar 74 = .ok (.aload_n 0, 1) := by decide +kernel
theorem dX6_spar_75 : decode cX6_spar 75 = .ok (.getfield 17, 3) := by decide +kernel
theorem dX6_spar_78 : decode cX6_spar 78 = .ok (.sipush 434, 3) := by decide +kernel
theorem dX6_spar_81 : decode cX6_spar 81 = .ok (.iload 6, 2) := by decide +kernel
theorem dX6_spar_83 : decode cX6_spar 83 = .ok (.iadd, 1) := by decide +kernel
theorem dX6_spar_84 : decode cX6_spar 84 = .ok (.iaload, 1) := by decide +kernel
theorem dX6_spar_85 : decode cX6_spar 85 = .ok (.isub, 1) := by decide +kernel
theorem dX6_spar_86 : decode cX6_spar 86 = .ok (.iadd, 1) := by decide +kernel
theorem dX6_spar_87 : decode cX6_spar 87 = .ok (.istore 5, 2) := by decide +kernel
theorem dX6_spar_89 : decode cX6_spar 89 = .ok (.aload_n 0, 1) := by decide +kernel
theorem dX6_spar_90 : decode cX6_spar 90 = .ok (.getfield 17, 3) := by decide +kernel
theorem dX6_spar_93 : decode cX6_spar 93 = .ok (.sipush 434, 3) := by decide +kernel
theorem dX6_spar_96 : decode cX6_spar 96 = .ok (.iload 6, 2) := by decide +kernel
theorem dX6_spar_98 : decode cX6_spar 98 = .ok (.iadd, 1) := by decide +kernel
theorem dX6_spar_99 : decode cX6_spar 99 = .ok (.iconst 1, 1) := by decide +kernel
theorem dX6_spar_100 : decode cX6_spar 100 = .ok (.iastore, 1) := by decide +kernel
theorem dX6_spar_101 : decode cX6_spar 101 = .ok (.aload_n 0, 1) := by decide +kernel
theorem dX6_spar_102 : decode cX6_spar 102 = .ok (.iload 6, 2) := by decide +kernel
theorem dX6_spar_104 : decode cX6_spar 104 = .ok (.iload_n 3, 1) := by decide +kernel
theorem dX6_spar_105 : decode cX6_spar 105 = .ok (.ifCond .eq 7, 3) := by decide +kernel
theorem dX6_spar_108 : decode cX6_spar 108 = .ok (.iconst 1, 1) := by decide +kernel
theorem dX6_spar_109 : decode cX6_spar 109 = .ok (.goto 4, 3) := by decide +kernel
theorem dX6_spar_112 : decode cX6_spar 112 = .ok (.iconst 3, 1) := by decide +kernel
theorem dX6_spar_113 : decode cX6_spar 113 = .ok (.invokevirtual 225, 3) := by decide +kernel
theorem dX6_spar_116 : decode cX6_spar 116 = .ok (.istore 6, 2) := by decide +kernel
theorem dX6_spar_118 : decode cX6_spar 118 = .ok (.iinc 7 1, 3) := by decide +kernel
theorem dX6_spar_121 : decode cX6_spar 121 = .ok (.goto (-63), 3) := by decide +kernel
theorem dX6_spar_124 : decode cX6_spar 124 = .ok (.iload 5, 2) := by decide +kernel
theorem dX6_spar_126 : decode cX6_spar 126 = .ok (.ireturn, 1) := by decide +kernel
theorem dX6_strip_0 : decode cX6_strip 0 = .ok (.aload_n 0, 1) := by decide +kernel
theorem dX6_strip_1 : decode cX6_strip 1 = .ok (.iconst 0, 1) := by decide +kernel
theorem dX6_strip_2 : decode cX6_strip 2 = .ok (.putfield 51, 3) := by decide +kernel
theorem dX6_strip_5 : decode cX6_strip 5 = .ok (.aload_n 0, 1) := by decide +kernel
theorem dX6_strip_6 : decode cX6_strip 6 = .ok (.iload_n 1, 1) := by decide +kernel
theorem dX6_strip_7 : decode cX6_strip 7 = .ok (.iload_n 2, 1) := by decide +kernel
theorem dX6_strip_8 : decode cX6_strip 8 = .ok (.invokevirtual 258, 3) := by decide +kernel
theorem dX6_strip_11 : decode cX6_strip 11 = .ok (.ifCond .ne 34, 3) := by decide +kernel
theorem dX6_strip_14 : decode cX6_strip 14 = .ok (.aload_n 0, 1) := by decide +kernel
theorem dX6_strip_15 : decode cX6_strip 15 = .ok (.aload_n 0, 1) := by decide +kernel
theorem dX6_strip_16 : decode cX6_strip 16 = .ok (.getfield 17, 3) := by decide +kernel
theorem dX6_strip_19 : decode cX6_strip 19 = .ok (.sipush 434, 3) := by decide +kernel
theorem dX6_strip_22 : decode cX6_strip 22 = .ok (.aload_n 0, 1) := by decide +kernel
theorem dX6_strip_23 : decode cX6_strip 23 = .ok (.iload_n 1, 1) := by decide +kernel
theorem dX6_strip_24 : decode cX6_strip 24 = .ok (.iload_n 2, 1) := by decide +kernel
theorem dX6_strip_25 : decode cX6_strip 25 = .ok (.invokevirtual 261, 3) := by decide +kernel
theorem dX6_strip_28 : decode cX6_strip 28 = .ok (.iadd, 1) := by decide +kernel
theorem dX6_strip_29 : decode cX6_strip 29 = .ok (.iaload, 1) := by decide +kernel
theorem dX6_strip_30 : decode cX6_strip 30 = .ok (.ifCond .ne 7, 3) := by decide +kernel
theorem dX6_strip_33 : decode cX6_strip 33 = .ok (.iconst 1, 1) := by decide +kernel
theorem dX6_strip_34 : decode cX6_strip 34 = .ok (.goto 4, 3) := by decide +kernel
theorem dX6_strip_37 : decode cX6_strip 37 = .ok (.iconst 0, 1) := by decide +kernel
theorem dX6_strip_38 : decode cX6_strip 38 = .ok (.iconst 2, 1) := by decide +kernel
theorem dX6_strip_39 : decode cX6_strip 39 = .ok (.invokevirtual 173, 3) := by decide +kernel
theorem dX6_strip_42 : decode cX6_strip 42 = .ok (.ifCond .eq 5, 3) := by decide +kernel
theorem dX6_strip_45 : decode cX6_strip 45 = .ok (.iconst 0, 1) := by decide +kernel
theorem dX6_strip_46 : decode cX6_strip 46 = .ok (.ireturn, 1) := by decide +kernel
theorem dX6_strip_47 : decode cX6_strip 47 = .ok (.aload_n 0, 1) := by decide +kernel
theorem dX6_strip_48 : decode cX6_strip 48 = .ok (.invokevirtual 182, 3) := by decide +kernel
theorem dX6_strip_51 : decode cX6_strip 51 = .ok (.aload_n 0, 1) := by decide +kernel
theorem dX6_strip_52 : decode cX6_strip 52 = .ok (.getfield 17, 3) := by decide +kernel
theorem dX6_strip_55 : decode cX6_strip 55 = .ok (.sipush 434, 3) := by decide +kernel
theorem dX6_strip_58 : decode cX6_strip 58 = .ok (.aload_n 0, 1) := by decide +kernel
theorem dX6_strip_59 : decode cX6_strip 59 = .ok (.iload_n 1, 1) := by decide +kernel
theorem dX6_strip_60 : decode cX6_strip 60 = .ok (.iload_n 2, 1) := by decide +kernel
theorem dX6_strip_61 : decode cX6_strip 61 = .ok (.invokevirtual 261, 3) := by decide +kernel
theorem dX6_strip_64 : decode cX6_strip 64 = .ok (.iadd, 1) := by decide +kernel
theorem dX6_strip_65 : decode cX6_strip 65 = .ok (.iconst 0, 1) := by decide +kernel
theorem dX6_strip_66 : decode cX6_strip 66 = .ok (.iastore, 1) := by decide +kernel
theorem dX6_strip_67 : decode cX6_strip 67 = .ok (.aload_n 0, 1) := by decide +kernel
theorem dX6_strip_68 : decode cX6_strip 68 = .ok (.invokevirtual 249, 3) := by decide +kernel
theorem dX6_strip_71 : decode cX6_strip 71 = .ok (.ireturn, 1) := by decide +kernel
theorem dX6_wash_0 : decode cX6_wash 0 = .ok (.aload_n 0, 1) := by decide +kernel
theorem dX6_wash_1 : decode cX6_wash 1 = .ok (.iconst 0, 1) := by decide +kernel
theorem dX6_wash_2 : decode cX6_wash 2 = .ok (.putfield 51, 3) := by decide +kernel
theorem dX6_wash_5 : decode cX6_wash 5 = .ok (.aload_n 0, 1) := by decide +kernel
theorem dX6_wash_6 : decode cX6_wash 6 = .ok (.iload_n 1, 1) := by decide +kernel
theorem dX6_wash_7 : decode cX6_wash 7 = .ok (.iload_n 2, 1) := by decide +kernel
theorem dX6_wash_8 : decode cX6_wash 8 = .ok (.invokevirtual 258, 3) := by decide +kernel
theorem dX6_wash_11 : decode cX6_wash 11 = .ok (.ifCond .ne 33, 3) := by decide +kernel
theorem dX6_wash_14 : decode cX6_wash 14 = .ok (.aload_n 0, 1) := by decide +kernel
theorem dX6_wash_15 : decode cX6_wash 15 = .ok (.aload_n 0, 1) := by decide +kernel
theorem dX6_wash_16 : decode cX6_wash 16 = .ok (.getfield 17, 3) := by decide +kernel
theorem dX6_wash_19 : decode cX6_wash 19 = .ok (.bipush 74, 2) := by decide +kernel
theorem dX6_wash_21 : decode cX6_wash 21 = .ok (.aload_n 0, 1) := by decide +kernel
theorem dX6_wash_22 : decode cX6_wash 22 = .ok (.iload_n 1, 1) := by decide +kernel
theorem dX6_wash_23 : decode cX6_wash 23 = .ok (.iload_n 2, 1) := by decide +kernel
theorem dX6_wash_24 : decode cX6_wash 24 = .ok (.invokevirtual 261, 3) := by decide +kernel
theorem dX6_wash_27 : decode cX6_wash 27 = .ok (.iadd, 1) := by decide +kernel
theorem dX6_wash_28 : decode cX6_wash 28 = .ok (.iaload, 1) := by decide +kernel
theorem dX6_wash_29 : decode cX6_wash 29 = .ok (.ifCond .ne 7, 3) := by decide +kernel
theorem dX6_wash_32 : decode cX6_wash 32 = .ok (.iconst 1, 1) := by decide +kernel
theorem dX6_wash_33 : decode cX6_wash 33 = .ok (.goto 4, 3) := by decide +kernel
theorem dX6_wash_36 : decode cX6_wash 36 = .ok (.iconst 0, 1) := by decide +kernel
theorem dX6_wash_37 : decode cX6_wash 37 = .ok (.iconst 2, 1) := by decide +kernel
theorem dX6_wash_38 : decode cX6_wash 38 = .ok (.invokevirtual 173, 3) := by decide +kernel
theorem dX6_wash_41 : decode cX6_wash 41 = .ok (.ifCond .eq 5, 3) := by decide +kernel
theorem dX6_wash_44 : decode cX6_wash 44 = .ok (.iconst 0, 1) := by decide +kernel
theorem dX6_wash_45 : decode cX6_wash 45 = .ok (.ireturn, 1) := by decide +kernel
theorem dX6_wash_46 : decode cX6_wash 46 = .ok (.aload_n 0, 1) := by decide +kernel
theorem dX6_wash_47 : decode cX6_wash 47 = .ok (.invokevirtual 182, 3) := by decide +kernel
theorem dX6_wash_50 : decode cX6_wash 50 = .ok (.aload_n 0, 1) := by decide +kernel
theorem dX6_wash_51 : decode cX6_wash 51 = .ok (.invokevirtual 270, 3) := by decide +kernel
theorem dX6_wash_54 : decode cX6_wash 54 = .ok (.aload_n 0, 1) := by decide +kernel
theorem dX6_wash_55 : decode cX6_wash 55 = .ok (.aload_n 0, 1) := by decide +kernel
theorem dX6_wash_56 : decode cX6_wash 56 = .ok (.iload_n 1, 1) := by decide +kernel
theorem dX6_wash_57 : decode cX6_wash 57 = .ok (.iload_n 2, 1) := by decide +kernel
theorem dX6_wash_58 : decode cX6_wash 58 = .ok (.invokevirtual 261, 3) := by decide +kernel
theorem dX6_wash_61 : decode cX6_wash 61 = .ok (.invokevirtual 273, 3) := by decide +kernel
theorem dX6_wash_64 : decode cX6_wash 64 = .ok (.istore_n 3, 1) := by decide +kernel
theorem dX6_wash_65 : decode cX6_wash 65 = .ok (.iconst 0, 1) := by decide +kernel
theorem dX6_wash_66 : decode cX6_wash 66 = .ok (.istore 4, 2) := by decide +kernel
theorem dX6_wash_68 : decode cX6_wash 68 = .ok (.iload 4, 2) := by decide +kernel
theorem dX6_wash_70 : decode cX6_wash 70 = .ok (.aload_n 0, 1) := by decide +kernel
theorem dX6_wash_71 : decode cX6_wash 71 = .ok (.invokevirtual 205, 3) := by decide +kernel
theorem dX6_wash_74 : decode cX6_wash 74 = .ok (.if_icmp .ge 27, 3) := by decide +kernel
theorem dX6_wash_77 : decode cX6_wash 77 = .ok (.aload_n 0, 1) := by decide +kernel
theorem dX6_wash_78 : decode cX6_wash 78 = .ok (.getfield 40, 3) := by decide +kernel
theorem dX6_wash_81 : decode cX6_wash 81 = .ok (.iload 4, 2) := by decide +kernel
theorem dX6_wash_83 : decode cX6_wash 83 = .ok (.baload, 1) := by decide +kernel
theorem dX6_wash_84 : decode cX6_wash 84 = .ok (.ifCond .eq 11, 3) := by decide +kernel
theorem dX6_wash_87 : decode cX6_wash 87 = .ok (.aload_n 0, 1) := by decide +kernel
theorem dX6_wash_88 : decode cX6_wash 88 = .ok (.iload 4, 2) := by decide +kernel
theorem dX6_wash_90 : decode cX6_wash 90 = .ok (.iconst 0, 1) := by decide +kernel
theorem dX6_wash_91 : decode cX6_wash 91 = .ok (.iconst 0, 1) := by decide +kernel
theorem dX6_wash_92 : decode cX6_wash 92 = .ok (.invokevirtual 295, 3) := by decide +kernel
theorem dX6_wash_95 : decode cX6_wash 95 = .ok (.iinc 4 1, 3) := by decide +kernel
theorem dX6_wash_98 : decode cX6_wash 98 = .ok (.goto (-30), 3) := by decide +kernel
theorem dX6_wash_101 : decode cX6_wash 101 = .ok (.iload_n 3, 1) := by decide +kernel
theorem dX6_wash_102 : decode cX6_wash 102 = .ok (.ireturn, 1) := by decide +kernel
theorem dX6_undo_0 : decode cX6_undo 0 = .ok (.aload_n 0, 1) := by decide +kernel
theorem dX6_undo_1 : decode cX6_undo 1 = .ok (.iconst 0, 1) := by decide +kernel
theorem dX6_undo_2 : decode cX6_undo 2 = .ok (.putfield 51, 3) := by decide +kernel
theorem dX6_undo_5 : decode cX6_undo 5 = .ok (.aload_n 0, 1) := by decide +kernel
theorem dX6_undo_6 : decode cX6_undo 6 = .ok (.getfield 292, 3) := by decide +kernel
theorem dX6_undo_9 : decode cX6_undo 9 = .ok (.ifCond .ne 5, 3) := by decide +kernel
theorem dX6_undo_12 : decode cX6_undo 12 = .ok (.iconst (-1), 1) := by decide +kernel
theorem dX6_undo_13 : decode cX6_undo 13 = .ok (.ireturn, 1) := by decide +kernel
theorem dX6_undo_14 : decode cX6_undo 14 = .ok (.aload_n 0, 1) := by decide +kernel
theorem dX6_undo_15 : decode cX6_undo 15 = .ok (.dup, 1) := by decide +kernel
theorem dX6_undo_16 : decode cX6_undo 16 = .ok (.getfield 292, 3) := by decide +kernel
theorem dX6_undo_19 : decode cX6_undo 19 = .ok (.iconst 1, 1) := by decide +kernel
theorem dX6_undo_20 : decode cX6_undo 20 = .ok (.isub, 1) := by decide +kernel
theorem dX6_undo_21 : decode cX6_undo 21 = .ok (.putfield 292, 3) := by decide +kernel
theorem dX6_undo_24 : decode cX6_undo 24 = .ok (.aload_n 0, 1) := by decide +kernel
theorem dX6_undo_25 : decode cX6_undo 25 = .ok (.getfield 28, 3) := by decide +kernel
theorem dX6_undo_28 : decode cX6_undo 28 = .ok (.aload_n 0, 1) := by decide +kernel
theorem dX6_undo_29 : decode cX6_undo 29 = .ok (.getfield 292, 3) := by decide +kernel
theorem dX6_undo_32 : decode cX6_undo 32 = .ok (.aaload, 1) := by decide +kernel
theorem dX6_undo_33 : decode cX6_undo 33 = .ok (.aload_n 0, 1) := by decide +kernel
theorem dX6_undo_34 : decode cX6_undo 34 = .ok (.getfield 17, 3) := by decide +kernel
theorem dX6_undo_37 : decode cX6_undo 37 = .ok (.invokestatic 185, 3) := by decide +kernel
theorem dX6_undo_40 : decode cX6_undo 40 = .ok (.aload_n 0, 1) := by decide +kernel
theorem dX6_undo_41 : decode cX6_undo 41 = .ok (.getfield 292, 3) := by decide +kernel
theorem dX6_undo_44 : decode cX6_undo 44 = .ok (.ireturn, 1) := by decide +kernel
theorem dX6_checksum_0 : decode cX6_checksum 0 = .ok (.aload_n 0, 1) := by decide +kernel
theorem dX6_checksum_1 : decode cX6_checksum 1 = .ok (.iconst 0, 1) := by decide +kernel
theorem dX6_checksum_2 : decode cX6_checksum 2 = .ok (.putfield 51, 3) := by decide +kernel
theorem dX6_checksum_5 : decode cX6_checksum 5 = .ok (.lconst 0, 1) := by decide +kernel
theorem dX6_checksum_6 : decode cX6_checksum 6 = .ok (.lstore_n 1, 1) := by decide +kernel
theorem dX6_checksum_7 : decode cX6_checksum 7 = .ok (.iconst 0, 1) := by decide +kernel
theorem dX6_checksum_8 : decode cX6_checksum 8 = .ok (.istore_n 3, 1) := by decide +kernel
theorem dX6_checksum_9 : decode cX6_checksum 9 = .ok (.iload_n 3, 1) := by decide +kernel
theorem dX6_checksum_10 : decode cX6_checksum 10 = .ok (.bipush 13, 2) := by decide +kernel
theorem dX6_checksum_12 : decode cX6_checksum 12 = .ok (.if_icmp .ge 22, 3) := by decide +kernel
theorem dX6_checksum_15 : decode cX6_checksum 15 = .ok (.ldc2_w 303, 3) := by decide +kernel
theorem dX6_checksum_18 : decode cX6_checksum 18 = .ok (.lload_n 1, 1) := by decide +kernel
theorem dX6_checksum_19 : decode cX6_checksum 19 = .ok (.lmul, 1) := by decide +kernel
theorem dX6_checksum_20 : decode cX6_checksum 20 = .ok (.aload_n 0, 1) := by decide +kernel
theorem dX6_checksum_21 : decode cX6_checksum 21 = .ok (.iload_n 3, 1) := by decide +kernel
theorem dX6_checksum_22 : decode cX6_checksum 22 = .ok (.invokevirtual 255, 3) := by decide +kernel
theorem dX6_checksum_25 : decode cX6_checksum 25 = .ok (.i2l, 1) := by decide +kernel
theorem dX6_checksum_26 : decode cX6_checksum 26 = .ok (.ladd, 1) := by decide +kernel
theorem dX6_checksum_27 : decode cX6_checksum 27 = .ok (.lstore_n 1, 1) := by decide +kernel
theorem dX6_checksum_28 : decode cX6_checksum 28 = .ok (.iinc 3 1, 3) := by decide +kernel
theorem dX6_checksum_31 : decode cX6_checksum 31 = .ok (.goto (-22), 3) := by decide +kernel
theorem dX6_checksum_34 : decode cX6_checksum 34 = .ok (.iconst 0, 1) := by decide +kernel
theorem dX6_checksum_35 : decode cX6_checksum 35 = .ok (.istore_n 3, 1) := by decide +kernel
theorem dX6_checksum_36 : decode cX6_checksum 36 = .ok (.iload_n 3, 1) := by decide +kernel
theorem dX6_checksum_37 : decode cX6_checksum 37 = .ok (.aload_n 0, 1) := by decide +kernel
theorem dX6_checksum_38 : decode cX6_checksum 38 = .ok (.invokevirtual 205, 3) := by decide +kernel
theorem dX6_checksum_41 : decode cX6_checksum 41 = .ok (.if_icmp .ge 47, 3) := by decide +kernel
theorem dX6_checksum_44 : decode cX6_checksum 44 = .ok (.iconst 0, 1) := by decide +kernel
theorem dX6_checksum_45 : decode cX6_checksum 45 = .ok (.istore 4, 2) := by decide +kernel
theorem dX6_checksum_47 : decode cX6_checksum 47 = .ok (.iload 4, 2) := by decide +kernel
theorem dX6_checksum_49 : decode cX6_checksum 49 = .ok (.iconst 4, 1) := by decide +kernel
theorem dX6_checksum_50 : decode cX6_checksum 50 = .ok (.if_icmp .ge 32, 3) := by decide +kernel
theorem dX6_checksum_53 : decode cX6_checksum 53 = .ok (.aload_n 0, 1) := by decide +kernel
theorem dX6_checksum_54 : decode cX6_checksum 54 = .ok (.iload_n 3, 1) := by decide +kernel
theorem dX6_checksum_55 : decode cX6_checksum 55 = .ok (.invokevirtual 208, 3) := by decide +kernel
theorem dX6_checksum_58 : decode cX6_checksum 58 = .ok (.ifCond .eq 24, 3) := by decide +kernel
theorem dX6_checksum_61 : decode cX6_checksum 61 = .ok (.ldc2_w 303, 3) := by decide +kernel
theorem dX6_checksum_64 : decode cX6_checksum 64 = .ok (.lload_n 1, 1) := by decide +kernel
theorem dX6_checksum_65 : decode cX6_checksum 65 = .ok (.lmul, 1) := by decide +kernel
theorem dX6_checksum_66 : decode cX6_checksum 66 = .ok (.aload_n 0, 1) := by decide +kernel
theorem dX6_checksum_67 : decode cX6_checksum 67 = .ok (.iload_n 3, 1) := by decide +kernel
theorem dX6_checksum_68 : decode cX6_checksum 68 = .ok (.iload 4, 2) := by decide +kernel
theorem dX6_checksum_70 : decode cX6_checksum 70 = .ok (.invokevirtual 264, 3) := by decide +kernel
theorem dX6_checksum_73 : decode cX6_checksum 73 = .ok (.i2l, 1) := by decide +kernel
theorem dX6_checksum_74 : decode cX6_checksum 74 = .ok (.ladd, 1) := by decide +kernel
theorem dX6_checksum_75 : decode cX6_checksum 75 = .ok (.lstore_n 1, 1) := by decide +kernel
theorem dX6_checksum_76 : decode cX6_checksum 76 = .ok (.iinc 4 1, 3) := by decide +kernel
theorem dX6_checksum_79 : decode cX6_checksum 79 = .ok (.goto (-32), 3) := by decide +kernel
theorem dX6_checksum_82 : decode cX6_checksum 82 = .ok (.iinc 3 1, 3) := by decide +kernel
theorem dX6_checksum_85 : decode cX6_checksum 85 = .ok (.goto (-49), 3) := by decide +kernel
theorem dX6_checksum_88 : decode cX6_checksum 88 = .ok (.lload_n 1, 1) := by decide +kernel
theorem dX6_checksum_89 : decode cX6_checksum 89 = .ok (.lreturn, 1) := by decide +kernel
end
section
theorem dJ6_compare_7cf53_0 : decode cJ6_compare_7cf53 0 = .ok (.iload_n 0, 1) := by decide +kernel
theorem dJ6_compare_7cf53_1 : decode cJ6_compare_7cf53 1 = .ok (.iload_n 1, 1) := by decide +kernel
theorem dJ6_compare_7cf53_2 : decode cJ6_compare_7cf53 2 = .ok (.if_icmp .ge 7, 3) := by decide +kernel
theorem dJ6_compare_7cf53_5 : decode cJ6_compare_7cf53 5 = .ok (.iconst (-1), 1) := by decide +kernel
theorem dJ6_compare_7cf53_6 : decode cJ6_compare_7cf53 6 = .ok (.goto 13, 3) := by decide +kernel
theorem dJ6_compare_7cf53_9 : decode cJ6_compare_7cf53 9 = .ok (.iload_n 0, 1) := by decide +kernel
theorem dJ6_compare_7cf53_10 : decode cJ6_compare_7cf53 10 = .ok (.iload_n 1, 1) := by decide +kernel
theorem dJ6_compare_7cf53_11 : decode cJ6_compare_7cf53 11 = .ok (.if_icmp .ne 7, 3) := by decide +kernel
theorem dJ6_compare_7cf53_14 : decode cJ6_compare_7cf53 14 = .ok (.iconst 0, 1) := by decide +kernel
theorem dJ6_compare_7cf53_15 : decode cJ6_compare_7cf53 15 = .ok (.goto 4, 3) := by decide +kernel
theorem dJ6_compare_7cf53_18 : decode cJ6_compare_7cf53 18 = .ok (.iconst 1, 1) := by decide +kernel
theorem dJ6_compare_7cf53_19 : decode cJ6_compare_7cf53 19 = .ok (.ireturn, 1) := by decide +kernel
theorem dJ6_signum_0f7a4_0 : decode cJ6_signum_0f7a4 0 = .ok (.iload_n 0, 1) := by decide +kernel
theorem dJ6_signum_0f7a4_1 : decode cJ6_signum_0f7a4 1 = .ok (.bipush 31, 2) := by decide +kernel
theorem dJ6_signum_0f7a4_3 : decode cJ6_signum_0f7a4 3 = .ok (.ishr, 1) := by decide +kernel
theorem dJ6_signum_0f7a4_4 : decode cJ6_signum_0f7a4 4 = .ok (.iload_n 0, 1) := by decide +kernel
theorem dJ6_signum_0f7a4_5 : decode cJ6_signum_0f7a4 5 = .ok (.ineg, 1) := by decide +kernel
theorem dJ6_signum_0f7a4_6 : decode cJ6_signum_0f7a4 6 = .ok (.bipush 31, 2) := by decide +kernel
theorem dJ6_signum_0f7a4_8 : decode cJ6_signum_0f7a4 8 = .ok (.iushr, 1) := by decide +kernel
theorem dJ6_signum_0f7a4_9 : decode cJ6_signum_0f7a4 9 = .ok (.ior, 1) := by decide +kernel
theorem dJ6_signum_0f7a4_10 : decode cJ6_signum_0f7a4 10 = .ok (.ireturn, 1) := by decide +kernel
theorem dJ9_abs_0f7a4_0 : decode cJ9_abs_0f7a4 0 = .ok (.iload_n 0, 1) := by decide +kernel
theorem dJ9_abs_0f7a4_1 : decode cJ9_abs_0f7a4 1 = .ok (.ifCond .ge 8, 3) := by decide +kernel
theorem dJ9_abs_0f7a4_4 : decode cJ9_abs_0f7a4 4 = .ok (.iload_n 0, 1) := by decide +kernel
theorem dJ9_abs_0f7a4_5 : decode cJ9_abs_0f7a4 5 = .ok (.ineg, 1) := by decide +kernel
theorem dJ9_abs_0f7a4_6 : decode cJ9_abs_0f7a4 6 = .ok (.goto 4, 3) := by decide +kernel
theorem dJ9_abs_0f7a4_9 : decode cJ9_abs_0f7a4 9 = .ok (.iload_n 0, 1) := by decide +kernel
theorem dJ9_abs_0f7a4_10 : decode cJ9_abs_0f7a4 10 = .ok (.ireturn, 1) := by decide +kernel
theorem dJ9_max_7cf53_0 : decode cJ9_max_7cf53 0 = .ok (.iload_n 0, 1) := by decide +kernel
theorem dJ9_max_7cf53_1 : decode cJ9_max_7cf53 1 = .ok (.iload_n 1, 1) := by decide +kernel
theorem dJ9_max_7cf53_2 : decode cJ9_max_7cf53 2 = .ok (.if_icmp .lt 7, 3) := by decide +kernel
theorem dJ9_max_7cf53_5 : decode cJ9_max_7cf53 5 = .ok (.iload_n 0, 1) := by decide +kernel
theorem dJ9_max_7cf53_6 : decode cJ9_max_7cf53 6 = .ok (.goto 4, 3) := by decide +kernel
theorem dJ9_max_7cf53_9 : decode cJ9_max_7cf53 9 = .ok (.iload_n 1, 1) := by decide +kernel
theorem dJ9_max_7cf53_10 : decode cJ9_max_7cf53 10 = .ok (.ireturn, 1) := by decide +kernel
theorem dJ9_min_7cf53_0 : decode cJ9_min_7cf53 0 = .ok (.iload_n 0, 1) := by decide +kernel
theorem dJ9_min_7cf53_1 : decode cJ9_min_7cf53 1 = .ok (.iload_n 1, 1) := by decide +kernel
theorem dJ9_min_7cf53_2 : decode cJ9_min_7cf53 2 = .ok (.if_icmp .gt 7, 3) := by decide +kernel
theorem dJ9_min_7cf53_5 : decode cJ9_min_7cf53 5 = .ok (.iload_n 0, 1) := by decide +kernel
theorem dJ9_min_7cf53_6 : decode cJ9_min_7cf53 6 = .ok (.goto 4, 3) := by decide +kernel
theorem dJ9_min_7cf53_9 : decode cJ9_min_7cf53 9 = .ok (.iload_n 1, 1) := by decide +kernel
theorem dJ9_min_7cf53_10 : decode cJ9_min_7cf53 10 = .ok (.ireturn, 1) := by decide +kernel
theorem dJ0_length_8abf5_0 : decode cJ0_length_8abf5 0 = .ok (.aload_n 0, 1) := by decide +kernel
theorem dJ0_length_8abf5_1 : decode cJ0_length_8abf5 1 = .ok (.getfield 9, 3) := by decide +kernel
theorem dJ0_length_8abf5_4 : decode cJ0_length_8abf5 4 = .ok (.arraylength, 1) := by decide +kernel
theorem dJ0_length_8abf5_5 : decode cJ0_length_8abf5 5 = .ok (.aload_n 0, 1) := by decide +kernel
theorem dJ0_length_8abf5_6 : decode cJ0_length_8abf5 6 = .ok (.invokevirtual 335, 3) := by decide +kernel
theorem dJ0_length_8abf5_9 : decode cJ0_length_8abf5 9 = .ok (.ishr, 1) := by decide +kernel
theorem dJ0_length_8abf5_10 : decode cJ0_length_8abf5 10 = .ok (.ireturn, 1) := by decide +kernel
theorem dJ0_charAt_5068e_0 : decode cJ0_charAt_5068e 0 = .ok (.aload_n 0, 1) := by decide +kernel
theorem dJ0_charAt_5068e_1 : decode cJ0_charAt_5068e 1 = .ok (.invokevirtual 492, 3) := by decide +kernel
theorem dJ0_charAt_5068e_4 : decode cJ0_charAt_5068e 4 = .ok (.ifCond .eq 12, 3) := by decide +kernel
theorem dJ0_charAt_5068e_7 : decode cJ0_charAt_5068e 7 = .ok (.aload_n 0, 1) := by decide +kernel
theorem dJ0_charAt_5068e_8 : decode cJ0_charAt_5068e 8 = .ok (.getfield 9, 3) := by decide +kernel
theorem dJ0_charAt_5068e_11 : decode cJ0_charAt_5068e 11 = .ok (.iload_n 1, 1) := by decide +kernel
theorem dJ0_charAt_5068e_12 : decode cJ0_charAt_5068e 12 = .ok (.invokestatic 495, 3) := by decide +kernel
theorem dJ0_charAt_5068e_15 : decode cJ0_charAt_5068e 15 = .ok (.ireturn, 1) := by decide +kernel
theorem dJ0_charAt_5068e_16 : decode cJ0_charAt_5068e 16 = .ok (.aload_n 0, 1) := by decide +kernel
theorem dJ0_charAt_5068e_17 : decode cJ0_charAt_5068e 17 = .ok (.getfield 9, 3) := by decide +kernel
theorem dJ0_charAt_5068e_20 : decode cJ0_charAt_5068e 20 = .ok (.iload_n 1, 1) := by decide +kernel
theorem dJ0_charAt_5068e_21 : decode cJ0_charAt_5068e 21 = .ok (.invokestatic 498, 3) := by decide +kernel
theorem dJ0_charAt_5068e_24 : decode cJ0_charAt_5068e 24 = .ok (.ireturn, 1) := by decide +kernel
theorem dJ0_coder_7d493_0 : decode cJ0_coder_7d493 0 = .ok (.getstatic 38, 3) := by decide +kernel
theorem dJ0_coder_7d493_3 : decode cJ0_coder_7d493 3 = .ok (.ifCond .eq 10, 3) := by decide +kernel
theorem dJ0_coder_7d493_6 : decode cJ0_coder_7d493 6 = .ok (.aload_n 0, 1) := by decide +kernel
theorem dJ0_coder_7d493_7 : decode cJ0_coder_7d493 7 = .ok (.getfield 15, 3) := by decide +kernel
theorem dJ0_coder_7d493_10 : decode cJ0_coder_7d493 10 = .ok (.goto 4, 3) := by decide +kernel
theorem dJ0_coder_7d493_13 : decode cJ0_coder_7d493 13 = .ok (.iconst 1, 1) := by decide +kernel
theorem dJ0_coder_7d493_14 : decode cJ0_coder_7d493 14 = .ok (.ireturn, 1) := by decide +kernel
theorem dJ0_isLatin1_aae02_0 : decode cJ0_isLatin1_aae02 0 = .ok (.getstatic 38, 3) := by decide +kernel
theorem dJ0_isLatin1_aae02_3 : decode cJ0_isLatin1_aae02 3 = .ok (.ifCond .eq 14, 3) := by decide +kernel
theorem dJ0_isLatin1_aae02_6 : decode cJ0_isLatin1_aae02 6 = .ok (.aload_n 0, 1) := by decide +kernel
theorem dJ0_isLatin1_aae02_7 : decode cJ0_isLatin1_aae02 7 = .ok (.getfield 15, 3) := by decide +kernel
theorem dJ0_isLatin1_aae02_10 : decode cJ0_isLatin1_aae02 10 = .ok (.ifCond .ne 7, 3) := by decide +kernel
theorem dJ0_isLatin1_aae02_13 : decode cJ0_isLatin1_aae02 13 = .ok (.iconst 1, 1) := by decide +kernel
theorem dJ0_isLatin1_aae02_14 : decode cJ0_isLatin1_aae02 14 = .ok (.goto 4, 3) := by decide +kernel
theorem dJ0_isLatin1_aae02_17 : decode cJ0_isLatin1_aae02 17 = .ok (.iconst 0, 1) := by decide +kernel
theorem dJ0_isLatin1_aae02_18 : decode cJ0_isLatin1_aae02 18 = .ok (.ireturn, 1) := by decide +kernel
theorem dJ0_checkIndex_df160_0 : decode cJ0_checkIndex_df160 0 = .ok (.iload_n 0, 1) := by decide +kernel
theorem dJ0_checkIndex_df160_1 : decode cJ0_checkIndex_df160 1 = .ok (.iload_n 1, 1) := by decide +kernel
theorem dJ0_checkIndex_df160_2 : decode cJ0_checkIndex_df160 2 = .ok (.getstatic 1053, 3) := by decide +kernel
theorem dJ0_checkIndex_df160_5 : decode cJ0_checkIndex_df160 5 = .ok (.invokestatic 1059, 3) := by decide +kernel
theorem dJ0_checkIndex_df160_8 : decode cJ0_checkIndex_df160 8 = .ok (.pop, 1) := by decide +kernel
theorem dJ0_checkIndex_df160_9 : decode cJ0_checkIndex_df160 9 = .ok (.return_, 1) := by decide +kernel
theorem dJ1_charAt_3b067_0 : decode cJ1_charAt_3b067 0 = .ok (.iload_n 1, 1) := by decide +kernel
theorem dJ1_charAt_3b067_1 : decode cJ1_charAt_3b067 1 = .ok (.aload_n 0, 1) := by decide +kernel
theorem dJ1_charAt_3b067_2 : decode cJ1_charAt_3b067 2 = .ok (.arraylength, 1) := by decide +kernel
theorem dJ1_charAt_3b067_3 : decode cJ1_charAt_3b067 3 = .ok (.invokestatic 9, 3) := by decide +kernel
theorem dJ1_charAt_3b067_6 : decode cJ1_charAt_3b067 6 = .ok (.aload_n 0, 1) := by decide +kernel
theorem dJ1_charAt_3b067_7 : decode cJ1_charAt_3b067 7 = .ok (.iload_n 1, 1) := by decide +kernel
theorem dJ1_charAt_3b067_8 : decode cJ1_charAt_3b067 8 = .ok (.baload, 1) := by decide +kernel
theorem dJ1_charAt_3b067_9 : decode cJ1_charAt_3b067 9 = .ok (.sipush 255, 3) := by decide +kernel
theorem dJ1_charAt_3b067_12 : decode cJ1_charAt_3b067 12 = .ok (.iand, 1) := by decide +kernel
theorem dJ1_charAt_3b067_13 : decode cJ1_charAt_3b067 13 = .ok (.i2c, 1) := by decide +kernel
theorem dJ1_charAt_3b067_14 : decode cJ1_charAt_3b067 14 = .ok (.ireturn, 1) := by decide +kernel
theorem dJ2_getChar_3b067_0 : decode cJ2_getChar_3b067 0 = .ok (.getstatic 44, 3) := by decide +kernel
theorem dJ2_getChar_3b067_3 : decode cJ2_getChar_3b067 3 = .ok (.ifCond .ne 25, 3) := by decide +kernel
theorem dJ2_getChar_3b067_6 : decode cJ2_getChar_3b067 6 = .ok (.iload_n 1, 1) := by decide +kernel
theorem dJ2_getChar_3b067_7 : decode cJ2_getChar_3b067 7 = .ok (.ifCond .lt 11, 3) := by decide +kernel
theorem dJ2_getChar_3b067_10 : decode cJ2_getChar_3b067 10 = .ok (.iload_n 1, 1) := by decide +kernel
theorem dJ2_getChar_3b067_11 : decode cJ2_getChar_3b067 11 = .ok (.aload_n 0, 1) := by decide +kernel
theorem dJ2_getChar_3b067_12 : decode cJ2_getChar_3b067 12 = .ok (.invokestatic 48, 3) := by decide +kernel
theorem dJ2_getChar_3b067_15 : decode cJ2_getChar_3b067 15 = .ok (.if_icmp .lt 13, 3) := by decide +kernel
theorem dJ2_getChar_3b067_18 : decode cJ2_getChar_3b067 18 = .ok (.new 52, 3) := by decide +kernel
theorem dJ2_getChar_3b067_21 : decode cJ2_getChar_3b067 21 = .ok (.dup, 1) := by decide +kernel
theorem dJ2_getChar_3b067_22 : decode cJ2_getChar_3b067 22 = .ok (.ldc 54, 2) := by decide +kernel
theorem dJ2_getChar_3b067_24 : decode cJ2_getChar_3b067 24 = .ok (.invokespecial 56, 3) := by decide +kernel
theorem dJ2_getChar_3b067_27 : decode cJ2_getChar_3b067 27 = .ok (.athrow, 1) := by decide +kernel
theorem dJ2_getChar_3b067_28 : decode cJ2_getChar_3b067 28 = .ok (.iload_n 1, 1) := by decide +kernel
theorem dJ2_getChar_3b067_29 : decode cJ2_getChar_3b067 29 = .ok (.iconst 1, 1) := by decide +kernel
theorem dJ2_getChar_3b067_30 : decode cJ2_getChar_3b067 30 = .ok (.ishl, 1) := by decide +kernel
theorem dJ2_getChar_3b067_31 : decode cJ2_getChar_3b067 31 = .ok (.istore_n 1, 1) := by decide +kernel
theorem dJ2_getChar_3b067_32 : decode cJ2_getChar_3b067 32 = .ok (.aload_n 0, 1) := by decide +kernel
theorem dJ2_getChar_3b067_33 : decode cJ2_getChar_3b067 33 = .ok (.iload_n 1, 1) := by decide +kernel
theorem dJ2_getChar_3b067_34 : decode cJ2_getChar_3b067 34 = .ok (.iinc 1 1, 3) := by decide +kernel
theorem dJ2_getChar_3b067_37 : decode cJ2_getChar_3b067 37 = .ok (.baload, 1) := by decide +kernel
theorem dJ2_getChar_3b067_38 : decode cJ2_getChar_3b067 38 = .ok (.sipush 255, 3) := by decide +kernel
theorem dJ2_getChar_3b067_41 : decode cJ2_getChar_3b067 41 = .ok (.iand, 1) := by decide +kernel
theorem dJ2_getChar_3b067_42 : decode cJ2_getChar_3b067 42 = .ok (.getstatic 59, 3) := by decide +kernel
theorem dJ2_getChar_3b067_45 : decode cJ2_getChar_3b067 45 = .ok (.ishl, 1) := by decide +kernel
theorem dJ2_getChar_3b067_46 : decode cJ2_getChar_3b067 46 = .ok (.aload_n 0, 1) := by decide +kernel
theorem dJ2_getChar_3b067_47 : decode cJ2_getChar_3b067 47 = .ok (.iload_n 1, 1) := by decide +kernel
theorem dJ2_getChar_3b067_48 : decode cJ2_getChar_3b067 48 = .ok (.baload, 1) := by decide +kernel
theorem dJ2_getChar_3b067_49 : decode cJ2_getChar_3b067 49 = .ok (.sipush 255, 3) := by decide +kernel
theorem dJ2_getChar_3b067_52 : decode cJ2_getChar_3b067 52 = .ok (.iand, 1) := by decide +kernel
theorem dJ2_getChar_3b067_53 : decode cJ2_getChar_3b067 53 = .ok (.getstatic 63, 3) := by decide +kernel
theorem dJ2_getChar_3b067_56 : decode cJ2_getChar_3b067 56 = .ok (.ishl, 1) := by decide +kernel
theorem dJ2_getChar_3b067_57 : decode cJ2_getChar_3b067 57 = .ok (.ior, 1) := by decide +kernel
theorem dJ2_getChar_3b067_58 : decode cJ2_getChar_3b067 58 = .ok (.i2c, 1) := by decide +kernel
theorem dJ2_getChar_3b067_59 : decode cJ2_getChar_3b067 59 = .ok (.ireturn, 1) := by decide +kernel
theorem dJ2_length_9d52b_0 : decode cJ2_length_9d52b 0 = .ok (.aload_n 0, 1) := by decide +kernel
theorem dJ2_length_9d52b_1 : decode cJ2_length_9d52b 1 = .ok (.arraylength, 1) := by decide +kernel
theorem dJ2_length_9d52b_2 : decode cJ2_length_9d52b 2 = .ok (.iconst 1, 1) := by decide +kernel
theorem dJ2_length_9d52b_3 : decode cJ2_length_9d52b 3 = .ok (.ishr, 1) := by decide +kernel
theorem dJ2_length_9d52b_4 : decode cJ2_length_9d52b 4 = .ok (.ireturn, 1) := by decide +kernel
theorem dJ2_charAt_3b067_0 : decode cJ2_charAt_3b067 0 = .ok (.iload_n 1, 1) := by decide +kernel
theorem dJ2_charAt_3b067_1 : decode cJ2_charAt_3b067 1 = .ok (.aload_n 0, 1) := by decide +kernel
theorem dJ2_charAt_3b067_2 : decode cJ2_charAt_3b067 2 = .ok (.invokestatic 67, 3) := by decide +kernel
theorem dJ2_charAt_3b067_5 : decode cJ2_charAt_3b067 5 = .ok (.aload_n 0, 1) := by decide +kernel
theorem dJ2_charAt_3b067_6 : decode cJ2_charAt_3b067 6 = .ok (.iload_n 1, 1) := by decide +kernel
theorem dJ2_charAt_3b067_7 : decode cJ2_charAt_3b067 7 = .ok (.invokestatic 71, 3) := by decide +kernel
theorem dJ2_charAt_3b067_10 : decode cJ2_charAt_3b067 10 = .ok (.ireturn, 1) := by decide +kernel
theorem dJ2_checkIndex_2214a_0 : decode cJ2_checkIndex_2214a 0 = .ok (.iload_n 0, 1) := by decide +kernel
theorem dJ2_checkIndex_2214a_1 : decode cJ2_checkIndex_2214a 1 = .ok (.aload_n 1, 1) := by decide +kernel
theorem dJ2_checkIndex_2214a_2 : decode cJ2_checkIndex_2214a 2 = .ok (.invokestatic 48, 3) := by decide +kernel
theorem dJ2_checkIndex_2214a_5 : decode cJ2_checkIndex_2214a 5 = .ok (.invokestatic 414, 3) := by decide +kernel
theorem dJ2_checkIndex_2214a_8 : decode cJ2_checkIndex_2214a 8 = .ok (.return_, 1) := by decide +kernel
theorem dJ7_fill_53178_0 : decode cJ7_fill_53178 0 = .ok (.iconst 0, 1) := by decide +kernel
theorem dJ7_fill_53178_1 : decode cJ7_fill_53178 1 = .ok (.istore_n 2, 1) := by decide +kernel
theorem dJ7_fill_53178_2 : decode cJ7_fill_53178 2 = .ok (.aload_n 0, 1) := by decide +kernel
theorem dJ7_fill_53178_3 : decode cJ7_fill_53178 3 = .ok (.arraylength, 1) := by decide +kernel
theorem dJ7_fill_53178_4 : decode cJ7_fill_53178 4 = .ok (.istore_n 3, 1) := by decide +kernel
theorem dJ7_fill_53178_5 : decode cJ7_fill_53178 5 = .ok (.iload_n 2, 1) := by decide +kernel
theorem dJ7_fill_53178_6 : decode cJ7_fill_53178 6 = .ok (.iload_n 3, 1) := by decide +kernel
theorem dJ7_fill_53178_7 : decode cJ7_fill_53178 7 = .ok (.if_icmp .ge 13, 3) := by decide +kernel
theorem dJ7_fill_53178_10 : decode cJ7_fill_53178 10 = .ok (.aload_n 0, 1) := by decide +kernel
theorem dJ7_fill_53178_11 : decode cJ7_fill_53178 11 = .ok (.iload_n 2, 1) := by decide +kernel
theorem dJ7_fill_53178_12 : decode cJ7_fill_53178 12 = .ok (.iload_n 1, 1) := by decide +kernel
theorem dJ7_fill_53178_13 : decode cJ7_fill_53178 13 = .ok (.iastore, 1) := by decide +kernel
theorem dJ7_fill_53178_14 : decode cJ7_fill_53178 14 = .ok (.iinc 2 1, 3) := by decide +kernel
theorem dJ7_fill_53178_17 : decode cJ7_fill_53178 17 = .ok (.goto (-12), 3) := by decide +kernel
theorem dJ7_fill_53178_20 : decode cJ7_fill_53178 20 = .ok (.return_, 1) := by decide +kernel
theorem dJ3_checkIndex_8e157_0 : decode cJ3_checkIndex_8e157 0 = .ok (.iload_n 0, 1) := by decide +kernel
theorem dJ3_checkIndex_8e157_1 : decode cJ3_checkIndex_8e157 1 = .ok (.ifCond .lt 8, 3) := by decide +kernel
theorem dJ3_checkIndex_8e157_4 : decode cJ3_checkIndex_8e157 4 = .ok (.iload_n 0, 1) := by decide +kernel
theorem dJ3_checkIndex_8e157_5 : decode cJ3_checkIndex_8e157 5 = .ok (.iload_n 1, 1) := by decide +kernel
theorem dJ3_checkIndex_8e157_6 : decode cJ3_checkIndex_8e157 6 = .ok (.if_icmp .lt 10, 3) := by decide +kernel
theorem dJ3_checkIndex_8e157_9 : decode cJ3_checkIndex_8e157 9 = .ok (.aload_n 2, 1) := by decide +kernel
theorem dJ3_checkIndex_8e157_10 : decode cJ3_checkIndex_8e157 10 = .ok (.iload_n 0, 1) := by decide +kernel
theorem dJ3_checkIndex_8e157_11 : decode cJ3_checkIndex_8e157 11 = .ok (.iload_n 1, 1) := by decide +kernel
theorem dJ3_checkIndex_8e157_12 : decode cJ3_checkIndex_8e157 12 = .ok (.invokestatic 95, 3) := by decide +kernel
theorem dJ3_checkIndex_8e157_15 : decode cJ3_checkIndex_8e157 15 = .ok (.athrow, 1) := by decide +kernel
theorem dJ3_checkIndex_8e157_16 : decode cJ3_checkIndex_8e157 16 = .ok (.iload_n 0, 1) := by decide +kernel
theorem dJ3_checkIndex_8e157_17 : decode cJ3_checkIndex_8e157 17 = .ok (.ireturn, 1) := by decide +kernel
theorem dL_load_0 : decode cL_load 0 = .ok (.aload_n 2, 1) := by decide +kernel
theorem dL_load_1 : decode cL_load 1 = .ok (.iconst 0, 1) := by decide +kernel
theorem dL_load_2 : decode cL_load 2 = .ok (.aload_n 0, 1) := by decide +kernel
theorem dL_load_3 : decode cL_load 3 = .ok (.iload_n 1, 1) := by decide +kernel
theorem dL_load_4 : decode cL_load 4 = .ok (.invokevirtual 7, 3) := by decide +kernel
theorem dL_load_7 : decode cL_load 7 = .ok (.i2l, 1) := by decide +kernel
theorem dL_load_8 : decode cL_load 8 = .ok (.lastore, 1) := by decide +kernel
theorem dL_load_9 : decode cL_load 9 = .ok (.goto 6, 3) := by decide +kernel
theorem dL_load_12 : decode cL_load 12 = .ok (.astore_n 3, 1) := by decide +kernel
theorem dL_load_13 : decode cL_load 13 = .ok (.iconst 1, 1) := by decide +kernel
theorem dL_load_14 : decode cL_load 14 = .ok (.ireturn, 1) := by decide +kernel
theorem dL_load_15 : decode cL_load 15 = .ok (.iconst 0, 1) := by decide +kernel
theorem dL_load_16 : decode cL_load 16 = .ok (.ireturn, 1) := by decide +kernel
theorem dL_state_0 : decode cL_state 0 = .ok (.aload_n 2, 1) := by decide +kernel
theorem dL_state_1 : decode cL_state 1 = .ok (.iconst 0, 1) := by decide +kernel
theorem dL_state_2 : decode cL_state 2 = .ok (.aload_n 0, 1) := by decide +kernel
theorem dL_state_3 : decode cL_state 3 = .ok (.iload_n 1, 1) := by decide +kernel
theorem dL_state_4 : decode cL_state 4 = .ok (.invokevirtual 15, 3) := by decide +kernel
theorem dL_state_7 : decode cL_state 7 = .ok (.i2l, 1) := by decide +kernel
theorem dL_state_8 : decode cL_state 8 = .ok (.lastore, 1) := by decide +kernel
theorem dL_state_9 : decode cL_state 9 = .ok (.goto 6, 3) := by decide +kernel
theorem dL_state_12 : decode cL_state 12 = .ok (.astore_n 3, 1) := by decide +kernel
theorem dL_state_13 : decode cL_state 13 = .ok (.iconst 1, 1) := by decide +kernel
theorem dL_state_14 : decode cL_state 14 = .ok (.ireturn, 1) := by decide +kernel
theorem dL_state_15 : decode cL_state 15 = .ok (.iconst 0, 1) := by decide +kernel
theorem dL_state_16 : decode cL_state 16 = .ok (.ireturn, 1) := by decide +kernel
theorem dL_cell_0 : decode cL_cell 0 = .ok (.aload 4, 2) := by decide +kernel
theorem dL_cell_2 : decode cL_cell 2 = .ok (.iconst 0, 1) := by decide +kernel
theorem dL_cell_3 : decode cL_cell 3 = .ok (.aload_n 0, 1) := by decide +kernel
theorem dL_cell_4 : decode cL_cell 4 = .ok (.iload_n 1, 1) := by decide +kernel
theorem dL_cell_5 : decode cL_cell 5 = .ok (.iload_n 2, 1) := by decide +kernel
theorem dL_cell_6 : decode cL_cell 6 = .ok (.iload_n 3, 1) := by decide +kernel
theorem dL_cell_7 : decode cL_cell 7 = .ok (.invokevirtual 18, 3) := by decide +kernel
theorem dL_cell_10 : decode cL_cell 10 = .ok (.i2l, 1) := by decide +kernel
theorem dL_cell_11 : decode cL_cell 11 = .ok (.lastore, 1) := by decide +kernel
theorem dL_cell_12 : decode cL_cell 12 = .ok (.goto 11, 3) := by decide +kernel
theorem dL_cell_15 : decode cL_cell 15 = .ok (.astore 5, 2) := by decide +kernel
theorem dL_cell_17 : decode cL_cell 17 = .ok (.iconst 1, 1) := by decide +kernel
theorem dL_cell_18 : decode cL_cell 18 = .ok (.ireturn, 1) := by decide +kernel
theorem dL_cell_19 : decode cL_cell 19 = .ok (.astore 5, 2) := by decide +kernel
theorem dL_cell_21 : decode cL_cell 21 = .ok (.iconst 2, 1) := by decide +kernel
theorem dL_cell_22 : decode cL_cell 22 = .ok (.ireturn, 1) := by decide +kernel
theorem dL_cell_23 : decode cL_cell 23 = .ok (.iconst 0, 1) := by decide +kernel
theorem dL_cell_24 : decode cL_cell 24 = .ok (.ireturn, 1) := by decide +kernel
theorem dL_mix_0 : decode cL_mix 0 = .ok (.aload_n 3, 1) := by decide +kernel
theorem dL_mix_1 : decode cL_mix 1 = .ok (.iconst 0, 1) := by decide +kernel
theorem dL_mix_2 : decode cL_mix 2 = .ok (.aload_n 0, 1) := by decide +kernel
theorem dL_mix_3 : decode cL_mix 3 = .ok (.iload_n 1, 1) := by decide +kernel
theorem dL_mix_4 : decode cL_mix 4 = .ok (.iload_n 2, 1) := by decide +kernel
theorem dL_mix_5 : decode cL_mix 5 = .ok (.invokevirtual 24, 3) := by decide +kernel
theorem dL_mix_8 : decode cL_mix 8 = .ok (.i2l, 1) := by decide +kernel
theorem dL_mix_9 : decode cL_mix 9 = .ok (.lastore, 1) := by decide +kernel
theorem dL_mix_10 : decode cL_mix 10 = .ok (.goto 7, 3) := by decide +kernel
theorem dL_mix_13 : decode cL_mix 13 = .ok (.astore 4, 2) := by decide +kernel
theorem dL_mix_15 : decode cL_mix 15 = .ok (.iconst 1, 1) := by decide +kernel
theorem dL_mix_16 : decode cL_mix 16 = .ok (.ireturn, 1) := by decide +kernel
theorem dL_mix_17 : decode cL_mix 17 = .ok (.iconst 0, 1) := by decide +kernel
theorem dL_mix_18 : decode cL_mix 18 = .ok (.ireturn, 1) := by decide +kernel
theorem dL_count_0 : decode cL_count 0 = .ok (.aload_n 2, 1) := by decide +kernel
theorem dL_count_1 : decode cL_count 1 = .ok (.iconst 0, 1) := by decide +kernel
theorem dL_count_2 : decode cL_count 2 = .ok (.aload_n 0, 1) := by decide +kernel
theorem dL_count_3 : decode cL_count 3 = .ok (.iload_n 1, 1) := by decide +kernel
theorem dL_count_4 : decode cL_count 4 = .ok (.invokevirtual 28, 3) := by decide +kernel
theorem dL_count_7 : decode cL_count 7 = .ok (.i2l, 1) := by decide +kernel
theorem dL_count_8 : decode cL_count 8 = .ok (.lastore, 1) := by decide +kernel
theorem dL_count_9 : decode cL_count 9 = .ok (.goto 6, 3) := by decide +kernel
theorem dL_count_12 : decode cL_count 12 = .ok (.astore_n 3, 1) := by decide +kernel
theorem dL_count_13 : decode cL_count 13 = .ok (.iconst 1, 1) := by decide +kernel
theorem dL_count_14 : decode cL_count 14 = .ok (.ireturn, 1) := by decide +kernel
theorem dL_count_15 : decode cL_count 15 = .ok (.iconst 0, 1) := by decide +kernel
theorem dL_count_16 : decode cL_count 16 = .ok (.ireturn, 1) := by decide +kernel
theorem dL_region_0 : decode cL_region 0 = .ok (.aload_n 3, 1) := by decide +kernel
theorem dL_region_1 : decode cL_region 1 = .ok (.iconst 0, 1) := by decide +kernel
theorem dL_region_2 : decode cL_region 2 = .ok (.aload_n 0, 1) := by decide +kernel
theorem dL_region_3 : decode cL_region 3 = .ok (.iload_n 1, 1) := by decide +kernel
theorem dL_region_4 : decode cL_region 4 = .ok (.iload_n 2, 1) := by decide +kernel
theorem dL_region_5 : decode cL_region 5 = .ok (.invokevirtual 31, 3) := by decide +kernel
theorem dL_region_8 : decode cL_region 8 = .ok (.i2l, 1) := by decide +kernel
theorem dL_region_9 : decode cL_region 9 = .ok (.lastore, 1) := by decide +kernel
theorem dL_region_10 : decode cL_region 10 = .ok (.goto 7, 3) := by decide +kernel
theorem dL_region_13 : decode cL_region 13 = .ok (.astore 4, 2) := by decide +kernel
theorem dL_region_15 : decode cL_region 15 = .ok (.iconst 1, 1) := by decide +kernel
theorem dL_region_16 : decode cL_region 16 = .ok (.ireturn, 1) := by decide +kernel
theorem dL_region_17 : decode cL_region 17 = .ok (.iconst 0, 1) := by decide +kernel
theorem dL_region_18 : decode cL_region 18 = .ok (.ireturn, 1) := by decide +kernel
theorem dL_regions_0 : decode cL_regions 0 = .ok (.aload_n 2, 1) := by decide +kernel
theorem dL_regions_1 : decode cL_regions 1 = .ok (.iconst 0, 1) := by decide +kernel
theorem dL_regions_2 : decode cL_regions 2 = .ok (.aload_n 0, 1) := by decide +kernel
theorem dL_regions_3 : decode cL_regions 3 = .ok (.iload_n 1, 1) := by decide +kernel
theorem dL_regions_4 : decode cL_regions 4 = .ok (.invokevirtual 34, 3) := by decide +kernel
theorem dL_regions_7 : decode cL_regions 7 = .ok (.i2l, 1) := by decide +kernel
theorem dL_regions_8 : decode cL_regions 8 = .ok (.lastore, 1) := by decide +kernel
theorem dL_regions_9 : decode cL_regions 9 = .ok (.goto 6, 3) := by decide +kernel
theorem dL_regions_12 : decode cL_regions 12 = .ok (.astore_n 3, 1) := by decide +kernel
theorem dL_regions_13 : decode cL_regions 13 = .ok (.iconst 1, 1) := by decide +kernel
theorem dL_regions_14 : decode cL_regions 14 = .ok (.ireturn, 1) := by decide +kernel
theorem dL_regions_15 : decode cL_regions 15 = .ok (.iconst 0, 1) := by decide +kernel
theorem dL_regions_16 : decode cL_regions 16 = .ok (.ireturn, 1) := by decide +kernel
theorem dL_bleeds_0 : decode cL_bleeds 0 = .ok (.aload_n 3, 1) := by decide +kernel
theorem dL_bleeds_1 : decode cL_bleeds 1 = .ok (.iconst 0, 1) := by decide +kernel
theorem dL_bleeds_2 : decode cL_bleeds 2 = .ok (.aload_n 0, 1) := by decide +kernel
theorem dL_bleeds_3 : decode cL_bleeds 3 = .ok (.iload_n 1, 1) := by decide +kernel
theorem dL_bleeds_4 : decode cL_bleeds 4 = .ok (.iload_n 2, 1) := by decide +kernel
theorem dL_bleeds_5 : decode cL_bleeds 5 = .ok (.invokevirtual 37, 3) := by decide +kernel
theorem dL_bleeds_8 : decode cL_bleeds 8 = .ok (.i2l, 1) := by decide +kernel
theorem dL_bleeds_9 : decode cL_bleeds 9 = .ok (.lastore, 1) := by decide +kernel
theorem dL_bleeds_10 : decode cL_bleeds 10 = .ok (.goto 7, 3) := by decide +kernel
theorem dL_bleeds_13 : decode cL_bleeds 13 = .ok (.astore 4, 2) := by decide +kernel
theorem dL_bleeds_15 : decode cL_bleeds 15 = .ok (.iconst 1, 1) := by decide +kernel
theorem dL_bleeds_16 : decode cL_bleeds 16 = .ok (.ireturn, 1) := by decide +kernel
theorem dL_bleeds_17 : decode cL_bleeds 17 = .ok (.iconst 0, 1) := by decide +kernel
theorem dL_bleeds_18 : decode cL_bleeds 18 = .ok (.ireturn, 1) := by decide +kernel
theorem dL_foretold_0 : decode cL_foretold 0 = .ok (.aload_n 3, 1) := by decide +kernel
theorem dL_foretold_1 : decode cL_foretold 1 = .ok (.iconst 0, 1) := by decide +kernel
theorem dL_foretold_2 : decode cL_foretold 2 = .ok (.aload_n 0, 1) := by decide +kernel
theorem dL_foretold_3 : decode cL_foretold 3 = .ok (.iload_n 1, 1) := by decide +kernel
theorem dL_foretold_4 : decode cL_foretold 4 = .ok (.iload_n 2, 1) := by decide +kernel
theorem dL_foretold_5 : decode cL_foretold 5 = .ok (.invokevirtual 40, 3) := by decide +kernel
theorem dL_foretold_8 : decode cL_foretold 8 = .ok (.i2l, 1) := by decide +kernel
theorem dL_foretold_9 : decode cL_foretold 9 = .ok (.lastore, 1) := by decide +kernel
theorem dL_foretold_10 : decode cL_foretold 10 = .ok (.goto 7, 3) := by decide +kernel
theorem dL_foretold_13 : decode cL_foretold 13 = .ok (.astore 4, 2) := by decide +kernel
theorem dL_foretold_15 : decode cL_foretold 15 = .ok (.iconst 1, 1) := by decide +kernel
theorem dL_foretold_16 : decode cL_foretold 16 = .ok (.ireturn, 1) := by decide +kernel
theorem dL_foretold_17 : decode cL_foretold 17 = .ok (.iconst 0, 1) := by decide +kernel
theorem dL_foretold_18 : decode cL_foretold 18 = .ok (.ireturn, 1) := by decide +kernel
theorem dL_evens_0 : decode cL_evens 0 = .ok (.aload_n 2, 1) := by decide +kernel
theorem dL_evens_1 : decode cL_evens 1 = .ok (.iconst 0, 1) := by decide +kernel
theorem dL_evens_2 : decode cL_evens 2 = .ok (.aload_n 0, 1) := by decide +kernel
theorem dL_evens_3 : decode cL_evens 3 = .ok (.iload_n 1, 1) := by decide +kernel
theorem dL_evens_4 : decode cL_evens 4 = .ok (.invokevirtual 43, 3) := by decide +kernel
theorem dL_evens_7 : decode cL_evens 7 = .ok (.i2l, 1) := by decide +kernel
theorem dL_evens_8 : decode cL_evens 8 = .ok (.lastore, 1) := by decide +kernel
theorem dL_evens_9 : decode cL_evens 9 = .ok (.goto 6, 3) := by decide +kernel
theorem dL_evens_12 : decode cL_evens 12 = .ok (.astore_n 3, 1) := by decide +kernel
theorem dL_evens_13 : decode cL_evens 13 = .ok (.iconst 1, 1) := by decide +kernel
theorem dL_evens_14 : decode cL_evens 14 = .ok (.ireturn, 1) := by decide +kernel
theorem dL_evens_15 : decode cL_evens 15 = .ok (.iconst 0, 1) := by decide +kernel
theorem dL_evens_16 : decode cL_evens 16 = .ok (.ireturn, 1) := by decide +kernel
theorem dL_pattern_0 : decode cL_pattern 0 = .ok (.aload_n 3, 1) := by decide +kernel
theorem dL_pattern_1 : decode cL_pattern 1 = .ok (.iconst 0, 1) := by decide +kernel
theorem dL_pattern_2 : decode cL_pattern 2 = .ok (.aload_n 0, 1) := by decide +kernel
theorem dL_pattern_3 : decode cL_pattern 3 = .ok (.iload_n 1, 1) := by decide +kernel
theorem dL_pattern_4 : decode cL_pattern 4 = .ok (.iload_n 2, 1) := by decide +kernel
theorem dL_pattern_5 : decode cL_pattern 5 = .ok (.invokevirtual 46, 3) := by decide +kernel
theorem dL_pattern_8 : decode cL_pattern 8 = .ok (.i2l, 1) := by decide +kernel
theorem dL_pattern_9 : decode cL_pattern 9 = .ok (.lastore, 1) := by decide +kernel
theorem dL_pattern_10 : decode cL_pattern 10 = .ok (.goto 11, 3) := by decide +kernel
theorem dL_pattern_13 : decode cL_pattern 13 = .ok (.astore 4, 2) := by decide +kernel
theorem dL_pattern_15 : decode cL_pattern 15 = .ok (.iconst 1, 1) := by decide +kernel
theorem dL_pattern_16 : decode cL_pattern 16 = .ok (.ireturn, 1) := by decide +kernel
theorem dL_pattern_17 : decode cL_pattern 17 = .ok (.astore 4, 2) := by decide +kernel
theorem dL_pattern_19 : decode cL_pattern 19 = .ok (.iconst 2, 1) := by decide +kernel
theorem dL_pattern_20 : decode cL_pattern 20 = .ok (.ireturn, 1) := by decide +kernel
theorem dL_pattern_21 : decode cL_pattern 21 = .ok (.iconst 0, 1) := by decide +kernel
theorem dL_pattern_22 : decode cL_pattern 22 = .ok (.ireturn, 1) := by decide +kernel
theorem dL_pass_0 : decode cL_pass 0 = .ok (.aload_n 2, 1) := by decide +kernel
theorem dL_pass_1 : decode cL_pass 1 = .ok (.iconst 0, 1) := by decide +kernel
theorem dL_pass_2 : decode cL_pass 2 = .ok (.aload_n 0, 1) := by decide +kernel
theorem dL_pass_3 : decode cL_pass 3 = .ok (.iload_n 1, 1) := by decide +kernel
theorem dL_pass_4 : decode cL_pass 4 = .ok (.invokevirtual 49, 3) := by decide +kernel
theorem dL_pass_7 : decode cL_pass 7 = .ok (.i2l, 1) := by decide +kernel
theorem dL_pass_8 : decode cL_pass 8 = .ok (.lastore, 1) := by decide +kernel
theorem dL_pass_9 : decode cL_pass 9 = .ok (.goto 6, 3) := by decide +kernel
theorem dL_pass_12 : decode cL_pass 12 = .ok (.astore_n 3, 1) := by decide +kernel
theorem dL_pass_13 : decode cL_pass 13 = .ok (.iconst 1, 1) := by decide +kernel
theorem dL_pass_14 : decode cL_pass 14 = .ok (.ireturn, 1) := by decide +kernel
theorem dL_pass_15 : decode cL_pass 15 = .ok (.iconst 0, 1) := by decide +kernel
theorem dL_pass_16 : decode cL_pass 16 = .ok (.ireturn, 1) := by decide +kernel
theorem dL_paint_0 : decode cL_paint 0 = .ok (.aload 6, 2) := by decide +kernel
theorem dL_paint_2 : decode cL_paint 2 = .ok (.iconst 0, 1) := by decide +kernel
theorem dL_paint_3 : decode cL_paint 3 = .ok (.aload_n 0, 1) := by decide +kernel
theorem dL_paint_4 : decode cL_paint 4 = .ok (.iload_n 1, 1) := by decide +kernel
theorem dL_paint_5 : decode cL_paint 5 = .ok (.iload_n 2, 1) := by decide +kernel
theorem dL_paint_6 : decode cL_paint 6 = .ok (.iload_n 3, 1) := by decide +kernel
theorem dL_paint_7 : decode cL_paint 7 = .ok (.iload 4, 2) := by decide +kernel
theorem dL_paint_9 : decode cL_paint 9 = .ok (.iload 5, 2) := by decide +kernel
theorem dL_paint_11 : decode cL_paint 11 = .ok (.invokevirtual 52, 3) := by decide +kernel
theorem dL_paint_14 : decode cL_paint 14 = .ok (.i2l, 1) := by decide +kernel
theorem dL_paint_15 : decode cL_paint 15 = .ok (.lastore, 1) := by decide +kernel
theorem dL_paint_16 : decode cL_paint 16 = .ok (.goto 11, 3) := by decide +kernel
theorem dL_paint_19 : decode cL_paint 19 = .ok (.astore 7, 2) := by decide +kernel
theorem dL_paint_21 : decode cL_paint 21 = .ok (.iconst 1, 1) := by decide +kernel
theorem dL_paint_22 : decode cL_paint 22 = .ok (.ireturn, 1) := by decide +kernel
theorem dL_paint_23 : decode cL_paint 23 = .ok (.astore 7, 2) := by decide +kernel
theorem dL_paint_25 : decode cL_paint 25 = .ok (.iconst 2, 1) := by decide +kernel
theorem dL_paint_26 : decode cL_paint 26 = .ok (.ireturn, 1) := by decide +kernel
theorem dL_paint_27 : decode cL_paint 27 = .ok (.iconst 0, 1) := by decide +kernel
theorem dL_paint_28 : decode cL_paint 28 = .ok (.ireturn, 1) := by decide +kernel
theorem dL_stroke_0 : decode cL_stroke 0 = .ok (.aload 6, 2) := by decide +kernel
theorem dL_stroke_2 : decode cL_stroke 2 = .ok (.iconst 0, 1) := by decide +kernel
theorem dL_stroke_3 : decode cL_stroke 3 = .ok (.aload_n 0, 1) := by decide +kernel
theorem dL_stroke_4 : decode cL_stroke 4 = .ok (.iload_n 1, 1) := by decide +kernel
theorem dL_stroke_5 : decode cL_stroke 5 = .ok (.iload_n 2, 1) := by decide +kernel
theorem dL_stroke_6 : decode cL_stroke 6 = .ok (.iload_n 3, 1) := by decide +kernel
theorem dL_stroke_7 : decode cL_stroke 7 = .ok (.iload 4, 2) := by decide +kernel
theorem dL_stroke_9 : decode cL_stroke 9 = .ok (.iload 5, 2) := by decide +kernel
theorem dL_stroke_11 : decode cL_stroke 11 = .ok (.invokevirtual 56, 3) := by decide +kernel
theorem dL_stroke_14 : decode cL_stroke 14 = .ok (.i2l, 1) := by decide +kernel
theorem dL_stroke_15 : decode cL_stroke 15 = .ok (.lastore, 1) := by decide +kernel
theorem dL_stroke_16 : decode cL_stroke 16 = .ok (.goto 11, 3) := by decide +kernel
theorem dL_stroke_19 : decode cL_stroke 19 = .ok (.astore 7, 2) := by decide +kernel
theorem dL_stroke_21 : decode cL_stroke 21 = .ok (.iconst 1, 1) := by decide +kernel
theorem dL_stroke_22 : decode cL_stroke 22 = .ok (.ireturn, 1) := by decide +kernel
theorem dL_stroke_23 : decode cL_stroke 23 = .ok (.astore 7, 2) := by decide +kernel
theorem dL_stroke_25 : decode cL_stroke 25 = .ok (.iconst 2, 1) := by decide +kernel
theorem dL_stroke_26 : decode cL_stroke 26 = .ok (.ireturn, 1) := by decide +kernel
theorem dL_stroke_27 : decode cL_stroke 27 = .ok (.iconst 0, 1) := by decide +kernel
theorem dL_stroke_28 : decode cL_stroke 28 = .ok (.ireturn, 1) := by decide +kernel
theorem dL_stamp_0 : decode cL_stamp 0 = .ok (.aload 5, 2) := by decide +kernel
theorem dL_stamp_2 : decode cL_stamp 2 = .ok (.iconst 0, 1) := by decide +kernel
theorem dL_stamp_3 : decode cL_stamp 3 = .ok (.aload_n 0, 1) := by decide +kernel
theorem dL_stamp_4 : decode cL_stamp 4 = .ok (.iload_n 1, 1) := by decide +kernel
theorem dL_stamp_5 : decode cL_stamp 5 = .ok (.iload_n 2, 1) := by decide +kernel
theorem dL_stamp_6 : decode cL_stamp 6 = .ok (.iload_n 3, 1) := by decide +kernel
theorem dL_stamp_7 : decode cL_stamp 7 = .ok (.iload 4, 2) := by decide +kernel
theorem dL_stamp_9 : decode cL_stamp 9 = .ok (.invokevirtual 60, 3) := by decide +kernel
theorem dL_stamp_12 : decode cL_stamp 12 = .ok (.i2l, 1) := by decide +kernel
theorem dL_stamp_13 : decode cL_stamp 13 = .ok (.lastore, 1) := by decide +kernel
theorem dL_stamp_14 : decode cL_stamp 14 = .ok (.goto 7, 3) := by decide +kernel
theorem dL_stamp_17 : decode cL_stamp 17 = .ok (.astore 6, 2) := by decide +kernel
theorem dL_stamp_19 : decode cL_stamp 19 = .ok (.iconst 1, 1) := by decide +kernel
theorem dL_stamp_20 : decode cL_stamp 20 = .ok (.ireturn, 1) := by decide +kernel
theorem dL_stamp_21 : decode cL_stamp 21 = .ok (.iconst 0, 1) := by decide +kernel
theorem dL_stamp_22 : decode cL_stamp 22 = .ok (.ireturn, 1) := by decide +kernel
theorem dL_spar_0 : decode cL_spar 0 = .ok (.aload 5, 2) := by decide +kernel
theorem dL_spar_2 : decode cL_spar 2 = .ok (.iconst 0, 1) := by decide +kernel
theorem dL_spar_3 : decode cL_spar 3 = .ok (.aload_n 0, 1) := by decide +kernel
theorem dL_spar_4 : decode cL_spar 4 = .ok (.iload_n 1, 1) := by decide +kernel
theorem dL_spar_5 : decode cL_spar 5 = .ok (.iload_n 2, 1) := by decide +kernel
theorem dL_spar_6 : decode cL_spar 6 = .ok (.iload_n 3, 1) := by decide +kernel
theorem dL_spar_7 : decode cL_spar 7 = .ok (.iload 4, 2) := by decide +kernel
theorem dL_spar_9 : decode cL_spar 9 = .ok (.invokevirtual 64, 3) := by decide +kernel
theorem dL_spar_12 : decode cL_spar 12 = .ok (.i2l, 1) := by decide +kernel
theorem dL_spar_13 : decode cL_spar 13 = .ok (.lastore, 1) := by decide +kernel
theorem dL_spar_14 : decode cL_spar 14 = .ok (.goto 11, 3) := by decide +kernel
theorem dL_spar_17 : decode cL_spar 17 = .ok (.astore 6, 2) := by decide +kernel
theorem dL_spar_19 : decode cL_spar 19 = .ok (.iconst 1, 1) := by decide +kernel
theorem dL_spar_20 : decode cL_spar 20 = .ok (.ireturn, 1) := by decide +kernel
theorem dL_spar_21 : decode cL_spar 21 = .ok (.astore 6, 2) := by decide +kernel
theorem dL_spar_23 : decode cL_spar 23 = .ok (.iconst 2, 1) := by decide +kernel
theorem dL_spar_24 : decode cL_spar 24 = .ok (.ireturn, 1) := by decide +kernel
theorem dL_spar_25 : decode cL_spar 25 = .ok (.iconst 0, 1) := by decide +kernel
theorem dL_spar_26 : decode cL_spar 26 = .ok (.ireturn, 1) := by decide +kernel
theorem dL_strip_0 : decode cL_strip 0 = .ok (.aload_n 3, 1) := by decide +kernel
theorem dL_strip_1 : decode cL_strip 1 = .ok (.iconst 0, 1) := by decide +kernel
theorem dL_strip_2 : decode cL_strip 2 = .ok (.aload_n 0, 1) := by decide +kernel
theorem dL_strip_3 : decode cL_strip 3 = .ok (.iload_n 1, 1) := by decide +kernel
theorem dL_strip_4 : decode cL_strip 4 = .ok (.iload_n 2, 1) := by decide +kernel
theorem dL_strip_5 : decode cL_strip 5 = .ok (.invokevirtual 68, 3) := by decide +kernel
theorem dL_strip_8 : decode cL_strip 8 = .ok (.i2l, 1) := by decide +kernel
theorem dL_strip_9 : decode cL_strip 9 = .ok (.lastore, 1) := by decide +kernel
theorem dL_strip_10 : decode cL_strip 10 = .ok (.goto 11, 3) := by decide +kernel
theorem dL_strip_13 : decode cL_strip 13 = .ok (.astore 4, 2) := by decide +kernel
theorem dL_strip_15 : decode cL_strip 15 = .ok (.iconst 1, 1) := by decide +kernel
theorem dL_strip_16 : decode cL_strip 16 = .ok (.ireturn, 1) := by decide +kernel
theorem dL_strip_17 : decode cL_strip 17 = .ok (.astore 4, 2) := by decide +kernel
theorem dL_strip_19 : decode cL_strip 19 = .ok (.iconst 2, 1) := by decide +kernel
theorem dL_strip_20 : decode cL_strip 20 = .ok (.ireturn, 1) := by decide +kernel
theorem dL_strip_21 : decode cL_strip 21 = .ok (.iconst 0, 1) := by decide +kernel
theorem dL_strip_22 : decode cL_strip 22 = .ok (.ireturn, 1) := by decide +kernel
theorem dL_wash_0 : decode cL_wash 0 = .ok (.aload_n 3, 1) := by decide +kernel
theorem dL_wash_1 : decode cL_wash 1 = .ok (.iconst 0, 1) := by decide +kernel
theorem dL_wash_2 : decode cL_wash 2 = .ok (.aload_n 0, 1) := by decide +kernel
theorem dL_wash_3 : decode cL_wash 3 = .ok (.iload_n 1, 1) := by decide +kernel
theorem dL_wash_4 : decode cL_wash 4 = .ok (.iload_n 2, 1) := by decide +kernel
theorem dL_wash_5 : decode cL_wash 5 = .ok (.invokevirtual 73, 3) := by decide +kernel
theorem dL_wash_8 : decode cL_wash 8 = .ok (.i2l, 1) := by decide +kernel
theorem dL_wash_9 : decode cL_wash 9 = .ok (.lastore, 1) := by decide +kernel
theorem dL_wash_10 : decode cL_wash 10 = .ok (.goto 11, 3) := by decide +kernel
theorem dL_wash_13 : decode cL_wash 13 = .ok (.astore 4, 2) := by decide +kernel
theorem dL_wash_15 : decode cL_wash 15 = .ok (.iconst 1, 1) := by decide +kernel
theorem dL_wash_16 : decode cL_wash 16 = .ok (.ireturn, 1) := by decide +kernel
theorem dL_wash_17 : decode cL_wash 17 = .ok (.astore 4, 2) := by decide +kernel
theorem dL_wash_19 : decode cL_wash 19 = .ok (.iconst 2, 1) := by decide +kernel
theorem dL_wash_20 : decode cL_wash 20 = .ok (.ireturn, 1) := by decide +kernel
theorem dL_wash_21 : decode cL_wash 21 = .ok (.iconst 0, 1) := by decide +kernel
theorem dL_wash_22 : decode cL_wash 22 = .ok (.ireturn, 1) := by decide +kernel
theorem dL_law_0 : decode cL_law 0 = .ok (.new 8, 3) := by decide +kernel
theorem dL_law_3 : decode cL_law 3 = .ok (.dup, 1) := by decide +kernel
theorem dL_law_4 : decode cL_law 4 = .ok (.invokespecial 76, 3) := by decide +kernel
theorem dL_law_7 : decode cL_law 7 = .ok (.astore_n 1, 1) := by decide +kernel
theorem dL_law_8 : decode cL_law 8 = .ok (.new 77, 3) := by decide +kernel
theorem dL_law_11 : decode cL_law 11 = .ok (.dup, 1) := by decide +kernel
theorem dL_law_12 : decode cL_law 12 = .ok (.invokespecial 79, 3) := by decide +kernel
theorem dL_law_15 : decode cL_law 15 = .ok (.astore_n 2, 1) := by decide +kernel
theorem dL_law_16 : decode cL_law 16 = .ok (.iconst 1, 1) := by decide +kernel
theorem dL_law_17 : decode cL_law 17 = .ok (.newarray .long, 2) := by decide +kernel
theorem dL_law_19 : decode cL_law 19 = .ok (.astore_n 3, 1) := by decide +kernel
theorem dL_law_20 : decode cL_law 20 = .ok (.iconst 0, 1) := by decide +kernel
theorem dL_law_21 : decode cL_law 21 = .ok (.istore 4, 2) := by decide +kernel
theorem dL_law_23 : decode cL_law 23 = .ok (.iload 4, 2) := by decide +kernel
theorem dL_law_25 : decode cL_law 25 = .ok (.aload_n 0, 1) := by decide +kernel
theorem dL_law_26 : decode cL_law 26 = .ok (.arraylength, 1) := by decide +kernel
theorem dL_law_27 : decode cL_law 27 = .ok (.bipush 6, 2) := by decide +kernel
theorem dL_law_29 : decode cL_law 29 = .ok (.isub, 1) := by decide +kernel
theorem dL_law_30 : decode cL_law 30 = .ok (.if_icmp .gt 1646, 3) := by decide +kernel
theorem dL_law_33 : decode cL_law 33 = .ok (.aload_n 0, 1) := by decide +kernel
theorem dL_law_34 : decode cL_law 34 = .ok (.iload 4, 2) := by decide +kernel
theorem dL_law_36 : decode cL_law 36 = .ok (.iaload, 1) := by decide +kernel
theorem dL_law_37 : decode cL_law 37 = .ok (.bipush 31, 2) := by decide +kernel
theorem dL_law_39 : decode cL_law 39 = .ok (.iand, 1) := by decide +kernel
theorem dL_law_40 : decode cL_law 40 = .ok (.tableswitch 1630 0 24 #[116, 189, 245, 258, 314, 394, 462, 518, 531, 599, 655, 723, 736, 804, 860, 928, 971, 1027, 1147, 1251, 1359, 1467, 1535, 1603, 1616], 116) := by decide +kernel
theorem dL_law_156 : decode cL_law 156 = .ok (.aload_n 1, 1) := by decide +kernel
theorem dL_law_157 : decode cL_law 157 = .ok (.aload_n 0, 1) := by decide +kernel
theorem dL_law_158 : decode cL_law 158 = .ok (.iload 4, 2) := by decide +kernel
theorem dL_law_160 : decode cL_law 160 = .ok (.iconst 1, 1) := by decide +kernel
theorem dL_law_161 : decode cL_law 161 = .ok (.iadd, 1) := by decide +kernel
theorem dL_law_162 : decode cL_law 162 = .ok (.iaload, 1) := by decide +kernel
theorem dL_law_163 : decode cL_law 163 = .ok (.aload_n 0, 1) := by decide +kernel
theorem dL_law_164 : decode cL_law 164 = .ok (.iload 4, 2) := by decide +kernel
theorem dL_law_166 : decode cL_law 166 = .ok (.iconst 2, 1) := by decide +kernel
theorem dL_law_167 : decode cL_law 167 = .ok (.iadd, 1) := by decide +kernel
theorem dL_law_168 : decode cL_law 168 = .ok (.iaload, 1) := by decide +kernel
theorem dL_law_169 : decode cL_law 169 = .ok (.aload_n 0, 1) := by decide +kernel
theorem dL_law_170 : decode cL_law 170 = .ok (.iload 4, 2) := by decide +kernel
theorem dL_law_172 : decode cL_law 172 = .ok (.iconst 3, 1) := by decide +kernel
theorem dL_law_173 : decode cL_law 173 = .ok (.iadd, 1) := by decide +kernel
theorem dL_law_174 : decode cL_law 174 = .ok (.iaload, 1) := by decide +kernel
theorem dL_law_175 : decode cL_law 175 = .ok (.aload_n 0, 1) := by decide +kernel
theorem dL_law_176 : decode cL_law 176 = .ok (.iload 4, 2) := by decide +kernel
theorem dL_law_178 : decode cL_law 178 = .ok (.iconst 4, 1) := by decide +kernel
theorem dL_law_179 : decode cL_law 179 = .ok (.iadd, 1) := by decide +kernel
theorem dL_law_180 : decode cL_law 180 = .ok (.iaload, 1) := by decide +kernel
theorem dL_law_181 : decode cL_law 181 = .ok (.aload_n 0, 1) := by decide +kernel
theorem dL_law_182 : decode cL_law 182 = .ok (.iload 4, 2) := by decide +kernel
theorem dL_law_184 : decode cL_law 184 = .ok (.iconst 5, 1) := by decide +kernel
theorem dL_law_185 : decode cL_law 185 = .ok (.iadd, 1) := by decide +kernel
theorem dL_law_186 : decode cL_law 186 = .ok (.iaload, 1) := by decide +kernel
theorem dL_law_187 : decode cL_law 187 = .ok (.invokevirtual 80, 3) := by decide +kernel
theorem dL_law_190 : decode cL_law 190 = .ok (.aload_n 2, 1) := by decide +kernel
theorem dL_law_191 : decode cL_law 191 = .ok (.aload_n 0, 1) := by decide +kernel
theorem dL_law_192 : decode cL_law 192 = .ok (.iload 4, 2) := by decide +kernel
theorem dL_law_194 : decode cL_law 194 = .ok (.iconst 1, 1) := by decide +kernel
theorem dL_law_195 : decode cL_law 195 = .ok (.iadd, 1) := by decide +kernel
theorem dL_law_196 : decode cL_law 196 = .ok (.iaload, 1) := by decide +kernel
theorem dL_law_197 : decode cL_law 197 = .ok (.aload_n 0, 1) := by decide +kernel
theorem dL_law_198 : decode cL_law 198 = .ok (.iload 4, 2) := by decide +kernel
theorem dL_law_200 : decode cL_law 200 = .ok (.iconst 2, 1) := by decide +kernel
theorem dL_law_201 : decode cL_law 201 = .ok (.iadd, 1) := by decide +kernel
theorem dL_law_202 : decode cL_law 202 = .ok (.iaload, 1) := by decide +kernel
theorem dL_law_203 : decode cL_law 203 = .ok (.aload_n 0, 1) := by decide +kernel
theorem dL_law_204 : decode cL_law 204 = .ok (.iload 4, 2) := by decide +kernel
theorem dL_law_206 : decode cL_law 206 = .ok (.iconst 3, 1) := by decide +kernel
theorem dL_law_207 : decode cL_law 207 = .ok (.iadd, 1) := by decide +kernel
theorem dL_law_208 : decode cL_law 208 = .ok (.iaload, 1) := by decide +kernel
theorem dL_law_209 : decode cL_law 209 = .ok (.aload_n 0, 1) := by decide +kernel
theorem dL_law_210 : decode cL_law 210 = .ok (.iload 4, 2) := by decide +kernel
theorem dL_law_212 : decode cL_law 212 = .ok (.iconst 4, 1) := by decide +kernel
theorem dL_law_213 : decode cL_law 213 = .ok (.iadd, 1) := by decide +kernel
theorem dL_law_214 : decode cL_law 214 = .ok (.iaload, 1) := by decide +kernel
theorem dL_law_215 : decode cL_law 215 = .ok (.aload_n 0, 1) := by decide +kernel
theorem dL_law_216 : decode cL_law 216 = .ok (.iload 4, 2) := by decide +kernel
theorem dL_law_218 : decode cL_law 218 = .ok (.iconst 5, 1) := by decide +kernel
theorem dL_law_219 : decode cL_law 219 = .ok (.iadd, 1) := by decide +kernel
theorem dL_law_220 : decode cL_law 220 = .ok (.iaload, 1) := by decide +kernel
theorem dL_law_221 : decode cL_law 221 = .ok (.invokevirtual 83, 3) := by decide +kernel
theorem dL_law_224 : decode cL_law 224 = .ok (.if_icmp .eq 1446, 3) := by decide +kernel
theorem dL_law_227 : decode cL_law 227 = .ok (.iconst 0, 1) := by decide +kernel
theorem dL_law_228 : decode cL_law 228 = .ok (.ireturn, 1) := by decide +kernel
theorem dL_law_229 : decode cL_law 229 = .ok (.aload_n 1, 1) := by decide +kernel
theorem dL_law_230 : decode cL_law 230 = .ok (.aload_n 0, 1) := by decide +kernel
theorem dL_law_231 : decode cL_law 231 = .ok (.iload 4, 2) := by decide +kernel
theorem dL_law_233 : decode cL_law 233 = .ok (.iconst 1, 1) := by decide +kernel
theorem dL_law_234 : decode cL_law 234 = .ok (.iadd, 1) := by decide +kernel
theorem dL_law_235 : decode cL_law 235 = .ok (.iaload, 1) := by decide +kernel
theorem dL_law_236 : decode cL_law 236 = .ok (.aload_n 3, 1) := by decide +kernel
theorem dL_law_237 : decode cL_law 237 = .ok (.invokestatic 84, 3) := by decide +kernel
theorem dL_law_240 : decode cL_law 240 = .ok (.istore 5, 2) := by decide +kernel
theorem dL_law_242 : decode cL_law 242 = .ok (.aload_n 2, 1) := by decide +kernel
theorem dL_law_243 : decode cL_law 243 = .ok (.aload_n 0, 1) := by decide +kernel
theorem dL_law_244 : decode cL_law 244 = .ok (.iload 4, 2) := by decide +kernel
theorem dL_law_246 : decode cL_law 246 = .ok (.iconst 1, 1) := by decide +kernel
theorem dL_law_247 : decode cL_law 247 = .ok (.iadd, 1) := by decide +kernel
theorem dL_law_248 : decode cL_law 248 = .ok (.iaload, 1) := by decide +kernel
theorem dL_law_249 : decode cL_law 249 = .ok (.invokevirtual 89, 3) := by decide +kernel
theorem dL_law_252 : decode cL_law 252 = .ok (.istore 6, 2) := by decide +kernel
theorem dL_law_254 : decode cL_law 254 = .ok (.aload_n 2, 1) := by decide +kernel
theorem dL_law_255 : decode cL_law 255 = .ok (.invokevirtual 90, 3) := by decide +kernel
theorem dL_law_258 : decode cL_law 258 = .ok (.iload 5, 2) := by decide +kernel
theorem dL_law_260 : decode cL_law 260 = .ok (.if_icmp .eq 5, 3) := by decide +kernel
theorem dL_law_263 : decode cL_law 263 = .ok (.iconst 0, 1) := by decide +kernel
theorem dL_law_264 : decode cL_law 264 = .ok (.ireturn, 1) := by decide +kernel
theorem dL_law_265 : decode cL_law 265 = .ok (.iload 5, 2) := by decide +kernel
theorem dL_law_267 : decode cL_law 267 = .ok (.ifCond .ne 15, 3) := by decide +kernel
theorem dL_law_270 : decode cL_law 270 = .ok (.aload_n 3, 1) := by decide +kernel
theorem dL_law_271 : decode cL_law 271 = .ok (.iconst 0, 1) := by decide +kernel
theorem dL_law_272 : decode cL_law 272 = .ok (.laload, 1) := by decide +kernel
theorem dL_law_273 : decode cL_law 273 = .ok (.iload 6, 2) := by decide +kernel
theorem dL_law_275 : decode cL_law 275 = .ok (.i2l, 1) := by decide +kernel
theorem dL_law_276 : decode cL_law 276 = .ok (.lcmp, 1) := by decide +kernel
theorem dL_law_277 : decode cL_law 277 = .ok (.ifCond .eq 5, 3) := by decide +kernel
theorem dL_law_280 : decode cL_law 280 = .ok (.iconst 0, 1) := by decide +kernel
theorem dL_law_281 : decode cL_law 281 = .ok (.ireturn, 1) := by decide +kernel
theorem dL_law_282 : decode cL_law 282 = .ok (.goto 1388, 3) := by decide +kernel
theorem dL_law_285 : decode cL_law 285 = .ok (.aload_n 1, 1) := by decide +kernel
theorem dL_law_286 : decode cL_law 286 = .ok (.invokevirtual 94, 3) := by decide +kernel
theorem dL_law_289 : decode cL_law 289 = .ok (.aload_n 2, 1) := by decide +kernel
theorem dL_law_290 : decode cL_law 290 = .ok (.invokevirtual 97, 3) := by decide +kernel
theorem dL_law_293 : decode cL_law 293 = .ok (.if_icmp .eq 1377, 3) := by decide +kernel
theorem dL_law_296 : decode cL_law 296 = .ok (.iconst 0, 1) := by decide +kernel
theorem dL_law_297 : decode cL_law 297 = .ok (.ireturn, 1) := by decide +kernel
theorem dL_law_298 : decode cL_law 298 = .ok (.aload_n 1, 1) := by decide +kernel
theorem dL_law_299 : decode cL_law 299 = .ok (.aload_n 0, 1) := by decide +kernel
theorem dL_law_300 : decode cL_law 300 = .ok (.iload 4, 2) := by decide +kernel
theorem dL_law_302 : decode cL_law 302 = .ok (.iconst 1, 1) := by decide +kernel
theorem dL_law_303 : decode cL_law 303 = .ok (.iadd, 1) := by decide +kernel
theorem dL_law_304 : decode cL_law 304 = .ok (.iaload, 1) := by decide +kernel
theorem dL_law_305 : decode cL_law 305 = .ok (.aload_n 3, 1) := by decide +kernel
theorem dL_law_306 : decode cL_law 306 = .ok (.invokestatic 98, 3) := by decide +kernel
theorem dL_law_309 : decode cL_law 309 = .ok (.istore 5, 2) := by decide +kernel
theorem dL_law_311 : decode cL_law 311 = .ok (.aload_n 2, 1) := by decide +kernel
theorem dL_law_312 : decode cL_law 312 = .ok (.aload_n 0, 1) := by decide +kernel
theorem dL_law_313 : decode cL_law 313 = .ok (.iload 4, 2) := by decide +kernel
theorem dL_law_315 : decode cL_law 315 = .ok (.iconst 1, 1) := by decide +kernel
theorem dL_law_316 : decode cL_law 316 = .ok (.iadd, 1) := by decide +kernel
theorem dL_law_317 : decode cL_law 317 = .ok (.iaload, 1) := by decide +kernel
theorem dL_law_318 : decode cL_law 318 = .ok (.invokevirtual 100, 3) := by decide +kernel
theorem dL_law_321 : decode cL_law 321 = .ok (.istore 6, 2) := by decide +kernel
theorem dL_law_323 : decode cL_law 323 = .ok (.aload_n 2, 1) := by decide +kernel
theorem dL_law_324 : decode cL_law 324 = .ok (.invokevirtual 90, 3) := by decide +kernel
theorem dL_law_327 : decode cL_law 327 = .ok (.iload 5, 2) := by decide +kernel
theorem dL_law_329 : decode cL_law 329 = .ok (.if_icmp .eq 5, 3) := by decide +kernel
theorem dL_law_332 : decode cL_law 332 = .ok (.iconst 0, 1) := by decide +kernel
theorem dL_law_333 : decode cL_law 333 = .ok (.ireturn, 1) := by decide +kernel
theorem dL_law_334 : decode cL_law 334 = .ok (.iload 5, 2) := by decide +kernel
theorem dL_law_336 : decode cL_law 336 = .ok (.ifCond .ne 15, 3) := by decide +kernel
theorem dL_law_339 : decode cL_law 339 = .ok (.aload_n 3, 1) := by decide +kernel
theorem dL_law_340 : decode cL_law 340 = .ok (.iconst 0, 1) := by decide +kernel
theorem dL_law_341 : decode cL_law 341 = .ok (.laload, 1) := by decide +kernel
theorem dL_law_342 : decode cL_law 342 = .ok (.iload 6, 2) := by decide +kernel
theorem dL_law_344 : decode cL_law 344 = .ok (.i2l, 1) := by decide +kernel
theorem dL_law_345 : decode cL_law 345 = .ok (.lcmp, 1) := by decide +kernel
theorem dL_law_346 : decode cL_law 346 = .ok (.ifCond .eq 5, 3) := by decide +kernel
theorem dL_law_349 : decode cL_law 349 = .ok (.iconst 0, 1) := by decide +kernel
theorem dL_law_350 : decode cL_law 350 = .ok (.ireturn, 1) := by decide +kernel
theorem dL_law_351 : decode cL_law 351 = .ok (.goto 1319, 3) := by decide +kernel
theorem dL_law_354 : decode cL_law 354 = .ok (.aload_n 1, 1) := by decide +kernel
theorem dL_law_355 : decode cL_law 355 = .ok (.aload_n 0, 1) := by decide +kernel
theorem dL_law_356 : decode cL_law 356 = .ok (.iload 4, 2) := by decide +kernel
theorem dL_law_358 : decode cL_law 358 = .ok (.iconst 1, 1) := by decide +kernel
theorem dL_law_359 : decode cL_law 359 = .ok (.iadd, 1) := by decide +kernel
theorem dL_law_360 : decode cL_law 360 = .ok (.iaload, 1) := by decide +kernel
theorem dL_law_361 : decode cL_law 361 = .ok (.aload_n 0, 1) := by decide +kernel
theorem dL_law_362 : decode cL_law 362 = .ok (.iload 4, 2) := by decide +kernel
theorem dL_law_364 : decode cL_law 364 = .ok (.iconst 2, 1) := by decide +kernel
theorem dL_law_365 : decode cL_law 365 = .ok (.iadd, 1) := by decide +kernel
theorem dL_law_366 : decode cL_law 366 = .ok (.iaload, 1) := by decide +kernel
theorem dL_law_367 : decode cL_law 367 = .ok (.aload_n 0, 1) := by decide +kernel
theorem dL_law_368 : decode cL_law 368 = .ok (.iload 4, 2) := by decide +kernel
theorem dL_law_370 : decode cL_law 370 = .ok (.iconst 3, 1) := by decide +kernel
theorem dL_law_371 : decode cL_law 371 = .ok (.iadd, 1) := by decide +kernel
theorem dL_law_372 : decode cL_law 372 = .ok (.iaload, 1) := by decide +kernel
theorem dL_law_373 : decode cL_law 373 = .ok (.aload_n 3, 1) := by decide +kernel
theorem dL_law_374 : decode cL_law 374 = .ok (.invokestatic 101, 3) := by decide +kernel
theorem dL_law_377 : decode cL_law 377 = .ok (.istore 5, 2) := by decide +kernel
theorem dL_law_379 : decode cL_law 379 = .ok (.aload_n 2, 1) := by decide +kernel
theorem dL_law_380 : decode cL_law 380 = .ok (.aload_n 0, 1) := by decide +kernel
theorem dL_law_381 : decode cL_law 381 = .ok (.iload 4, 2) := by decide +kernel
theorem dL_law_383 : decode cL_law 383 = .ok (.iconst 1, 1) := by decide +kernel
theorem dL_law_384 : decode cL_law 384 = .ok (.iadd, 1) := by decide +kernel
theorem dL_law_385 : decode cL_law 385 = .ok (.iaload, 1) := by decide +kernel
theorem dL_law_386 : decode cL_law 386 = .ok (.aload_n 0, 1) := by decide +kernel
theorem dL_law_387 : decode cL_law 387 = .ok (.iload 4, 2) := by decide +kernel
theorem dL_law_389 : decode cL_law 389 = .ok (.iconst 2, 1) := by decide +kernel
theorem dL_law_390 : decode cL_law 390 = .ok (.iadd, 1) := by decide +kernel
theorem dL_law_391 : decode cL_law 391 = .ok (.iaload, 1) := by decide +kernel
theorem dL_law_392 : decode cL_law 392 = .ok (.aload_n 0, 1) := by decide +kernel
theorem dL_law_393 : decode cL_law 393 = .ok (.iload 4, 2) := by decide +kernel
theorem dL_law_395 : decode cL_law 395 = .ok (.iconst 3, 1) := by decide +kernel
theorem dL_law_396 : decode cL_law 396 = .ok (.iadd, 1) := by decide +kernel
theorem dL_law_397 : decode cL_law 397 = .ok (.iaload, 1) := by decide +kernel
theorem dL_law_398 : decode cL_law 398 = .ok (.invokevirtual 104, 3) := by decide +kernel
theorem dL_law_401 : decode cL_law 401 = .ok (.istore 6, 2) := by decide +kernel
theorem dL_law_403 : decode cL_law 403 = .ok (.aload_n 2, 1) := by decide +kernel
theorem dL_law_404 : decode cL_law 404 = .ok (.invokevirtual 90, 3) := by decide +kernel
theorem dL_law_407 : decode cL_law 407 = .ok (.iload 5, 2) := by decide +kernel
theorem dL_law_409 : decode cL_law 409 = .ok (.if_icmp .eq 5, 3) := by decide +kernel
theorem dL_law_412 : decode cL_law 412 = .ok (.iconst 0, 1) := by decide +kernel
theorem dL_law_413 : decode cL_law 413 = .ok (.ireturn, 1) := by decide +kernel
theorem dL_law_414 : decode cL_law 414 = .ok (.iload 5, 2) := by decide +kernel
theorem dL_law_416 : decode cL_law 416 = .ok (.ifCond .ne 15, 3) := by decide +kernel
theorem dL_law_419 : decode cL_law 419 = .ok (.aload_n 3, 1) := by decide +kernel
theorem dL_law_420 : decode cL_law 420 = .ok (.iconst 0, 1) := by decide +kernel
theorem dL_law_421 : decode cL_law 421 = .ok (.laload, 1) := by decide +kernel
theorem dL_law_422 : decode cL_law 422 = .ok (.iload 6, 2) := by decide +kernel
theorem dL_law_424 : decode cL_law 424 = .ok (.i2l, 1) := by decide +kernel
theorem dL_law_425 : decode cL_law 425 = .ok (.lcmp, 1) := by decide +kernel
theorem dL_law_426 : decode cL_law 426 = .ok (.ifCond .eq 5, 3) := by decide +kernel
theorem dL_law_429 : decode cL_law 429 = .ok (.iconst 0, 1) := by decide +kernel
theorem dL_law_430 : decode cL_law 430 = .ok (.ireturn, 1) := by decide +kernel
theorem dL_law_431 : decode cL_law 431 = .ok (.goto 1239, 3) := by decide +kernel
theorem dL_law_434 : decode cL_law 434 = .ok (.aload_n 1, 1) := by decide +kernel
theorem dL_law_435 : decode cL_law 435 = .ok (.aload_n 0, 1) := by decide +kernel
theorem dL_law_436 : decode cL_law 436 = .ok (.iload 4, 2) := by decide +kernel
theorem dL_law_438 : decode cL_law 438 = .ok (.iconst 1, 1) := by decide +kernel
theorem dL_law_439 : decode cL_law 439 = .ok (.iadd, 1) := by decide +kernel
theorem dL_law_440 : decode cL_law 440 = .ok (.iaload, 1) := by decide +kernel
theorem dL_law_441 : decode cL_law 441 = .ok (.aload_n 0, 1) := by decide +kernel
theorem dL_law_442 : decode cL_law 442 = .ok (.iload 4, 2) := by decide +kernel
theorem dL_law_444 : decode cL_law 444 = .ok (.iconst 2, 1) := by decide +kernel
theorem dL_law_445 : decode cL_law 445 = .ok (.iadd, 1) := by decide +kernel
theorem dL_law_446 : decode cL_law 446 = .ok (.iaload, 1) := by decide +kernel
theorem dL_law_447 : decode cL_law 447 = .ok (.aload_n 3, 1) := by decide +kernel
theorem dL_law_448 : decode cL_law 448 = .ok (.invokestatic 105, 3) := by decide +kernel
theorem dL_law_451 : decode cL_law 451 = .ok (.istore 5, 2) := by decide +kernel
theorem dL_law_453 : decode cL_law 453 = .ok (.aload_n 2, 1) := by decide +kernel
theorem dL_law_454 : decode cL_law 454 = .ok (.aload_n 0, 1) := by decide +kernel
theorem dL_law_455 : decode cL_law 455 = .ok (.iload 4, 2) := by decide +kernel
theorem dL_law_457 : decode cL_law 457 = .ok (.iconst 1, 1) := by decide +kernel
theorem dL_law_458 : decode cL_law 458 = .ok (.iadd, 1) := by decide +kernel
theorem dL_law_459 : decode cL_law 459 = .ok (.iaload, 1) := by decide +kernel
theorem dL_law_460 : decode cL_law 460 = .ok (.aload_n 0, 1) := by decide +kernel
theorem dL_law_461 : decode cL_law 461 = .ok (.iload 4, 2) := by decide +kernel
theorem dL_law_463 : decode cL_law 463 = .ok (.iconst 2, 1) := by decide +kernel
theorem dL_law_464 : decode cL_law 464 = .ok (.iadd, 1) := by decide +kernel
theorem dL_law_465 : decode cL_law 465 = .ok (.iaload, 1) := by decide +kernel
theorem dL_law_466 : decode cL_law 466 = .ok (.invokevirtual 108, 3) := by decide +kernel
theorem dL_law_469 : decode cL_law 469 = .ok (.istore 6, 2) := by decide +kernel
theorem dL_law_471 : decode cL_law 471 = .ok (.aload_n 2, 1) := by decide +kernel
theorem dL_law_472 : decode cL_law 472 = .ok (.invokevirtual 90, 3) := by decide +kernel
theorem dL_law_475 : decode cL_law 475 = .ok (.iload 5, 2) := by decide +kernel
theorem dL_law_477 : decode cL_law 477 = .ok (.if_icmp .eq 5, 3) := by decide +kernel
theorem dL_law_480 : decode cL_law 480 = .ok (.iconst 0, 1) := by decide +kernel
theorem dL_law_481 : decode cL_law 481 = .ok (.ireturn, 1) := by decide +kernel
theorem dL_law_482 : decode cL_law 482 = .ok (.iload 5, 2) := by decide +kernel
theorem dL_law_484 : decode cL_law 484 = .ok (.ifCond .ne 15, 3) := by decide +kernel
theorem dL_law_487 : decode cL_law 487 = .ok (.aload_n 3, 1) := by decide +kernel
theorem dL_law_488 : decode cL_law 488 = .ok (.iconst 0, 1) := by decide +kernel
theorem dL_law_489 : decode cL_law 489 = .ok (.laload, 1) := by decide +kernel
theorem dL_law_490 : decode cL_law 490 = .ok (.iload 6, 2) := by decide +kernel
theorem dL_law_492 : decode cL_law 492 = .ok (.i2l, 1) := by decide +kernel
theorem dL_law_493 : decode cL_law 493 = .ok (.lcmp, 1) := by decide +kernel
theorem dL_law_494 : decode cL_law 494 = .ok (.ifCond .eq 5, 3) := by decide +kernel
theorem dL_law_497 : decode cL_law 497 = .ok (.iconst 0, 1) := by decide +kernel
theorem dL_law_498 : decode cL_law 498 = .ok (.ireturn, 1) := by decide +kernel
theorem dL_law_499 : decode cL_law 499 = .ok (.goto 1171, 3) := by decide +kernel
theorem dL_law_502 : decode cL_law 502 = .ok (.aload_n 1, 1) := by decide +kernel
theorem dL_law_503 : decode cL_law 503 = .ok (.aload_n 0, 1) := by decide +kernel
theorem dL_law_504 : decode cL_law 504 = .ok (.iload 4, 2) := by decide +kernel
theorem dL_law_506 : decode cL_law 506 = .ok (.iconst 1, 1) := by decide +kernel
theorem dL_law_507 : decode cL_law 507 = .ok (.iadd, 1) := by decide +kernel
theorem dL_law_508 : decode cL_law 508 = .ok (.iaload, 1) := by decide +kernel
theorem dL_law_509 : decode cL_law 509 = .ok (.aload_n 3, 1) := by decide +kernel
theorem dL_law_510 : decode cL_law 510 = .ok (.invokestatic 109, 3) := by decide +kernel
theorem dL_law_513 : decode cL_law 513 = .ok (.istore 5, 2) := by decide +kernel
theorem dL_law_515 : decode cL_law 515 = .ok (.aload_n 2, 1) := by decide +kernel
theorem dL_law_516 : decode cL_law 516 = .ok (.aload_n 0, 1) := by decide +kernel
theorem dL_law_517 : decode cL_law 517 = .ok (.iload 4, 2) := by decide +kernel
theorem dL_law_519 : decode cL_law 519 = .ok (.iconst 1, 1) := by decide +kernel
theorem dL_law_520 : decode cL_law 520 = .ok (.iadd, 1) := by decide +kernel
theorem dL_law_521 : decode cL_law 521 = .ok (.iaload, 1) := by decide +kernel
theorem dL_law_522 : decode cL_law 522 = .ok (.invokevirtual 111, 3) := by decide +kernel
theorem dL_law_525 : decode cL_law 525 = .ok (.istore 6, 2) := by decide +kernel
theorem dL_law_527 : decode cL_law 527 = .ok (.aload_n 2, 1) := by decide +kernel
theorem dL_law_528 : decode cL_law 528 = .ok (.invokevirtual 90, 3) := by decide +kernel
theorem dL_law_531 : decode cL_law 531 = .ok (.iload 5, 2) := by decide +kernel
theorem dL_law_533 : decode cL_law 533 = .ok (.if_icmp .eq 5, 3) := by decide +kernel
theorem dL_law_536 : decode cL_law 536 = .ok (.iconst 0, 1) := by decide +kernel
theorem dL_law_537 : decode cL_law 537 = .ok (.ireturn, 1) := by decide +kernel
theorem dL_law_538 : decode cL_law 538 = .ok (.iload 5, 2) := by decide +kernel
theorem dL_law_540 : decode cL_law 540 = .ok (.ifCond .ne 15, 3) := by decide +kernel
theorem dL_law_543 : decode cL_law 543 = .ok (.aload_n 3, 1) := by decide +kernel
theorem dL_law_544 : decode cL_law 544 = .ok (.iconst 0, 1) := by decide +kernel
theorem dL_law_545 : decode cL_law 545 = .ok (.laload, 1) := by decide +kernel
theorem dL_law_546 : decode cL_law 546 = .ok (.iload 6, 2) := by decide +kernel
theorem dL_law_548 : decode cL_law 548 = .ok (.i2l, 1) := by decide +kernel
theorem dL_law_549 : decode cL_law 549 = .ok (.lcmp, 1) := by decide +kernel
theorem dL_law_550 : decode cL_law 550 = .ok (.ifCond .eq 5, 3) := by decide +kernel
theorem dL_law_553 : decode cL_law 553 = .ok (.iconst 0, 1) := by decide +kernel
theorem dL_law_554 : decode cL_law 554 = .ok (.ireturn, 1) := by decide +kernel
theorem dL_law_555 : decode cL_law 555 = .ok (.goto 1115, 3) := by decide +kernel
theorem dL_law_558 : decode cL_law 558 = .ok (.aload_n 1, 1) := by decide +kernel
theorem dL_law_559 : decode cL_law 559 = .ok (.invokevirtual 112, 3) := by decide +kernel
theorem dL_law_562 : decode cL_law 562 = .ok (.aload_n 2, 1) := by decide +kernel
theorem dL_law_563 : decode cL_law 563 = .ok (.invokevirtual 115, 3) := by decide +kernel
theorem dL_law_566 : decode cL_law 566 = .ok (.if_icmp .eq 1104, 3) := by decide +kernel
theorem dL_law_569 : decode cL_law 569 = .ok (.iconst 0, 1) := by decide +kernel
theorem dL_law_570 : decode cL_law 570 = .ok (.ireturn, 1) := by decide +kernel
theorem dL_law_571 : decode cL_law 571 = .ok (.aload_n 1, 1) := by decide +kernel
theorem dL_law_572 : decode cL_law 572 = .ok (.aload_n 0, 1) := by decide +kernel
theorem dL_law_573 : decode cL_law 573 = .ok (.iload 4, 2) := by decide +kernel
theorem dL_law_575 : decode cL_law 575 = .ok (.iconst 1, 1) := by decide +kernel
theorem dL_law_576 : decode cL_law 576 = .ok (.iadd, 1) := by decide +kernel
theorem dL_law_577 : decode cL_law 577 = .ok (.iaload, 1) := by decide +kernel
theorem dL_law_578 : decode cL_law 578 = .ok (.aload_n 0, 1) := by decide +kernel
theorem dL_law_579 : decode cL_law 579 = .ok (.iload 4, 2) := by decide +kernel
theorem dL_law_581 : decode cL_law 581 = .ok (.iconst 2, 1) := by decide +kernel
theorem dL_law_582 : decode cL_law 582 = .ok (.iadd, 1) := by decide +kernel
theorem dL_law_583 : decode cL_law 583 = .ok (.iaload, 1) := by decide +kernel
theorem dL_law_584 : decode cL_law 584 = .ok (.aload_n 3, 1) := by decide +kernel
theorem dL_law_585 : decode cL_law 585 = .ok (.invokestatic 116, 3) := by decide +kernel
theorem dL_law_588 : decode cL_law 588 = .ok (.istore 5, 2) := by decide +kernel
theorem dL_law_590 : decode cL_law 590 = .ok (.aload_n 2, 1) := by decide +kernel
theorem dL_law_591 : decode cL_law 591 = .ok (.aload_n 0, 1) := by decide +kernel
theorem dL_law_592 : decode cL_law 592 = .ok (.iload 4, 2) := by decide +kernel
theorem dL_law_594 : decode cL_law 594 = .ok (.iconst 1, 1) := by decide +kernel
theorem dL_law_595 : decode cL_law 595 = .ok (.iadd, 1) := by decide +kernel
theorem dL_law_596 : decode cL_law 596 = .ok (.iaload, 1) := by decide +kernel
theorem dL_law_597 : decode cL_law 597 = .ok (.aload_n 0, 1) := by decide +kernel
theorem dL_law_598 : decode cL_law 598 = .ok (.iload 4, 2) := by decide +kernel
theorem dL_law_600 : decode cL_law 600 = .ok (.iconst 2, 1) := by decide +kernel
theorem dL_law_601 : decode cL_law 601 = .ok (.iadd, 1) := by decide +kernel
theorem dL_law_602 : decode cL_law 602 = .ok (.iaload, 1) := by decide +kernel
theorem dL_law_603 : decode cL_law 603 = .ok (.invokevirtual 118, 3) := by decide +kernel
theorem dL_law_606 : decode cL_law 606 = .ok (.istore 6, 2) := by decide +kernel
theorem dL_law_608 : decode cL_law 608 = .ok (.aload_n 2, 1) := by decide +kernel
theorem dL_law_609 : decode cL_law 609 = .ok (.invokevirtual 90, 3) := by decide +kernel
theorem dL_law_612 : decode cL_law 612 = .ok (.iload 5, 2) := by decide +kernel
theorem dL_law_614 : decode cL_law 614 = .ok (.if_icmp .eq 5, 3) := by decide +kernel
theorem dL_law_617 : decode cL_law 617 = .ok (.iconst 0, 1) := by decide +kernel
theorem dL_law_618 : decode cL_law 618 = .ok (.ireturn, 1) := by decide +kernel
theorem dL_law_619 : decode cL_law 619 = .ok (.iload 5, 2) := by decide +kernel
theorem dL_law_621 : decode cL_law 621 = .ok (.ifCond .ne 15, 3) := by decide +kernel
theorem dL_law_624 : decode cL_law 624 = .ok (.aload_n 3, 1) := by decide +kernel
theorem dL_law_625 : decode cL_law 625 = .ok (.iconst 0, 1) := by decide +kernel
theorem dL_law_626 : decode cL_law 626 = .ok (.laload, 1) := by decide +kernel
theorem dL_law_627 : decode cL_law 627 = .ok (.iload 6, 2) := by decide +kernel
theorem dL_law_629 : decode cL_law 629 = .ok (.i2l, 1) := by decide +kernel
theorem dL_law_630 : decode cL_law 630 = .ok (.lcmp, 1) := by decide +kernel
theorem dL_law_631 : decode cL_law 631 = .ok (.ifCond .eq 5, 3) := by decide +kernel
theorem dL_law_634 : decode cL_law 634 = .ok (.iconst 0, 1) := by decide +kernel
theorem dL_law_635 : decode cL_law 635 = .ok (.ireturn, 1) := by decide +kernel
theorem dL_law_636 : decode cL_law 636 = .ok (.goto 1034, 3) := by decide +kernel
theorem dL_law_639 : decode cL_law 639 = .ok (.aload_n 1, 1) := by decide +kernel
theorem dL_law_640 : decode cL_law 640 = .ok (.aload_n 0, 1) := by decide +kernel
theorem dL_law_641 : decode cL_law 641 = .ok (.iload 4, 2) := by decide +kernel
theorem dL_law_643 : decode cL_law 643 = .ok (.iconst 1, 1) := by decide +kernel
theorem dL_law_644 : decode cL_law 644 = .ok (.iadd, 1) := by decide +kernel
theorem dL_law_645 : decode cL_law 645 = .ok (.iaload, 1) := by decide +kernel
theorem dL_law_646 : decode cL_law 646 = .ok (.aload_n 3, 1) := by decide +kernel
theorem dL_law_647 : decode cL_law 647 = .ok (.invokestatic 119, 3) := by decide +kernel
theorem dL_law_650 : decode cL_law 650 = .ok (.istore 5, 2) := by decide +kernel
theorem dL_law_652 : decode cL_law 652 = .ok (.aload_n 2, 1) := by decide +kernel
theorem dL_law_653 : decode cL_law 653 = .ok (.aload_n 0, 1) := by decide +kernel
theorem dL_law_654 : decode cL_law 654 = .ok (.iload 4, 2) := by decide +kernel
theorem dL_law_656 : decode cL_law 656 = .ok (.iconst 1, 1) := by decide +kernel
theorem dL_law_657 : decode cL_law 657 = .ok (.iadd, 1) := by decide +kernel
theorem dL_law_658 : decode cL_law 658 = .ok (.iaload, 1) := by decide +kernel
theorem dL_law_659 : decode cL_law 659 = .ok (.invokevirtual 121, 3) := by decide +kernel
theorem dL_law_662 : decode cL_law 662 = .ok (.istore 6, 2) := by decide +kernel
theorem dL_law_664 : decode cL_law 664 = .ok (.aload_n 2, 1) := by decide +kernel
theorem dL_law_665 : decode cL_law 665 = .ok (.invokevirtual 90, 3) := by decide +kernel
theorem dL_law_668 : decode cL_law 668 = .ok (.iload 5, 2) := by decide +kernel
theorem dL_law_670 : decode cL_law 670 = .ok (.if_icmp .eq 5, 3) := by decide +kernel
theorem dL_law_673 : decode cL_law 673 = .ok (.iconst 0, 1) := by decide +kernel
theorem dL_law_674 : decode cL_law 674 = .ok (.ireturn, 1) := by decide +kernel
theorem dL_law_675 : decode cL_law 675 = .ok (.iload 5, 2) := by decide +kernel
theorem dL_law_677 : decode cL_law 677 = .ok (.ifCond .ne 15, 3) := by decide +kernel
theorem dL_law_680 : decode cL_law 680 = .ok (.aload_n 3, 1) := by decide +kernel
theorem dL_law_681 : decode cL_law 681 = .ok (.iconst 0, 1) := by decide +kernel
theorem dL_law_682 : decode cL_law 682 = .ok (.laload, 1) := by decide +kernel
theorem dL_law_683 : decode cL_law 683 = .ok (.iload 6, 2) := by decide +kernel
theorem dL_law_685 : decode cL_law 685 = .ok (.i2l, 1) := by decide +kernel
theorem dL_law_686 : decode cL_law 686 = .ok (.lcmp, 1) := by decide +kernel
theorem dL_law_687 : decode cL_law 687 = .ok (.ifCond .eq 5, 3) := by decide +kernel
theorem dL_law_690 : decode cL_law 690 = .ok (.iconst 0, 1) := by decide +kernel
theorem dL_law_691 : decode cL_law 691 = .ok (.ireturn, 1) := by decide +kernel
theorem dL_law_692 : decode cL_law 692 = .ok (.goto 978, 3) := by decide +kernel
theorem dL_law_695 : decode cL_law 695 = .ok (.aload_n 1, 1) := by decide +kernel
theorem dL_law_696 : decode cL_law 696 = .ok (.aload_n 0, 1) := by decide +kernel
theorem dL_law_697 : decode cL_law 697 = .ok (.iload 4, 2) := by decide +kernel
theorem dL_law_699 : decode cL_law 699 = .ok (.iconst 1, 1) := by decide +kernel
theorem dL_law_700 : decode cL_law 700 = .ok (.iadd, 1) := by decide +kernel
theorem dL_law_701 : decode cL_law 701 = .ok (.iaload, 1) := by decide +kernel
theorem dL_law_702 : decode cL_law 702 = .ok (.aload_n 0, 1) := by decide +kernel
theorem dL_law_703 : decode cL_law 703 = .ok (.iload 4, 2) := by decide +kernel
theorem dL_law_705 : decode cL_law 705 = .ok (.iconst 2, 1) := by decide +kernel
theorem dL_law_706 : decode cL_law 706 = .ok (.iadd, 1) := by decide +kernel
theorem dL_law_707 : decode cL_law 707 = .ok (.iaload, 1) := by decide +kernel
theorem dL_law_708 : decode cL_law 708 = .ok (.aload_n 3, 1) := by decide +kernel
theorem dL_law_709 : decode cL_law 709 = .ok (.invokestatic 122, 3) := by decide +kernel
theorem dL_law_712 : decode cL_law 712 = .ok (.istore 5, 2) := by decide +kernel
theorem dL_law_714 : decode cL_law 714 = .ok (.aload_n 2, 1) := by decide +kernel
theorem dL_law_715 : decode cL_law 715 = .ok (.aload_n 0, 1) := by decide +kernel
theorem dL_law_716 : decode cL_law 716 = .ok (.iload 4, 2) := by decide +kernel
theorem dL_law_718 : decode cL_law 718 = .ok (.iconst 1, 1) := by decide +kernel
theorem dL_law_719 : decode cL_law 719 = .ok (.iadd, 1) := by decide +kernel
theorem dL_law_720 : decode cL_law 720 = .ok (.iaload, 1) := by decide +kernel
theorem dL_law_721 : decode cL_law 721 = .ok (.aload_n 0, 1) := by decide +kernel
theorem dL_law_722 : decode cL_law 722 = .ok (.iload 4, 2) := by decide +kernel
theorem dL_law_724 : decode cL_law 724 = .ok (.iconst 2, 1) := by decide +kernel
theorem dL_law_725 : decode cL_law 725 = .ok (.iadd, 1) := by decide +kernel
theorem dL_law_726 : decode cL_law 726 = .ok (.iaload, 1) := by decide +kernel
theorem dL_law_727 : decode cL_law 727 = .ok (.invokevirtual 124, 3) := by decide +kernel
theorem dL_law_730 : decode cL_law 730 = .ok (.istore 6, 2) := by decide +kernel
theorem dL_law_732 : decode cL_law 732 = .ok (.aload_n 2, 1) := by decide +kernel
theorem dL_law_733 : decode cL_law 733 = .ok (.invokevirtual 90, 3) := by decide +kernel
theorem dL_law_736 : decode cL_law 736 = .ok (.iload 5, 2) := by decide +kernel
theorem dL_law_738 : decode cL_law 738 = .ok (.if_icmp .eq 5, 3) := by decide +kernel
theorem dL_law_741 : decode cL_law 741 = .ok (.iconst 0, 1) := by decide +kernel
theorem dL_law_742 : decode cL_law 742 = .ok (.ireturn, 1) := by decide +kernel
theorem dL_law_743 : decode cL_law 743 = .ok (.iload 5, 2) := by decide +kernel
theorem dL_law_745 : decode cL_law 745 = .ok (.ifCond .ne 15, 3) := by decide +kernel
theorem dL_law_748 : decode cL_law 748 = .ok (.aload_n 3, 1) := by decide +kernel
theorem dL_law_749 : decode cL_law 749 = .ok (.iconst 0, 1) := by decide +kernel
theorem dL_law_750 : decode cL_law 750 = .ok (.laload, 1) := by decide +kernel
theorem dL_law_751 : decode cL_law 751 = .ok (.iload 6, 2) := by decide +kernel
theorem dL_law_753 : decode cL_law 753 = .ok (.i2l, 1) := by decide +kernel
theorem dL_law_754 : decode cL_law 754 = .ok (.lcmp, 1) := by decide +kernel
theorem dL_law_755 : decode cL_law 755 = .ok (.ifCond .eq 5, 3) := by decide +kernel
theorem dL_law_758 : decode cL_law 758 = .ok (.iconst 0, 1) := by decide +kernel
theorem dL_law_759 : decode cL_law 759 = .ok (.ireturn, 1) := by decide +kernel
theorem dL_law_760 : decode cL_law 760 = .ok (.goto 910, 3) := by decide +kernel
theorem dL_law_763 : decode cL_law 763 = .ok (.aload_n 1, 1) := by decide +kernel
theorem dL_law_764 : decode cL_law 764 = .ok (.invokevirtual 125, 3) := by decide +kernel
theorem dL_law_767 : decode cL_law 767 = .ok (.aload_n 2, 1) := by decide +kernel
theorem dL_law_768 : decode cL_law 768 = .ok (.invokevirtual 128, 3) := by decide +kernel
theorem dL_law_771 : decode cL_law 771 = .ok (.if_icmp .eq 899, 3) := by decide +kernel
theorem dL_law_774 : decode cL_law 774 = .ok (.iconst 0, 1) := by decide +kernel
theorem dL_law_775 : decode cL_law 775 = .ok (.ireturn, 1) := by decide +kernel
theorem dL_law_776 : decode cL_law 776 = .ok (.aload_n 1, 1) := by decide +kernel
theorem dL_law_777 : decode cL_law 777 = .ok (.aload_n 0, 1) := by decide +kernel
theorem dL_law_778 : decode cL_law 778 = .ok (.iload 4, 2) := by decide +kernel
theorem dL_law_780 : decode cL_law 780 = .ok (.iconst 1, 1) := by decide +kernel
theorem dL_law_781 : decode cL_law 781 = .ok (.iadd, 1) := by decide +kernel
theorem dL_law_782 : decode cL_law 782 = .ok (.iaload, 1) := by decide +kernel
theorem dL_law_783 : decode cL_law 783 = .ok (.aload_n 0, 1) := by decide +kernel
theorem dL_law_784 : decode cL_law 784 = .ok (.iload 4, 2) := by decide +kernel
theorem dL_law_786 : decode cL_law 786 = .ok (.iconst 2, 1) := by decide +kernel
theorem dL_law_787 : decode cL_law 787 = .ok (.iadd, 1) := by decide +kernel
theorem dL_law_788 : decode cL_law 788 = .ok (.iaload, 1) := by decide +kernel
theorem dL_law_789 : decode cL_law 789 = .ok (.aload_n 3, 1) := by decide +kernel
theorem dL_law_790 : decode cL_law 790 = .ok (.invokestatic 129, 3) := by decide +kernel
theorem dL_law_793 : decode cL_law 793 = .ok (.istore 5, 2) := by decide +kernel
theorem dL_law_795 : decode cL_law 795 = .ok (.aload_n 2, 1) := by decide +kernel
theorem dL_law_796 : decode cL_law 796 = .ok (.aload_n 0, 1) := by decide +kernel
theorem dL_law_797 : decode cL_law 797 = .ok (.iload 4, 2) := by decide +kernel
theorem dL_law_799 : decode cL_law 799 = .ok (.iconst 1, 1) := by decide +kernel
theorem dL_law_800 : decode cL_law 800 = .ok (.iadd, 1) := by decide +kernel
theorem dL_law_801 : decode cL_law 801 = .ok (.iaload, 1) := by decide +kernel
theorem dL_law_802 : decode cL_law 802 = .ok (.aload_n 0, 1) := by decide +kernel
theorem dL_law_803 : decode cL_law 803 = .ok (.iload 4, 2) := by decide +kernel
theorem dL_law_805 : decode cL_law 805 = .ok (.iconst 2, 1) := by decide +kernel
theorem dL_law_806 : decode cL_law 806 = .ok (.iadd, 1) := by decide +kernel
theorem dL_law_807 : decode cL_law 807 = .ok (.iaload, 1) := by decide +kernel
theorem dL_law_808 : decode cL_law 808 = .ok (.invokevirtual 131, 3) := by decide +kernel
theorem dL_law_811 : decode cL_law 811 = .ok (.istore 6, 2) := by decide +kernel
theorem dL_law_813 : decode cL_law 813 = .ok (.aload_n 2, 1) := by decide +kernel
theorem dL_law_814 : decode cL_law 814 = .ok (.invokevirtual 90, 3) := by decide +kernel
theorem dL_law_817 : decode cL_law 817 = .ok (.iload 5, 2) := by decide +kernel
theorem dL_law_819 : decode cL_law 819 = .ok (.if_icmp .eq 5, 3) := by decide +kernel
theorem dL_law_822 : decode cL_law 822 = .ok (.iconst 0, 1) := by decide +kernel
theorem dL_law_823 : decode cL_law 823 = .ok (.ireturn, 1) := by decide +kernel
theorem dL_law_824 : decode cL_law 824 = .ok (.iload 5, 2) := by decide +kernel
theorem dL_law_826 : decode cL_law 826 = .ok (.ifCond .ne 15, 3) := by decide +kernel
theorem dL_law_829 : decode cL_law 829 = .ok (.aload_n 3, 1) := by decide +kernel
theorem dL_law_830 : decode cL_law 830 = .ok (.iconst 0, 1) := by decide +kernel
theorem dL_law_831 : decode cL_law 831 = .ok (.laload, 1) := by decide +kernel
theorem dL_law_832 : decode cL_law 832 = .ok (.iload 6, 2) := by decide +kernel
theorem dL_law_834 : decode cL_law 834 = .ok (.i2l, 1) := by decide +kernel
theorem dL_law_835 : decode cL_law 835 = .ok (.lcmp, 1) := by decide +kernel
theorem dL_law_836 : decode cL_law 836 = .ok (.ifCond .eq 5, 3) := by decide +kernel
theorem dL_law_839 : decode cL_law 839 = .ok (.iconst 0, 1) := by decide +kernel
theorem dL_law_840 : decode cL_law 840 = .ok (.ireturn, 1) := by decide +kernel
theorem dL_law_841 : decode cL_law 841 = .ok (.goto 829, 3) := by decide +kernel
theorem dL_law_844 : decode cL_law 844 = .ok (.aload_n 1, 1) := by decide +kernel
theorem dL_law_845 : decode cL_law 845 = .ok (.aload_n 0, 1) := by decide +kernel
theorem dL_law_846 : decode cL_law 846 = .ok (.iload 4, 2) := by decide +kernel
theorem dL_law_848 : decode cL_law 848 = .ok (.iconst 1, 1) := by decide +kernel
theorem dL_law_849 : decode cL_law 849 = .ok (.iadd, 1) := by decide +kernel
theorem dL_law_850 : decode cL_law 850 = .ok (.iaload, 1) := by decide +kernel
theorem dL_law_851 : decode cL_law 851 = .ok (.aload_n 3, 1) := by decide +kernel
theorem dL_law_852 : decode cL_law 852 = .ok (.invokestatic 132, 3) := by decide +kernel
theorem dL_law_855 : decode cL_law 855 = .ok (.istore 5, 2) := by decide +kernel
theorem dL_law_857 : decode cL_law 857 = .ok (.aload_n 2, 1) := by decide +kernel
theorem dL_law_858 : decode cL_law 858 = .ok (.aload_n 0, 1) := by decide +kernel
theorem dL_law_859 : decode cL_law 859 = .ok (.iload 4, 2) := by decide +kernel
theorem dL_law_861 : decode cL_law 861 = .ok (.iconst 1, 1) := by decide +kernel
theorem dL_law_862 : decode cL_law 862 = .ok (.iadd, 1) := by decide +kernel
theorem dL_law_863 : decode cL_law 863 = .ok (.iaload, 1) := by decide +kernel
theorem dL_law_864 : decode cL_law 864 = .ok (.invokevirtual 134, 3) := by decide +kernel
theorem dL_law_867 : decode cL_law 867 = .ok (.istore 6, 2) := by decide +kernel
theorem dL_law_869 : decode cL_law 869 = .ok (.aload_n 2, 1) := by decide +kernel
theorem dL_law_870 : decode cL_law 870 = .ok (.invokevirtual 90, 3) := by decide +kernel
theorem dL_law_873 : decode cL_law 873 = .ok (.iload 5, 2) := by decide +kernel
theorem dL_law_875 : decode cL_law 875 = .ok (.if_icmp .eq 5, 3) := by decide +kernel
theorem dL_law_878 : decode cL_law 878 = .ok (.iconst 0, 1) := by decide +kernel
theorem dL_law_879 : decode cL_law 879 = .ok (.ireturn, 1) := by decide +kernel
theorem dL_law_880 : decode cL_law 880 = .ok (.iload 5, 2) := by decide +kernel
theorem dL_law_882 : decode cL_law 882 = .ok (.ifCond .ne 15, 3) := by decide +kernel
theorem dL_law_885 : decode cL_law 885 = .ok (.aload_n 3, 1) := by decide +kernel
theorem dL_law_886 : decode cL_law 886 = .ok (.iconst 0, 1) := by decide +kernel
theorem dL_law_887 : decode cL_law 887 = .ok (.laload, 1) := by decide +kernel
theorem dL_law_888 : decode cL_law 888 = .ok (.iload 6, 2) := by decide +kernel
theorem dL_law_890 : decode cL_law 890 = .ok (.i2l, 1) := by decide +kernel
theorem dL_law_891 : decode cL_law 891 = .ok (.lcmp, 1) := by decide +kernel
theorem dL_law_892 : decode cL_law 892 = .ok (.ifCond .eq 5, 3) := by decide +kernel
theorem dL_law_895 : decode cL_law 895 = .ok (.iconst 0, 1) := by decide +kernel
theorem dL_law_896 : decode cL_law 896 = .ok (.ireturn, 1) := by decide +kernel
theorem dL_law_897 : decode cL_law 897 = .ok (.goto 773, 3) := by decide +kernel
theorem dL_law_900 : decode cL_law 900 = .ok (.aload_n 1, 1) := by decide +kernel
theorem dL_law_901 : decode cL_law 901 = .ok (.aload_n 0, 1) := by decide +kernel
theorem dL_law_902 : decode cL_law 902 = .ok (.iload 4, 2) := by decide +kernel
theorem dL_law_904 : decode cL_law 904 = .ok (.iconst 1, 1) := by decide +kernel
theorem dL_law_905 : decode cL_law 905 = .ok (.iadd, 1) := by decide +kernel
theorem dL_law_906 : decode cL_law 906 = .ok (.iaload, 1) := by decide +kernel
theorem dL_law_907 : decode cL_law 907 = .ok (.aload_n 0, 1) := by decide +kernel
theorem dL_law_908 : decode cL_law 908 = .ok (.iload 4, 2) := by decide +kernel
theorem dL_law_910 : decode cL_law 910 = .ok (.iconst 2, 1) := by decide +kernel
theorem dL_law_911 : decode cL_law 911 = .ok (.iadd, 1) := by decide +kernel
theorem dL_law_912 : decode cL_law 912 = .ok (.iaload, 1) := by decide +kernel
theorem dL_law_913 : decode cL_law 913 = .ok (.aload_n 3, 1) := by decide +kernel
theorem dL_law_914 : decode cL_law 914 = .ok (.invokestatic 135, 3) := by decide +kernel
theorem dL_law_917 : decode cL_law 917 = .ok (.istore 5, 2) := by decide +kernel
theorem dL_law_919 : decode cL_law 919 = .ok (.aload_n 2, 1) := by decide +kernel
theorem dL_law_920 : decode cL_law 920 = .ok (.aload_n 0, 1) := by decide +kernel
theorem dL_law_921 : decode cL_law 921 = .ok (.iload 4, 2) := by decide +kernel
theorem dL_law_923 : decode cL_law 923 = .ok (.iconst 1, 1) := by decide +kernel
theorem dL_law_924 : decode cL_law 924 = .ok (.iadd, 1) := by decide +kernel
theorem dL_law_925 : decode cL_law 925 = .ok (.iaload, 1) := by decide +kernel
theorem dL_law_926 : decode cL_law 926 = .ok (.aload_n 0, 1) := by decide +kernel
theorem dL_law_927 : decode cL_law 927 = .ok (.iload 4, 2) := by decide +kernel
theorem dL_law_929 : decode cL_law 929 = .ok (.iconst 2, 1) := by decide +kernel
theorem dL_law_930 : decode cL_law 930 = .ok (.iadd, 1) := by decide +kernel
theorem dL_law_931 : decode cL_law 931 = .ok (.iaload, 1) := by decide +kernel
theorem dL_law_932 : decode cL_law 932 = .ok (.invokevirtual 137, 3) := by decide +kernel
theorem dL_law_935 : decode cL_law 935 = .ok (.istore 6, 2) := by decide +kernel
theorem dL_law_937 : decode cL_law 937 = .ok (.aload_n 2, 1) := by decide +kernel
theorem dL_law_938 : decode cL_law 938 = .ok (.invokevirtual 90, 3) := by decide +kernel
theorem dL_law_941 : decode cL_law 941 = .ok (.iload 5, 2) := by decide +kernel
theorem dL_law_943 : decode cL_law 943 = .ok (.if_icmp .eq 5, 3) := by decide +kernel
theorem dL_law_946 : decode cL_law 946 = .ok (.iconst 0, 1) := by decide +kernel
theorem dL_law_947 : decode cL_law 947 = .ok (.ireturn, 1) := by decide +kernel
theorem dL_law_948 : decode cL_law 948 = .ok (.iload 5, 2) := by decide +kernel
theorem dL_law_950 : decode cL_law 950 = .ok (.ifCond .ne 15, 3) := by decide +kernel
theorem dL_law_953 : decode cL_law 953 = .ok (.aload_n 3, 1) := by decide +kernel
theorem dL_law_954 : decode cL_law 954 = .ok (.iconst 0, 1) := by decide +kernel
theorem dL_law_955 : decode cL_law 955 = .ok (.laload, 1) := by decide +kernel
theorem dL_law_956 : decode cL_law 956 = .ok (.iload 6, 2) := by decide +kernel
theorem dL_law_958 : decode cL_law 958 = .ok (.i2l, 1) := by decide +kernel
theorem dL_law_959 : decode cL_law 959 = .ok (.lcmp, 1) := by decide +kernel
theorem dL_law_960 : decode cL_law 960 = .ok (.ifCond .eq 5, 3) := by decide +kernel
theorem dL_law_963 : decode cL_law 963 = .ok (.iconst 0, 1) := by decide +kernel
theorem dL_law_964 : decode cL_law 964 = .ok (.ireturn, 1) := by decide +kernel
theorem dL_law_965 : decode cL_law 965 = .ok (.goto 705, 3) := by decide +kernel
theorem dL_law_968 : decode cL_law 968 = .ok (.aload_n 1, 1) := by decide +kernel
theorem dL_law_969 : decode cL_law 969 = .ok (.invokevirtual 138, 3) := by decide +kernel
theorem dL_law_972 : decode cL_law 972 = .ok (.f2d, 1) := by decide +kernel
theorem dL_law_973 : decode cL_law 973 = .ok (.dstore 5, 2) := by decide +kernel
theorem dL_law_975 : decode cL_law 975 = .ok (.aload_n 2, 1) := by decide +kernel
theorem dL_law_976 : decode cL_law 976 = .ok (.invokevirtual 142, 3) := by decide +kernel
theorem dL_law_979 : decode cL_law 979 = .ok (.f2d, 1) := by decide +kernel
theorem dL_law_980 : decode cL_law 980 = .ok (.dstore 7, 2) := by decide +kernel
theorem dL_law_982 : decode cL_law 982 = .ok (.dload 5, 2) := by decide +kernel
theorem dL_law_984 : decode cL_law 984 = .ok (.dload 7, 2) := by decide +kernel
theorem dL_law_986 : decode cL_law 986 = .ok (.dcmp .l, 1) := by decide +kernel
theorem dL_law_987 : decode cL_law 987 = .ok (.ifCond .eq 21, 3) := by decide +kernel
theorem dL_law_990 : decode cL_law 990 = .ok (.dload 5, 2) := by decide +kernel
theorem dL_law_992 : decode cL_law 992 = .ok (.dload 5, 2) := by decide +kernel
theorem dL_law_994 : decode cL_law 994 = .ok (.dcmp .l, 1) := by decide +kernel
theorem dL_law_995 : decode cL_law 995 = .ok (.ifCond .eq 11, 3) := by decide +kernel
theorem dL_law_998 : decode cL_law 998 = .ok (.dload 7, 2) := by decide +kernel
theorem dL_law_1000 : decode cL_law 1000 = .ok (.dload 7, 2) := by decide +kernel
theorem dL_law_1002 : decode cL_law 1002 = .ok (.dcmp .l, 1) := by decide +kernel
theorem dL_law_1003 : decode cL_law 1003 = .ok (.ifCond .ne 5, 3) := by decide +kernel
theorem dL_law_1006 : decode cL_law 1006 = .ok (.iconst 0, 1) := by decide +kernel
theorem dL_law_1007 : decode cL_law 1007 = .ok (.ireturn, 1) := by decide +kernel
theorem dL_law_1008 : decode cL_law 1008 = .ok (.goto 662, 3) := by decide +kernel
theorem dL_law_1011 : decode cL_law 1011 = .ok (.aload_n 1, 1) := by decide +kernel
theorem dL_law_1012 : decode cL_law 1012 = .ok (.aload_n 0, 1) := by decide +kernel
theorem dL_law_1013 : decode cL_law 1013 = .ok (.iload 4, 2) := by decide +kernel
theorem dL_law_1015 : decode cL_law 1015 = .ok (.iconst 1, 1) := by decide +kernel
theorem dL_law_1016 : decode cL_law 1016 = .ok (.iadd, 1) := by decide +kernel
theorem dL_law_1017 : decode cL_law 1017 = .ok (.iaload, 1) := by decide +kernel
theorem dL_law_1018 : decode cL_law 1018 = .ok (.aload_n 3, 1) := by decide +kernel
theorem dL_law_1019 : decode cL_law 1019 = .ok (.invokestatic 143, 3) := by decide +kernel
theorem dL_law_1022 : decode cL_law 1022 = .ok (.istore 5, 2) := by decide +kernel
theorem dL_law_1024 : decode cL_law 1024 = .ok (.aload_n 2, 1) := by decide +kernel
theorem dL_law_1025 : decode cL_law 1025 = .ok (.aload_n 0, 1) := by decide +kernel
theorem dL_law_1026 : decode cL_law 1026 = .ok (.iload 4, 2) := by decide +kernel
theorem dL_law_1028 : decode cL_law 1028 = .ok (.iconst 1, 1) := by decide +kernel
theorem dL_law_1029 : decode cL_law 1029 = .ok (.iadd, 1) := by decide +kernel
theorem dL_law_1030 : decode cL_law 1030 = .ok (.iaload, 1) := by decide +kernel
theorem dL_law_1031 : decode cL_law 1031 = .ok (.invokevirtual 145, 3) := by decide +kernel
theorem dL_law_1034 : decode cL_law 1034 = .ok (.istore 6, 2) := by decide +kernel
theorem dL_law_1036 : decode cL_law 1036 = .ok (.aload_n 2, 1) := by decide +kernel
theorem dL_law_1037 : decode cL_law 1037 = .ok (.invokevirtual 90, 3) := by decide +kernel
theorem dL_law_1040 : decode cL_law 1040 = .ok (.iload 5, 2) := by decide +kernel
theorem dL_law_1042 : decode cL_law 1042 = .ok (.if_icmp .eq 5, 3) := by decide +kernel
theorem dL_law_1045 : decode cL_law 1045 = .ok (.iconst 0, 1) := by decide +kernel
theorem dL_law_1046 : decode cL_law 1046 = .ok (.ireturn, 1) := by decide +kernel
theorem dL_law_1047 : decode cL_law 1047 = .ok (.iload 5, 2) := by decide +kernel
theorem dL_law_1049 : decode cL_law 1049 = .ok (.ifCond .ne 15, 3) := by decide +kernel
theorem dL_law_1052 : decode cL_law 1052 = .ok (.aload_n 3, 1) := by decide +kernel
theorem dL_law_1053 : decode cL_law 1053 = .ok (.iconst 0, 1) := by decide +kernel
theorem dL_law_1054 : decode cL_law 1054 = .ok (.laload, 1) := by decide +kernel
theorem dL_law_1055 : decode cL_law 1055 = .ok (.iload 6, 2) := by decide +kernel
theorem dL_law_1057 : decode cL_law 1057 = .ok (.i2l, 1) := by decide +kernel
theorem dL_law_1058 : decode cL_law 1058 = .ok (.lcmp, 1) := by decide +kernel
theorem dL_law_1059 : decode cL_law 1059 = .ok (.ifCond .eq 5, 3) := by decide +kernel
theorem dL_law_1062 : decode cL_law 1062 = .ok (.iconst 0, 1) := by decide +kernel
theorem dL_law_1063 : decode cL_law 1063 = .ok (.ireturn, 1) := by decide +kernel
theorem dL_law_1064 : decode cL_law 1064 = .ok (.goto 606, 3) := by decide +kernel
theorem dL_law_1067 : decode cL_law 1067 = .ok (.aload_n 1, 1) := by decide +kernel
theorem dL_law_1068 : decode cL_law 1068 = .ok (.aload_n 0, 1) := by decide +kernel
theorem dL_law_1069 : decode cL_law 1069 = .ok (.iload 4, 2) := by decide +kernel
theorem dL_law_1071 : decode cL_law 1071 = .ok (.iconst 1, 1) := by decide +kernel
theorem dL_law_1072 : decode cL_law 1072 = .ok (.iadd, 1) := by decide +kernel
theorem dL_law_1073 : decode cL_law 1073 = .ok (.iaload, 1) := by decide +kernel
theorem dL_law_1074 : decode cL_law 1074 = .ok (.aload_n 0, 1) := by decide +kernel
theorem dL_law_1075 : decode cL_law 1075 = .ok (.iload 4, 2) := by decide +kernel
theorem dL_law_1077 : decode cL_law 1077 = .ok (.iconst 2, 1) := by decide +kernel
theorem dL_law_1078 : decode cL_law 1078 = .ok (.iadd, 1) := by decide +kernel
theorem dL_law_1079 : decode cL_law 1079 = .ok (.iaload, 1) := by decide +kernel
theorem dL_law_1080 : decode cL_law 1080 = .ok (.aload_n 0, 1) := by decide +kernel
theorem dL_law_1081 : decode cL_law 1081 = .ok (.iload 4, 2) := by decide +kernel
theorem dL_law_1083 : decode cL_law 1083 = .ok (.iconst 3, 1) := by decide +kernel
theorem dL_law_1084 : decode cL_law 1084 = .ok (.iadd, 1) := by decide +kernel
theorem dL_law_1085 : decode cL_law 1085 = .ok (.iaload, 1) := by decide +kernel
theorem dL_law_1086 : decode cL_law 1086 = .ok (.aload_n 0, 1) := by decide +kernel
theorem dL_law_1087 : decode cL_law 1087 = .ok (.iload 4, 2) := by decide +kernel
theorem dL_law_1089 : decode cL_law 1089 = .ok (.iconst 4, 1) := by decide +kernel
theorem dL_law_1090 : decode cL_law 1090 = .ok (.iadd, 1) := by decide +kernel
theorem dL_law_1091 : decode cL_law 1091 = .ok (.iaload, 1) := by decide +kernel
theorem dL_law_1092 : decode cL_law 1092 = .ok (.aload_n 0, 1) := by decide +kernel
theorem dL_law_1093 : decode cL_law 1093 = .ok (.iload 4, 2) := by decide +kernel
theorem dL_law_1095 : decode cL_law 1095 = .ok (.iconst 5, 1) := by decide +kernel
theorem dL_law_1096 : decode cL_law 1096 = .ok (.iadd, 1) := by decide +kernel
theorem dL_law_1097 : decode cL_law 1097 = .ok (.iaload, 1) := by decide +kernel
theorem dL_law_1098 : decode cL_law 1098 = .ok (.ifCond .eq 7, 3) := by decide +kernel
theorem dL_law_1101 : decode cL_law 1101 = .ok (.iconst 1, 1) := by decide +kernel
theorem dL_law_1102 : decode cL_law 1102 = .ok (.goto 4, 3) := by decide +kernel
theorem dL_law_1105 : decode cL_law 1105 = .ok (.iconst 0, 1) := by decide +kernel
theorem dL_law_1106 : decode cL_law 1106 = .ok (.aload_n 3, 1) := by decide +kernel
theorem dL_law_1107 : decode cL_law 1107 = .ok (.invokestatic 146, 3) := by decide +kernel
theorem dL_law_1110 : decode cL_law 1110 = .ok (.istore 5, 2) := by decide +kernel
theorem dL_law_1112 : decode cL_law 1112 = .ok (.aload_n 2, 1) := by decide +kernel
theorem dL_law_1113 : decode cL_law 1113 = .ok (.aload_n 0, 1) := by decide +kernel
theorem dL_law_1114 : decode cL_law 1114 = .ok (.iload 4, 2) := by decide +kernel
theorem dL_law_1116 : decode cL_law 1116 = .ok (.iconst 1, 1) := by decide +kernel
theorem dL_law_1117 : decode cL_law 1117 = .ok (.iadd, 1) := by decide +kernel
theorem dL_law_1118 : decode cL_law 1118 = .ok (.iaload, 1) := by decide +kernel
theorem dL_law_1119 : decode cL_law 1119 = .ok (.aload_n 0, 1) := by decide +kernel
theorem dL_law_1120 : decode cL_law 1120 = .ok (.iload 4, 2) := by decide +kernel
theorem dL_law_1122 : decode cL_law 1122 = .ok (.iconst 2, 1) := by decide +kernel
theorem dL_law_1123 : decode cL_law 1123 = .ok (.iadd, 1) := by decide +kernel
theorem dL_law_1124 : decode cL_law 1124 = .ok (.iaload, 1) := by decide +kernel
theorem dL_law_1125 : decode cL_law 1125 = .ok (.aload_n 0, 1) := by decide +kernel
theorem dL_law_1126 : decode cL_law 1126 = .ok (.iload 4, 2) := by decide +kernel
theorem dL_law_1128 : decode cL_law 1128 = .ok (.iconst 3, 1) := by decide +kernel
theorem dL_law_1129 : decode cL_law 1129 = .ok (.iadd, 1) := by decide +kernel
theorem dL_law_1130 : decode cL_law 1130 = .ok (.iaload, 1) := by decide +kernel
theorem dL_law_1131 : decode cL_law 1131 = .ok (.aload_n 0, 1) := by decide +kernel
theorem dL_law_1132 : decode cL_law 1132 = .ok (.iload 4, 2) := by decide +kernel
theorem dL_law_1134 : decode cL_law 1134 = .ok (.iconst 4, 1) := by decide +kernel
theorem dL_law_1135 : decode cL_law 1135 = .ok (.iadd, 1) := by decide +kernel
theorem dL_law_1136 : decode cL_law 1136 = .ok (.iaload, 1) := by decide +kernel
theorem dL_law_1137 : decode cL_law 1137 = .ok (.aload_n 0, 1) := by decide +kernel
theorem dL_law_1138 : decode cL_law 1138 = .ok (.iload 4, 2) := by decide +kernel
theorem dL_law_1140 : decode cL_law 1140 = .ok (.iconst 5, 1) := by decide +kernel
theorem dL_law_1141 : decode cL_law 1141 = .ok (.iadd, 1) := by decide +kernel
theorem dL_law_1142 : decode cL_law 1142 = .ok (.iaload, 1) := by decide +kernel
theorem dL_law_1143 : decode cL_law 1143 = .ok (.ifCond .eq 7, 3) := by decide +kernel
theorem dL_law_1146 : decode cL_law 1146 = .ok (.iconst 1, 1) := by decide +kernel
theorem dL_law_1147 : decode cL_law 1147 = .ok (.goto 4, 3) := by decide +kernel
theorem dL_law_1150 : decode cL_law 1150 = .ok (.iconst 0, 1) := by decide +kernel
theorem dL_law_1151 : decode cL_law 1151 = .ok (.invokevirtual 149, 3) := by decide +kernel
theorem dL_law_1154 : decode cL_law 1154 = .ok (.istore 6, 2) := by decide +kernel
theorem dL_law_1156 : decode cL_law 1156 = .ok (.aload_n 2, 1) := by decide +kernel
theorem dL_law_1157 : decode cL_law 1157 = .ok (.invokevirtual 90, 3) := by decide +kernel
theorem dL_law_1160 : decode cL_law 1160 = .ok (.iload 5, 2) := by decide +kernel
theorem dL_law_1162 : decode cL_law 1162 = .ok (.if_icmp .eq 5, 3) := by decide +kernel
theorem dL_law_1165 : decode cL_law 1165 = .ok (.iconst 0, 1) := by decide +kernel
theorem dL_law_1166 : decode cL_law 1166 = .ok (.ireturn, 1) := by decide +kernel
theorem dL_law_1167 : decode cL_law 1167 = .ok (.iload 5, 2) := by decide +kernel
theorem dL_law_1169 : decode cL_law 1169 = .ok (.ifCond .ne 15, 3) := by decide +kernel
theorem dL_law_1172 : decode cL_law 1172 = .ok (.aload_n 3, 1) := by decide +kernel
theorem dL_law_1173 : decode cL_law 1173 = .ok (.iconst 0, 1) := by decide +kernel
theorem dL_law_1174 : decode cL_law 1174 = .ok (.laload, 1) := by decide +kernel
theorem dL_law_1175 : decode cL_law 1175 = .ok (.iload 6, 2) := by decide +kernel
theorem dL_law_1177 : decode cL_law 1177 = .ok (.i2l, 1) := by decide +kernel
theorem dL_law_1178 : decode cL_law 1178 = .ok (.lcmp, 1) := by decide +kernel
theorem dL_law_1179 : decode cL_law 1179 = .ok (.ifCond .eq 5, 3) := by decide +kernel
theorem dL_law_1182 : decode cL_law 1182 = .ok (.iconst 0, 1) := by decide +kernel
theorem dL_law_1183 : decode cL_law 1183 = .ok (.ireturn, 1) := by decide +kernel
theorem dL_law_1184 : decode cL_law 1184 = .ok (.goto 486, 3) := by decide +kernel
theorem dL_law_1187 : decode cL_law 1187 = .ok (.aload_n 1, 1) := by decide +kernel
theorem dL_law_1188 : decode cL_law 1188 = .ok (.aload_n 0, 1) := by decide +kernel
theorem dL_law_1189 : decode cL_law 1189 = .ok (.iload 4, 2) := by decide +kernel
theorem dL_law_1191 : decode cL_law 1191 = .ok (.iconst 1, 1) := by decide +kernel
theorem dL_law_1192 : decode cL_law 1192 = .ok (.iadd, 1) := by decide +kernel
theorem dL_law_1193 : decode cL_law 1193 = .ok (.iaload, 1) := by decide +kernel
theorem dL_law_1194 : decode cL_law 1194 = .ok (.aload_n 0, 1) := by decide +kernel
theorem dL_law_1195 : decode cL_law 1195 = .ok (.iload 4, 2) := by decide +kernel
theorem dL_law_1197 : decode cL_law 1197 = .ok (.iconst 2, 1) := by decide +kernel
theorem dL_law_1198 : decode cL_law 1198 = .ok (.iadd, 1) := by decide +kernel
theorem dL_law_1199 : decode cL_law 1199 = .ok (.iaload, 1) := by decide +kernel
theorem dL_law_1200 : decode cL_law 1200 = .ok (.aload_n 0, 1) := by decide +kernel
theorem dL_law_1201 : decode cL_law 1201 = .ok (.iload 4, 2) := by decide +kernel
theorem dL_law_1203 : decode cL_law 1203 = .ok (.iconst 3, 1) := by decide +kernel
theorem dL_law_1204 : decode cL_law 1204 = .ok (.iadd, 1) := by decide +kernel
theorem dL_law_1205 : decode cL_law 1205 = .ok (.iaload, 1) := by decide +kernel
theorem dL_law_1206 : decode cL_law 1206 = .ok (.aload_n 0, 1) := by decide +kernel
theorem dL_law_1207 : decode cL_law 1207 = .ok (.iload 4, 2) := by decide +kernel
theorem dL_law_1209 : decode cL_law 1209 = .ok (.iconst 4, 1) := by decide +kernel
theorem dL_law_1210 : decode cL_law 1210 = .ok (.iadd, 1) := by decide +kernel
theorem dL_law_1211 : decode cL_law 1211 = .ok (.iaload, 1) := by decide +kernel
theorem dL_law_1212 : decode cL_law 1212 = .ok (.aload_n 0, 1) := by decide +kernel
theorem dL_law_1213 : decode cL_law 1213 = .ok (.iload 4, 2) := by decide +kernel
theorem dL_law_1215 : decode cL_law 1215 = .ok (.iconst 5, 1) := by decide +kernel
theorem dL_law_1216 : decode cL_law 1216 = .ok (.iadd, 1) := by decide +kernel
theorem dL_law_1217 : decode cL_law 1217 = .ok (.iaload, 1) := by decide +kernel
theorem dL_law_1218 : decode cL_law 1218 = .ok (.aload_n 3, 1) := by decide +kernel
theorem dL_law_1219 : decode cL_law 1219 = .ok (.invokestatic 150, 3) := by decide +kernel
theorem dL_law_1222 : decode cL_law 1222 = .ok (.istore 5, 2) := by decide +kernel
theorem dL_law_1224 : decode cL_law 1224 = .ok (.aload_n 2, 1) := by decide +kernel
theorem dL_law_1225 : decode cL_law 1225 = .ok (.aload_n 0, 1) := by decide +kernel
theorem dL_law_1226 : decode cL_law 1226 = .ok (.iload 4, 2) := by decide +kernel
theorem dL_law_1228 : decode cL_law 1228 = .ok (.iconst 1, 1) := by decide +kernel
theorem dL_law_1229 : decode cL_law 1229 = .ok (.iadd, 1) := by decide +kernel
theorem dL_law_1230 : decode cL_law 1230 = .ok (.iaload, 1) := by decide +kernel
theorem dL_law_1231 : decode cL_law 1231 = .ok (.aload_n 0, 1) := by decide +kernel
theorem dL_law_1232 : decode cL_law 1232 = .ok (.iload 4, 2) := by decide +kernel
theorem dL_law_1234 : decode cL_law 1234 = .ok (.iconst 2, 1) := by decide +kernel
theorem dL_law_1235 : decode cL_law 1235 = .ok (.iadd, 1) := by decide +kernel
theorem dL_law_1236 : decode cL_law 1236 = .ok (.iaload, 1) := by decide +kernel
theorem dL_law_1237 : decode cL_law 1237 = .ok (.aload_n 0, 1) := by decide +kernel
theorem dL_law_1238 : decode cL_law 1238 = .ok (.iload 4, 2) := by decide +kernel
theorem dL_law_1240 : decode cL_law 1240 = .ok (.iconst 3, 1) := by decide +kernel
theorem dL_law_1241 : decode cL_law 1241 = .ok (.iadd, 1) := by decide +kernel
theorem dL_law_1242 : decode cL_law 1242 = .ok (.iaload, 1) := by decide +kernel
theorem dL_law_1243 : decode cL_law 1243 = .ok (.aload_n 0, 1) := by decide +kernel
theorem dL_law_1244 : decode cL_law 1244 = .ok (.iload 4, 2) := by decide +kernel
theorem dL_law_1246 : decode cL_law 1246 = .ok (.iconst 4, 1) := by decide +kernel
theorem dL_law_1247 : decode cL_law 1247 = .ok (.iadd, 1) := by decide +kernel
theorem dL_law_1248 : decode cL_law 1248 = .ok (.iaload, 1) := by decide +kernel
theorem dL_law_1249 : decode cL_law 1249 = .ok (.aload_n 0, 1) := by decide +kernel
theorem dL_law_1250 : decode cL_law 1250 = .ok (.iload 4, 2) := by decide +kernel
theorem dL_law_1252 : decode cL_law 1252 = .ok (.iconst 5, 1) := by decide +kernel
theorem dL_law_1253 : decode cL_law 1253 = .ok (.iadd, 1) := by decide +kernel
theorem dL_law_1254 : decode cL_law 1254 = .ok (.iaload, 1) := by decide +kernel
theorem dL_law_1255 : decode cL_law 1255 = .ok (.invokevirtual 153, 3) := by decide +kernel
theorem dL_law_1258 : decode cL_law 1258 = .ok (.istore 6, 2) := by decide +kernel
theorem dL_law_1260 : decode cL_law 1260 = .ok (.aload_n 2, 1) := by decide +kernel
theorem dL_law_1261 : decode cL_law 1261 = .ok (.invokevirtual 90, 3) := by decide +kernel
theorem dL_law_1264 : decode cL_law 1264 = .ok (.iload 5, 2) := by decide +kernel
theorem dL_law_1266 : decode cL_law 1266 = .ok (.if_icmp .eq 5, 3) := by decide +kernel
theorem dL_law_1269 : decode cL_law 1269 = .ok (.iconst 0, 1) := by decide +kernel
theorem dL_law_1270 : decode cL_law 1270 = .ok (.ireturn, 1) := by decide +kernel
theorem dL_law_1271 : decode cL_law 1271 = .ok (.iload 5, 2) := by decide +kernel
theorem dL_law_1273 : decode cL_law 1273 = .ok (.ifCond .ne 15, 3) := by decide +kernel
theorem dL_law_1276 : decode cL_law 1276 = .ok (.aload_n 3, 1) := by decide +kernel
theorem dL_law_1277 : decode cL_law 1277 = .ok (.iconst 0, 1) := by decide +kernel
theorem dL_law_1278 : decode cL_law 1278 = .ok (.laload, 1) := by decide +kernel
theorem dL_law_1279 : decode cL_law 1279 = .ok (.iload 6, 2) := by decide +kernel
theorem dL_law_1281 : decode cL_law 1281 = .ok (.i2l, 1) := by decide +kernel
theorem dL_law_1282 : decode cL_law 1282 = .ok (.lcmp, 1) := by decide +kernel
theorem dL_law_1283 : decode cL_law 1283 = .ok (.ifCond .eq 5, 3) := by decide +kernel
theorem dL_law_1286 : decode cL_law 1286 = .ok (.iconst 0, 1) := by decide +kernel
theorem dL_law_1287 : decode cL_law 1287 = .ok (.ireturn, 1) := by decide +kernel
theorem dL_law_1288 : decode cL_law 1288 = .ok (.goto 382, 3) := by decide +kernel
theorem dL_law_1291 : decode cL_law 1291 = .ok (.aload_n 1, 1) := by decide +kernel
theorem dL_law_1292 : decode cL_law 1292 = .ok (.aload_n 0, 1) := by decide +kernel
theorem dL_law_1293 : decode cL_law 1293 = .ok (.iload 4, 2) := by decide +kernel
theorem dL_law_1295 : decode cL_law 1295 = .ok (.iconst 1, 1) := by decide +kernel
theorem dL_law_1296 : decode cL_law 1296 = .ok (.iadd, 1) := by decide +kernel
theorem dL_law_1297 : decode cL_law 1297 = .ok (.iaload, 1) := by decide +kernel
theorem dL_law_1298 : decode cL_law 1298 = .ok (.aload_n 0, 1) := by decide +kernel
theorem dL_law_1299 : decode cL_law 1299 = .ok (.iload 4, 2) := by decide +kernel
theorem dL_law_1301 : decode cL_law 1301 = .ok (.iconst 2, 1) := by decide +kernel
theorem dL_law_1302 : decode cL_law 1302 = .ok (.iadd, 1) := by decide +kernel
theorem dL_law_1303 : decode cL_law 1303 = .ok (.iaload, 1) := by decide +kernel
theorem dL_law_1304 : decode cL_law 1304 = .ok (.aload_n 0, 1) := by decide +kernel
theorem dL_law_1305 : decode cL_law 1305 = .ok (.iload 4, 2) := by decide +kernel
theorem dL_law_1307 : decode cL_law 1307 = .ok (.iconst 3, 1) := by decide +kernel
theorem dL_law_1308 : decode cL_law 1308 = .ok (.iadd, 1) := by decide +kernel
theorem dL_law_1309 : decode cL_law 1309 = .ok (.iaload, 1) := by decide +kernel
theorem dL_law_1310 : decode cL_law 1310 = .ok (.aload_n 0, 1) := by decide +kernel
theorem dL_law_1311 : decode cL_law 1311 = .ok (.iload 4, 2) := by decide +kernel
theorem dL_law_1313 : decode cL_law 1313 = .ok (.iconst 4, 1) := by decide +kernel
theorem dL_law_1314 : decode cL_law 1314 = .ok (.iadd, 1) := by decide +kernel
theorem dL_law_1315 : decode cL_law 1315 = .ok (.iaload, 1) := by decide +kernel
theorem dL_law_1316 : decode cL_law 1316 = .ok (.ifCond .eq 7, 3) := by decide +kernel
theorem dL_law_1319 : decode cL_law 1319 = .ok (.iconst 1, 1) := by decide +kernel
theorem dL_law_1320 : decode cL_law 1320 = .ok (.goto 4, 3) := by decide +kernel
theorem dL_law_1323 : decode cL_law 1323 = .ok (.iconst 0, 1) := by decide +kernel
theorem dL_law_1324 : decode cL_law 1324 = .ok (.aload_n 3, 1) := by decide +kernel
theorem dL_law_1325 : decode cL_law 1325 = .ok (.invokestatic 154, 3) := by decide +kernel
theorem dL_law_1328 : decode cL_law 1328 = .ok (.istore 5, 2) := by decide +kernel
theorem dL_law_1330 : decode cL_law 1330 = .ok (.aload_n 2, 1) := by decide +kernel
theorem dL_law_1331 : decode cL_law 1331 = .ok (.aload_n 0, 1) := by decide +kernel
theorem dL_law_1332 : decode cL_law 1332 = .ok (.iload 4, 2) := by decide +kernel
theorem dL_law_1334 : decode cL_law 1334 = .ok (.iconst 1, 1) := by decide +kernel
theorem dL_law_1335 : decode cL_law 1335 = .ok (.iadd, 1) := by decide +kernel
theorem dL_law_1336 : decode cL_law 1336 = .ok (.iaload, 1) := by decide +kernel
theorem dL_law_1337 : decode cL_law 1337 = .ok (.aload_n 0, 1) := by decide +kernel
theorem dL_law_1338 : decode cL_law 1338 = .ok (.iload 4, 2) := by decide +kernel
theorem dL_law_1340 : decode cL_law 1340 = .ok (.iconst 2, 1) := by decide +kernel
theorem dL_law_1341 : decode cL_law 1341 = .ok (.iadd, 1) := by decide +kernel
theorem dL_law_1342 : decode cL_law 1342 = .ok (.iaload, 1) := by decide +kernel
theorem dL_law_1343 : decode cL_law 1343 = .ok (.aload_n 0, 1) := by decide +kernel
theorem dL_law_1344 : decode cL_law 1344 = .ok (.iload 4, 2) := by decide +kernel
theorem dL_law_1346 : decode cL_law 1346 = .ok (.iconst 3, 1) := by decide +kernel
theorem dL_law_1347 : decode cL_law 1347 = .ok (.iadd, 1) := by decide +kernel
theorem dL_law_1348 : decode cL_law 1348 = .ok (.iaload, 1) := by decide +kernel
theorem dL_law_1349 : decode cL_law 1349 = .ok (.aload_n 0, 1) := by decide +kernel
theorem dL_law_1350 : decode cL_law 1350 = .ok (.iload 4, 2) := by decide +kernel
theorem dL_law_1352 : decode cL_law 1352 = .ok (.iconst 4, 1) := by decide +kernel
theorem dL_law_1353 : decode cL_law 1353 = .ok (.iadd, 1) := by decide +kernel
theorem dL_law_1354 : decode cL_law 1354 = .ok (.iaload, 1) := by decide +kernel
theorem dL_law_1355 : decode cL_law 1355 = .ok (.ifCond .eq 7, 3) := by decide +kernel
theorem dL_law_1358 : decode cL_law 1358 = .ok (.iconst 1, 1) := by decide +kernel
theorem dL_law_1359 : decode cL_law 1359 = .ok (.goto 4, 3) := by decide +kernel
theorem dL_law_1362 : decode cL_law 1362 = .ok (.iconst 0, 1) := by decide +kernel
theorem dL_law_1363 : decode cL_law 1363 = .ok (.invokevirtual 157, 3) := by decide +kernel
theorem dL_law_1366 : decode cL_law 1366 = .ok (.istore 6, 2) := by decide +kernel
theorem dL_law_1368 : decode cL_law 1368 = .ok (.aload_n 2, 1) := by decide +kernel
theorem dL_law_1369 : decode cL_law 1369 = .ok (.invokevirtual 90, 3) := by decide +kernel
theorem dL_law_1372 : decode cL_law 1372 = .ok (.iload 5, 2) := by decide +kernel
theorem dL_law_1374 : decode cL_law 1374 = .ok (.if_icmp .eq 5, 3) := by decide +kernel
theorem dL_law_1377 : decode cL_law 1377 = .ok (.iconst 0, 1) := by decide +kernel
theorem dL_law_1378 : decode cL_law 1378 = .ok (.ireturn, 1) := by decide +kernel
theorem dL_law_1379 : decode cL_law 1379 = .ok (.iload 5, 2) := by decide +kernel
theorem dL_law_1381 : decode cL_law 1381 = .ok (.ifCond .ne 15, 3) := by decide +kernel
theorem dL_law_1384 : decode cL_law 1384 = .ok (.aload_n 3, 1) := by decide +kernel
theorem dL_law_1385 : decode cL_law 1385 = .ok (.iconst 0, 1) := by decide +kernel
theorem dL_law_1386 : decode cL_law 1386 = .ok (.laload, 1) := by decide +kernel
theorem dL_law_1387 : decode cL_law 1387 = .ok (.iload 6, 2) := by decide +kernel
theorem dL_law_1389 : decode cL_law 1389 = .ok (.i2l, 1) := by decide +kernel
theorem dL_law_1390 : decode cL_law 1390 = .ok (.lcmp, 1) := by decide +kernel
theorem dL_law_1391 : decode cL_law 1391 = .ok (.ifCond .eq 5, 3) := by decide +kernel
theorem dL_law_1394 : decode cL_law 1394 = .ok (.iconst 0, 1) := by decide +kernel
theorem dL_law_1395 : decode cL_law 1395 = .ok (.ireturn, 1) := by decide +kernel
theorem dL_law_1396 : decode cL_law 1396 = .ok (.goto 274, 3) := by decide +kernel
theorem dL_law_1399 : decode cL_law 1399 = .ok (.aload_n 1, 1) := by decide +kernel
theorem dL_law_1400 : decode cL_law 1400 = .ok (.aload_n 0, 1) := by decide +kernel
theorem dL_law_1401 : decode cL_law 1401 = .ok (.iload 4, 2) := by decide +kernel
theorem dL_law_1403 : decode cL_law 1403 = .ok (.iconst 1, 1) := by decide +kernel
theorem dL_law_1404 : decode cL_law 1404 = .ok (.iadd, 1) := by decide +kernel
theorem dL_law_1405 : decode cL_law 1405 = .ok (.iaload, 1) := by decide +kernel
theorem dL_law_1406 : decode cL_law 1406 = .ok (.aload_n 0, 1) := by decide +kernel
theorem dL_law_1407 : decode cL_law 1407 = .ok (.iload 4, 2) := by decide +kernel
theorem dL_law_1409 : decode cL_law 1409 = .ok (.iconst 2, 1) := by decide +kernel
theorem dL_law_1410 : decode cL_law 1410 = .ok (.iadd, 1) := by decide +kernel
theorem dL_law_1411 : decode cL_law 1411 = .ok (.iaload, 1) := by decide +kernel
theorem dL_law_1412 : decode cL_law 1412 = .ok (.aload_n 0, 1) := by decide +kernel
theorem dL_law_1413 : decode cL_law 1413 = .ok (.iload 4, 2) := by decide +kernel
theorem dL_law_1415 : decode cL_law 1415 = .ok (.iconst 3, 1) := by decide +kernel
theorem dL_law_1416 : decode cL_law 1416 = .ok (.iadd, 1) := by decide +kernel
theorem dL_law_1417 : decode cL_law 1417 = .ok (.iaload, 1) := by decide +kernel
theorem dL_law_1418 : decode cL_law 1418 = .ok (.ifCond .eq 7, 3) := by decide +kernel
theorem dL_law_1421 : decode cL_law 1421 = .ok (.iconst 1, 1) := by decide +kernel
theorem dL_law_1422 : decode cL_law 1422 = .ok (.goto 4, 3) := by decide +kernel
theorem dL_law_1425 : decode cL_law 1425 = .ok (.iconst 0, 1) := by decide +kernel
theorem dL_law_1426 : decode cL_law 1426 = .ok (.aload_n 0, 1) := by decide +kernel
theorem dL_law_1427 : decode cL_law 1427 = .ok (.iload 4, 2) := by decide +kernel
theorem dL_law_1429 : decode cL_law 1429 = .ok (.iconst 4, 1) := by decide +kernel
theorem dL_law_1430 : decode cL_law 1430 = .ok (.iadd, 1) := by decide +kernel
theorem dL_law_1431 : decode cL_law 1431 = .ok (.iaload, 1) := by decide +kernel
theorem dL_law_1432 : decode cL_law 1432 = .ok (.aload_n 3, 1) := by decide +kernel
theorem dL_law_1433 : decode cL_law 1433 = .ok (.invokestatic 158, 3) := by decide +kernel
theorem dL_law_1436 : decode cL_law 1436 = .ok (.istore 5, 2) := by decide +kernel
theorem dL_law_1438 : decode cL_law 1438 = .ok (.aload_n 2, 1) := by decide +kernel
theorem dL_law_1439 : decode cL_law 1439 = .ok (.aload_n 0, 1) := by decide +kernel
theorem dL_law_1440 : decode cL_law 1440 = .ok (.iload 4, 2) := by decide +kernel
theorem dL_law_1442 : decode cL_law 1442 = .ok (.iconst 1, 1) := by decide +kernel
theorem dL_law_1443 : decode cL_law 1443 = .ok (.iadd, 1) := by decide +kernel
theorem dL_law_1444 : decode cL_law 1444 = .ok (.iaload, 1) := by decide +kernel
theorem dL_law_1445 : decode cL_law 1445 = .ok (.aload_n 0, 1) := by decide +kernel
theorem dL_law_1446 : decode cL_law 1446 = .ok (.iload 4, 2) := by decide +kernel
theorem dL_law_1448 : decode cL_law 1448 = .ok (.iconst 2, 1) := by decide +kernel
theorem dL_law_1449 : decode cL_law 1449 = .ok (.iadd, 1) := by decide +kernel
theorem dL_law_1450 : decode cL_law 1450 = .ok (.iaload, 1) := by decide +kernel
theorem dL_law_1451 : decode cL_law 1451 = .ok (.aload_n 0, 1) := by decide +kernel
theorem dL_law_1452 : decode cL_law 1452 = .ok (.iload 4, 2) := by decide +kernel
theorem dL_law_1454 : decode cL_law 1454 = .ok (.iconst 3, 1) := by decide +kernel
theorem dL_law_1455 : decode cL_law 1455 = .ok (.iadd, 1) := by decide +kernel
theorem dL_law_1456 : decode cL_law 1456 = .ok (.iaload, 1) := by decide +kernel
theorem dL_law_1457 : decode cL_law 1457 = .ok (.ifCond .eq 7, 3) := by decide +kernel
theorem dL_law_1460 : decode cL_law 1460 = .ok (.iconst 1, 1) := by decide +kernel
theorem dL_law_1461 : decode cL_law 1461 = .ok (.goto 4, 3) := by decide +kernel
theorem dL_law_1464 : decode cL_law 1464 = .ok (.iconst 0, 1) := by decide +kernel
theorem dL_law_1465 : decode cL_law 1465 = .ok (.aload_n 0, 1) := by decide +kernel
theorem dL_law_1466 : decode cL_law 1466 = .ok (.iload 4, 2) := by decide +kernel
theorem dL_law_1468 : decode cL_law 1468 = .ok (.iconst 4, 1) := by decide +kernel
theorem dL_law_1469 : decode cL_law 1469 = .ok (.iadd, 1) := by decide +kernel
theorem dL_law_1470 : decode cL_law 1470 = .ok (.iaload, 1) := by decide +kernel
theorem dL_law_1471 : decode cL_law 1471 = .ok (.invokevirtual 161, 3) := by decide +kernel
theorem dL_law_1474 : decode cL_law 1474 = .ok (.istore 6, 2) := by decide +kernel
theorem dL_law_1476 : decode cL_law 1476 = .ok (.aload_n 2, 1) := by decide +kernel
theorem dL_law_1477 : decode cL_law 1477 = .ok (.invokevirtual 90, 3) := by decide +kernel
theorem dL_law_1480 : decode cL_law 1480 = .ok (.iload 5, 2) := by decide +kernel
theorem dL_law_1482 : decode cL_law 1482 = .ok (.if_icmp .eq 5, 3) := by decide +kernel
theorem dL_law_1485 : decode cL_law 1485 = .ok (.iconst 0, 1) := by decide +kernel
theorem dL_law_1486 : decode cL_law 1486 = .ok (.ireturn, 1) := by decide +kernel
theorem dL_law_1487 : decode cL_law 1487 = .ok (.iload 5, 2) := by decide +kernel
theorem dL_law_1489 : decode cL_law 1489 = .ok (.ifCond .ne 15, 3) := by decide +kernel
theorem dL_law_1492 : decode cL_law 1492 = .ok (.aload_n 3, 1) := by decide +kernel
theorem dL_law_1493 : decode cL_law 1493 = .ok (.iconst 0, 1) := by decide +kernel
theorem dL_law_1494 : decode cL_law 1494 = .ok (.laload, 1) := by decide +kernel
theorem dL_law_1495 : decode cL_law 1495 = .ok (.iload 6, 2) := by decide +kernel
theorem dL_law_1497 : decode cL_law 1497 = .ok (.i2l, 1) := by decide +kernel
theorem dL_law_1498 : decode cL_law 1498 = .ok (.lcmp, 1) := by decide +kernel
theorem dL_law_1499 : decode cL_law 1499 = .ok (.ifCond .eq 5, 3) := by decide +kernel
theorem dL_law_1502 : decode cL_law 1502 = .ok (.iconst 0, 1) := by decide +kernel
theorem dL_law_1503 : decode cL_law 1503 = .ok (.ireturn, 1) := by decide +kernel
theorem dL_law_1504 : decode cL_law 1504 = .ok (.goto 166, 3) := by decide +kernel
theorem dL_law_1507 : decode cL_law 1507 = .ok (.aload_n 1, 1) := by decide +kernel
theorem dL_law_1508 : decode cL_law 1508 = .ok (.aload_n 0, 1) := by decide +kernel
theorem dL_law_1509 : decode cL_law 1509 = .ok (.iload 4, 2) := by decide +kernel
theorem dL_law_1511 : decode cL_law 1511 = .ok (.iconst 1, 1) := by decide +kernel
theorem dL_law_1512 : decode cL_law 1512 = .ok (.iadd, 1) := by decide +kernel
theorem dL_law_1513 : decode cL_law 1513 = .ok (.iaload, 1) := by decide +kernel
theorem dL_law_1514 : decode cL_law 1514 = .ok (.aload_n 0, 1) := by decide +kernel
theorem dL_law_1515 : decode cL_law 1515 = .ok (.iload 4, 2) := by decide +kernel
theorem dL_law_1517 : decode cL_law 1517 = .ok (.iconst 2, 1) := by decide +kernel
theorem dL_law_1518 : decode cL_law 1518 = .ok (.iadd, 1) := by decide +kernel
theorem dL_law_1519 : decode cL_law 1519 = .ok (.iaload, 1) := by decide +kernel
theorem dL_law_1520 : decode cL_law 1520 = .ok (.aload_n 3, 1) := by decide +kernel
theorem dL_law_1521 : decode cL_law 1521 = .ok (.invokestatic 162, 3) := by decide +kernel
theorem dL_law_1524 : decode cL_law 1524 = .ok (.istore 5, 2) := by decide +kernel
theorem dL_law_1526 : decode cL_law 1526 = .ok (.aload_n 2, 1) := by decide +kernel
theorem dL_law_1527 : decode cL_law 1527 = .ok (.aload_n 0, 1) := by decide +kernel
theorem dL_law_1528 : decode cL_law 1528 = .ok (.iload 4, 2) := by decide +kernel
theorem dL_law_1530 : decode cL_law 1530 = .ok (.iconst 1, 1) := by decide +kernel
theorem dL_law_1531 : decode cL_law 1531 = .ok (.iadd, 1) := by decide +kernel
theorem dL_law_1532 : decode cL_law 1532 = .ok (.iaload, 1) := by decide +kernel
theorem dL_law_1533 : decode cL_law 1533 = .ok (.aload_n 0, 1) := by decide +kernel
theorem dL_law_1534 : decode cL_law 1534 = .ok (.iload 4, 2) := by decide +kernel
theorem dL_law_1536 : decode cL_law 1536 = .ok (.iconst 2, 1) := by decide +kernel
theorem dL_law_1537 : decode cL_law 1537 = .ok (.iadd, 1) := by decide +kernel
theorem dL_law_1538 : decode cL_law 1538 = .ok (.iaload, 1) := by decide +kernel
theorem dL_law_1539 : decode cL_law 1539 = .ok (.invokevirtual 164, 3) := by decide +kernel
theorem dL_law_1542 : decode cL_law 1542 = .ok (.istore 6, 2) := by decide +kernel
theorem dL_law_1544 : decode cL_law 1544 = .ok (.aload_n 2, 1) := by decide +kernel
theorem dL_law_1545 : decode cL_law 1545 = .ok (.invokevirtual 90, 3) := by decide +kernel
theorem dL_law_1548 : decode cL_law 1548 = .ok (.iload 5, 2) := by decide +kernel
theorem dL_law_1550 : decode cL_law 1550 = .ok (.if_icmp .eq 5, 3) := by decide +kernel
theorem dL_law_1553 : decode cL_law 1553 = .ok (.iconst 0, 1) := by decide +kernel
theorem dL_law_1554 : decode cL_law 1554 = .ok (.ireturn, 1) := by decide +kernel
theorem dL_law_1555 : decode cL_law 1555 = .ok (.iload 5, 2) := by decide +kernel
theorem dL_law_1557 : decode cL_law 1557 = .ok (.ifCond .ne 15, 3) := by decide +kernel
theorem dL_law_1560 : decode cL_law 1560 = .ok (.aload_n 3, 1) := by decide +kernel
theorem dL_law_1561 : decode cL_law 1561 = .ok (.iconst 0, 1) := by decide +kernel
theorem dL_law_1562 : decode cL_law 1562 = .ok (.laload, 1) := by decide +kernel
theorem dL_law_1563 : decode cL_law 1563 = .ok (.iload 6, 2) := by decide +kernel
theorem dL_law_1565 : decode cL_law 1565 = .ok (.i2l, 1) := by decide +kernel
theorem dL_law_1566 : decode cL_law 1566 = .ok (.lcmp, 1) := by decide +kernel
theorem dL_law_1567 : decode cL_law 1567 = .ok (.ifCond .eq 5, 3) := by decide +kernel
theorem dL_law_1570 : decode cL_law 1570 = .ok (.iconst 0, 1) := by decide +kernel
theorem dL_law_1571 : decode cL_law 1571 = .ok (.ireturn, 1) := by decide +kernel
theorem dL_law_1572 : decode cL_law 1572 = .ok (.goto 98, 3) := by decide +kernel
theorem dL_law_1575 : decode cL_law 1575 = .ok (.aload_n 1, 1) := by decide +kernel
theorem dL_law_1576 : decode cL_law 1576 = .ok (.aload_n 0, 1) := by decide +kernel
theorem dL_law_1577 : decode cL_law 1577 = .ok (.iload 4, 2) := by decide +kernel
theorem dL_law_1579 : decode cL_law 1579 = .ok (.iconst 1, 1) := by decide +kernel
theorem dL_law_1580 : decode cL_law 1580 = .ok (.iadd, 1) := by decide +kernel
theorem dL_law_1581 : decode cL_law 1581 = .ok (.iaload, 1) := by decide +kernel
theorem dL_law_1582 : decode cL_law 1582 = .ok (.aload_n 0, 1) := by decide +kernel
theorem dL_law_1583 : decode cL_law 1583 = .ok (.iload 4, 2) := by decide +kernel
theorem dL_law_1585 : decode cL_law 1585 = .ok (.iconst 2, 1) := by decide +kernel
theorem dL_law_1586 : decode cL_law 1586 = .ok (.iadd, 1) := by decide +kernel
theorem dL_law_1587 : decode cL_law 1587 = .ok (.iaload, 1) := by decide +kernel
theorem dL_law_1588 : decode cL_law 1588 = .ok (.aload_n 3, 1) := by decide +kernel
theorem dL_law_1589 : decode cL_law 1589 = .ok (.invokestatic 165, 3) := by decide +kernel
theorem dL_law_1592 : decode cL_law 1592 = .ok (.istore 5, 2) := by decide +kernel
theorem dL_law_1594 : decode cL_law 1594 = .ok (.aload_n 2, 1) := by decide +kernel
theorem dL_law_1595 : decode cL_law 1595 = .ok (.aload_n 0, 1) := by decide +kernel
theorem dL_law_1596 : decode cL_law 1596 = .ok (.iload 4, 2) := by decide +kernel
theorem dL_law_1598 : decode cL_law 1598 = .ok (.iconst 1, 1) := by decide +kernel
theorem dL_law_1599 : decode cL_law 1599 = .ok (.iadd, 1) := by decide +kernel
theorem dL_law_1600 : decode cL_law 1600 = .ok (.iaload, 1) := by decide +kernel
theorem dL_law_1601 : decode cL_law 1601 = .ok (.aload_n 0, 1) := by decide +kernel
theorem dL_law_1602 : decode cL_law 1602 = .ok (.iload 4, 2) := by decide +kernel
theorem dL_law_1604 : decode cL_law 1604 = .ok (.iconst 2, 1) := by decide +kernel
theorem dL_law_1605 : decode cL_law 1605 = .ok (.iadd, 1) := by decide +kernel
theorem dL_law_1606 : decode cL_law 1606 = .ok (.iaload, 1) := by decide +kernel
theorem dL_law_1607 : decode cL_law 1607 = .ok (.invokevirtual 167, 3) := by decide +kernel
theorem dL_law_1610 : decode cL_law 1610 = .ok (.istore 6, 2) := by decide +kernel
theorem dL_law_1612 : decode cL_law 1612 = .ok (.aload_n 2, 1) := by decide +kernel
theorem dL_law_1613 : decode cL_law 1613 = .ok (.invokevirtual 90, 3) := by decide +kernel
theorem dL_law_1616 : decode cL_law 1616 = .ok (.iload 5, 2) := by decide +kernel
theorem dL_law_1618 : decode cL_law 1618 = .ok (.if_icmp .eq 5, 3) := by decide +kernel
theorem dL_law_1621 : decode cL_law 1621 = .ok (.iconst 0, 1) := by decide +kernel
theorem dL_law_1622 : decode cL_law 1622 = .ok (.ireturn, 1) := by decide +kernel
theorem dL_law_1623 : decode cL_law 1623 = .ok (.iload 5, 2) := by decide +kernel
theorem dL_law_1625 : decode cL_law 1625 = .ok (.ifCond .ne 15, 3) := by decide +kernel
theorem dL_law_1628 : decode cL_law 1628 = .ok (.aload_n 3, 1) := by decide +kernel
theorem dL_law_1629 : decode cL_law 1629 = .ok (.iconst 0, 1) := by decide +kernel
theorem dL_law_1630 : decode cL_law 1630 = .ok (.laload, 1) := by decide +kernel
theorem dL_law_1631 : decode cL_law 1631 = .ok (.iload 6, 2) := by decide +kernel
theorem dL_law_1633 : decode cL_law 1633 = .ok (.i2l, 1) := by decide +kernel
theorem dL_law_1634 : decode cL_law 1634 = .ok (.lcmp, 1) := by decide +kernel
theorem dL_law_1635 : decode cL_law 1635 = .ok (.ifCond .eq 5, 3) := by decide +kernel
theorem dL_law_1638 : decode cL_law 1638 = .ok (.iconst 0, 1) := by decide +kernel
theorem dL_law_1639 : decode cL_law 1639 = .ok (.ireturn, 1) := by decide +kernel
theorem dL_law_1640 : decode cL_law 1640 = .ok (.goto 30, 3) := by decide +kernel
theorem dL_law_1643 : decode cL_law 1643 = .ok (.aload_n 1, 1) := by decide +kernel
theorem dL_law_1644 : decode cL_law 1644 = .ok (.invokevirtual 168, 3) := by decide +kernel
theorem dL_law_1647 : decode cL_law 1647 = .ok (.aload_n 2, 1) := by decide +kernel
theorem dL_law_1648 : decode cL_law 1648 = .ok (.invokevirtual 171, 3) := by decide +kernel
theorem dL_law_1651 : decode cL_law 1651 = .ok (.if_icmp .eq 19, 3) := by decide +kernel
theorem dL_law_1654 : decode cL_law 1654 = .ok (.iconst 0, 1) := by decide +kernel
theorem dL_law_1655 : decode cL_law 1655 = .ok (.ireturn, 1) := by decide +kernel
theorem dL_law_1656 : decode cL_law 1656 = .ok (.aload_n 1, 1) := by decide +kernel
theorem dL_law_1657 : decode cL_law 1657 = .ok (.invokevirtual 172, 3) := by decide +kernel
theorem dL_law_1660 : decode cL_law 1660 = .ok (.aload_n 2, 1) := by decide +kernel
theorem dL_law_1661 : decode cL_law 1661 = .ok (.invokevirtual 176, 3) := by decide +kernel
theorem dL_law_1664 : decode cL_law 1664 = .ok (.lcmp, 1) := by decide +kernel
theorem dL_law_1665 : decode cL_law 1665 = .ok (.ifCond .eq 5, 3) := by decide +kernel
theorem dL_law_1668 : decode cL_law 1668 = .ok (.iconst 0, 1) := by decide +kernel
theorem dL_law_1669 : decode cL_law 1669 = .ok (.ireturn, 1) := by decide +kernel
theorem dL_law_1670 : decode cL_law 1670 = .ok (.iinc 4 6, 3) := by decide +kernel
theorem dL_law_1673 : decode cL_law 1673 = .ok (.goto (-1650), 3) := by decide +kernel
theorem dL_law_1676 : decode cL_law 1676 = .ok (.iconst 1, 1) := by decide +kernel
theorem dL_law_1677 : decode cL_law 1677 = .ok (.ireturn, 1) := by decide +kernel
end
section
/-! THE PURE MACHINE (AM). A method is a tuple: name, code, locals, answer, frames and locals' words that its callees take. A heap: a cell for each place below NC; references are places. Above: 1000+j the j-th static table, 2000+j the j-th text. -/
abbrev mt : Type := MethodName × ByteArray × Nat × Option FieldType × Nat × Nat
abbrev hp : Type := Nat → va_E
abbrev qt : Type := Value → hp → Prop
abbrev xt : Type := Option String → mt → Nat → List Value → List Value → hp → qt → Prop
def gT : List Cond := lw_tbl.filter goodWord
theorem gT_mem {w : Cond} (i : Nat) (h : lw_tbl[i]? = some w) (g : goodWord w = true) : w ∈ gT := List.mem_filter.mpr ⟨List.mem_of_getElem? h, g⟩
theorem gT_good {w : Cond} (h : w ∈ gT) : (w.onTables && w.keeps) = true ∨ ∃ ty, w = .arrayClass ty := good_of_word (List.mem_filter.mp h).2
/-- a class of objects: its place among the kit's classes, its table of fields -/
def ckC (ci : Nat) (C : String) (T : u_T) (N : Nat) (ty : Nat → FieldType) : Prop := vwCl[ci]? = some (C, T, N) ∧ (∀ w ∈ u_ws C T N, w ∈ gT) ∧ (∀ k, k < N → parseFieldDescriptor (T k).2.2.1 = some (ty k)) ∧ ∀ a, a < N → ∀ b, b < N → a ≠ b → (T a).2.1 ≠ (T b).2.1
/-- the four static tables: NEIGHBOUR_X, NEIGHBOUR_Y, WAY_X, WAY_Y -/
def tabF (j i : Nat) : Int32 := (([[0, -1, 1, 0], [-1, 0, 0, 1], [0, 0, -1, 1], [-1, 1, 0, 0]] : List (List Int32)).getD j []).getD i 0
def tabN (j : Nat) : String := (["NEIGHBOUR_X", "NEIGHBOUR_Y", "WAY_X", "WAY_Y"] : List String).getD j ""
def pad (n : Nat) (vs : List Value) : List Value := vs ++ List.replicate (n - vs.length) .null
/-- a call's link: virtual (C: the receiver's class) or static -/
def lnB (M : mt) (ix : Nat) (Y : mt) (n : Nat) : Prop := Cond.methodLink M.1.cls ix Y.1 ∈ gT ∧ Cond.initialized Y.1.cls ∈ gT ∧ Cond.code Y.1 Y.2.1 Y.2.2.1 Y.2.2.2.1 ∈ gT ∧ (Y.1.cls ≠ "java/lang/invoke/MethodHandle" ∧ Y.1.cls ≠ "java/lang/invoke/VarHandle" ∧ (parseMethodDescriptor Y.1.desc).map (fun d => d.parameters.length) = some n) ∧ plainName Y.1.cls = true ∧ Y.2.2.2.2.1 + 1 ≤ M.2.2.2.2.1 ∧ 8 + (Y.2.2.1 + 11) + Y.2.2.2.2.2 ≤ M.2.2.2.2.2
def lnV (M : mt) (ix : Nat) (Y : mt) (n : Nat) : Prop := lnB M ix Y n ∧ Cond.instanceMethod Y.1 ∈ gT ∧ Cond.selects Y.1.cls Y.1 Y.1 ∈ gT ∧ n + 1 ≤ Y.2.2.1
def lnS (M : mt) (ix : Nat) (Y : mt) (n : Nat) : Prop := lnB M ix Y n ∧ Cond.static Y.1 ∈ gT ∧ n ≤ Y.2.2.1
def cat1 (vs : List Value) : Prop := vs.all (fun v => v.category == 1) = true
def catS (S : List Value) : Prop := (S.map fun v => v.category).sum ≤ 8
/-- the static tables' reads: class, entry, which -/
def getsL : List (String × Nat × Nat) := [("KitePainter", 205, 2), ("KitePainter", 212, 3), ("KitePainter$RegionFinder", 62, 0), ("KitePainter$RegionFinder", 65, 1), ("KitePainter$Sail", 132, 0), ("KitePainter$Sail", 135, 1)]
/-- the texts: class, entry, which, the text -/
def strL : List (String × Nat × Nat × String) := [("KitePainter$SetupReader", 103, 0, "kite"), ("KitePainter$SetupReader", 117, 1, "reach"), ("KitePainter$SetupReader", 122, 2, "cloth"), ("KitePainter$SetupReader", 130, 3, "wood"), ("KitePainter$SetupReader", 134, 4, "colour"), ("KitePainter$SetupReader", 140, 5, "mix"), ("KitePainter$SetupReader", 145, 6, "spar"), ("KitePainter$SetupReader", 171, 7, "down"), ("KitePainter$SetupReader", 173, 8, "across"), ("KitePainter$SetupReader", 150, 9, "pattern"), ("KitePainterModel", 177, 0, "kite"), ("KitePainterModel", 144, 1, "reach"), ("KitePainterModel", 149, 2, "cloth"), ("KitePainterModel", 151, 3, "wood"), ("KitePainterModel", 153, 4, "colour"), ("KitePainterModel", 155, 5, "mix"), ("KitePainterModel", 160, 6, "spar"), ("KitePainterModel", 128, 7, "down"), ("KitePainterModel", 134, 8, "across"), ("KitePainterModel", 165, 9, "pattern"), ("KitePainter", 119, 10, "no such number of the state"), ("KitePainter", 249, 11, "no cell of the sail"), ("KitePainter", 148, 12, "no such number of a cell"), ("KitePainter", 254, 13, "a number out of range"), ("KitePainter", 252, 14, "no such pattern"), ("KitePainter", 199, 15, "no such number of a pattern"), ("KitePainter", 225, 16, "the cell has no spar"), ("KitePainter", 228, 17, "the cell is bare")]
/-- the texts' bytes -/
def txtB : List (List Int32) := [[107, 105, 116, 101], [114, 101, 97, 99, 104], [99, 108, 111, 116, 104], [119, 111, 111, 100], [99, 111, 108, 111, 117, 114], [109, 105, 120], [115, 112, 97, 114], [100, 111, 119, 110], [97, 99, 114, 111, 115, 115], [112, 97, 116, 116, 101, 114, 110], [110, 111, 32, 115, 117, 99, 104, 32, 110, 117, 109, 98, 101, 114, 32, 111, 102, 32, 116, 104, 101, 32, 115, 116, 97, 116, 101], [110, 111, 32, 99, 101, 108, 108, 32, 111, 102, 32, 116, 104, 101, 32, 115, 97, 105, 108], [110, 111, 32, 115, 117, 99, 104, 32, 110, 117, 109, 98, 101, 114, 32, 111, 102, 32, 97, 32, 99, 101, 108, 108], [97, 32, 110, 117, 109, 98, 101, 114, 32, 111, 117, 116, 32, 111, 102, 32, 114, 97, 110, 103, 101], [110, 111, 32, 115, 117, 99, 104, 32, 112, 97, 116, 116, 101, 114, 110], [110, 111, 32, 115, 117, 99, 104, 32, 110, 117, 109, 98, 101, 114, 32, 111, 102, 32, 97, 32, 112, 97, 116, 116, 101, 114, 110], [116, 104, 101, 32, 99, 101, 108, 108, 32, 104, 97, 115, 32, 110, 111, 32, 115, 112, 97, 114], [116, 104, 101, 32, 99, 101, 108, 108, 32, 105, 115, 32, 98, 97, 114, 101]]
def txtN : List Nat := [4, 5, 5, 4, 6, 3, 4, 4, 6, 7, 27, 19, 24, 21, 15, 27, 20, 16]
/-- the throws: method, where, the class -/
def thrL : List (MethodName × Nat × String) := [(yX5_state, 173, "java/lang/IllegalArgumentException"), (yX5_cell, 112, "java/lang/IllegalArgumentException"), (yX5_pattern, 61, "java/lang/IllegalArgumentException"), (yX5_strip, 28, "java/lang/IllegalStateException"), (yX5_wash, 26, "java/lang/IllegalStateException"), (yX5_requireCell, 12, "java/lang/IndexOutOfBoundsException"), (yX5_requirePattern, 15, "java/lang/IndexOutOfBoundsException"), (yX5_requireRange, 10, "java/lang/IllegalArgumentException")]
/-- the library's members: class, entry, which: 0 max, 1 min, 2 abs, 3 compare, 4 signum, 5 fill, 6 arraycopy, 7 length, 8 charAt -/
def libL : List (String × Nat × Nat) := [("KitePainter", 170, 2), ("KitePainter$Bleeding", 39, 6), ("KitePainter$History", 25, 1), ("KitePainter$RegionFinder", 21, 5), ("KitePainter$Sail", 62, 5), ("KitePainter$Sail", 68, 6), ("KitePainter$Sail", 85, 3), ("KitePainter$Sail", 94, 0), ("KitePainter$SetupReader", 19, 1), ("KitePainter$SetupReader", 76, 7), ("KitePainter$SetupReader", 81, 8), ("KitePainterModel", 58, 2), ("KitePainterModel", 90, 7), ("KitePainterModel", 95, 8), ("KitePainterModel", 214, 4)]
/-- the room that they take -/
def lbR (M : mt) (f : Nat) : Prop := if f = 8 then 5 ≤ M.2.2.2.2.1 ∧ 110 ≤ M.2.2.2.2.2 else if f = 7 then 3 ≤ M.2.2.2.2.1 ∧ 60 ≤ M.2.2.2.2.2 else 2 ≤ M.2.2.2.2.1 ∧ 50 ≤ M.2.2.2.2.2

section CL
variable (NC : Nat) (X : xt)
def k_iconst : Prop := ∀ {b : Option String} {M : mt} {pc : Nat} {L S : List Value} {h : hp} {Q : qt} {n : Int} {v : Int32}, Int32.ofInt n = v → decode M.2.1 pc = .ok (.iconst n, 1) → X b M (pc + 1) L (.int v :: S) h Q → X b M pc L (S) h Q
def k_bipush : Prop := ∀ {b : Option String} {M : mt} {pc : Nat} {L S : List Value} {h : hp} {Q : qt} {n : Int} {v : Int32}, (Int8.ofInt n).toInt32 = v → decode M.2.1 pc = .ok (.bipush n, 2) → X b M (pc + 2) L (.int v :: S) h Q → X b M pc L (S) h Q
def k_sipush : Prop := ∀ {b : Option String} {M : mt} {pc : Nat} {L S : List Value} {h : hp} {Q : qt} {n : Int} {v : Int32}, (Int16.ofInt n).toInt32 = v → decode M.2.1 pc = .ok (.sipush n, 3) → X b M (pc + 3) L (.int v :: S) h Q → X b M pc L (S) h Q
def k_ldcI : Prop := ∀ {b : Option String} {M : mt} {pc : Nat} {L S : List Value} {h : hp} {Q : qt} {ix : Nat} {v : Int32}, Cond.constant M.1.cls ix v ∈ gT → decode M.2.1 pc = .ok (.ldc ix, 2) → X b M (pc + 2) L (.int v :: S) h Q → X b M pc L (S) h Q
def k_iload_n : Prop := ∀ {b : Option String} {M : mt} {pc : Nat} {L S : List Value} {h : hp} {Q : qt} {k : Fin 4} {i : Nat} {x : Int32}, (k : Nat) = i → L[i]? = some (.int x) → decode M.2.1 pc = .ok (.iload_n k, 1) → X b M (pc + 1) L (.int x :: S) h Q → X b M pc L (S) h Q
def k_iload : Prop := ∀ {b : Option String} {M : mt} {pc : Nat} {L S : List Value} {h : hp} {Q : qt} {i : Nat} {x : Int32}, L[i]? = some (.int x) → decode M.2.1 pc = .ok (.iload i, 2) → X b M (pc + 2) L (.int x :: S) h Q → X b M pc L (S) h Q
def k_aload_n : Prop := ∀ {b : Option String} {M : mt} {pc : Nat} {L S : List Value} {h : hp} {Q : qt} {k : Fin 4} {i : Nat} {x : Nat}, (k : Nat) = i → L[i]? = some (.ref x) → decode M.2.1 pc = .ok (.aload_n k, 1) → X b M (pc + 1) L (.ref x :: S) h Q → X b M pc L (S) h Q
def k_aload : Prop := ∀ {b : Option String} {M : mt} {pc : Nat} {L S : List Value} {h : hp} {Q : qt} {i : Nat} {x : Nat}, L[i]? = some (.ref x) → decode M.2.1 pc = .ok (.aload i, 2) → X b M (pc + 2) L (.ref x :: S) h Q → X b M pc L (S) h Q
def k_iadd : Prop := ∀ {b : Option String} {M : mt} {pc : Nat} {L S : List Value} {h : hp} {Q : qt} {x y : Int32}, decode M.2.1 pc = .ok (.iadd, 1) → X b M (pc + 1) L (.int (x + y) :: S) h Q → X b M pc L (.int y :: .int x :: S) h Q
def k_isub : Prop := ∀ {b : Option String} {M : mt} {pc : Nat} {L S : List Value} {h : hp} {Q : qt} {x y : Int32}, decode M.2.1 pc = .ok (.isub, 1) → X b M (pc + 1) L (.int (x - y) :: S) h Q → X b M pc L (.int y :: .int x :: S) h Q
def k_imul : Prop := ∀ {b : Option String} {M : mt} {pc : Nat} {L S : List Value} {h : hp} {Q : qt} {x y : Int32}, decode M.2.1 pc = .ok (.imul, 1) → X b M (pc + 1) L (.int (x * y) :: S) h Q → X b M pc L (.int y :: .int x :: S) h Q
def k_iand : Prop := ∀ {b : Option String} {M : mt} {pc : Nat} {L S : List Value} {h : hp} {Q : qt} {x y : Int32}, decode M.2.1 pc = .ok (.iand, 1) → X b M (pc + 1) L (.int (x &&& y) :: S) h Q → X b M pc L (.int y :: .int x :: S) h Q
def k_ior : Prop := ∀ {b : Option String} {M : mt} {pc : Nat} {L S : List Value} {h : hp} {Q : qt} {x y : Int32}, decode M.2.1 pc = .ok (.ior, 1) → X b M (pc + 1) L (.int (x ||| y) :: S) h Q → X b M pc L (.int y :: .int x :: S) h Q
def k_ishl : Prop := ∀ {b : Option String} {M : mt} {pc : Nat} {L S : List Value} {h : hp} {Q : qt} {x y : Int32}, decode M.2.1 pc = .ok (.ishl, 1) → X b M (pc + 1) L (.int (x <<< (y &&& 31)) :: S) h Q → X b M pc L (.int y :: .int x :: S) h Q
def k_ishr : Prop := ∀ {b : Option String} {M : mt} {pc : Nat} {L S : List Value} {h : hp} {Q : qt} {x y : Int32}, decode M.2.1 pc = .ok (.ishr, 1) → X b M (pc + 1) L (.int (x >>> (y &&& 31)) :: S) h Q → X b M pc L (.int y :: .int x :: S) h Q
def k_idiv : Prop := ∀ {b : Option String} {M : mt} {pc : Nat} {L S : List Value} {h : hp} {Q : qt} {x y : Int32}, ¬ y = 0 → decode M.2.1 pc = .ok (.idiv, 1) → X b M (pc + 1) L (.int (x / y) :: S) h Q → X b M pc L (.int y :: .int x :: S) h Q
def k_irem : Prop := ∀ {b : Option String} {M : mt} {pc : Nat} {L S : List Value} {h : hp} {Q : qt} {x y : Int32}, ¬ y = 0 → decode M.2.1 pc = .ok (.irem, 1) → X b M (pc + 1) L (.int (x - x / y * y) :: S) h Q → X b M pc L (.int y :: .int x :: S) h Q
def k_ineg : Prop := ∀ {b : Option String} {M : mt} {pc : Nat} {L S : List Value} {h : hp} {Q : qt} {x : Int32}, decode M.2.1 pc = .ok (.ineg, 1) → X b M (pc + 1) L (.int (-x) :: S) h Q → X b M pc L (.int x :: S) h Q
def k_iushr : Prop := ∀ {b : Option String} {M : mt} {pc : Nat} {L S : List Value} {h : hp} {Q : qt} {x y v : Int32}, (x.toUInt32 >>> (y.toUInt32 &&& Int32.toUInt32 31)).toInt32 = v → decode M.2.1 pc = .ok (.iushr, 1) → X b M (pc + 1) L (.int v :: S) h Q → X b M pc L (.int y :: .int x :: S) h Q
def k_i2b : Prop := ∀ {b : Option String} {M : mt} {pc : Nat} {L S : List Value} {h : hp} {Q : qt} {x v : Int32}, x.toInt8.toInt32 = v → decode M.2.1 pc = .ok (.i2b, 1) → X b M (pc + 1) L (.int v :: S) h Q → X b M pc L (.int x :: S) h Q
def k_dup : Prop := ∀ {b : Option String} {M : mt} {pc : Nat} {L S : List Value} {h : hp} {Q : qt} {v : Value}, v.category = 1 → decode M.2.1 pc = .ok (.dup, 1) → X b M (pc + 1) L (v :: v :: S) h Q → X b M pc L (v :: S) h Q
def k_dup2 : Prop := ∀ {b : Option String} {M : mt} {pc : Nat} {L S : List Value} {h : hp} {Q : qt} {v w : Value}, v.category = 1 → w.category = 1 → decode M.2.1 pc = .ok (.dup2, 1) → X b M (pc + 1) L (v :: w :: v :: w :: S) h Q → X b M pc L (v :: w :: S) h Q
def k_pop : Prop := ∀ {b : Option String} {M : mt} {pc : Nat} {L S : List Value} {h : hp} {Q : qt} {v : Value}, v.category = 1 → decode M.2.1 pc = .ok (.pop, 1) → X b M (pc + 1) L (S) h Q → X b M pc L (v :: S) h Q
def k_fconst0 : Prop := ∀ {b : Option String} {M : mt} {pc : Nat} {L S : List Value} {h : hp} {Q : qt} , decode M.2.1 pc = .ok (.fconst 0, 1) → X b M (pc + 1) L (.float FP.fconst0 :: S) h Q → X b M pc L (S) h Q
def k_i2f : Prop := ∀ {b : Option String} {M : mt} {pc : Nat} {L S : List Value} {h : hp} {Q : qt} {x : Int32}, decode M.2.1 pc = .ok (.i2f, 1) → X b M (pc + 1) L (.float (FP.i2f x) :: S) h Q → X b M pc L (.int x :: S) h Q
def k_fdiv : Prop := ∀ {b : Option String} {M : mt} {pc : Nat} {L S : List Value} {h : hp} {Q : qt} {x y : UInt32}, vf_n32 (FP.fdiv x y) → decode M.2.1 pc = .ok (.fdiv, 1) → X b M (pc + 1) L (.float (FP.fdiv x y) :: S) h Q → X b M pc L (.float y :: .float x :: S) h Q
def k_getf : Prop := ∀ {b : Option String} {M : mt} {pc : Nat} {L S : List Value} {h : hp} {Q : qt} {ci ix k : Nat} {C : String} {T : u_T} {N : Nat} {ty : Nat → FieldType} {a : Nat} {fs : List Value} {v : Value}, ckC ci C T N ty → k < N → Cond.fieldLink M.1.cls ix (T k).1 (T k).2.1 (T k).2.2.1 ∈ gT → a < NC → h a = .inr (ci, fs) → fs[k]? = some v → decode M.2.1 pc = .ok (.getfield ix, 3) → X b M (pc + 3) L (v :: S) h Q → X b M pc L (.ref a :: S) h Q
def k_iald : Prop := ∀ {b : Option String} {M : mt} {pc : Nat} {L S : List Value} {h : hp} {Q : qt} {a n : Nat} {f : Nat → Int32} {i : Int32}, a < NC → h a = .inl (0, n, .inl f) → vp_in i n → decode M.2.1 pc = .ok (.iaload, 1) → X b M (pc + 1) L (.int (f i.toNatClampNeg) :: S) h Q → X b M pc L (.int i :: .ref a :: S) h Q
def k_bald : Prop := ∀ {b : Option String} {M : mt} {pc : Nat} {L S : List Value} {h : hp} {Q : qt} {a n : Nat} {f : Nat → Int32} {i : Int32}, a < NC → h a = .inl (1, n, .inl f) → vp_in i n → decode M.2.1 pc = .ok (.baload, 1) → X b M (pc + 1) L (.int (f i.toNatClampNeg) :: S) h Q → X b M pc L (.int i :: .ref a :: S) h Q
def k_zald : Prop := ∀ {b : Option String} {M : mt} {pc : Nat} {L S : List Value} {h : hp} {Q : qt} {a n : Nat} {f : Nat → Int32} {i : Int32}, a < NC → h a = .inl (2, n, .inl f) → vp_in i n → decode M.2.1 pc = .ok (.baload, 1) → X b M (pc + 1) L (.int (f i.toNatClampNeg) :: S) h Q → X b M pc L (.int i :: .ref a :: S) h Q
def k_aald : Prop := ∀ {b : Option String} {M : mt} {pc : Nat} {L S : List Value} {h : hp} {Q : qt} {a n : Nat} {f : Nat → Option Nat} {i : Int32} {q : Nat}, a < NC → h a = .inl (3, n, .inr (.inr (.inr (.inr f)))) → vp_in i n → f i.toNatClampNeg = some q → decode M.2.1 pc = .ok (.aaload, 1) → X b M (pc + 1) L (.ref q :: S) h Q → X b M pc L (.int i :: .ref a :: S) h Q
def k_aalg : Prop := ∀ {b : Option String} {M : mt} {pc : Nat} {L S : List Value} {h : hp} {Q : qt} {a n : Nat} {f : Nat → Option Nat} {i : Int32} {q : Nat}, a < NC → h a = .inl (4, n, .inr (.inr (.inr (.inr f)))) → vp_in i n → f i.toNatClampNeg = some q → decode M.2.1 pc = .ok (.aaload, 1) → X b M (pc + 1) L (.ref q :: S) h Q → X b M pc L (.int i :: .ref a :: S) h Q
def k_alen : Prop := ∀ {b : Option String} {M : mt} {pc : Nat} {L S : List Value} {h : hp} {Q : qt} {a n t : Nat} {f : Nat → Int32} {v : Int32}, a < NC → h a = .inl (t, n, .inl f) → t < 3 → Int32.ofNat n = v → decode M.2.1 pc = .ok (.arraylength, 1) → X b M (pc + 1) L (.int v :: S) h Q → X b M pc L (.ref a :: S) h Q
def k_tld : Prop := ∀ {b : Option String} {M : mt} {pc : Nat} {L S : List Value} {h : hp} {Q : qt} {j : Nat} {i v : Int32}, j < 4 → vp_in i 4 → tabF j i.toNatClampNeg = v → decode M.2.1 pc = .ok (.iaload, 1) → X b M (pc + 1) L (.int v :: S) h Q → X b M pc L (.int i :: .ref (1000 + j) :: S) h Q
def k_tlen : Prop := ∀ {b : Option String} {M : mt} {pc : Nat} {L S : List Value} {h : hp} {Q : qt} {j : Nat} {v : Int32}, j < 4 → v = 4 → decode M.2.1 pc = .ok (.arraylength, 1) → X b M (pc + 1) L (.int v :: S) h Q → X b M pc L (.ref (1000 + j) :: S) h Q
def k_gets : Prop := ∀ {b : Option String} {M : mt} {pc : Nat} {L S : List Value} {h : hp} {Q : qt} {ix j : Nat}, (M.1.cls, ix, j) ∈ getsL → decode M.2.1 pc = .ok (.getstatic ix, 3) → X b M (pc + 3) L (.ref (1000 + j) :: S) h Q → X b M pc L (S) h Q
def k_ldcS : Prop := ∀ {b : Option String} {M : mt} {pc : Nat} {L S : List Value} {h : hp} {Q : qt} {ix j : Nat} {tx : String}, (M.1.cls, ix, j, tx) ∈ strL → decode M.2.1 pc = .ok (.ldc ix, 2) → X b M (pc + 2) L (.ref (2000 + j) :: S) h Q → X b M pc L (S) h Q
def k_if_eq : Prop := ∀ {b : Option String} {M : mt} {pc : Nat} {L S : List Value} {h : hp} {Q : qt} {x : Int32} {off : Int} {tgt : Nat}, decode M.2.1 pc = .ok (.ifCond .eq off, 3) → (pc : Int) + off = (tgt : Int) → (x = 0 → X b M tgt L S h Q) → (¬ (x = 0) → X b M (pc + 3) L S h Q) → X b M pc L (.int x :: S) h Q
-- row if_eq: intro _ _ _ _ _ _ _ _ _ _ g0 g1 k1 k2 X hX\nexact PROJ g0 g1 (fun q => k1 q X hX) (fun q => k2 q X hX)
def k_if_ne : Prop := ∀ {b : Option String} {M : mt} {pc : Nat} {L S : List Value} {h : hp} {Q : qt} {x : Int32} {off : Int} {tgt : Nat}, decode M.2.1 pc = .ok (.ifCond .ne off, 3) → (pc : Int) + off = (tgt : Int) → ((¬ x = 0) → X b M tgt L S h Q) → (¬ (¬ x = 0) → X b M (pc + 3) L S h Q) → X b M pc L (.int x :: S) h Q
-- row if_ne: intro _ _ _ _ _ _ _ _ _ _ g0 g1 k1 k2 X hX\nexact PROJ g0 g1 (fun q => k1 q X hX) (fun q => k2 q X hX)
def k_if_lt : Prop := ∀ {b : Option String} {M : mt} {pc : Nat} {L S : List Value} {h : hp} {Q : qt} {x : Int32} {off : Int} {tgt : Nat}, decode M.2.1 pc = .ok (.ifCond .lt off, 3) → (pc : Int) + off = (tgt : Int) → (x < 0 → X b M tgt L S h Q) → (¬ (x < 0) → X b M (pc + 3) L S h Q) → X b M pc L (.int x :: S) h Q
-- row if_lt: intro _ _ _ _ _ _ _ _ _ _ g0 g1 k1 k2 X hX\nexact PROJ g0 g1 (fun q => k1 q X hX) (fun q => k2 q X hX)
def k_if_ge : Prop := ∀ {b : Option String} {M : mt} {pc : Nat} {L S : List Value} {h : hp} {Q : qt} {x : Int32} {off : Int} {tgt : Nat}, decode M.2.1 pc = .ok (.ifCond .ge off, 3) → (pc : Int) + off = (tgt : Int) → (0 ≤ x → X b M tgt L S h Q) → (¬ (0 ≤ x) → X b M (pc + 3) L S h Q) → X b M pc L (.int x :: S) h Q
-- row if_ge: intro _ _ _ _ _ _ _ _ _ _ g0 g1 k1 k2 X hX\nexact PROJ g0 g1 (fun q => k1 q X hX) (fun q => k2 q X hX)
def k_if_gt : Prop := ∀ {b : Option String} {M : mt} {pc : Nat} {L S : List Value} {h : hp} {Q : qt} {x : Int32} {off : Int} {tgt : Nat}, decode M.2.1 pc = .ok (.ifCond .gt off, 3) → (pc : Int) + off = (tgt : Int) → (0 < x → X b M tgt L S h Q) → (¬ (0 < x) → X b M (pc + 3) L S h Q) → X b M pc L (.int x :: S) h Q
-- row if_gt: intro _ _ _ _ _ _ _ _ _ _ g0 g1 k1 k2 X hX\nexact PROJ g0 g1 (fun q => k1 q X hX) (fun q => k2 q X hX)
def k_if_le : Prop := ∀ {b : Option String} {M : mt} {pc : Nat} {L S : List Value} {h : hp} {Q : qt} {x : Int32} {off : Int} {tgt : Nat}, decode M.2.1 pc = .ok (.ifCond .le off, 3) → (pc : Int) + off = (tgt : Int) → (x ≤ 0 → X b M tgt L S h Q) → (¬ (x ≤ 0) → X b M (pc + 3) L S h Q) → X b M pc L (.int x :: S) h Q
-- row if_le: intro _ _ _ _ _ _ _ _ _ _ g0 g1 k1 k2 X hX\nexact PROJ g0 g1 (fun q => k1 q X hX) (fun q => k2 q X hX)
def k_icmp_eq : Prop := ∀ {b : Option String} {M : mt} {pc : Nat} {L S : List Value} {h : hp} {Q : qt} {x y : Int32} {off : Int} {tgt : Nat}, decode M.2.1 pc = .ok (.if_icmp .eq off, 3) → (pc : Int) + off = (tgt : Int) → ((x = y) → X b M tgt L S h Q) → (¬ (x = y) → X b M (pc + 3) L S h Q) → X b M pc L (.int y :: .int x :: S) h Q
-- row icmp_eq: intro _ _ _ _ _ _ _ _ _ _ _ g0 g1 k1 k2 X hX\nexact PROJ g0 g1 (fun q => k1 q X hX) (fun q => k2 q X hX)
def k_icmp_ne : Prop := ∀ {b : Option String} {M : mt} {pc : Nat} {L S : List Value} {h : hp} {Q : qt} {x y : Int32} {off : Int} {tgt : Nat}, decode M.2.1 pc = .ok (.if_icmp .ne off, 3) → (pc : Int) + off = (tgt : Int) → ((¬ x = y) → X b M tgt L S h Q) → (¬ (¬ x = y) → X b M (pc + 3) L S h Q) → X b M pc L (.int y :: .int x :: S) h Q
-- row icmp_ne: intro _ _ _ _ _ _ _ _ _ _ _ g0 g1 k1 k2 X hX\nexact PROJ g0 g1 (fun q => k1 q X hX) (fun q => k2 q X hX)
def k_icmp_lt : Prop := ∀ {b : Option String} {M : mt} {pc : Nat} {L S : List Value} {h : hp} {Q : qt} {x y : Int32} {off : Int} {tgt : Nat}, decode M.2.1 pc = .ok (.if_icmp .lt off, 3) → (pc : Int) + off = (tgt : Int) → ((x < y) → X b M tgt L S h Q) → (¬ (x < y) → X b M (pc + 3) L S h Q) → X b M pc L (.int y :: .int x :: S) h Q
-- row icmp_lt: intro _ _ _ _ _ _ _ _ _ _ _ g0 g1 k1 k2 X hX\nexact PROJ g0 g1 (fun q => k1 q X hX) (fun q => k2 q X hX)
def k_icmp_ge : Prop := ∀ {b : Option String} {M : mt} {pc : Nat} {L S : List Value} {h : hp} {Q : qt} {x y : Int32} {off : Int} {tgt : Nat}, decode M.2.1 pc = .ok (.if_icmp .ge off, 3) → (pc : Int) + off = (tgt : Int) → ((y ≤ x) → X b M tgt L S h Q) → (¬ (y ≤ x) → X b M (pc + 3) L S h Q) → X b M pc L (.int y :: .int x :: S) h Q
-- row icmp_ge: intro _ _ _ _ _ _ _ _ _ _ _ g0 g1 k1 k2 X hX\nexact PROJ g0 g1 (fun q => k1 q X hX) (fun q => k2 q X hX)
def k_icmp_gt : Prop := ∀ {b : Option String} {M : mt} {pc : Nat} {L S : List Value} {h : hp} {Q : qt} {x y : Int32} {off : Int} {tgt : Nat}, decode M.2.1 pc = .ok (.if_icmp .gt off, 3) → (pc : Int) + off = (tgt : Int) → ((y < x) → X b M tgt L S h Q) → (¬ (y < x) → X b M (pc + 3) L S h Q) → X b M pc L (.int y :: .int x :: S) h Q
-- row icmp_gt: intro _ _ _ _ _ _ _ _ _ _ _ g0 g1 k1 k2 X hX\nexact PROJ g0 g1 (fun q => k1 q X hX) (fun q => k2 q X hX)
def k_icmp_le : Prop := ∀ {b : Option String} {M : mt} {pc : Nat} {L S : List Value} {h : hp} {Q : qt} {x y : Int32} {off : Int} {tgt : Nat}, decode M.2.1 pc = .ok (.if_icmp .le off, 3) → (pc : Int) + off = (tgt : Int) → ((x ≤ y) → X b M tgt L S h Q) → (¬ (x ≤ y) → X b M (pc + 3) L S h Q) → X b M pc L (.int y :: .int x :: S) h Q
-- row icmp_le: intro _ _ _ _ _ _ _ _ _ _ _ g0 g1 k1 k2 X hX\nexact PROJ g0 g1 (fun q => k1 q X hX) (fun q => k2 q X hX)
def k_goto : Prop := ∀ {b : Option String} {M : mt} {pc : Nat} {L S : List Value} {h : hp} {Q : qt} {off : Int} {tgt : Nat}, decode M.2.1 pc = .ok (.goto off, 3) → (pc : Int) + off = (tgt : Int) → X b M tgt L S h Q → X b M pc L S h Q
-- row goto: intro _ _ _ _ _ _ _ _ _ g0 g1 k X hX\nexact PROJ g0 g1 (k X hX)
def k_tabI : Prop := ∀ {b : Option String} {M : mt} {pc : Nat} {L S : List Value} {h : hp} {Q : qt} {dflt lo hi : Int} {offs : Array Int} {len : Nat} {x : Int32} {off : Int} {tgt : Nat}, decode M.2.1 pc = .ok (.tableswitch dflt lo hi offs, len) → ¬ x.toInt < lo → ¬ hi < x.toInt → offs[(x.toInt - lo).toNat]? = some off → (pc : Int) + off = (tgt : Int) → X b M tgt L S h Q → X b M pc L (.int x :: S) h Q
-- row tabI: intro _ _ _ _ _ _ _ _ _ _ _ _ _ _ _ g0 g1 g2 g3 g4 k X hX\nexact PROJ g0 g1 g2 g3 g4 (k X hX)
def k_tabO : Prop := ∀ {b : Option String} {M : mt} {pc : Nat} {L S : List Value} {h : hp} {Q : qt} {dflt lo hi : Int} {offs : Array Int} {len : Nat} {x : Int32} {tgt : Nat}, decode M.2.1 pc = .ok (.tableswitch dflt lo hi offs, len) → (x.toInt < lo ∨ hi < x.toInt) → (pc : Int) + dflt = (tgt : Int) → X b M tgt L S h Q → X b M pc L (.int x :: S) h Q
-- row tabO: intro _ _ _ _ _ _ _ _ _ _ _ _ _ _ g0 g1 g2 k X hX\nexact PROJ g0 g1 g2 (k X hX)
def k_istore_n : Prop := ∀ {b : Option String} {M : mt} {pc : Nat} {L S : List Value} {h : hp} {Q : qt} {k : Fin 4} {i : Nat} {x : Int32}, decode M.2.1 pc = .ok (.istore_n k, 1) → (k : Nat) = i → i < M.2.2.1 → X b M (pc + 1) (L.set i (.int x)) S h Q → X b M pc L (.int x :: S) h Q
-- row istore_n: intro _ _ _ _ _ _ _ _ _ _ g0 g1 g2 k X hX\nexact PROJ g0 g1 g2 (k X hX)
def k_istore : Prop := ∀ {b : Option String} {M : mt} {pc : Nat} {L S : List Value} {h : hp} {Q : qt} {i : Nat} {x : Int32}, decode M.2.1 pc = .ok (.istore i, 2) → i < M.2.2.1 → X b M (pc + 2) (L.set i (.int x)) S h Q → X b M pc L (.int x :: S) h Q
-- row istore: intro _ _ _ _ _ _ _ _ _ g0 g1 k X hX\nexact PROJ g0 g1 (k X hX)
def k_astore_n : Prop := ∀ {b : Option String} {M : mt} {pc : Nat} {L S : List Value} {h : hp} {Q : qt} {k : Fin 4} {i : Nat} {x : Nat}, decode M.2.1 pc = .ok (.astore_n k, 1) → (k : Nat) = i → i < M.2.2.1 → X b M (pc + 1) (L.set i (.ref x)) S h Q → X b M pc L (.ref x :: S) h Q
-- row astore_n: intro _ _ _ _ _ _ _ _ _ _ g0 g1 g2 k X hX\nexact PROJ g0 g1 g2 (k X hX)
def k_astore : Prop := ∀ {b : Option String} {M : mt} {pc : Nat} {L S : List Value} {h : hp} {Q : qt} {i : Nat} {x : Nat}, decode M.2.1 pc = .ok (.astore i, 2) → i < M.2.2.1 → X b M (pc + 2) (L.set i (.ref x)) S h Q → X b M pc L (.ref x :: S) h Q
-- row astore: intro _ _ _ _ _ _ _ _ _ g0 g1 k X hX\nexact PROJ g0 g1 (k X hX)
def k_iinc : Prop := ∀ {b : Option String} {M : mt} {pc : Nat} {L S : List Value} {h : hp} {Q : qt} {i : Nat} {n : Int} {x v : Int32}, decode M.2.1 pc = .ok (.iinc i n, 3) → L[i]? = some (.int x) → x + Int32.ofInt n = v → i < M.2.2.1 → X b M (pc + 3) (L.set i (.int v)) S h Q → X b M pc L S h Q
-- row iinc: intro _ _ _ _ _ _ _ _ _ _ _ g0 g1 g2 g3 k X hX\nexact PROJ g0 g1 g2 g3 (k X hX)
def k_putf : Prop := ∀ {b : Option String} {M : mt} {pc : Nat} {L S : List Value} {h : hp} {Q : qt} {ci ix k : Nat} {C : String} {T : u_T} {N : Nat} {ty : Nat → FieldType} {a : Nat} {fs : List Value} {x : Int32}, decode M.2.1 pc = .ok (.putfield ix, 3) → ckC ci C T N ty → k < N → Cond.fieldLink M.1.cls ix (T k).1 (T k).2.1 (T k).2.2.1 ∈ gT → a < NC → h a = .inr (ci, fs) → (T k).2.2.2 = false → (ty k = .int ∨ ty k = .boolean ∧ (x = 0 ∨ x = 1)) → k < fs.length → X b M (pc + 3) L S (va_up h a (.inr (ci, fs.set k (.int x)))) Q → X b M pc L (.int x :: .ref a :: S) h Q
-- row putf: intro _ _ _ _ _ _ _ _ _ _ _ _ _ _ _ _ _ g0 g1 g2 g3 g4 g5 g6 g7 g8 k X hX\nexact PROJ g0 g1 g2 g3 g4 g5 g6 g7 g8 (k X hX)
def k_iast : Prop := ∀ {b : Option String} {M : mt} {pc : Nat} {L S : List Value} {h : hp} {Q : qt} {a n : Nat} {f : Nat → Int32} {i x : Int32}, decode M.2.1 pc = .ok (.iastore, 1) → a < NC → h a = .inl (0, n, .inl f) → vp_in i n → X b M (pc + 1) L S (va_up h a (.inl (0, n, .inl (upd f i.toNatClampNeg x)))) Q → X b M pc L (.int x :: .int i :: .ref a :: S) h Q
-- row iast: intro _ _ _ _ _ _ _ _ _ _ _ _ g0 g1 g2 g3 k X hX\nexact PROJ g0 g1 g2 g3 (k X hX)
def k_bast : Prop := ∀ {b : Option String} {M : mt} {pc : Nat} {L S : List Value} {h : hp} {Q : qt} {a n : Nat} {f : Nat → Int32} {i x : Int32}, decode M.2.1 pc = .ok (.bastore, 1) → a < NC → h a = .inl (1, n, .inl f) → vp_in i n → X b M (pc + 1) L S (va_up h a (.inl (1, n, .inl (upd f i.toNatClampNeg (vp_nar .byte x))))) Q → X b M pc L (.int x :: .int i :: .ref a :: S) h Q
-- row bast: intro _ _ _ _ _ _ _ _ _ _ _ _ g0 g1 g2 g3 k X hX\nexact PROJ g0 g1 g2 g3 (k X hX)
def k_zast : Prop := ∀ {b : Option String} {M : mt} {pc : Nat} {L S : List Value} {h : hp} {Q : qt} {a n : Nat} {f : Nat → Int32} {i x : Int32}, decode M.2.1 pc = .ok (.bastore, 1) → a < NC → h a = .inl (2, n, .inl f) → vp_in i n → X b M (pc + 1) L S (va_up h a (.inl (2, n, .inl (upd f i.toNatClampNeg (vp_nar .boolean x))))) Q → X b M pc L (.int x :: .int i :: .ref a :: S) h Q
-- row zast: intro _ _ _ _ _ _ _ _ _ _ _ _ g0 g1 g2 g3 k X hX\nexact PROJ g0 g1 g2 g3 (k X hX)
def k_iret : Prop := ∀ {M : mt} {pc : Nat} {L : List Value} {h : hp} {Q : qt} {x : Int32}, decode M.2.1 pc = .ok (.ireturn, 1) → M.2.2.2.1 = some .int → Q (.int x) h → X none M pc L [.int x] h Q
-- row iret: intro _ _ _ _ _ _ g0 g1 g2 X hX\nexact PROJ g0 g1 g2
def k_zret : Prop := ∀ {M : mt} {pc : Nat} {L : List Value} {h : hp} {Q : qt} {x : Int32}, decode M.2.1 pc = .ok (.ireturn, 1) → M.2.2.2.1 = some .boolean → x = 0 ∨ x = 1 → Q (.int x) h → X none M pc L [.int x] h Q
-- row zret: intro _ _ _ _ _ _ g0 g1 g2 g3 X hX\nexact PROJ g0 g1 g2 g3
def k_vret : Prop := ∀ {M : mt} {pc : Nat} {L : List Value} {h : hp} {Q : qt}, decode M.2.1 pc = .ok (.return_, 1) → M.2.2.2.1 = none → Q .null h → X none M pc L [] h Q
-- row vret: intro _ _ _ _ _ g0 g1 g2 X hX\nexact PROJ g0 g1 g2
def k_fret : Prop := ∀ {M : mt} {pc : Nat} {L : List Value} {h : hp} {Q : qt} {x : UInt32}, decode M.2.1 pc = .ok (.freturn, 1) → M.2.2.2.1 = some .float → Q (.float x) h → X none M pc L [.float x] h Q
-- row fret: intro _ _ _ _ _ _ g0 g1 g2 X hX\nexact PROJ g0 g1 g2
def k_cvi : Prop := ∀ {b : Option String} {M : mt} {pc : Nat} {L S : List Value} {h : hp} {Q : qt} {ix n a ci : Nat} {Y : mt} {As fs : List Value} {T : u_T} {N : Nat} {Q1 : qt}, decode M.2.1 pc = .ok (.invokevirtual ix, 3) → lnV M ix Y n → As.length = n → cat1 As → catS S → a < NC → h a = .inr (ci, fs) → vwCl[ci]? = some (Y.1.cls, T, N) → (Y.2.2.2.1 = some .int ∨ Y.2.2.2.1 = some .boolean) → X none Y 0 (pad Y.2.2.1 (.ref a :: As)) [] h Q1 → (∀ r h1, Q1 (.int r) h1 → X b M (pc + 3) L (.int r :: S) h1 Q) → X b M pc L (As.reverse ++ .ref a :: S) h Q
def k_csi : Prop := ∀ {b : Option String} {M : mt} {pc : Nat} {L S : List Value} {h : hp} {Q : qt} {ix n : Nat} {Y : mt} {As : List Value} {Q1 : qt}, decode M.2.1 pc = .ok (.invokestatic ix, 3) → lnS M ix Y n → As.length = n → cat1 As → catS S → (Y.2.2.2.1 = some .int ∨ Y.2.2.2.1 = some .boolean) → X none Y 0 (pad Y.2.2.1 As) [] h Q1 → (∀ r h1, Q1 (.int r) h1 → X b M (pc + 3) L (.int r :: S) h1 Q) → X b M pc L (As.reverse ++ S) h Q
-- row cvi: intro _ _ _ _ _ _ _ _ _ _ _ _ _ _ _ _ _  g0 g1 g2 g3 g4 g5 g6 g7 g8 k1 k2 X hX\nexact PROJ g0 g1 g2 g3 g4 g5 g6 g7 g8 (k1 X hX) (fun r h1 q => k2 r h1 q X hX)
-- row csi: intro _ _ _ _ _ _ _ _ _ _ _ _  g0 g1 g2 g3 g4 g5 k1 k2 X hX\nexact PROJ g0 g1 g2 g3 g4 g5 (k1 X hX) (fun r h1 q => k2 r h1 q X hX)
def k_cvv : Prop := ∀ {b : Option String} {M : mt} {pc : Nat} {L S : List Value} {h : hp} {Q : qt} {ix n a ci : Nat} {Y : mt} {As fs : List Value} {T : u_T} {N : Nat} {Q1 : qt}, decode M.2.1 pc = .ok (.invokevirtual ix, 3) → lnV M ix Y n → As.length = n → cat1 As → catS S → a < NC → h a = .inr (ci, fs) → vwCl[ci]? = some (Y.1.cls, T, N) → Y.2.2.2.1 = none → X none Y 0 (pad Y.2.2.1 (.ref a :: As)) [] h Q1 → (∀ h1, Q1 .null h1 → X b M (pc + 3) L S h1 Q) → X b M pc L (As.reverse ++ .ref a :: S) h Q
def k_csv : Prop := ∀ {b : Option String} {M : mt} {pc : Nat} {L S : List Value} {h : hp} {Q : qt} {ix n : Nat} {Y : mt} {As : List Value} {Q1 : qt}, decode M.2.1 pc = .ok (.invokestatic ix, 3) → lnS M ix Y n → As.length = n → cat1 As → catS S → Y.2.2.2.1 = none → X none Y 0 (pad Y.2.2.1 As) [] h Q1 → (∀ h1, Q1 .null h1 → X b M (pc + 3) L S h1 Q) → X b M pc L (As.reverse ++ S) h Q
-- row cvv: intro _ _ _ _ _ _ _ _ _ _ _ _ _ _ _ _ _  g0 g1 g2 g3 g4 g5 g6 g7 g8 k1 k2 X hX\nexact PROJ g0 g1 g2 g3 g4 g5 g6 g7 g8 (k1 X hX) (fun h1 q => k2 h1 q X hX)
-- row csv: intro _ _ _ _ _ _ _ _ _ _ _ _  g0 g1 g2 g3 g4 g5 k1 k2 X hX\nexact PROJ g0 g1 g2 g3 g4 g5 (k1 X hX) (fun h1 q => k2 h1 q X hX)
def k_cvx : Prop := ∀ {E : String} {M : mt} {pc : Nat} {L S : List Value} {h : hp} {Q : qt} {ix n a ci : Nat} {Y : mt} {As fs : List Value} {T : u_T} {N : Nat} {Q1 : qt}, decode M.2.1 pc = .ok (.invokevirtual ix, 3) → lnV M ix Y n → As.length = n → cat1 As → catS S → a < NC → h a = .inr (ci, fs) → vwCl[ci]? = some (Y.1.cls, T, N) → Y.2.2.2.1 = none → X (some E) Y 0 (pad Y.2.2.1 (.ref a :: As)) [] h Q1 → (∀ h1, Q1 .null h1 → Q .null h1) → X (some E) M pc L (As.reverse ++ .ref a :: S) h Q
def k_csx : Prop := ∀ {E : String} {M : mt} {pc : Nat} {L S : List Value} {h : hp} {Q : qt} {ix n : Nat} {Y : mt} {As : List Value} {Q1 : qt}, decode M.2.1 pc = .ok (.invokestatic ix, 3) → lnS M ix Y n → As.length = n → cat1 As → catS S → Y.2.2.2.1 = none → X (some E) Y 0 (pad Y.2.2.1 As) [] h Q1 → (∀ h1, Q1 .null h1 → Q .null h1) → X (some E) M pc L (As.reverse ++ S) h Q
-- row cvx: intro _ _ _ _ _ _ _ _ _ _ _ _ _ _ _ _ _  g0 g1 g2 g3 g4 g5 g6 g7 g8 k1 k2 X hX\nexact PROJ g0 g1 g2 g3 g4 g5 g6 g7 g8 (k1 X hX) k2
-- row csx: intro _ _ _ _ _ _ _ _ _ _ _ _  g0 g1 g2 g3 g4 g5 k1 k2 X hX\nexact PROJ g0 g1 g2 g3 g4 g5 (k1 X hX) k2
def k_thr : Prop := ∀ {E : String} {M : mt} {pc : Nat} {L : List Value} {h : hp} {Q : qt}, (M.1, pc, E) ∈ thrL → 8 ≤ M.2.2.2.2.1 → 120 ≤ M.2.2.2.2.2 → Q .null h → X (some E) M pc L [] h Q
-- row thr: intro _ _ _ _ _ _ g0 g1 g2 g3 X hX\nexact PROJ g0 g1 g2 g3
def k_l_max : Prop := ∀ {b : Option String} {M : mt} {pc : Nat} {L S : List Value} {h : hp} {Q : qt} {ix : Nat} {x y : Int32}, decode M.2.1 pc = .ok (.invokestatic ix, 3) → (M.1.cls, ix, 0) ∈ libL → lbR M 0 → catS S → X b M (pc + 3) L (.int (if x < y then y else x) :: S) h Q → X b M pc L (.int y :: .int x :: S) h Q
-- row l_max: intro _ _ _ _ _ _ _ _ _ _  g0 g1 g2 g3 k X hX\nexact PROJ g0 g1 g2 g3 (k X hX)
def k_l_min : Prop := ∀ {b : Option String} {M : mt} {pc : Nat} {L S : List Value} {h : hp} {Q : qt} {ix : Nat} {x y : Int32}, decode M.2.1 pc = .ok (.invokestatic ix, 3) → (M.1.cls, ix, 1) ∈ libL → lbR M 1 → catS S → X b M (pc + 3) L (.int (if x ≤ y then x else y) :: S) h Q → X b M pc L (.int y :: .int x :: S) h Q
-- row l_min: intro _ _ _ _ _ _ _ _ _ _  g0 g1 g2 g3 k X hX\nexact PROJ g0 g1 g2 g3 (k X hX)
def k_l_abs : Prop := ∀ {b : Option String} {M : mt} {pc : Nat} {L S : List Value} {h : hp} {Q : qt} {ix : Nat} {x : Int32}, decode M.2.1 pc = .ok (.invokestatic ix, 3) → (M.1.cls, ix, 2) ∈ libL → lbR M 2 → catS S → X b M (pc + 3) L (.int (if 0 ≤ x then x else -x) :: S) h Q → X b M pc L (.int x :: S) h Q
-- row l_abs: intro _ _ _ _ _ _ _ _ _  g0 g1 g2 g3 k X hX\nexact PROJ g0 g1 g2 g3 (k X hX)
def k_l_compare : Prop := ∀ {b : Option String} {M : mt} {pc : Nat} {L S : List Value} {h : hp} {Q : qt} {ix : Nat} {x y : Int32}, decode M.2.1 pc = .ok (.invokestatic ix, 3) → (M.1.cls, ix, 3) ∈ libL → lbR M 3 → catS S → X b M (pc + 3) L (.int (if x < y then -1 else if x = y then 0 else 1) :: S) h Q → X b M pc L (.int y :: .int x :: S) h Q
-- row l_compare: intro _ _ _ _ _ _ _ _ _ _  g0 g1 g2 g3 k X hX\nexact PROJ g0 g1 g2 g3 (k X hX)
def k_l_signum : Prop := ∀ {b : Option String} {M : mt} {pc : Nat} {L S : List Value} {h : hp} {Q : qt} {ix : Nat} {x : Int32}, decode M.2.1 pc = .ok (.invokestatic ix, 3) → (M.1.cls, ix, 4) ∈ libL → lbR M 4 → catS S → X b M (pc + 3) L (.int (if x < 0 then -1 else if x = 0 then 0 else 1) :: S) h Q → X b M pc L (.int x :: S) h Q
-- row l_signum: intro _ _ _ _ _ _ _ _ _  g0 g1 g2 g3 k X hX\nexact PROJ g0 g1 g2 g3 (k X hX)
def k_l_fill : Prop := ∀ {b : Option String} {M : mt} {pc : Nat} {L S : List Value} {h : hp} {Q : qt} {ix : Nat} {a n : Nat} {f : Nat → Int32} {v : Int32}, decode M.2.1 pc = .ok (.invokestatic ix, 3) → (M.1.cls, ix, 5) ∈ libL → lbR M 5 → catS S → a < NC → h a = .inl (0, n, .inl f) → n < 100000 → X b M (pc + 3) L (S) (va_up h a (.inl (0, n, .inl (fun _ => v)))) Q → X b M pc L (.int v :: .ref a :: S) h Q
-- row l_fill: intro _ _ _ _ _ _ _ _ _ _ _ _  g0 g1 g2 g3 g4 g5 g6 k X hX\nexact PROJ g0 g1 g2 g3 g4 g5 g6 (k X hX)
def k_l_copy : Prop := ∀ {b : Option String} {M : mt} {pc : Nat} {L S : List Value} {h : hp} {Q : qt} {ix : Nat} {a c n0 n1 : Nat} {f g : Nat → Int32} {n : Int32}, decode M.2.1 pc = .ok (.invokestatic ix, 3) → (M.1.cls, ix, 6) ∈ libL → lbR M 6 → catS S → a < NC → c < NC → h a = .inl (0, n0, .inl f) → h c = .inl (0, n1, .inl g) → ¬ n < 0 → n.toNatClampNeg ≤ n0 → n.toNatClampNeg ≤ n1 → X b M (pc + 3) L (S) (va_up h c (.inl (0, n1, .inl (va_cpy f g 0 0 n.toNatClampNeg)))) Q → X b M pc L (.int n :: .int 0 :: .ref c :: .int 0 :: .ref a :: S) h Q
-- row l_copy: intro _ _ _ _ _ _ _ _ _ _ _ _ _ _ _  g0 g1 g2 g3 g4 g5 g6 g7 g8 g9 g10 k X hX\nexact PROJ g0 g1 g2 g3 g4 g5 g6 g7 g8 g9 g10 (k X hX)
def k_l_length : Prop := ∀ {b : Option String} {M : mt} {pc : Nat} {L S : List Value} {h : hp} {Q : qt} {ix : Nat} {j : Nat} {v : Int32}, decode M.2.1 pc = .ok (.invokevirtual ix, 3) → (M.1.cls, ix, 7) ∈ libL → lbR M 7 → catS S → j < 18 → Int32.ofNat (txtN.getD j 0) = v → X b M (pc + 3) L (.int v :: S) h Q → X b M pc L (.ref (2000 + j) :: S) h Q
-- row l_length: intro _ _ _ _ _ _ _ _ _ _  g0 g1 g2 g3 g4 g5 k X hX\nexact PROJ g0 g1 g2 g3 g4 g5 (k X hX)
def k_l_charAt : Prop := ∀ {b : Option String} {M : mt} {pc : Nat} {L S : List Value} {h : hp} {Q : qt} {ix : Nat} {j i : Nat} {x v : Int32}, decode M.2.1 pc = .ok (.invokevirtual ix, 3) → (M.1.cls, ix, 8) ∈ libL → lbR M 8 → catS S → j < 18 → i < txtN.getD j 0 → x = nI i → (txtB.getD j []).getD i 0 = v → X b M (pc + 3) L (.int v :: S) h Q → X b M pc L (.int x :: .ref (2000 + j) :: S) h Q
-- row l_charAt: intro _ _ _ _ _ _ _ _ _ _ _ _  g0 g1 g2 g3 g4 g5 g6 g7 k X hX\nexact PROJ g0 g1 g2 g3 g4 g5 g6 g7 (k X hX)

def am_cl : Prop := k_iconst X ∧ k_bipush X ∧ k_sipush X ∧ k_ldcI X ∧ k_iload_n X ∧ k_iload X ∧ k_aload_n X ∧ k_aload X ∧ k_iadd X ∧ k_isub X ∧ k_imul X ∧ k_iand X ∧ k_ior X ∧ k_ishl X ∧ k_ishr X ∧ k_idiv X ∧ k_irem X ∧ k_ineg X ∧ k_iushr X ∧ k_i2b X ∧ k_dup X ∧ k_dup2 X ∧ k_pop X ∧ k_fconst0 X ∧ k_i2f X ∧ k_fdiv X ∧ k_getf NC X ∧ k_iald NC X ∧ k_bald NC X ∧ k_zald NC X ∧ k_aald NC X ∧ k_aalg NC X ∧ k_alen NC X ∧ k_tld X ∧ k_tlen X ∧ k_gets X ∧ k_ldcS X ∧ k_if_eq X ∧ k_if_ne X ∧ k_if_lt X ∧ k_if_ge X ∧ k_if_gt X ∧ k_if_le X ∧ k_icmp_eq X ∧ k_icmp_ne X ∧ k_icmp_lt X ∧ k_icmp_ge X ∧ k_icmp_gt X ∧ k_icmp_le X ∧ k_goto X ∧ k_tabI X ∧ k_tabO X ∧ k_istore_n X ∧ k_istore X ∧ k_astore_n X ∧ k_astore X ∧ k_iinc X ∧ k_putf NC X ∧ k_iast NC X ∧ k_bast NC X ∧ k_zast NC X ∧ k_iret X ∧ k_zret X ∧ k_vret X ∧ k_fret X ∧ k_cvi NC X ∧ k_csi X ∧ k_cvv NC X ∧ k_csv X ∧ k_cvx NC X ∧ k_csx X ∧ k_thr X ∧ k_l_max X ∧ k_l_min X ∧ k_l_abs X ∧ k_l_compare X ∧ k_l_signum X ∧ k_l_fill NC X ∧ k_l_copy NC X ∧ k_l_length X ∧ k_l_charAt X
end CL
def Ex (NC : Nat) (b : Option String) (M : mt) (pc : Nat) (L S : List Value) (h : hp) (Q : qt) : Prop := ∀ X : xt, am_cl NC X → X b M pc L S h Q
theorem ex_iconst {NC : Nat} : k_iconst (Ex NC) := by
  intro _ _ _ _ _ _ _ _ _ g0 g1 k X hX
  exact hX.1 g0 g1 (k X hX)
theorem ex_bipush {NC : Nat} : k_bipush (Ex NC) := by
  intro _ _ _ _ _ _ _ _ _ g0 g1 k X hX
  exact hX.2.1 g0 g1 (k X hX)
theorem ex_sipush {NC : Nat} : k_sipush (Ex NC) := by
  intro _ _ _ _ _ _ _ _ _ g0 g1 k X hX
  exact hX.2.2.1 g0 g1 (k X hX)
theorem ex_ldcI {NC : Nat} : k_ldcI (Ex NC) := by
  intro _ _ _ _ _ _ _ _ _ g0 g1 k X hX
  exact hX.2.2.2.1 g0 g1 (k X hX)
theorem ex_iload_n {NC : Nat} : k_iload_n (Ex NC) := by
  intro _ _ _ _ _ _ _ _ _ _ g0 g1 g2 k X hX
  exact hX.2.2.2.2.1 g0 g1 g2 (k X hX)
theorem ex_iload {NC : Nat} : k_iload (Ex NC) := by
  intro _ _ _ _ _ _ _ _ _ g0 g1 k X hX
  exact hX.2.2.2.2.2.1 g0 g1 (k X hX)
theorem ex_aload_n {NC : Nat} : k_aload_n (Ex NC) := by
  intro _ _ _ _ _ _ _ _ _ _ g0 g1 g2 k X hX
  exact hX.2.2.2.2.2.2.1 g0 g1 g2 (k X hX)
theorem ex_aload {NC : Nat} : k_aload (Ex NC) := by
  intro _ _ _ _ _ _ _ _ _ g0 g1 k X hX
  exact hX.2.2.2.2.2.2.2.1 g0 g1 (k X hX)
theorem ex_iadd {NC : Nat} : k_iadd (Ex NC) := by
  intro _ _ _ _ _ _ _ _ _ g0 k X hX
  exact hX.2.2.2.2.2.2.2.2.1 g0 (k X hX)
theorem ex_isub {NC : Nat} : k_isub (Ex NC) := by
  intro _ _ _ _ _ _ _ _ _ g0 k X hX
  exact hX.2.2.2.2.2.2.2.2.2.1 g0 (k X hX)
theorem ex_imul {NC : Nat} : k_imul (Ex NC) := by
  intro _ _ _ _ _ _ _ _ _ g0 k X hX
  exact hX.2.2.2.2.2.2.2.2.2.2.1 g0 (k X hX)
theorem ex_iand {NC : Nat} : k_iand (Ex NC) := by
  intro _ _ _ _ _ _ _ _ _ g0 k X hX
  exact hX.2.2.2.2.2.2.2.2.2.2.2.1 g0 (k X hX)
theorem ex_ior {NC : Nat} : k_ior (Ex NC) := by
  intro _ _ _ _ _ _ _ _ _ g0 k X hX
  exact hX.2.2.2.2.2.2.2.2.2.2.2.2.1 g0 (k X hX)
theorem ex_ishl {NC : Nat} : k_ishl (Ex NC) := by
  intro _ _ _ _ _ _ _ _ _ g0 k X hX
  exact hX.2.2.2.2.2.2.2.2.2.2.2.2.2.1 g0 (k X hX)
theorem ex_ishr {NC : Nat} : k_ishr (Ex NC) := by
  intro _ _ _ _ _ _ _ _ _ g0 k X hX
  exact hX.2.2.2.2.2.2.2.2.2.2.2.2.2.2.1 g0 (k X hX)
theorem ex_idiv {NC : Nat} : k_idiv (Ex NC) := by
  intro _ _ _ _ _ _ _ _ _ g0 g1 k X hX
  exact hX.2.2.2.2.2.2.2.2.2.2.2.2.2.2.2.1 g0 g1 (k X hX)
theorem ex_irem {NC : Nat} : k_irem (Ex NC) := by
  intro _ _ _ _ _ _ _ _ _ g0 g1 k X hX
  exact hX.2.2.2.2.2.2.2.2.2.2.2.2.2.2.2.2.1 g0 g1 (k X hX)
theorem ex_ineg {NC : Nat} : k_ineg (Ex NC) := by
  intro _ _ _ _ _ _ _ _ g0 k X hX
  exact hX.2.2.2.2.2.2.2.2.2.2.2.2.2.2.2.2.2.1 g0 (k X hX)
theorem ex_iushr {NC : Nat} : k_iushr (Ex NC) := by
  intro _ _ _ _ _ _ _ _ _ _ g0 g1 k X hX
  exact hX.2.2.2.2.2.2.2.2.2.2.2.2.2.2.2.2.2.2.1 g0 g1 (k X hX)
theorem ex_i2b {NC : Nat} : k_i2b (Ex NC) := by
  intro _ _ _ _ _ _ _ _ _ g0 g1 k X hX
  exact hX.2.2.2.2.2.2.2.2.2.2.2.2.2.2.2.2.2.2.2.1 g0 g1 (k X hX)
theorem ex_dup {NC : Nat} : k_dup (Ex NC) := by
  intro _ _ _ _ _ _ _ _ g0 g1 k X hX
  exact hX.2.2.2.2.2.2.2.2.2.2.2.2.2.2.2.2.2.2.2.2.1 g0 g1 (k X hX)
theorem ex_dup2 {NC : Nat} : k_dup2 (Ex NC) := by
  intro _ _ _ _ _ _ _ _ _ g0 g1 g2 k X hX
  exact hX.2.2.2.2.2.2.2.2.2.2.2.2.2.2.2.2.2.2.2.2.2.1 g0 g1 g2 (k X hX)
theorem ex_pop {NC : Nat} : k_pop (Ex NC) := by
  intro _ _ _ _ _ _ _ _ g0 g1 k X hX
  exact hX.2.2.2.2.2.2.2.2.2.2.2.2.2.2.2.2.2.2.2.2.2.2.1 g0 g1 (k X hX)
theorem ex_fconst0 {NC : Nat} : k_fconst0 (Ex NC) := by
  intro _ _ _ _ _ _ _ g0 k X hX
  exact hX.2.2.2.2.2.2.2.2.2.2.2.2.2.2.2.2.2.2.2.2.2.2.2.1 g0 (k X hX)
theorem ex_i2f {NC : Nat} : k_i2f (Ex NC) := by
  intro _ _ _ _ _ _ _ _ g0 k X hX
  exact hX.2.2.2.2.2.2.2.2.2.2.2.2.2.2.2.2.2.2.2.2.2.2.2.2.1 g0 (k X hX)
theorem ex_fdiv {NC : Nat} : k_fdiv (Ex NC) := by
  intro _ _ _ _ _ _ _ _ _ g0 g1 k X hX
  exact hX.2.2.2.2.2.2.2.2.2.2.2.2.2.2.2.2.2.2.2.2.2.2.2.2.2.1 g0 g1 (k X hX)
theorem ex_getf {NC : Nat} : k_getf NC (Ex NC) := by
  intro _ _ _ _ _ _ _ _ _ _ _ _ _ _ _ _ _ g0 g1 g2 g3 g4 g5 g6 k X hX
  exact hX.2.2.2.2.2.2.2.2.2.2.2.2.2.2.2.2.2.2.2.2.2.2.2.2.2.2.1 g0 g1 g2 g3 g4 g5 g6 (k X hX)
theorem ex_iald {NC : Nat} : k_iald NC (Ex NC) := by
  intro _ _ _ _ _ _ _ _ _ _ _ g0 g1 g2 g3 k X hX
  exact hX.2.2.2.2.2.2.2.2.2.2.2.2.2.2.2.2.2.2.2.2.2.2.2.2.2.2.2.1 g0 g1 g2 g3 (k X hX)
theorem ex_bald {NC : Nat} : k_bald NC (Ex NC) := by
  intro _ _ _ _ _ _ _ _ _ _ _ g0 g1 g2 g3 k X hX
  exact hX.2.2.2.2.2.2.2.2.2.2.2.2.2.2.2.2.2.2.2.2.2.2.2.2.2.2.2.2.1 g0 g1 g2 g3 (k X hX)
theorem ex_zald {NC : Nat} : k_zald NC (Ex NC) := by
  intro _ _ _ _ _ _ _ _ _ _ _ g0 g1 g2 g3 k X hX
  exact hX.2.2.2.2.2.2.2.2.2.2.2.2.2.2.2.2.2.2.2.2.2.2.2.2.2.2.2.2.2.1 g0 g1 g2 g3 (k X hX)
theorem ex_aald {NC : Nat} : k_aald NC (Ex NC) := by
  intro _ _ _ _ _ _ _ _ _ _ _ _ g0 g1 g2 g3 g4 k X hX
  exact hX.2.2.2.2.2.2.2.2.2.2.2.2.2.2.2.2.2.2.2.2.2.2.2.2.2.2.2.2.2.2.1 g0 g1 g2 g3 g4 (k X hX)
theorem ex_aalg {NC : Nat} : k_aalg NC (Ex NC) := by
  intro _ _ _ _ _ _ _ _ _ _ _ _ g0 g1 g2 g3 g4 k X hX
  exact hX.2.2.2.2.2.2.2.2.2.2.2.2.2.2.2.2.2.2.2.2.2.2.2.2.2.2.2.2.2.2.2.1 g0 g1 g2 g3 g4 (k X hX)
theorem ex_alen {NC : Nat} : k_alen NC (Ex NC) := by
  intro _ _ _ _ _ _ _ _ _ _ _ _ g0 g1 g2 g3 g4 k X hX
  exact hX.2.2.2.2.2.2.2.2.2.2.2.2.2.2.2.2.2.2.2.2.2.2.2.2.2.2.2.2.2.2.2.2.1 g0 g1 g2 g3 g4 (k X hX)
theorem ex_tld {NC : Nat} : k_tld (Ex NC) := by
  intro _ _ _ _ _ _ _ _ _ _ g0 g1 g2 g3 k X hX
  exact hX.2.2.2.2.2.2.2.2.2.2.2.2.2.2.2.2.2.2.2.2.2.2.2.2.2.2.2.2.2.2.2.2.2.1 g0 g1 g2 g3 (k X hX)
theorem ex_tlen {NC : Nat} : k_tlen (Ex NC) := by
  intro _ _ _ _ _ _ _ _ _ g0 g1 g2 k X hX
  exact hX.2.2.2.2.2.2.2.2.2.2.2.2.2.2.2.2.2.2.2.2.2.2.2.2.2.2.2.2.2.2.2.2.2.2.1 g0 g1 g2 (k X hX)
theorem ex_gets {NC : Nat} : k_gets (Ex NC) := by
  intro _ _ _ _ _ _ _ _ _ g0 g1 k X hX
  exact hX.2.2.2.2.2.2.2.2.2.2.2.2.2.2.2.2.2.2.2.2.2.2.2.2.2.2.2.2.2.2.2.2.2.2.2.1 g0 g1 (k X hX)
theorem ex_ldcS {NC : Nat} : k_ldcS (Ex NC) := by
  intro _ _ _ _ _ _ _ _ _ _ g0 g1 k X hX
  exact hX.2.2.2.2.2.2.2.2.2.2.2.2.2.2.2.2.2.2.2.2.2.2.2.2.2.2.2.2.2.2.2.2.2.2.2.2.1 g0 g1 (k X hX)
theorem ex_if_eq {NC : Nat} : k_if_eq (Ex NC) := by
  intro _ _ _ _ _ _ _ _ _ _ g0 g1 k1 k2 X hX
  exact hX.2.2.2.2.2.2.2.2.2.2.2.2.2.2.2.2.2.2.2.2.2.2.2.2.2.2.2.2.2.2.2.2.2.2.2.2.2.1 g0 g1 (fun q => k1 q X hX) (fun q => k2 q X hX)
theorem ex_if_ne {NC : Nat} : k_if_ne (Ex NC) := by
  intro _ _ _ _ _ _ _ _ _ _ g0 g1 k1 k2 X hX
  exact hX.2.2.2.2.2.2.2.2.2.2.2.2.2.2.2.2.2.2.2.2.2.2.2.2.2.2.2.2.2.2.2.2.2.2.2.2.2.2.1 g0 g1 (fun q => k1 q X hX) (fun q => k2 q X hX)
theorem ex_if_lt {NC : Nat} : k_if_lt (Ex NC) := by
  intro _ _ _ _ _ _ _ _ _ _ g0 g1 k1 k2 X hX
  exact hX.2.2.2.2.2.2.2.2.2.2.2.2.2.2.2.2.2.2.2.2.2.2.2.2.2.2.2.2.2.2.2.2.2.2.2.2.2.2.2.1 g0 g1 (fun q => k1 q X hX) (fun q => k2 q X hX)
theorem ex_if_ge {NC : Nat} : k_if_ge (Ex NC) := by
  intro _ _ _ _ _ _ _ _ _ _ g0 g1 k1 k2 X hX
  exact hX.2.2.2.2.2.2.2.2.2.2.2.2.2.2.2.2.2.2.2.2.2.2.2.2.2.2.2.2.2.2.2.2.2.2.2.2.2.2.2.2.1 g0 g1 (fun q => k1 q X hX) (fun q => k2 q X hX)
theorem ex_if_gt {NC : Nat} : k_if_gt (Ex NC) := by
  intro _ _ _ _ _ _ _ _ _ _ g0 g1 k1 k2 X hX
  exact hX.2.2.2.2.2.2.2.2.2.2.2.2.2.2.2.2.2.2.2.2.2.2.2.2.2.2.2.2.2.2.2.2.2.2.2.2.2.2.2.2.2.1 g0 g1 (fun q => k1 q X hX) (fun q => k2 q X hX)
theorem ex_if_le {NC : Nat} : k_if_le (Ex NC) := by
  intro _ _ _ _ _ _ _ _ _ _ g0 g1 k1 k2 X hX
  exact hX.2.2.2.2.2.2.2.2.2.2.2.2.2.2.2.2.2.2.2.2.2.2.2.2.2.2.2.2.2.2.2.2.2.2.2.2.2.2.2.2.2.2.1 g0 g1 (fun q => k1 q X hX) (fun q => k2 q X hX)
theorem ex_icmp_eq {NC : Nat} : k_icmp_eq (Ex NC) := by
  intro _ _ _ _ _ _ _ _ _ _ _ g0 g1 k1 k2 X hX
  exact hX.2.2.2.2.2.2.2.2.2.2.2.2.2.2.2.2.2.2.2.2.2.2.2.2.2.2.2.2.2.2.2.2.2.2.2.2.2.2.2.2.2.2.2.1 g0 g1 (fun q => k1 q X hX) (fun q => k2 q X hX)
theorem ex_icmp_ne {NC : Nat} : k_icmp_ne (Ex NC) := by
  intro _ _ _ _ _ _ _ _ _ _ _ g0 g1 k1 k2 X hX
  exact hX.2.2.2.2.2.2.2.2.2.2.2.2.2.2.2.2.2.2.2.2.2.2.2.2.2.2.2.2.2.2.2.2.2.2.2.2.2.2.2.2.2.2.2.2.1 g0 g1 (fun q => k1 q X hX) (fun q => k2 q X hX)
theorem ex_icmp_lt {NC : Nat} : k_icmp_lt (Ex NC) := by
  intro _ _ _ _ _ _ _ _ _ _ _ g0 g1 k1 k2 X hX
  exact hX.2.2.2.2.2.2.2.2.2.2.2.2.2.2.2.2.2.2.2.2.2.2.2.2.2.2.2.2.2.2.2.2.2.2.2.2.2.2.2.2.2.2.2.2.2.1 g0 g1 (fun q => k1 q X hX) (fun q => k2 q X hX)
theorem ex_icmp_ge {NC : Nat} : k_icmp_ge (Ex NC) := by
  intro _ _ _ _ _ _ _ _ _ _ _ g0 g1 k1 k2 X hX
  exact hX.2.2.2.2.2.2.2.2.2.2.2.2.2.2.2.2.2.2.2.2.2.2.2.2.2.2.2.2.2.2.2.2.2.2.2.2.2.2.2.2.2.2.2.2.2.2.1 g0 g1 (fun q => k1 q X hX) (fun q => k2 q X hX)
theorem ex_icmp_gt {NC : Nat} : k_icmp_gt (Ex NC) := by
  intro _ _ _ _ _ _ _ _ _ _ _ g0 g1 k1 k2 X hX
  exact hX.2.2.2.2.2.2.2.2.2.2.2.2.2.2.2.2.2.2.2.2.2.2.2.2.2.2.2.2.2.2.2.2.2.2.2.2.2.2.2.2.2.2.2.2.2.2.2.1 g0 g1 (fun q => k1 q X hX) (fun q => k2 q X hX)
theorem ex_icmp_le {NC : Nat} : k_icmp_le (Ex NC) := by
  intro _ _ _ _ _ _ _ _ _ _ _ g0 g1 k1 k2 X hX
  exact hX.2.2.2.2.2.2.2.2.2.2.2.2.2.2.2.2.2.2.2.2.2.2.2.2.2.2.2.2.2.2.2.2.2.2.2.2.2.2.2.2.2.2.2.2.2.2.2.2.1 g0 g1 (fun q => k1 q X hX) (fun q => k2 q X hX)
theorem ex_goto {NC : Nat} : k_goto (Ex NC) := by
  intro _ _ _ _ _ _ _ _ _ g0 g1 k X hX
  exact hX.2.2.2.2.2.2.2.2.2.2.2.2.2.2.2.2.2.2.2.2.2.2.2.2.2.2.2.2.2.2.2.2.2.2.2.2.2.2.2.2.2.2.2.2.2.2.2.2.2.1 g0 g1 (k X hX)
theorem ex_tabI {NC : Nat} : k_tabI (Ex NC) := by
  intro _ _ _ _ _ _ _ _ _ _ _ _ _ _ _ g0 g1 g2 g3 g4 k X hX
  exact hX.2.2.2.2.2.2.2.2.2.2.2.2.2.2.2.2.2.2.2.2.2.2.2.2.2.2.2.2.2.2.2.2.2.2.2.2.2.2.2.2.2.2.2.2.2.2.2.2.2.2.1 g0 g1 g2 g3 g4 (k X hX)
theorem ex_tabO {NC : Nat} : k_tabO (Ex NC) := by
  intro _ _ _ _ _ _ _ _ _ _ _ _ _ _ g0 g1 g2 k X hX
  exact hX.2.2.2.2.2.2.2.2.2.2.2.2.2.2.2.2.2.2.2.2.2.2.2.2.2.2.2.2.2.2.2.2.2.2.2.2.2.2.2.2.2.2.2.2.2.2.2.2.2.2.2.1 g0 g1 g2 (k X hX)
theorem ex_istore_n {NC : Nat} : k_istore_n (Ex NC) := by
  intro _ _ _ _ _ _ _ _ _ _ g0 g1 g2 k X hX
  exact hX.2.2.2.2.2.2.2.2.2.2.2.2.2.2.2.2.2.2.2.2.2.2.2.2.2.2.2.2.2.2.2.2.2.2.2.2.2.2.2.2.2.2.2.2.2.2.2.2.2.2.2.2.1 g0 g1 g2 (k X hX)
theorem ex_istore {NC : Nat} : k_istore (Ex NC) := by
  intro _ _ _ _ _ _ _ _ _ g0 g1 k X hX
  exact hX.2.2.2.2.2.2.2.2.2.2.2.2.2.2.2.2.2.2.2.2.2.2.2.2.2.2.2.2.2.2.2.2.2.2.2.2.2.2.2.2.2.2.2.2.2.2.2.2.2.2.2.2.2.1 g0 g1 (k X hX)
theorem ex_astore_n {NC : Nat} : k_astore_n (Ex NC) := by
  intro _ _ _ _ _ _ _ _ _ _ g0 g1 g2 k X hX
  exact hX.2.2.2.2.2.2.2.2.2.2.2.2.2.2.2.2.2.2.2.2.2.2.2.2.2.2.2.2.2.2.2.2.2.2.2.2.2.2.2.2.2.2.2.2.2.2.2.2.2.2.2.2.2.2.1 g0 g1 g2 (k X hX)
theorem ex_astore {NC : Nat} : k_astore (Ex NC) := by
  intro _ _ _ _ _ _ _ _ _ g0 g1 k X hX
  exact hX.2.2.2.2.2.2.2.2.2.2.2.2.2.2.2.2.2.2.2.2.2.2.2.2.2.2.2.2.2.2.2.2.2.2.2.2.2.2.2.2.2.2.2.2.2.2.2.2.2.2.2.2.2.2.2.1 g0 g1 (k X hX)
theorem ex_iinc {NC : Nat} : k_iinc (Ex NC) := by
  intro _ _ _ _ _ _ _ _ _ _ _ g0 g1 g2 g3 k X hX
  exact hX.2.2.2.2.2.2.2.2.2.2.2.2.2.2.2.2.2.2.2.2.2.2.2.2.2.2.2.2.2.2.2.2.2.2.2.2.2.2.2.2.2.2.2.2.2.2.2.2.2.2.2.2.2.2.2.2.1 g0 g1 g2 g3 (k X hX)
theorem ex_putf {NC : Nat} : k_putf NC (Ex NC) := by
  intro _ _ _ _ _ _ _ _ _ _ _ _ _ _ _ _ _ g0 g1 g2 g3 g4 g5 g6 g7 g8 k X hX
  exact hX.2.2.2.2.2.2.2.2.2.2.2.2.2.2.2.2.2.2.2.2.2.2.2.2.2.2.2.2.2.2.2.2.2.2.2.2.2.2.2.2.2.2.2.2.2.2.2.2.2.2.2.2.2.2.2.2.2.1 g0 g1 g2 g3 g4 g5 g6 g7 g8 (k X hX)
theorem ex_iast {NC : Nat} : k_iast NC (Ex NC) := by
  intro _ _ _ _ _ _ _ _ _ _ _ _ g0 g1 g2 g3 k X hX
  exact hX.2.2.2.2.2.2.2.2.2.2.2.2.2.2.2.2.2.2.2.2.2.2.2.2.2.2.2.2.2.2.2.2.2.2.2.2.2.2.2.2.2.2.2.2.2.2.2.2.2.2.2.2.2.2.2.2.2.2.1 g0 g1 g2 g3 (k X hX)
theorem ex_bast {NC : Nat} : k_bast NC (Ex NC) := by
  intro _ _ _ _ _ _ _ _ _ _ _ _ g0 g1 g2 g3 k X hX
  exact hX.2.2.2.2.2.2.2.2.2.2.2.2.2.2.2.2.2.2.2.2.2.2.2.2.2.2.2.2.2.2.2.2.2.2.2.2.2.2.2.2.2.2.2.2.2.2.2.2.2.2.2.2.2.2.2.2.2.2.2.1 g0 g1 g2 g3 (k X hX)
theorem ex_zast {NC : Nat} : k_zast NC (Ex NC) := by
  intro _ _ _ _ _ _ _ _ _ _ _ _ g0 g1 g2 g3 k X hX
  exact hX.2.2.2.2.2.2.2.2.2.2.2.2.2.2.2.2.2.2.2.2.2.2.2.2.2.2.2.2.2.2.2.2.2.2.2.2.2.2.2.2.2.2.2.2.2.2.2.2.2.2.2.2.2.2.2.2.2.2.2.2.1 g0 g1 g2 g3 (k X hX)
theorem ex_iret {NC : Nat} : k_iret (Ex NC) := by
  intro _ _ _ _ _ _ g0 g1 g2 X hX
  exact hX.2.2.2.2.2.2.2.2.2.2.2.2.2.2.2.2.2.2.2.2.2.2.2.2.2.2.2.2.2.2.2.2.2.2.2.2.2.2.2.2.2.2.2.2.2.2.2.2.2.2.2.2.2.2.2.2.2.2.2.2.2.1 g0 g1 g2
theorem ex_zret {NC : Nat} : k_zret (Ex NC) := by
  intro _ _ _ _ _ _ g0 g1 g2 g3 X hX
  exact hX.2.2.2.2.2.2.2.2.2.2.2.2.2.2.2.2.2.2.2.2.2.2.2.2.2.2.2.2.2.2.2.2.2.2.2.2.2.2.2.2.2.2.2.2.2.2.2.2.2.2.2.2.2.2.2.2.2.2.2.2.2.2.1 g0 g1 g2 g3
theorem ex_vret {NC : Nat} : k_vret (Ex NC) := by
  intro _ _ _ _ _ g0 g1 g2 X hX
  exact hX.2.2.2.2.2.2.2.2.2.2.2.2.2.2.2.2.2.2.2.2.2.2.2.2.2.2.2.2.2.2.2.2.2.2.2.2.2.2.2.2.2.2.2.2.2.2.2.2.2.2.2.2.2.2.2.2.2.2.2.2.2.2.2.1 g0 g1 g2
theorem ex_fret {NC : Nat} : k_fret (Ex NC) := by
  intro _ _ _ _ _ _ g0 g1 g2 X hX
  exact hX.2.2.2.2.2.2.2.2.2.2.2.2.2.2.2.2.2.2.2.2.2.2.2.2.2.2.2.2.2.2.2.2.2.2.2.2.2.2.2.2.2.2.2.2.2.2.2.2.2.2.2.2.2.2.2.2.2.2.2.2.2.2.2.2.1 g0 g1 g2
theorem ex_cvi {NC : Nat} : k_cvi NC (Ex NC) := by
  intro _ _ _ _ _ _ _ _ _ _ _ _ _ _ _ _ _  g0 g1 g2 g3 g4 g5 g6 g7 g8 k1 k2 X hX
  exact hX.2.2.2.2.2.2.2.2.2.2.2.2.2.2.2.2.2.2.2.2.2.2.2.2.2.2.2.2.2.2.2.2.2.2.2.2.2.2.2.2.2.2.2.2.2.2.2.2.2.2.2.2.2.2.2.2.2.2.2.2.2.2.2.2.2.1 g0 g1 g2 g3 g4 g5 g6 g7 g8 (k1 X hX) (fun r h1 q => k2 r h1 q X hX)
theorem ex_csi {NC : Nat} : k_csi (Ex NC) := by
  intro _ _ _ _ _ _ _ _ _ _ _ _  g0 g1 g2 g3 g4 g5 k1 k2 X hX
  exact hX.2.2.2.2.2.2.2.2.2.2.2.2.2.2.2.2.2.2.2.2.2.2.2.2.2.2.2.2.2.2.2.2.2.2.2.2.2.2.2.2.2.2.2.2.2.2.2.2.2.2.2.2.2.2.2.2.2.2.2.2.2.2.2.2.2.2.1 g0 g1 g2 g3 g4 g5 (k1 X hX) (fun r h1 q => k2 r h1 q X hX)
theorem ex_cvv {NC : Nat} : k_cvv NC (Ex NC) := by
  intro _ _ _ _ _ _ _ _ _ _ _ _ _ _ _ _ _  g0 g1 g2 g3 g4 g5 g6 g7 g8 k1 k2 X hX
  exact hX.2.2.2.2.2.2.2.2.2.2.2.2.2.2.2.2.2.2.2.2.2.2.2.2.2.2.2.2.2.2.2.2.2.2.2.2.2.2.2.2.2.2.2.2.2.2.2.2.2.2.2.2.2.2.2.2.2.2.2.2.2.2.2.2.2.2.2.1 g0 g1 g2 g3 g4 g5 g6 g7 g8 (k1 X hX) (fun h1 q => k2 h1 q X hX)
theorem ex_csv {NC : Nat} : k_csv (Ex NC) := by
  intro _ _ _ _ _ _ _ _ _ _ _ _  g0 g1 g2 g3 g4 g5 k1 k2 X hX
  exact hX.2.2.2.2.2.2.2.2.2.2.2.2.2.2.2.2.2.2.2.2.2.2.2.2.2.2.2.2.2.2.2.2.2.2.2.2.2.2.2.2.2.2.2.2.2.2.2.2.2.2.2.2.2.2.2.2.2.2.2.2.2.2.2.2.2.2.2.2.1 g0 g1 g2 g3 g4 g5 (k1 X hX) (fun h1 q => k2 h1 q X hX)
theorem ex_cvx {NC : Nat} : k_cvx NC (Ex NC) := by
  intro _ _ _ _ _ _ _ _ _ _ _ _ _ _ _ _ _  g0 g1 g2 g3 g4 g5 g6 g7 g8 k1 k2 X hX
  exact hX.2.2.2.2.2.2.2.2.2.2.2.2.2.2.2.2.2.2.2.2.2.2.2.2.2.2.2.2.2.2.2.2.2.2.2.2.2.2.2.2.2.2.2.2.2.2.2.2.2.2.2.2.2.2.2.2.2.2.2.2.2.2.2.2.2.2.2.2.2.1 g0 g1 g2 g3 g4 g5 g6 g7 g8 (k1 X hX) k2
theorem ex_csx {NC : Nat} : k_csx (Ex NC) := by
  intro _ _ _ _ _ _ _ _ _ _ _ _  g0 g1 g2 g3 g4 g5 k1 k2 X hX
  exact hX.2.2.2.2.2.2.2.2.2.2.2.2.2.2.2.2.2.2.2.2.2.2.2.2.2.2.2.2.2.2.2.2.2.2.2.2.2.2.2.2.2.2.2.2.2.2.2.2.2.2.2.2.2.2.2.2.2.2.2.2.2.2.2.2.2.2.2.2.2.2.1 g0 g1 g2 g3 g4 g5 (k1 X hX) k2
theorem ex_thr {NC : Nat} : k_thr (Ex NC) := by
  intro _ _ _ _ _ _ g0 g1 g2 g3 X hX
  exact hX.2.2.2.2.2.2.2.2.2.2.2.2.2.2.2.2.2.2.2.2.2.2.2.2.2.2.2.2.2.2.2.2.2.2.2.2.2.2.2.2.2.2.2.2.2.2.2.2.2.2.2.2.2.2.2.2.2.2.2.2.2.2.2.2.2.2.2.2.2.2.2.1 g0 g1 g2 g3
theorem ex_l_max {NC : Nat} : k_l_max (Ex NC) := by
  intro _ _ _ _ _ _ _ _ _ _  g0 g1 g2 g3 k X hX
  exact hX.2.2.2.2.2.2.2.2.2.2.2.2.2.2.2.2.2.2.2.2.2.2.2.2.2.2.2.2.2.2.2.2.2.2.2.2.2.2.2.2.2.2.2.2.2.2.2.2.2.2.2.2.2.2.2.2.2.2.2.2.2.2.2.2.2.2.2.2.2.2.2.2.1 g0 g1 g2 g3 (k X hX)
theorem ex_l_min {NC : Nat} : k_l_min (Ex NC) := by
  intro _ _ _ _ _ _ _ _ _ _  g0 g1 g2 g3 k X hX
  exact hX.2.2.2.2.2.2.2.2.2.2.2.2.2.2.2.2.2.2.2.2.2.2.2.2.2.2.2.2.2.2.2.2.2.2.2.2.2.2.2.2.2.2.2.2.2.2.2.2.2.2.2.2.2.2.2.2.2.2.2.2.2.2.2.2.2.2.2.2.2.2.2.2.2.1 g0 g1 g2 g3 (k X hX)
theorem ex_l_abs {NC : Nat} : k_l_abs (Ex NC) := by
  intro _ _ _ _ _ _ _ _ _  g0 g1 g2 g3 k X hX
  exact hX.2.2.2.2.2.2.2.2.2.2.2.2.2.2.2.2.2.2.2.2.2.2.2.2.2.2.2.2.2.2.2.2.2.2.2.2.2.2.2.2.2.2.2.2.2.2.2.2.2.2.2.2.2.2.2.2.2.2.2.2.2.2.2.2.2.2.2.2.2.2.2.2.2.2.1 g0 g1 g2 g3 (k X hX)
theorem ex_l_compare {NC : Nat} : k_l_compare (Ex NC) := by
  intro _ _ _ _ _ _ _ _ _ _  g0 g1 g2 g3 k X hX
  exact hX.2.2.2.2.2.2.2.2.2.2.2.2.2.2.2.2.2.2.2.2.2.2.2.2.2.2.2.2.2.2.2.2.2.2.2.2.2.2.2.2.2.2.2.2.2.2.2.2.2.2.2.2.2.2.2.2.2.2.2.2.2.2.2.2.2.2.2.2.2.2.2.2.2.2.2.1 g0 g1 g2 g3 (k X hX)
theorem ex_l_signum {NC : Nat} : k_l_signum (Ex NC) := by
  intro _ _ _ _ _ _ _ _ _  g0 g1 g2 g3 k X hX
  exact hX.2.2.2.2.2.2.2.2.2.2.2.2.2.2.2.2.2.2.2.2.2.2.2.2.2.2.2.2.2.2.2.2.2.2.2.2.2.2.2.2.2.2.2.2.2.2.2.2.2.2.2.2.2.2.2.2.2.2.2.2.2.2.2.2.2.2.2.2.2.2.2.2.2.2.2.2.1 g0 g1 g2 g3 (k X hX)
theorem ex_l_fill {NC : Nat} : k_l_fill NC (Ex NC) := by
  intro _ _ _ _ _ _ _ _ _ _ _ _  g0 g1 g2 g3 g4 g5 g6 k X hX
  exact hX.2.2.2.2.2.2.2.2.2.2.2.2.2.2.2.2.2.2.2.2.2.2.2.2.2.2.2.2.2.2.2.2.2.2.2.2.2.2.2.2.2.2.2.2.2.2.2.2.2.2.2.2.2.2.2.2.2.2.2.2.2.2.2.2.2.2.2.2.2.2.2.2.2.2.2.2.2.1 g0 g1 g2 g3 g4 g5 g6 (k X hX)
theorem ex_l_copy {NC : Nat} : k_l_copy NC (Ex NC) := by
  intro _ _ _ _ _ _ _ _ _ _ _ _ _ _ _  g0 g1 g2 g3 g4 g5 g6 g7 g8 g9 g10 k X hX
  exact hX.2.2.2.2.2.2.2.2.2.2.2.2.2.2.2.2.2.2.2.2.2.2.2.2.2.2.2.2.2.2.2.2.2.2.2.2.2.2.2.2.2.2.2.2.2.2.2.2.2.2.2.2.2.2.2.2.2.2.2.2.2.2.2.2.2.2.2.2.2.2.2.2.2.2.2.2.2.2.1 g0 g1 g2 g3 g4 g5 g6 g7 g8 g9 g10 (k X hX)
theorem ex_l_length {NC : Nat} : k_l_length (Ex NC) := by
  intro _ _ _ _ _ _ _ _ _ _  g0 g1 g2 g3 g4 g5 k X hX
  exact hX.2.2.2.2.2.2.2.2.2.2.2.2.2.2.2.2.2.2.2.2.2.2.2.2.2.2.2.2.2.2.2.2.2.2.2.2.2.2.2.2.2.2.2.2.2.2.2.2.2.2.2.2.2.2.2.2.2.2.2.2.2.2.2.2.2.2.2.2.2.2.2.2.2.2.2.2.2.2.2.1 g0 g1 g2 g3 g4 g5 (k X hX)
theorem ex_l_charAt {NC : Nat} : k_l_charAt (Ex NC) := by
  intro _ _ _ _ _ _ _ _ _ _ _ _  g0 g1 g2 g3 g4 g5 g6 g7 k X hX
  exact hX.2.2.2.2.2.2.2.2.2.2.2.2.2.2.2.2.2.2.2.2.2.2.2.2.2.2.2.2.2.2.2.2.2.2.2.2.2.2.2.2.2.2.2.2.2.2.2.2.2.2.2.2.2.2.2.2.2.2.2.2.2.2.2.2.2.2.2.2.2.2.2.2.2.2.2.2.2.2.2.2 g0 g1 g2 g3 g4 g5 g6 g7 (k X hX)
end
section
/-! SOUNDNESS: what the least relation says of a method holds of its bytecode. Γ: the addresses of the places, the classes' numbers, the arrays' classes, what may be written. -/
abbrev en : Type := (Nat → Nat) × va_G × (Nat → ClassId) × (Nat → Prop)
def trV (ad : Nat → Nat) : Value → Value
  | .ref a => .ref (ad a)
  | v => v
theorem trV_cat (ad : Nat → Nat) (v : Value) : (trV ad v).category = v.category := by cases v <;> rfl
def trE (ad : Nat → Nat) (cy : Nat → ClassId) : va_E → va_E
  | .inl (t, n, .inr (.inr (.inr (.inr f)))) => .inl (cy t, n, .inr (.inr (.inr (.inr (fun i => (f i).map ad)))))
  | .inl (t, n, .inl f) => .inl (cy t, n, .inl f)
  | .inl (t, n, .inr (.inl f)) => .inl (cy t, n, .inr (.inl f))
  | .inl (t, n, .inr (.inr (.inl f))) => .inl (cy t, n, .inr (.inr (.inl f)))
  | .inl (t, n, .inr (.inr (.inr (.inl f)))) => .inl (cy t, n, .inr (.inr (.inr (.inl f))))
  | .inr (ci, fs) => .inr (ci, fs.map (trV ad))
def wsOf (Γ : en) (NC : Nat) (h : hp) : va_W := (List.range NC).map (fun i => (Γ.1 i, trE Γ.1 Γ.2.2.1 (h i)))
def tysOf (Γ : en) : List (ClassId × FieldType) := [(Γ.2.2.1 0, .int), (Γ.2.2.1 1, .byte), (Γ.2.2.1 2, .boolean), (Γ.2.2.1 3, .object "KitePainter$Sail"), (Γ.2.2.1 4, .array .int), (Γ.2.2.1 5, .long)]
theorem ws_get {Γ : en} {NC a : Nat} {h : hp} (hn : a < NC) : (wsOf Γ NC h)[a]? = some (Γ.1 a, trE Γ.1 Γ.2.2.1 (h a)) := by
  simp [wsOf, List.getElem?_map, List.getElem?_range hn]
theorem ws_inr {Γ : en} {NC a ci : Nat} {h : hp} {fs : List Value} (hn : a < NC) (ha : h a = .inr (ci, fs)) : (wsOf Γ NC h)[a]? = some (Γ.1 a, .inr (ci, fs.map (trV Γ.1))) := by
  rw [ws_get hn, ha]; rfl
theorem ws_i {Γ : en} {NC a t n : Nat} {h : hp} {f : Nat → Int32} (hn : a < NC) (ha : h a = .inl (t, n, .inl f)) : (wsOf Γ NC h)[a]? = some (Γ.1 a, .inl (Γ.2.2.1 t, n, .inl f)) := by
  rw [ws_get hn, ha]; rfl
theorem ws_q {Γ : en} {NC a t n : Nat} {h : hp} {f : Nat → Option Nat} (hn : a < NC) (ha : h a = .inl (t, n, .inr (.inr (.inr (.inr f))))) : (wsOf Γ NC h)[a]? = some (Γ.1 a, .inl (Γ.2.2.1 t, n, .inr (.inr (.inr (.inr (fun i => (f i).map Γ.1)))))) := by
  rw [ws_get hn, ha]; rfl
theorem ws_set {Γ : en} {NC a : Nat} {h : hp} {e : va_E} : (wsOf Γ NC h).set a (Γ.1 a, trE Γ.1 Γ.2.2.1 e) = wsOf Γ NC (va_up h a e) := by
  apply List.ext_getElem?
  intro i
  rw [List.getElem?_set]
  by_cases hi : a = i
  · subst hi
    by_cases hn : a < NC
    · rw [if_pos rfl, if_pos (by simpa [wsOf] using hn), ws_get hn]
      simp [va_up]
    · rw [if_pos rfl, if_neg (by simpa [wsOf] using hn)]
      symm
      rw [List.getElem?_eq_none_iff]
      simpa [wsOf] using hn
  · rw [if_neg hi]
    by_cases hn : i < NC
    · rw [ws_get hn, ws_get hn]
      simp [va_up, Ne.symm hi]
    · rw [List.getElem?_eq_none_iff.mpr (by simpa [wsOf] using hn), List.getElem?_eq_none_iff.mpr (by simpa [wsOf] using hn)]
/-- the locals -/
def LRel (ad : Nat → Nat) (ls : Array Slot) (n : Nat) (L : List Value) : Prop := ls.size = n ∧ lv_wf ls ∧ ∀ (i : Nat) (v : Value), L[i]? = some v → v ≠ .null → v.category = 1 ∧ ls[i]? = some (.val (trV ad v))
theorem LRel.get {ad : Nat → Nat} {ls : Array Slot} {n i : Nat} {L : List Value} {v : Value} (h : LRel ad ls n L) (hl : L[i]? = some v) (hv : v ≠ .null) : ls[i]? = some (.val (trV ad v)) := (h.2.2 i v hl hv).2
def lst (ad : Nat → Nat) (L : List Value) : List (Nat × Value) := (List.range L.length).filterMap (fun i => match L[i]? with | some Value.null => none | some v => some (i, trV ad v) | none => none)
theorem lst_mem {ad : Nat → Nat} {L : List Value} {q : Nat × Value} : q ∈ lst ad L ↔ ∃ v, L[q.1]? = some v ∧ v ≠ .null ∧ q.2 = trV ad v := by
  unfold lst
  rw [List.mem_filterMap]
  constructor
  · rintro ⟨i, hi, h⟩
    cases hv : L[i]? with
    | none => rw [hv] at h; cases h
    | some v =>
      rw [hv] at h
      cases v <;> first | (cases h; done) | (cases h; exact ⟨_, hv, (fun z => by cases z), rfl⟩)
  · rintro ⟨v, h1, h2, h3⟩
    refine ⟨q.1, List.mem_range.mpr (List.getElem?_eq_some_iff.mp h1).1, ?_⟩
    rw [h1]
    cases v <;> first | (exact absurd rfl h2) | (show some _ = some _; rw [← h3])
theorem LRel.has {ad : Nat → Nat} {ls : Array Slot} {n : Nat} {L : List Value} (h : LRel ad ls n L) : lv_has ls n (lst ad L) := by
  refine ⟨h.1, h.2.1, fun q hq => ?_⟩
  obtain ⟨v, h1, h2, h3⟩ := lst_mem.mp hq
  rw [h3]
  exact h.get h1 h2
theorem LRel.store {ad : Nat → Nat} {ls ls' : Array Slot} {n i : Nat} {L : List Value} {v : Value} (h : LRel ad ls n L) (hc : v.category = 1) (h' : lv_has ls' n ((i, trV ad v) :: (lst ad L).filter (fun q => !(q.1 == i) && !(q.1 + 1 == i && q.2.category == 2)))) : LRel ad ls' n (L.set i v) := by
  refine ⟨h'.1, h'.2.1, fun j w hj hw => ?_⟩
  by_cases hji : i = j
  · subst hji
    rw [List.getElem?_set] at hj
    rw [if_pos rfl] at hj
    split at hj
    · cases hj
      exact ⟨hc, h'.2.2 (i, trV ad v) List.mem_cons_self⟩
    · cases hj
  · rw [List.getElem?_set_ne hji] at hj
    refine ⟨(h.2.2 j w hj hw).1, h'.2.2 (j, trV ad w) (List.mem_cons_of_mem _ (List.mem_filter.mpr ⟨lst_mem.mpr ⟨w, hj, hw, rfl⟩, ?_⟩))⟩
    have hcw : (trV ad w).category = 1 := by rw [trV_cat]; exact (h.2.2 j w hj hw).1
    simp [hcw, Ne.symm hji]
theorem cat1_all {vs : List Value} (h : cat1 vs) : ∀ v ∈ vs, v.category = 1 := by
  intro v hv
  have := List.all_eq_true.mp h v hv
  simpa using this
theorem lg_len {vs : List Value} (h : ∀ v ∈ vs, v.category = 1) : (lg_sl vs).length = vs.length := by
  induction vs with
  | nil => rfl
  | cons v vs ih =>
    have h1 := h v List.mem_cons_self
    have h2 := ih (fun w hw => h w (List.mem_cons_of_mem _ hw))
    unfold lg_sl at h2 ⊢
    simp [h1, h2]
theorem args_mem {vs : List Value} (h : ∀ v ∈ vs, v.category = 1) : ∀ (k i : Nat) (v : Value), vs[i]? = some v → (k + i, v) ∈ lv_args k vs := by
  induction vs with
  | nil => intro k i v hv; simp at hv
  | cons w vs ih =>
    intro k i v hv
    have h1 := h w List.mem_cons_self
    have e : lv_args k (w :: vs) = (k, w) :: lv_args (k + 1) vs := by
      show (k, w) :: lv_args (if w.category = 2 then k + 2 else k + 1) vs = _
      rw [if_neg (by omega)]
    rw [e]
    cases i with
    | zero =>
      rw [List.getElem?_cons_zero] at hv
      cases hv
      exact List.mem_cons_self
    | succ i =>
      rw [List.getElem?_cons_succ] at hv
      have := ih (fun w hw => h w (List.mem_cons_of_mem _ hw)) (k + 1) i v hv
      rw [show k + (i + 1) = k + 1 + i by omega]
      exact List.mem_cons_of_mem _ this
theorem entry_rel {ad : Nat → Nat} {As : List Value} {n : Nat} (hc : cat1 As) (hn : As.length ≤ n) : LRel ad ((lg_sl (As.map (trV ad)) ++ List.replicate (n - (lg_sl (As.map (trV ad))).length) Slot.unset).toArray) n (pad n As) := by
  have hc' : ∀ v ∈ As.map (trV ad), v.category = 1 := by
    intro v hv
    obtain ⟨w, hw, rfl⟩ := List.mem_map.mp hv
    rw [trV_cat]
    exact cat1_all hc w hw
  have hl := lv_entry (As.map (trV ad)) (n := n) (by rw [lg_len hc', List.length_map]; exact hn)
  refine ⟨hl.1, hl.2.1, fun i v hv h0 => ?_⟩
  by_cases hi : i < As.length
  · have h1 : As[i]? = some v := by rw [pad, List.getElem?_append_left hi] at hv; exact hv
    refine ⟨cat1_all hc v (List.mem_of_getElem? h1), hl.2.2 (i, trV ad v) ?_⟩
    have := args_mem hc' 0 i (trV ad v) (by rw [List.getElem?_map, h1]; rfl)
    simpa using this
  · exfalso
    rw [pad, List.getElem?_append_right (by omega)] at hv
    exact h0 (List.eq_of_mem_replicate (List.mem_of_getElem? hv))
/-- the world -/
def Wd (Γ : en) (NC : Nat) (h : hp) (H : Heap) : Prop := va_P Γ.2.1 vwCl (wsOf Γ NC h) H ∧ va_D Γ.2.2.2 (wsOf Γ NC h)
def Hw (Γ : en) (NC : Nat) (h : hp) (H : Heap) (s : State) (locs : List Loc) : Prop := va_P Γ.2.1 vwCl (wsOf Γ NC h) H ∧ va_D Γ.2.2.2 (wsOf Γ NC h) ∧ va_S Γ.2.2.2 s.heap H locs
/-- what holds of the frame -/
def Cx (Γ : en) (St : State → Prop) (M : mt) (p : Program) (s : State) (m : MethodId) (args : Array Value) (meth : Method) (c : Code) : Prop :=
  p.tables.exec = Jvm.exec ∧ c.code = M.2.1 ∧ meth.sig.returnType = M.2.2.2.1 ∧ c.maxLocals = M.2.2.1 ∧ s.vm.findClass M.1.cls = some m.cls ∧ (∀ w ∈ gT, w.before args s = true) ∧ meth.locks = false ∧ (∀ x ∈ c.exceptionTable.toList, False) ∧ va_K Γ.2.1 vwCl (tysOf Γ) s ∧ St s
def rmM (b : Option String) (M : mt) : Room := { frames := M.2.2.2.2.1, cells := if b.isSome then 1 else 0, slots := if b.isSome then 6 else 0, locals := M.2.2.2.2.2 }
def wsM (M : mt) : List Cond := .code M.1 M.2.1 M.2.2.1 M.2.2.2.1 :: gT
def XCx (Γ : en) (NC : Nat) (E : String) (Q : qt) : String → State → State → Prop := fun E' st t => E' = E ∧ (∃ u, Q .null u ∧ Wd Γ NC u t.heap) ∧ va_F Γ.2.2.2 st t
def BW (Γ : en) (NC : Nat) (u : hp) (t : State) : Prop := Wd Γ NC u t.heap
def QcM (Γ : en) (NC : Nat) (M : mt) (Q : qt) : Array Value → State → Outcome → State → Prop := match M.2.2.2.1 with
  | none => va_Qv (fun u : hp => Q .null u) (BW Γ NC) Γ.2.2.2
  | some .float => va_Qf (fun (r : UInt32) (u : hp) => Q (.float r) u) (BW Γ NC) Γ.2.2.2
  | some _ => va_Qi (fun (r : Int32) (u : hp) => Q (.int r) u) (BW Γ NC) Γ.2.2.2
def TG (Γ : en) (NC : Nat) (b : Option String) (M : mt) (Q : qt) (below : List Frame) (args : Array Value) (s : State) : State → Prop := match b with
  | none => MQ below (QcM Γ NC M Q) args s 0 0 Γ.2.2.2
  | some E => vx_MQ below (fun _ _ _ _ => False) (XCx Γ NC E Q) args s 1 6 Γ.2.2.2
def Snd (Γ : en) (l : Launch) (St : State → Prop) (NC : Nat) : xt := fun b M pc L S h Q =>
  ∀ (p : Program) (e : Env) (s : State) (m : MethodId) (args : Array Value) (below : List Frame) (meth : Method) (c : Code) (H : Heap) (locs : List Loc) (ls : Array Slot),
    Cx Γ St M p s m args meth c → Hw Γ NC h H s locs → LRel Γ.1 ls M.2.2.1 L → W p l e (rmM b M) s m args below meth c H locs 0 0 (TG Γ NC b M Q below args s) (F0 m pc ls (S.map (trV Γ.1)))
def nestW : List Cond := [Cond.fieldLinkNest "KitePainter$RegionFinder" 62 "KitePainter" "NEIGHBOUR_X" "[I" "KitePainter", Cond.fieldLinkNest "KitePainter$RegionFinder" 65 "KitePainter" "NEIGHBOUR_Y" "[I" "KitePainter", Cond.fieldLinkNest "KitePainter$Sail" 132 "KitePainter" "NEIGHBOUR_X" "[I" "KitePainter", Cond.fieldLinkNest "KitePainter$Sail" 135 "KitePainter" "NEIGHBOUR_Y" "[I" "KitePainter"]
def envOK (Γ : en) (St : State → Prop) : Prop :=
  (∀ (s U : State) (H : Heap) (locs : List Loc), St s → va_S Γ.2.2.2 s.heap H locs → U.heap = H → s.WarmedH U.vm → St U) ∧
  (∀ (U : State) (g : JFrame) (mk : MethodId) (a : Array Value), St U → St (U.calling g mk a)) ∧
  (∀ (s : State) (j : Nat), j < 4 → St s → va_Z "KitePainter" (tabN j) "[I" (.ref (Γ.1 (1000 + j))) Γ.2.2.2 s s.heap) ∧
  (∀ (s : State) (j : Nat), j < 4 → St s → va_T .int (Γ.1 (1000 + j)) 4 (fun i => .int (tabF j i)) Γ.2.2.2 s s.heap) ∧
  (∀ (s : State) (own : String) (ix j : Nat) (tx : String), (own, ix, j, tx) ∈ strL → St s → vk_R own ix tx (Γ.1 (2000 + j)) s) ∧
  (∀ (s : State) (w : Cond), w ∈ nestW → St s → va_Nw w s)
section SN
variable {Γ : en} {l : Launch} {St : State → Prop} {NC : Nat}
theorem am_aald {p : Program} {e : Env} {R : Room} {s : State} {m : MethodId} {args : Array Value} {below : List Frame} {meth : Method} {c : Code} {H : Heap} {locs : List Loc} {cells slots : Nat} {Q : State → Prop} {cc : ByteArray} {pc : Nat} {ls : Array Slot} {rest : List Value} {ws : va_W} {a : Nat} (t0 : Nat) {q0 : Nat} {cA : ClassId} {ty : FieldType} {n : Nat} {f : Nat → Option Nat}
    (ha : ws[q0]? = some (a, .inl (cA, n, .inr (.inr (.inr (.inr (fun i => (f i).map Γ.1))))))) (hexec : p.tables.exec = Jvm.exec) (hb : c.code = cc) (hK : va_K Γ.2.1 vwCl (tysOf Γ) s) (hP : va_P Γ.2.1 vwCl ws H) (ht : (tysOf Γ)[t0]? = some (cA, ty)) {i : Int32} {q : Nat} (hin : vp_in i n) (hq : f i.toNatClampNeg = some q) (hdg : decode cc pc = .ok (.aaload, 1)) (hty : ty.isReference = true)
    (kk : W p l e R s m args below meth c H locs cells slots Q (F0 m (pc + 1) ls (.ref (Γ.1 q) :: rest))) : W p l e R s m args below meth c H locs cells slots Q (F0 m pc ls (.int i :: .ref a :: rest)) := by
  have hlt : i.toNatClampNeg < n := Nat.not_le.mp fun q => hin (Or.inr q)
  refine W.aald (v := .ref (Γ.1 q)) (ty := ty) hexec hb (hP q0 _ ha) ((hK.2 t0 _ ht).1 n (fun j => va_rf ((f j).map Γ.1))) hty (fun q => by cases q) (by show ¬ (i < 0 ∨ (arrV _ _ _).slots.size ≤ _); rw [arrV_size]; exact hin) (by show (arrV _ _ _).slots[_]? = _; rw [arrV_read _ _ hlt]; show some (va_rf ((f i.toNatClampNeg).map Γ.1)) = _; rw [hq]; rfl) rfl rfl hdg kk
theorem am_alen {p : Program} {e : Env} {R : Room} {s : State} {m : MethodId} {args : Array Value} {below : List Frame} {meth : Method} {c : Code} {H : Heap} {locs : List Loc} {cells slots : Nat} {Q : State → Prop} {cc : ByteArray} {pc : Nat} {ls : Array Slot} {rest : List Value} {ws : va_W} {a q0 n t : Nat} {f : Nat → Int32}
    (ha : ws[q0]? = some (a, .inl (Γ.2.2.1 t, n, .inl f))) (hexec : p.tables.exec = Jvm.exec) (hb : c.code = cc) (hK : va_K Γ.2.1 vwCl (tysOf Γ) s) (hP : va_P Γ.2.1 vwCl ws H) (ht : t < 3) {v : Int32} (hv : Int32.ofNat n = v) (hdg : decode cc pc = .ok (.arraylength, 1))
    (kk : W p l e R s m args below meth c H locs cells slots Q (F0 m (pc + 1) ls (.int v :: rest))) : W p l e R s m args below meth c H locs cells slots Q (F0 m pc ls (.ref a :: rest)) := by
  rcases (by omega : t = 0 ∨ t = 1 ∨ t = 2) with rfl | rfl | rfl
  · exact va_alen hexec hb hK hP q0 0 ha rfl hv hdg kk
  · exact va_alen hexec hb hK hP q0 1 ha rfl hv hdg kk
  · exact va_alen hexec hb hK hP q0 2 ha rfl hv hdg kk
theorem am_gets (hE : envOK Γ St) {p : Program} {e : Env} {R : Room} {s : State} {m : MethodId} {args : Array Value} {below : List Frame} {meth : Method} {c : Code} {H : Heap} {locs : List Loc} {cells slots : Nat} {Q : State → Prop} {cc : ByteArray} {pc : Nat} {ls : Array Slot} {rest : List Value} {own : String} {ix j : Nat}
    (hexec : p.tables.exec = Jvm.exec) (hb : c.code = cc) (hj : (own, ix, j) ∈ getsL) (hSt : St s) (hS : va_S Γ.2.2.2 s.heap H locs) (hown : s.vm.findClass own = some m.cls) (hts : ∀ w ∈ gT, w.before args s = true) (hdg : decode cc pc = .ok (.getstatic ix, 3))
    (kk : W p l e R s m args below meth c H locs cells slots Q (F0 m (pc + 3) ls (.ref (Γ.1 (1000 + j)) :: rest))) : W p l e R s m args below meth c H locs cells slots Q (F0 m pc ls rest) := by
  unfold getsL at hj
  simp only [List.mem_cons, Prod.mk.injEq, List.not_mem_nil, or_false] at hj
  rcases hj with ⟨rfl, rfl, rfl⟩ | ⟨rfl, rfl, rfl⟩ | ⟨rfl, rfl, rfl⟩ | ⟨rfl, rfl, rfl⟩ | ⟨rfl, rfl, rfl⟩ | ⟨rfl, rfl, rfl⟩
  · exact va_gets (ref := "KitePainter") hexec hb (hE.2.2.1 s 2 (by decide) hSt) hS hown (hts (Cond.fieldLink "KitePainter" 205 "KitePainter" "WAY_X" "[I") (by decide +kernel)) (fun _ h => h) hdg kk
  · exact va_gets (ref := "KitePainter") hexec hb (hE.2.2.1 s 3 (by decide) hSt) hS hown (hts (Cond.fieldLink "KitePainter" 212 "KitePainter" "WAY_Y" "[I") (by decide +kernel)) (fun _ h => h) hdg kk
  · exact va_getsN (ref := "KitePainter") (host := "KitePainter") hexec hb (hE.2.2.1 s 0 (by decide) hSt) hS hown ((hE.2.2.2.2.2 s (Cond.fieldLinkNest "KitePainter$RegionFinder" 62 "KitePainter" "NEIGHBOUR_X" "[I" "KitePainter") (by decide +kernel) hSt).use rfl) (fun _ h => h) hdg kk
  · exact va_getsN (ref := "KitePainter") (host := "KitePainter") hexec hb (hE.2.2.1 s 1 (by decide) hSt) hS hown ((hE.2.2.2.2.2 s (Cond.fieldLinkNest "KitePainter$RegionFinder" 65 "KitePainter" "NEIGHBOUR_Y" "[I" "KitePainter") (by decide +kernel) hSt).use rfl) (fun _ h => h) hdg kk
  · exact va_getsN (ref := "KitePainter") (host := "KitePainter") hexec hb (hE.2.2.1 s 0 (by decide) hSt) hS hown ((hE.2.2.2.2.2 s (Cond.fieldLinkNest "KitePainter$Sail" 132 "KitePainter" "NEIGHBOUR_X" "[I" "KitePainter") (by decide +kernel) hSt).use rfl) (fun _ h => h) hdg kk
  · exact va_getsN (ref := "KitePainter") (host := "KitePainter") hexec hb (hE.2.2.1 s 1 (by decide) hSt) hS hown ((hE.2.2.2.2.2 s (Cond.fieldLinkNest "KitePainter$Sail" 135 "KitePainter" "NEIGHBOUR_Y" "[I" "KitePainter") (by decide +kernel) hSt).use rfl) (fun _ h => h) hdg kk
theorem sn_iconst (hE : envOK Γ St) : k_iconst (Snd Γ l St NC) := by
  intro b M pc L S h Q n v hv hd kn p e s m args below meth c H locs ls hC hW hL
  obtain ⟨hx, hb, hr, hml, hown, hts, hlocks, hexc, hK, hSt⟩ := id hC
  obtain ⟨hP, hD, hS⟩ := id hW
  exact lv_iconst hx hb hd hv (kn p e s m args below meth c H locs ls hC hW hL)
theorem sn_bipush (hE : envOK Γ St) : k_bipush (Snd Γ l St NC) := by
  intro b M pc L S h Q n v hv hd kn p e s m args below meth c H locs ls hC hW hL
  obtain ⟨hx, hb, hr, hml, hown, hts, hlocks, hexc, hK, hSt⟩ := id hC
  obtain ⟨hP, hD, hS⟩ := id hW
  exact lv_bipush hx hb hd hv (kn p e s m args below meth c H locs ls hC hW hL)
theorem sn_sipush (hE : envOK Γ St) : k_sipush (Snd Γ l St NC) := by
  intro b M pc L S h Q n v hv hd kn p e s m args below meth c H locs ls hC hW hL
  obtain ⟨hx, hb, hr, hml, hown, hts, hlocks, hexc, hK, hSt⟩ := id hC
  obtain ⟨hP, hD, hS⟩ := id hW
  exact lv_sipush hx hb hd hv (kn p e s m args below meth c H locs ls hC hW hL)
theorem sn_ldcI (hE : envOK Γ St) : k_ldcI (Snd Γ l St NC) := by
  intro b M pc L S h Q ix v hv hd kn p e s m args below meth c H locs ls hC hW hL
  obtain ⟨hx, hb, hr, hml, hown, hts, hlocks, hexc, hK, hSt⟩ := id hC
  obtain ⟨hP, hD, hS⟩ := id hW
  exact lv_ldc hx hb hown (hts _ hv) hd (kn p e s m args below meth c H locs ls hC hW hL)
theorem sn_iload_n (hE : envOK Γ St) : k_iload_n (Snd Γ l St NC) := by
  intro b M pc L S h Q k i x hi hl hd kn p e s m args below meth c H locs ls hC hW hL
  obtain ⟨hx, hb, hr, hml, hown, hts, hlocks, hexc, hK, hSt⟩ := id hC
  obtain ⟨hP, hD, hS⟩ := id hW
  exact lv_iload_n hx hb hd hi (hL.get hl (by intro h; cases h)) (kn p e s m args below meth c H locs ls hC hW hL)
theorem sn_iload (hE : envOK Γ St) : k_iload (Snd Γ l St NC) := by
  intro b M pc L S h Q i x hl hd kn p e s m args below meth c H locs ls hC hW hL
  obtain ⟨hx, hb, hr, hml, hown, hts, hlocks, hexc, hK, hSt⟩ := id hC
  obtain ⟨hP, hD, hS⟩ := id hW
  exact lv_iload hx hb hd (hL.get hl (by intro h; cases h)) (kn p e s m args below meth c H locs ls hC hW hL)
theorem sn_aload_n (hE : envOK Γ St) : k_aload_n (Snd Γ l St NC) := by
  intro b M pc L S h Q k i x hi hl hd kn p e s m args below meth c H locs ls hC hW hL
  obtain ⟨hx, hb, hr, hml, hown, hts, hlocks, hexc, hK, hSt⟩ := id hC
  obtain ⟨hP, hD, hS⟩ := id hW
  exact lv_aload_n hx hb hd hi (hL.get hl (by intro h; cases h)) (kn p e s m args below meth c H locs ls hC hW hL)
theorem sn_aload (hE : envOK Γ St) : k_aload (Snd Γ l St NC) := by
  intro b M pc L S h Q i x hl hd kn p e s m args below meth c H locs ls hC hW hL
  obtain ⟨hx, hb, hr, hml, hown, hts, hlocks, hexc, hK, hSt⟩ := id hC
  obtain ⟨hP, hD, hS⟩ := id hW
  exact lv_aload hx hb hd (hL.get hl (by intro h; cases h)) (kn p e s m args below meth c H locs ls hC hW hL)
theorem sn_iadd (hE : envOK Γ St) : k_iadd (Snd Γ l St NC) := by
  intro b M pc L S h Q x y  hd kn p e s m args below meth c H locs ls hC hW hL
  obtain ⟨hx, hb, hr, hml, hown, hts, hlocks, hexc, hK, hSt⟩ := id hC
  obtain ⟨hP, hD, hS⟩ := id hW
  exact lv_iadd hx hb hd (kn p e s m args below meth c H locs ls hC hW hL)
theorem sn_isub (hE : envOK Γ St) : k_isub (Snd Γ l St NC) := by
  intro b M pc L S h Q x y  hd kn p e s m args below meth c H locs ls hC hW hL
  obtain ⟨hx, hb, hr, hml, hown, hts, hlocks, hexc, hK, hSt⟩ := id hC
  obtain ⟨hP, hD, hS⟩ := id hW
  exact lv_isub hx hb hd (kn p e s m args below meth c H locs ls hC hW hL)
theorem sn_imul (hE : envOK Γ St) : k_imul (Snd Γ l St NC) := by
  intro b M pc L S h Q x y  hd kn p e s m args below meth c H locs ls hC hW hL
  obtain ⟨hx, hb, hr, hml, hown, hts, hlocks, hexc, hK, hSt⟩ := id hC
  obtain ⟨hP, hD, hS⟩ := id hW
  exact lv_imul hx hb hd (kn p e s m args below meth c H locs ls hC hW hL)
theorem sn_iand (hE : envOK Γ St) : k_iand (Snd Γ l St NC) := by
  intro b M pc L S h Q x y  hd kn p e s m args below meth c H locs ls hC hW hL
  obtain ⟨hx, hb, hr, hml, hown, hts, hlocks, hexc, hK, hSt⟩ := id hC
  obtain ⟨hP, hD, hS⟩ := id hW
  exact lv_iand hx hb hd (kn p e s m args below meth c H locs ls hC hW hL)
theorem sn_ior (hE : envOK Γ St) : k_ior (Snd Γ l St NC) := by
  intro b M pc L S h Q x y  hd kn p e s m args below meth c H locs ls hC hW hL
  obtain ⟨hx, hb, hr, hml, hown, hts, hlocks, hexc, hK, hSt⟩ := id hC
  obtain ⟨hP, hD, hS⟩ := id hW
  exact lv_ior hx hb hd (kn p e s m args below meth c H locs ls hC hW hL)
theorem sn_ishl (hE : envOK Γ St) : k_ishl (Snd Γ l St NC) := by
  intro b M pc L S h Q x y  hd kn p e s m args below meth c H locs ls hC hW hL
  obtain ⟨hx, hb, hr, hml, hown, hts, hlocks, hexc, hK, hSt⟩ := id hC
  obtain ⟨hP, hD, hS⟩ := id hW
  exact lv_ishl hx hb hd (kn p e s m args below meth c H locs ls hC hW hL)
theorem sn_ishr (hE : envOK Γ St) : k_ishr (Snd Γ l St NC) := by
  intro b M pc L S h Q x y  hd kn p e s m args below meth c H locs ls hC hW hL
  obtain ⟨hx, hb, hr, hml, hown, hts, hlocks, hexc, hK, hSt⟩ := id hC
  obtain ⟨hP, hD, hS⟩ := id hW
  exact lv_ishr hx hb hd (kn p e s m args below meth c H locs ls hC hW hL)
theorem sn_idiv (hE : envOK Γ St) : k_idiv (Snd Γ l St NC) := by
  intro b M pc L S h Q x y hn hd kn p e s m args below meth c H locs ls hC hW hL
  obtain ⟨hx, hb, hr, hml, hown, hts, hlocks, hexc, hK, hSt⟩ := id hC
  obtain ⟨hP, hD, hS⟩ := id hW
  exact lv_idiv hx hb hd hn (kn p e s m args below meth c H locs ls hC hW hL)
theorem sn_irem (hE : envOK Γ St) : k_irem (Snd Γ l St NC) := by
  intro b M pc L S h Q x y hn hd kn p e s m args below meth c H locs ls hC hW hL
  obtain ⟨hx, hb, hr, hml, hown, hts, hlocks, hexc, hK, hSt⟩ := id hC
  obtain ⟨hP, hD, hS⟩ := id hW
  exact lv_irem hx hb hd hn (kn p e s m args below meth c H locs ls hC hW hL)
theorem sn_ineg (hE : envOK Γ St) : k_ineg (Snd Γ l St NC) := by
  intro b M pc L S h Q x  hd kn p e s m args below meth c H locs ls hC hW hL
  obtain ⟨hx, hb, hr, hml, hown, hts, hlocks, hexc, hK, hSt⟩ := id hC
  obtain ⟨hP, hD, hS⟩ := id hW
  exact lv_ineg hx hb hd (kn p e s m args below meth c H locs ls hC hW hL)
theorem sn_iushr (hE : envOK Γ St) : k_iushr (Snd Γ l St NC) := by
  intro b M pc L S h Q x y v hv hd kn p e s m args below meth c H locs ls hC hW hL
  obtain ⟨hx, hb, hr, hml, hown, hts, hlocks, hexc, hK, hSt⟩ := id hC
  obtain ⟨hP, hD, hS⟩ := id hW
  exact lv_iushr hx hb hd hv (kn p e s m args below meth c H locs ls hC hW hL)
theorem sn_i2b (hE : envOK Γ St) : k_i2b (Snd Γ l St NC) := by
  intro b M pc L S h Q x v hv hd kn p e s m args below meth c H locs ls hC hW hL
  obtain ⟨hx, hb, hr, hml, hown, hts, hlocks, hexc, hK, hSt⟩ := id hC
  obtain ⟨hP, hD, hS⟩ := id hW
  exact lv_i2b hx hb hd hv (kn p e s m args below meth c H locs ls hC hW hL)
theorem sn_dup (hE : envOK Γ St) : k_dup (Snd Γ l St NC) := by
  intro b M pc L S h Q v hv hd kn p e s m args below meth c H locs ls hC hW hL
  obtain ⟨hx, hb, hr, hml, hown, hts, hlocks, hexc, hK, hSt⟩ := id hC
  obtain ⟨hP, hD, hS⟩ := id hW
  exact lv_dup hx hb hd (by rw [trV_cat]; exact hv) (kn p e s m args below meth c H locs ls hC hW hL)
theorem sn_dup2 (hE : envOK Γ St) : k_dup2 (Snd Γ l St NC) := by
  intro b M pc L S h Q v w hv hw hd kn p e s m args below meth c H locs ls hC hW hL
  obtain ⟨hx, hb, hr, hml, hown, hts, hlocks, hexc, hK, hSt⟩ := id hC
  obtain ⟨hP, hD, hS⟩ := id hW
  exact lv_dup2_11 hx hb hd (by rw [trV_cat]; exact hv) (by rw [trV_cat]; exact hw) (kn p e s m args below meth c H locs ls hC hW hL)
theorem sn_pop (hE : envOK Γ St) : k_pop (Snd Γ l St NC) := by
  intro b M pc L S h Q v hv hd kn p e s m args below meth c H locs ls hC hW hL
  obtain ⟨hx, hb, hr, hml, hown, hts, hlocks, hexc, hK, hSt⟩ := id hC
  obtain ⟨hP, hD, hS⟩ := id hW
  exact lv_pop hx hb hd (by rw [trV_cat]; exact hv) (kn p e s m args below meth c H locs ls hC hW hL)
theorem sn_fconst0 (hE : envOK Γ St) : k_fconst0 (Snd Γ l St NC) := by
  intro b M pc L S h Q   hd kn p e s m args below meth c H locs ls hC hW hL
  obtain ⟨hx, hb, hr, hml, hown, hts, hlocks, hexc, hK, hSt⟩ := id hC
  obtain ⟨hP, hD, hS⟩ := id hW
  exact lv_fconst0 hx hb hd (kn p e s m args below meth c H locs ls hC hW hL)
theorem sn_i2f (hE : envOK Γ St) : k_i2f (Snd Γ l St NC) := by
  intro b M pc L S h Q x  hd kn p e s m args below meth c H locs ls hC hW hL
  obtain ⟨hx, hb, hr, hml, hown, hts, hlocks, hexc, hK, hSt⟩ := id hC
  obtain ⟨hP, hD, hS⟩ := id hW
  exact lv_i2f hx hb hd (kn p e s m args below meth c H locs ls hC hW hL)
theorem sn_fdiv (hE : envOK Γ St) : k_fdiv (Snd Γ l St NC) := by
  intro b M pc L S h Q x y hn hd kn p e s m args below meth c H locs ls hC hW hL
  obtain ⟨hx, hb, hr, hml, hown, hts, hlocks, hexc, hK, hSt⟩ := id hC
  obtain ⟨hP, hD, hS⟩ := id hW
  exact lv_fdiv hx hb hd hn (kn p e s m args below meth c H locs ls hC hW hL)
theorem sn_getf (hE : envOK Γ St) : k_getf NC (Snd Γ l St NC) := by
  intro b M pc L S h Q ci ix k C T N ty a fs v hc hk hw hn ha hv hd kn p e s m args below meth c H locs ls hC hW hL
  obtain ⟨hx, hb, hr, hml, hown, hts, hlocks, hexc, hK, hSt⟩ := id hC
  obtain ⟨hP, hD, hS⟩ := id hW
  exact va_get (D := Γ.2.1) (ci := ci) (C := C) (T := T) (N := N) hx hb hts hc.2.1 hown hK hP a (ws_inr hn ha) hc.1 k hk (hts _ hw) (fun _ h9 => h9) (by rw [List.getElem?_map, hv]; rfl) hd (kn p e s m args below meth c H locs ls hC hW hL)
theorem sn_iald (hE : envOK Γ St) : k_iald NC (Snd Γ l St NC) := by
  intro b M pc L S h Q a n f i hn ha hi hd kn p e s m args below meth c H locs ls hC hW hL
  obtain ⟨hx, hb, hr, hml, hown, hts, hlocks, hexc, hK, hSt⟩ := id hC
  obtain ⟨hP, hD, hS⟩ := id hW
  exact va_iald hx hb hK hP a 0 (ws_i hn ha) rfl hi hd (kn p e s m args below meth c H locs ls hC hW hL)
theorem sn_bald (hE : envOK Γ St) : k_bald NC (Snd Γ l St NC) := by
  intro b M pc L S h Q a n f i hn ha hi hd kn p e s m args below meth c H locs ls hC hW hL
  obtain ⟨hx, hb, hr, hml, hown, hts, hlocks, hexc, hK, hSt⟩ := id hC
  obtain ⟨hP, hD, hS⟩ := id hW
  exact va_bald hx hb hK hP a 1 (ws_i hn ha) rfl hi hd (kn p e s m args below meth c H locs ls hC hW hL)
theorem sn_zald (hE : envOK Γ St) : k_zald NC (Snd Γ l St NC) := by
  intro b M pc L S h Q a n f i hn ha hi hd kn p e s m args below meth c H locs ls hC hW hL
  obtain ⟨hx, hb, hr, hml, hown, hts, hlocks, hexc, hK, hSt⟩ := id hC
  obtain ⟨hP, hD, hS⟩ := id hW
  exact va_zald hx hb hK hP a 2 (ws_i hn ha) rfl hi hd (kn p e s m args below meth c H locs ls hC hW hL)
theorem sn_aald (hE : envOK Γ St) : k_aald NC (Snd Γ l St NC) := by
  intro b M pc L S h Q a n f i q hn ha hi hq hd kn p e s m args below meth c H locs ls hC hW hL
  obtain ⟨hx, hb, hr, hml, hown, hts, hlocks, hexc, hK, hSt⟩ := id hC
  obtain ⟨hP, hD, hS⟩ := id hW
  exact am_aald 3 (ws_q hn ha) hx hb hK hP rfl hi hq hd rfl (kn p e s m args below meth c H locs ls hC hW hL)
theorem sn_aalg (hE : envOK Γ St) : k_aalg NC (Snd Γ l St NC) := by
  intro b M pc L S h Q a n f i q hn ha hi hq hd kn p e s m args below meth c H locs ls hC hW hL
  obtain ⟨hx, hb, hr, hml, hown, hts, hlocks, hexc, hK, hSt⟩ := id hC
  obtain ⟨hP, hD, hS⟩ := id hW
  exact am_aald 4 (ws_q hn ha) hx hb hK hP rfl hi hq hd rfl (kn p e s m args below meth c H locs ls hC hW hL)
theorem sn_alen (hE : envOK Γ St) : k_alen NC (Snd Γ l St NC) := by
  intro b M pc L S h Q a n t f v hn ha ht hv hd kn p e s m args below meth c H locs ls hC hW hL
  obtain ⟨hx, hb, hr, hml, hown, hts, hlocks, hexc, hK, hSt⟩ := id hC
  obtain ⟨hP, hD, hS⟩ := id hW
  exact am_alen (ws_i hn ha) hx hb hK hP ht hv hd (kn p e s m args below meth c H locs ls hC hW hL)
theorem sn_tld (hE : envOK Γ St) : k_tld (Snd Γ l St NC) := by
  intro b M pc L S h Q j i v hj hi hv hd kn p e s m args below meth c H locs ls hC hW hL
  obtain ⟨hx, hb, hr, hml, hown, hts, hlocks, hexc, hK, hSt⟩ := id hC
  obtain ⟨hP, hD, hS⟩ := id hW
  exact va_ti hx hb (hE.2.2.2.1 s j hj hSt) hS hi (congrArg Value.int hv) hd (kn p e s m args below meth c H locs ls hC hW hL)
theorem sn_tlen (hE : envOK Γ St) : k_tlen (Snd Γ l St NC) := by
  intro b M pc L S h Q j v hj hv hd kn p e s m args below meth c H locs ls hC hW hL
  obtain ⟨hx, hb, hr, hml, hown, hts, hlocks, hexc, hK, hSt⟩ := id hC
  obtain ⟨hP, hD, hS⟩ := id hW
  exact va_tlen hx hb (hE.2.2.2.1 s j hj hSt) hS (by rw [hv]; rfl) hd (kn p e s m args below meth c H locs ls hC hW hL)
theorem sn_gets (hE : envOK Γ St) : k_gets (Snd Γ l St NC) := by
  intro b M pc L S h Q ix j hj hd kn p e s m args below meth c H locs ls hC hW hL
  obtain ⟨hx, hb, hr, hml, hown, hts, hlocks, hexc, hK, hSt⟩ := id hC
  obtain ⟨hP, hD, hS⟩ := id hW
  exact am_gets hE hx hb hj hSt hS hown hts hd (kn p e s m args below meth c H locs ls hC hW hL)
theorem sn_ldcS (hE : envOK Γ St) : k_ldcS (Snd Γ l St NC) := by
  intro b M pc L S h Q ix j tx hj hd kn p e s m args below meth c H locs ls hC hW hL
  obtain ⟨hx, hb, hr, hml, hown, hts, hlocks, hexc, hK, hSt⟩ := id hC
  obtain ⟨hP, hD, hS⟩ := id hW
  exact va_ldcS hx hb hown (hE.2.2.2.2.1 s _ _ _ _ hj hSt) hd (kn p e s m args below meth c H locs ls hC hW hL)
end SN
end
section
/-! soundness: branches, stores, writes, answers, calls -/
section SN2
variable {Γ : en} {l : Launch} {St : State → Prop} {NC : Nat}
theorem sn_if_eq (hE : envOK Γ St) : k_if_eq (Snd Γ l St NC) := by
  intro b M pc L S h Q x off tgt hd ht k1 k2 p e s m args below meth c H locs ls hC hW hL
  obtain ⟨hx, hb, hr, hml, hown, hts, hlocks, hexc, hK, hSt⟩ := id hC
  obtain ⟨hP, hD, hS⟩ := id hW
  exact lv_if_eq hx hb hd ht (fun q => k1 q p e s m args below meth c H locs ls hC hW hL) (fun q => k2 q p e s m args below meth c H locs ls hC hW hL)
theorem sn_icmp_eq (hE : envOK Γ St) : k_icmp_eq (Snd Γ l St NC) := by
  intro b M pc L S h Q x y off tgt hd ht k1 k2 p e s m args below meth c H locs ls hC hW hL
  obtain ⟨hx, hb, hr, hml, hown, hts, hlocks, hexc, hK, hSt⟩ := id hC
  obtain ⟨hP, hD, hS⟩ := id hW
  exact lv_icmp_eq hx hb hd ht (fun q => k1 q p e s m args below meth c H locs ls hC hW hL) (fun q => k2 q p e s m args below meth c H locs ls hC hW hL)
theorem sn_if_ne (hE : envOK Γ St) : k_if_ne (Snd Γ l St NC) := by
  intro b M pc L S h Q x off tgt hd ht k1 k2 p e s m args below meth c H locs ls hC hW hL
  obtain ⟨hx, hb, hr, hml, hown, hts, hlocks, hexc, hK, hSt⟩ := id hC
  obtain ⟨hP, hD, hS⟩ := id hW
  exact lv_if_ne hx hb hd ht (fun q => k1 q p e s m args below meth c H locs ls hC hW hL) (fun q => k2 (fun z => z q) p e s m args below meth c H locs ls hC hW hL)
theorem sn_icmp_ne (hE : envOK Γ St) : k_icmp_ne (Snd Γ l St NC) := by
  intro b M pc L S h Q x y off tgt hd ht k1 k2 p e s m args below meth c H locs ls hC hW hL
  obtain ⟨hx, hb, hr, hml, hown, hts, hlocks, hexc, hK, hSt⟩ := id hC
  obtain ⟨hP, hD, hS⟩ := id hW
  exact lv_icmp_ne hx hb hd ht (fun q => k1 q p e s m args below meth c H locs ls hC hW hL) (fun q => k2 (fun z => z q) p e s m args below meth c H locs ls hC hW hL)
theorem sn_if_lt (hE : envOK Γ St) : k_if_lt (Snd Γ l St NC) := by
  intro b M pc L S h Q x off tgt hd ht k1 k2 p e s m args below meth c H locs ls hC hW hL
  obtain ⟨hx, hb, hr, hml, hown, hts, hlocks, hexc, hK, hSt⟩ := id hC
  obtain ⟨hP, hD, hS⟩ := id hW
  exact lv_if_lt hx hb hd ht (fun q => k1 q p e s m args below meth c H locs ls hC hW hL) (fun q => k2 q p e s m args below meth c H locs ls hC hW hL)
theorem sn_icmp_lt (hE : envOK Γ St) : k_icmp_lt (Snd Γ l St NC) := by
  intro b M pc L S h Q x y off tgt hd ht k1 k2 p e s m args below meth c H locs ls hC hW hL
  obtain ⟨hx, hb, hr, hml, hown, hts, hlocks, hexc, hK, hSt⟩ := id hC
  obtain ⟨hP, hD, hS⟩ := id hW
  exact lv_icmp_lt hx hb hd ht (fun q => k1 q p e s m args below meth c H locs ls hC hW hL) (fun q => k2 q p e s m args below meth c H locs ls hC hW hL)
theorem sn_if_ge (hE : envOK Γ St) : k_if_ge (Snd Γ l St NC) := by
  intro b M pc L S h Q x off tgt hd ht k1 k2 p e s m args below meth c H locs ls hC hW hL
  obtain ⟨hx, hb, hr, hml, hown, hts, hlocks, hexc, hK, hSt⟩ := id hC
  obtain ⟨hP, hD, hS⟩ := id hW
  exact lv_if_ge hx hb hd ht (fun q => k1 q p e s m args below meth c H locs ls hC hW hL) (fun q => k2 q p e s m args below meth c H locs ls hC hW hL)
theorem sn_icmp_ge (hE : envOK Γ St) : k_icmp_ge (Snd Γ l St NC) := by
  intro b M pc L S h Q x y off tgt hd ht k1 k2 p e s m args below meth c H locs ls hC hW hL
  obtain ⟨hx, hb, hr, hml, hown, hts, hlocks, hexc, hK, hSt⟩ := id hC
  obtain ⟨hP, hD, hS⟩ := id hW
  exact lv_icmp_ge hx hb hd ht (fun q => k1 q p e s m args below meth c H locs ls hC hW hL) (fun q => k2 q p e s m args below meth c H locs ls hC hW hL)
theorem sn_if_gt (hE : envOK Γ St) : k_if_gt (Snd Γ l St NC) := by
  intro b M pc L S h Q x off tgt hd ht k1 k2 p e s m args below meth c H locs ls hC hW hL
  obtain ⟨hx, hb, hr, hml, hown, hts, hlocks, hexc, hK, hSt⟩ := id hC
  obtain ⟨hP, hD, hS⟩ := id hW
  exact lv_if_gt hx hb hd ht (fun q => k1 q p e s m args below meth c H locs ls hC hW hL) (fun q => k2 q p e s m args below meth c H locs ls hC hW hL)
theorem sn_icmp_gt (hE : envOK Γ St) : k_icmp_gt (Snd Γ l St NC) := by
  intro b M pc L S h Q x y off tgt hd ht k1 k2 p e s m args below meth c H locs ls hC hW hL
  obtain ⟨hx, hb, hr, hml, hown, hts, hlocks, hexc, hK, hSt⟩ := id hC
  obtain ⟨hP, hD, hS⟩ := id hW
  exact lv_icmp_gt hx hb hd ht (fun q => k1 q p e s m args below meth c H locs ls hC hW hL) (fun q => k2 q p e s m args below meth c H locs ls hC hW hL)
theorem sn_if_le (hE : envOK Γ St) : k_if_le (Snd Γ l St NC) := by
  intro b M pc L S h Q x off tgt hd ht k1 k2 p e s m args below meth c H locs ls hC hW hL
  obtain ⟨hx, hb, hr, hml, hown, hts, hlocks, hexc, hK, hSt⟩ := id hC
  obtain ⟨hP, hD, hS⟩ := id hW
  exact lv_if_le hx hb hd ht (fun q => k1 q p e s m args below meth c H locs ls hC hW hL) (fun q => k2 q p e s m args below meth c H locs ls hC hW hL)
theorem sn_icmp_le (hE : envOK Γ St) : k_icmp_le (Snd Γ l St NC) := by
  intro b M pc L S h Q x y off tgt hd ht k1 k2 p e s m args below meth c H locs ls hC hW hL
  obtain ⟨hx, hb, hr, hml, hown, hts, hlocks, hexc, hK, hSt⟩ := id hC
  obtain ⟨hP, hD, hS⟩ := id hW
  exact lv_icmp_le hx hb hd ht (fun q => k1 q p e s m args below meth c H locs ls hC hW hL) (fun q => k2 q p e s m args below meth c H locs ls hC hW hL)
theorem sn_goto (hE : envOK Γ St) : k_goto (Snd Γ l St NC) := by
  intro b M pc L S h Q off tgt hd ht k1 p e s m args below meth c H locs ls hC hW hL
  obtain ⟨hx, hb, hr, hml, hown, hts, hlocks, hexc, hK, hSt⟩ := id hC
  obtain ⟨hP, hD, hS⟩ := id hW
  exact lv_goto hx hb hd ht (k1 p e s m args below meth c H locs ls hC hW hL)
theorem sn_tabI (hE : envOK Γ St) : k_tabI (Snd Γ l St NC) := by
  intro b M pc L S h Q dflt lo hi offs len x off tgt hd h1 h2 ho ht k1 p e s m args below meth c H locs ls hC hW hL
  obtain ⟨hx, hb, hr, hml, hown, hts, hlocks, hexc, hK, hSt⟩ := id hC
  obtain ⟨hP, hD, hS⟩ := id hW
  exact lv_tableIn hx hb hd h1 h2 ho ht (k1 p e s m args below meth c H locs ls hC hW hL)
theorem sn_tabO (hE : envOK Γ St) : k_tabO (Snd Γ l St NC) := by
  intro b M pc L S h Q dflt lo hi offs len x tgt hd h1 ht k1 p e s m args below meth c H locs ls hC hW hL
  obtain ⟨hx, hb, hr, hml, hown, hts, hlocks, hexc, hK, hSt⟩ := id hC
  obtain ⟨hP, hD, hS⟩ := id hW
  exact lv_tableOut hx hb hd h1 ht (k1 p e s m args below meth c H locs ls hC hW hL)
theorem sn_istore_n (hE : envOK Γ St) : k_istore_n (Snd Γ l St NC) := by
  intro b M pc L S h Q k i x hd hi hn k1 p e s m args below meth c H locs ls hC hW hL
  obtain ⟨hx, hb, hr, hml, hown, hts, hlocks, hexc, hK, hSt⟩ := id hC
  obtain ⟨hP, hD, hS⟩ := id hW
  refine lv_istore_n hx hb hd hi hL.has hn rfl (fun ls9 hl9 => ?_)
  exact k1 p e s m args below meth c H locs ls9 hC hW (hL.store (v := .int x) rfl hl9)
theorem sn_istore (hE : envOK Γ St) : k_istore (Snd Γ l St NC) := by
  intro b M pc L S h Q i x hd hn k1 p e s m args below meth c H locs ls hC hW hL
  obtain ⟨hx, hb, hr, hml, hown, hts, hlocks, hexc, hK, hSt⟩ := id hC
  obtain ⟨hP, hD, hS⟩ := id hW
  refine lv_istore hx hb hd hL.has hn rfl (fun ls9 hl9 => ?_)
  exact k1 p e s m args below meth c H locs ls9 hC hW (hL.store (v := .int x) rfl hl9)
theorem sn_astore_n (hE : envOK Γ St) : k_astore_n (Snd Γ l St NC) := by
  intro b M pc L S h Q k i x hd hi hn k1 p e s m args below meth c H locs ls hC hW hL
  obtain ⟨hx, hb, hr, hml, hown, hts, hlocks, hexc, hK, hSt⟩ := id hC
  obtain ⟨hP, hD, hS⟩ := id hW
  refine lv_astore_n hx hb hd hi hL.has hn rfl (fun ls9 hl9 => ?_)
  exact k1 p e s m args below meth c H locs ls9 hC hW (hL.store (v := .ref x) rfl hl9)
theorem sn_astore (hE : envOK Γ St) : k_astore (Snd Γ l St NC) := by
  intro b M pc L S h Q i x hd hn k1 p e s m args below meth c H locs ls hC hW hL
  obtain ⟨hx, hb, hr, hml, hown, hts, hlocks, hexc, hK, hSt⟩ := id hC
  obtain ⟨hP, hD, hS⟩ := id hW
  refine lv_astore hx hb hd hL.has hn rfl (fun ls9 hl9 => ?_)
  exact k1 p e s m args below meth c H locs ls9 hC hW (hL.store (v := .ref x) rfl hl9)
theorem sn_iinc (hE : envOK Γ St) : k_iinc (Snd Γ l St NC) := by
  intro b M pc L S h Q i n x v hd hl hv hn k1 p e s m args below meth c H locs ls hC hW hL
  obtain ⟨hx, hb, hr, hml, hown, hts, hlocks, hexc, hK, hSt⟩ := id hC
  obtain ⟨hP, hD, hS⟩ := id hW
  have hm : (i, Value.int x) ∈ lst Γ.1 L := lst_mem.mpr ⟨.int x, hl, (fun z => by cases z), rfl⟩
  obtain ⟨k9, hk9⟩ := List.getElem?_of_mem hm
  refine lv_iinc hx hb hd hL.has hk9 hv hn rfl (fun ls9 hl9 => ?_)
  exact k1 p e s m args below meth c H locs ls9 hC hW (hL.store (v := .int v) rfl hl9)
theorem sn_putf (hE : envOK Γ St) : k_putf NC (Snd Γ l St NC) := by
  intro b M pc L S h Q ci ix k C T N ty a fs x hd hc hk hw hn ha hf hty hlt k1 p e0 s m args below meth c H locs ls hC hW hL
  obtain ⟨hx, hb, hr, hml, hown, hts, hlocks, hexc, hK, hSt⟩ := id hC
  obtain ⟨hP, hD, hS⟩ := id hW
  have hnr : narrow (ty k) (.int x) = .int x ∧ fits (ty k) (.int x) = true := by
    rcases hty with h | ⟨h, rfl | rfl⟩ <;> rw [h]
    · exact ⟨rfl, rfl⟩
    · exact ⟨rfl, by decide⟩
    · exact ⟨rfl, by decide⟩
  refine va_put (D := Γ.2.1) (ci := ci) (v := .int x) (ty := ty k) (C := C) (T := T) (N := N) hx hb hts hc.2.1 ty hc.2.2.1 hc.2.2.2 hown hK hP hD hS a (ws_inr hn ha) hc.1 k hk (hts _ hw) (fun _ h9 => h9) hf (hc.2.2.1 k hk) hnr.1 hnr.2 (by rw [List.length_map]; exact hlt) hd (fun H1 locs1 hP1 hD1 hS1 => ?_)
  have e : ((fs.map (trV Γ.1)).set k (.int x)) = (fs.set k (.int x)).map (trV Γ.1) := by rw [List.map_set]; rfl
  have e2 : (wsOf Γ NC h).set a (Γ.1 a, .inr (ci, (fs.map (trV Γ.1)).set k (.int x))) = wsOf Γ NC (va_up h a (.inr (ci, fs.set k (.int x)))) := by
    rw [e]; exact ws_set (e := .inr (ci, fs.set k (.int x)))
  rw [e2] at hP1 hD1
  exact k1 p e0 s m args below meth c H1 locs1 ls hC ⟨hP1, hD1, hS1⟩ hL
theorem sn_iast (hE : envOK Γ St) : k_iast NC (Snd Γ l St NC) := by
  intro b M pc L S h Q a n f i x hd hn ha hi k1 p e s m args below meth c H locs ls hC hW hL
  obtain ⟨hx, hb, hr, hml, hown, hts, hlocks, hexc, hK, hSt⟩ := id hC
  obtain ⟨hP, hD, hS⟩ := id hW
  refine va_iast hx hb hK hP hD hS a 0 (ws_i hn ha) rfl hi hd (fun H1 locs1 hP1 hD1 hS1 => ?_)
  have e2 := ws_set (Γ := Γ) (NC := NC) (h := h) (a := a) (e := .inl (0, n, .inl (upd f i.toNatClampNeg x)))
  have e3 : (wsOf Γ NC h).set a (Γ.1 a, .inl (Γ.2.2.1 0, n, .inl (upd f i.toNatClampNeg x))) = wsOf Γ NC (va_up h a (.inl (0, n, .inl (upd f i.toNatClampNeg x)))) := e2
  rw [e3] at hP1 hD1
  exact k1 p e s m args below meth c H1 locs1 ls hC ⟨hP1, hD1, hS1⟩ hL
theorem sn_bast (hE : envOK Γ St) : k_bast NC (Snd Γ l St NC) := by
  intro b M pc L S h Q a n f i x hd hn ha hi k1 p e s m args below meth c H locs ls hC hW hL
  obtain ⟨hx, hb, hr, hml, hown, hts, hlocks, hexc, hK, hSt⟩ := id hC
  obtain ⟨hP, hD, hS⟩ := id hW
  refine va_bast hx hb hK hP hD hS a 1 (ws_i hn ha) rfl hi hd (fun H1 locs1 hP1 hD1 hS1 => ?_)
  have e2 := ws_set (Γ := Γ) (NC := NC) (h := h) (a := a) (e := .inl (1, n, .inl (upd f i.toNatClampNeg (vp_nar .byte x))))
  have e3 : (wsOf Γ NC h).set a (Γ.1 a, .inl (Γ.2.2.1 1, n, .inl (upd f i.toNatClampNeg (vp_nar .byte x)))) = wsOf Γ NC (va_up h a (.inl (1, n, .inl (upd f i.toNatClampNeg (vp_nar .byte x))))) := e2
  rw [e3] at hP1 hD1
  exact k1 p e s m args below meth c H1 locs1 ls hC ⟨hP1, hD1, hS1⟩ hL
theorem sn_zast (hE : envOK Γ St) : k_zast NC (Snd Γ l St NC) := by
  intro b M pc L S h Q a n f i x hd hn ha hi k1 p e s m args below meth c H locs ls hC hW hL
  obtain ⟨hx, hb, hr, hml, hown, hts, hlocks, hexc, hK, hSt⟩ := id hC
  obtain ⟨hP, hD, hS⟩ := id hW
  refine va_zast hx hb hK hP hD hS a 2 (ws_i hn ha) rfl hi hd (fun H1 locs1 hP1 hD1 hS1 => ?_)
  have e2 := ws_set (Γ := Γ) (NC := NC) (h := h) (a := a) (e := .inl (2, n, .inl (upd f i.toNatClampNeg (vp_nar .boolean x))))
  have e3 : (wsOf Γ NC h).set a (Γ.1 a, .inl (Γ.2.2.1 2, n, .inl (upd f i.toNatClampNeg (vp_nar .boolean x)))) = wsOf Γ NC (va_up h a (.inl (2, n, .inl (upd f i.toNatClampNeg (vp_nar .boolean x))))) := e2
  rw [e3] at hP1 hD1
  exact k1 p e s m args below meth c H1 locs1 ls hC ⟨hP1, hD1, hS1⟩ hL
theorem sn_iret (hE : envOK Γ St) : k_iret (Snd Γ l St NC) := by
  intro M pc L h Q x hd hret hq p e s m args below meth c H locs ls hC hW hL
  obtain ⟨hx, hb, hr, hml, hown, hts, hlocks, hexc, hK, hSt⟩ := id hC
  obtain ⟨hP, hD, hS⟩ := id hW
  have e : TG Γ NC none M Q below args s = MQ below (QcM Γ NC M Q) args s 0 0 Γ.2.2.2 := rfl
  rw [e]
  unfold QcM
  rw [hret]
  exact W.iret (v := x) hx hb (hr.trans hret) (fun t ht _ => ⟨⟨x, h, rfl, hq, by rw [BW, ht]; exact ⟨hP, hD⟩⟩, hS.F ht⟩) hS.2.2 hd hlocks
theorem sn_zret (hE : envOK Γ St) : k_zret (Snd Γ l St NC) := by
  intro M pc L h Q x hd hret hx01 hq p e s m args below meth c H locs ls hC hW hL
  obtain ⟨hx, hb, hr, hml, hown, hts, hlocks, hexc, hK, hSt⟩ := id hC
  obtain ⟨hP, hD, hS⟩ := id hW
  have e : TG Γ NC none M Q below args s = MQ below (QcM Γ NC M Q) args s 0 0 Γ.2.2.2 := rfl
  rw [e]
  unfold QcM
  rw [hret]
  exact W.zret (v := x) (ty := .boolean) hx hb (hr.trans hret) (by rcases hx01 with rfl | rfl <;> rfl) (fun t ht _ => ⟨⟨x, h, rfl, hq, by rw [BW, ht]; exact ⟨hP, hD⟩⟩, hS.F ht⟩) hS.2.2 hd hlocks
theorem sn_vret (hE : envOK Γ St) : k_vret (Snd Γ l St NC) := by
  intro M pc L h Q hd hret hq p e s m args below meth c H locs ls hC hW hL
  obtain ⟨hx, hb, hr, hml, hown, hts, hlocks, hexc, hK, hSt⟩ := id hC
  obtain ⟨hP, hD, hS⟩ := id hW
  have e : TG Γ NC none M Q below args s = MQ below (QcM Γ NC M Q) args s 0 0 Γ.2.2.2 := rfl
  rw [e]
  unfold QcM
  rw [hret]
  exact W.vret hx hb (hr.trans hret) (fun t ht _ => ⟨⟨h, rfl, hq, by rw [BW, ht]; exact ⟨hP, hD⟩⟩, hS.F ht⟩) hS.2.2 hd hlocks
theorem sn_fret (hE : envOK Γ St) : k_fret (Snd Γ l St NC) := by
  intro M pc L h Q x hd hret hq p e s m args below meth c H locs ls hC hW hL
  obtain ⟨hx, hb, hr, hml, hown, hts, hlocks, hexc, hK, hSt⟩ := id hC
  obtain ⟨hP, hD, hS⟩ := id hW
  have e : TG Γ NC none M Q below args s = MQ below (QcM Γ NC M Q) args s 0 0 Γ.2.2.2 := rfl
  rw [e]
  unfold QcM
  rw [hret]
  exact W.fret (v := x) hx hb (hr.trans hret) (fun t ht _ => ⟨⟨x, h, rfl, hq, by rw [BW, ht]; exact ⟨hP, hD⟩⟩, hS.F ht⟩) hS.2.2 hd hlocks
theorem rm_head (ws : List Cond) (rm : Room) : (headSpec ws rm).room = rm := rfl
/-- a method's start -/
def PcM (Γ : en) (St : State → Prop) (NC : Nat) (h : hp) (As : List Value) : Array Value → State → Prop := va_Pc (As.map (trV Γ.1)) (fun U => va_P Γ.2.1 vwCl (wsOf Γ NC h) U.heap ∧ va_D Γ.2.2.2 (wsOf Γ NC h) ∧ va_K Γ.2.1 vwCl (tysOf Γ) U ∧ St U)
theorem PcM.blind (hE : envOK Γ St) {h : hp} {As : List Value} : FrameBlind (PcM Γ St NC h As) := by
  intro a U g mk q
  obtain ⟨q0, qP, qD, qK, qS⟩ := q
  exact ⟨q0, qP, qD, va_K.moved (u := U) (U := U.calling g mk a) (Vm.Alike.refl U.vm) qK, hE.2.1 U g mk a qS⟩
/-- what the least relation says of a method's entry is a contract of the method -/
theorem met_of (hE : envOK Γ St) {Y : mt} {As : List Value} {h : hp} {Q : qt} (hpl : plainName Y.1.cls = true) (hc : cat1 As) (hn : As.length ≤ Y.2.2.1) (k : Snd Γ l St NC none Y 0 (pad Y.2.2.1 As) [] h Q) : Met l Y.1 (wsM Y) (rmM none Y) (PcM Γ St NC h As) (QcM Γ NC Y Q) 0 0 Γ.2.2.2 := by
  refine Met.ofW (cc := Y.2.1) (maxL := Y.2.2.1) (ret := Y.2.2.2.1) hpl rfl ?_
  intro p e s m args below meth c s₁ B hml hv
  obtain ⟨rfl, hP, hD, hK, hSt⟩ := hv
  have hts := atoms_spec (ws := wsM Y) B.pre
  have ht : ∀ x ∈ c.exceptionTable.toList, False := by
    obtain ⟨meth9, c9, h1, h2, -, -, -, -, h7, -⟩ := Cond.code_spec B.named (hts _ List.mem_cons_self)
    cases Option.some.inj (h1.symm.trans B.method)
    cases Option.some.inj (h2.symm.trans (Stand.of_body B).code)
    intro x hx
    rw [Array.isEmpty_iff.mp h7] at hx
    cases hx
  rw [lg_entry_eq]
  exact k p e s m _ below meth c s.heap [] _ ⟨B.exec, B.bytes, B.returns, hml, findClass_of_methodNamed B.named, fun w hw => hts w (List.mem_cons_of_mem _ hw), B.notSynchronized, ht, hK, hSt⟩ ⟨hP, hD, va_S.rf⟩ (entry_rel hc hn)
theorem metx_of (hE : envOK Γ St) {E : String} {Y : mt} {As : List Value} {h : hp} {Q : qt} (hpl : plainName Y.1.cls = true) (hc : cat1 As) (hn : As.length ≤ Y.2.2.1) (k : Snd Γ l St NC (some E) Y 0 (pad Y.2.2.1 As) [] h Q) : vx_Met l Y.1 (wsM Y) (rmM (some E) Y) (PcM Γ St NC h As) (fun _ _ _ _ => False) (XCx Γ NC E Q) 1 6 Γ.2.2.2 := by
  refine vx_ofW (cc := Y.2.1) (maxL := Y.2.2.1) (ret := Y.2.2.2.1) hpl rfl ?_
  intro p e s m args below meth c s₁ B hml ht hv
  obtain ⟨rfl, hP, hD, hK, hSt⟩ := hv
  have hts := atoms_spec (ws := wsM Y) B.pre
  rw [lg_entry_eq]
  exact k p e s m _ below meth c s.heap [] _ ⟨B.exec, B.bytes, B.returns, hml, findClass_of_methodNamed B.named, fun w hw => hts w (List.mem_cons_of_mem _ hw), B.notSynchronized, ht, hK, hSt⟩ ⟨hP, hD, va_S.rf⟩ (entry_rel hc hn)
theorem lnB_good {M Y : mt} {ix n : Nat} (h : lnB M ix Y n) : GoodIn gT (wsM Y) := by
  intro w hw
  rcases List.mem_cons.mp hw with rfl | hw
  · exact ⟨h.2.2.1, gT_good h.2.2.1⟩
  · exact ⟨hw, gT_good hw⟩
theorem lnV_good {M Y : mt} {ix n : Nat} (h : lnV M ix Y n) : GoodIn gT (wsV M.1.cls ix Y.1.cls Y.1 (wsM Y)) := by
  intro w hw
  unfold wsV at hw
  rcases List.mem_append.mp hw with hw | hw
  · simp only [List.mem_cons, List.not_mem_nil, or_false] at hw
    rcases hw with rfl | rfl | rfl | rfl
    · exact ⟨h.1.1, gT_good h.1.1⟩
    · exact ⟨h.2.1, gT_good h.2.1⟩
    · exact ⟨h.2.2.1, gT_good h.2.2.1⟩
    · exact ⟨h.1.2.1, gT_good h.1.2.1⟩
  · exact lnB_good h.1 w hw
theorem lnS_good {M Y : mt} {ix n : Nat} (h : lnS M ix Y n) : GoodIn gT (va_wsS M.1.cls ix Y.1 (wsM Y)) := by
  intro w hw
  unfold va_wsS at hw
  rcases List.mem_append.mp hw with hw | hw
  · simp only [List.mem_cons, List.not_mem_nil, or_false] at hw
    rcases hw with rfl | rfl | rfl
    · exact ⟨h.1.1, gT_good h.1.1⟩
    · exact ⟨h.2.1, gT_good h.2.1⟩
    · exact ⟨h.1.2.1, gT_good h.1.2.1⟩
  · exact lnB_good h.1 w hw
theorem cat_map {ad : Nat → Nat} {S : List Value} (h : catS S) : ((S.map (trV ad)).map fun v => v.category).sum ≤ 8 := by
  have e : (S.map (trV ad)).map (fun v => v.category) = S.map (fun v => v.category) := by
    rw [List.map_map]
    exact List.map_congr_left (fun v _ => trV_cat ad v)
  rw [e]
  exact h
theorem rev_map {ad : Nat → Nat} {As S : List Value} {a : Nat} : (As.reverse ++ .ref a :: S).map (trV ad) = (As.map (trV ad)).reverse ++ .ref (ad a) :: S.map (trV ad) := by
  rw [List.map_append, List.map_reverse]; rfl
theorem rev_mapS {ad : Nat → Nat} {As S : List Value} : (As.reverse ++ S).map (trV ad) = (As.map (trV ad)).reverse ++ S.map (trV ad) := by
  rw [List.map_append, List.map_reverse]
theorem pre_V (hE : envOK Γ St) {s : State} {H : Heap} {locs : List Loc} {h : hp} {a ci : Nat} {fs As : List Value} {C : String} {T : u_T} {N : Nat} (hP : va_P Γ.2.1 vwCl (wsOf Γ NC h) H) (hD : va_D Γ.2.2.2 (wsOf Γ NC h)) (hS : va_S Γ.2.2.2 s.heap H locs) (hK : va_K Γ.2.1 vwCl (tysOf Γ) s) (hSt : St s) (hn : a < NC) (ha : h a = .inr (ci, fs)) (hc : vwCl[ci]? = some (C, T, N)) : PreV s H C (Γ.1 a) (PcM Γ St NC h (.ref a :: As)) (As.map (trV Γ.1)) :=
  ⟨PcM.blind hE, va_recv hK hP hc (ws_inr hn ha), fun U hU hW => ⟨rfl, by rw [hU]; exact hP, hD, va_K.moved hW.alike hK, hE.1 s U H locs hSt hS hU hW⟩⟩
theorem pre_S (hE : envOK Γ St) {s : State} {H : Heap} {locs : List Loc} {h : hp} {As : List Value} (hP : va_P Γ.2.1 vwCl (wsOf Γ NC h) H) (hD : va_D Γ.2.2.2 (wsOf Γ NC h)) (hS : va_S Γ.2.2.2 s.heap H locs) (hK : va_K Γ.2.1 vwCl (tysOf Γ) s) (hSt : St s) : PreS s H (PcM Γ St NC h As) (As.map (trV Γ.1)) :=
  ⟨PcM.blind hE, fun U hU hW => ⟨rfl, by rw [hU]; exact hP, hD, va_K.moved hW.alike hK, hE.1 s U H locs hSt hS hU hW⟩⟩
theorem Qc_int {M : mt} {Q : qt} (h : M.2.2.2.1 = some .int ∨ M.2.2.2.1 = some .boolean) : QcM Γ NC M Q = va_Qi (fun (r : Int32) (u : hp) => Q (.int r) u) (BW Γ NC) Γ.2.2.2 := by
  unfold QcM
  rcases h with h | h <;> rw [h]
theorem Qc_void {M : mt} {Q : qt} (h : M.2.2.2.1 = none) : QcM Γ NC M Q = va_Qv (fun u : hp => Q .null u) (BW Γ NC) Γ.2.2.2 := by
  unfold QcM
  rw [h]
theorem rm_le (b : Option String) (M : mt) : 0 + 0 ≤ (rmM b M).cells ∧ 0 + 0 ≤ (rmM b M).slots := ⟨Nat.zero_le _, Nat.zero_le _⟩

theorem sn_cvi (hE : envOK Γ St) : k_cvi NC (Snd Γ l St NC) := by
  intro b M pc L S h Q ix n a ci Y As fs T N Q1 hd hl hlen hcA hcS hn ha hc hret k1 k2 p e s m args below meth c H locs ls hC hW hL
  obtain ⟨hx, hb, hr, hml, hown, hts, hlocks, hexc, hK, hSt⟩ := id hC
  obtain ⟨hP, hD, hS⟩ := id hW
  rw [rev_map]
  have hM := met_of (l := l) (Γ := Γ) (St := St) (NC := NC) hE (As := .ref a :: As) hl.1.2.2.2.2.1 (by unfold cat1 at hcA ⊢; simp only [List.all_cons, Bool.and_eq_true]; exact ⟨rfl, hcA⟩) (by have := hl.2.2.2; simp only [List.length_cons]; omega) k1
  have hcw := cwV (R := rmM b M) (own := M.1.cls) (index := ix) (C := Y.1.cls) (y := Y.1) (bytes := Y.2.1) (maxL := Y.2.2.1) (ret := Y.2.2.2.1) (ws := wsM Y) (rm := rmM none Y) (mc := 0) (ms := 0) n hts (lnV_good hl) rfl rfl rfl ⟨rfl, hl.1.2.2.2.1⟩ ⟨hl.1.2.2.2.2.2.1, hl.1.2.2.2.2.2.2⟩
  have hrun := va_runV (p := p) (e := e) (R := rmM b M) (below := below) (meth := meth) (cells := 0) (slots := 0) (locs := locs) (g := F0 m pc ls ((As.map (trV Γ.1)).reverse ++ .ref (Γ.1 a) :: S.map (trV Γ.1))) (rest := S.map (trV Γ.1)) ⟨hx, hb, hml, hown, hts⟩ hM hcw (pre_V hE hP hD hS hK hSt hn ha hc) rfl ((List.length_map ..).trans hlen) hL.1 rfl (lv_room (cat_map hcS)) hd (rm_le _ _)
  rw [Qc_int hret] at hrun
  refine va_calli hrun hS (fun q _ h => h) (fun q h => h) (fun r u t H1 locs1 ht hvm hq hB hz hk1 hS1 => ?_)
  exact k2 r u hq p e s m args below meth c H1 locs1 ls hC ⟨by rw [← ht]; exact hB.1, hB.2, hS1⟩ hL
theorem sn_csi (hE : envOK Γ St) : k_csi (Snd Γ l St NC) := by
  intro b M pc L S h Q ix n Y As Q1 hd hl hlen hcA hcS hret k1 k2 p e s m args below meth c H locs ls hC hW hL
  obtain ⟨hx, hb, hr, hml, hown, hts, hlocks, hexc, hK, hSt⟩ := id hC
  obtain ⟨hP, hD, hS⟩ := id hW
  rw [rev_mapS]
  have hM := met_of (l := l) (Γ := Γ) (St := St) (NC := NC) hE (As := As) hl.1.2.2.2.2.1 hcA (by have := hl.2.2; omega) k1
  have hcw := va_cwS (R := rmM b M) (own := M.1.cls) (index := ix) (y := Y.1) (bytes := Y.2.1) (maxL := Y.2.2.1) (ret := Y.2.2.2.1) (ws := wsM Y) (rm := rmM none Y) (mc := 0) (ms := 0) n hts (lnS_good hl) rfl rfl rfl hl.1.2.2.2.1 ⟨hl.1.2.2.2.2.2.1, hl.1.2.2.2.2.2.2⟩
  have hrun := va_runS (p := p) (e := e) (R := rmM b M) (below := below) (meth := meth) (cells := 0) (slots := 0) (locs := locs) (g := F0 m pc ls ((As.map (trV Γ.1)).reverse ++ S.map (trV Γ.1))) (rest := S.map (trV Γ.1)) ⟨hx, hb, hml, hown, hts⟩ hM hcw (pre_S hE hP hD hS hK hSt) rfl ((List.length_map ..).trans hlen) hL.1 rfl (lv_room (cat_map hcS)) hd (rm_le _ _)
  rw [Qc_int hret] at hrun
  refine va_calli hrun hS (fun q _ h => h) (fun q h => h) (fun r u t H1 locs1 ht hvm hq hB hz hk1 hS1 => ?_)
  exact k2 r u hq p e s m args below meth c H1 locs1 ls hC ⟨by rw [← ht]; exact hB.1, hB.2, hS1⟩ hL
theorem sn_cvv (hE : envOK Γ St) : k_cvv NC (Snd Γ l St NC) := by
  intro b M pc L S h Q ix n a ci Y As fs T N Q1 hd hl hlen hcA hcS hn ha hc hret k1 k2 p e s m args below meth c H locs ls hC hW hL
  obtain ⟨hx, hb, hr, hml, hown, hts, hlocks, hexc, hK, hSt⟩ := id hC
  obtain ⟨hP, hD, hS⟩ := id hW
  rw [rev_map]
  have hM := met_of (l := l) (Γ := Γ) (St := St) (NC := NC) hE (As := .ref a :: As) hl.1.2.2.2.2.1 (by unfold cat1 at hcA ⊢; simp only [List.all_cons, Bool.and_eq_true]; exact ⟨rfl, hcA⟩) (by have := hl.2.2.2; simp only [List.length_cons]; omega) k1
  have hcw := cwV (R := rmM b M) (own := M.1.cls) (index := ix) (C := Y.1.cls) (y := Y.1) (bytes := Y.2.1) (maxL := Y.2.2.1) (ret := Y.2.2.2.1) (ws := wsM Y) (rm := rmM none Y) (mc := 0) (ms := 0) n hts (lnV_good hl) rfl rfl rfl ⟨rfl, hl.1.2.2.2.1⟩ ⟨hl.1.2.2.2.2.2.1, hl.1.2.2.2.2.2.2⟩
  have hrun := va_runV (p := p) (e := e) (R := rmM b M) (below := below) (meth := meth) (cells := 0) (slots := 0) (locs := locs) (g := F0 m pc ls ((As.map (trV Γ.1)).reverse ++ .ref (Γ.1 a) :: S.map (trV Γ.1))) (rest := S.map (trV Γ.1)) ⟨hx, hb, hml, hown, hts⟩ hM hcw (pre_V hE hP hD hS hK hSt hn ha hc) rfl ((List.length_map ..).trans hlen) hL.1 rfl (lv_room (cat_map hcS)) hd (rm_le _ _)
  rw [Qc_void hret] at hrun
  refine va_callv hrun hS (fun q _ h => h) (fun q h => h) (fun u t H1 locs1 ht hvm hq hB hz hk1 hS1 => ?_)
  exact k2 u hq p e s m args below meth c H1 locs1 ls hC ⟨by rw [← ht]; exact hB.1, hB.2, hS1⟩ hL
theorem sn_csv (hE : envOK Γ St) : k_csv (Snd Γ l St NC) := by
  intro b M pc L S h Q ix n Y As Q1 hd hl hlen hcA hcS hret k1 k2 p e s m args below meth c H locs ls hC hW hL
  obtain ⟨hx, hb, hr, hml, hown, hts, hlocks, hexc, hK, hSt⟩ := id hC
  obtain ⟨hP, hD, hS⟩ := id hW
  rw [rev_mapS]
  have hM := met_of (l := l) (Γ := Γ) (St := St) (NC := NC) hE (As := As) hl.1.2.2.2.2.1 hcA (by have := hl.2.2; omega) k1
  have hcw := va_cwS (R := rmM b M) (own := M.1.cls) (index := ix) (y := Y.1) (bytes := Y.2.1) (maxL := Y.2.2.1) (ret := Y.2.2.2.1) (ws := wsM Y) (rm := rmM none Y) (mc := 0) (ms := 0) n hts (lnS_good hl) rfl rfl rfl hl.1.2.2.2.1 ⟨hl.1.2.2.2.2.2.1, hl.1.2.2.2.2.2.2⟩
  have hrun := va_runS (p := p) (e := e) (R := rmM b M) (below := below) (meth := meth) (cells := 0) (slots := 0) (locs := locs) (g := F0 m pc ls ((As.map (trV Γ.1)).reverse ++ S.map (trV Γ.1))) (rest := S.map (trV Γ.1)) ⟨hx, hb, hml, hown, hts⟩ hM hcw (pre_S hE hP hD hS hK hSt) rfl ((List.length_map ..).trans hlen) hL.1 rfl (lv_room (cat_map hcS)) hd (rm_le _ _)
  rw [Qc_void hret] at hrun
  refine va_callv hrun hS (fun q _ h => h) (fun q h => h) (fun u t H1 locs1 ht hvm hq hB hz hk1 hS1 => ?_)
  exact k2 u hq p e s m args below meth c H1 locs1 ls hC ⟨by rw [← ht]; exact hB.1, hB.2, hS1⟩ hL
theorem sn_cvx (hE : envOK Γ St) : k_cvx NC (Snd Γ l St NC) := by
  intro E M pc L S h Q ix n a ci Y As fs T N Q1 hd hl hlen hcA hcS hn ha hc hret k1 k2 p e s m args below meth c H locs ls hC hW hL
  obtain ⟨hx, hb, hr, hml, hown, hts, hlocks, hexc, hK, hSt⟩ := id hC
  obtain ⟨hP, hD, hS⟩ := id hW
  rw [rev_map]
  have hM := metx_of (l := l) (Γ := Γ) (St := St) (NC := NC) hE (As := .ref a :: As) hl.1.2.2.2.2.1 (by unfold cat1 at hcA ⊢; simp only [List.all_cons, Bool.and_eq_true]; exact ⟨rfl, hcA⟩) (by have := hl.2.2.2; simp only [List.length_cons]; omega) k1
  have hcw := cwV (R := rmM (some E) M) (own := M.1.cls) (index := ix) (C := Y.1.cls) (y := Y.1) (bytes := Y.2.1) (maxL := Y.2.2.1) (ret := Y.2.2.2.1) (ws := wsM Y) (rm := rmM (some E) Y) (mc := 1) (ms := 6) n hts (lnV_good hl) rfl rfl rfl ⟨rfl, hl.1.2.2.2.1⟩ ⟨hl.1.2.2.2.2.2.1, hl.1.2.2.2.2.2.2⟩
  have hrun := vx_runV (p := p) (e := e) (R := rmM (some E) M) (below := below) (meth := meth) (cells := 0) (slots := 0) (locs := locs) (g := F0 m pc ls ((As.map (trV Γ.1)).reverse ++ .ref (Γ.1 a) :: S.map (trV Γ.1))) (rest := S.map (trV Γ.1)) ⟨hx, hb, hml, hown, hts⟩ hM hcw (pre_V hE hP hD hS hK hSt hn ha hc) rfl ((List.length_map ..).trans hlen) hL.1 rfl (lv_room (cat_map hcS)) hd ⟨Nat.le_refl _, Nat.le_refl _⟩
  intro T hT X
  rcases hrun T hT X with ⟨v, st₀, t, T', L', h0, X', hL', e1, e2, hF, st⟩ | ⟨q, st₀, t, T', L', E', ce, h0, X', hL', e1, e2, ⟨rfl, ⟨u, hq, hWu⟩, hF⟩, hce, hcv, hcl, st⟩
  · exact hF.elim
  · obtain ⟨z1, z2, z3⟩ := vx_keep h0 e1 hS (fun q _ h => h) (fun q h => h) hL' hF
    have hout := vx_out (p := p) (l := l) (e := e) (R := rmM (some E') M) (s := s) (m := m) (args := args) (below := below) (meth := meth) (c := c) (H := T'.heap) (locs := locs ++ L') (cells := 1) (slots := 6) (Qc := fun _ _ _ _ => False) (XC := XCx Γ NC E' Q) (free := Γ.2.2.2) (pc := pc) (ls := ls) (rest := S.map (trV Γ.1)) (E := E') (ce := ce) (q := q) (mc := 1) (ms := 6) (fun x hx => (hexc x hx).elim) hlocks (by rw [e1]; exact hce) hcv hcl
      (fun t9 h9 hv9 => ⟨rfl, ⟨u, k2 u hq, by rw [h9, e1]; exact hWu⟩, z3.F h9⟩) z3.2.2 (Nat.le_refl _) (Nat.le_refl _)
    obtain ⟨t2, a1, b1⟩ := hout T' rfl X'
    exact ⟨t2, st.trans a1, b1⟩
theorem sn_csx (hE : envOK Γ St) : k_csx (Snd Γ l St NC) := by
  intro E M pc L S h Q ix n Y As Q1 hd hl hlen hcA hcS hret k1 k2 p e s m args below meth c H locs ls hC hW hL
  obtain ⟨hx, hb, hr, hml, hown, hts, hlocks, hexc, hK, hSt⟩ := id hC
  obtain ⟨hP, hD, hS⟩ := id hW
  rw [rev_mapS]
  have hM := metx_of (l := l) (Γ := Γ) (St := St) (NC := NC) hE (As := As) hl.1.2.2.2.2.1 hcA (by have := hl.2.2; omega) k1
  have hcw := va_cwS (R := rmM (some E) M) (own := M.1.cls) (index := ix) (y := Y.1) (bytes := Y.2.1) (maxL := Y.2.2.1) (ret := Y.2.2.2.1) (ws := wsM Y) (rm := rmM (some E) Y) (mc := 1) (ms := 6) n hts (lnS_good hl) rfl rfl rfl hl.1.2.2.2.1 ⟨hl.1.2.2.2.2.2.1, hl.1.2.2.2.2.2.2⟩
  have hrun := vx_runS (p := p) (e := e) (R := rmM (some E) M) (below := below) (meth := meth) (cells := 0) (slots := 0) (locs := locs) (g := F0 m pc ls ((As.map (trV Γ.1)).reverse ++ S.map (trV Γ.1))) (rest := S.map (trV Γ.1)) ⟨hx, hb, hml, hown, hts⟩ hM hcw (pre_S hE hP hD hS hK hSt) rfl ((List.length_map ..).trans hlen) hL.1 rfl (lv_room (cat_map hcS)) hd ⟨Nat.le_refl _, Nat.le_refl _⟩
  intro T hT X
  rcases hrun T hT X with ⟨v, st₀, t, T', L', h0, X', hL', e1, e2, hF, st⟩ | ⟨q, st₀, t, T', L', E', ce, h0, X', hL', e1, e2, ⟨rfl, ⟨u, hq, hWu⟩, hF⟩, hce, hcv, hcl, st⟩
  · exact hF.elim
  · obtain ⟨z1, z2, z3⟩ := vx_keep h0 e1 hS (fun q _ h => h) (fun q h => h) hL' hF
    have hout := vx_out (p := p) (l := l) (e := e) (R := rmM (some E') M) (s := s) (m := m) (args := args) (below := below) (meth := meth) (c := c) (H := T'.heap) (locs := locs ++ L') (cells := 1) (slots := 6) (Qc := fun _ _ _ _ => False) (XC := XCx Γ NC E' Q) (free := Γ.2.2.2) (pc := pc) (ls := ls) (rest := S.map (trV Γ.1)) (E := E') (ce := ce) (q := q) (mc := 1) (ms := 6) (fun x hx => (hexc x hx).elim) hlocks (by rw [e1]; exact hce) hcv hcl
      (fun t9 h9 hv9 => ⟨rfl, ⟨u, k2 u hq, by rw [h9, e1]; exact hWu⟩, z3.F h9⟩) z3.2.2 (Nat.le_refl _) (Nat.le_refl _)
    obtain ⟨t2, a1, b1⟩ := hout T' rfl X'
    exact ⟨t2, st.trans a1, b1⟩
end SN2
end
